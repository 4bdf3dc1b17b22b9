def f_X6_boiler (nv : (Nat → Int32)) (p0 : Int32) (p1 : Int32) : Int32 :=
  if p0 = nI 0 then
    if p1 = nI 0 then
      (nv 0)
    else
      if p1 = nI 1 then
        (nv 2)
      else
        if p1 = nI 2 then
          (nv 4)
        else
          if p1 = nI 3 then
            (nv 6)
          else
            if p1 = nI 4 then
              (nv 8)
            else
              (-2)
  else
    if p0 = nI 1 then
      if p1 = nI 0 then
        (nv 1)
      else
        if p1 = nI 1 then
          (nv 3)
        else
          if p1 = nI 2 then
            (nv 5)
          else
            if p1 = nI 3 then
              (nv 7)
            else
              if p1 = nI 4 then
                (nv 9)
              else
                (-2)
    else
      (-1)
set_option maxRecDepth 20000 in
theorem k_X6_boiler_f10 : Cond.fieldLink RX6 10 "SteamRations" "now" "LSteamRations$Laundry;" ∈ wsX6_boiler := by decide +kernel
set_option maxRecDepth 20000 in
theorem k_X6_boiler_f116 : Cond.fieldLink RX6 116 "SteamRations$Boiler" "fire" "I" ∈ wsX6_boiler := by decide +kernel
set_option maxRecDepth 20000 in
theorem k_X6_boiler_f121 : Cond.fieldLink RX6 121 "SteamRations$Boiler" "water" "I" ∈ wsX6_boiler := by decide +kernel
set_option maxRecDepth 20000 in
theorem k_X6_boiler_f124 : Cond.fieldLink RX6 124 "SteamRations$Boiler" "pressure" "I" ∈ wsX6_boiler := by decide +kernel
set_option maxRecDepth 20000 in
theorem k_X6_boiler_f127 : Cond.fieldLink RX6 127 "SteamRations$Boiler" "stopLeft" "I" ∈ wsX6_boiler := by decide +kernel
set_option maxRecDepth 20000 in
theorem k_X6_boiler_f130 : Cond.fieldLink RX6 130 "SteamRations$Boiler" "stops" "I" ∈ wsX6_boiler := by decide +kernel
set_option maxRecDepth 20000 in
theorem in_X6_boiler_RX0 : ∀ w ∈ u_ws RX0 TX0 5, w ∈ wsX6_boiler := by decide +kernel
set_option maxRecDepth 20000 in
theorem in_X6_boiler_RX6 : ∀ w ∈ u_ws RX6 TX6 10, w ∈ wsX6_boiler := by decide +kernel
theorem cd_X6_boiler : yX6_boiler.cls = RX6 ∧ yX6_boiler.cls ≠ "java/lang/invoke/MethodHandle" ∧ yX6_boiler.cls ≠ "java/lang/invoke/VarHandle" ∧ (parseMethodDescriptor yX6_boiler.desc).map (fun d => d.parameters.length) = some 2 := by decide +kernel
set_option maxHeartbeats 4000000 in
set_option maxRecDepth 100000 in
theorem c_X6_boiler (l : Launch) (G : GG) (h : Nat) (xn : Nat → Nat) (xb : Nat → Nat) (xe : Nat → Nat) (xt : Nat → Nat) (xz : Nat → Nat) (hh : Nat) (ht : Nat) (hs : Int32) (sn : Int32) (se : Int32) (nv : (Nat → Int32)) (nq : (Nat → Int32)) (sz : Nat) (p0 : Int32) (p1 : Int32)  : Met l yX6_boiler wsX6_boiler ({ frames := 1, cells := 0, slots := 0, locals := 21 }) (Pre G [.ref h, .int p0, .int p1] (SC h xn xb xe xt xz hh ht hs sn se ++ LC G xn nv nq) sz) (PI G (va_A (SC h xn xb xe xt xz hh ht hs sn se ++ LC G xn nv nq) sz) (fun r (_ : Unit) => f_X6_boiler nv p0 p1 = r) (fun _ : Unit => SC h xn xb xe xt xz hh ht hs sn se ++ LC G xn nv nq)) 0 0 (va_A (SC h xn xb xe xt xz hh ht hs sn se ++ LC G xn nv nq) sz) := by
  refine Met.walk (cc := cX6_boiler) (maxL := 4) (ret := (some .int)) (Qc := fun A => PI G A (fun r (_ : Unit) => f_X6_boiler nv p0 p1 = r) (fun _ : Unit => SC h xn xb xe xt xz hh ht hs sn se ++ LC G xn nv nq)) (by decide) rfl (Nat.le_of_ble_eq_true rfl) ?_
  intro p e s m below meth c A H C0 _ hK hsz hP hD hA hS ls hl
  have hx := C0.1
  have hb := C0.2.1
  have hown : s.vm.findClass RX6 = some m.cls := C0.2.2.2.2.1
  have hml := C0.2.2.2.1
  have hts : ∀ w ∈ wsX6_boiler, w.before [.ref h, .int p0, .int p1].toArray s = true := C0.2.2.2.2.2.1
  have hl : lv_has ls 4 [(0, .ref h), (1, .int p0), (2, .int p1)] := hl
  refine lv_aload_n hx hb dX6_boiler_0 rfl (lv_at hl 0 rfl) ?_
  refine va_get (D := G.1) (ci := 6) (v := .ref (xn 0)) (C := RX6) (T := TX6) (N := 10) hx hb hts in_X6_boiler_RX6 hown hK.1 hP 0 rfl rfl 0 (by decide) (hts _ k_X6_boiler_f10) (fun _ h9 => h9) rfl dX6_boiler_1 ?_
  refine lv_iload_n hx hb dX6_boiler_4 rfl (lv_at hl 1 rfl) ?_
  have hW : BW G A [SC h xn xb xe xt xz hh ht hs sn se, LC G xn nv nq] H := BW.of hP hD
  refine gcallB_Q (bc := [LC G xn nv nq]) (runB_V (As := [.int p0]) (rest := []) (bc := [LC G xn nv nq]) C0 hK hW (c_X2_boilerAt l G xn nv nq H.size p0) (cwV 1 hts gX6_boiler_X2_boilerAt rfl rfl rfl cd_X2_boilerAt ⟨Nat.le_of_ble_eq_true rfl, Nat.le_of_ble_eq_true rfl⟩) [1] rfl rfl rfl 1 0 rfl (ci := 2) rfl rfl rfl rfl hl.1 rfl (Nat.le_of_ble_eq_true rfl) dX6_boiler_5 ⟨Nat.le_of_ble_eq_true rfl, Nat.le_of_ble_eq_true rfl⟩) hW hS hA [1] rfl rfl rfl (fun _ => [LC G xn nv nq]) (fun _ => rfl) (fun _ => rfl) (fun r_1 _ H locs hw_1 hW hS => ?_)
  obtain ⟨hP, hD⟩ := hW.flat
  subst hw_1
  have hP : va_P G.1 vwCl (SC h xn xb xe xt xz hh ht hs sn se ++ LC G xn nv nq) H := hP
  have hD : va_D A (SC h xn xb xe xt xz hh ht hs sn se ++ LC G xn nv nq) := hD
  by_cases c_2 : p0 = nI 0
  · rw [show f_X2_boilerAt xn p0 = some (xn 2) from by (rw [c_2]; rfl)]
    refine W.eq (g2 := F0 m 8 ls ([.ref (xn 2)])) rfl ?_
    refine lv_astore_n (lv' := [(3, .ref (xn 2)), (0, .ref h), (1, .int p0), (2, .int p1)]) hx hb dX6_boiler_8 rfl hl (by decide) rfl (fun ls hl => ?_)
    refine lv_aload_n hx hb dX6_boiler_9 rfl (lv_at hl 0 rfl) ?_
    refine lv_ifnonnull (tgt := 15) hx hb dX6_boiler_10 (by decide) ?_
    refine lv_iload_n hx hb dX6_boiler_15 rfl (lv_at hl 3 rfl) ?_
    by_cases c_3 : p1 = nI 0
    · refine lv_tableIn (tgt := 52) hx hb dX6_boiler_16 (by rw [c_3]; decide +kernel) (by rw [c_3]; decide +kernel) (by rw [c_3]; rfl) (by decide) ?_
      refine lv_aload_n hx hb dX6_boiler_52 rfl (lv_at hl 0 rfl) ?_
      refine va_get (D := G.1) (ci := 0) (v := .int (nv 0)) (C := RX0) (T := TX0) (N := 5) hx hb hts in_X6_boiler_RX0 hown hK.1 hP 3 rfl rfl 0 (by decide) (hts _ k_X6_boiler_f116) (fun _ h9 => h9) rfl dX6_boiler_53 ?_
      exact end_I C0 hP hD hS () (by simp only [f_X6_boiler, if_pos c_2, if_pos c_3]) rfl dX6_boiler_56
    · by_cases c_4 : p1 = nI 1
      · refine lv_tableIn (tgt := 57) hx hb dX6_boiler_16 (by rw [c_4]; decide +kernel) (by rw [c_4]; decide +kernel) (by rw [c_4]; rfl) (by decide) ?_
        refine lv_aload_n hx hb dX6_boiler_57 rfl (lv_at hl 0 rfl) ?_
        refine va_get (D := G.1) (ci := 0) (v := .int (nv 2)) (C := RX0) (T := TX0) (N := 5) hx hb hts in_X6_boiler_RX0 hown hK.1 hP 3 rfl rfl 1 (by decide) (hts _ k_X6_boiler_f121) (fun _ h9 => h9) rfl dX6_boiler_58 ?_
        exact end_I C0 hP hD hS () (by simp only [f_X6_boiler, if_pos c_2, if_neg c_3, if_pos c_4]) rfl dX6_boiler_61
      · by_cases c_5 : p1 = nI 2
        · refine lv_tableIn (tgt := 62) hx hb dX6_boiler_16 (by rw [c_5]; decide +kernel) (by rw [c_5]; decide +kernel) (by rw [c_5]; rfl) (by decide) ?_
          refine lv_aload_n hx hb dX6_boiler_62 rfl (lv_at hl 0 rfl) ?_
          refine va_get (D := G.1) (ci := 0) (v := .int (nv 4)) (C := RX0) (T := TX0) (N := 5) hx hb hts in_X6_boiler_RX0 hown hK.1 hP 3 rfl rfl 2 (by decide) (hts _ k_X6_boiler_f124) (fun _ h9 => h9) rfl dX6_boiler_63 ?_
          exact end_I C0 hP hD hS () (by simp only [f_X6_boiler, if_pos c_2, if_neg c_3, if_neg c_4, if_pos c_5]) rfl dX6_boiler_66
        · by_cases c_6 : p1 = nI 3
          · refine lv_tableIn (tgt := 67) hx hb dX6_boiler_16 (by rw [c_6]; decide +kernel) (by rw [c_6]; decide +kernel) (by rw [c_6]; rfl) (by decide) ?_
            refine lv_aload_n hx hb dX6_boiler_67 rfl (lv_at hl 0 rfl) ?_
            refine va_get (D := G.1) (ci := 0) (v := .int (nv 6)) (C := RX0) (T := TX0) (N := 5) hx hb hts in_X6_boiler_RX0 hown hK.1 hP 3 rfl rfl 3 (by decide) (hts _ k_X6_boiler_f127) (fun _ h9 => h9) rfl dX6_boiler_68 ?_
            exact end_I C0 hP hD hS () (by simp only [f_X6_boiler, if_pos c_2, if_neg c_3, if_neg c_4, if_neg c_5, if_pos c_6]) rfl dX6_boiler_71
          · by_cases c_7 : p1 = nI 4
            · refine lv_tableIn (tgt := 72) hx hb dX6_boiler_16 (by rw [c_7]; decide +kernel) (by rw [c_7]; decide +kernel) (by rw [c_7]; rfl) (by decide) ?_
              refine lv_aload_n hx hb dX6_boiler_72 rfl (lv_at hl 0 rfl) ?_
              refine va_get (D := G.1) (ci := 0) (v := .int (nv 8)) (C := RX0) (T := TX0) (N := 5) hx hb hts in_X6_boiler_RX0 hown hK.1 hP 3 rfl rfl 4 (by decide) (hts _ k_X6_boiler_f130) (fun _ h9 => h9) rfl dX6_boiler_73 ?_
              exact end_I C0 hP hD hS () (by simp only [f_X6_boiler, if_pos c_2, if_neg c_3, if_neg c_4, if_neg c_5, if_neg c_6, if_pos c_7]) rfl dX6_boiler_76
            · have z_c_3 := lv_neT c_3 (show (nI 0).toInt = 0 from by decide +kernel)
              have z_c_4 := lv_neT c_4 (show (nI 1).toInt = 1 from by decide +kernel)
              have z_c_5 := lv_neT c_5 (show (nI 2).toInt = 2 from by decide +kernel)
              have z_c_6 := lv_neT c_6 (show (nI 3).toInt = 3 from by decide +kernel)
              have z_c_7 := lv_neT c_7 (show (nI 4).toInt = 4 from by decide +kernel)
              refine lv_tableOut (tgt := 77) hx hb dX6_boiler_16 (by omega) (by decide) ?_
              refine lv_bipush (v := (-2)) hx hb dX6_boiler_77 (by decide) ?_
              exact end_I C0 hP hD hS () (by simp only [f_X6_boiler, if_pos c_2, if_neg c_3, if_neg c_4, if_neg c_5, if_neg c_6, if_neg c_7]) rfl dX6_boiler_79
  · by_cases c_8 : p0 = nI 1
    · rw [show f_X2_boilerAt xn p0 = some (xn 3) from by (rw [c_8]; rfl)]
      refine W.eq (g2 := F0 m 8 ls ([.ref (xn 3)])) rfl ?_
      refine lv_astore_n (lv' := [(3, .ref (xn 3)), (0, .ref h), (1, .int p0), (2, .int p1)]) hx hb dX6_boiler_8 rfl hl (by decide) rfl (fun ls hl => ?_)
      refine lv_aload_n hx hb dX6_boiler_9 rfl (lv_at hl 0 rfl) ?_
      refine lv_ifnonnull (tgt := 15) hx hb dX6_boiler_10 (by decide) ?_
      refine lv_iload_n hx hb dX6_boiler_15 rfl (lv_at hl 3 rfl) ?_
      by_cases c_9 : p1 = nI 0
      · refine lv_tableIn (tgt := 52) hx hb dX6_boiler_16 (by rw [c_9]; decide +kernel) (by rw [c_9]; decide +kernel) (by rw [c_9]; rfl) (by decide) ?_
        refine lv_aload_n hx hb dX6_boiler_52 rfl (lv_at hl 0 rfl) ?_
        refine va_get (D := G.1) (ci := 0) (v := .int (nv 1)) (C := RX0) (T := TX0) (N := 5) hx hb hts in_X6_boiler_RX0 hown hK.1 hP 4 rfl rfl 0 (by decide) (hts _ k_X6_boiler_f116) (fun _ h9 => h9) rfl dX6_boiler_53 ?_
        exact end_I C0 hP hD hS () (by simp only [f_X6_boiler, if_neg c_2, if_pos c_8, if_pos c_9]) rfl dX6_boiler_56
      · by_cases c_10 : p1 = nI 1
        · refine lv_tableIn (tgt := 57) hx hb dX6_boiler_16 (by rw [c_10]; decide +kernel) (by rw [c_10]; decide +kernel) (by rw [c_10]; rfl) (by decide) ?_
          refine lv_aload_n hx hb dX6_boiler_57 rfl (lv_at hl 0 rfl) ?_
          refine va_get (D := G.1) (ci := 0) (v := .int (nv 3)) (C := RX0) (T := TX0) (N := 5) hx hb hts in_X6_boiler_RX0 hown hK.1 hP 4 rfl rfl 1 (by decide) (hts _ k_X6_boiler_f121) (fun _ h9 => h9) rfl dX6_boiler_58 ?_
          exact end_I C0 hP hD hS () (by simp only [f_X6_boiler, if_neg c_2, if_pos c_8, if_neg c_9, if_pos c_10]) rfl dX6_boiler_61
        · by_cases c_11 : p1 = nI 2
          · refine lv_tableIn (tgt := 62) hx hb dX6_boiler_16 (by rw [c_11]; decide +kernel) (by rw [c_11]; decide +kernel) (by rw [c_11]; rfl) (by decide) ?_
            refine lv_aload_n hx hb dX6_boiler_62 rfl (lv_at hl 0 rfl) ?_
            refine va_get (D := G.1) (ci := 0) (v := .int (nv 5)) (C := RX0) (T := TX0) (N := 5) hx hb hts in_X6_boiler_RX0 hown hK.1 hP 4 rfl rfl 2 (by decide) (hts _ k_X6_boiler_f124) (fun _ h9 => h9) rfl dX6_boiler_63 ?_
            exact end_I C0 hP hD hS () (by simp only [f_X6_boiler, if_neg c_2, if_pos c_8, if_neg c_9, if_neg c_10, if_pos c_11]) rfl dX6_boiler_66
          · by_cases c_12 : p1 = nI 3
            · refine lv_tableIn (tgt := 67) hx hb dX6_boiler_16 (by rw [c_12]; decide +kernel) (by rw [c_12]; decide +kernel) (by rw [c_12]; rfl) (by decide) ?_
              refine lv_aload_n hx hb dX6_boiler_67 rfl (lv_at hl 0 rfl) ?_
              refine va_get (D := G.1) (ci := 0) (v := .int (nv 7)) (C := RX0) (T := TX0) (N := 5) hx hb hts in_X6_boiler_RX0 hown hK.1 hP 4 rfl rfl 3 (by decide) (hts _ k_X6_boiler_f127) (fun _ h9 => h9) rfl dX6_boiler_68 ?_
              exact end_I C0 hP hD hS () (by simp only [f_X6_boiler, if_neg c_2, if_pos c_8, if_neg c_9, if_neg c_10, if_neg c_11, if_pos c_12]) rfl dX6_boiler_71
            · by_cases c_13 : p1 = nI 4
              · refine lv_tableIn (tgt := 72) hx hb dX6_boiler_16 (by rw [c_13]; decide +kernel) (by rw [c_13]; decide +kernel) (by rw [c_13]; rfl) (by decide) ?_
                refine lv_aload_n hx hb dX6_boiler_72 rfl (lv_at hl 0 rfl) ?_
                refine va_get (D := G.1) (ci := 0) (v := .int (nv 9)) (C := RX0) (T := TX0) (N := 5) hx hb hts in_X6_boiler_RX0 hown hK.1 hP 4 rfl rfl 4 (by decide) (hts _ k_X6_boiler_f130) (fun _ h9 => h9) rfl dX6_boiler_73 ?_
                exact end_I C0 hP hD hS () (by simp only [f_X6_boiler, if_neg c_2, if_pos c_8, if_neg c_9, if_neg c_10, if_neg c_11, if_neg c_12, if_pos c_13]) rfl dX6_boiler_76
              · have z_c_9 := lv_neT c_9 (show (nI 0).toInt = 0 from by decide +kernel)
                have z_c_10 := lv_neT c_10 (show (nI 1).toInt = 1 from by decide +kernel)
                have z_c_11 := lv_neT c_11 (show (nI 2).toInt = 2 from by decide +kernel)
                have z_c_12 := lv_neT c_12 (show (nI 3).toInt = 3 from by decide +kernel)
                have z_c_13 := lv_neT c_13 (show (nI 4).toInt = 4 from by decide +kernel)
                refine lv_tableOut (tgt := 77) hx hb dX6_boiler_16 (by omega) (by decide) ?_
                refine lv_bipush (v := (-2)) hx hb dX6_boiler_77 (by decide) ?_
                exact end_I C0 hP hD hS () (by simp only [f_X6_boiler, if_neg c_2, if_pos c_8, if_neg c_9, if_neg c_10, if_neg c_11, if_neg c_12, if_neg c_13]) rfl dX6_boiler_79
    · rw [show f_X2_boilerAt xn p0 = none from by (exact f_X2_boilerAt_none c_2 c_8)]
      refine W.eq (g2 := F0 m 8 ls ([.null])) rfl ?_
      refine lv_astore_nN (lv' := [(3, .null), (0, .ref h), (1, .int p0), (2, .int p1)]) hx hb dX6_boiler_8 rfl hl (by decide) rfl (fun ls hl => ?_)
      refine lv_aload_nN hx hb dX6_boiler_9 rfl (lv_at hl 0 rfl) ?_
      refine lv_ifnonnullN hx hb dX6_boiler_10 ?_
      refine lv_iconst (v := (-1)) hx hb dX6_boiler_13 (by decide) ?_
      exact end_I C0 hP hD hS () (by simp only [f_X6_boiler, if_neg c_2, if_neg c_8]) rfl dX6_boiler_14

def f_X6_machine (nv : (Nat → Int32)) (p0 : Int32) (p1 : Int32) : Int32 :=
  if p0 = nI 0 then
    if p1 = nI 0 then
      (nv 13)
    else
      if p1 = nI 1 then
        (nv 17)
      else
        if p1 = nI 2 then
          (nv 21)
        else
          (-2)
  else
    if p0 = nI 1 then
      if p1 = nI 0 then
        (nv 14)
      else
        if p1 = nI 1 then
          (nv 18)
        else
          if p1 = nI 2 then
            (nv 22)
          else
            (-2)
    else
      if p0 = nI 2 then
        if p1 = nI 0 then
          (nv 15)
        else
          if p1 = nI 1 then
            (nv 19)
          else
            if p1 = nI 2 then
              (nv 23)
            else
              (-2)
      else
        if p0 = nI 3 then
          if p1 = nI 0 then
            (nv 16)
          else
            if p1 = nI 1 then
              (nv 20)
            else
              if p1 = nI 2 then
                (nv 24)
              else
                (-2)
        else
          (-1)
set_option maxRecDepth 20000 in
theorem k_X6_machine_f10 : Cond.fieldLink RX6 10 "SteamRations" "now" "LSteamRations$Laundry;" ∈ wsX6_machine := by decide +kernel
set_option maxRecDepth 20000 in
theorem k_X6_machine_f137 : Cond.fieldLink RX6 137 "SteamRations$Machine" "kind" "I" ∈ wsX6_machine := by decide +kernel
set_option maxRecDepth 20000 in
theorem k_X6_machine_f142 : Cond.fieldLink RX6 142 "SteamRations$Machine" "left" "I" ∈ wsX6_machine := by decide +kernel
set_option maxRecDepth 20000 in
theorem k_X6_machine_f145 : Cond.fieldLink RX6 145 "SteamRations$Machine" "waits" "I" ∈ wsX6_machine := by decide +kernel
set_option maxRecDepth 20000 in
theorem in_X6_machine_RX3 : ∀ w ∈ u_ws RX3 TX3 3, w ∈ wsX6_machine := by decide +kernel
set_option maxRecDepth 20000 in
theorem in_X6_machine_RX6 : ∀ w ∈ u_ws RX6 TX6 10, w ∈ wsX6_machine := by decide +kernel
theorem cd_X6_machine : yX6_machine.cls = RX6 ∧ yX6_machine.cls ≠ "java/lang/invoke/MethodHandle" ∧ yX6_machine.cls ≠ "java/lang/invoke/VarHandle" ∧ (parseMethodDescriptor yX6_machine.desc).map (fun d => d.parameters.length) = some 2 := by decide +kernel
set_option maxHeartbeats 4000000 in
set_option maxRecDepth 100000 in
theorem c_X6_machine (l : Launch) (G : GG) (h : Nat) (xn : Nat → Nat) (xb : Nat → Nat) (xe : Nat → Nat) (xt : Nat → Nat) (xz : Nat → Nat) (hh : Nat) (ht : Nat) (hs : Int32) (sn : Int32) (se : Int32) (nv : (Nat → Int32)) (nq : (Nat → Int32)) (sz : Nat) (p0 : Int32) (p1 : Int32)  : Met l yX6_machine wsX6_machine ({ frames := 1, cells := 0, slots := 0, locals := 21 }) (Pre G [.ref h, .int p0, .int p1] (SC h xn xb xe xt xz hh ht hs sn se ++ LC G xn nv nq) sz) (PI G (va_A (SC h xn xb xe xt xz hh ht hs sn se ++ LC G xn nv nq) sz) (fun r (_ : Unit) => f_X6_machine nv p0 p1 = r) (fun _ : Unit => SC h xn xb xe xt xz hh ht hs sn se ++ LC G xn nv nq)) 0 0 (va_A (SC h xn xb xe xt xz hh ht hs sn se ++ LC G xn nv nq) sz) := by
  refine Met.walk (cc := cX6_machine) (maxL := 4) (ret := (some .int)) (Qc := fun A => PI G A (fun r (_ : Unit) => f_X6_machine nv p0 p1 = r) (fun _ : Unit => SC h xn xb xe xt xz hh ht hs sn se ++ LC G xn nv nq)) (by decide) rfl (Nat.le_of_ble_eq_true rfl) ?_
  intro p e s m below meth c A H C0 _ hK hsz hP hD hA hS ls hl
  have hx := C0.1
  have hb := C0.2.1
  have hown : s.vm.findClass RX6 = some m.cls := C0.2.2.2.2.1
  have hml := C0.2.2.2.1
  have hts : ∀ w ∈ wsX6_machine, w.before [.ref h, .int p0, .int p1].toArray s = true := C0.2.2.2.2.2.1
  have hl : lv_has ls 4 [(0, .ref h), (1, .int p0), (2, .int p1)] := hl
  refine lv_aload_n hx hb dX6_machine_0 rfl (lv_at hl 0 rfl) ?_
  refine va_get (D := G.1) (ci := 6) (v := .ref (xn 0)) (C := RX6) (T := TX6) (N := 10) hx hb hts in_X6_machine_RX6 hown hK.1 hP 0 rfl rfl 0 (by decide) (hts _ k_X6_machine_f10) (fun _ h9 => h9) rfl dX6_machine_1 ?_
  refine lv_iload_n hx hb dX6_machine_4 rfl (lv_at hl 1 rfl) ?_
  have hW : BW G A [SC h xn xb xe xt xz hh ht hs sn se, LC G xn nv nq] H := BW.of hP hD
  refine gcallB_Q (bc := [LC G xn nv nq]) (runB_V (As := [.int p0]) (rest := []) (bc := [LC G xn nv nq]) C0 hK hW (c_X2_machineAt l G xn nv nq H.size p0) (cwV 1 hts gX6_machine_X2_machineAt rfl rfl rfl cd_X2_machineAt ⟨Nat.le_of_ble_eq_true rfl, Nat.le_of_ble_eq_true rfl⟩) [1] rfl rfl rfl 1 0 rfl (ci := 2) rfl rfl rfl rfl hl.1 rfl (Nat.le_of_ble_eq_true rfl) dX6_machine_5 ⟨Nat.le_of_ble_eq_true rfl, Nat.le_of_ble_eq_true rfl⟩) hW hS hA [1] rfl rfl rfl (fun _ => [LC G xn nv nq]) (fun _ => rfl) (fun _ => rfl) (fun r_1 _ H locs hw_1 hW hS => ?_)
  obtain ⟨hP, hD⟩ := hW.flat
  subst hw_1
  have hP : va_P G.1 vwCl (SC h xn xb xe xt xz hh ht hs sn se ++ LC G xn nv nq) H := hP
  have hD : va_D A (SC h xn xb xe xt xz hh ht hs sn se ++ LC G xn nv nq) := hD
  by_cases c_2 : p0 = nI 0
  · rw [show f_X2_machineAt xn p0 = some (xn 5) from by (rw [c_2]; rfl)]
    refine W.eq (g2 := F0 m 8 ls ([.ref (xn 5)])) rfl ?_
    refine lv_astore_n (lv' := [(3, .ref (xn 5)), (0, .ref h), (1, .int p0), (2, .int p1)]) hx hb dX6_machine_8 rfl hl (by decide) rfl (fun ls hl => ?_)
    refine lv_aload_n hx hb dX6_machine_9 rfl (lv_at hl 0 rfl) ?_
    refine lv_ifnonnull (tgt := 15) hx hb dX6_machine_10 (by decide) ?_
    refine lv_iload_n hx hb dX6_machine_15 rfl (lv_at hl 3 rfl) ?_
    by_cases c_3 : p1 = nI 0
    · refine lv_tableIn (tgt := 44) hx hb dX6_machine_16 (by rw [c_3]; decide +kernel) (by rw [c_3]; decide +kernel) (by rw [c_3]; rfl) (by decide) ?_
      refine lv_aload_n hx hb dX6_machine_44 rfl (lv_at hl 0 rfl) ?_
      refine va_get (D := G.1) (ci := 3) (v := .int (nv 13)) (C := RX3) (T := TX3) (N := 3) hx hb hts in_X6_machine_RX3 hown hK.1 hP 6 rfl rfl 0 (by decide) (hts _ k_X6_machine_f137) (fun _ h9 => h9) rfl dX6_machine_45 ?_
      exact end_I C0 hP hD hS () (by simp only [f_X6_machine, if_pos c_2, if_pos c_3]) rfl dX6_machine_48
    · by_cases c_4 : p1 = nI 1
      · refine lv_tableIn (tgt := 49) hx hb dX6_machine_16 (by rw [c_4]; decide +kernel) (by rw [c_4]; decide +kernel) (by rw [c_4]; rfl) (by decide) ?_
        refine lv_aload_n hx hb dX6_machine_49 rfl (lv_at hl 0 rfl) ?_
        refine va_get (D := G.1) (ci := 3) (v := .int (nv 17)) (C := RX3) (T := TX3) (N := 3) hx hb hts in_X6_machine_RX3 hown hK.1 hP 6 rfl rfl 1 (by decide) (hts _ k_X6_machine_f142) (fun _ h9 => h9) rfl dX6_machine_50 ?_
        exact end_I C0 hP hD hS () (by simp only [f_X6_machine, if_pos c_2, if_neg c_3, if_pos c_4]) rfl dX6_machine_53
      · by_cases c_5 : p1 = nI 2
        · refine lv_tableIn (tgt := 54) hx hb dX6_machine_16 (by rw [c_5]; decide +kernel) (by rw [c_5]; decide +kernel) (by rw [c_5]; rfl) (by decide) ?_
          refine lv_aload_n hx hb dX6_machine_54 rfl (lv_at hl 0 rfl) ?_
          refine va_get (D := G.1) (ci := 3) (v := .int (nv 21)) (C := RX3) (T := TX3) (N := 3) hx hb hts in_X6_machine_RX3 hown hK.1 hP 6 rfl rfl 2 (by decide) (hts _ k_X6_machine_f145) (fun _ h9 => h9) rfl dX6_machine_55 ?_
          exact end_I C0 hP hD hS () (by simp only [f_X6_machine, if_pos c_2, if_neg c_3, if_neg c_4, if_pos c_5]) rfl dX6_machine_58
        · have z_c_3 := lv_neT c_3 (show (nI 0).toInt = 0 from by decide +kernel)
          have z_c_4 := lv_neT c_4 (show (nI 1).toInt = 1 from by decide +kernel)
          have z_c_5 := lv_neT c_5 (show (nI 2).toInt = 2 from by decide +kernel)
          refine lv_tableOut (tgt := 59) hx hb dX6_machine_16 (by omega) (by decide) ?_
          refine lv_bipush (v := (-2)) hx hb dX6_machine_59 (by decide) ?_
          exact end_I C0 hP hD hS () (by simp only [f_X6_machine, if_pos c_2, if_neg c_3, if_neg c_4, if_neg c_5]) rfl dX6_machine_61
  · by_cases c_6 : p0 = nI 1
    · rw [show f_X2_machineAt xn p0 = some (xn 6) from by (rw [c_6]; rfl)]
      refine W.eq (g2 := F0 m 8 ls ([.ref (xn 6)])) rfl ?_
      refine lv_astore_n (lv' := [(3, .ref (xn 6)), (0, .ref h), (1, .int p0), (2, .int p1)]) hx hb dX6_machine_8 rfl hl (by decide) rfl (fun ls hl => ?_)
      refine lv_aload_n hx hb dX6_machine_9 rfl (lv_at hl 0 rfl) ?_
      refine lv_ifnonnull (tgt := 15) hx hb dX6_machine_10 (by decide) ?_
      refine lv_iload_n hx hb dX6_machine_15 rfl (lv_at hl 3 rfl) ?_
      by_cases c_7 : p1 = nI 0
      · refine lv_tableIn (tgt := 44) hx hb dX6_machine_16 (by rw [c_7]; decide +kernel) (by rw [c_7]; decide +kernel) (by rw [c_7]; rfl) (by decide) ?_
        refine lv_aload_n hx hb dX6_machine_44 rfl (lv_at hl 0 rfl) ?_
        refine va_get (D := G.1) (ci := 3) (v := .int (nv 14)) (C := RX3) (T := TX3) (N := 3) hx hb hts in_X6_machine_RX3 hown hK.1 hP 7 rfl rfl 0 (by decide) (hts _ k_X6_machine_f137) (fun _ h9 => h9) rfl dX6_machine_45 ?_
        exact end_I C0 hP hD hS () (by simp only [f_X6_machine, if_neg c_2, if_pos c_6, if_pos c_7]) rfl dX6_machine_48
      · by_cases c_8 : p1 = nI 1
        · refine lv_tableIn (tgt := 49) hx hb dX6_machine_16 (by rw [c_8]; decide +kernel) (by rw [c_8]; decide +kernel) (by rw [c_8]; rfl) (by decide) ?_
          refine lv_aload_n hx hb dX6_machine_49 rfl (lv_at hl 0 rfl) ?_
          refine va_get (D := G.1) (ci := 3) (v := .int (nv 18)) (C := RX3) (T := TX3) (N := 3) hx hb hts in_X6_machine_RX3 hown hK.1 hP 7 rfl rfl 1 (by decide) (hts _ k_X6_machine_f142) (fun _ h9 => h9) rfl dX6_machine_50 ?_
          exact end_I C0 hP hD hS () (by simp only [f_X6_machine, if_neg c_2, if_pos c_6, if_neg c_7, if_pos c_8]) rfl dX6_machine_53
        · by_cases c_9 : p1 = nI 2
          · refine lv_tableIn (tgt := 54) hx hb dX6_machine_16 (by rw [c_9]; decide +kernel) (by rw [c_9]; decide +kernel) (by rw [c_9]; rfl) (by decide) ?_
            refine lv_aload_n hx hb dX6_machine_54 rfl (lv_at hl 0 rfl) ?_
            refine va_get (D := G.1) (ci := 3) (v := .int (nv 22)) (C := RX3) (T := TX3) (N := 3) hx hb hts in_X6_machine_RX3 hown hK.1 hP 7 rfl rfl 2 (by decide) (hts _ k_X6_machine_f145) (fun _ h9 => h9) rfl dX6_machine_55 ?_
            exact end_I C0 hP hD hS () (by simp only [f_X6_machine, if_neg c_2, if_pos c_6, if_neg c_7, if_neg c_8, if_pos c_9]) rfl dX6_machine_58
          · have z_c_7 := lv_neT c_7 (show (nI 0).toInt = 0 from by decide +kernel)
            have z_c_8 := lv_neT c_8 (show (nI 1).toInt = 1 from by decide +kernel)
            have z_c_9 := lv_neT c_9 (show (nI 2).toInt = 2 from by decide +kernel)
            refine lv_tableOut (tgt := 59) hx hb dX6_machine_16 (by omega) (by decide) ?_
            refine lv_bipush (v := (-2)) hx hb dX6_machine_59 (by decide) ?_
            exact end_I C0 hP hD hS () (by simp only [f_X6_machine, if_neg c_2, if_pos c_6, if_neg c_7, if_neg c_8, if_neg c_9]) rfl dX6_machine_61
    · by_cases c_10 : p0 = nI 2
      · rw [show f_X2_machineAt xn p0 = some (xn 7) from by (rw [c_10]; rfl)]
        refine W.eq (g2 := F0 m 8 ls ([.ref (xn 7)])) rfl ?_
        refine lv_astore_n (lv' := [(3, .ref (xn 7)), (0, .ref h), (1, .int p0), (2, .int p1)]) hx hb dX6_machine_8 rfl hl (by decide) rfl (fun ls hl => ?_)
        refine lv_aload_n hx hb dX6_machine_9 rfl (lv_at hl 0 rfl) ?_
        refine lv_ifnonnull (tgt := 15) hx hb dX6_machine_10 (by decide) ?_
        refine lv_iload_n hx hb dX6_machine_15 rfl (lv_at hl 3 rfl) ?_
        by_cases c_11 : p1 = nI 0
        · refine lv_tableIn (tgt := 44) hx hb dX6_machine_16 (by rw [c_11]; decide +kernel) (by rw [c_11]; decide +kernel) (by rw [c_11]; rfl) (by decide) ?_
          refine lv_aload_n hx hb dX6_machine_44 rfl (lv_at hl 0 rfl) ?_
          refine va_get (D := G.1) (ci := 3) (v := .int (nv 15)) (C := RX3) (T := TX3) (N := 3) hx hb hts in_X6_machine_RX3 hown hK.1 hP 8 rfl rfl 0 (by decide) (hts _ k_X6_machine_f137) (fun _ h9 => h9) rfl dX6_machine_45 ?_
          exact end_I C0 hP hD hS () (by simp only [f_X6_machine, if_neg c_2, if_neg c_6, if_pos c_10, if_pos c_11]) rfl dX6_machine_48
        · by_cases c_12 : p1 = nI 1
          · refine lv_tableIn (tgt := 49) hx hb dX6_machine_16 (by rw [c_12]; decide +kernel) (by rw [c_12]; decide +kernel) (by rw [c_12]; rfl) (by decide) ?_
            refine lv_aload_n hx hb dX6_machine_49 rfl (lv_at hl 0 rfl) ?_
            refine va_get (D := G.1) (ci := 3) (v := .int (nv 19)) (C := RX3) (T := TX3) (N := 3) hx hb hts in_X6_machine_RX3 hown hK.1 hP 8 rfl rfl 1 (by decide) (hts _ k_X6_machine_f142) (fun _ h9 => h9) rfl dX6_machine_50 ?_
            exact end_I C0 hP hD hS () (by simp only [f_X6_machine, if_neg c_2, if_neg c_6, if_pos c_10, if_neg c_11, if_pos c_12]) rfl dX6_machine_53
          · by_cases c_13 : p1 = nI 2
            · refine lv_tableIn (tgt := 54) hx hb dX6_machine_16 (by rw [c_13]; decide +kernel) (by rw [c_13]; decide +kernel) (by rw [c_13]; rfl) (by decide) ?_
              refine lv_aload_n hx hb dX6_machine_54 rfl (lv_at hl 0 rfl) ?_
              refine va_get (D := G.1) (ci := 3) (v := .int (nv 23)) (C := RX3) (T := TX3) (N := 3) hx hb hts in_X6_machine_RX3 hown hK.1 hP 8 rfl rfl 2 (by decide) (hts _ k_X6_machine_f145) (fun _ h9 => h9) rfl dX6_machine_55 ?_
              exact end_I C0 hP hD hS () (by simp only [f_X6_machine, if_neg c_2, if_neg c_6, if_pos c_10, if_neg c_11, if_neg c_12, if_pos c_13]) rfl dX6_machine_58
            · have z_c_11 := lv_neT c_11 (show (nI 0).toInt = 0 from by decide +kernel)
              have z_c_12 := lv_neT c_12 (show (nI 1).toInt = 1 from by decide +kernel)
              have z_c_13 := lv_neT c_13 (show (nI 2).toInt = 2 from by decide +kernel)
              refine lv_tableOut (tgt := 59) hx hb dX6_machine_16 (by omega) (by decide) ?_
              refine lv_bipush (v := (-2)) hx hb dX6_machine_59 (by decide) ?_
              exact end_I C0 hP hD hS () (by simp only [f_X6_machine, if_neg c_2, if_neg c_6, if_pos c_10, if_neg c_11, if_neg c_12, if_neg c_13]) rfl dX6_machine_61
      · by_cases c_14 : p0 = nI 3
        · rw [show f_X2_machineAt xn p0 = some (xn 8) from by (rw [c_14]; rfl)]
          refine W.eq (g2 := F0 m 8 ls ([.ref (xn 8)])) rfl ?_
          refine lv_astore_n (lv' := [(3, .ref (xn 8)), (0, .ref h), (1, .int p0), (2, .int p1)]) hx hb dX6_machine_8 rfl hl (by decide) rfl (fun ls hl => ?_)
          refine lv_aload_n hx hb dX6_machine_9 rfl (lv_at hl 0 rfl) ?_
          refine lv_ifnonnull (tgt := 15) hx hb dX6_machine_10 (by decide) ?_
          refine lv_iload_n hx hb dX6_machine_15 rfl (lv_at hl 3 rfl) ?_
          by_cases c_15 : p1 = nI 0
          · refine lv_tableIn (tgt := 44) hx hb dX6_machine_16 (by rw [c_15]; decide +kernel) (by rw [c_15]; decide +kernel) (by rw [c_15]; rfl) (by decide) ?_
            refine lv_aload_n hx hb dX6_machine_44 rfl (lv_at hl 0 rfl) ?_
            refine va_get (D := G.1) (ci := 3) (v := .int (nv 16)) (C := RX3) (T := TX3) (N := 3) hx hb hts in_X6_machine_RX3 hown hK.1 hP 9 rfl rfl 0 (by decide) (hts _ k_X6_machine_f137) (fun _ h9 => h9) rfl dX6_machine_45 ?_
            exact end_I C0 hP hD hS () (by simp only [f_X6_machine, if_neg c_2, if_neg c_6, if_neg c_10, if_pos c_14, if_pos c_15]) rfl dX6_machine_48
          · by_cases c_16 : p1 = nI 1
            · refine lv_tableIn (tgt := 49) hx hb dX6_machine_16 (by rw [c_16]; decide +kernel) (by rw [c_16]; decide +kernel) (by rw [c_16]; rfl) (by decide) ?_
              refine lv_aload_n hx hb dX6_machine_49 rfl (lv_at hl 0 rfl) ?_
              refine va_get (D := G.1) (ci := 3) (v := .int (nv 20)) (C := RX3) (T := TX3) (N := 3) hx hb hts in_X6_machine_RX3 hown hK.1 hP 9 rfl rfl 1 (by decide) (hts _ k_X6_machine_f142) (fun _ h9 => h9) rfl dX6_machine_50 ?_
              exact end_I C0 hP hD hS () (by simp only [f_X6_machine, if_neg c_2, if_neg c_6, if_neg c_10, if_pos c_14, if_neg c_15, if_pos c_16]) rfl dX6_machine_53
            · by_cases c_17 : p1 = nI 2
              · refine lv_tableIn (tgt := 54) hx hb dX6_machine_16 (by rw [c_17]; decide +kernel) (by rw [c_17]; decide +kernel) (by rw [c_17]; rfl) (by decide) ?_
                refine lv_aload_n hx hb dX6_machine_54 rfl (lv_at hl 0 rfl) ?_
                refine va_get (D := G.1) (ci := 3) (v := .int (nv 24)) (C := RX3) (T := TX3) (N := 3) hx hb hts in_X6_machine_RX3 hown hK.1 hP 9 rfl rfl 2 (by decide) (hts _ k_X6_machine_f145) (fun _ h9 => h9) rfl dX6_machine_55 ?_
                exact end_I C0 hP hD hS () (by simp only [f_X6_machine, if_neg c_2, if_neg c_6, if_neg c_10, if_pos c_14, if_neg c_15, if_neg c_16, if_pos c_17]) rfl dX6_machine_58
              · have z_c_15 := lv_neT c_15 (show (nI 0).toInt = 0 from by decide +kernel)
                have z_c_16 := lv_neT c_16 (show (nI 1).toInt = 1 from by decide +kernel)
                have z_c_17 := lv_neT c_17 (show (nI 2).toInt = 2 from by decide +kernel)
                refine lv_tableOut (tgt := 59) hx hb dX6_machine_16 (by omega) (by decide) ?_
                refine lv_bipush (v := (-2)) hx hb dX6_machine_59 (by decide) ?_
                exact end_I C0 hP hD hS () (by simp only [f_X6_machine, if_neg c_2, if_neg c_6, if_neg c_10, if_pos c_14, if_neg c_15, if_neg c_16, if_neg c_17]) rfl dX6_machine_61
        · rw [show f_X2_machineAt xn p0 = none from by (exact f_X2_machineAt_none c_2 c_6 c_10 c_14)]
          refine W.eq (g2 := F0 m 8 ls ([.null])) rfl ?_
          refine lv_astore_nN (lv' := [(3, .null), (0, .ref h), (1, .int p0), (2, .int p1)]) hx hb dX6_machine_8 rfl hl (by decide) rfl (fun ls hl => ?_)
          refine lv_aload_nN hx hb dX6_machine_9 rfl (lv_at hl 0 rfl) ?_
          refine lv_ifnonnullN hx hb dX6_machine_10 ?_
          refine lv_iconst (v := (-1)) hx hb dX6_machine_13 (by decide) ?_
          exact end_I C0 hP hD hS () (by simp only [f_X6_machine, if_neg c_2, if_neg c_6, if_neg c_10, if_neg c_14]) rfl dX6_machine_14

def f_X6_line (nv : (Nat → Int32)) (nq : (Nat → Int32)) (p0 : Int32) : Int32 :=
  if 0 ≤ p0 then
    (f_X5_kindAt (nv 25) nq p0)
  else
    (-2)
set_option maxRecDepth 20000 in
theorem k_X6_line_f10 : Cond.fieldLink RX6 10 "SteamRations" "now" "LSteamRations$Laundry;" ∈ wsX6_line := by decide +kernel
set_option maxRecDepth 20000 in
theorem k_X6_line_f148 : Cond.fieldLink RX6 148 "SteamRations$Laundry" "waiting" "LSteamRations$WaitingLine;" ∈ wsX6_line := by decide +kernel
set_option maxRecDepth 20000 in
theorem in_X6_line_RX2 : ∀ w ∈ u_ws RX2 TX2 14, w ∈ wsX6_line := by decide +kernel
set_option maxRecDepth 20000 in
theorem in_X6_line_RX6 : ∀ w ∈ u_ws RX6 TX6 10, w ∈ wsX6_line := by decide +kernel
theorem cd_X6_line : yX6_line.cls = RX6 ∧ yX6_line.cls ≠ "java/lang/invoke/MethodHandle" ∧ yX6_line.cls ≠ "java/lang/invoke/VarHandle" ∧ (parseMethodDescriptor yX6_line.desc).map (fun d => d.parameters.length) = some 1 := by decide +kernel
set_option maxHeartbeats 4000000 in
set_option maxRecDepth 100000 in
theorem c_X6_line (l : Launch) (G : GG) (h : Nat) (xn : Nat → Nat) (xb : Nat → Nat) (xe : Nat → Nat) (xt : Nat → Nat) (xz : Nat → Nat) (hh : Nat) (ht : Nat) (hs : Int32) (sn : Int32) (se : Int32) (nv : (Nat → Int32)) (nq : (Nat → Int32)) (sz : Nat) (p0 : Int32)  : Met l yX6_line wsX6_line ({ frames := 1, cells := 0, slots := 0, locals := 21 }) (Pre G [.ref h, .int p0] (SC h xn xb xe xt xz hh ht hs sn se ++ LC G xn nv nq) sz) (PI G (va_A (SC h xn xb xe xt xz hh ht hs sn se ++ LC G xn nv nq) sz) (fun r (_ : Unit) => f_X6_line nv nq p0 = r) (fun _ : Unit => SC h xn xb xe xt xz hh ht hs sn se ++ LC G xn nv nq)) 0 0 (va_A (SC h xn xb xe xt xz hh ht hs sn se ++ LC G xn nv nq) sz) := by
  refine Met.walk (cc := cX6_line) (maxL := 2) (ret := (some .int)) (Qc := fun A => PI G A (fun r (_ : Unit) => f_X6_line nv nq p0 = r) (fun _ : Unit => SC h xn xb xe xt xz hh ht hs sn se ++ LC G xn nv nq)) (by decide) rfl (Nat.le_of_ble_eq_true rfl) ?_
  intro p e s m below meth c A H C0 _ hK hsz hP hD hA hS ls hl
  have hx := C0.1
  have hb := C0.2.1
  have hown : s.vm.findClass RX6 = some m.cls := C0.2.2.2.2.1
  have hml := C0.2.2.2.1
  have hts : ∀ w ∈ wsX6_line, w.before [.ref h, .int p0].toArray s = true := C0.2.2.2.2.2.1
  have hl : lv_has ls 2 [(0, .ref h), (1, .int p0)] := hl
  refine lv_iload_n hx hb dX6_line_0 rfl (lv_at hl 1 rfl) ?_
  refine lv_if_ge (tgt := 9) hx hb dX6_line_1 (by decide) (fun c_1 => ?_) (fun c_1 => ?_)
  · refine lv_aload_n hx hb dX6_line_9 rfl (lv_at hl 0 rfl) ?_
    refine va_get (D := G.1) (ci := 6) (v := .ref (xn 0)) (C := RX6) (T := TX6) (N := 10) hx hb hts in_X6_line_RX6 hown hK.1 hP 0 rfl rfl 0 (by decide) (hts _ k_X6_line_f10) (fun _ h9 => h9) rfl dX6_line_10 ?_
    refine va_get (D := G.1) (ci := 2) (v := .ref (xn 9)) (C := RX2) (T := TX2) (N := 14) hx hb hts in_X6_line_RX2 hown hK.1 hP 1 rfl rfl 2 (by decide) (hts _ k_X6_line_f148) (fun _ h9 => h9) rfl dX6_line_13 ?_
    refine lv_iload_n hx hb dX6_line_16 rfl (lv_at hl 1 rfl) ?_
    refine gcall_I (run_V (As := [.int p0]) (rest := []) C0 hK hP hD (c_X5_kindAt l G (xn 9) (xn 10) (nv 25) nq H.size p0) (cwV 1 hts gX6_line_X5_kindAt rfl rfl rfl cd_X5_kindAt ⟨Nat.le_of_ble_eq_true rfl, Nat.le_of_ble_eq_true rfl⟩) [10, 11] rfl rfl 10 (ci := 5) rfl rfl rfl rfl hl.1 rfl (Nat.le_of_ble_eq_true rfl) dX6_line_17 ⟨Nat.le_of_ble_eq_true rfl, Nat.le_of_ble_eq_true rfl⟩) hP hD hS hA [10, 11] rfl rfl (fun _ => rfl) (fun r_2 _ H locs hw_2 hP hD hS => ?_)
    subst hw_2
    have hP : va_P G.1 vwCl (SC h xn xb xe xt xz hh ht hs sn se ++ LC G xn nv nq) H := hP
    have hD : va_D A (SC h xn xb xe xt xz hh ht hs sn se ++ LC G xn nv nq) := hD
    exact end_I C0 hP hD hS () (by simp only [f_X6_line, if_pos c_1]) rfl dX6_line_20
  · refine lv_bipush (v := (-2)) hx hb dX6_line_4 (by decide) ?_
    refine lv_goto (tgt := 20) hx hb dX6_line_6 (by decide) ?_
    exact end_I C0 hP hD hS () (by simp only [f_X6_line, if_neg c_1]) rfl dX6_line_20

def f_X6_reason (nv : (Nat → Int32)) (nq : (Nat → Int32)) (yv : (Nat → Int32)) (yq : (Nat → Int32)) (p0 : Int32) : Int32 × (Nat → Int32) × (Nat → Int32) :=
  if (f_X6_isWithin p0 (nI 0) (nI 2)) = 0 then
    ((-1), yv, yq)
  else
    match f_X2_reasonAgainst nv nq yv yq p0 with
    | (r_3, ov_c3, oq_c3) =>
      (r_3, ov_c3, oq_c3)
set_option maxRecDepth 20000 in
theorem k_X6_reason_f10 : Cond.fieldLink RX6 10 "SteamRations" "now" "LSteamRations$Laundry;" ∈ wsX6_reason := by decide +kernel
set_option maxRecDepth 20000 in
theorem k_X6_reason_f22 : Cond.fieldLink RX6 22 "SteamRations" "trial" "LSteamRations$Laundry;" ∈ wsX6_reason := by decide +kernel
set_option maxRecDepth 20000 in
theorem in_X6_reason_RX6 : ∀ w ∈ u_ws RX6 TX6 10, w ∈ wsX6_reason := by decide +kernel
theorem cd_X6_reason : yX6_reason.cls = RX6 ∧ yX6_reason.cls ≠ "java/lang/invoke/MethodHandle" ∧ yX6_reason.cls ≠ "java/lang/invoke/VarHandle" ∧ (parseMethodDescriptor yX6_reason.desc).map (fun d => d.parameters.length) = some 1 := by decide +kernel
set_option maxHeartbeats 4000000 in
set_option maxRecDepth 100000 in
theorem c_X6_reason (l : Launch) (G : GG) (h : Nat) (xn : Nat → Nat) (xb : Nat → Nat) (xe : Nat → Nat) (xt : Nat → Nat) (xz : Nat → Nat) (hh : Nat) (ht : Nat) (hs : Int32) (sn : Int32) (se : Int32) (nv : (Nat → Int32)) (nq : (Nat → Int32)) (yv : (Nat → Int32)) (yq : (Nat → Int32)) (sz : Nat) (p0 : Int32)  : Met l yX6_reason wsX6_reason ({ frames := 4, cells := 0, slots := 0, locals := 112 }) (Pre G [.ref h, .int p0] (SC h xn xb xe xt xz hh ht hs sn se ++ LC G xn nv nq ++ LC G xt yv yq) sz) (PI G (va_A (SC h xn xb xe xt xz hh ht hs sn se ++ LC G xn nv nq ++ LC G xt yv yq) sz) (fun r (u : (Nat → Int32) × (Nat → Int32)) => f_X6_reason nv nq yv yq p0 = (r, u)) (fun u : (Nat → Int32) × (Nat → Int32) => SC h xn xb xe xt xz hh ht hs sn se ++ LC G xn nv nq ++ LC G xt u.1 u.2)) 0 0 (va_A (SC h xn xb xe xt xz hh ht hs sn se ++ LC G xn nv nq ++ LC G xt yv yq) sz) := by
  refine Met.walk (cc := cX6_reason) (maxL := 2) (ret := (some .int)) (Qc := fun A => PI G A (fun r (u : (Nat → Int32) × (Nat → Int32)) => f_X6_reason nv nq yv yq p0 = (r, u)) (fun u : (Nat → Int32) × (Nat → Int32) => SC h xn xb xe xt xz hh ht hs sn se ++ LC G xn nv nq ++ LC G xt u.1 u.2)) (by decide) rfl (Nat.le_of_ble_eq_true rfl) ?_
  intro p e s m below meth c A H C0 _ hK hsz hP hD hA hS ls hl
  have hx := C0.1
  have hb := C0.2.1
  have hown : s.vm.findClass RX6 = some m.cls := C0.2.2.2.2.1
  have hml := C0.2.2.2.1
  have hts : ∀ w ∈ wsX6_reason, w.before [.ref h, .int p0].toArray s = true := C0.2.2.2.2.2.1
  have hl : lv_has ls 2 [(0, .ref h), (1, .int p0)] := hl
  refine lv_iload_n hx hb dX6_reason_0 rfl (lv_at hl 1 rfl) ?_
  refine lv_iconst (v := (nI 0)) hx hb dX6_reason_1 (by decide) ?_
  refine lv_iconst (v := (nI 2)) hx hb dX6_reason_2 (by decide) ?_
  refine gcall_I (run_S (As := [.int p0, .int (nI 0), .int (nI 2)]) (rest := []) C0 hK hP hD (c_X6_isWithin l G   H.size p0 (nI 0) (nI 2)) (va_cwS 3 hts gX6_reason_X6_isWithin rfl rfl rfl cd2_X6_isWithin ⟨Nat.le_of_ble_eq_true rfl, Nat.le_of_ble_eq_true rfl⟩) [] rfl rfl rfl hl.1 rfl (Nat.le_of_ble_eq_true rfl) dX6_reason_3 ⟨Nat.le_of_ble_eq_true rfl, Nat.le_of_ble_eq_true rfl⟩) hP hD hS hA [] rfl rfl (fun _ => rfl) (fun r_1 _ H locs hw_1 hP hD hS => ?_)
  have hz_r_1 := hw_1.2
  have hw_1 := hw_1.1
  subst hw_1
  have hP : va_P G.1 vwCl (SC h xn xb xe xt xz hh ht hs sn se ++ LC G xn nv nq ++ LC G xt yv yq) H := hP
  have hD : va_D A (SC h xn xb xe xt xz hh ht hs sn se ++ LC G xn nv nq ++ LC G xt yv yq) := hD
  refine lv_if_eq (tgt := 24) hx hb dX6_reason_6 (by decide) (fun c_2 => ?_) (fun c_2 => ?_)
  · refine lv_iconst (v := (-1)) hx hb dX6_reason_24 (by decide) ?_
    exact end_I C0 hP hD hS (yv, yq) (by simp only [f_X6_reason, if_pos c_2]) rfl dX6_reason_25
  · refine lv_aload_n hx hb dX6_reason_9 rfl (lv_at hl 0 rfl) ?_
    refine va_get (D := G.1) (ci := 6) (v := .ref (xn 0)) (C := RX6) (T := TX6) (N := 10) hx hb hts in_X6_reason_RX6 hown hK.1 hP 0 rfl rfl 0 (by decide) (hts _ k_X6_reason_f10) (fun _ h9 => h9) rfl dX6_reason_10 ?_
    refine lv_iload_n hx hb dX6_reason_13 rfl (lv_at hl 1 rfl) ?_
    refine lv_aload_n hx hb dX6_reason_14 rfl (lv_at hl 0 rfl) ?_
    refine va_get (D := G.1) (ci := 6) (v := .ref (xt 0)) (C := RX6) (T := TX6) (N := 10) hx hb hts in_X6_reason_RX6 hown hK.1 hP 0 rfl rfl 3 (by decide) (hts _ k_X6_reason_f22) (fun _ h9 => h9) rfl dX6_reason_15 ?_
    have hW : BW G A [SC h xn xb xe xt xz hh ht hs sn se, LC G xn nv nq, LC G xt yv yq] H := BW.of hP hD
    refine gcallB_I (bc := [LC G xn nv nq, LC G xt yv yq]) (runB_V (As := [.int p0, .ref (xt 0)]) (rest := []) (bc := [LC G xn nv nq, LC G xt yv yq]) C0 hK hW (c_X2_reasonAgainst l G xn xt nv nq yv yq H.size p0) (cwV 2 hts gX6_reason_X2_reasonAgainst rfl rfl rfl cd_X2_reasonAgainst ⟨Nat.le_of_ble_eq_true rfl, Nat.le_of_ble_eq_true rfl⟩) [1, 2] rfl rfl rfl 1 0 rfl (ci := 2) rfl rfl rfl rfl hl.1 rfl (Nat.le_of_ble_eq_true rfl) dX6_reason_18 ⟨Nat.le_of_ble_eq_true rfl, Nat.le_of_ble_eq_true rfl⟩) hW hS hA [1, 2] rfl rfl rfl (fun u => [LC G xn nv nq, LC G xt u.1 u.2]) (fun _ => rfl) (fun _ => rfl) (fun r_3 u_3 H locs hw_3 hW hS => ?_)
    obtain ⟨hP, hD⟩ := hW.flat
    obtain ⟨ov_c3, oq_c3⟩ := u_3
    have hP : va_P G.1 vwCl (SC h xn xb xe xt xz hh ht hs sn se ++ LC G xn nv nq ++ LC G xt ov_c3 oq_c3) H := hP
    have hD : va_D A (SC h xn xb xe xt xz hh ht hs sn se ++ LC G xn nv nq ++ LC G xt ov_c3 oq_c3) := hD
    refine lv_goto (tgt := 25) hx hb dX6_reason_21 (by decide) ?_
    exact end_I C0 hP hD hS (ov_c3, oq_c3) (by simp only [f_X6_reason, if_neg c_2, hw_3]) rfl dX6_reason_25

def s_X6_doneIn_13  : Nat → (Nat → Int32) → (Nat → Int32) → (Nat → Int32) → (Nat → Int32) → Nat → Int32 × (Nat → Int32) × (Nat → Int32) × (Nat → Int32) × (Nat → Int32)
  | 0, _, _, _, _, _ => (0, fun _ => 0, fun _ => 0, fun _ => 0, fun _ => 0)
  | n + 1, av_13, aq_13, yv_13, yq_13, i =>
    if (nI 400) < (nI i) then
      ((-5), av_13, aq_13, yv_13, yq_13)
    else
      if (f_X2_isIdle av_13) = 0 then
        match f_X2_passTick av_13 aq_13 yv_13 yq_13 with
        | (v_c5, q_c5, ov_c5, oq_c5) =>
          s_X6_doneIn_13 n v_c5 q_c5 ov_c5 oq_c5 (i + 1)
      else
        ((nI i), av_13, aq_13, yv_13, yq_13)
def f_X6_doneIn (nv : (Nat → Int32)) (nq : (Nat → Int32)) (yv : (Nat → Int32)) (yq : (Nat → Int32)) : Int32 × (Nat → Int32) × (Nat → Int32) × (Nat → Int32) × (Nat → Int32) :=
  s_X6_doneIn_13 402 nv nq yv yq 0
set_option maxRecDepth 20000 in
theorem k_X6_doneIn_f10 : Cond.fieldLink RX6 10 "SteamRations" "now" "LSteamRations$Laundry;" ∈ wsX6_doneIn := by decide +kernel
set_option maxRecDepth 20000 in
theorem k_X6_doneIn_f19 : Cond.fieldLink RX6 19 "SteamRations" "ahead" "LSteamRations$Laundry;" ∈ wsX6_doneIn := by decide +kernel
set_option maxRecDepth 20000 in
theorem k_X6_doneIn_f22 : Cond.fieldLink RX6 22 "SteamRations" "trial" "LSteamRations$Laundry;" ∈ wsX6_doneIn := by decide +kernel
set_option maxRecDepth 20000 in
theorem in_X6_doneIn_RX6 : ∀ w ∈ u_ws RX6 TX6 10, w ∈ wsX6_doneIn := by decide +kernel
theorem cd_X6_doneIn : yX6_doneIn.cls = RX6 ∧ yX6_doneIn.cls ≠ "java/lang/invoke/MethodHandle" ∧ yX6_doneIn.cls ≠ "java/lang/invoke/VarHandle" ∧ (parseMethodDescriptor yX6_doneIn.desc).map (fun d => d.parameters.length) = some 0 := by decide +kernel
set_option maxHeartbeats 4000000 in
set_option maxRecDepth 100000 in
theorem c_X6_doneIn (l : Launch) (G : GG) (h : Nat) (xn : Nat → Nat) (xb : Nat → Nat) (xe : Nat → Nat) (xt : Nat → Nat) (xz : Nat → Nat) (hh : Nat) (ht : Nat) (hs : Int32) (sn : Int32) (se : Int32) (nv : (Nat → Int32)) (nq : (Nat → Int32)) (av : (Nat → Int32)) (aq : (Nat → Int32)) (yv : (Nat → Int32)) (yq : (Nat → Int32)) (sz : Nat)   : Met l yX6_doneIn wsX6_doneIn ({ frames := 5, cells := 0, slots := 0, locals := 135 }) (Pre G [.ref h] (SC h xn xb xe xt xz hh ht hs sn se ++ LC G xn nv nq ++ LC G xe av aq ++ LC G xt yv yq) sz) (PI G (va_A (SC h xn xb xe xt xz hh ht hs sn se ++ LC G xn nv nq ++ LC G xe av aq ++ LC G xt yv yq) sz) (fun r (u : (Nat → Int32) × (Nat → Int32) × (Nat → Int32) × (Nat → Int32)) => f_X6_doneIn nv nq yv yq = (r, u)) (fun u : (Nat → Int32) × (Nat → Int32) × (Nat → Int32) × (Nat → Int32) => SC h xn xb xe xt xz hh ht hs sn se ++ LC G xn nv nq ++ LC G xe u.1 u.2.1 ++ LC G xt u.2.2.1 u.2.2.2)) 0 0 (va_A (SC h xn xb xe xt xz hh ht hs sn se ++ LC G xn nv nq ++ LC G xe av aq ++ LC G xt yv yq) sz) := by
  refine Met.walk (cc := cX6_doneIn) (maxL := 2) (ret := (some .int)) (Qc := fun A => PI G A (fun r (u : (Nat → Int32) × (Nat → Int32) × (Nat → Int32) × (Nat → Int32)) => f_X6_doneIn nv nq yv yq = (r, u)) (fun u : (Nat → Int32) × (Nat → Int32) × (Nat → Int32) × (Nat → Int32) => SC h xn xb xe xt xz hh ht hs sn se ++ LC G xn nv nq ++ LC G xe u.1 u.2.1 ++ LC G xt u.2.2.1 u.2.2.2)) (by decide) rfl (Nat.le_of_ble_eq_true rfl) ?_
  intro p e s m below meth c A H C0 _ hK hsz hP hD hA hS ls hl
  have hx := C0.1
  have hb := C0.2.1
  have hown : s.vm.findClass RX6 = some m.cls := C0.2.2.2.2.1
  have hml := C0.2.2.2.1
  have hts : ∀ w ∈ wsX6_doneIn, w.before [.ref h].toArray s = true := C0.2.2.2.2.2.1
  have hl : lv_has ls 2 [(0, .ref h)] := hl
  have h_X6_doneIn_13 : ∀ (n : Nat) (av_13 : (Nat → Int32)) (aq_13 : (Nat → Int32)) (yv_13 : (Nat → Int32)) (yq_13 : (Nat → Int32)) (i : Nat), 401 - i < n → (i ≤ 401) → f_X6_doneIn nv nq yv yq = s_X6_doneIn_13 n av_13 aq_13 yv_13 yq_13 i → ∀ (H : Heap) (locs : List Loc) (ls : Array Slot), va_P G.1 vwCl (SC h xn xb xe xt xz hh ht hs sn se ++ LC G xn nv nq ++ LC G xe av_13 aq_13 ++ LC G xt yv_13 yq_13) H → va_D A (SC h xn xb xe xt xz hh ht hs sn se ++ LC G xn nv nq ++ LC G xe av_13 aq_13 ++ LC G xt yv_13 yq_13) → va_S A s.heap H locs → lv_has ls 2 [(1, .int (nI i)), (0, .ref h)] → W p l e ({ frames := 5, cells := 0, slots := 0, locals := 135 }) s m ([.ref h] : List Value).toArray below meth c H locs 0 0 (MQ below (PI G A (fun r (u : (Nat → Int32) × (Nat → Int32) × (Nat → Int32) × (Nat → Int32)) => f_X6_doneIn nv nq yv yq = (r, u)) (fun u : (Nat → Int32) × (Nat → Int32) × (Nat → Int32) × (Nat → Int32) => SC h xn xb xe xt xz hh ht hs sn se ++ LC G xn nv nq ++ LC G xe u.1 u.2.1 ++ LC G xt u.2.2.1 u.2.2.2)) ([.ref h] : List Value).toArray s 0 0 A) (F0 m 13 ls []) := by
    intro n
    induction n with
    | zero =>
      intro av_13 aq_13 yv_13 yq_13 i hm
      exact absurd hm (Nat.not_lt_zero _)
    | succ n ih =>
      intro av_13 aq_13 yv_13 yq_13 i hm hi hE H locs ls hP hD hS hl
      refine lv_iload_n hx hb dX6_doneIn_13 rfl (lv_at hl 0 rfl) ?_
      refine lv_sipush (v := (nI 400)) hx hb dX6_doneIn_14 (by decide) ?_
      refine lv_icmp_gt (tgt := 49) hx hb dX6_doneIn_17 (by decide) (fun c_2 => ?_) (fun c_2 => ?_)
      · have c_2n : 400 < i := (nI_ltI (by omega) (by omega)).mp c_2
        refine lv_bipush (v := (-5)) hx hb dX6_doneIn_49 (by decide) ?_
        exact end_I C0 hP hD hS (av_13, aq_13, yv_13, yq_13) (hE.trans (by simp only [s_X6_doneIn_13, if_pos c_2])) rfl dX6_doneIn_51
      · have c_2n : ¬ (400 < i) := fun z => c_2 ((nI_ltI (by omega) (by omega)).mpr z)
        refine lv_aload_n hx hb dX6_doneIn_20 rfl (lv_at hl 1 rfl) ?_
        refine va_get (D := G.1) (ci := 6) (v := .ref (xe 0)) (C := RX6) (T := TX6) (N := 10) hx hb hts in_X6_doneIn_RX6 hown hK.1 hP 0 rfl rfl 2 (by decide) (hts _ k_X6_doneIn_f19) (fun _ h9 => h9) rfl dX6_doneIn_21 ?_
        have hW : BW G A [SC h xn xb xe xt xz hh ht hs sn se, LC G xn nv nq, LC G xe av_13 aq_13, LC G xt yv_13 yq_13] H := BW.of hP hD
        refine gcallB_I (bc := [LC G xe av_13 aq_13]) (runB_V (As := []) (rest := []) (bc := [LC G xe av_13 aq_13]) C0 hK hW (c_X2_isIdle l G xe av_13 aq_13 H.size ) (cwV 0 hts gX6_doneIn_X2_isIdle rfl rfl rfl cd_X2_isIdle ⟨Nat.le_of_ble_eq_true rfl, Nat.le_of_ble_eq_true rfl⟩) [2] rfl rfl rfl 2 0 rfl (ci := 2) rfl rfl rfl rfl hl.1 rfl (Nat.le_of_ble_eq_true rfl) dX6_doneIn_24 ⟨Nat.le_of_ble_eq_true rfl, Nat.le_of_ble_eq_true rfl⟩) hW hS hA [2] rfl rfl rfl (fun _ => [LC G xe av_13 aq_13]) (fun _ => rfl) (fun _ => rfl) (fun r_3 _ H locs hw_3 hW hS => ?_)
        obtain ⟨hP, hD⟩ := hW.flat
        have hz_r_3 := hw_3.2
        have hw_3 := hw_3.1
        subst hw_3
        have hP : va_P G.1 vwCl (SC h xn xb xe xt xz hh ht hs sn se ++ LC G xn nv nq ++ LC G xe av_13 aq_13 ++ LC G xt yv_13 yq_13) H := hP
        have hD : va_D A (SC h xn xb xe xt xz hh ht hs sn se ++ LC G xn nv nq ++ LC G xe av_13 aq_13 ++ LC G xt yv_13 yq_13) := hD
        refine lv_if_eq (tgt := 32) hx hb dX6_doneIn_27 (by decide) (fun c_4 => ?_) (fun c_4 => ?_)
        · refine lv_aload_n hx hb dX6_doneIn_32 rfl (lv_at hl 1 rfl) ?_
          refine va_get (D := G.1) (ci := 6) (v := .ref (xe 0)) (C := RX6) (T := TX6) (N := 10) hx hb hts in_X6_doneIn_RX6 hown hK.1 hP 0 rfl rfl 2 (by decide) (hts _ k_X6_doneIn_f19) (fun _ h9 => h9) rfl dX6_doneIn_33 ?_
          refine lv_aload_n hx hb dX6_doneIn_36 rfl (lv_at hl 1 rfl) ?_
          refine va_get (D := G.1) (ci := 6) (v := .ref (xt 0)) (C := RX6) (T := TX6) (N := 10) hx hb hts in_X6_doneIn_RX6 hown hK.1 hP 0 rfl rfl 3 (by decide) (hts _ k_X6_doneIn_f22) (fun _ h9 => h9) rfl dX6_doneIn_37 ?_
          have hW : BW G A [SC h xn xb xe xt xz hh ht hs sn se, LC G xn nv nq, LC G xe av_13 aq_13, LC G xt yv_13 yq_13] H := BW.of hP hD
          refine gcallB_V (bc := [LC G xe av_13 aq_13, LC G xt yv_13 yq_13]) (runB_V (As := [.ref (xt 0)]) (rest := []) (bc := [LC G xe av_13 aq_13, LC G xt yv_13 yq_13]) C0 hK hW (c_X2_passTick l G xe xt av_13 aq_13 yv_13 yq_13 H.size ) (cwV 1 hts gX6_doneIn_X2_passTick rfl rfl rfl cd_X2_passTick ⟨Nat.le_of_ble_eq_true rfl, Nat.le_of_ble_eq_true rfl⟩) [2, 3] rfl rfl rfl 2 0 rfl (ci := 2) rfl rfl rfl rfl hl.1 rfl (Nat.le_of_ble_eq_true rfl) dX6_doneIn_40 ⟨Nat.le_of_ble_eq_true rfl, Nat.le_of_ble_eq_true rfl⟩) hW hS hA [2, 3] rfl rfl rfl (fun u => [LC G xe u.1 u.2.1, LC G xt u.2.2.1 u.2.2.2]) (fun _ => rfl) (fun _ => rfl) (fun u_5 H locs hw_5 hW hS => ?_)
          obtain ⟨hP, hD⟩ := hW.flat
          obtain ⟨v_c5, q_c5, ov_c5, oq_c5⟩ := u_5
          have hP : va_P G.1 vwCl (SC h xn xb xe xt xz hh ht hs sn se ++ LC G xn nv nq ++ LC G xe v_c5 q_c5 ++ LC G xt ov_c5 oq_c5) H := hP
          have hD : va_D A (SC h xn xb xe xt xz hh ht hs sn se ++ LC G xn nv nq ++ LC G xe v_c5 q_c5 ++ LC G xt ov_c5 oq_c5) := hD
          refine lv_iinc (v := (nI (i + 1))) (lv' := [(1, .int (nI (i + 1))), (0, .ref h)]) hx hb dX6_doneIn_43 hl (k := 0) rfl (inc1 i) (by decide) rfl (fun ls hl => ?_)
          refine lv_goto (tgt := 13) hx hb dX6_doneIn_46 (by decide) ?_
          exact ih v_c5 q_c5 ov_c5 oq_c5 (i + 1) (by omega) (by omega) (hE.trans (by simp only [s_X6_doneIn_13, if_neg c_2, if_pos c_4, hw_5])) _ _ _ hP hD hS (lv_sub hl [0, 1] rfl)
        · refine lv_iload_n hx hb dX6_doneIn_30 rfl (lv_at hl 0 rfl) ?_
          exact end_I C0 hP hD hS (av_13, aq_13, yv_13, yq_13) (hE.trans (by simp only [s_X6_doneIn_13, if_neg c_2, if_neg c_4])) rfl dX6_doneIn_31
  refine lv_aload_n hx hb dX6_doneIn_0 rfl (lv_at hl 0 rfl) ?_
  refine va_get (D := G.1) (ci := 6) (v := .ref (xe 0)) (C := RX6) (T := TX6) (N := 10) hx hb hts in_X6_doneIn_RX6 hown hK.1 hP 0 rfl rfl 2 (by decide) (hts _ k_X6_doneIn_f19) (fun _ h9 => h9) rfl dX6_doneIn_1 ?_
  refine lv_aload_n hx hb dX6_doneIn_4 rfl (lv_at hl 0 rfl) ?_
  refine va_get (D := G.1) (ci := 6) (v := .ref (xn 0)) (C := RX6) (T := TX6) (N := 10) hx hb hts in_X6_doneIn_RX6 hown hK.1 hP 0 rfl rfl 0 (by decide) (hts _ k_X6_doneIn_f10) (fun _ h9 => h9) rfl dX6_doneIn_5 ?_
  have hW : BW G A [SC h xn xb xe xt xz hh ht hs sn se, LC G xn nv nq, LC G xe av aq, LC G xt yv yq] H := BW.of hP hD
  refine gcallB_V (bc := [LC G xe av aq, LC G xn nv nq]) (runB_V (As := [.ref (xn 0)]) (rest := []) (bc := [LC G xe av aq, LC G xn nv nq]) C0 hK hW (c_X2_copyFrom l G xe xn av aq nv nq H.size ) (cwV 1 hts gX6_doneIn_X2_copyFrom rfl rfl rfl cd_X2_copyFrom ⟨Nat.le_of_ble_eq_true rfl, Nat.le_of_ble_eq_true rfl⟩) [2, 1] rfl rfl rfl 2 0 rfl (ci := 2) rfl rfl rfl rfl hl.1 rfl (Nat.le_of_ble_eq_true rfl) dX6_doneIn_8 ⟨Nat.le_of_ble_eq_true rfl, Nat.le_of_ble_eq_true rfl⟩) hW hS hA [2, 1] rfl rfl rfl (fun u => [LC G xe u.1 u.2, LC G xn nv nq]) (fun _ => rfl) (fun _ => rfl) (fun u_1 H locs hw_1 hW hS => ?_)
  obtain ⟨hP, hD⟩ := hW.flat
  obtain ⟨v_c1, q_c1⟩ := u_1
  simp only [f_X2_copyFrom, Prod.mk.injEq] at hw_1
  obtain ⟨rfl, rfl⟩ := hw_1
  have hP : va_P G.1 vwCl (SC h xn xb xe xt xz hh ht hs sn se ++ LC G xn nv nq ++ LC G xe nv nq ++ LC G xt yv yq) H := hP
  have hD : va_D A (SC h xn xb xe xt xz hh ht hs sn se ++ LC G xn nv nq ++ LC G xe nv nq ++ LC G xt yv yq) := hD
  refine lv_iconst (v := (nI 0)) hx hb dX6_doneIn_11 (by decide) ?_
  refine lv_istore_n (lv' := [(1, .int (nI 0)), (0, .ref h)]) hx hb dX6_doneIn_12 rfl hl (by decide) rfl (fun ls hl => ?_)
  exact h_X6_doneIn_13 402 nv nq yv yq 0 (by omega) (by omega) (by simp only [f_X6_doneIn]) _ _ _ hP hD hS (lv_sub hl [0, 1] rfl)

def s_X6_lookAhead_23 (p2 : Int32) : Nat → (Nat → Int32) → (Nat → Int32) → (Nat → Int32) → (Nat → Int32) → Nat → (Nat → Int32) × (Nat → Int32) × (Nat → Int32) × (Nat → Int32)
  | 0, _, _, _, _, _ => (fun _ => 0, fun _ => 0, fun _ => 0, fun _ => 0)
  | n + 1, av_23, aq_23, yv_23, yq_23, i =>
    if p2 ≤ (nI i) then
      (av_23, aq_23, yv_23, yq_23)
    else
      match f_X2_passTick av_23 aq_23 yv_23 yq_23 with
      | (v_c4, q_c4, ov_c4, oq_c4) =>
        s_X6_lookAhead_23 p2 n v_c4 q_c4 ov_c4 oq_c4 (i + 1)
def f_X6_lookAhead (nv : (Nat → Int32)) (nq : (Nat → Int32)) (yv : (Nat → Int32)) (yq : (Nat → Int32)) (p0 : Int32) (p1 : Int32) (p2 : Int32) : (Nat → Int32) × (Nat → Int32) × (Nat → Int32) × (Nat → Int32) :=
  match f_X2_lightFires nv p0 p1 with
  | v_c2 =>
    s_X6_lookAhead_23 p2 (p2.toNatClampNeg + 1) v_c2 nq yv yq 0
set_option maxRecDepth 20000 in
theorem k_X6_lookAhead_f10 : Cond.fieldLink RX6 10 "SteamRations" "now" "LSteamRations$Laundry;" ∈ wsX6_lookAhead := by decide +kernel
set_option maxRecDepth 20000 in
theorem k_X6_lookAhead_f19 : Cond.fieldLink RX6 19 "SteamRations" "ahead" "LSteamRations$Laundry;" ∈ wsX6_lookAhead := by decide +kernel
set_option maxRecDepth 20000 in
theorem k_X6_lookAhead_f22 : Cond.fieldLink RX6 22 "SteamRations" "trial" "LSteamRations$Laundry;" ∈ wsX6_lookAhead := by decide +kernel
set_option maxRecDepth 20000 in
theorem in_X6_lookAhead_RX6 : ∀ w ∈ u_ws RX6 TX6 10, w ∈ wsX6_lookAhead := by decide +kernel
theorem cd_X6_lookAhead : yX6_lookAhead.cls = RX6 ∧ yX6_lookAhead.cls ≠ "java/lang/invoke/MethodHandle" ∧ yX6_lookAhead.cls ≠ "java/lang/invoke/VarHandle" ∧ (parseMethodDescriptor yX6_lookAhead.desc).map (fun d => d.parameters.length) = some 3 := by decide +kernel
set_option maxHeartbeats 4000000 in
set_option maxRecDepth 100000 in
theorem c_X6_lookAhead (l : Launch) (G : GG) (h : Nat) (xn : Nat → Nat) (xb : Nat → Nat) (xe : Nat → Nat) (xt : Nat → Nat) (xz : Nat → Nat) (hh : Nat) (ht : Nat) (hs : Int32) (sn : Int32) (se : Int32) (nv : (Nat → Int32)) (nq : (Nat → Int32)) (av : (Nat → Int32)) (aq : (Nat → Int32)) (yv : (Nat → Int32)) (yq : (Nat → Int32)) (sz : Nat) (p0 : Int32) (p1 : Int32) (p2 : Int32)  : Met l yX6_lookAhead wsX6_lookAhead ({ frames := 5, cells := 0, slots := 0, locals := 135 }) (Pre G [.ref h, .int p0, .int p1, .int p2] (SC h xn xb xe xt xz hh ht hs sn se ++ LC G xn nv nq ++ LC G xe av aq ++ LC G xt yv yq) sz) (PV G (va_A (SC h xn xb xe xt xz hh ht hs sn se ++ LC G xn nv nq ++ LC G xe av aq ++ LC G xt yv yq) sz) (fun u : (Nat → Int32) × (Nat → Int32) × (Nat → Int32) × (Nat → Int32) => f_X6_lookAhead nv nq yv yq p0 p1 p2 = u) (fun u : (Nat → Int32) × (Nat → Int32) × (Nat → Int32) × (Nat → Int32) => SC h xn xb xe xt xz hh ht hs sn se ++ LC G xn nv nq ++ LC G xe u.1 u.2.1 ++ LC G xt u.2.2.1 u.2.2.2)) 0 0 (va_A (SC h xn xb xe xt xz hh ht hs sn se ++ LC G xn nv nq ++ LC G xe av aq ++ LC G xt yv yq) sz) := by
  refine Met.walk (cc := cX6_lookAhead) (maxL := 5) (ret := none) (Qc := fun A => PV G A (fun u : (Nat → Int32) × (Nat → Int32) × (Nat → Int32) × (Nat → Int32) => f_X6_lookAhead nv nq yv yq p0 p1 p2 = u) (fun u : (Nat → Int32) × (Nat → Int32) × (Nat → Int32) × (Nat → Int32) => SC h xn xb xe xt xz hh ht hs sn se ++ LC G xn nv nq ++ LC G xe u.1 u.2.1 ++ LC G xt u.2.2.1 u.2.2.2)) (by decide) rfl (Nat.le_of_ble_eq_true rfl) ?_
  intro p e s m below meth c A H C0 _ hK hsz hP hD hA hS ls hl
  have hx := C0.1
  have hb := C0.2.1
  have hown : s.vm.findClass RX6 = some m.cls := C0.2.2.2.2.1
  have hml := C0.2.2.2.1
  have hts : ∀ w ∈ wsX6_lookAhead, w.before [.ref h, .int p0, .int p1, .int p2].toArray s = true := C0.2.2.2.2.2.1
  have hl : lv_has ls 5 [(0, .ref h), (1, .int p0), (2, .int p1), (3, .int p2)] := hl
  have hN := natBig p2
  have h_X6_lookAhead_23 : ∀ (n : Nat) (av_23 : (Nat → Int32)) (aq_23 : (Nat → Int32)) (yv_23 : (Nat → Int32)) (yq_23 : (Nat → Int32)) (i : Nat), p2.toNatClampNeg - i < n → (i ≤ p2.toNatClampNeg) → f_X6_lookAhead nv nq yv yq p0 p1 p2 = s_X6_lookAhead_23 p2 n av_23 aq_23 yv_23 yq_23 i → ∀ (H : Heap) (locs : List Loc) (ls : Array Slot), va_P G.1 vwCl (SC h xn xb xe xt xz hh ht hs sn se ++ LC G xn nv nq ++ LC G xe av_23 aq_23 ++ LC G xt yv_23 yq_23) H → va_D A (SC h xn xb xe xt xz hh ht hs sn se ++ LC G xn nv nq ++ LC G xe av_23 aq_23 ++ LC G xt yv_23 yq_23) → va_S A s.heap H locs → lv_has ls 5 [(4, .int (nI i)), (0, .ref h), (3, .int p2)] → W p l e ({ frames := 5, cells := 0, slots := 0, locals := 135 }) s m ([.ref h, .int p0, .int p1, .int p2] : List Value).toArray below meth c H locs 0 0 (MQ below (PV G A (fun u : (Nat → Int32) × (Nat → Int32) × (Nat → Int32) × (Nat → Int32) => f_X6_lookAhead nv nq yv yq p0 p1 p2 = u) (fun u : (Nat → Int32) × (Nat → Int32) × (Nat → Int32) × (Nat → Int32) => SC h xn xb xe xt xz hh ht hs sn se ++ LC G xn nv nq ++ LC G xe u.1 u.2.1 ++ LC G xt u.2.2.1 u.2.2.2)) ([.ref h, .int p0, .int p1, .int p2] : List Value).toArray s 0 0 A) (F0 m 23 ls []) := by
    intro n
    induction n with
    | zero =>
      intro av_23 aq_23 yv_23 yq_23 i hm
      exact absurd hm (Nat.not_lt_zero _)
    | succ n ih =>
      intro av_23 aq_23 yv_23 yq_23 i hm hi hE H locs ls hP hD hS hl
      refine lv_iload hx hb dX6_lookAhead_23 (lv_at hl 0 rfl) ?_
      refine lv_iload_n hx hb dX6_lookAhead_25 rfl (lv_at hl 2 rfl) ?_
      refine lv_icmp_ge (tgt := 46) hx hb dX6_lookAhead_26 (by decide) (fun c_3 => ?_) (fun c_3 => ?_)
      · exact end_V C0 hP hD hS (av_23, aq_23, yv_23, yq_23) (hE.trans (by simp only [s_X6_lookAhead_23, if_pos c_3])) rfl dX6_lookAhead_46
      · have c_3g : i < p2.toNatClampNeg := ltNat c_3 (by omega)
        refine lv_aload_n hx hb dX6_lookAhead_29 rfl (lv_at hl 1 rfl) ?_
        refine va_get (D := G.1) (ci := 6) (v := .ref (xe 0)) (C := RX6) (T := TX6) (N := 10) hx hb hts in_X6_lookAhead_RX6 hown hK.1 hP 0 rfl rfl 2 (by decide) (hts _ k_X6_lookAhead_f19) (fun _ h9 => h9) rfl dX6_lookAhead_30 ?_
        refine lv_aload_n hx hb dX6_lookAhead_33 rfl (lv_at hl 1 rfl) ?_
        refine va_get (D := G.1) (ci := 6) (v := .ref (xt 0)) (C := RX6) (T := TX6) (N := 10) hx hb hts in_X6_lookAhead_RX6 hown hK.1 hP 0 rfl rfl 3 (by decide) (hts _ k_X6_lookAhead_f22) (fun _ h9 => h9) rfl dX6_lookAhead_34 ?_
        have hW : BW G A [SC h xn xb xe xt xz hh ht hs sn se, LC G xn nv nq, LC G xe av_23 aq_23, LC G xt yv_23 yq_23] H := BW.of hP hD
        refine gcallB_V (bc := [LC G xe av_23 aq_23, LC G xt yv_23 yq_23]) (runB_V (As := [.ref (xt 0)]) (rest := []) (bc := [LC G xe av_23 aq_23, LC G xt yv_23 yq_23]) C0 hK hW (c_X2_passTick l G xe xt av_23 aq_23 yv_23 yq_23 H.size ) (cwV 1 hts gX6_lookAhead_X2_passTick rfl rfl rfl cd_X2_passTick ⟨Nat.le_of_ble_eq_true rfl, Nat.le_of_ble_eq_true rfl⟩) [2, 3] rfl rfl rfl 2 0 rfl (ci := 2) rfl rfl rfl rfl hl.1 rfl (Nat.le_of_ble_eq_true rfl) dX6_lookAhead_37 ⟨Nat.le_of_ble_eq_true rfl, Nat.le_of_ble_eq_true rfl⟩) hW hS hA [2, 3] rfl rfl rfl (fun u => [LC G xe u.1 u.2.1, LC G xt u.2.2.1 u.2.2.2]) (fun _ => rfl) (fun _ => rfl) (fun u_4 H locs hw_4 hW hS => ?_)
        obtain ⟨hP, hD⟩ := hW.flat
        obtain ⟨v_c4, q_c4, ov_c4, oq_c4⟩ := u_4
        have hP : va_P G.1 vwCl (SC h xn xb xe xt xz hh ht hs sn se ++ LC G xn nv nq ++ LC G xe v_c4 q_c4 ++ LC G xt ov_c4 oq_c4) H := hP
        have hD : va_D A (SC h xn xb xe xt xz hh ht hs sn se ++ LC G xn nv nq ++ LC G xe v_c4 q_c4 ++ LC G xt ov_c4 oq_c4) := hD
        refine lv_iinc (v := (nI (i + 1))) (lv' := [(4, .int (nI (i + 1))), (0, .ref h), (3, .int p2)]) hx hb dX6_lookAhead_40 hl (k := 0) rfl (inc1 i) (by decide) rfl (fun ls hl => ?_)
        refine lv_goto (tgt := 23) hx hb dX6_lookAhead_43 (by decide) ?_
        exact ih v_c4 q_c4 ov_c4 oq_c4 (i + 1) (by omega) (by omega) (hE.trans (by simp only [s_X6_lookAhead_23, if_neg c_3, hw_4])) _ _ _ hP hD hS (lv_sub hl [0, 1, 2] rfl)
  refine lv_aload_n hx hb dX6_lookAhead_0 rfl (lv_at hl 0 rfl) ?_
  refine va_get (D := G.1) (ci := 6) (v := .ref (xe 0)) (C := RX6) (T := TX6) (N := 10) hx hb hts in_X6_lookAhead_RX6 hown hK.1 hP 0 rfl rfl 2 (by decide) (hts _ k_X6_lookAhead_f19) (fun _ h9 => h9) rfl dX6_lookAhead_1 ?_
  refine lv_aload_n hx hb dX6_lookAhead_4 rfl (lv_at hl 0 rfl) ?_
  refine va_get (D := G.1) (ci := 6) (v := .ref (xn 0)) (C := RX6) (T := TX6) (N := 10) hx hb hts in_X6_lookAhead_RX6 hown hK.1 hP 0 rfl rfl 0 (by decide) (hts _ k_X6_lookAhead_f10) (fun _ h9 => h9) rfl dX6_lookAhead_5 ?_
  have hW : BW G A [SC h xn xb xe xt xz hh ht hs sn se, LC G xn nv nq, LC G xe av aq, LC G xt yv yq] H := BW.of hP hD
  refine gcallB_V (bc := [LC G xe av aq, LC G xn nv nq]) (runB_V (As := [.ref (xn 0)]) (rest := []) (bc := [LC G xe av aq, LC G xn nv nq]) C0 hK hW (c_X2_copyFrom l G xe xn av aq nv nq H.size ) (cwV 1 hts gX6_lookAhead_X2_copyFrom rfl rfl rfl cd_X2_copyFrom ⟨Nat.le_of_ble_eq_true rfl, Nat.le_of_ble_eq_true rfl⟩) [2, 1] rfl rfl rfl 2 0 rfl (ci := 2) rfl rfl rfl rfl hl.1 rfl (Nat.le_of_ble_eq_true rfl) dX6_lookAhead_8 ⟨Nat.le_of_ble_eq_true rfl, Nat.le_of_ble_eq_true rfl⟩) hW hS hA [2, 1] rfl rfl rfl (fun u => [LC G xe u.1 u.2, LC G xn nv nq]) (fun _ => rfl) (fun _ => rfl) (fun u_1 H locs hw_1 hW hS => ?_)
  obtain ⟨hP, hD⟩ := hW.flat
  obtain ⟨v_c1, q_c1⟩ := u_1
  simp only [f_X2_copyFrom, Prod.mk.injEq] at hw_1
  obtain ⟨rfl, rfl⟩ := hw_1
  have hP : va_P G.1 vwCl (SC h xn xb xe xt xz hh ht hs sn se ++ LC G xn nv nq ++ LC G xe nv nq ++ LC G xt yv yq) H := hP
  have hD : va_D A (SC h xn xb xe xt xz hh ht hs sn se ++ LC G xn nv nq ++ LC G xe nv nq ++ LC G xt yv yq) := hD
  refine lv_aload_n hx hb dX6_lookAhead_11 rfl (lv_at hl 0 rfl) ?_
  refine va_get (D := G.1) (ci := 6) (v := .ref (xe 0)) (C := RX6) (T := TX6) (N := 10) hx hb hts in_X6_lookAhead_RX6 hown hK.1 hP 0 rfl rfl 2 (by decide) (hts _ k_X6_lookAhead_f19) (fun _ h9 => h9) rfl dX6_lookAhead_12 ?_
  refine lv_iload_n hx hb dX6_lookAhead_15 rfl (lv_at hl 1 rfl) ?_
  refine lv_iload_n hx hb dX6_lookAhead_16 rfl (lv_at hl 2 rfl) ?_
  have hW : BW G A [SC h xn xb xe xt xz hh ht hs sn se, LC G xn nv nq, LC G xe nv nq, LC G xt yv yq] H := BW.of hP hD
  refine gcallB_V (bc := [LC G xe nv nq]) (runB_V (As := [.int p0, .int p1]) (rest := []) (bc := [LC G xe nv nq]) C0 hK hW (c_X2_lightFires l G xe nv nq H.size p0 p1) (cwV 2 hts gX6_lookAhead_X2_lightFires rfl rfl rfl cd_X2_lightFires ⟨Nat.le_of_ble_eq_true rfl, Nat.le_of_ble_eq_true rfl⟩) [2] rfl rfl rfl 2 0 rfl (ci := 2) rfl rfl rfl rfl hl.1 rfl (Nat.le_of_ble_eq_true rfl) dX6_lookAhead_17 ⟨Nat.le_of_ble_eq_true rfl, Nat.le_of_ble_eq_true rfl⟩) hW hS hA [2] rfl rfl rfl (fun u => [LC G xe u nq]) (fun _ => rfl) (fun _ => rfl) (fun u_2 H locs hw_2 hW hS => ?_)
  obtain ⟨hP, hD⟩ := hW.flat
  obtain ⟨v_c2, rfl⟩ : ∃ z, z = u_2 := ⟨_, rfl⟩
  have hP : va_P G.1 vwCl (SC h xn xb xe xt xz hh ht hs sn se ++ LC G xn nv nq ++ LC G xe v_c2 nq ++ LC G xt yv yq) H := hP
  have hD : va_D A (SC h xn xb xe xt xz hh ht hs sn se ++ LC G xn nv nq ++ LC G xe v_c2 nq ++ LC G xt yv yq) := hD
  refine lv_iconst (v := (nI 0)) hx hb dX6_lookAhead_20 (by decide) ?_
  refine lv_istore (lv' := [(4, .int (nI 0)), (0, .ref h), (1, .int p0), (2, .int p1), (3, .int p2)]) hx hb dX6_lookAhead_21 hl (by decide) rfl (fun ls hl => ?_)
  exact h_X6_lookAhead_23 (p2.toNatClampNeg + 1) v_c2 nq yv yq 0 (by omega) (by omega) (by simp only [f_X6_lookAhead, hw_2]) _ _ _ hP hD hS (lv_sub hl [0, 1, 4] rfl)

def f_X6_ifFires (nv : (Nat → Int32)) (nq : (Nat → Int32)) (av : (Nat → Int32)) (aq : (Nat → Int32)) (yv : (Nat → Int32)) (yq : (Nat → Int32)) (p0 : Int32) (p1 : Int32) (p2 : Int32) (p3 : Int32) : Int32 × (Nat → Int32) × (Nat → Int32) × (Nat → Int32) × (Nat → Int32) :=
  if (f_X6_isWithin p0 (nI 0) (nI 5)) = 0 then
    ((-2), av, aq, yv, yq)
  else
    if (f_X6_isWithin p1 (nI 0) (nI 5)) = 0 then
      ((-2), av, aq, yv, yq)
    else
      if (f_X6_isWithin p2 (nI 1) (nI 200)) = 0 then
        ((-2), av, aq, yv, yq)
      else
        if (f_X6_isWithin p3 (nI 0) (nI 3)) = 0 then
          ((-2), av, aq, yv, yq)
        else
          match f_X6_lookAhead nv nq yv yq p0 p1 p2 with
          | (av_c9, aq_c9, yv_c9, yq_c9) =>
            if p3 = nI 0 then
              (((av_c9 41) - (nv 41)), av_c9, aq_c9, yv_c9, yq_c9)
            else
              if p3 = nI 1 then
                (((av_c9 42) - (nv 42)), av_c9, aq_c9, yv_c9, yq_c9)
              else
                if p3 = nI 2 then
                  (((av_c9 38) - (nv 38)), av_c9, aq_c9, yv_c9, yq_c9)
                else
                  (((f_X2_safetyStops av_c9) - (f_X2_safetyStops nv)), av_c9, aq_c9, yv_c9, yq_c9)
set_option maxRecDepth 20000 in
theorem k_X6_ifFires_f10 : Cond.fieldLink RX6 10 "SteamRations" "now" "LSteamRations$Laundry;" ∈ wsX6_ifFires := by decide +kernel
set_option maxRecDepth 20000 in
theorem k_X6_ifFires_f175 : Cond.fieldLink RX6 175 "SteamRations$Laundry" "washed" "I" ∈ wsX6_ifFires := by decide +kernel
set_option maxRecDepth 20000 in
theorem k_X6_ifFires_f178 : Cond.fieldLink RX6 178 "SteamRations$Laundry" "spoiled" "I" ∈ wsX6_ifFires := by decide +kernel
set_option maxRecDepth 20000 in
theorem k_X6_ifFires_f181 : Cond.fieldLink RX6 181 "SteamRations$Laundry" "burnt" "I" ∈ wsX6_ifFires := by decide +kernel
set_option maxRecDepth 20000 in
theorem k_X6_ifFires_f19 : Cond.fieldLink RX6 19 "SteamRations" "ahead" "LSteamRations$Laundry;" ∈ wsX6_ifFires := by decide +kernel
set_option maxRecDepth 20000 in
theorem in_X6_ifFires_RX2 : ∀ w ∈ u_ws RX2 TX2 14, w ∈ wsX6_ifFires := by decide +kernel
set_option maxRecDepth 20000 in
theorem in_X6_ifFires_RX6 : ∀ w ∈ u_ws RX6 TX6 10, w ∈ wsX6_ifFires := by decide +kernel
theorem cd_X6_ifFires : yX6_ifFires.cls = RX6 ∧ yX6_ifFires.cls ≠ "java/lang/invoke/MethodHandle" ∧ yX6_ifFires.cls ≠ "java/lang/invoke/VarHandle" ∧ (parseMethodDescriptor yX6_ifFires.desc).map (fun d => d.parameters.length) = some 4 := by decide +kernel
set_option maxHeartbeats 4000000 in
set_option maxRecDepth 100000 in
theorem c_X6_ifFires (l : Launch) (G : GG) (h : Nat) (xn : Nat → Nat) (xb : Nat → Nat) (xe : Nat → Nat) (xt : Nat → Nat) (xz : Nat → Nat) (hh : Nat) (ht : Nat) (hs : Int32) (sn : Int32) (se : Int32) (nv : (Nat → Int32)) (nq : (Nat → Int32)) (av : (Nat → Int32)) (aq : (Nat → Int32)) (yv : (Nat → Int32)) (yq : (Nat → Int32)) (sz : Nat) (p0 : Int32) (p1 : Int32) (p2 : Int32) (p3 : Int32)  : Met l yX6_ifFires wsX6_ifFires ({ frames := 6, cells := 0, slots := 0, locals := 159 }) (Pre G [.ref h, .int p0, .int p1, .int p2, .int p3] (SC h xn xb xe xt xz hh ht hs sn se ++ LC G xn nv nq ++ LC G xe av aq ++ LC G xt yv yq) sz) (PI G (va_A (SC h xn xb xe xt xz hh ht hs sn se ++ LC G xn nv nq ++ LC G xe av aq ++ LC G xt yv yq) sz) (fun r (u : (Nat → Int32) × (Nat → Int32) × (Nat → Int32) × (Nat → Int32)) => f_X6_ifFires nv nq av aq yv yq p0 p1 p2 p3 = (r, u)) (fun u : (Nat → Int32) × (Nat → Int32) × (Nat → Int32) × (Nat → Int32) => SC h xn xb xe xt xz hh ht hs sn se ++ LC G xn nv nq ++ LC G xe u.1 u.2.1 ++ LC G xt u.2.2.1 u.2.2.2)) 0 0 (va_A (SC h xn xb xe xt xz hh ht hs sn se ++ LC G xn nv nq ++ LC G xe av aq ++ LC G xt yv yq) sz) := by
  refine Met.walk (cc := cX6_ifFires) (maxL := 5) (ret := (some .int)) (Qc := fun A => PI G A (fun r (u : (Nat → Int32) × (Nat → Int32) × (Nat → Int32) × (Nat → Int32)) => f_X6_ifFires nv nq av aq yv yq p0 p1 p2 p3 = (r, u)) (fun u : (Nat → Int32) × (Nat → Int32) × (Nat → Int32) × (Nat → Int32) => SC h xn xb xe xt xz hh ht hs sn se ++ LC G xn nv nq ++ LC G xe u.1 u.2.1 ++ LC G xt u.2.2.1 u.2.2.2)) (by decide) rfl (Nat.le_of_ble_eq_true rfl) ?_
  intro p e s m below meth c A H C0 _ hK hsz hP hD hA hS ls hl
  have hx := C0.1
  have hb := C0.2.1
  have hown : s.vm.findClass RX6 = some m.cls := C0.2.2.2.2.1
  have hml := C0.2.2.2.1
  have hts : ∀ w ∈ wsX6_ifFires, w.before [.ref h, .int p0, .int p1, .int p2, .int p3].toArray s = true := C0.2.2.2.2.2.1
  have hl : lv_has ls 5 [(0, .ref h), (1, .int p0), (2, .int p1), (3, .int p2), (4, .int p3)] := hl
  refine lv_iload_n hx hb dX6_ifFires_0 rfl (lv_at hl 1 rfl) ?_
  refine lv_iconst (v := (nI 0)) hx hb dX6_ifFires_1 (by decide) ?_
  refine lv_iconst (v := (nI 5)) hx hb dX6_ifFires_2 (by decide) ?_
  refine gcall_I (run_S (As := [.int p0, .int (nI 0), .int (nI 5)]) (rest := []) C0 hK hP hD (c_X6_isWithin l G   H.size p0 (nI 0) (nI 5)) (va_cwS 3 hts gX6_ifFires_X6_isWithin rfl rfl rfl cd2_X6_isWithin ⟨Nat.le_of_ble_eq_true rfl, Nat.le_of_ble_eq_true rfl⟩) [] rfl rfl rfl hl.1 rfl (Nat.le_of_ble_eq_true rfl) dX6_ifFires_3 ⟨Nat.le_of_ble_eq_true rfl, Nat.le_of_ble_eq_true rfl⟩) hP hD hS hA [] rfl rfl (fun _ => rfl) (fun r_1 _ H locs hw_1 hP hD hS => ?_)
  have hz_r_1 := hw_1.2
  have hw_1 := hw_1.1
  subst hw_1
  have hP : va_P G.1 vwCl (SC h xn xb xe xt xz hh ht hs sn se ++ LC G xn nv nq ++ LC G xe av aq ++ LC G xt yv yq) H := hP
  have hD : va_D A (SC h xn xb xe xt xz hh ht hs sn se ++ LC G xn nv nq ++ LC G xe av aq ++ LC G xt yv yq) := hD
  refine lv_if_eq (tgt := 18) hx hb dX6_ifFires_6 (by decide) (fun c_2 => ?_) (fun c_2 => ?_)
  · refine lv_bipush (v := (-2)) hx hb dX6_ifFires_18 (by decide) ?_
    exact end_I C0 hP hD hS (av, aq, yv, yq) (by simp only [f_X6_ifFires, if_pos c_2]) rfl dX6_ifFires_20
  · refine lv_iload_n hx hb dX6_ifFires_9 rfl (lv_at hl 2 rfl) ?_
    refine lv_iconst (v := (nI 0)) hx hb dX6_ifFires_10 (by decide) ?_
    refine lv_iconst (v := (nI 5)) hx hb dX6_ifFires_11 (by decide) ?_
    refine gcall_I (run_S (As := [.int p1, .int (nI 0), .int (nI 5)]) (rest := []) C0 hK hP hD (c_X6_isWithin l G   H.size p1 (nI 0) (nI 5)) (va_cwS 3 hts gX6_ifFires_X6_isWithin rfl rfl rfl cd2_X6_isWithin ⟨Nat.le_of_ble_eq_true rfl, Nat.le_of_ble_eq_true rfl⟩) [] rfl rfl rfl hl.1 rfl (Nat.le_of_ble_eq_true rfl) dX6_ifFires_12 ⟨Nat.le_of_ble_eq_true rfl, Nat.le_of_ble_eq_true rfl⟩) hP hD hS hA [] rfl rfl (fun _ => rfl) (fun r_3 _ H locs hw_3 hP hD hS => ?_)
    have hz_r_3 := hw_3.2
    have hw_3 := hw_3.1
    subst hw_3
    have hP : va_P G.1 vwCl (SC h xn xb xe xt xz hh ht hs sn se ++ LC G xn nv nq ++ LC G xe av aq ++ LC G xt yv yq) H := hP
    have hD : va_D A (SC h xn xb xe xt xz hh ht hs sn se ++ LC G xn nv nq ++ LC G xe av aq ++ LC G xt yv yq) := hD
    refine lv_if_ne (tgt := 21) hx hb dX6_ifFires_15 (by decide) (fun c_4 => ?_) (fun c_4 => ?_)
    · refine lv_iload_n hx hb dX6_ifFires_21 rfl (lv_at hl 3 rfl) ?_
      refine lv_iconst (v := (nI 1)) hx hb dX6_ifFires_22 (by decide) ?_
      refine lv_sipush (v := (nI 200)) hx hb dX6_ifFires_23 (by decide) ?_
      refine gcall_I (run_S (As := [.int p2, .int (nI 1), .int (nI 200)]) (rest := []) C0 hK hP hD (c_X6_isWithin l G   H.size p2 (nI 1) (nI 200)) (va_cwS 3 hts gX6_ifFires_X6_isWithin rfl rfl rfl cd2_X6_isWithin ⟨Nat.le_of_ble_eq_true rfl, Nat.le_of_ble_eq_true rfl⟩) [] rfl rfl rfl hl.1 rfl (Nat.le_of_ble_eq_true rfl) dX6_ifFires_26 ⟨Nat.le_of_ble_eq_true rfl, Nat.le_of_ble_eq_true rfl⟩) hP hD hS hA [] rfl rfl (fun _ => rfl) (fun r_5 _ H locs hw_5 hP hD hS => ?_)
      have hz_r_5 := hw_5.2
      have hw_5 := hw_5.1
      subst hw_5
      have hP : va_P G.1 vwCl (SC h xn xb xe xt xz hh ht hs sn se ++ LC G xn nv nq ++ LC G xe av aq ++ LC G xt yv yq) H := hP
      have hD : va_D A (SC h xn xb xe xt xz hh ht hs sn se ++ LC G xn nv nq ++ LC G xe av aq ++ LC G xt yv yq) := hD
      refine lv_if_eq (tgt := 42) hx hb dX6_ifFires_29 (by decide) (fun c_6 => ?_) (fun c_6 => ?_)
      · refine lv_bipush (v := (-2)) hx hb dX6_ifFires_42 (by decide) ?_
        exact end_I C0 hP hD hS (av, aq, yv, yq) (by simp only [f_X6_ifFires, if_neg c_2, if_neg c_4, if_pos c_6]) rfl dX6_ifFires_44
      · refine lv_iload hx hb dX6_ifFires_32 (lv_at hl 4 rfl) ?_
        refine lv_iconst (v := (nI 0)) hx hb dX6_ifFires_34 (by decide) ?_
        refine lv_iconst (v := (nI 3)) hx hb dX6_ifFires_35 (by decide) ?_
        refine gcall_I (run_S (As := [.int p3, .int (nI 0), .int (nI 3)]) (rest := []) C0 hK hP hD (c_X6_isWithin l G   H.size p3 (nI 0) (nI 3)) (va_cwS 3 hts gX6_ifFires_X6_isWithin rfl rfl rfl cd2_X6_isWithin ⟨Nat.le_of_ble_eq_true rfl, Nat.le_of_ble_eq_true rfl⟩) [] rfl rfl rfl hl.1 rfl (Nat.le_of_ble_eq_true rfl) dX6_ifFires_36 ⟨Nat.le_of_ble_eq_true rfl, Nat.le_of_ble_eq_true rfl⟩) hP hD hS hA [] rfl rfl (fun _ => rfl) (fun r_7 _ H locs hw_7 hP hD hS => ?_)
        have hz_r_7 := hw_7.2
        have hw_7 := hw_7.1
        subst hw_7
        have hP : va_P G.1 vwCl (SC h xn xb xe xt xz hh ht hs sn se ++ LC G xn nv nq ++ LC G xe av aq ++ LC G xt yv yq) H := hP
        have hD : va_D A (SC h xn xb xe xt xz hh ht hs sn se ++ LC G xn nv nq ++ LC G xe av aq ++ LC G xt yv yq) := hD
        refine lv_if_ne (tgt := 45) hx hb dX6_ifFires_39 (by decide) (fun c_8 => ?_) (fun c_8 => ?_)
        · refine lv_aload_n hx hb dX6_ifFires_45 rfl (lv_at hl 0 rfl) ?_
          refine lv_iload_n hx hb dX6_ifFires_46 rfl (lv_at hl 1 rfl) ?_
          refine lv_iload_n hx hb dX6_ifFires_47 rfl (lv_at hl 2 rfl) ?_
          refine lv_iload_n hx hb dX6_ifFires_48 rfl (lv_at hl 3 rfl) ?_
          have hW : BW G A [SC h xn xb xe xt xz hh ht hs sn se, LC G xn nv nq, LC G xe av aq, LC G xt yv yq] H := BW.of hP hD
          refine gcallB_V (bc := [SC h xn xb xe xt xz hh ht hs sn se, LC G xn nv nq, LC G xe av aq, LC G xt yv yq]) (runB_V (As := [.int p0, .int p1, .int p2]) (rest := []) (bc := [SC h xn xb xe xt xz hh ht hs sn se, LC G xn nv nq, LC G xe av aq, LC G xt yv yq]) C0 hK hW (c_X6_lookAhead l G h xn xb xe xt xz hh ht hs sn se nv nq av aq yv yq H.size p0 p1 p2) (cwV 3 hts gX6_ifFires_X6_lookAhead rfl rfl rfl cd_X6_lookAhead ⟨Nat.le_of_ble_eq_true rfl, Nat.le_of_ble_eq_true rfl⟩) [0, 1, 2, 3] rfl rfl rfl 0 0 rfl (ci := 6) rfl rfl rfl rfl hl.1 rfl (Nat.le_of_ble_eq_true rfl) dX6_ifFires_49 ⟨Nat.le_of_ble_eq_true rfl, Nat.le_of_ble_eq_true rfl⟩) hW hS hA [0, 1, 2, 3] rfl rfl rfl (fun u => [SC h xn xb xe xt xz hh ht hs sn se, LC G xn nv nq, LC G xe u.1 u.2.1, LC G xt u.2.2.1 u.2.2.2]) (fun _ => rfl) (fun _ => rfl) (fun u_9 H locs hw_9 hW hS => ?_)
          obtain ⟨hP, hD⟩ := hW.flat
          obtain ⟨av_c9, aq_c9, yv_c9, yq_c9⟩ := u_9
          have hP : va_P G.1 vwCl (SC h xn xb xe xt xz hh ht hs sn se ++ LC G xn nv nq ++ LC G xe av_c9 aq_c9 ++ LC G xt yv_c9 yq_c9) H := hP
          have hD : va_D A (SC h xn xb xe xt xz hh ht hs sn se ++ LC G xn nv nq ++ LC G xe av_c9 aq_c9 ++ LC G xt yv_c9 yq_c9) := hD
          refine lv_iload hx hb dX6_ifFires_52 (lv_at hl 4 rfl) ?_
          by_cases c_10 : p3 = nI 0
          · refine lv_tableIn (tgt := 80) hx hb dX6_ifFires_54 (by rw [c_10]; decide +kernel) (by rw [c_10]; decide +kernel) (by rw [c_10]; rfl) (by decide) ?_
            refine lv_aload_n hx hb dX6_ifFires_80 rfl (lv_at hl 0 rfl) ?_
            refine va_get (D := G.1) (ci := 6) (v := .ref (xe 0)) (C := RX6) (T := TX6) (N := 10) hx hb hts in_X6_ifFires_RX6 hown hK.1 hP 0 rfl rfl 2 (by decide) (hts _ k_X6_ifFires_f19) (fun _ h9 => h9) rfl dX6_ifFires_81 ?_
            refine va_get (D := G.1) (ci := 2) (v := .int (av_c9 41)) (C := RX2) (T := TX2) (N := 14) hx hb hts in_X6_ifFires_RX2 hown hK.1 hP 12 rfl rfl 4 (by decide) (hts _ k_X6_ifFires_f175) (fun _ h9 => h9) rfl dX6_ifFires_84 ?_
            refine lv_aload_n hx hb dX6_ifFires_87 rfl (lv_at hl 0 rfl) ?_
            refine va_get (D := G.1) (ci := 6) (v := .ref (xn 0)) (C := RX6) (T := TX6) (N := 10) hx hb hts in_X6_ifFires_RX6 hown hK.1 hP 0 rfl rfl 0 (by decide) (hts _ k_X6_ifFires_f10) (fun _ h9 => h9) rfl dX6_ifFires_88 ?_
            refine va_get (D := G.1) (ci := 2) (v := .int (nv 41)) (C := RX2) (T := TX2) (N := 14) hx hb hts in_X6_ifFires_RX2 hown hK.1 hP 1 rfl rfl 4 (by decide) (hts _ k_X6_ifFires_f175) (fun _ h9 => h9) rfl dX6_ifFires_91 ?_
            refine lv_isub hx hb dX6_ifFires_94 ?_
            exact end_I C0 hP hD hS (av_c9, aq_c9, yv_c9, yq_c9) (by simp only [f_X6_ifFires, if_neg c_2, if_neg c_4, if_neg c_6, if_neg c_8, hw_9, if_pos c_10]) rfl dX6_ifFires_95
          · by_cases c_11 : p3 = nI 1
            · refine lv_tableIn (tgt := 96) hx hb dX6_ifFires_54 (by rw [c_11]; decide +kernel) (by rw [c_11]; decide +kernel) (by rw [c_11]; rfl) (by decide) ?_
              refine lv_aload_n hx hb dX6_ifFires_96 rfl (lv_at hl 0 rfl) ?_
              refine va_get (D := G.1) (ci := 6) (v := .ref (xe 0)) (C := RX6) (T := TX6) (N := 10) hx hb hts in_X6_ifFires_RX6 hown hK.1 hP 0 rfl rfl 2 (by decide) (hts _ k_X6_ifFires_f19) (fun _ h9 => h9) rfl dX6_ifFires_97 ?_
              refine va_get (D := G.1) (ci := 2) (v := .int (av_c9 42)) (C := RX2) (T := TX2) (N := 14) hx hb hts in_X6_ifFires_RX2 hown hK.1 hP 12 rfl rfl 5 (by decide) (hts _ k_X6_ifFires_f178) (fun _ h9 => h9) rfl dX6_ifFires_100 ?_
              refine lv_aload_n hx hb dX6_ifFires_103 rfl (lv_at hl 0 rfl) ?_
              refine va_get (D := G.1) (ci := 6) (v := .ref (xn 0)) (C := RX6) (T := TX6) (N := 10) hx hb hts in_X6_ifFires_RX6 hown hK.1 hP 0 rfl rfl 0 (by decide) (hts _ k_X6_ifFires_f10) (fun _ h9 => h9) rfl dX6_ifFires_104 ?_
              refine va_get (D := G.1) (ci := 2) (v := .int (nv 42)) (C := RX2) (T := TX2) (N := 14) hx hb hts in_X6_ifFires_RX2 hown hK.1 hP 1 rfl rfl 5 (by decide) (hts _ k_X6_ifFires_f178) (fun _ h9 => h9) rfl dX6_ifFires_107 ?_
              refine lv_isub hx hb dX6_ifFires_110 ?_
              exact end_I C0 hP hD hS (av_c9, aq_c9, yv_c9, yq_c9) (by simp only [f_X6_ifFires, if_neg c_2, if_neg c_4, if_neg c_6, if_neg c_8, hw_9, if_neg c_10, if_pos c_11]) rfl dX6_ifFires_111
            · by_cases c_12 : p3 = nI 2
              · refine lv_tableIn (tgt := 112) hx hb dX6_ifFires_54 (by rw [c_12]; decide +kernel) (by rw [c_12]; decide +kernel) (by rw [c_12]; rfl) (by decide) ?_
                refine lv_aload_n hx hb dX6_ifFires_112 rfl (lv_at hl 0 rfl) ?_
                refine va_get (D := G.1) (ci := 6) (v := .ref (xe 0)) (C := RX6) (T := TX6) (N := 10) hx hb hts in_X6_ifFires_RX6 hown hK.1 hP 0 rfl rfl 2 (by decide) (hts _ k_X6_ifFires_f19) (fun _ h9 => h9) rfl dX6_ifFires_113 ?_
                refine va_get (D := G.1) (ci := 2) (v := .int (av_c9 38)) (C := RX2) (T := TX2) (N := 14) hx hb hts in_X6_ifFires_RX2 hown hK.1 hP 12 rfl rfl 6 (by decide) (hts _ k_X6_ifFires_f181) (fun _ h9 => h9) rfl dX6_ifFires_116 ?_
                refine lv_aload_n hx hb dX6_ifFires_119 rfl (lv_at hl 0 rfl) ?_
                refine va_get (D := G.1) (ci := 6) (v := .ref (xn 0)) (C := RX6) (T := TX6) (N := 10) hx hb hts in_X6_ifFires_RX6 hown hK.1 hP 0 rfl rfl 0 (by decide) (hts _ k_X6_ifFires_f10) (fun _ h9 => h9) rfl dX6_ifFires_120 ?_
                refine va_get (D := G.1) (ci := 2) (v := .int (nv 38)) (C := RX2) (T := TX2) (N := 14) hx hb hts in_X6_ifFires_RX2 hown hK.1 hP 1 rfl rfl 6 (by decide) (hts _ k_X6_ifFires_f181) (fun _ h9 => h9) rfl dX6_ifFires_123 ?_
                refine lv_isub hx hb dX6_ifFires_126 ?_
                exact end_I C0 hP hD hS (av_c9, aq_c9, yv_c9, yq_c9) (by simp only [f_X6_ifFires, if_neg c_2, if_neg c_4, if_neg c_6, if_neg c_8, hw_9, if_neg c_10, if_neg c_11, if_pos c_12]) rfl dX6_ifFires_127
              · have z_c_10 := lv_neT c_10 (show (nI 0).toInt = 0 from by decide +kernel)
                have z_c_11 := lv_neT c_11 (show (nI 1).toInt = 1 from by decide +kernel)
                have z_c_12 := lv_neT c_12 (show (nI 2).toInt = 2 from by decide +kernel)
                refine lv_tableOut (tgt := 128) hx hb dX6_ifFires_54 (by omega) (by decide) ?_
                refine lv_aload_n hx hb dX6_ifFires_128 rfl (lv_at hl 0 rfl) ?_
                refine va_get (D := G.1) (ci := 6) (v := .ref (xe 0)) (C := RX6) (T := TX6) (N := 10) hx hb hts in_X6_ifFires_RX6 hown hK.1 hP 0 rfl rfl 2 (by decide) (hts _ k_X6_ifFires_f19) (fun _ h9 => h9) rfl dX6_ifFires_129 ?_
                have hW : BW G A [SC h xn xb xe xt xz hh ht hs sn se, LC G xn nv nq, LC G xe av_c9 aq_c9, LC G xt yv_c9 yq_c9] H := BW.of hP hD
                refine gcallB_I (bc := [LC G xe av_c9 aq_c9]) (runB_V (As := []) (rest := []) (bc := [LC G xe av_c9 aq_c9]) C0 hK hW (c_X2_safetyStops l G xe av_c9 aq_c9 H.size ) (cwV 0 hts gX6_ifFires_X2_safetyStops rfl rfl rfl cd_X2_safetyStops ⟨Nat.le_of_ble_eq_true rfl, Nat.le_of_ble_eq_true rfl⟩) [2] rfl rfl rfl 2 0 rfl (ci := 2) rfl rfl rfl rfl hl.1 rfl (Nat.le_of_ble_eq_true rfl) dX6_ifFires_132 ⟨Nat.le_of_ble_eq_true rfl, Nat.le_of_ble_eq_true rfl⟩) hW hS hA [2] rfl rfl rfl (fun _ => [LC G xe av_c9 aq_c9]) (fun _ => rfl) (fun _ => rfl) (fun r_13 _ H locs hw_13 hW hS => ?_)
                obtain ⟨hP, hD⟩ := hW.flat
                subst hw_13
                have hP : va_P G.1 vwCl (SC h xn xb xe xt xz hh ht hs sn se ++ LC G xn nv nq ++ LC G xe av_c9 aq_c9 ++ LC G xt yv_c9 yq_c9) H := hP
                have hD : va_D A (SC h xn xb xe xt xz hh ht hs sn se ++ LC G xn nv nq ++ LC G xe av_c9 aq_c9 ++ LC G xt yv_c9 yq_c9) := hD
                refine lv_aload_n hx hb dX6_ifFires_135 rfl (lv_at hl 0 rfl) ?_
                refine va_get (D := G.1) (ci := 6) (v := .ref (xn 0)) (C := RX6) (T := TX6) (N := 10) hx hb hts in_X6_ifFires_RX6 hown hK.1 hP 0 rfl rfl 0 (by decide) (hts _ k_X6_ifFires_f10) (fun _ h9 => h9) rfl dX6_ifFires_136 ?_
                have hW : BW G A [SC h xn xb xe xt xz hh ht hs sn se, LC G xn nv nq, LC G xe av_c9 aq_c9, LC G xt yv_c9 yq_c9] H := BW.of hP hD
                refine gcallB_I (bc := [LC G xn nv nq]) (runB_V (As := []) (rest := [.int (f_X2_safetyStops av_c9)]) (bc := [LC G xn nv nq]) C0 hK hW (c_X2_safetyStops l G xn nv nq H.size ) (cwV 0 hts gX6_ifFires_X2_safetyStops rfl rfl rfl cd_X2_safetyStops ⟨Nat.le_of_ble_eq_true rfl, Nat.le_of_ble_eq_true rfl⟩) [1] rfl rfl rfl 1 0 rfl (ci := 2) rfl rfl rfl rfl hl.1 rfl (Nat.le_of_ble_eq_true rfl) dX6_ifFires_139 ⟨Nat.le_of_ble_eq_true rfl, Nat.le_of_ble_eq_true rfl⟩) hW hS hA [1] rfl rfl rfl (fun _ => [LC G xn nv nq]) (fun _ => rfl) (fun _ => rfl) (fun r_14 _ H locs hw_14 hW hS => ?_)
                obtain ⟨hP, hD⟩ := hW.flat
                subst hw_14
                have hP : va_P G.1 vwCl (SC h xn xb xe xt xz hh ht hs sn se ++ LC G xn nv nq ++ LC G xe av_c9 aq_c9 ++ LC G xt yv_c9 yq_c9) H := hP
                have hD : va_D A (SC h xn xb xe xt xz hh ht hs sn se ++ LC G xn nv nq ++ LC G xe av_c9 aq_c9 ++ LC G xt yv_c9 yq_c9) := hD
                refine lv_isub hx hb dX6_ifFires_142 ?_
                exact end_I C0 hP hD hS (av_c9, aq_c9, yv_c9, yq_c9) (by simp only [f_X6_ifFires, if_neg c_2, if_neg c_4, if_neg c_6, if_neg c_8, hw_9, if_neg c_10, if_neg c_11, if_neg c_12]) rfl dX6_ifFires_143
        · refine lv_bipush (v := (-2)) hx hb dX6_ifFires_42 (by decide) ?_
          exact end_I C0 hP hD hS (av, aq, yv, yq) (by simp only [f_X6_ifFires, if_neg c_2, if_neg c_4, if_neg c_6, if_pos c_8]) rfl dX6_ifFires_44
    · refine lv_bipush (v := (-2)) hx hb dX6_ifFires_18 (by decide) ?_
      exact end_I C0 hP hD hS (av, aq, yv, yq) (by simp only [f_X6_ifFires, if_neg c_2, if_pos c_4]) rfl dX6_ifFires_20

def s_X6_bestFires_33 (nv : (Nat → Int32)) (nq : (Nat → Int32)) (p0 : Int32) : Nat → (Nat → Int32) → (Nat → Int32) → (Nat → Int32) → (Nat → Int32) → Int32 → Int32 → Int32 → Nat → Nat → Int32 × (Nat → Int32) × (Nat → Int32) × (Nat → Int32) × (Nat → Int32)
  | 0, _, _, _, _, _, _, _, _, _ => (0, fun _ => 0, fun _ => 0, fun _ => 0, fun _ => 0)
  | n + 1, av_33, aq_33, yv_33, yq_33, bb, bm, bl, i, j =>
    if (nI 5) < (nI j) then
      if (nI 5) < (nI (i + 1)) then
        (bb, av_33, aq_33, yv_33, yq_33)
      else
        s_X6_bestFires_33 nv nq p0 n av_33 aq_33 yv_33 yq_33 bb bm bl (i + 1) 0
    else
      match f_X6_lookAhead nv nq yv_33 yq_33 (nI i) (nI j) p0 with
      | (av_c6, aq_c6, yv_c6, yq_c6) =>
        if (av_c6 41) = bm then
          if bl ≤ (av_c6 38) then
            if bb = (-5) then
              s_X6_bestFires_33 nv nq p0 n av_c6 aq_c6 yv_c6 yq_c6 (nI ((10 * i) + j)) (av_c6 41) (av_c6 38) i (j + 1)
            else
              if bm < (av_c6 41) then
                s_X6_bestFires_33 nv nq p0 n av_c6 aq_c6 yv_c6 yq_c6 (nI ((10 * i) + j)) (av_c6 41) (av_c6 38) i (j + 1)
              else
                s_X6_bestFires_33 nv nq p0 n av_c6 aq_c6 yv_c6 yq_c6 bb bm bl i (j + 1)
          else
            if bb = (-5) then
              s_X6_bestFires_33 nv nq p0 n av_c6 aq_c6 yv_c6 yq_c6 (nI ((10 * i) + j)) (av_c6 41) (av_c6 38) i (j + 1)
            else
              if bm < (av_c6 41) then
                s_X6_bestFires_33 nv nq p0 n av_c6 aq_c6 yv_c6 yq_c6 (nI ((10 * i) + j)) (av_c6 41) (av_c6 38) i (j + 1)
              else
                s_X6_bestFires_33 nv nq p0 n av_c6 aq_c6 yv_c6 yq_c6 (nI ((10 * i) + j)) (av_c6 41) (av_c6 38) i (j + 1)
        else
          if bb = (-5) then
            s_X6_bestFires_33 nv nq p0 n av_c6 aq_c6 yv_c6 yq_c6 (nI ((10 * i) + j)) (av_c6 41) (av_c6 38) i (j + 1)
          else
            if bm < (av_c6 41) then
              s_X6_bestFires_33 nv nq p0 n av_c6 aq_c6 yv_c6 yq_c6 (nI ((10 * i) + j)) (av_c6 41) (av_c6 38) i (j + 1)
            else
              s_X6_bestFires_33 nv nq p0 n av_c6 aq_c6 yv_c6 yq_c6 bb bm bl i (j + 1)
def f_X6_bestFires (nv : (Nat → Int32)) (nq : (Nat → Int32)) (av : (Nat → Int32)) (aq : (Nat → Int32)) (yv : (Nat → Int32)) (yq : (Nat → Int32)) (p0 : Int32) : Int32 × (Nat → Int32) × (Nat → Int32) × (Nat → Int32) × (Nat → Int32) :=
  if (f_X6_isWithin p0 (nI 1) (nI 100)) = 0 then
    ((-2), av, aq, yv, yq)
  else
    s_X6_bestFires_33 nv nq p0 42 av aq yv yq (-5) (nI 0) (nI 0) 0 0
set_option maxRecDepth 20000 in
theorem k_X6_bestFires_f175 : Cond.fieldLink RX6 175 "SteamRations$Laundry" "washed" "I" ∈ wsX6_bestFires := by decide +kernel
set_option maxRecDepth 20000 in
theorem k_X6_bestFires_f181 : Cond.fieldLink RX6 181 "SteamRations$Laundry" "burnt" "I" ∈ wsX6_bestFires := by decide +kernel
set_option maxRecDepth 20000 in
theorem k_X6_bestFires_f19 : Cond.fieldLink RX6 19 "SteamRations" "ahead" "LSteamRations$Laundry;" ∈ wsX6_bestFires := by decide +kernel
set_option maxRecDepth 20000 in
theorem in_X6_bestFires_RX2 : ∀ w ∈ u_ws RX2 TX2 14, w ∈ wsX6_bestFires := by decide +kernel
set_option maxRecDepth 20000 in
theorem in_X6_bestFires_RX6 : ∀ w ∈ u_ws RX6 TX6 10, w ∈ wsX6_bestFires := by decide +kernel
theorem cd_X6_bestFires : yX6_bestFires.cls = RX6 ∧ yX6_bestFires.cls ≠ "java/lang/invoke/MethodHandle" ∧ yX6_bestFires.cls ≠ "java/lang/invoke/VarHandle" ∧ (parseMethodDescriptor yX6_bestFires.desc).map (fun d => d.parameters.length) = some 1 := by decide +kernel
set_option maxHeartbeats 4000000 in
set_option maxRecDepth 100000 in
theorem c_X6_bestFires (l : Launch) (G : GG) (h : Nat) (xn : Nat → Nat) (xb : Nat → Nat) (xe : Nat → Nat) (xt : Nat → Nat) (xz : Nat → Nat) (hh : Nat) (ht : Nat) (hs : Int32) (sn : Int32) (se : Int32) (nv : (Nat → Int32)) (nq : (Nat → Int32)) (av : (Nat → Int32)) (aq : (Nat → Int32)) (yv : (Nat → Int32)) (yq : (Nat → Int32)) (sz : Nat) (p0 : Int32)  : Met l yX6_bestFires wsX6_bestFires ({ frames := 6, cells := 0, slots := 0, locals := 159 }) (Pre G [.ref h, .int p0] (SC h xn xb xe xt xz hh ht hs sn se ++ LC G xn nv nq ++ LC G xe av aq ++ LC G xt yv yq) sz) (PI G (va_A (SC h xn xb xe xt xz hh ht hs sn se ++ LC G xn nv nq ++ LC G xe av aq ++ LC G xt yv yq) sz) (fun r (u : (Nat → Int32) × (Nat → Int32) × (Nat → Int32) × (Nat → Int32)) => f_X6_bestFires nv nq av aq yv yq p0 = (r, u)) (fun u : (Nat → Int32) × (Nat → Int32) × (Nat → Int32) × (Nat → Int32) => SC h xn xb xe xt xz hh ht hs sn se ++ LC G xn nv nq ++ LC G xe u.1 u.2.1 ++ LC G xt u.2.2.1 u.2.2.2)) 0 0 (va_A (SC h xn xb xe xt xz hh ht hs sn se ++ LC G xn nv nq ++ LC G xe av aq ++ LC G xt yv yq) sz) := by
  refine Met.walk (cc := cX6_bestFires) (maxL := 8) (ret := (some .int)) (Qc := fun A => PI G A (fun r (u : (Nat → Int32) × (Nat → Int32) × (Nat → Int32) × (Nat → Int32)) => f_X6_bestFires nv nq av aq yv yq p0 = (r, u)) (fun u : (Nat → Int32) × (Nat → Int32) × (Nat → Int32) × (Nat → Int32) => SC h xn xb xe xt xz hh ht hs sn se ++ LC G xn nv nq ++ LC G xe u.1 u.2.1 ++ LC G xt u.2.2.1 u.2.2.2)) (by decide) rfl (Nat.le_of_ble_eq_true rfl) ?_
  intro p e s m below meth c A H C0 _ hK hsz hP hD hA hS ls hl
  have hx := C0.1
  have hb := C0.2.1
  have hown : s.vm.findClass RX6 = some m.cls := C0.2.2.2.2.1
  have hml := C0.2.2.2.1
  have hts : ∀ w ∈ wsX6_bestFires, w.before [.ref h, .int p0].toArray s = true := C0.2.2.2.2.2.1
  have hl : lv_has ls 8 [(0, .ref h), (1, .int p0)] := hl
  have h_X6_bestFires_33 : ∀ (n : Nat) (av_33 : (Nat → Int32)) (aq_33 : (Nat → Int32)) (yv_33 : (Nat → Int32)) (yq_33 : (Nat → Int32)) (bb : Int32) (bm : Int32) (bl : Int32) (i : Nat) (j : Nat), (5 - i) * 7 + (6 - j) < n → (i ≤ 5) → (j ≤ 6) → f_X6_bestFires nv nq av aq yv yq p0 = s_X6_bestFires_33 nv nq p0 n av_33 aq_33 yv_33 yq_33 bb bm bl i j → ∀ (H : Heap) (locs : List Loc) (ls : Array Slot), va_P G.1 vwCl (SC h xn xb xe xt xz hh ht hs sn se ++ LC G xn nv nq ++ LC G xe av_33 aq_33 ++ LC G xt yv_33 yq_33) H → va_D A (SC h xn xb xe xt xz hh ht hs sn se ++ LC G xn nv nq ++ LC G xe av_33 aq_33 ++ LC G xt yv_33 yq_33) → va_S A s.heap H locs → lv_has ls 8 [(6, .int (nI j)), (5, .int (nI i)), (4, .int bl), (3, .int bm), (2, .int bb), (0, .ref h), (1, .int p0)] → W p l e ({ frames := 6, cells := 0, slots := 0, locals := 159 }) s m ([.ref h, .int p0] : List Value).toArray below meth c H locs 0 0 (MQ below (PI G A (fun r (u : (Nat → Int32) × (Nat → Int32) × (Nat → Int32) × (Nat → Int32)) => f_X6_bestFires nv nq av aq yv yq p0 = (r, u)) (fun u : (Nat → Int32) × (Nat → Int32) × (Nat → Int32) × (Nat → Int32) => SC h xn xb xe xt xz hh ht hs sn se ++ LC G xn nv nq ++ LC G xe u.1 u.2.1 ++ LC G xt u.2.2.1 u.2.2.2)) ([.ref h, .int p0] : List Value).toArray s 0 0 A) (F0 m 33 ls []) := by
    intro n
    induction n with
    | zero =>
      intro av_33 aq_33 yv_33 yq_33 bb bm bl i j hm
      exact absurd hm (Nat.not_lt_zero _)
    | succ n ih =>
      intro av_33 aq_33 yv_33 yq_33 bb bm bl i j hm hi hj hE H locs ls hP hD hS hl
      refine lv_iload hx hb dX6_bestFires_33 (lv_at hl 0 rfl) ?_
      refine lv_iconst (v := (nI 5)) hx hb dX6_bestFires_35 (by decide) ?_
      refine lv_icmp_gt (tgt := 132) hx hb dX6_bestFires_36 (by decide) (fun c_4 => ?_) (fun c_4 => ?_)
      · have c_4n : 5 < j := (nI_ltI (by omega) (by omega)).mp c_4
        refine lv_iinc (v := (nI (i + 1))) (lv' := [(5, .int (nI (i + 1))), (6, .int (nI j)), (4, .int bl), (3, .int bm), (2, .int bb), (0, .ref h), (1, .int p0)]) hx hb dX6_bestFires_132 hl (k := 1) rfl (inc1 i) (by decide) rfl (fun ls hl => ?_)
        refine lv_goto (tgt := 24) hx hb dX6_bestFires_135 (by decide) ?_
        refine lv_iload hx hb dX6_bestFires_24 (lv_at hl 0 rfl) ?_
        refine lv_iconst (v := (nI 5)) hx hb dX6_bestFires_26 (by decide) ?_
        refine lv_icmp_gt (tgt := 138) hx hb dX6_bestFires_27 (by decide) (fun c_5 => ?_) (fun c_5 => ?_)
        · have c_5n : 5 < (i + 1) := (nI_ltI (by omega) (by omega)).mp c_5
          refine lv_iload_n hx hb dX6_bestFires_138 rfl (lv_at hl 4 rfl) ?_
          exact end_I C0 hP hD hS (av_33, aq_33, yv_33, yq_33) (hE.trans (by simp only [s_X6_bestFires_33, if_pos c_4, if_pos c_5])) rfl dX6_bestFires_139
        · have c_5n : ¬ (5 < (i + 1)) := fun z => c_5 ((nI_ltI (by omega) (by omega)).mpr z)
          refine lv_iconst (v := (nI 0)) hx hb dX6_bestFires_30 (by decide) ?_
          refine lv_istore (lv' := [(6, .int (nI 0)), (5, .int (nI (i + 1))), (4, .int bl), (3, .int bm), (2, .int bb), (0, .ref h), (1, .int p0)]) hx hb dX6_bestFires_31 hl (by decide) rfl (fun ls hl => ?_)
          exact ih av_33 aq_33 yv_33 yq_33 bb bm bl (i + 1) 0 (by omega) (by omega) (by omega) (hE.trans (by simp only [s_X6_bestFires_33, if_pos c_4, if_neg c_5])) _ _ _ hP hD hS (lv_sub hl [0, 1, 2, 3, 4, 5, 6] rfl)
      · have c_4n : ¬ (5 < j) := fun z => c_4 ((nI_ltI (by omega) (by omega)).mpr z)
        refine lv_aload_n hx hb dX6_bestFires_39 rfl (lv_at hl 5 rfl) ?_
        refine lv_iload hx hb dX6_bestFires_40 (lv_at hl 1 rfl) ?_
        refine lv_iload hx hb dX6_bestFires_42 (lv_at hl 0 rfl) ?_
        refine lv_iload_n hx hb dX6_bestFires_44 rfl (lv_at hl 6 rfl) ?_
        have hW : BW G A [SC h xn xb xe xt xz hh ht hs sn se, LC G xn nv nq, LC G xe av_33 aq_33, LC G xt yv_33 yq_33] H := BW.of hP hD
        refine gcallB_V (bc := [SC h xn xb xe xt xz hh ht hs sn se, LC G xn nv nq, LC G xe av_33 aq_33, LC G xt yv_33 yq_33]) (runB_V (As := [.int (nI i), .int (nI j), .int p0]) (rest := []) (bc := [SC h xn xb xe xt xz hh ht hs sn se, LC G xn nv nq, LC G xe av_33 aq_33, LC G xt yv_33 yq_33]) C0 hK hW (c_X6_lookAhead l G h xn xb xe xt xz hh ht hs sn se nv nq av_33 aq_33 yv_33 yq_33 H.size (nI i) (nI j) p0) (cwV 3 hts gX6_bestFires_X6_lookAhead rfl rfl rfl cd_X6_lookAhead ⟨Nat.le_of_ble_eq_true rfl, Nat.le_of_ble_eq_true rfl⟩) [0, 1, 2, 3] rfl rfl rfl 0 0 rfl (ci := 6) rfl rfl rfl rfl hl.1 rfl (Nat.le_of_ble_eq_true rfl) dX6_bestFires_45 ⟨Nat.le_of_ble_eq_true rfl, Nat.le_of_ble_eq_true rfl⟩) hW hS hA [0, 1, 2, 3] rfl rfl rfl (fun u => [SC h xn xb xe xt xz hh ht hs sn se, LC G xn nv nq, LC G xe u.1 u.2.1, LC G xt u.2.2.1 u.2.2.2]) (fun _ => rfl) (fun _ => rfl) (fun u_6 H locs hw_6 hW hS => ?_)
        obtain ⟨hP, hD⟩ := hW.flat
        obtain ⟨av_c6, aq_c6, yv_c6, yq_c6⟩ := u_6
        have hP : va_P G.1 vwCl (SC h xn xb xe xt xz hh ht hs sn se ++ LC G xn nv nq ++ LC G xe av_c6 aq_c6 ++ LC G xt yv_c6 yq_c6) H := hP
        have hD : va_D A (SC h xn xb xe xt xz hh ht hs sn se ++ LC G xn nv nq ++ LC G xe av_c6 aq_c6 ++ LC G xt yv_c6 yq_c6) := hD
        refine lv_aload_n hx hb dX6_bestFires_48 rfl (lv_at hl 5 rfl) ?_
        refine va_get (D := G.1) (ci := 6) (v := .ref (xe 0)) (C := RX6) (T := TX6) (N := 10) hx hb hts in_X6_bestFires_RX6 hown hK.1 hP 0 rfl rfl 2 (by decide) (hts _ k_X6_bestFires_f19) (fun _ h9 => h9) rfl dX6_bestFires_49 ?_
        refine va_get (D := G.1) (ci := 2) (v := .int (av_c6 41)) (C := RX2) (T := TX2) (N := 14) hx hb hts in_X6_bestFires_RX2 hown hK.1 hP 12 rfl rfl 4 (by decide) (hts _ k_X6_bestFires_f175) (fun _ h9 => h9) rfl dX6_bestFires_52 ?_
        refine lv_iload_n hx hb dX6_bestFires_55 rfl (lv_at hl 3 rfl) ?_
        refine lv_icmp_ne (tgt := 75) hx hb dX6_bestFires_56 (by decide) (fun c_7 => ?_) (fun c_7 => ?_)
        · refine lv_iconst (v := (nI 0)) hx hb dX6_bestFires_75 (by decide) ?_
          refine lv_istore (lv' := [(7, .int (nI 0)), (6, .int (nI j)), (5, .int (nI i)), (4, .int bl), (3, .int bm), (2, .int bb), (0, .ref h), (1, .int p0)]) hx hb dX6_bestFires_76 hl (by decide) rfl (fun ls hl => ?_)
          refine lv_iload_n hx hb dX6_bestFires_78 rfl (lv_at hl 5 rfl) ?_
          refine lv_bipush (v := (-5)) hx hb dX6_bestFires_79 (by decide) ?_
          refine lv_icmp_eq (tgt := 100) hx hb dX6_bestFires_81 (by decide) (fun c_8 => ?_) (fun c_8 => ?_)
          · refine lv_bipush (v := (nI 10)) hx hb dX6_bestFires_100 (by decide) ?_
            refine lv_iload hx hb dX6_bestFires_102 (lv_at hl 2 rfl) ?_
            refine n_imul (i := 10) (j := i) hx hb dX6_bestFires_104 ?_
            refine lv_iload hx hb dX6_bestFires_105 (lv_at hl 1 rfl) ?_
            refine n_iadd (i := 10 * i) (j := j) hx hb dX6_bestFires_107 ?_
            refine W.eq (g2 := F0 m 108 ls ([.int (nI ((10 * i) + j))])) (by first | rfl | (simp only [F0]; congr 3; omega)) ?_
            refine lv_istore_n (lv' := [(2, .int (nI ((10 * i) + j))), (7, .int (nI 0)), (6, .int (nI j)), (5, .int (nI i)), (4, .int bl), (3, .int bm), (0, .ref h), (1, .int p0)]) hx hb dX6_bestFires_108 rfl hl (by decide) rfl (fun ls hl => ?_)
            refine lv_aload_n hx hb dX6_bestFires_109 rfl (lv_at hl 6 rfl) ?_
            refine va_get (D := G.1) (ci := 6) (v := .ref (xe 0)) (C := RX6) (T := TX6) (N := 10) hx hb hts in_X6_bestFires_RX6 hown hK.1 hP 0 rfl rfl 2 (by decide) (hts _ k_X6_bestFires_f19) (fun _ h9 => h9) rfl dX6_bestFires_110 ?_
            refine va_get (D := G.1) (ci := 2) (v := .int (av_c6 41)) (C := RX2) (T := TX2) (N := 14) hx hb hts in_X6_bestFires_RX2 hown hK.1 hP 12 rfl rfl 4 (by decide) (hts _ k_X6_bestFires_f175) (fun _ h9 => h9) rfl dX6_bestFires_113 ?_
            refine lv_istore_n (lv' := [(3, .int (av_c6 41)), (2, .int (nI ((10 * i) + j))), (7, .int (nI 0)), (6, .int (nI j)), (5, .int (nI i)), (4, .int bl), (0, .ref h), (1, .int p0)]) hx hb dX6_bestFires_116 rfl hl (by decide) rfl (fun ls hl => ?_)
            refine lv_aload_n hx hb dX6_bestFires_117 rfl (lv_at hl 6 rfl) ?_
            refine va_get (D := G.1) (ci := 6) (v := .ref (xe 0)) (C := RX6) (T := TX6) (N := 10) hx hb hts in_X6_bestFires_RX6 hown hK.1 hP 0 rfl rfl 2 (by decide) (hts _ k_X6_bestFires_f19) (fun _ h9 => h9) rfl dX6_bestFires_118 ?_
            refine va_get (D := G.1) (ci := 2) (v := .int (av_c6 38)) (C := RX2) (T := TX2) (N := 14) hx hb hts in_X6_bestFires_RX2 hown hK.1 hP 12 rfl rfl 6 (by decide) (hts _ k_X6_bestFires_f181) (fun _ h9 => h9) rfl dX6_bestFires_121 ?_
            refine lv_istore (lv' := [(4, .int (av_c6 38)), (3, .int (av_c6 41)), (2, .int (nI ((10 * i) + j))), (7, .int (nI 0)), (6, .int (nI j)), (5, .int (nI i)), (0, .ref h), (1, .int p0)]) hx hb dX6_bestFires_124 hl (by decide) rfl (fun ls hl => ?_)
            refine lv_iinc (v := (nI (j + 1))) (lv' := [(6, .int (nI (j + 1))), (4, .int (av_c6 38)), (3, .int (av_c6 41)), (2, .int (nI ((10 * i) + j))), (7, .int (nI 0)), (5, .int (nI i)), (0, .ref h), (1, .int p0)]) hx hb dX6_bestFires_126 hl (k := 4) rfl (inc1 j) (by decide) rfl (fun ls hl => ?_)
            refine lv_goto (tgt := 33) hx hb dX6_bestFires_129 (by decide) ?_
            exact ih av_c6 aq_c6 yv_c6 yq_c6 (nI ((10 * i) + j)) (av_c6 41) (av_c6 38) i (j + 1) (by omega) (by omega) (by omega) (hE.trans (by simp only [s_X6_bestFires_33, if_neg c_4, hw_6, if_neg c_7, if_pos c_8])) _ _ _ hP hD hS (lv_sub hl [0, 5, 1, 2, 3, 6, 7] rfl)
          · refine lv_aload_n hx hb dX6_bestFires_84 rfl (lv_at hl 6 rfl) ?_
            refine va_get (D := G.1) (ci := 6) (v := .ref (xe 0)) (C := RX6) (T := TX6) (N := 10) hx hb hts in_X6_bestFires_RX6 hown hK.1 hP 0 rfl rfl 2 (by decide) (hts _ k_X6_bestFires_f19) (fun _ h9 => h9) rfl dX6_bestFires_85 ?_
            refine va_get (D := G.1) (ci := 2) (v := .int (av_c6 41)) (C := RX2) (T := TX2) (N := 14) hx hb hts in_X6_bestFires_RX2 hown hK.1 hP 12 rfl rfl 4 (by decide) (hts _ k_X6_bestFires_f175) (fun _ h9 => h9) rfl dX6_bestFires_88 ?_
            refine lv_iload_n hx hb dX6_bestFires_91 rfl (lv_at hl 4 rfl) ?_
            refine lv_icmp_gt (tgt := 100) hx hb dX6_bestFires_92 (by decide) (fun c_9 => ?_) (fun c_9 => ?_)
            · refine lv_bipush (v := (nI 10)) hx hb dX6_bestFires_100 (by decide) ?_
              refine lv_iload hx hb dX6_bestFires_102 (lv_at hl 2 rfl) ?_
              refine n_imul (i := 10) (j := i) hx hb dX6_bestFires_104 ?_
              refine lv_iload hx hb dX6_bestFires_105 (lv_at hl 1 rfl) ?_
              refine n_iadd (i := 10 * i) (j := j) hx hb dX6_bestFires_107 ?_
              refine W.eq (g2 := F0 m 108 ls ([.int (nI ((10 * i) + j))])) (by first | rfl | (simp only [F0]; congr 3; omega)) ?_
              refine lv_istore_n (lv' := [(2, .int (nI ((10 * i) + j))), (7, .int (nI 0)), (6, .int (nI j)), (5, .int (nI i)), (4, .int bl), (3, .int bm), (0, .ref h), (1, .int p0)]) hx hb dX6_bestFires_108 rfl hl (by decide) rfl (fun ls hl => ?_)
              refine lv_aload_n hx hb dX6_bestFires_109 rfl (lv_at hl 6 rfl) ?_
              refine va_get (D := G.1) (ci := 6) (v := .ref (xe 0)) (C := RX6) (T := TX6) (N := 10) hx hb hts in_X6_bestFires_RX6 hown hK.1 hP 0 rfl rfl 2 (by decide) (hts _ k_X6_bestFires_f19) (fun _ h9 => h9) rfl dX6_bestFires_110 ?_
              refine va_get (D := G.1) (ci := 2) (v := .int (av_c6 41)) (C := RX2) (T := TX2) (N := 14) hx hb hts in_X6_bestFires_RX2 hown hK.1 hP 12 rfl rfl 4 (by decide) (hts _ k_X6_bestFires_f175) (fun _ h9 => h9) rfl dX6_bestFires_113 ?_
              refine lv_istore_n (lv' := [(3, .int (av_c6 41)), (2, .int (nI ((10 * i) + j))), (7, .int (nI 0)), (6, .int (nI j)), (5, .int (nI i)), (4, .int bl), (0, .ref h), (1, .int p0)]) hx hb dX6_bestFires_116 rfl hl (by decide) rfl (fun ls hl => ?_)
              refine lv_aload_n hx hb dX6_bestFires_117 rfl (lv_at hl 6 rfl) ?_
              refine va_get (D := G.1) (ci := 6) (v := .ref (xe 0)) (C := RX6) (T := TX6) (N := 10) hx hb hts in_X6_bestFires_RX6 hown hK.1 hP 0 rfl rfl 2 (by decide) (hts _ k_X6_bestFires_f19) (fun _ h9 => h9) rfl dX6_bestFires_118 ?_
              refine va_get (D := G.1) (ci := 2) (v := .int (av_c6 38)) (C := RX2) (T := TX2) (N := 14) hx hb hts in_X6_bestFires_RX2 hown hK.1 hP 12 rfl rfl 6 (by decide) (hts _ k_X6_bestFires_f181) (fun _ h9 => h9) rfl dX6_bestFires_121 ?_
              refine lv_istore (lv' := [(4, .int (av_c6 38)), (3, .int (av_c6 41)), (2, .int (nI ((10 * i) + j))), (7, .int (nI 0)), (6, .int (nI j)), (5, .int (nI i)), (0, .ref h), (1, .int p0)]) hx hb dX6_bestFires_124 hl (by decide) rfl (fun ls hl => ?_)
              refine lv_iinc (v := (nI (j + 1))) (lv' := [(6, .int (nI (j + 1))), (4, .int (av_c6 38)), (3, .int (av_c6 41)), (2, .int (nI ((10 * i) + j))), (7, .int (nI 0)), (5, .int (nI i)), (0, .ref h), (1, .int p0)]) hx hb dX6_bestFires_126 hl (k := 4) rfl (inc1 j) (by decide) rfl (fun ls hl => ?_)
              refine lv_goto (tgt := 33) hx hb dX6_bestFires_129 (by decide) ?_
              exact ih av_c6 aq_c6 yv_c6 yq_c6 (nI ((10 * i) + j)) (av_c6 41) (av_c6 38) i (j + 1) (by omega) (by omega) (by omega) (hE.trans (by simp only [s_X6_bestFires_33, if_neg c_4, hw_6, if_neg c_7, if_neg c_8, if_pos c_9])) _ _ _ hP hD hS (lv_sub hl [0, 5, 1, 2, 3, 6, 7] rfl)
            · refine lv_iload hx hb dX6_bestFires_95 (lv_at hl 0 rfl) ?_
              refine lv_if_eq (tgt := 126) hx hb dX6_bestFires_97 (by decide) (fun c_10 => ?_) (fun c_10 => absurd (by decide +kernel) c_10)
              refine lv_iinc (v := (nI (j + 1))) (lv' := [(6, .int (nI (j + 1))), (7, .int (nI 0)), (5, .int (nI i)), (4, .int bl), (3, .int bm), (2, .int bb), (0, .ref h), (1, .int p0)]) hx hb dX6_bestFires_126 hl (k := 1) rfl (inc1 j) (by decide) rfl (fun ls hl => ?_)
              refine lv_goto (tgt := 33) hx hb dX6_bestFires_129 (by decide) ?_
              exact ih av_c6 aq_c6 yv_c6 yq_c6 bb bm bl i (j + 1) (by omega) (by omega) (by omega) (hE.trans (by simp only [s_X6_bestFires_33, if_neg c_4, hw_6, if_neg c_7, if_neg c_8, if_neg c_9])) _ _ _ hP hD hS (lv_sub hl [0, 2, 3, 4, 5, 6, 7] rfl)
        · refine lv_aload_n hx hb dX6_bestFires_59 rfl (lv_at hl 5 rfl) ?_
          refine va_get (D := G.1) (ci := 6) (v := .ref (xe 0)) (C := RX6) (T := TX6) (N := 10) hx hb hts in_X6_bestFires_RX6 hown hK.1 hP 0 rfl rfl 2 (by decide) (hts _ k_X6_bestFires_f19) (fun _ h9 => h9) rfl dX6_bestFires_60 ?_
          refine va_get (D := G.1) (ci := 2) (v := .int (av_c6 38)) (C := RX2) (T := TX2) (N := 14) hx hb hts in_X6_bestFires_RX2 hown hK.1 hP 12 rfl rfl 6 (by decide) (hts _ k_X6_bestFires_f181) (fun _ h9 => h9) rfl dX6_bestFires_63 ?_
          refine lv_iload hx hb dX6_bestFires_66 (lv_at hl 2 rfl) ?_
          refine lv_icmp_ge (tgt := 75) hx hb dX6_bestFires_68 (by decide) (fun c_11 => ?_) (fun c_11 => ?_)
          · refine lv_iconst (v := (nI 0)) hx hb dX6_bestFires_75 (by decide) ?_
            refine lv_istore (lv' := [(7, .int (nI 0)), (6, .int (nI j)), (5, .int (nI i)), (4, .int bl), (3, .int bm), (2, .int bb), (0, .ref h), (1, .int p0)]) hx hb dX6_bestFires_76 hl (by decide) rfl (fun ls hl => ?_)
            refine lv_iload_n hx hb dX6_bestFires_78 rfl (lv_at hl 5 rfl) ?_
            refine lv_bipush (v := (-5)) hx hb dX6_bestFires_79 (by decide) ?_
            refine lv_icmp_eq (tgt := 100) hx hb dX6_bestFires_81 (by decide) (fun c_12 => ?_) (fun c_12 => ?_)
            · refine lv_bipush (v := (nI 10)) hx hb dX6_bestFires_100 (by decide) ?_
              refine lv_iload hx hb dX6_bestFires_102 (lv_at hl 2 rfl) ?_
              refine n_imul (i := 10) (j := i) hx hb dX6_bestFires_104 ?_
              refine lv_iload hx hb dX6_bestFires_105 (lv_at hl 1 rfl) ?_
              refine n_iadd (i := 10 * i) (j := j) hx hb dX6_bestFires_107 ?_
              refine W.eq (g2 := F0 m 108 ls ([.int (nI ((10 * i) + j))])) (by first | rfl | (simp only [F0]; congr 3; omega)) ?_
              refine lv_istore_n (lv' := [(2, .int (nI ((10 * i) + j))), (7, .int (nI 0)), (6, .int (nI j)), (5, .int (nI i)), (4, .int bl), (3, .int bm), (0, .ref h), (1, .int p0)]) hx hb dX6_bestFires_108 rfl hl (by decide) rfl (fun ls hl => ?_)
              refine lv_aload_n hx hb dX6_bestFires_109 rfl (lv_at hl 6 rfl) ?_
              refine va_get (D := G.1) (ci := 6) (v := .ref (xe 0)) (C := RX6) (T := TX6) (N := 10) hx hb hts in_X6_bestFires_RX6 hown hK.1 hP 0 rfl rfl 2 (by decide) (hts _ k_X6_bestFires_f19) (fun _ h9 => h9) rfl dX6_bestFires_110 ?_
              refine va_get (D := G.1) (ci := 2) (v := .int (av_c6 41)) (C := RX2) (T := TX2) (N := 14) hx hb hts in_X6_bestFires_RX2 hown hK.1 hP 12 rfl rfl 4 (by decide) (hts _ k_X6_bestFires_f175) (fun _ h9 => h9) rfl dX6_bestFires_113 ?_
              refine lv_istore_n (lv' := [(3, .int (av_c6 41)), (2, .int (nI ((10 * i) + j))), (7, .int (nI 0)), (6, .int (nI j)), (5, .int (nI i)), (4, .int bl), (0, .ref h), (1, .int p0)]) hx hb dX6_bestFires_116 rfl hl (by decide) rfl (fun ls hl => ?_)
              refine lv_aload_n hx hb dX6_bestFires_117 rfl (lv_at hl 6 rfl) ?_
              refine va_get (D := G.1) (ci := 6) (v := .ref (xe 0)) (C := RX6) (T := TX6) (N := 10) hx hb hts in_X6_bestFires_RX6 hown hK.1 hP 0 rfl rfl 2 (by decide) (hts _ k_X6_bestFires_f19) (fun _ h9 => h9) rfl dX6_bestFires_118 ?_
              refine va_get (D := G.1) (ci := 2) (v := .int (av_c6 38)) (C := RX2) (T := TX2) (N := 14) hx hb hts in_X6_bestFires_RX2 hown hK.1 hP 12 rfl rfl 6 (by decide) (hts _ k_X6_bestFires_f181) (fun _ h9 => h9) rfl dX6_bestFires_121 ?_
              refine lv_istore (lv' := [(4, .int (av_c6 38)), (3, .int (av_c6 41)), (2, .int (nI ((10 * i) + j))), (7, .int (nI 0)), (6, .int (nI j)), (5, .int (nI i)), (0, .ref h), (1, .int p0)]) hx hb dX6_bestFires_124 hl (by decide) rfl (fun ls hl => ?_)
              refine lv_iinc (v := (nI (j + 1))) (lv' := [(6, .int (nI (j + 1))), (4, .int (av_c6 38)), (3, .int (av_c6 41)), (2, .int (nI ((10 * i) + j))), (7, .int (nI 0)), (5, .int (nI i)), (0, .ref h), (1, .int p0)]) hx hb dX6_bestFires_126 hl (k := 4) rfl (inc1 j) (by decide) rfl (fun ls hl => ?_)
              refine lv_goto (tgt := 33) hx hb dX6_bestFires_129 (by decide) ?_
              exact ih av_c6 aq_c6 yv_c6 yq_c6 (nI ((10 * i) + j)) (av_c6 41) (av_c6 38) i (j + 1) (by omega) (by omega) (by omega) (hE.trans (by simp only [s_X6_bestFires_33, if_neg c_4, hw_6, if_pos c_7, if_pos c_11, if_pos c_12])) _ _ _ hP hD hS (lv_sub hl [0, 5, 1, 2, 3, 6, 7] rfl)
            · refine lv_aload_n hx hb dX6_bestFires_84 rfl (lv_at hl 6 rfl) ?_
              refine va_get (D := G.1) (ci := 6) (v := .ref (xe 0)) (C := RX6) (T := TX6) (N := 10) hx hb hts in_X6_bestFires_RX6 hown hK.1 hP 0 rfl rfl 2 (by decide) (hts _ k_X6_bestFires_f19) (fun _ h9 => h9) rfl dX6_bestFires_85 ?_
              refine va_get (D := G.1) (ci := 2) (v := .int (av_c6 41)) (C := RX2) (T := TX2) (N := 14) hx hb hts in_X6_bestFires_RX2 hown hK.1 hP 12 rfl rfl 4 (by decide) (hts _ k_X6_bestFires_f175) (fun _ h9 => h9) rfl dX6_bestFires_88 ?_
              refine lv_iload_n hx hb dX6_bestFires_91 rfl (lv_at hl 4 rfl) ?_
              refine lv_icmp_gt (tgt := 100) hx hb dX6_bestFires_92 (by decide) (fun c_13 => ?_) (fun c_13 => ?_)
              · refine lv_bipush (v := (nI 10)) hx hb dX6_bestFires_100 (by decide) ?_
                refine lv_iload hx hb dX6_bestFires_102 (lv_at hl 2 rfl) ?_
                refine n_imul (i := 10) (j := i) hx hb dX6_bestFires_104 ?_
                refine lv_iload hx hb dX6_bestFires_105 (lv_at hl 1 rfl) ?_
                refine n_iadd (i := 10 * i) (j := j) hx hb dX6_bestFires_107 ?_
                refine W.eq (g2 := F0 m 108 ls ([.int (nI ((10 * i) + j))])) (by first | rfl | (simp only [F0]; congr 3; omega)) ?_
                refine lv_istore_n (lv' := [(2, .int (nI ((10 * i) + j))), (7, .int (nI 0)), (6, .int (nI j)), (5, .int (nI i)), (4, .int bl), (3, .int bm), (0, .ref h), (1, .int p0)]) hx hb dX6_bestFires_108 rfl hl (by decide) rfl (fun ls hl => ?_)
                refine lv_aload_n hx hb dX6_bestFires_109 rfl (lv_at hl 6 rfl) ?_
                refine va_get (D := G.1) (ci := 6) (v := .ref (xe 0)) (C := RX6) (T := TX6) (N := 10) hx hb hts in_X6_bestFires_RX6 hown hK.1 hP 0 rfl rfl 2 (by decide) (hts _ k_X6_bestFires_f19) (fun _ h9 => h9) rfl dX6_bestFires_110 ?_
                refine va_get (D := G.1) (ci := 2) (v := .int (av_c6 41)) (C := RX2) (T := TX2) (N := 14) hx hb hts in_X6_bestFires_RX2 hown hK.1 hP 12 rfl rfl 4 (by decide) (hts _ k_X6_bestFires_f175) (fun _ h9 => h9) rfl dX6_bestFires_113 ?_
                refine lv_istore_n (lv' := [(3, .int (av_c6 41)), (2, .int (nI ((10 * i) + j))), (7, .int (nI 0)), (6, .int (nI j)), (5, .int (nI i)), (4, .int bl), (0, .ref h), (1, .int p0)]) hx hb dX6_bestFires_116 rfl hl (by decide) rfl (fun ls hl => ?_)
                refine lv_aload_n hx hb dX6_bestFires_117 rfl (lv_at hl 6 rfl) ?_
                refine va_get (D := G.1) (ci := 6) (v := .ref (xe 0)) (C := RX6) (T := TX6) (N := 10) hx hb hts in_X6_bestFires_RX6 hown hK.1 hP 0 rfl rfl 2 (by decide) (hts _ k_X6_bestFires_f19) (fun _ h9 => h9) rfl dX6_bestFires_118 ?_
                refine va_get (D := G.1) (ci := 2) (v := .int (av_c6 38)) (C := RX2) (T := TX2) (N := 14) hx hb hts in_X6_bestFires_RX2 hown hK.1 hP 12 rfl rfl 6 (by decide) (hts _ k_X6_bestFires_f181) (fun _ h9 => h9) rfl dX6_bestFires_121 ?_
                refine lv_istore (lv' := [(4, .int (av_c6 38)), (3, .int (av_c6 41)), (2, .int (nI ((10 * i) + j))), (7, .int (nI 0)), (6, .int (nI j)), (5, .int (nI i)), (0, .ref h), (1, .int p0)]) hx hb dX6_bestFires_124 hl (by decide) rfl (fun ls hl => ?_)
                refine lv_iinc (v := (nI (j + 1))) (lv' := [(6, .int (nI (j + 1))), (4, .int (av_c6 38)), (3, .int (av_c6 41)), (2, .int (nI ((10 * i) + j))), (7, .int (nI 0)), (5, .int (nI i)), (0, .ref h), (1, .int p0)]) hx hb dX6_bestFires_126 hl (k := 4) rfl (inc1 j) (by decide) rfl (fun ls hl => ?_)
                refine lv_goto (tgt := 33) hx hb dX6_bestFires_129 (by decide) ?_
                exact ih av_c6 aq_c6 yv_c6 yq_c6 (nI ((10 * i) + j)) (av_c6 41) (av_c6 38) i (j + 1) (by omega) (by omega) (by omega) (hE.trans (by simp only [s_X6_bestFires_33, if_neg c_4, hw_6, if_pos c_7, if_pos c_11, if_neg c_12, if_pos c_13])) _ _ _ hP hD hS (lv_sub hl [0, 5, 1, 2, 3, 6, 7] rfl)
              · refine lv_iload hx hb dX6_bestFires_95 (lv_at hl 0 rfl) ?_
                refine lv_if_eq (tgt := 126) hx hb dX6_bestFires_97 (by decide) (fun c_14 => ?_) (fun c_14 => absurd (by decide +kernel) c_14)
                refine lv_iinc (v := (nI (j + 1))) (lv' := [(6, .int (nI (j + 1))), (7, .int (nI 0)), (5, .int (nI i)), (4, .int bl), (3, .int bm), (2, .int bb), (0, .ref h), (1, .int p0)]) hx hb dX6_bestFires_126 hl (k := 1) rfl (inc1 j) (by decide) rfl (fun ls hl => ?_)
                refine lv_goto (tgt := 33) hx hb dX6_bestFires_129 (by decide) ?_
                exact ih av_c6 aq_c6 yv_c6 yq_c6 bb bm bl i (j + 1) (by omega) (by omega) (by omega) (hE.trans (by simp only [s_X6_bestFires_33, if_neg c_4, hw_6, if_pos c_7, if_pos c_11, if_neg c_12, if_neg c_13])) _ _ _ hP hD hS (lv_sub hl [0, 2, 3, 4, 5, 6, 7] rfl)
          · refine lv_iconst (v := (nI 1)) hx hb dX6_bestFires_71 (by decide) ?_
            refine lv_goto (tgt := 76) hx hb dX6_bestFires_72 (by decide) ?_
            refine lv_istore (lv' := [(7, .int (nI 1)), (6, .int (nI j)), (5, .int (nI i)), (4, .int bl), (3, .int bm), (2, .int bb), (0, .ref h), (1, .int p0)]) hx hb dX6_bestFires_76 hl (by decide) rfl (fun ls hl => ?_)
            refine lv_iload_n hx hb dX6_bestFires_78 rfl (lv_at hl 5 rfl) ?_
            refine lv_bipush (v := (-5)) hx hb dX6_bestFires_79 (by decide) ?_
            refine lv_icmp_eq (tgt := 100) hx hb dX6_bestFires_81 (by decide) (fun c_15 => ?_) (fun c_15 => ?_)
            · refine lv_bipush (v := (nI 10)) hx hb dX6_bestFires_100 (by decide) ?_
              refine lv_iload hx hb dX6_bestFires_102 (lv_at hl 2 rfl) ?_
              refine n_imul (i := 10) (j := i) hx hb dX6_bestFires_104 ?_
              refine lv_iload hx hb dX6_bestFires_105 (lv_at hl 1 rfl) ?_
              refine n_iadd (i := 10 * i) (j := j) hx hb dX6_bestFires_107 ?_
              refine W.eq (g2 := F0 m 108 ls ([.int (nI ((10 * i) + j))])) (by first | rfl | (simp only [F0]; congr 3; omega)) ?_
              refine lv_istore_n (lv' := [(2, .int (nI ((10 * i) + j))), (7, .int (nI 1)), (6, .int (nI j)), (5, .int (nI i)), (4, .int bl), (3, .int bm), (0, .ref h), (1, .int p0)]) hx hb dX6_bestFires_108 rfl hl (by decide) rfl (fun ls hl => ?_)
              refine lv_aload_n hx hb dX6_bestFires_109 rfl (lv_at hl 6 rfl) ?_
              refine va_get (D := G.1) (ci := 6) (v := .ref (xe 0)) (C := RX6) (T := TX6) (N := 10) hx hb hts in_X6_bestFires_RX6 hown hK.1 hP 0 rfl rfl 2 (by decide) (hts _ k_X6_bestFires_f19) (fun _ h9 => h9) rfl dX6_bestFires_110 ?_
              refine va_get (D := G.1) (ci := 2) (v := .int (av_c6 41)) (C := RX2) (T := TX2) (N := 14) hx hb hts in_X6_bestFires_RX2 hown hK.1 hP 12 rfl rfl 4 (by decide) (hts _ k_X6_bestFires_f175) (fun _ h9 => h9) rfl dX6_bestFires_113 ?_
              refine lv_istore_n (lv' := [(3, .int (av_c6 41)), (2, .int (nI ((10 * i) + j))), (7, .int (nI 1)), (6, .int (nI j)), (5, .int (nI i)), (4, .int bl), (0, .ref h), (1, .int p0)]) hx hb dX6_bestFires_116 rfl hl (by decide) rfl (fun ls hl => ?_)
              refine lv_aload_n hx hb dX6_bestFires_117 rfl (lv_at hl 6 rfl) ?_
              refine va_get (D := G.1) (ci := 6) (v := .ref (xe 0)) (C := RX6) (T := TX6) (N := 10) hx hb hts in_X6_bestFires_RX6 hown hK.1 hP 0 rfl rfl 2 (by decide) (hts _ k_X6_bestFires_f19) (fun _ h9 => h9) rfl dX6_bestFires_118 ?_
              refine va_get (D := G.1) (ci := 2) (v := .int (av_c6 38)) (C := RX2) (T := TX2) (N := 14) hx hb hts in_X6_bestFires_RX2 hown hK.1 hP 12 rfl rfl 6 (by decide) (hts _ k_X6_bestFires_f181) (fun _ h9 => h9) rfl dX6_bestFires_121 ?_
              refine lv_istore (lv' := [(4, .int (av_c6 38)), (3, .int (av_c6 41)), (2, .int (nI ((10 * i) + j))), (7, .int (nI 1)), (6, .int (nI j)), (5, .int (nI i)), (0, .ref h), (1, .int p0)]) hx hb dX6_bestFires_124 hl (by decide) rfl (fun ls hl => ?_)
              refine lv_iinc (v := (nI (j + 1))) (lv' := [(6, .int (nI (j + 1))), (4, .int (av_c6 38)), (3, .int (av_c6 41)), (2, .int (nI ((10 * i) + j))), (7, .int (nI 1)), (5, .int (nI i)), (0, .ref h), (1, .int p0)]) hx hb dX6_bestFires_126 hl (k := 4) rfl (inc1 j) (by decide) rfl (fun ls hl => ?_)
              refine lv_goto (tgt := 33) hx hb dX6_bestFires_129 (by decide) ?_
              exact ih av_c6 aq_c6 yv_c6 yq_c6 (nI ((10 * i) + j)) (av_c6 41) (av_c6 38) i (j + 1) (by omega) (by omega) (by omega) (hE.trans (by simp only [s_X6_bestFires_33, if_neg c_4, hw_6, if_pos c_7, if_neg c_11, if_pos c_15])) _ _ _ hP hD hS (lv_sub hl [0, 5, 1, 2, 3, 6, 7] rfl)
            · refine lv_aload_n hx hb dX6_bestFires_84 rfl (lv_at hl 6 rfl) ?_
              refine va_get (D := G.1) (ci := 6) (v := .ref (xe 0)) (C := RX6) (T := TX6) (N := 10) hx hb hts in_X6_bestFires_RX6 hown hK.1 hP 0 rfl rfl 2 (by decide) (hts _ k_X6_bestFires_f19) (fun _ h9 => h9) rfl dX6_bestFires_85 ?_
              refine va_get (D := G.1) (ci := 2) (v := .int (av_c6 41)) (C := RX2) (T := TX2) (N := 14) hx hb hts in_X6_bestFires_RX2 hown hK.1 hP 12 rfl rfl 4 (by decide) (hts _ k_X6_bestFires_f175) (fun _ h9 => h9) rfl dX6_bestFires_88 ?_
              refine lv_iload_n hx hb dX6_bestFires_91 rfl (lv_at hl 4 rfl) ?_
              refine lv_icmp_gt (tgt := 100) hx hb dX6_bestFires_92 (by decide) (fun c_16 => ?_) (fun c_16 => ?_)
              · refine lv_bipush (v := (nI 10)) hx hb dX6_bestFires_100 (by decide) ?_
                refine lv_iload hx hb dX6_bestFires_102 (lv_at hl 2 rfl) ?_
                refine n_imul (i := 10) (j := i) hx hb dX6_bestFires_104 ?_
                refine lv_iload hx hb dX6_bestFires_105 (lv_at hl 1 rfl) ?_
                refine n_iadd (i := 10 * i) (j := j) hx hb dX6_bestFires_107 ?_
                refine W.eq (g2 := F0 m 108 ls ([.int (nI ((10 * i) + j))])) (by first | rfl | (simp only [F0]; congr 3; omega)) ?_
                refine lv_istore_n (lv' := [(2, .int (nI ((10 * i) + j))), (7, .int (nI 1)), (6, .int (nI j)), (5, .int (nI i)), (4, .int bl), (3, .int bm), (0, .ref h), (1, .int p0)]) hx hb dX6_bestFires_108 rfl hl (by decide) rfl (fun ls hl => ?_)
                refine lv_aload_n hx hb dX6_bestFires_109 rfl (lv_at hl 6 rfl) ?_
                refine va_get (D := G.1) (ci := 6) (v := .ref (xe 0)) (C := RX6) (T := TX6) (N := 10) hx hb hts in_X6_bestFires_RX6 hown hK.1 hP 0 rfl rfl 2 (by decide) (hts _ k_X6_bestFires_f19) (fun _ h9 => h9) rfl dX6_bestFires_110 ?_
                refine va_get (D := G.1) (ci := 2) (v := .int (av_c6 41)) (C := RX2) (T := TX2) (N := 14) hx hb hts in_X6_bestFires_RX2 hown hK.1 hP 12 rfl rfl 4 (by decide) (hts _ k_X6_bestFires_f175) (fun _ h9 => h9) rfl dX6_bestFires_113 ?_
                refine lv_istore_n (lv' := [(3, .int (av_c6 41)), (2, .int (nI ((10 * i) + j))), (7, .int (nI 1)), (6, .int (nI j)), (5, .int (nI i)), (4, .int bl), (0, .ref h), (1, .int p0)]) hx hb dX6_bestFires_116 rfl hl (by decide) rfl (fun ls hl => ?_)
                refine lv_aload_n hx hb dX6_bestFires_117 rfl (lv_at hl 6 rfl) ?_
                refine va_get (D := G.1) (ci := 6) (v := .ref (xe 0)) (C := RX6) (T := TX6) (N := 10) hx hb hts in_X6_bestFires_RX6 hown hK.1 hP 0 rfl rfl 2 (by decide) (hts _ k_X6_bestFires_f19) (fun _ h9 => h9) rfl dX6_bestFires_118 ?_
                refine va_get (D := G.1) (ci := 2) (v := .int (av_c6 38)) (C := RX2) (T := TX2) (N := 14) hx hb hts in_X6_bestFires_RX2 hown hK.1 hP 12 rfl rfl 6 (by decide) (hts _ k_X6_bestFires_f181) (fun _ h9 => h9) rfl dX6_bestFires_121 ?_
                refine lv_istore (lv' := [(4, .int (av_c6 38)), (3, .int (av_c6 41)), (2, .int (nI ((10 * i) + j))), (7, .int (nI 1)), (6, .int (nI j)), (5, .int (nI i)), (0, .ref h), (1, .int p0)]) hx hb dX6_bestFires_124 hl (by decide) rfl (fun ls hl => ?_)
                refine lv_iinc (v := (nI (j + 1))) (lv' := [(6, .int (nI (j + 1))), (4, .int (av_c6 38)), (3, .int (av_c6 41)), (2, .int (nI ((10 * i) + j))), (7, .int (nI 1)), (5, .int (nI i)), (0, .ref h), (1, .int p0)]) hx hb dX6_bestFires_126 hl (k := 4) rfl (inc1 j) (by decide) rfl (fun ls hl => ?_)
                refine lv_goto (tgt := 33) hx hb dX6_bestFires_129 (by decide) ?_
                exact ih av_c6 aq_c6 yv_c6 yq_c6 (nI ((10 * i) + j)) (av_c6 41) (av_c6 38) i (j + 1) (by omega) (by omega) (by omega) (hE.trans (by simp only [s_X6_bestFires_33, if_neg c_4, hw_6, if_pos c_7, if_neg c_11, if_neg c_15, if_pos c_16])) _ _ _ hP hD hS (lv_sub hl [0, 5, 1, 2, 3, 6, 7] rfl)
              · refine lv_iload hx hb dX6_bestFires_95 (lv_at hl 0 rfl) ?_
                refine lv_if_eq (tgt := 126) hx hb dX6_bestFires_97 (by decide) (fun c_17 => absurd c_17 (by decide +kernel)) (fun c_17 => ?_)
                refine lv_bipush (v := (nI 10)) hx hb dX6_bestFires_100 (by decide) ?_
                refine lv_iload hx hb dX6_bestFires_102 (lv_at hl 2 rfl) ?_
                refine n_imul (i := 10) (j := i) hx hb dX6_bestFires_104 ?_
                refine lv_iload hx hb dX6_bestFires_105 (lv_at hl 1 rfl) ?_
                refine n_iadd (i := 10 * i) (j := j) hx hb dX6_bestFires_107 ?_
                refine W.eq (g2 := F0 m 108 ls ([.int (nI ((10 * i) + j))])) (by first | rfl | (simp only [F0]; congr 3; omega)) ?_
                refine lv_istore_n (lv' := [(2, .int (nI ((10 * i) + j))), (7, .int (nI 1)), (6, .int (nI j)), (5, .int (nI i)), (4, .int bl), (3, .int bm), (0, .ref h), (1, .int p0)]) hx hb dX6_bestFires_108 rfl hl (by decide) rfl (fun ls hl => ?_)
                refine lv_aload_n hx hb dX6_bestFires_109 rfl (lv_at hl 6 rfl) ?_
                refine va_get (D := G.1) (ci := 6) (v := .ref (xe 0)) (C := RX6) (T := TX6) (N := 10) hx hb hts in_X6_bestFires_RX6 hown hK.1 hP 0 rfl rfl 2 (by decide) (hts _ k_X6_bestFires_f19) (fun _ h9 => h9) rfl dX6_bestFires_110 ?_
                refine va_get (D := G.1) (ci := 2) (v := .int (av_c6 41)) (C := RX2) (T := TX2) (N := 14) hx hb hts in_X6_bestFires_RX2 hown hK.1 hP 12 rfl rfl 4 (by decide) (hts _ k_X6_bestFires_f175) (fun _ h9 => h9) rfl dX6_bestFires_113 ?_
                refine lv_istore_n (lv' := [(3, .int (av_c6 41)), (2, .int (nI ((10 * i) + j))), (7, .int (nI 1)), (6, .int (nI j)), (5, .int (nI i)), (4, .int bl), (0, .ref h), (1, .int p0)]) hx hb dX6_bestFires_116 rfl hl (by decide) rfl (fun ls hl => ?_)
                refine lv_aload_n hx hb dX6_bestFires_117 rfl (lv_at hl 6 rfl) ?_
                refine va_get (D := G.1) (ci := 6) (v := .ref (xe 0)) (C := RX6) (T := TX6) (N := 10) hx hb hts in_X6_bestFires_RX6 hown hK.1 hP 0 rfl rfl 2 (by decide) (hts _ k_X6_bestFires_f19) (fun _ h9 => h9) rfl dX6_bestFires_118 ?_
                refine va_get (D := G.1) (ci := 2) (v := .int (av_c6 38)) (C := RX2) (T := TX2) (N := 14) hx hb hts in_X6_bestFires_RX2 hown hK.1 hP 12 rfl rfl 6 (by decide) (hts _ k_X6_bestFires_f181) (fun _ h9 => h9) rfl dX6_bestFires_121 ?_
                refine lv_istore (lv' := [(4, .int (av_c6 38)), (3, .int (av_c6 41)), (2, .int (nI ((10 * i) + j))), (7, .int (nI 1)), (6, .int (nI j)), (5, .int (nI i)), (0, .ref h), (1, .int p0)]) hx hb dX6_bestFires_124 hl (by decide) rfl (fun ls hl => ?_)
                refine lv_iinc (v := (nI (j + 1))) (lv' := [(6, .int (nI (j + 1))), (4, .int (av_c6 38)), (3, .int (av_c6 41)), (2, .int (nI ((10 * i) + j))), (7, .int (nI 1)), (5, .int (nI i)), (0, .ref h), (1, .int p0)]) hx hb dX6_bestFires_126 hl (k := 4) rfl (inc1 j) (by decide) rfl (fun ls hl => ?_)
                refine lv_goto (tgt := 33) hx hb dX6_bestFires_129 (by decide) ?_
                exact ih av_c6 aq_c6 yv_c6 yq_c6 (nI ((10 * i) + j)) (av_c6 41) (av_c6 38) i (j + 1) (by omega) (by omega) (by omega) (hE.trans (by simp only [s_X6_bestFires_33, if_neg c_4, hw_6, if_pos c_7, if_neg c_11, if_neg c_15, if_neg c_16])) _ _ _ hP hD hS (lv_sub hl [0, 5, 1, 2, 3, 6, 7] rfl)
  refine lv_iload_n hx hb dX6_bestFires_0 rfl (lv_at hl 1 rfl) ?_
  refine lv_iconst (v := (nI 1)) hx hb dX6_bestFires_1 (by decide) ?_
  refine lv_bipush (v := (nI 100)) hx hb dX6_bestFires_2 (by decide) ?_
  refine gcall_I (run_S (As := [.int p0, .int (nI 1), .int (nI 100)]) (rest := []) C0 hK hP hD (c_X6_isWithin l G   H.size p0 (nI 1) (nI 100)) (va_cwS 3 hts gX6_bestFires_X6_isWithin rfl rfl rfl cd2_X6_isWithin ⟨Nat.le_of_ble_eq_true rfl, Nat.le_of_ble_eq_true rfl⟩) [] rfl rfl rfl hl.1 rfl (Nat.le_of_ble_eq_true rfl) dX6_bestFires_4 ⟨Nat.le_of_ble_eq_true rfl, Nat.le_of_ble_eq_true rfl⟩) hP hD hS hA [] rfl rfl (fun _ => rfl) (fun r_1 _ H locs hw_1 hP hD hS => ?_)
  have hz_r_1 := hw_1.2
  have hw_1 := hw_1.1
  subst hw_1
  have hP : va_P G.1 vwCl (SC h xn xb xe xt xz hh ht hs sn se ++ LC G xn nv nq ++ LC G xe av aq ++ LC G xt yv yq) H := hP
  have hD : va_D A (SC h xn xb xe xt xz hh ht hs sn se ++ LC G xn nv nq ++ LC G xe av aq ++ LC G xt yv yq) := hD
  refine lv_if_ne (tgt := 13) hx hb dX6_bestFires_7 (by decide) (fun c_2 => ?_) (fun c_2 => ?_)
  · refine lv_bipush (v := (-5)) hx hb dX6_bestFires_13 (by decide) ?_
    refine lv_istore_n (lv' := [(2, .int (-5)), (0, .ref h), (1, .int p0)]) hx hb dX6_bestFires_15 rfl hl (by decide) rfl (fun ls hl => ?_)
    refine lv_iconst (v := (nI 0)) hx hb dX6_bestFires_16 (by decide) ?_
    refine lv_istore_n (lv' := [(3, .int (nI 0)), (2, .int (-5)), (0, .ref h), (1, .int p0)]) hx hb dX6_bestFires_17 rfl hl (by decide) rfl (fun ls hl => ?_)
    refine lv_iconst (v := (nI 0)) hx hb dX6_bestFires_18 (by decide) ?_
    refine lv_istore (lv' := [(4, .int (nI 0)), (3, .int (nI 0)), (2, .int (-5)), (0, .ref h), (1, .int p0)]) hx hb dX6_bestFires_19 hl (by decide) rfl (fun ls hl => ?_)
    refine lv_iconst (v := (nI 0)) hx hb dX6_bestFires_21 (by decide) ?_
    refine lv_istore (lv' := [(5, .int (nI 0)), (4, .int (nI 0)), (3, .int (nI 0)), (2, .int (-5)), (0, .ref h), (1, .int p0)]) hx hb dX6_bestFires_22 hl (by decide) rfl (fun ls hl => ?_)
    refine lv_iload hx hb dX6_bestFires_24 (lv_at hl 0 rfl) ?_
    refine lv_iconst (v := (nI 5)) hx hb dX6_bestFires_26 (by decide) ?_
    refine lv_icmp_gt (tgt := 138) hx hb dX6_bestFires_27 (by decide) (fun c_3 => absurd c_3 (by decide +kernel)) (fun c_3 => ?_)
    refine lv_iconst (v := (nI 0)) hx hb dX6_bestFires_30 (by decide) ?_
    refine lv_istore (lv' := [(6, .int (nI 0)), (5, .int (nI 0)), (4, .int (nI 0)), (3, .int (nI 0)), (2, .int (-5)), (0, .ref h), (1, .int p0)]) hx hb dX6_bestFires_31 hl (by decide) rfl (fun ls hl => ?_)
    exact h_X6_bestFires_33 42 av aq yv yq (-5) (nI 0) (nI 0) 0 0 (by omega) (by omega) (by omega) (by simp only [f_X6_bestFires, if_neg c_2]) _ _ _ hP hD hS (lv_sub hl [0, 1, 2, 3, 4, 5, 6] rfl)
  · refine lv_bipush (v := (-2)) hx hb dX6_bestFires_10 (by decide) ?_
    exact end_I C0 hP hD hS (av, aq, yv, yq) (by simp only [f_X6_bestFires, if_pos c_2]) rfl dX6_bestFires_12

def f_X6_count (nv : (Nat → Int32)) (hn : Nat) (tl : Int32) (p0 : Int32) : Int32 :=
  if p0 = nI 14 then
    (nI hn)
  else
    if p0 = nI 15 then
      tl
    else
      (f_X2_account nv p0)
set_option maxRecDepth 20000 in
theorem k_X6_count_f10 : Cond.fieldLink RX6 10 "SteamRations" "now" "LSteamRations$Laundry;" ∈ wsX6_count := by decide +kernel
set_option maxRecDepth 20000 in
theorem k_X6_count_f187 : Cond.fieldLink RX6 187 "SteamRations$History" "size" "I" ∈ wsX6_count := by decide +kernel
set_option maxRecDepth 20000 in
theorem k_X6_count_f190 : Cond.fieldLink RX6 190 "SteamRations$OrderText" "length" "I" ∈ wsX6_count := by decide +kernel
set_option maxRecDepth 20000 in
theorem k_X6_count_f31 : Cond.fieldLink RX6 31 "SteamRations" "history" "LSteamRations$History;" ∈ wsX6_count := by decide +kernel
set_option maxRecDepth 20000 in
theorem k_X6_count_f38 : Cond.fieldLink RX6 38 "SteamRations" "text" "LSteamRations$OrderText;" ∈ wsX6_count := by decide +kernel
set_option maxRecDepth 20000 in
theorem in_X6_count_RX1 : ∀ w ∈ u_ws RX1 TX1 2, w ∈ wsX6_count := by decide +kernel
set_option maxRecDepth 20000 in
theorem in_X6_count_RX4 : ∀ w ∈ u_ws RX4 TX4 6, w ∈ wsX6_count := by decide +kernel
set_option maxRecDepth 20000 in
theorem in_X6_count_RX6 : ∀ w ∈ u_ws RX6 TX6 10, w ∈ wsX6_count := by decide +kernel
theorem cd_X6_count : yX6_count.cls = RX6 ∧ yX6_count.cls ≠ "java/lang/invoke/MethodHandle" ∧ yX6_count.cls ≠ "java/lang/invoke/VarHandle" ∧ (parseMethodDescriptor yX6_count.desc).map (fun d => d.parameters.length) = some 1 := by decide +kernel
set_option maxHeartbeats 4000000 in
set_option maxRecDepth 100000 in
theorem c_X6_count (l : Launch) (G : GG) (h : Nat) (xn : Nat → Nat) (xb : Nat → Nat) (xe : Nat → Nat) (xt : Nat → Nat) (xz : Nat → Nat) (hh : Nat) (ht : Nat) (hk : Nat) (tk : Nat) (hs : Int32) (sn : Int32) (se : Int32) (nv : (Nat → Int32)) (nq : (Nat → Int32)) (hn : Nat) (xs : (Nat → Nat → Nat)) (vs : (Nat → Nat → Int32)) (qs : (Nat → Nat → Int32)) (tp : Int32) (tl : Int32) (tr : Int32) (tg : Int32) (tv : Int32) (T : (Nat → Int32)) (sz : Nat) (p0 : Int32)  : Met l yX6_count wsX6_count ({ frames := 3, cells := 0, slots := 0, locals := 66 }) (Pre G [.ref h, .int p0] (SC h xn xb xe xt xz hh ht hs sn se ++ LC G xn nv nq ++ HB G hh hk hn xs vs qs ++ OT G ht tk tp tl tr tg tv T) sz) (PI G (va_A (SC h xn xb xe xt xz hh ht hs sn se ++ LC G xn nv nq ++ HB G hh hk hn xs vs qs ++ OT G ht tk tp tl tr tg tv T) sz) (fun r (_ : Unit) => f_X6_count nv hn tl p0 = r) (fun _ : Unit => SC h xn xb xe xt xz hh ht hs sn se ++ LC G xn nv nq ++ HB G hh hk hn xs vs qs ++ OT G ht tk tp tl tr tg tv T)) 0 0 (va_A (SC h xn xb xe xt xz hh ht hs sn se ++ LC G xn nv nq ++ HB G hh hk hn xs vs qs ++ OT G ht tk tp tl tr tg tv T) sz) := by
  refine Met.walk (cc := cX6_count) (maxL := 2) (ret := (some .int)) (Qc := fun A => PI G A (fun r (_ : Unit) => f_X6_count nv hn tl p0 = r) (fun _ : Unit => SC h xn xb xe xt xz hh ht hs sn se ++ LC G xn nv nq ++ HB G hh hk hn xs vs qs ++ OT G ht tk tp tl tr tg tv T)) (by decide) rfl (Nat.le_of_ble_eq_true rfl) ?_
  intro p e s m below meth c A H C0 _ hK hsz hP hD hA hS ls hl
  have hx := C0.1
  have hb := C0.2.1
  have hown : s.vm.findClass RX6 = some m.cls := C0.2.2.2.2.1
  have hml := C0.2.2.2.1
  have hts : ∀ w ∈ wsX6_count, w.before [.ref h, .int p0].toArray s = true := C0.2.2.2.2.2.1
  have hl : lv_has ls 2 [(0, .ref h), (1, .int p0)] := hl
  refine lv_iload_n hx hb dX6_count_0 rfl (lv_at hl 1 rfl) ?_
  by_cases c_1 : p0 = nI 14
  · refine lv_lookup (tgt := 28) hx hb dX6_count_1 (by decide) (by rw [c_1]; try rfl) (by decide) ?_
    refine lv_aload_n hx hb dX6_count_28 rfl (lv_at hl 0 rfl) ?_
    refine va_get (D := G.1) (ci := 6) (v := .ref hh) (C := RX6) (T := TX6) (N := 10) hx hb hts in_X6_count_RX6 hown hK.1 hP 0 rfl rfl 5 (by decide) (hts _ k_X6_count_f31) (fun _ h9 => h9) rfl dX6_count_29 ?_
    refine va_get (D := G.1) (ci := 1) (v := .int (nI hn)) (C := RX1) (T := TX1) (N := 2) hx hb hts in_X6_count_RX1 hown hK.1 hP 12 rfl rfl 1 (by decide) (hts _ k_X6_count_f187) (fun _ h9 => h9) rfl dX6_count_32 ?_
    exact end_I C0 hP hD hS () (by simp only [f_X6_count, if_pos c_1]) rfl dX6_count_35
  · by_cases c_2 : p0 = nI 15
    · refine lv_lookup (tgt := 36) hx hb dX6_count_1 (by decide) (by rw [c_2]; try rfl) (by decide) ?_
      refine lv_aload_n hx hb dX6_count_36 rfl (lv_at hl 0 rfl) ?_
      refine va_get (D := G.1) (ci := 6) (v := .ref ht) (C := RX6) (T := TX6) (N := 10) hx hb hts in_X6_count_RX6 hown hK.1 hP 0 rfl rfl 6 (by decide) (hts _ k_X6_count_f38) (fun _ h9 => h9) rfl dX6_count_37 ?_
      refine va_get (D := G.1) (ci := 4) (v := .int tl) (C := RX4) (T := TX4) (N := 6) hx hb hts in_X6_count_RX4 hown hK.1 hP 58 rfl rfl 2 (by decide) (hts _ k_X6_count_f190) (fun _ h9 => h9) rfl dX6_count_40 ?_
      exact end_I C0 hP hD hS () (by simp only [f_X6_count, if_neg c_1, if_pos c_2]) rfl dX6_count_43
    · refine lv_lookup (off := 43) (tgt := 44) hx hb dX6_count_1 (by decide) ((lv_osw c_1 (show (nI 14).toInt = 14 from by decide +kernel)).trans ((lv_osw c_2 (show (nI 15).toInt = 15 from by decide +kernel)).trans rfl)) (by decide) ?_
      refine lv_aload_n hx hb dX6_count_44 rfl (lv_at hl 0 rfl) ?_
      refine va_get (D := G.1) (ci := 6) (v := .ref (xn 0)) (C := RX6) (T := TX6) (N := 10) hx hb hts in_X6_count_RX6 hown hK.1 hP 0 rfl rfl 0 (by decide) (hts _ k_X6_count_f10) (fun _ h9 => h9) rfl dX6_count_45 ?_
      refine lv_iload_n hx hb dX6_count_48 rfl (lv_at hl 1 rfl) ?_
      have hW : BW G A [SC h xn xb xe xt xz hh ht hs sn se, LC G xn nv nq, HB G hh hk hn xs vs qs, OT G ht tk tp tl tr tg tv T] H := BW.of hP hD
      refine gcallB_I (bc := [LC G xn nv nq]) (runB_V (As := [.int p0]) (rest := []) (bc := [LC G xn nv nq]) C0 hK hW (c_X2_account l G xn nv nq H.size p0) (cwV 1 hts gX6_count_X2_account rfl rfl rfl cd_X2_account ⟨Nat.le_of_ble_eq_true rfl, Nat.le_of_ble_eq_true rfl⟩) [1] rfl rfl rfl 1 0 rfl (ci := 2) rfl rfl rfl rfl hl.1 rfl (Nat.le_of_ble_eq_true rfl) dX6_count_49 ⟨Nat.le_of_ble_eq_true rfl, Nat.le_of_ble_eq_true rfl⟩) hW hS hA [1] rfl rfl rfl (fun _ => [LC G xn nv nq]) (fun _ => rfl) (fun _ => rfl) (fun r_3 _ H locs hw_3 hW hS => ?_)
      obtain ⟨hP, hD⟩ := hW.flat
      subst hw_3
      have hP : va_P G.1 vwCl (SC h xn xb xe xt xz hh ht hs sn se ++ LC G xn nv nq ++ HB G hh hk hn xs vs qs ++ OT G ht tk tp tl tr tg tv T) H := hP
      have hD : va_D A (SC h xn xb xe xt xz hh ht hs sn se ++ LC G xn nv nq ++ HB G hh hk hn xs vs qs ++ OT G ht tk tp tl tr tg tv T) := hD
      exact end_I C0 hP hD hS () (by simp only [f_X6_count, if_neg c_1, if_neg c_2]) rfl dX6_count_52
