def s_X7_fault_19 (T : (Nat → Int32)) : Nat → (Nat → Int32) → (Nat → Int32) → Int32 × (Nat → Int32) × (Nat → Int32)
  | 0, _, _ => (0, fun _ => 0, fun _ => 0)
  | n + 1, g_19, Y_19 =>
    if (g_19 4) = 0 then
      ((g_19 3), g_19, Y_19)
    else
      if (g_19 2) ≤ (g_19 3) then
        ((-1), g_19, Y_19)
      else
        if (T (g_19 3).toNatClampNeg) = (nI 44) then
          match f_X7_reads (upd (upd g_19 4 (nI 1)) 3 ((g_19 3) + (nI 1))) T Y_19 ((g_19 5).toNatClampNeg) with
          | (g_c11, Y_c11) =>
            s_X7_fault_19 T n g_c11 Y_c11
        else
          s_X7_fault_19 T n (upd (upd g_19 4 (nI 0)) 3 ((g_19 3) + (nI 0))) Y_19
def f_X7_fault (g : (Nat → Int32)) (T : (Nat → Int32)) (Y : (Nat → Int32)) : Int32 × (Nat → Int32) × (Nat → Int32) :=
  match f_X7_reads (upd (upd (upd g 3 (nI 0)) 4 (nI 1)) 5 (nI 0)) T Y 0 with
  | (g_c1, Y_c1) =>
    s_X7_fault_19 T 82 g_c1 Y_c1
set_option maxRecDepth 20000 in
theorem k_X7_fault_f107 : Cond.fieldLink RX7 107 "SteamRationsModel" "isRight" "Z" ∈ wsX7_fault := by decide +kernel
set_option maxRecDepth 20000 in
theorem k_X7_fault_f111 : Cond.fieldLink RX7 111 "SteamRationsModel" "at" "I" ∈ wsX7_fault := by decide +kernel
set_option maxRecDepth 20000 in
theorem k_X7_fault_f114 : Cond.fieldLink RX7 114 "SteamRationsModel" "typed" "I" ∈ wsX7_fault := by decide +kernel
set_option maxRecDepth 20000 in
theorem k_X7_fault_f128 : Cond.fieldLink RX7 128 "SteamRationsModel" "commands" "I" ∈ wsX7_fault := by decide +kernel
set_option maxRecDepth 20000 in
theorem k_X7_fault_f13 : Cond.fieldLink RX7 13 "SteamRationsModel" "text" "[C" ∈ wsX7_fault := by decide +kernel
set_option maxRecDepth 20000 in
theorem in_X7_fault_RX7 : ∀ w ∈ u_ws RX7 TX7 11, w ∈ wsX7_fault := by decide +kernel
theorem cd_X7_fault : yX7_fault.cls = RX7 ∧ yX7_fault.cls ≠ "java/lang/invoke/MethodHandle" ∧ yX7_fault.cls ≠ "java/lang/invoke/VarHandle" ∧ (parseMethodDescriptor yX7_fault.desc).map (fun d => d.parameters.length) = some 0 := by decide +kernel
set_option maxHeartbeats 4000000 in
set_option maxRecDepth 100000 in
theorem c_X7_fault (l : Launch) (G : GG) (a : Nat → Nat) (g : (Nat → Int32)) (M : (Nat → Int32)) (T : (Nat → Int32)) (Y : (Nat → Int32)) (sz : Nat)  (h2 : g 2 ≤ nI 80) : Met l yX7_fault wsX7_fault ({ frames := 4, cells := 0, slots := 0, locals := 88 }) (Pre G [.ref (a 0)] (MC G a g M T Y) sz) (PI G (va_A (MC G a g M T Y) sz) (fun r (u : (Nat → Int32) × (Nat → Int32)) => f_X7_fault g T Y = (r, u)) (fun u : (Nat → Int32) × (Nat → Int32) => MC G a u.1 M T u.2)) 0 0 (va_A (MC G a g M T Y) sz) := by
  refine Met.walk (cc := cX7_fault) (maxL := 1) (ret := (some .int)) (Qc := fun A => PI G A (fun r (u : (Nat → Int32) × (Nat → Int32)) => f_X7_fault g T Y = (r, u)) (fun u : (Nat → Int32) × (Nat → Int32) => MC G a u.1 M T u.2)) (by decide) rfl (Nat.le_of_ble_eq_true rfl) ?_
  intro p e s m below meth c A H C0 _ hK hsz hP hD hA hS ls hl
  have hx := C0.1
  have hb := C0.2.1
  have hown : s.vm.findClass RX7 = some m.cls := C0.2.2.2.2.1
  have hml := C0.2.2.2.1
  have hts : ∀ w ∈ wsX7_fault, w.before [.ref (a 0)].toArray s = true := C0.2.2.2.2.2.1
  have hl : lv_has ls 1 [(0, .ref (a 0))] := hl
  have h_X7_fault_19 : ∀ (n : Nat) (g_19 : (Nat → Int32)) (Y_19 : (Nat → Int32)), muF g_19 < n → (FOK g_19) → f_X7_fault g T Y = s_X7_fault_19 T n g_19 Y_19 → ∀ (H : Heap) (locs : List Loc) (ls : Array Slot), va_P G.1 vwCl (MC G a g_19 M T Y_19) H → va_D A (MC G a g_19 M T Y_19) → va_S A s.heap H locs → lv_has ls 1 [(0, .ref (a 0))] → W p l e ({ frames := 4, cells := 0, slots := 0, locals := 88 }) s m ([.ref (a 0)] : List Value).toArray below meth c H locs 0 0 (MQ below (PI G A (fun r (u : (Nat → Int32) × (Nat → Int32)) => f_X7_fault g T Y = (r, u)) (fun u : (Nat → Int32) × (Nat → Int32) => MC G a u.1 M T u.2)) ([.ref (a 0)] : List Value).toArray s 0 0 A) (F0 m 19 ls []) := by
    intro n
    induction n with
    | zero =>
      intro g_19 Y_19 hm
      exact absurd hm (Nat.not_lt_zero _)
    | succ n ih =>
      intro g_19 Y_19 hm hF hE H locs ls hP hD hS hl
      refine lv_aload_n hx hb dX7_fault_19 rfl (lv_at hl 0 rfl) ?_
      refine va_get (D := G.1) (ci := 7) (v := .int (g_19 4)) (C := RX7) (T := TX7) (N := 11) hx hb hts in_X7_fault_RX7 hown hK.1 hP 0 rfl rfl 6 (by decide) (hts _ k_X7_fault_f107) (fun _ h9 => h9) rfl dX7_fault_20 ?_
      refine lv_if_eq (tgt := 95) hx hb dX7_fault_23 (by decide) (fun c_2 => ?_) (fun c_2 => ?_)
      · refine lv_aload_n hx hb dX7_fault_95 rfl (lv_at hl 0 rfl) ?_
        refine va_get (D := G.1) (ci := 7) (v := .int (g_19 4)) (C := RX7) (T := TX7) (N := 11) hx hb hts in_X7_fault_RX7 hown hK.1 hP 0 rfl rfl 6 (by decide) (hts _ k_X7_fault_f107) (fun _ h9 => h9) rfl dX7_fault_96 ?_
        refine lv_if_eq (tgt := 106) hx hb dX7_fault_99 (by decide) (fun c_3 => ?_) (fun c_3 => absurd c_2 c_3)
        refine lv_aload_n hx hb dX7_fault_106 rfl (lv_at hl 0 rfl) ?_
        refine va_get (D := G.1) (ci := 7) (v := .int (g_19 3)) (C := RX7) (T := TX7) (N := 11) hx hb hts in_X7_fault_RX7 hown hK.1 hP 0 rfl rfl 5 (by decide) (hts _ k_X7_fault_f111) (fun _ h9 => h9) rfl dX7_fault_107 ?_
        exact end_I C0 hP hD hS (g_19, Y_19) (hE.trans (by simp only [s_X7_fault_19, if_pos c_2])) rfl dX7_fault_110
      · refine lv_aload_n hx hb dX7_fault_26 rfl (lv_at hl 0 rfl) ?_
        refine va_get (D := G.1) (ci := 7) (v := .int (g_19 3)) (C := RX7) (T := TX7) (N := 11) hx hb hts in_X7_fault_RX7 hown hK.1 hP 0 rfl rfl 5 (by decide) (hts _ k_X7_fault_f111) (fun _ h9 => h9) rfl dX7_fault_27 ?_
        refine lv_aload_n hx hb dX7_fault_30 rfl (lv_at hl 0 rfl) ?_
        refine va_get (D := G.1) (ci := 7) (v := .int (g_19 2)) (C := RX7) (T := TX7) (N := 11) hx hb hts in_X7_fault_RX7 hown hK.1 hP 0 rfl rfl 4 (by decide) (hts _ k_X7_fault_f114) (fun _ h9 => h9) rfl dX7_fault_31 ?_
        refine lv_icmp_ge (tgt := 95) hx hb dX7_fault_34 (by decide) (fun c_4 => ?_) (fun c_4 => ?_)
        · refine lv_aload_n hx hb dX7_fault_95 rfl (lv_at hl 0 rfl) ?_
          refine va_get (D := G.1) (ci := 7) (v := .int (g_19 4)) (C := RX7) (T := TX7) (N := 11) hx hb hts in_X7_fault_RX7 hown hK.1 hP 0 rfl rfl 6 (by decide) (hts _ k_X7_fault_f107) (fun _ h9 => h9) rfl dX7_fault_96 ?_
          refine lv_if_eq (tgt := 106) hx hb dX7_fault_99 (by decide) (fun c_5 => absurd c_5 c_2) (fun c_5 => ?_)
          refine lv_iconst (v := (-1)) hx hb dX7_fault_102 (by decide) ?_
          refine lv_goto (tgt := 110) hx hb dX7_fault_103 (by decide) ?_
          exact end_I C0 hP hD hS (g_19, Y_19) (hE.trans (by simp only [s_X7_fault_19, if_neg c_2, if_pos c_4])) rfl dX7_fault_110
        · refine lv_aload_n hx hb dX7_fault_37 rfl (lv_at hl 0 rfl) ?_
          refine lv_aload_n hx hb dX7_fault_38 rfl (lv_at hl 0 rfl) ?_
          refine va_get (D := G.1) (ci := 7) (v := .ref (a 2)) (C := RX7) (T := TX7) (N := 11) hx hb hts in_X7_fault_RX7 hown hK.1 hP 0 rfl rfl 3 (by decide) (hts _ k_X7_fault_f13) (fun _ h9 => h9) rfl dX7_fault_39 ?_
          refine lv_aload_n hx hb dX7_fault_42 rfl (lv_at hl 0 rfl) ?_
          refine va_get (D := G.1) (ci := 7) (v := .int (g_19 3)) (C := RX7) (T := TX7) (N := 11) hx hb hts in_X7_fault_RX7 hown hK.1 hP 0 rfl rfl 5 (by decide) (hts _ k_X7_fault_f111) (fun _ h9 => h9) rfl dX7_fault_43 ?_
          refine va_cald (f := T) hx hb hK.1 hP 2 1 rfl rfl (hF.at c_4) dX7_fault_46 ?_
          refine lv_bipush (v := (nI 44)) hx hb dX7_fault_47 (by decide) ?_
          refine lv_icmp_ne (tgt := 56) hx hb dX7_fault_49 (by decide) (fun c_6 => ?_) (fun c_6 => ?_)
          · refine lv_iconst (v := (nI 0)) hx hb dX7_fault_56 (by decide) ?_
            refine va_put (D := G.1) (ci := 7) (v := .int (nI 0)) (ty := .boolean) (C := RX7) (T := TX7) (N := 11) hx hb hts in_X7_fault_RX7 tyX7 tyX7_ok nmX7 hown hK.1 hP hD hS 0 rfl rfl 6 (by decide) (hts _ k_X7_fault_f107) (fun _ h9 => h9) rfl (by decide +kernel) (by decide) rfl (Nat.le_of_ble_eq_true rfl) dX7_fault_57 (fun H locs hP hD hS => ?_)
            have hP : va_P G.1 vwCl (MC G a (upd g_19 4 (nI 0)) M T Y_19) H := hP
            have hD : va_D A (MC G a (upd g_19 4 (nI 0)) M T Y_19) := hD
            refine lv_aload_n hx hb dX7_fault_60 rfl (lv_at hl 0 rfl) ?_
            refine lv_dup hx hb dX7_fault_61 rfl ?_
            refine va_get (D := G.1) (ci := 7) (v := .int (g_19 3)) (C := RX7) (T := TX7) (N := 11) hx hb hts in_X7_fault_RX7 hown hK.1 hP 0 rfl rfl 5 (by decide) (hts _ k_X7_fault_f111) (fun _ h9 => h9) rfl dX7_fault_62 ?_
            refine lv_aload_n hx hb dX7_fault_65 rfl (lv_at hl 0 rfl) ?_
            refine va_get (D := G.1) (ci := 7) (v := .int (nI 0)) (C := RX7) (T := TX7) (N := 11) hx hb hts in_X7_fault_RX7 hown hK.1 hP 0 rfl rfl 6 (by decide) (hts _ k_X7_fault_f107) (fun _ h9 => h9) rfl dX7_fault_66 ?_
            refine lv_if_eq (tgt := 76) hx hb dX7_fault_69 (by decide) (fun c_7 => ?_) (fun c_7 => absurd rfl c_7)
            refine lv_iconst (v := (nI 0)) hx hb dX7_fault_76 (by decide) ?_
            refine lv_iadd hx hb dX7_fault_77 ?_
            refine va_put (D := G.1) (ci := 7) (v := .int ((g_19 3) + (nI 0))) (ty := .int) (C := RX7) (T := TX7) (N := 11) hx hb hts in_X7_fault_RX7 tyX7 tyX7_ok nmX7 hown hK.1 hP hD hS 0 rfl rfl 5 (by decide) (hts _ k_X7_fault_f111) (fun _ h9 => h9) rfl (by decide +kernel) rfl rfl (Nat.le_of_ble_eq_true rfl) dX7_fault_78 (fun H locs hP hD hS => ?_)
            have hP : va_P G.1 vwCl (MC G a (upd (upd g_19 4 (nI 0)) 3 ((g_19 3) + (nI 0))) M T Y_19) H := hP
            have hD : va_D A (MC G a (upd (upd g_19 4 (nI 0)) 3 ((g_19 3) + (nI 0))) M T Y_19) := hD
            refine lv_aload_n hx hb dX7_fault_81 rfl (lv_at hl 0 rfl) ?_
            refine va_get (D := G.1) (ci := 7) (v := .int (nI 0)) (C := RX7) (T := TX7) (N := 11) hx hb hts in_X7_fault_RX7 hown hK.1 hP 0 rfl rfl 6 (by decide) (hts _ k_X7_fault_f107) (fun _ h9 => h9) rfl dX7_fault_82 ?_
            refine lv_if_eq (tgt := 19) hx hb dX7_fault_85 (by decide) (fun c_8 => ?_) (fun c_8 => absurd rfl c_8)
            exact ih (upd (upd g_19 4 (nI 0)) 3 ((g_19 3) + (nI 0))) Y_19 (by have z := FOK.mu hF c_2 c_4; omega) hF.stop (hE.trans (by simp only [s_X7_fault_19, if_neg c_2, if_neg c_4, if_neg c_6])) _ _ _ hP hD hS (lv_sub hl [0] rfl)
          · refine lv_iconst (v := (nI 1)) hx hb dX7_fault_52 (by decide) ?_
            refine lv_goto (tgt := 57) hx hb dX7_fault_53 (by decide) ?_
            refine va_put (D := G.1) (ci := 7) (v := .int (nI 1)) (ty := .boolean) (C := RX7) (T := TX7) (N := 11) hx hb hts in_X7_fault_RX7 tyX7 tyX7_ok nmX7 hown hK.1 hP hD hS 0 rfl rfl 6 (by decide) (hts _ k_X7_fault_f107) (fun _ h9 => h9) rfl (by decide +kernel) (by decide) rfl (Nat.le_of_ble_eq_true rfl) dX7_fault_57 (fun H locs hP hD hS => ?_)
            have hP : va_P G.1 vwCl (MC G a (upd g_19 4 (nI 1)) M T Y_19) H := hP
            have hD : va_D A (MC G a (upd g_19 4 (nI 1)) M T Y_19) := hD
            refine lv_aload_n hx hb dX7_fault_60 rfl (lv_at hl 0 rfl) ?_
            refine lv_dup hx hb dX7_fault_61 rfl ?_
            refine va_get (D := G.1) (ci := 7) (v := .int (g_19 3)) (C := RX7) (T := TX7) (N := 11) hx hb hts in_X7_fault_RX7 hown hK.1 hP 0 rfl rfl 5 (by decide) (hts _ k_X7_fault_f111) (fun _ h9 => h9) rfl dX7_fault_62 ?_
            refine lv_aload_n hx hb dX7_fault_65 rfl (lv_at hl 0 rfl) ?_
            refine va_get (D := G.1) (ci := 7) (v := .int (nI 1)) (C := RX7) (T := TX7) (N := 11) hx hb hts in_X7_fault_RX7 hown hK.1 hP 0 rfl rfl 6 (by decide) (hts _ k_X7_fault_f107) (fun _ h9 => h9) rfl dX7_fault_66 ?_
            refine lv_if_eq (tgt := 76) hx hb dX7_fault_69 (by decide) (fun c_9 => absurd c_9 (by decide)) (fun c_9 => ?_)
            refine lv_iconst (v := (nI 1)) hx hb dX7_fault_72 (by decide) ?_
            refine lv_goto (tgt := 77) hx hb dX7_fault_73 (by decide) ?_
            refine lv_iadd hx hb dX7_fault_77 ?_
            refine va_put (D := G.1) (ci := 7) (v := .int ((g_19 3) + (nI 1))) (ty := .int) (C := RX7) (T := TX7) (N := 11) hx hb hts in_X7_fault_RX7 tyX7 tyX7_ok nmX7 hown hK.1 hP hD hS 0 rfl rfl 5 (by decide) (hts _ k_X7_fault_f111) (fun _ h9 => h9) rfl (by decide +kernel) rfl rfl (Nat.le_of_ble_eq_true rfl) dX7_fault_78 (fun H locs hP hD hS => ?_)
            have hP : va_P G.1 vwCl (MC G a (upd (upd g_19 4 (nI 1)) 3 ((g_19 3) + (nI 1))) M T Y_19) H := hP
            have hD : va_D A (MC G a (upd (upd g_19 4 (nI 1)) 3 ((g_19 3) + (nI 1))) M T Y_19) := hD
            refine lv_aload_n hx hb dX7_fault_81 rfl (lv_at hl 0 rfl) ?_
            refine va_get (D := G.1) (ci := 7) (v := .int (nI 1)) (C := RX7) (T := TX7) (N := 11) hx hb hts in_X7_fault_RX7 hown hK.1 hP 0 rfl rfl 6 (by decide) (hts _ k_X7_fault_f107) (fun _ h9 => h9) rfl dX7_fault_82 ?_
            refine lv_if_eq (tgt := 19) hx hb dX7_fault_85 (by decide) (fun c_10 => absurd c_10 (by decide)) (fun c_10 => ?_)
            refine lv_aload_n hx hb dX7_fault_88 rfl (lv_at hl 0 rfl) ?_
            refine gcall_V (run_V (As := []) (rest := []) C0 hK hP hD (c_X7_reads l G a (upd (upd g_19 4 (nI 1)) 3 ((g_19 3) + (nI 1))) M T Y_19 H.size ((g_19 5).toNatClampNeg) (atStep (hF.at c_4)).1 hF.2.1 hF.2.2.1 (hF.cm c_4)) (cwV 0 hts gX7_fault_X7_reads rfl rfl rfl cd_X7_reads ⟨Nat.le_of_ble_eq_true rfl, Nat.le_of_ble_eq_true rfl⟩) [0, 1, 2, 3] rfl rfl 0 (ci := 7) rfl rfl rfl rfl hl.1 rfl (Nat.le_of_ble_eq_true rfl) dX7_fault_89 ⟨Nat.le_of_ble_eq_true rfl, Nat.le_of_ble_eq_true rfl⟩) hP hD hS hA [0, 1, 2, 3] rfl rfl (fun _ => rfl) (fun u_11 H locs hw_11 hP hD hS => ?_)
            obtain ⟨g_c11, Y_c11⟩ := u_11
            have hP : va_P G.1 vwCl (MC G a g_c11 M T Y_c11) H := hP
            have hD : va_D A (MC G a g_c11 M T Y_c11) := hD
            refine lv_goto (tgt := 19) hx hb dX7_fault_92 (by decide) ?_
            exact ih g_c11 Y_c11 (by have z := (FOK.more hF c_2 c_4 hw_11).2; omega) (FOK.more hF c_2 c_4 hw_11).1 (hE.trans (by simp only [s_X7_fault_19, if_neg c_2, if_neg c_4, if_pos c_6, hw_11])) _ _ _ hP hD hS (lv_sub hl [0] rfl)
  refine lv_aload_n hx hb dX7_fault_0 rfl (lv_at hl 0 rfl) ?_
  refine lv_iconst (v := (nI 0)) hx hb dX7_fault_1 (by decide) ?_
  refine va_put (D := G.1) (ci := 7) (v := .int (nI 0)) (ty := .int) (C := RX7) (T := TX7) (N := 11) hx hb hts in_X7_fault_RX7 tyX7 tyX7_ok nmX7 hown hK.1 hP hD hS 0 rfl rfl 5 (by decide) (hts _ k_X7_fault_f111) (fun _ h9 => h9) rfl (by decide +kernel) rfl rfl (Nat.le_of_ble_eq_true rfl) dX7_fault_2 (fun H locs hP hD hS => ?_)
  have hP : va_P G.1 vwCl (MC G a (upd g 3 (nI 0)) M T Y) H := hP
  have hD : va_D A (MC G a (upd g 3 (nI 0)) M T Y) := hD
  refine lv_aload_n hx hb dX7_fault_5 rfl (lv_at hl 0 rfl) ?_
  refine lv_iconst (v := (nI 1)) hx hb dX7_fault_6 (by decide) ?_
  refine va_put (D := G.1) (ci := 7) (v := .int (nI 1)) (ty := .boolean) (C := RX7) (T := TX7) (N := 11) hx hb hts in_X7_fault_RX7 tyX7 tyX7_ok nmX7 hown hK.1 hP hD hS 0 rfl rfl 6 (by decide) (hts _ k_X7_fault_f107) (fun _ h9 => h9) rfl (by decide +kernel) (by decide) rfl (Nat.le_of_ble_eq_true rfl) dX7_fault_7 (fun H locs hP hD hS => ?_)
  have hP : va_P G.1 vwCl (MC G a (upd (upd g 3 (nI 0)) 4 (nI 1)) M T Y) H := hP
  have hD : va_D A (MC G a (upd (upd g 3 (nI 0)) 4 (nI 1)) M T Y) := hD
  refine lv_aload_n hx hb dX7_fault_10 rfl (lv_at hl 0 rfl) ?_
  refine lv_iconst (v := (nI 0)) hx hb dX7_fault_11 (by decide) ?_
  refine va_put (D := G.1) (ci := 7) (v := .int (nI 0)) (ty := .int) (C := RX7) (T := TX7) (N := 11) hx hb hts in_X7_fault_RX7 tyX7 tyX7_ok nmX7 hown hK.1 hP hD hS 0 rfl rfl 8 (by decide) (hts _ k_X7_fault_f128) (fun _ h9 => h9) rfl (by decide +kernel) rfl rfl (Nat.le_of_ble_eq_true rfl) dX7_fault_12 (fun H locs hP hD hS => ?_)
  have hP : va_P G.1 vwCl (MC G a (upd (upd (upd g 3 (nI 0)) 4 (nI 1)) 5 (nI 0)) M T Y) H := hP
  have hD : va_D A (MC G a (upd (upd (upd g 3 (nI 0)) 4 (nI 1)) 5 (nI 0)) M T Y) := hD
  refine lv_aload_n hx hb dX7_fault_15 rfl (lv_at hl 0 rfl) ?_
  refine gcall_V (run_V (As := []) (rest := []) C0 hK hP hD (c_X7_reads l G a (upd (upd (upd g 3 (nI 0)) 4 (nI 1)) 5 (nI 0)) M T Y H.size 0 (show ¬ nI 0 < 0 by decide) h2 rfl (by omega)) (cwV 0 hts gX7_fault_X7_reads rfl rfl rfl cd_X7_reads ⟨Nat.le_of_ble_eq_true rfl, Nat.le_of_ble_eq_true rfl⟩) [0, 1, 2, 3] rfl rfl 0 (ci := 7) rfl rfl rfl rfl hl.1 rfl (Nat.le_of_ble_eq_true rfl) dX7_fault_16 ⟨Nat.le_of_ble_eq_true rfl, Nat.le_of_ble_eq_true rfl⟩) hP hD hS hA [0, 1, 2, 3] rfl rfl (fun _ => rfl) (fun u_1 H locs hw_1 hP hD hS => ?_)
  obtain ⟨g_c1, Y_c1⟩ := u_1
  have hP : va_P G.1 vwCl (MC G a g_c1 M T Y_c1) H := hP
  have hD : va_D A (MC G a g_c1 M T Y_c1) := hD
  exact h_X7_fault_19 82 g_c1 Y_c1 (muF_lt _) (FOK.first h2 hw_1) (by simp only [f_X7_fault, hw_1]) _ _ _ hP hD hS (lv_sub hl [0] rfl)

def f_X7_does (M : (Nat → Int32)) (Y : (Nat → Int32)) (i : Nat) : Int32 × (Nat → Int32) :=
  if (Y (3 * i)) = nI 102 then
    match f_X7_sets M 6 (Y ((3 * i) + 1)) (Y ((3 * i) + 2)) with
    | (r_2, M_c2) =>
      (r_2, M_c2)
  else
    if (Y (3 * i)) = nI 108 then
      match f_X7_queues M 6 (Y ((3 * i) + 1)) ((M (46 * 6 + 25)).toNatClampNeg) with
      | (r_4, M_c4) =>
        (r_4, M_c4)
    else
      if (Y (3 * i)) = nI 109 then
        match f_X7_starts M 6 (Y ((3 * i) + 1)) (Y ((3 * i) + 2)) with
        | (r_6, M_c6) =>
          (r_6, M_c6)
      else
        if (Y (3 * i)) = nI 119 then
          match f_X7_fills M 6 (Y ((3 * i) + 1)) (Y ((3 * i) + 2)) with
          | (r_8, M_c8) =>
            (r_8, M_c8)
        else
          match f_X7_runs M 6 (Y ((3 * i) + 1)) with
          | (r_9, M_c9) =>
            (r_9, M_c9)
set_option maxRecDepth 20000 in
theorem k_X7_does_f17 : Cond.fieldLink RX7 17 "SteamRationsModel" "command" "[I" ∈ wsX7_does := by decide +kernel
set_option maxRecDepth 20000 in
theorem in_X7_does_RX7 : ∀ w ∈ u_ws RX7 TX7 11, w ∈ wsX7_does := by decide +kernel
theorem cd_X7_does : yX7_does.cls = RX7 ∧ yX7_does.cls ≠ "java/lang/invoke/MethodHandle" ∧ yX7_does.cls ≠ "java/lang/invoke/VarHandle" ∧ (parseMethodDescriptor yX7_does.desc).map (fun d => d.parameters.length) = some 1 := by decide +kernel
set_option maxHeartbeats 4000000 in
set_option maxRecDepth 100000 in
theorem c_X7_does (l : Launch) (G : GG) (a : Nat → Nat) (g : (Nat → Int32)) (M : (Nat → Int32)) (T : (Nat → Int32)) (Y : (Nat → Int32)) (sz : Nat) (i : Nat) (v : (Nat → Int32)) (q : (Nat → Int32)) (hi : i < 41) (hA6 : At M (46 * 6) v q) (hL : InvL v q) : Met l yX7_does wsX7_does ({ frames := 7, cells := 0, slots := 0, locals := 167 }) (Pre G [.ref (a 0), .int (nI i)] (MC G a g M T Y) sz) (PI G (va_A (MC G a g M T Y) sz) (fun r (u : (Nat → Int32)) => f_X7_does M Y i = (r, u)) (fun u : (Nat → Int32) => MC G a g u T Y)) 0 0 (va_A (MC G a g M T Y) sz) := by
  refine Met.walk (cc := cX7_does) (maxL := 4) (ret := (some .int)) (Qc := fun A => PI G A (fun r (u : (Nat → Int32)) => f_X7_does M Y i = (r, u)) (fun u : (Nat → Int32) => MC G a g u T Y)) (by decide) rfl (Nat.le_of_ble_eq_true rfl) ?_
  intro p e s m below meth c A H C0 _ hK hsz hP hD hA hS ls hl
  have hx := C0.1
  have hb := C0.2.1
  have hown : s.vm.findClass RX7 = some m.cls := C0.2.2.2.2.1
  have hml := C0.2.2.2.1
  have hts : ∀ w ∈ wsX7_does, w.before [.ref (a 0), .int (nI i)].toArray s = true := C0.2.2.2.2.2.1
  have hl : lv_has ls 4 [(0, .ref (a 0)), (1, .int (nI i))] := hl
  refine lv_aload_n hx hb dX7_does_0 rfl (lv_at hl 0 rfl) ?_
  refine va_get (D := G.1) (ci := 7) (v := .ref (a 3)) (C := RX7) (T := TX7) (N := 11) hx hb hts in_X7_does_RX7 hown hK.1 hP 0 rfl rfl 7 (by decide) (hts _ k_X7_does_f17) (fun _ h9 => h9) rfl dX7_does_1 ?_
  refine lv_iconst (v := (nI 3)) hx hb dX7_does_4 (by decide) ?_
  refine lv_iload_n hx hb dX7_does_5 rfl (lv_at hl 1 rfl) ?_
  refine n_imul (i := 3) (j := i) hx hb dX7_does_6 ?_
  refine lv_iconst (v := (nI 1)) hx hb dX7_does_7 (by decide) ?_
  refine n_iadd (i := 3 * i) (j := 1) hx hb dX7_does_8 ?_
  refine W.eq (g2 := F0 m 9 ls ([.int (nI ((3 * i) + 1)), .ref (a 3)])) (by first | rfl | (simp only [F0]; congr 3; omega)) ?_
  refine n_iald (f := Y) (j := (3 * i) + 1) hx hb hK hP 3 rfl (by omega) (by decide) dX7_does_9 ?_
  refine lv_istore_n (lv' := [(2, .int (Y ((3 * i) + 1))), (0, .ref (a 0)), (1, .int (nI i))]) hx hb dX7_does_10 rfl hl (by decide) rfl (fun ls hl => ?_)
  refine lv_aload_n hx hb dX7_does_11 rfl (lv_at hl 1 rfl) ?_
  refine va_get (D := G.1) (ci := 7) (v := .ref (a 3)) (C := RX7) (T := TX7) (N := 11) hx hb hts in_X7_does_RX7 hown hK.1 hP 0 rfl rfl 7 (by decide) (hts _ k_X7_does_f17) (fun _ h9 => h9) rfl dX7_does_12 ?_
  refine lv_iconst (v := (nI 3)) hx hb dX7_does_15 (by decide) ?_
  refine lv_iload_n hx hb dX7_does_16 rfl (lv_at hl 2 rfl) ?_
  refine n_imul (i := 3) (j := i) hx hb dX7_does_17 ?_
  refine lv_iconst (v := (nI 2)) hx hb dX7_does_18 (by decide) ?_
  refine n_iadd (i := 3 * i) (j := 2) hx hb dX7_does_19 ?_
  refine W.eq (g2 := F0 m 20 ls ([.int (nI ((3 * i) + 2)), .ref (a 3)])) (by first | rfl | (simp only [F0]; congr 3; omega)) ?_
  refine n_iald (f := Y) (j := (3 * i) + 2) hx hb hK hP 3 rfl (by omega) (by decide) dX7_does_20 ?_
  refine lv_istore_n (lv' := [(3, .int (Y ((3 * i) + 2))), (2, .int (Y ((3 * i) + 1))), (0, .ref (a 0)), (1, .int (nI i))]) hx hb dX7_does_21 rfl hl (by decide) rfl (fun ls hl => ?_)
  refine lv_aload_n hx hb dX7_does_22 rfl (lv_at hl 2 rfl) ?_
  refine va_get (D := G.1) (ci := 7) (v := .ref (a 3)) (C := RX7) (T := TX7) (N := 11) hx hb hts in_X7_does_RX7 hown hK.1 hP 0 rfl rfl 7 (by decide) (hts _ k_X7_does_f17) (fun _ h9 => h9) rfl dX7_does_23 ?_
  refine lv_iconst (v := (nI 3)) hx hb dX7_does_26 (by decide) ?_
  refine lv_iload_n hx hb dX7_does_27 rfl (lv_at hl 3 rfl) ?_
  refine n_imul (i := 3) (j := i) hx hb dX7_does_28 ?_
  refine n_iald (f := Y) (j := 3 * i) hx hb hK hP 3 rfl (by omega) (by decide) dX7_does_29 ?_
  by_cases c_1 : (Y (3 * i)) = nI 102
  · refine lv_lookup (tgt := 72) hx hb dX7_does_30 (by decide) (by rw [c_1]; try rfl) (by decide) ?_
    refine lv_aload_n hx hb dX7_does_72 rfl (lv_at hl 2 rfl) ?_
    refine lv_bipush (v := (nI 6)) hx hb dX7_does_73 (by decide) ?_
    refine lv_iload_n hx hb dX7_does_75 rfl (lv_at hl 1 rfl) ?_
    refine lv_iload_n hx hb dX7_does_76 rfl (lv_at hl 0 rfl) ?_
    refine gcall_I (run_V (As := [.int (nI 6), .int (Y ((3 * i) + 1)), .int (Y ((3 * i) + 2))]) (rest := []) C0 hK hP hD (c_X7_sets l G a g M T Y H.size 6 (Y ((3 * i) + 1)) (Y ((3 * i) + 2)) (by omega)) (cwV 3 hts gX7_does_X7_sets rfl rfl rfl cd_X7_sets ⟨Nat.le_of_ble_eq_true rfl, Nat.le_of_ble_eq_true rfl⟩) [0, 1, 2, 3] rfl rfl 0 (ci := 7) rfl rfl rfl rfl hl.1 rfl (Nat.le_of_ble_eq_true rfl) dX7_does_77 ⟨Nat.le_of_ble_eq_true rfl, Nat.le_of_ble_eq_true rfl⟩) hP hD hS hA [0, 1, 2, 3] rfl rfl (fun _ => rfl) (fun r_2 u_2 H locs hw_2 hP hD hS => ?_)
    obtain ⟨M_c2, rfl⟩ : ∃ z, z = u_2 := ⟨_, rfl⟩
    have hP : va_P G.1 vwCl (MC G a g M_c2 T Y) H := hP
    have hD : va_D A (MC G a g M_c2 T Y) := hD
    exact end_I C0 hP hD hS M_c2 (by simp only [f_X7_does, if_pos c_1, hw_2]) rfl dX7_does_80
  · by_cases c_3 : (Y (3 * i)) = nI 108
    · refine lv_lookup (tgt := 99) hx hb dX7_does_30 (by decide) (by rw [c_3]; try rfl) (by decide) ?_
      refine lv_aload_n hx hb dX7_does_99 rfl (lv_at hl 2 rfl) ?_
      refine lv_bipush (v := (nI 6)) hx hb dX7_does_100 (by decide) ?_
      refine lv_iload_n hx hb dX7_does_102 rfl (lv_at hl 1 rfl) ?_
      refine gcall_I (run_V (As := [.int (nI 6), .int (Y ((3 * i) + 1))]) (rest := []) C0 hK hP hD (c_X7_queues l G a g M T Y H.size 6 (Y ((3 * i) + 1)) ((M (46 * 6 + 25)).toNatClampNeg) (by omega) (InvL.len hA6 hL).1 (InvL.len hA6 hL).2.1) (cwV 2 hts gX7_does_X7_queues rfl rfl rfl cd_X7_queues ⟨Nat.le_of_ble_eq_true rfl, Nat.le_of_ble_eq_true rfl⟩) [0, 1, 2, 3] rfl rfl 0 (ci := 7) rfl rfl rfl rfl hl.1 rfl (Nat.le_of_ble_eq_true rfl) dX7_does_103 ⟨Nat.le_of_ble_eq_true rfl, Nat.le_of_ble_eq_true rfl⟩) hP hD hS hA [0, 1, 2, 3] rfl rfl (fun _ => rfl) (fun r_4 u_4 H locs hw_4 hP hD hS => ?_)
      obtain ⟨M_c4, rfl⟩ : ∃ z, z = u_4 := ⟨_, rfl⟩
      have hP : va_P G.1 vwCl (MC G a g M_c4 T Y) H := hP
      have hD : va_D A (MC G a g M_c4 T Y) := hD
      exact end_I C0 hP hD hS M_c4 (by simp only [f_X7_does, if_neg c_1, if_pos c_3, hw_4]) rfl dX7_does_106
    · by_cases c_5 : (Y (3 * i)) = nI 109
      · refine lv_lookup (tgt := 90) hx hb dX7_does_30 (by decide) (by rw [c_5]; try rfl) (by decide) ?_
        refine lv_aload_n hx hb dX7_does_90 rfl (lv_at hl 2 rfl) ?_
        refine lv_bipush (v := (nI 6)) hx hb dX7_does_91 (by decide) ?_
        refine lv_iload_n hx hb dX7_does_93 rfl (lv_at hl 1 rfl) ?_
        refine lv_iload_n hx hb dX7_does_94 rfl (lv_at hl 0 rfl) ?_
        refine gcall_I (run_V (As := [.int (nI 6), .int (Y ((3 * i) + 1)), .int (Y ((3 * i) + 2))]) (rest := []) C0 hK hP hD (c_X7_starts l G a g M T Y H.size 6 (Y ((3 * i) + 1)) (Y ((3 * i) + 2)) v q (by omega) hA6 hL.1) (cwV 3 hts gX7_does_X7_starts rfl rfl rfl cd_X7_starts ⟨Nat.le_of_ble_eq_true rfl, Nat.le_of_ble_eq_true rfl⟩) [0, 1, 2, 3] rfl rfl 0 (ci := 7) rfl rfl rfl rfl hl.1 rfl (Nat.le_of_ble_eq_true rfl) dX7_does_95 ⟨Nat.le_of_ble_eq_true rfl, Nat.le_of_ble_eq_true rfl⟩) hP hD hS hA [0, 1, 2, 3] rfl rfl (fun _ => rfl) (fun r_6 u_6 H locs hw_6 hP hD hS => ?_)
        obtain ⟨M_c6, rfl⟩ : ∃ z, z = u_6 := ⟨_, rfl⟩
        have hP : va_P G.1 vwCl (MC G a g M_c6 T Y) H := hP
        have hD : va_D A (MC G a g M_c6 T Y) := hD
        exact end_I C0 hP hD hS M_c6 (by simp only [f_X7_does, if_neg c_1, if_neg c_3, if_pos c_5, hw_6]) rfl dX7_does_98
      · by_cases c_7 : (Y (3 * i)) = nI 119
        · refine lv_lookup (tgt := 81) hx hb dX7_does_30 (by decide) (by rw [c_7]; try rfl) (by decide) ?_
          refine lv_aload_n hx hb dX7_does_81 rfl (lv_at hl 2 rfl) ?_
          refine lv_bipush (v := (nI 6)) hx hb dX7_does_82 (by decide) ?_
          refine lv_iload_n hx hb dX7_does_84 rfl (lv_at hl 1 rfl) ?_
          refine lv_iload_n hx hb dX7_does_85 rfl (lv_at hl 0 rfl) ?_
          refine gcall_I (run_V (As := [.int (nI 6), .int (Y ((3 * i) + 1)), .int (Y ((3 * i) + 2))]) (rest := []) C0 hK hP hD (c_X7_fills l G a g M T Y H.size 6 (Y ((3 * i) + 1)) (Y ((3 * i) + 2)) (by omega)) (cwV 3 hts gX7_does_X7_fills rfl rfl rfl cd_X7_fills ⟨Nat.le_of_ble_eq_true rfl, Nat.le_of_ble_eq_true rfl⟩) [0, 1, 2, 3] rfl rfl 0 (ci := 7) rfl rfl rfl rfl hl.1 rfl (Nat.le_of_ble_eq_true rfl) dX7_does_86 ⟨Nat.le_of_ble_eq_true rfl, Nat.le_of_ble_eq_true rfl⟩) hP hD hS hA [0, 1, 2, 3] rfl rfl (fun _ => rfl) (fun r_8 u_8 H locs hw_8 hP hD hS => ?_)
          obtain ⟨M_c8, rfl⟩ : ∃ z, z = u_8 := ⟨_, rfl⟩
          have hP : va_P G.1 vwCl (MC G a g M_c8 T Y) H := hP
          have hD : va_D A (MC G a g M_c8 T Y) := hD
          exact end_I C0 hP hD hS M_c8 (by simp only [f_X7_does, if_neg c_1, if_neg c_3, if_neg c_5, if_pos c_7, hw_8]) rfl dX7_does_89
        · refine lv_lookup (off := 77) (tgt := 107) hx hb dX7_does_30 (by decide) ((lv_osw c_1 (show (nI 102).toInt = 102 from by decide +kernel)).trans ((lv_osw c_3 (show (nI 108).toInt = 108 from by decide +kernel)).trans ((lv_osw c_5 (show (nI 109).toInt = 109 from by decide +kernel)).trans ((lv_osw c_7 (show (nI 119).toInt = 119 from by decide +kernel)).trans rfl)))) (by decide) ?_
          refine lv_aload_n hx hb dX7_does_107 rfl (lv_at hl 2 rfl) ?_
          refine lv_bipush (v := (nI 6)) hx hb dX7_does_108 (by decide) ?_
          refine lv_iload_n hx hb dX7_does_110 rfl (lv_at hl 1 rfl) ?_
          refine gcall_I (run_V (As := [.int (nI 6), .int (Y ((3 * i) + 1))]) (rest := []) C0 hK hP hD (c_X7_runs l G a g M T Y H.size 6 (Y ((3 * i) + 1)) (by omega) ⟨v, q, hA6, hL⟩) (cwV 2 hts gX7_does_X7_runs rfl rfl rfl cd_X7_runs ⟨Nat.le_of_ble_eq_true rfl, Nat.le_of_ble_eq_true rfl⟩) [0, 1, 2, 3] rfl rfl 0 (ci := 7) rfl rfl rfl rfl hl.1 rfl (Nat.le_of_ble_eq_true rfl) dX7_does_111 ⟨Nat.le_of_ble_eq_true rfl, Nat.le_of_ble_eq_true rfl⟩) hP hD hS hA [0, 1, 2, 3] rfl rfl (fun _ => rfl) (fun r_9 u_9 H locs hw_9 hP hD hS => ?_)
          obtain ⟨M_c9, rfl⟩ : ∃ z, z = u_9 := ⟨_, rfl⟩
          have hP : va_P G.1 vwCl (MC G a g M_c9 T Y) H := hP
          have hD : va_D A (MC G a g M_c9 T Y) := hD
          exact end_I C0 hP hD hS M_c9 (by simp only [f_X7_does, if_neg c_1, if_neg c_3, if_neg c_5, if_neg c_7, hw_9]) rfl dX7_does_114
