def f_X2_copyFrom (ov oq : Nat → Int32) : (Nat → Int32) × (Nat → Int32) := (ov, oq)
set_option maxRecDepth 20000 in
theorem k_X2_copyFrom_f12 : Cond.fieldLink RX2 12 "SteamRations$Laundry" "boilers" "[LSteamRations$Boiler;" ∈ wsX2_copyFrom := by decide +kernel
set_option maxRecDepth 20000 in
theorem k_X2_copyFrom_f21 : Cond.fieldLink RX2 21 "SteamRations$Laundry" "machines" "[LSteamRations$Machine;" ∈ wsX2_copyFrom := by decide +kernel
set_option maxRecDepth 20000 in
theorem k_X2_copyFrom_f28 : Cond.fieldLink RX2 28 "SteamRations$Laundry" "waiting" "LSteamRations$WaitingLine;" ∈ wsX2_copyFrom := by decide +kernel
set_option maxRecDepth 20000 in
theorem k_X2_copyFrom_f32 : Cond.fieldLink RX2 32 "SteamRations$Laundry" "coal" "I" ∈ wsX2_copyFrom := by decide +kernel
set_option maxRecDepth 20000 in
theorem k_X2_copyFrom_f36 : Cond.fieldLink RX2 36 "SteamRations$Laundry" "ration" "I" ∈ wsX2_copyFrom := by decide +kernel
set_option maxRecDepth 20000 in
theorem k_X2_copyFrom_f49 : Cond.fieldLink RX2 49 "SteamRations$Laundry" "ticks" "I" ∈ wsX2_copyFrom := by decide +kernel
set_option maxRecDepth 20000 in
theorem k_X2_copyFrom_f52 : Cond.fieldLink RX2 52 "SteamRations$Laundry" "washed" "I" ∈ wsX2_copyFrom := by decide +kernel
set_option maxRecDepth 20000 in
theorem k_X2_copyFrom_f55 : Cond.fieldLink RX2 55 "SteamRations$Laundry" "spoiled" "I" ∈ wsX2_copyFrom := by decide +kernel
set_option maxRecDepth 20000 in
theorem k_X2_copyFrom_f58 : Cond.fieldLink RX2 58 "SteamRations$Laundry" "burnt" "I" ∈ wsX2_copyFrom := by decide +kernel
set_option maxRecDepth 20000 in
theorem k_X2_copyFrom_f61 : Cond.fieldLink RX2 61 "SteamRations$Laundry" "rationed" "I" ∈ wsX2_copyFrom := by decide +kernel
set_option maxRecDepth 20000 in
theorem k_X2_copyFrom_f64 : Cond.fieldLink RX2 64 "SteamRations$Laundry" "started" "I" ∈ wsX2_copyFrom := by decide +kernel
set_option maxRecDepth 20000 in
theorem k_X2_copyFrom_f67 : Cond.fieldLink RX2 67 "SteamRations$Laundry" "takenOut" "I" ∈ wsX2_copyFrom := by decide +kernel
set_option maxRecDepth 20000 in
theorem k_X2_copyFrom_f70 : Cond.fieldLink RX2 70 "SteamRations$Laundry" "worth" "I" ∈ wsX2_copyFrom := by decide +kernel
set_option maxRecDepth 20000 in
theorem k_X2_copyFrom_f73 : Cond.fieldLink RX2 73 "SteamRations$Laundry" "ticksOfWaits" "I" ∈ wsX2_copyFrom := by decide +kernel
set_option maxRecDepth 20000 in
theorem in_X2_copyFrom_RX2 : ∀ w ∈ u_ws RX2 TX2 14, w ∈ wsX2_copyFrom := by decide +kernel
theorem cd_X2_copyFrom : yX2_copyFrom.cls = RX2 ∧ yX2_copyFrom.cls ≠ "java/lang/invoke/MethodHandle" ∧ yX2_copyFrom.cls ≠ "java/lang/invoke/VarHandle" ∧ (parseMethodDescriptor yX2_copyFrom.desc).map (fun d => d.parameters.length) = some 1 := by decide +kernel
set_option maxHeartbeats 4000000 in
set_option maxRecDepth 100000 in
theorem c_X2_copyFrom (l : Launch) (G : GG) (a : Nat → Nat) (b : Nat → Nat) (v : (Nat → Int32)) (q : (Nat → Int32)) (ov : (Nat → Int32)) (oq : (Nat → Int32)) (sz : Nat)   : Met l yX2_copyFrom wsX2_copyFrom ({ frames := 1, cells := 0, slots := 0, locals := 22 }) (Pre G [.ref (a 0), .ref (b 0)] (LC G a v q ++ LC G b ov oq) sz) (PV G (va_A (LC G a v q ++ LC G b ov oq) sz) (fun u : (Nat → Int32) × (Nat → Int32) => f_X2_copyFrom ov oq = u) (fun u : (Nat → Int32) × (Nat → Int32) => LC G a u.1 u.2 ++ LC G b ov oq)) 0 0 (va_A (LC G a v q ++ LC G b ov oq) sz) := by
  refine Met.walk (cc := cX2_copyFrom) (maxL := 3) (ret := none) (Qc := fun A => PV G A (fun u : (Nat → Int32) × (Nat → Int32) => f_X2_copyFrom ov oq = u) (fun u : (Nat → Int32) × (Nat → Int32) => LC G a u.1 u.2 ++ LC G b ov oq)) (by decide) rfl (Nat.le_of_ble_eq_true rfl) ?_
  intro p e s m below meth c A H C0 _ hK hsz hP hD hA hS ls hl
  have hx := C0.1
  have hb := C0.2.1
  have hown : s.vm.findClass RX2 = some m.cls := C0.2.2.2.2.1
  have hml := C0.2.2.2.1
  have hts : ∀ w ∈ wsX2_copyFrom, w.before [.ref (a 0), .ref (b 0)].toArray s = true := C0.2.2.2.2.2.1
  have hl : lv_has ls 3 [(0, .ref (a 0)), (1, .ref (b 0))] := hl
  refine lv_iconst (v := (nI 0)) hx hb dX2_copyFrom_0 (by decide) ?_
  refine lv_istore_n (lv' := [(2, .int (nI 0)), (0, .ref (a 0)), (1, .ref (b 0))]) hx hb dX2_copyFrom_1 rfl hl (by decide) rfl (fun ls hl => ?_)
  refine lv_iload_n hx hb dX2_copyFrom_2 rfl (lv_at hl 0 rfl) ?_
  refine lv_aload_n hx hb dX2_copyFrom_3 rfl (lv_at hl 1 rfl) ?_
  refine va_get (D := G.1) (ci := 2) (v := .ref (a 1)) (C := RX2) (T := TX2) (N := 14) hx hb hts in_X2_copyFrom_RX2 hown hK.1 hP 0 rfl rfl 0 (by decide) (hts _ k_X2_copyFrom_f12) (fun _ h9 => h9) rfl dX2_copyFrom_4 ?_
  refine n_alen (n := 2) hx hb hK hP 1 2 rfl rfl dX2_copyFrom_7 ?_
  refine lv_icmp_ge (tgt := 41) hx hb dX2_copyFrom_8 (by decide) (fun c_1 => absurd c_1 (by decide +kernel)) (fun c_1 => ?_)
  refine lv_iload_n hx hb dX2_copyFrom_11 rfl (lv_at hl 0 rfl) ?_
  refine lv_aload_n hx hb dX2_copyFrom_12 rfl (lv_at hl 2 rfl) ?_
  refine va_get (D := G.1) (ci := 2) (v := .ref (b 1)) (C := RX2) (T := TX2) (N := 14) hx hb hts in_X2_copyFrom_RX2 hown hK.1 hP 11 rfl rfl 0 (by decide) (hts _ k_X2_copyFrom_f12) (fun _ h9 => h9) rfl dX2_copyFrom_13 ?_
  refine n_alen (n := 2) hx hb hK hP 12 2 rfl rfl dX2_copyFrom_16 ?_
  refine lv_icmp_ge (tgt := 41) hx hb dX2_copyFrom_17 (by decide) (fun c_2 => absurd c_2 (by decide +kernel)) (fun c_2 => ?_)
  refine lv_aload_n hx hb dX2_copyFrom_20 rfl (lv_at hl 1 rfl) ?_
  refine va_get (D := G.1) (ci := 2) (v := .ref (a 1)) (C := RX2) (T := TX2) (N := 14) hx hb hts in_X2_copyFrom_RX2 hown hK.1 hP 0 rfl rfl 0 (by decide) (hts _ k_X2_copyFrom_f12) (fun _ h9 => h9) rfl dX2_copyFrom_21 ?_
  refine lv_iload_n hx hb dX2_copyFrom_24 rfl (lv_at hl 0 rfl) ?_
  refine n_aald (j := 0) (v := .ref (a 2)) (Cn := "SteamRations$Boiler") hx hb hK hP 1 2 rfl rfl (by decide) (by decide) rfl dX2_copyFrom_25 ?_
  refine lv_aload_n hx hb dX2_copyFrom_26 rfl (lv_at hl 2 rfl) ?_
  refine va_get (D := G.1) (ci := 2) (v := .ref (b 1)) (C := RX2) (T := TX2) (N := 14) hx hb hts in_X2_copyFrom_RX2 hown hK.1 hP 11 rfl rfl 0 (by decide) (hts _ k_X2_copyFrom_f12) (fun _ h9 => h9) rfl dX2_copyFrom_27 ?_
  refine lv_iload_n hx hb dX2_copyFrom_30 rfl (lv_at hl 0 rfl) ?_
  refine n_aald (j := 0) (v := .ref (b 2)) (Cn := "SteamRations$Boiler") hx hb hK hP 12 2 rfl rfl (by decide) (by decide) rfl dX2_copyFrom_31 ?_
  refine gcall_V (run_V (As := [.ref (b 2)]) (rest := []) C0 hK hP hD (c_X0_copyFrom l G (a 2) (b 2) (v 0) (v 2) (v 4) (v 6) (v 8) (ov 0) (ov 2) (ov 4) (ov 6) (ov 8) H.size ) (cwV 1 hts gX2_copyFrom_X0_copyFrom rfl rfl rfl cd_X0_copyFrom ⟨Nat.le_of_ble_eq_true rfl, Nat.le_of_ble_eq_true rfl⟩) [2, 13] rfl rfl 2 (ci := 0) rfl rfl rfl rfl hl.1 rfl (Nat.le_of_ble_eq_true rfl) dX2_copyFrom_32 ⟨Nat.le_of_ble_eq_true rfl, Nat.le_of_ble_eq_true rfl⟩) hP hD hS hA [2, 13] rfl rfl (fun _ => rfl) (fun u_3 H locs hw_3 hP hD hS => ?_)
  obtain ⟨bf_c3, bw_c3, bp_c3, bl_c3, bs_c3⟩ := u_3
  simp only [f_X0_copyFrom, Prod.mk.injEq] at hw_3
  obtain ⟨rfl, rfl, rfl, rfl, rfl⟩ := hw_3
  have hP : va_P G.1 vwCl (LC G a (upd (upd (upd (upd (upd v 0 (ov 0)) 2 (ov 2)) 4 (ov 4)) 6 (ov 6)) 8 (ov 8)) q ++ LC G b ov oq) H := hP
  have hD : va_D A (LC G a (upd (upd (upd (upd (upd v 0 (ov 0)) 2 (ov 2)) 4 (ov 4)) 6 (ov 6)) 8 (ov 8)) q ++ LC G b ov oq) := hD
  refine lv_iinc (v := (nI 1)) (lv' := [(2, .int (nI 1)), (0, .ref (a 0)), (1, .ref (b 0))]) hx hb dX2_copyFrom_35 hl (k := 0) rfl (inc1 0) (by decide) rfl (fun ls hl => ?_)
  refine lv_goto (tgt := 2) hx hb dX2_copyFrom_38 (by decide) ?_
  refine lv_iload_n hx hb dX2_copyFrom_2 rfl (lv_at hl 0 rfl) ?_
  refine lv_aload_n hx hb dX2_copyFrom_3 rfl (lv_at hl 1 rfl) ?_
  refine va_get (D := G.1) (ci := 2) (v := .ref (a 1)) (C := RX2) (T := TX2) (N := 14) hx hb hts in_X2_copyFrom_RX2 hown hK.1 hP 0 rfl rfl 0 (by decide) (hts _ k_X2_copyFrom_f12) (fun _ h9 => h9) rfl dX2_copyFrom_4 ?_
  refine n_alen (n := 2) hx hb hK hP 1 2 rfl rfl dX2_copyFrom_7 ?_
  refine lv_icmp_ge (tgt := 41) hx hb dX2_copyFrom_8 (by decide) (fun c_4 => absurd c_4 (by decide +kernel)) (fun c_4 => ?_)
  refine lv_iload_n hx hb dX2_copyFrom_11 rfl (lv_at hl 0 rfl) ?_
  refine lv_aload_n hx hb dX2_copyFrom_12 rfl (lv_at hl 2 rfl) ?_
  refine va_get (D := G.1) (ci := 2) (v := .ref (b 1)) (C := RX2) (T := TX2) (N := 14) hx hb hts in_X2_copyFrom_RX2 hown hK.1 hP 11 rfl rfl 0 (by decide) (hts _ k_X2_copyFrom_f12) (fun _ h9 => h9) rfl dX2_copyFrom_13 ?_
  refine n_alen (n := 2) hx hb hK hP 12 2 rfl rfl dX2_copyFrom_16 ?_
  refine lv_icmp_ge (tgt := 41) hx hb dX2_copyFrom_17 (by decide) (fun c_5 => absurd c_5 (by decide +kernel)) (fun c_5 => ?_)
  refine lv_aload_n hx hb dX2_copyFrom_20 rfl (lv_at hl 1 rfl) ?_
  refine va_get (D := G.1) (ci := 2) (v := .ref (a 1)) (C := RX2) (T := TX2) (N := 14) hx hb hts in_X2_copyFrom_RX2 hown hK.1 hP 0 rfl rfl 0 (by decide) (hts _ k_X2_copyFrom_f12) (fun _ h9 => h9) rfl dX2_copyFrom_21 ?_
  refine lv_iload_n hx hb dX2_copyFrom_24 rfl (lv_at hl 0 rfl) ?_
  refine n_aald (j := 1) (v := .ref (a 3)) (Cn := "SteamRations$Boiler") hx hb hK hP 1 2 rfl rfl (by decide) (by decide) rfl dX2_copyFrom_25 ?_
  refine lv_aload_n hx hb dX2_copyFrom_26 rfl (lv_at hl 2 rfl) ?_
  refine va_get (D := G.1) (ci := 2) (v := .ref (b 1)) (C := RX2) (T := TX2) (N := 14) hx hb hts in_X2_copyFrom_RX2 hown hK.1 hP 11 rfl rfl 0 (by decide) (hts _ k_X2_copyFrom_f12) (fun _ h9 => h9) rfl dX2_copyFrom_27 ?_
  refine lv_iload_n hx hb dX2_copyFrom_30 rfl (lv_at hl 0 rfl) ?_
  refine n_aald (j := 1) (v := .ref (b 3)) (Cn := "SteamRations$Boiler") hx hb hK hP 12 2 rfl rfl (by decide) (by decide) rfl dX2_copyFrom_31 ?_
  refine gcall_V (run_V (As := [.ref (b 3)]) (rest := []) C0 hK hP hD (c_X0_copyFrom l G (a 3) (b 3) (v 1) (v 3) (v 5) (v 7) (v 9) (ov 1) (ov 3) (ov 5) (ov 7) (ov 9) H.size ) (cwV 1 hts gX2_copyFrom_X0_copyFrom rfl rfl rfl cd_X0_copyFrom ⟨Nat.le_of_ble_eq_true rfl, Nat.le_of_ble_eq_true rfl⟩) [3, 14] rfl rfl 3 (ci := 0) rfl rfl rfl rfl hl.1 rfl (Nat.le_of_ble_eq_true rfl) dX2_copyFrom_32 ⟨Nat.le_of_ble_eq_true rfl, Nat.le_of_ble_eq_true rfl⟩) hP hD hS hA [3, 14] rfl rfl (fun _ => rfl) (fun u_6 H locs hw_6 hP hD hS => ?_)
  obtain ⟨bf_c6, bw_c6, bp_c6, bl_c6, bs_c6⟩ := u_6
  simp only [f_X0_copyFrom, Prod.mk.injEq] at hw_6
  obtain ⟨rfl, rfl, rfl, rfl, rfl⟩ := hw_6
  have hP : va_P G.1 vwCl (LC G a (upd (upd (upd (upd (upd (upd (upd (upd (upd (upd v 0 (ov 0)) 2 (ov 2)) 4 (ov 4)) 6 (ov 6)) 8 (ov 8)) 1 (ov 1)) 3 (ov 3)) 5 (ov 5)) 7 (ov 7)) 9 (ov 9)) q ++ LC G b ov oq) H := hP
  have hD : va_D A (LC G a (upd (upd (upd (upd (upd (upd (upd (upd (upd (upd v 0 (ov 0)) 2 (ov 2)) 4 (ov 4)) 6 (ov 6)) 8 (ov 8)) 1 (ov 1)) 3 (ov 3)) 5 (ov 5)) 7 (ov 7)) 9 (ov 9)) q ++ LC G b ov oq) := hD
  refine lv_iinc (v := (nI 2)) (lv' := [(2, .int (nI 2)), (0, .ref (a 0)), (1, .ref (b 0))]) hx hb dX2_copyFrom_35 hl (k := 0) rfl (inc1 1) (by decide) rfl (fun ls hl => ?_)
  refine lv_goto (tgt := 2) hx hb dX2_copyFrom_38 (by decide) ?_
  refine lv_iload_n hx hb dX2_copyFrom_2 rfl (lv_at hl 0 rfl) ?_
  refine lv_aload_n hx hb dX2_copyFrom_3 rfl (lv_at hl 1 rfl) ?_
  refine va_get (D := G.1) (ci := 2) (v := .ref (a 1)) (C := RX2) (T := TX2) (N := 14) hx hb hts in_X2_copyFrom_RX2 hown hK.1 hP 0 rfl rfl 0 (by decide) (hts _ k_X2_copyFrom_f12) (fun _ h9 => h9) rfl dX2_copyFrom_4 ?_
  refine n_alen (n := 2) hx hb hK hP 1 2 rfl rfl dX2_copyFrom_7 ?_
  refine lv_icmp_ge (tgt := 41) hx hb dX2_copyFrom_8 (by decide) (fun c_7 => ?_) (fun c_7 => absurd (by decide +kernel) c_7)
  refine lv_iconst (v := (nI 0)) hx hb dX2_copyFrom_41 (by decide) ?_
  refine lv_istore_n (lv' := [(2, .int (nI 0)), (0, .ref (a 0)), (1, .ref (b 0))]) hx hb dX2_copyFrom_42 rfl hl (by decide) rfl (fun ls hl => ?_)
  refine lv_iload_n hx hb dX2_copyFrom_43 rfl (lv_at hl 0 rfl) ?_
  refine lv_aload_n hx hb dX2_copyFrom_44 rfl (lv_at hl 1 rfl) ?_
  refine va_get (D := G.1) (ci := 2) (v := .ref (a 4)) (C := RX2) (T := TX2) (N := 14) hx hb hts in_X2_copyFrom_RX2 hown hK.1 hP 0 rfl rfl 1 (by decide) (hts _ k_X2_copyFrom_f21) (fun _ h9 => h9) rfl dX2_copyFrom_45 ?_
  refine n_alen (n := 4) hx hb hK hP 4 3 rfl rfl dX2_copyFrom_48 ?_
  refine lv_icmp_ge (tgt := 82) hx hb dX2_copyFrom_49 (by decide) (fun c_8 => absurd c_8 (by decide +kernel)) (fun c_8 => ?_)
  refine lv_iload_n hx hb dX2_copyFrom_52 rfl (lv_at hl 0 rfl) ?_
  refine lv_aload_n hx hb dX2_copyFrom_53 rfl (lv_at hl 2 rfl) ?_
  refine va_get (D := G.1) (ci := 2) (v := .ref (b 4)) (C := RX2) (T := TX2) (N := 14) hx hb hts in_X2_copyFrom_RX2 hown hK.1 hP 11 rfl rfl 1 (by decide) (hts _ k_X2_copyFrom_f21) (fun _ h9 => h9) rfl dX2_copyFrom_54 ?_
  refine n_alen (n := 4) hx hb hK hP 15 3 rfl rfl dX2_copyFrom_57 ?_
  refine lv_icmp_ge (tgt := 82) hx hb dX2_copyFrom_58 (by decide) (fun c_9 => absurd c_9 (by decide +kernel)) (fun c_9 => ?_)
  refine lv_aload_n hx hb dX2_copyFrom_61 rfl (lv_at hl 1 rfl) ?_
  refine va_get (D := G.1) (ci := 2) (v := .ref (a 4)) (C := RX2) (T := TX2) (N := 14) hx hb hts in_X2_copyFrom_RX2 hown hK.1 hP 0 rfl rfl 1 (by decide) (hts _ k_X2_copyFrom_f21) (fun _ h9 => h9) rfl dX2_copyFrom_62 ?_
  refine lv_iload_n hx hb dX2_copyFrom_65 rfl (lv_at hl 0 rfl) ?_
  refine n_aald (j := 0) (v := .ref (a 5)) (Cn := "SteamRations$Machine") hx hb hK hP 4 3 rfl rfl (by decide) (by decide) rfl dX2_copyFrom_66 ?_
  refine lv_aload_n hx hb dX2_copyFrom_67 rfl (lv_at hl 2 rfl) ?_
  refine va_get (D := G.1) (ci := 2) (v := .ref (b 4)) (C := RX2) (T := TX2) (N := 14) hx hb hts in_X2_copyFrom_RX2 hown hK.1 hP 11 rfl rfl 1 (by decide) (hts _ k_X2_copyFrom_f21) (fun _ h9 => h9) rfl dX2_copyFrom_68 ?_
  refine lv_iload_n hx hb dX2_copyFrom_71 rfl (lv_at hl 0 rfl) ?_
  refine n_aald (j := 0) (v := .ref (b 5)) (Cn := "SteamRations$Machine") hx hb hK hP 15 3 rfl rfl (by decide) (by decide) rfl dX2_copyFrom_72 ?_
  refine gcall_V (run_V (As := [.ref (b 5)]) (rest := []) C0 hK hP hD (c_X3_copyFrom l G (a 5) (b 5) (v 13) (v 17) (v 21) (ov 13) (ov 17) (ov 21) H.size ) (cwV 1 hts gX2_copyFrom_X3_copyFrom rfl rfl rfl cd_X3_copyFrom ⟨Nat.le_of_ble_eq_true rfl, Nat.le_of_ble_eq_true rfl⟩) [5, 16] rfl rfl 5 (ci := 3) rfl rfl rfl rfl hl.1 rfl (Nat.le_of_ble_eq_true rfl) dX2_copyFrom_73 ⟨Nat.le_of_ble_eq_true rfl, Nat.le_of_ble_eq_true rfl⟩) hP hD hS hA [5, 16] rfl rfl (fun _ => rfl) (fun u_10 H locs hw_10 hP hD hS => ?_)
  obtain ⟨mk_c10, mt_c10, mw_c10⟩ := u_10
  simp only [f_X3_copyFrom, Prod.mk.injEq] at hw_10
  obtain ⟨rfl, rfl, rfl⟩ := hw_10
  have hP : va_P G.1 vwCl (LC G a (upd (upd (upd (upd (upd (upd (upd (upd (upd (upd (upd (upd (upd v 0 (ov 0)) 2 (ov 2)) 4 (ov 4)) 6 (ov 6)) 8 (ov 8)) 1 (ov 1)) 3 (ov 3)) 5 (ov 5)) 7 (ov 7)) 9 (ov 9)) 13 (ov 13)) 17 (ov 17)) 21 (ov 21)) q ++ LC G b ov oq) H := hP
  have hD : va_D A (LC G a (upd (upd (upd (upd (upd (upd (upd (upd (upd (upd (upd (upd (upd v 0 (ov 0)) 2 (ov 2)) 4 (ov 4)) 6 (ov 6)) 8 (ov 8)) 1 (ov 1)) 3 (ov 3)) 5 (ov 5)) 7 (ov 7)) 9 (ov 9)) 13 (ov 13)) 17 (ov 17)) 21 (ov 21)) q ++ LC G b ov oq) := hD
  refine lv_iinc (v := (nI 1)) (lv' := [(2, .int (nI 1)), (0, .ref (a 0)), (1, .ref (b 0))]) hx hb dX2_copyFrom_76 hl (k := 0) rfl (inc1 0) (by decide) rfl (fun ls hl => ?_)
  refine lv_goto (tgt := 43) hx hb dX2_copyFrom_79 (by decide) ?_
  refine lv_iload_n hx hb dX2_copyFrom_43 rfl (lv_at hl 0 rfl) ?_
  refine lv_aload_n hx hb dX2_copyFrom_44 rfl (lv_at hl 1 rfl) ?_
  refine va_get (D := G.1) (ci := 2) (v := .ref (a 4)) (C := RX2) (T := TX2) (N := 14) hx hb hts in_X2_copyFrom_RX2 hown hK.1 hP 0 rfl rfl 1 (by decide) (hts _ k_X2_copyFrom_f21) (fun _ h9 => h9) rfl dX2_copyFrom_45 ?_
  refine n_alen (n := 4) hx hb hK hP 4 3 rfl rfl dX2_copyFrom_48 ?_
  refine lv_icmp_ge (tgt := 82) hx hb dX2_copyFrom_49 (by decide) (fun c_11 => absurd c_11 (by decide +kernel)) (fun c_11 => ?_)
  refine lv_iload_n hx hb dX2_copyFrom_52 rfl (lv_at hl 0 rfl) ?_
  refine lv_aload_n hx hb dX2_copyFrom_53 rfl (lv_at hl 2 rfl) ?_
  refine va_get (D := G.1) (ci := 2) (v := .ref (b 4)) (C := RX2) (T := TX2) (N := 14) hx hb hts in_X2_copyFrom_RX2 hown hK.1 hP 11 rfl rfl 1 (by decide) (hts _ k_X2_copyFrom_f21) (fun _ h9 => h9) rfl dX2_copyFrom_54 ?_
  refine n_alen (n := 4) hx hb hK hP 15 3 rfl rfl dX2_copyFrom_57 ?_
  refine lv_icmp_ge (tgt := 82) hx hb dX2_copyFrom_58 (by decide) (fun c_12 => absurd c_12 (by decide +kernel)) (fun c_12 => ?_)
  refine lv_aload_n hx hb dX2_copyFrom_61 rfl (lv_at hl 1 rfl) ?_
  refine va_get (D := G.1) (ci := 2) (v := .ref (a 4)) (C := RX2) (T := TX2) (N := 14) hx hb hts in_X2_copyFrom_RX2 hown hK.1 hP 0 rfl rfl 1 (by decide) (hts _ k_X2_copyFrom_f21) (fun _ h9 => h9) rfl dX2_copyFrom_62 ?_
  refine lv_iload_n hx hb dX2_copyFrom_65 rfl (lv_at hl 0 rfl) ?_
  refine n_aald (j := 1) (v := .ref (a 6)) (Cn := "SteamRations$Machine") hx hb hK hP 4 3 rfl rfl (by decide) (by decide) rfl dX2_copyFrom_66 ?_
  refine lv_aload_n hx hb dX2_copyFrom_67 rfl (lv_at hl 2 rfl) ?_
  refine va_get (D := G.1) (ci := 2) (v := .ref (b 4)) (C := RX2) (T := TX2) (N := 14) hx hb hts in_X2_copyFrom_RX2 hown hK.1 hP 11 rfl rfl 1 (by decide) (hts _ k_X2_copyFrom_f21) (fun _ h9 => h9) rfl dX2_copyFrom_68 ?_
  refine lv_iload_n hx hb dX2_copyFrom_71 rfl (lv_at hl 0 rfl) ?_
  refine n_aald (j := 1) (v := .ref (b 6)) (Cn := "SteamRations$Machine") hx hb hK hP 15 3 rfl rfl (by decide) (by decide) rfl dX2_copyFrom_72 ?_
  refine gcall_V (run_V (As := [.ref (b 6)]) (rest := []) C0 hK hP hD (c_X3_copyFrom l G (a 6) (b 6) (v 14) (v 18) (v 22) (ov 14) (ov 18) (ov 22) H.size ) (cwV 1 hts gX2_copyFrom_X3_copyFrom rfl rfl rfl cd_X3_copyFrom ⟨Nat.le_of_ble_eq_true rfl, Nat.le_of_ble_eq_true rfl⟩) [6, 17] rfl rfl 6 (ci := 3) rfl rfl rfl rfl hl.1 rfl (Nat.le_of_ble_eq_true rfl) dX2_copyFrom_73 ⟨Nat.le_of_ble_eq_true rfl, Nat.le_of_ble_eq_true rfl⟩) hP hD hS hA [6, 17] rfl rfl (fun _ => rfl) (fun u_13 H locs hw_13 hP hD hS => ?_)
  obtain ⟨mk_c13, mt_c13, mw_c13⟩ := u_13
  simp only [f_X3_copyFrom, Prod.mk.injEq] at hw_13
  obtain ⟨rfl, rfl, rfl⟩ := hw_13
  have hP : va_P G.1 vwCl (LC G a (upd (upd (upd (upd (upd (upd (upd (upd (upd (upd (upd (upd (upd (upd (upd (upd v 0 (ov 0)) 2 (ov 2)) 4 (ov 4)) 6 (ov 6)) 8 (ov 8)) 1 (ov 1)) 3 (ov 3)) 5 (ov 5)) 7 (ov 7)) 9 (ov 9)) 13 (ov 13)) 17 (ov 17)) 21 (ov 21)) 14 (ov 14)) 18 (ov 18)) 22 (ov 22)) q ++ LC G b ov oq) H := hP
  have hD : va_D A (LC G a (upd (upd (upd (upd (upd (upd (upd (upd (upd (upd (upd (upd (upd (upd (upd (upd v 0 (ov 0)) 2 (ov 2)) 4 (ov 4)) 6 (ov 6)) 8 (ov 8)) 1 (ov 1)) 3 (ov 3)) 5 (ov 5)) 7 (ov 7)) 9 (ov 9)) 13 (ov 13)) 17 (ov 17)) 21 (ov 21)) 14 (ov 14)) 18 (ov 18)) 22 (ov 22)) q ++ LC G b ov oq) := hD
  refine lv_iinc (v := (nI 2)) (lv' := [(2, .int (nI 2)), (0, .ref (a 0)), (1, .ref (b 0))]) hx hb dX2_copyFrom_76 hl (k := 0) rfl (inc1 1) (by decide) rfl (fun ls hl => ?_)
  refine lv_goto (tgt := 43) hx hb dX2_copyFrom_79 (by decide) ?_
  refine lv_iload_n hx hb dX2_copyFrom_43 rfl (lv_at hl 0 rfl) ?_
  refine lv_aload_n hx hb dX2_copyFrom_44 rfl (lv_at hl 1 rfl) ?_
  refine va_get (D := G.1) (ci := 2) (v := .ref (a 4)) (C := RX2) (T := TX2) (N := 14) hx hb hts in_X2_copyFrom_RX2 hown hK.1 hP 0 rfl rfl 1 (by decide) (hts _ k_X2_copyFrom_f21) (fun _ h9 => h9) rfl dX2_copyFrom_45 ?_
  refine n_alen (n := 4) hx hb hK hP 4 3 rfl rfl dX2_copyFrom_48 ?_
  refine lv_icmp_ge (tgt := 82) hx hb dX2_copyFrom_49 (by decide) (fun c_14 => absurd c_14 (by decide +kernel)) (fun c_14 => ?_)
  refine lv_iload_n hx hb dX2_copyFrom_52 rfl (lv_at hl 0 rfl) ?_
  refine lv_aload_n hx hb dX2_copyFrom_53 rfl (lv_at hl 2 rfl) ?_
  refine va_get (D := G.1) (ci := 2) (v := .ref (b 4)) (C := RX2) (T := TX2) (N := 14) hx hb hts in_X2_copyFrom_RX2 hown hK.1 hP 11 rfl rfl 1 (by decide) (hts _ k_X2_copyFrom_f21) (fun _ h9 => h9) rfl dX2_copyFrom_54 ?_
  refine n_alen (n := 4) hx hb hK hP 15 3 rfl rfl dX2_copyFrom_57 ?_
  refine lv_icmp_ge (tgt := 82) hx hb dX2_copyFrom_58 (by decide) (fun c_15 => absurd c_15 (by decide +kernel)) (fun c_15 => ?_)
  refine lv_aload_n hx hb dX2_copyFrom_61 rfl (lv_at hl 1 rfl) ?_
  refine va_get (D := G.1) (ci := 2) (v := .ref (a 4)) (C := RX2) (T := TX2) (N := 14) hx hb hts in_X2_copyFrom_RX2 hown hK.1 hP 0 rfl rfl 1 (by decide) (hts _ k_X2_copyFrom_f21) (fun _ h9 => h9) rfl dX2_copyFrom_62 ?_
  refine lv_iload_n hx hb dX2_copyFrom_65 rfl (lv_at hl 0 rfl) ?_
  refine n_aald (j := 2) (v := .ref (a 7)) (Cn := "SteamRations$Machine") hx hb hK hP 4 3 rfl rfl (by decide) (by decide) rfl dX2_copyFrom_66 ?_
  refine lv_aload_n hx hb dX2_copyFrom_67 rfl (lv_at hl 2 rfl) ?_
  refine va_get (D := G.1) (ci := 2) (v := .ref (b 4)) (C := RX2) (T := TX2) (N := 14) hx hb hts in_X2_copyFrom_RX2 hown hK.1 hP 11 rfl rfl 1 (by decide) (hts _ k_X2_copyFrom_f21) (fun _ h9 => h9) rfl dX2_copyFrom_68 ?_
  refine lv_iload_n hx hb dX2_copyFrom_71 rfl (lv_at hl 0 rfl) ?_
  refine n_aald (j := 2) (v := .ref (b 7)) (Cn := "SteamRations$Machine") hx hb hK hP 15 3 rfl rfl (by decide) (by decide) rfl dX2_copyFrom_72 ?_
  refine gcall_V (run_V (As := [.ref (b 7)]) (rest := []) C0 hK hP hD (c_X3_copyFrom l G (a 7) (b 7) (v 15) (v 19) (v 23) (ov 15) (ov 19) (ov 23) H.size ) (cwV 1 hts gX2_copyFrom_X3_copyFrom rfl rfl rfl cd_X3_copyFrom ⟨Nat.le_of_ble_eq_true rfl, Nat.le_of_ble_eq_true rfl⟩) [7, 18] rfl rfl 7 (ci := 3) rfl rfl rfl rfl hl.1 rfl (Nat.le_of_ble_eq_true rfl) dX2_copyFrom_73 ⟨Nat.le_of_ble_eq_true rfl, Nat.le_of_ble_eq_true rfl⟩) hP hD hS hA [7, 18] rfl rfl (fun _ => rfl) (fun u_16 H locs hw_16 hP hD hS => ?_)
  obtain ⟨mk_c16, mt_c16, mw_c16⟩ := u_16
  simp only [f_X3_copyFrom, Prod.mk.injEq] at hw_16
  obtain ⟨rfl, rfl, rfl⟩ := hw_16
  have hP : va_P G.1 vwCl (LC G a (upd (upd (upd (upd (upd (upd (upd (upd (upd (upd (upd (upd (upd (upd (upd (upd (upd (upd (upd v 0 (ov 0)) 2 (ov 2)) 4 (ov 4)) 6 (ov 6)) 8 (ov 8)) 1 (ov 1)) 3 (ov 3)) 5 (ov 5)) 7 (ov 7)) 9 (ov 9)) 13 (ov 13)) 17 (ov 17)) 21 (ov 21)) 14 (ov 14)) 18 (ov 18)) 22 (ov 22)) 15 (ov 15)) 19 (ov 19)) 23 (ov 23)) q ++ LC G b ov oq) H := hP
  have hD : va_D A (LC G a (upd (upd (upd (upd (upd (upd (upd (upd (upd (upd (upd (upd (upd (upd (upd (upd (upd (upd (upd v 0 (ov 0)) 2 (ov 2)) 4 (ov 4)) 6 (ov 6)) 8 (ov 8)) 1 (ov 1)) 3 (ov 3)) 5 (ov 5)) 7 (ov 7)) 9 (ov 9)) 13 (ov 13)) 17 (ov 17)) 21 (ov 21)) 14 (ov 14)) 18 (ov 18)) 22 (ov 22)) 15 (ov 15)) 19 (ov 19)) 23 (ov 23)) q ++ LC G b ov oq) := hD
  refine lv_iinc (v := (nI 3)) (lv' := [(2, .int (nI 3)), (0, .ref (a 0)), (1, .ref (b 0))]) hx hb dX2_copyFrom_76 hl (k := 0) rfl (inc1 2) (by decide) rfl (fun ls hl => ?_)
  refine lv_goto (tgt := 43) hx hb dX2_copyFrom_79 (by decide) ?_
  refine lv_iload_n hx hb dX2_copyFrom_43 rfl (lv_at hl 0 rfl) ?_
  refine lv_aload_n hx hb dX2_copyFrom_44 rfl (lv_at hl 1 rfl) ?_
  refine va_get (D := G.1) (ci := 2) (v := .ref (a 4)) (C := RX2) (T := TX2) (N := 14) hx hb hts in_X2_copyFrom_RX2 hown hK.1 hP 0 rfl rfl 1 (by decide) (hts _ k_X2_copyFrom_f21) (fun _ h9 => h9) rfl dX2_copyFrom_45 ?_
  refine n_alen (n := 4) hx hb hK hP 4 3 rfl rfl dX2_copyFrom_48 ?_
  refine lv_icmp_ge (tgt := 82) hx hb dX2_copyFrom_49 (by decide) (fun c_17 => absurd c_17 (by decide +kernel)) (fun c_17 => ?_)
  refine lv_iload_n hx hb dX2_copyFrom_52 rfl (lv_at hl 0 rfl) ?_
  refine lv_aload_n hx hb dX2_copyFrom_53 rfl (lv_at hl 2 rfl) ?_
  refine va_get (D := G.1) (ci := 2) (v := .ref (b 4)) (C := RX2) (T := TX2) (N := 14) hx hb hts in_X2_copyFrom_RX2 hown hK.1 hP 11 rfl rfl 1 (by decide) (hts _ k_X2_copyFrom_f21) (fun _ h9 => h9) rfl dX2_copyFrom_54 ?_
  refine n_alen (n := 4) hx hb hK hP 15 3 rfl rfl dX2_copyFrom_57 ?_
  refine lv_icmp_ge (tgt := 82) hx hb dX2_copyFrom_58 (by decide) (fun c_18 => absurd c_18 (by decide +kernel)) (fun c_18 => ?_)
  refine lv_aload_n hx hb dX2_copyFrom_61 rfl (lv_at hl 1 rfl) ?_
  refine va_get (D := G.1) (ci := 2) (v := .ref (a 4)) (C := RX2) (T := TX2) (N := 14) hx hb hts in_X2_copyFrom_RX2 hown hK.1 hP 0 rfl rfl 1 (by decide) (hts _ k_X2_copyFrom_f21) (fun _ h9 => h9) rfl dX2_copyFrom_62 ?_
  refine lv_iload_n hx hb dX2_copyFrom_65 rfl (lv_at hl 0 rfl) ?_
  refine n_aald (j := 3) (v := .ref (a 8)) (Cn := "SteamRations$Machine") hx hb hK hP 4 3 rfl rfl (by decide) (by decide) rfl dX2_copyFrom_66 ?_
  refine lv_aload_n hx hb dX2_copyFrom_67 rfl (lv_at hl 2 rfl) ?_
  refine va_get (D := G.1) (ci := 2) (v := .ref (b 4)) (C := RX2) (T := TX2) (N := 14) hx hb hts in_X2_copyFrom_RX2 hown hK.1 hP 11 rfl rfl 1 (by decide) (hts _ k_X2_copyFrom_f21) (fun _ h9 => h9) rfl dX2_copyFrom_68 ?_
  refine lv_iload_n hx hb dX2_copyFrom_71 rfl (lv_at hl 0 rfl) ?_
  refine n_aald (j := 3) (v := .ref (b 8)) (Cn := "SteamRations$Machine") hx hb hK hP 15 3 rfl rfl (by decide) (by decide) rfl dX2_copyFrom_72 ?_
  refine gcall_V (run_V (As := [.ref (b 8)]) (rest := []) C0 hK hP hD (c_X3_copyFrom l G (a 8) (b 8) (v 16) (v 20) (v 24) (ov 16) (ov 20) (ov 24) H.size ) (cwV 1 hts gX2_copyFrom_X3_copyFrom rfl rfl rfl cd_X3_copyFrom ⟨Nat.le_of_ble_eq_true rfl, Nat.le_of_ble_eq_true rfl⟩) [8, 19] rfl rfl 8 (ci := 3) rfl rfl rfl rfl hl.1 rfl (Nat.le_of_ble_eq_true rfl) dX2_copyFrom_73 ⟨Nat.le_of_ble_eq_true rfl, Nat.le_of_ble_eq_true rfl⟩) hP hD hS hA [8, 19] rfl rfl (fun _ => rfl) (fun u_19 H locs hw_19 hP hD hS => ?_)
  obtain ⟨mk_c19, mt_c19, mw_c19⟩ := u_19
  simp only [f_X3_copyFrom, Prod.mk.injEq] at hw_19
  obtain ⟨rfl, rfl, rfl⟩ := hw_19
  have hP : va_P G.1 vwCl (LC G a (upd (upd (upd (upd (upd (upd (upd (upd (upd (upd (upd (upd (upd (upd (upd (upd (upd (upd (upd (upd (upd (upd v 0 (ov 0)) 2 (ov 2)) 4 (ov 4)) 6 (ov 6)) 8 (ov 8)) 1 (ov 1)) 3 (ov 3)) 5 (ov 5)) 7 (ov 7)) 9 (ov 9)) 13 (ov 13)) 17 (ov 17)) 21 (ov 21)) 14 (ov 14)) 18 (ov 18)) 22 (ov 22)) 15 (ov 15)) 19 (ov 19)) 23 (ov 23)) 16 (ov 16)) 20 (ov 20)) 24 (ov 24)) q ++ LC G b ov oq) H := hP
  have hD : va_D A (LC G a (upd (upd (upd (upd (upd (upd (upd (upd (upd (upd (upd (upd (upd (upd (upd (upd (upd (upd (upd (upd (upd (upd v 0 (ov 0)) 2 (ov 2)) 4 (ov 4)) 6 (ov 6)) 8 (ov 8)) 1 (ov 1)) 3 (ov 3)) 5 (ov 5)) 7 (ov 7)) 9 (ov 9)) 13 (ov 13)) 17 (ov 17)) 21 (ov 21)) 14 (ov 14)) 18 (ov 18)) 22 (ov 22)) 15 (ov 15)) 19 (ov 19)) 23 (ov 23)) 16 (ov 16)) 20 (ov 20)) 24 (ov 24)) q ++ LC G b ov oq) := hD
  refine lv_iinc (v := (nI 4)) (lv' := [(2, .int (nI 4)), (0, .ref (a 0)), (1, .ref (b 0))]) hx hb dX2_copyFrom_76 hl (k := 0) rfl (inc1 3) (by decide) rfl (fun ls hl => ?_)
  refine lv_goto (tgt := 43) hx hb dX2_copyFrom_79 (by decide) ?_
  refine lv_iload_n hx hb dX2_copyFrom_43 rfl (lv_at hl 0 rfl) ?_
  refine lv_aload_n hx hb dX2_copyFrom_44 rfl (lv_at hl 1 rfl) ?_
  refine va_get (D := G.1) (ci := 2) (v := .ref (a 4)) (C := RX2) (T := TX2) (N := 14) hx hb hts in_X2_copyFrom_RX2 hown hK.1 hP 0 rfl rfl 1 (by decide) (hts _ k_X2_copyFrom_f21) (fun _ h9 => h9) rfl dX2_copyFrom_45 ?_
  refine n_alen (n := 4) hx hb hK hP 4 3 rfl rfl dX2_copyFrom_48 ?_
  refine lv_icmp_ge (tgt := 82) hx hb dX2_copyFrom_49 (by decide) (fun c_20 => ?_) (fun c_20 => absurd (by decide +kernel) c_20)
  refine lv_aload_n hx hb dX2_copyFrom_82 rfl (lv_at hl 1 rfl) ?_
  refine va_get (D := G.1) (ci := 2) (v := .ref (a 9)) (C := RX2) (T := TX2) (N := 14) hx hb hts in_X2_copyFrom_RX2 hown hK.1 hP 0 rfl rfl 2 (by decide) (hts _ k_X2_copyFrom_f28) (fun _ h9 => h9) rfl dX2_copyFrom_83 ?_
  refine lv_aload_n hx hb dX2_copyFrom_86 rfl (lv_at hl 2 rfl) ?_
  refine va_get (D := G.1) (ci := 2) (v := .ref (b 9)) (C := RX2) (T := TX2) (N := 14) hx hb hts in_X2_copyFrom_RX2 hown hK.1 hP 11 rfl rfl 2 (by decide) (hts _ k_X2_copyFrom_f28) (fun _ h9 => h9) rfl dX2_copyFrom_87 ?_
  refine gcall_V (run_V (As := [.ref (b 9)]) (rest := []) C0 hK hP hD (c_X5_copyFrom l G (a 9) (a 10) (b 9) (b 10) (v 25) q (ov 25) oq H.size ) (cwV 1 hts gX2_copyFrom_X5_copyFrom rfl rfl rfl cd_X5_copyFrom ⟨Nat.le_of_ble_eq_true rfl, Nat.le_of_ble_eq_true rfl⟩) [9, 10, 20, 21] rfl rfl 9 (ci := 5) rfl rfl rfl rfl hl.1 rfl (Nat.le_of_ble_eq_true rfl) dX2_copyFrom_90 ⟨Nat.le_of_ble_eq_true rfl, Nat.le_of_ble_eq_true rfl⟩) hP hD hS hA [9, 10, 20, 21] rfl rfl (fun _ => rfl) (fun u_21 H locs hw_21 hP hD hS => ?_)
  obtain ⟨ln_c21, q_c21⟩ := u_21
  simp only [f_X5_copyFrom, Prod.mk.injEq] at hw_21
  obtain ⟨rfl, rfl⟩ := hw_21
  have hP : va_P G.1 vwCl (LC G a (upd (upd (upd (upd (upd (upd (upd (upd (upd (upd (upd (upd (upd (upd (upd (upd (upd (upd (upd (upd (upd (upd (upd v 0 (ov 0)) 2 (ov 2)) 4 (ov 4)) 6 (ov 6)) 8 (ov 8)) 1 (ov 1)) 3 (ov 3)) 5 (ov 5)) 7 (ov 7)) 9 (ov 9)) 13 (ov 13)) 17 (ov 17)) 21 (ov 21)) 14 (ov 14)) 18 (ov 18)) 22 (ov 22)) 15 (ov 15)) 19 (ov 19)) 23 (ov 23)) 16 (ov 16)) 20 (ov 20)) 24 (ov 24)) 25 (ov 25)) oq ++ LC G b ov oq) H := hP
  have hD : va_D A (LC G a (upd (upd (upd (upd (upd (upd (upd (upd (upd (upd (upd (upd (upd (upd (upd (upd (upd (upd (upd (upd (upd (upd (upd v 0 (ov 0)) 2 (ov 2)) 4 (ov 4)) 6 (ov 6)) 8 (ov 8)) 1 (ov 1)) 3 (ov 3)) 5 (ov 5)) 7 (ov 7)) 9 (ov 9)) 13 (ov 13)) 17 (ov 17)) 21 (ov 21)) 14 (ov 14)) 18 (ov 18)) 22 (ov 22)) 15 (ov 15)) 19 (ov 19)) 23 (ov 23)) 16 (ov 16)) 20 (ov 20)) 24 (ov 24)) 25 (ov 25)) oq ++ LC G b ov oq) := hD
  refine lv_aload_n hx hb dX2_copyFrom_93 rfl (lv_at hl 1 rfl) ?_
  refine lv_aload_n hx hb dX2_copyFrom_94 rfl (lv_at hl 2 rfl) ?_
  refine va_get (D := G.1) (ci := 2) (v := .int (ov 12)) (C := RX2) (T := TX2) (N := 14) hx hb hts in_X2_copyFrom_RX2 hown hK.1 hP 11 rfl rfl 3 (by decide) (hts _ k_X2_copyFrom_f49) (fun _ h9 => h9) rfl dX2_copyFrom_95 ?_
  refine va_put (D := G.1) (ci := 2) (v := .int (ov 12)) (ty := .int) (C := RX2) (T := TX2) (N := 14) hx hb hts in_X2_copyFrom_RX2 tyX2 tyX2_ok nmX2 hown hK.1 hP hD hS 0 rfl rfl 3 (by decide) (hts _ k_X2_copyFrom_f49) (fun _ h9 => h9) rfl (by decide +kernel) rfl rfl (Nat.le_of_ble_eq_true rfl) dX2_copyFrom_98 (fun H locs hP hD hS => ?_)
  have hP : va_P G.1 vwCl (LC G a (upd (upd (upd (upd (upd (upd (upd (upd (upd (upd (upd (upd (upd (upd (upd (upd (upd (upd (upd (upd (upd (upd (upd (upd v 0 (ov 0)) 2 (ov 2)) 4 (ov 4)) 6 (ov 6)) 8 (ov 8)) 1 (ov 1)) 3 (ov 3)) 5 (ov 5)) 7 (ov 7)) 9 (ov 9)) 13 (ov 13)) 17 (ov 17)) 21 (ov 21)) 14 (ov 14)) 18 (ov 18)) 22 (ov 22)) 15 (ov 15)) 19 (ov 19)) 23 (ov 23)) 16 (ov 16)) 20 (ov 20)) 24 (ov 24)) 25 (ov 25)) 12 (ov 12)) oq ++ LC G b ov oq) H := hP
  have hD : va_D A (LC G a (upd (upd (upd (upd (upd (upd (upd (upd (upd (upd (upd (upd (upd (upd (upd (upd (upd (upd (upd (upd (upd (upd (upd (upd v 0 (ov 0)) 2 (ov 2)) 4 (ov 4)) 6 (ov 6)) 8 (ov 8)) 1 (ov 1)) 3 (ov 3)) 5 (ov 5)) 7 (ov 7)) 9 (ov 9)) 13 (ov 13)) 17 (ov 17)) 21 (ov 21)) 14 (ov 14)) 18 (ov 18)) 22 (ov 22)) 15 (ov 15)) 19 (ov 19)) 23 (ov 23)) 16 (ov 16)) 20 (ov 20)) 24 (ov 24)) 25 (ov 25)) 12 (ov 12)) oq ++ LC G b ov oq) := hD
  refine lv_aload_n hx hb dX2_copyFrom_101 rfl (lv_at hl 1 rfl) ?_
  refine lv_aload_n hx hb dX2_copyFrom_102 rfl (lv_at hl 2 rfl) ?_
  refine va_get (D := G.1) (ci := 2) (v := .int (ov 41)) (C := RX2) (T := TX2) (N := 14) hx hb hts in_X2_copyFrom_RX2 hown hK.1 hP 11 rfl rfl 4 (by decide) (hts _ k_X2_copyFrom_f52) (fun _ h9 => h9) rfl dX2_copyFrom_103 ?_
  refine va_put (D := G.1) (ci := 2) (v := .int (ov 41)) (ty := .int) (C := RX2) (T := TX2) (N := 14) hx hb hts in_X2_copyFrom_RX2 tyX2 tyX2_ok nmX2 hown hK.1 hP hD hS 0 rfl rfl 4 (by decide) (hts _ k_X2_copyFrom_f52) (fun _ h9 => h9) rfl (by decide +kernel) rfl rfl (Nat.le_of_ble_eq_true rfl) dX2_copyFrom_106 (fun H locs hP hD hS => ?_)
  have hP : va_P G.1 vwCl (LC G a (upd (upd (upd (upd (upd (upd (upd (upd (upd (upd (upd (upd (upd (upd (upd (upd (upd (upd (upd (upd (upd (upd (upd (upd (upd v 0 (ov 0)) 2 (ov 2)) 4 (ov 4)) 6 (ov 6)) 8 (ov 8)) 1 (ov 1)) 3 (ov 3)) 5 (ov 5)) 7 (ov 7)) 9 (ov 9)) 13 (ov 13)) 17 (ov 17)) 21 (ov 21)) 14 (ov 14)) 18 (ov 18)) 22 (ov 22)) 15 (ov 15)) 19 (ov 19)) 23 (ov 23)) 16 (ov 16)) 20 (ov 20)) 24 (ov 24)) 25 (ov 25)) 12 (ov 12)) 41 (ov 41)) oq ++ LC G b ov oq) H := hP
  have hD : va_D A (LC G a (upd (upd (upd (upd (upd (upd (upd (upd (upd (upd (upd (upd (upd (upd (upd (upd (upd (upd (upd (upd (upd (upd (upd (upd (upd v 0 (ov 0)) 2 (ov 2)) 4 (ov 4)) 6 (ov 6)) 8 (ov 8)) 1 (ov 1)) 3 (ov 3)) 5 (ov 5)) 7 (ov 7)) 9 (ov 9)) 13 (ov 13)) 17 (ov 17)) 21 (ov 21)) 14 (ov 14)) 18 (ov 18)) 22 (ov 22)) 15 (ov 15)) 19 (ov 19)) 23 (ov 23)) 16 (ov 16)) 20 (ov 20)) 24 (ov 24)) 25 (ov 25)) 12 (ov 12)) 41 (ov 41)) oq ++ LC G b ov oq) := hD
  refine lv_aload_n hx hb dX2_copyFrom_109 rfl (lv_at hl 1 rfl) ?_
  refine lv_aload_n hx hb dX2_copyFrom_110 rfl (lv_at hl 2 rfl) ?_
  refine va_get (D := G.1) (ci := 2) (v := .int (ov 42)) (C := RX2) (T := TX2) (N := 14) hx hb hts in_X2_copyFrom_RX2 hown hK.1 hP 11 rfl rfl 5 (by decide) (hts _ k_X2_copyFrom_f55) (fun _ h9 => h9) rfl dX2_copyFrom_111 ?_
  refine va_put (D := G.1) (ci := 2) (v := .int (ov 42)) (ty := .int) (C := RX2) (T := TX2) (N := 14) hx hb hts in_X2_copyFrom_RX2 tyX2 tyX2_ok nmX2 hown hK.1 hP hD hS 0 rfl rfl 5 (by decide) (hts _ k_X2_copyFrom_f55) (fun _ h9 => h9) rfl (by decide +kernel) rfl rfl (Nat.le_of_ble_eq_true rfl) dX2_copyFrom_114 (fun H locs hP hD hS => ?_)
  have hP : va_P G.1 vwCl (LC G a (upd (upd (upd (upd (upd (upd (upd (upd (upd (upd (upd (upd (upd (upd (upd (upd (upd (upd (upd (upd (upd (upd (upd (upd (upd (upd v 0 (ov 0)) 2 (ov 2)) 4 (ov 4)) 6 (ov 6)) 8 (ov 8)) 1 (ov 1)) 3 (ov 3)) 5 (ov 5)) 7 (ov 7)) 9 (ov 9)) 13 (ov 13)) 17 (ov 17)) 21 (ov 21)) 14 (ov 14)) 18 (ov 18)) 22 (ov 22)) 15 (ov 15)) 19 (ov 19)) 23 (ov 23)) 16 (ov 16)) 20 (ov 20)) 24 (ov 24)) 25 (ov 25)) 12 (ov 12)) 41 (ov 41)) 42 (ov 42)) oq ++ LC G b ov oq) H := hP
  have hD : va_D A (LC G a (upd (upd (upd (upd (upd (upd (upd (upd (upd (upd (upd (upd (upd (upd (upd (upd (upd (upd (upd (upd (upd (upd (upd (upd (upd (upd v 0 (ov 0)) 2 (ov 2)) 4 (ov 4)) 6 (ov 6)) 8 (ov 8)) 1 (ov 1)) 3 (ov 3)) 5 (ov 5)) 7 (ov 7)) 9 (ov 9)) 13 (ov 13)) 17 (ov 17)) 21 (ov 21)) 14 (ov 14)) 18 (ov 18)) 22 (ov 22)) 15 (ov 15)) 19 (ov 19)) 23 (ov 23)) 16 (ov 16)) 20 (ov 20)) 24 (ov 24)) 25 (ov 25)) 12 (ov 12)) 41 (ov 41)) 42 (ov 42)) oq ++ LC G b ov oq) := hD
  refine lv_aload_n hx hb dX2_copyFrom_117 rfl (lv_at hl 1 rfl) ?_
  refine lv_aload_n hx hb dX2_copyFrom_118 rfl (lv_at hl 2 rfl) ?_
  refine va_get (D := G.1) (ci := 2) (v := .int (ov 38)) (C := RX2) (T := TX2) (N := 14) hx hb hts in_X2_copyFrom_RX2 hown hK.1 hP 11 rfl rfl 6 (by decide) (hts _ k_X2_copyFrom_f58) (fun _ h9 => h9) rfl dX2_copyFrom_119 ?_
  refine va_put (D := G.1) (ci := 2) (v := .int (ov 38)) (ty := .int) (C := RX2) (T := TX2) (N := 14) hx hb hts in_X2_copyFrom_RX2 tyX2 tyX2_ok nmX2 hown hK.1 hP hD hS 0 rfl rfl 6 (by decide) (hts _ k_X2_copyFrom_f58) (fun _ h9 => h9) rfl (by decide +kernel) rfl rfl (Nat.le_of_ble_eq_true rfl) dX2_copyFrom_122 (fun H locs hP hD hS => ?_)
  have hP : va_P G.1 vwCl (LC G a (upd (upd (upd (upd (upd (upd (upd (upd (upd (upd (upd (upd (upd (upd (upd (upd (upd (upd (upd (upd (upd (upd (upd (upd (upd (upd (upd v 0 (ov 0)) 2 (ov 2)) 4 (ov 4)) 6 (ov 6)) 8 (ov 8)) 1 (ov 1)) 3 (ov 3)) 5 (ov 5)) 7 (ov 7)) 9 (ov 9)) 13 (ov 13)) 17 (ov 17)) 21 (ov 21)) 14 (ov 14)) 18 (ov 18)) 22 (ov 22)) 15 (ov 15)) 19 (ov 19)) 23 (ov 23)) 16 (ov 16)) 20 (ov 20)) 24 (ov 24)) 25 (ov 25)) 12 (ov 12)) 41 (ov 41)) 42 (ov 42)) 38 (ov 38)) oq ++ LC G b ov oq) H := hP
  have hD : va_D A (LC G a (upd (upd (upd (upd (upd (upd (upd (upd (upd (upd (upd (upd (upd (upd (upd (upd (upd (upd (upd (upd (upd (upd (upd (upd (upd (upd (upd v 0 (ov 0)) 2 (ov 2)) 4 (ov 4)) 6 (ov 6)) 8 (ov 8)) 1 (ov 1)) 3 (ov 3)) 5 (ov 5)) 7 (ov 7)) 9 (ov 9)) 13 (ov 13)) 17 (ov 17)) 21 (ov 21)) 14 (ov 14)) 18 (ov 18)) 22 (ov 22)) 15 (ov 15)) 19 (ov 19)) 23 (ov 23)) 16 (ov 16)) 20 (ov 20)) 24 (ov 24)) 25 (ov 25)) 12 (ov 12)) 41 (ov 41)) 42 (ov 42)) 38 (ov 38)) oq ++ LC G b ov oq) := hD
  refine lv_aload_n hx hb dX2_copyFrom_125 rfl (lv_at hl 1 rfl) ?_
  refine lv_aload_n hx hb dX2_copyFrom_126 rfl (lv_at hl 2 rfl) ?_
  refine va_get (D := G.1) (ci := 2) (v := .int (ov 10)) (C := RX2) (T := TX2) (N := 14) hx hb hts in_X2_copyFrom_RX2 hown hK.1 hP 11 rfl rfl 7 (by decide) (hts _ k_X2_copyFrom_f32) (fun _ h9 => h9) rfl dX2_copyFrom_127 ?_
  refine va_put (D := G.1) (ci := 2) (v := .int (ov 10)) (ty := .int) (C := RX2) (T := TX2) (N := 14) hx hb hts in_X2_copyFrom_RX2 tyX2 tyX2_ok nmX2 hown hK.1 hP hD hS 0 rfl rfl 7 (by decide) (hts _ k_X2_copyFrom_f32) (fun _ h9 => h9) rfl (by decide +kernel) rfl rfl (Nat.le_of_ble_eq_true rfl) dX2_copyFrom_130 (fun H locs hP hD hS => ?_)
  have hP : va_P G.1 vwCl (LC G a (upd (upd (upd (upd (upd (upd (upd (upd (upd (upd (upd (upd (upd (upd (upd (upd (upd (upd (upd (upd (upd (upd (upd (upd (upd (upd (upd (upd v 0 (ov 0)) 2 (ov 2)) 4 (ov 4)) 6 (ov 6)) 8 (ov 8)) 1 (ov 1)) 3 (ov 3)) 5 (ov 5)) 7 (ov 7)) 9 (ov 9)) 13 (ov 13)) 17 (ov 17)) 21 (ov 21)) 14 (ov 14)) 18 (ov 18)) 22 (ov 22)) 15 (ov 15)) 19 (ov 19)) 23 (ov 23)) 16 (ov 16)) 20 (ov 20)) 24 (ov 24)) 25 (ov 25)) 12 (ov 12)) 41 (ov 41)) 42 (ov 42)) 38 (ov 38)) 10 (ov 10)) oq ++ LC G b ov oq) H := hP
  have hD : va_D A (LC G a (upd (upd (upd (upd (upd (upd (upd (upd (upd (upd (upd (upd (upd (upd (upd (upd (upd (upd (upd (upd (upd (upd (upd (upd (upd (upd (upd (upd v 0 (ov 0)) 2 (ov 2)) 4 (ov 4)) 6 (ov 6)) 8 (ov 8)) 1 (ov 1)) 3 (ov 3)) 5 (ov 5)) 7 (ov 7)) 9 (ov 9)) 13 (ov 13)) 17 (ov 17)) 21 (ov 21)) 14 (ov 14)) 18 (ov 18)) 22 (ov 22)) 15 (ov 15)) 19 (ov 19)) 23 (ov 23)) 16 (ov 16)) 20 (ov 20)) 24 (ov 24)) 25 (ov 25)) 12 (ov 12)) 41 (ov 41)) 42 (ov 42)) 38 (ov 38)) 10 (ov 10)) oq ++ LC G b ov oq) := hD
  refine lv_aload_n hx hb dX2_copyFrom_133 rfl (lv_at hl 1 rfl) ?_
  refine lv_aload_n hx hb dX2_copyFrom_134 rfl (lv_at hl 2 rfl) ?_
  refine va_get (D := G.1) (ci := 2) (v := .int (ov 11)) (C := RX2) (T := TX2) (N := 14) hx hb hts in_X2_copyFrom_RX2 hown hK.1 hP 11 rfl rfl 8 (by decide) (hts _ k_X2_copyFrom_f36) (fun _ h9 => h9) rfl dX2_copyFrom_135 ?_
  refine va_put (D := G.1) (ci := 2) (v := .int (ov 11)) (ty := .int) (C := RX2) (T := TX2) (N := 14) hx hb hts in_X2_copyFrom_RX2 tyX2 tyX2_ok nmX2 hown hK.1 hP hD hS 0 rfl rfl 8 (by decide) (hts _ k_X2_copyFrom_f36) (fun _ h9 => h9) rfl (by decide +kernel) rfl rfl (Nat.le_of_ble_eq_true rfl) dX2_copyFrom_138 (fun H locs hP hD hS => ?_)
  have hP : va_P G.1 vwCl (LC G a (upd (upd (upd (upd (upd (upd (upd (upd (upd (upd (upd (upd (upd (upd (upd (upd (upd (upd (upd (upd (upd (upd (upd (upd (upd (upd (upd (upd (upd v 0 (ov 0)) 2 (ov 2)) 4 (ov 4)) 6 (ov 6)) 8 (ov 8)) 1 (ov 1)) 3 (ov 3)) 5 (ov 5)) 7 (ov 7)) 9 (ov 9)) 13 (ov 13)) 17 (ov 17)) 21 (ov 21)) 14 (ov 14)) 18 (ov 18)) 22 (ov 22)) 15 (ov 15)) 19 (ov 19)) 23 (ov 23)) 16 (ov 16)) 20 (ov 20)) 24 (ov 24)) 25 (ov 25)) 12 (ov 12)) 41 (ov 41)) 42 (ov 42)) 38 (ov 38)) 10 (ov 10)) 11 (ov 11)) oq ++ LC G b ov oq) H := hP
  have hD : va_D A (LC G a (upd (upd (upd (upd (upd (upd (upd (upd (upd (upd (upd (upd (upd (upd (upd (upd (upd (upd (upd (upd (upd (upd (upd (upd (upd (upd (upd (upd (upd v 0 (ov 0)) 2 (ov 2)) 4 (ov 4)) 6 (ov 6)) 8 (ov 8)) 1 (ov 1)) 3 (ov 3)) 5 (ov 5)) 7 (ov 7)) 9 (ov 9)) 13 (ov 13)) 17 (ov 17)) 21 (ov 21)) 14 (ov 14)) 18 (ov 18)) 22 (ov 22)) 15 (ov 15)) 19 (ov 19)) 23 (ov 23)) 16 (ov 16)) 20 (ov 20)) 24 (ov 24)) 25 (ov 25)) 12 (ov 12)) 41 (ov 41)) 42 (ov 42)) 38 (ov 38)) 10 (ov 10)) 11 (ov 11)) oq ++ LC G b ov oq) := hD
  refine lv_aload_n hx hb dX2_copyFrom_141 rfl (lv_at hl 1 rfl) ?_
  refine lv_aload_n hx hb dX2_copyFrom_142 rfl (lv_at hl 2 rfl) ?_
  refine va_get (D := G.1) (ci := 2) (v := .int (ov 39)) (C := RX2) (T := TX2) (N := 14) hx hb hts in_X2_copyFrom_RX2 hown hK.1 hP 11 rfl rfl 9 (by decide) (hts _ k_X2_copyFrom_f61) (fun _ h9 => h9) rfl dX2_copyFrom_143 ?_
  refine va_put (D := G.1) (ci := 2) (v := .int (ov 39)) (ty := .int) (C := RX2) (T := TX2) (N := 14) hx hb hts in_X2_copyFrom_RX2 tyX2 tyX2_ok nmX2 hown hK.1 hP hD hS 0 rfl rfl 9 (by decide) (hts _ k_X2_copyFrom_f61) (fun _ h9 => h9) rfl (by decide +kernel) rfl rfl (Nat.le_of_ble_eq_true rfl) dX2_copyFrom_146 (fun H locs hP hD hS => ?_)
  have hP : va_P G.1 vwCl (LC G a (upd (upd (upd (upd (upd (upd (upd (upd (upd (upd (upd (upd (upd (upd (upd (upd (upd (upd (upd (upd (upd (upd (upd (upd (upd (upd (upd (upd (upd (upd v 0 (ov 0)) 2 (ov 2)) 4 (ov 4)) 6 (ov 6)) 8 (ov 8)) 1 (ov 1)) 3 (ov 3)) 5 (ov 5)) 7 (ov 7)) 9 (ov 9)) 13 (ov 13)) 17 (ov 17)) 21 (ov 21)) 14 (ov 14)) 18 (ov 18)) 22 (ov 22)) 15 (ov 15)) 19 (ov 19)) 23 (ov 23)) 16 (ov 16)) 20 (ov 20)) 24 (ov 24)) 25 (ov 25)) 12 (ov 12)) 41 (ov 41)) 42 (ov 42)) 38 (ov 38)) 10 (ov 10)) 11 (ov 11)) 39 (ov 39)) oq ++ LC G b ov oq) H := hP
  have hD : va_D A (LC G a (upd (upd (upd (upd (upd (upd (upd (upd (upd (upd (upd (upd (upd (upd (upd (upd (upd (upd (upd (upd (upd (upd (upd (upd (upd (upd (upd (upd (upd (upd v 0 (ov 0)) 2 (ov 2)) 4 (ov 4)) 6 (ov 6)) 8 (ov 8)) 1 (ov 1)) 3 (ov 3)) 5 (ov 5)) 7 (ov 7)) 9 (ov 9)) 13 (ov 13)) 17 (ov 17)) 21 (ov 21)) 14 (ov 14)) 18 (ov 18)) 22 (ov 22)) 15 (ov 15)) 19 (ov 19)) 23 (ov 23)) 16 (ov 16)) 20 (ov 20)) 24 (ov 24)) 25 (ov 25)) 12 (ov 12)) 41 (ov 41)) 42 (ov 42)) 38 (ov 38)) 10 (ov 10)) 11 (ov 11)) 39 (ov 39)) oq ++ LC G b ov oq) := hD
  refine lv_aload_n hx hb dX2_copyFrom_149 rfl (lv_at hl 1 rfl) ?_
  refine lv_aload_n hx hb dX2_copyFrom_150 rfl (lv_at hl 2 rfl) ?_
  refine va_get (D := G.1) (ci := 2) (v := .int (ov 40)) (C := RX2) (T := TX2) (N := 14) hx hb hts in_X2_copyFrom_RX2 hown hK.1 hP 11 rfl rfl 10 (by decide) (hts _ k_X2_copyFrom_f64) (fun _ h9 => h9) rfl dX2_copyFrom_151 ?_
  refine va_put (D := G.1) (ci := 2) (v := .int (ov 40)) (ty := .int) (C := RX2) (T := TX2) (N := 14) hx hb hts in_X2_copyFrom_RX2 tyX2 tyX2_ok nmX2 hown hK.1 hP hD hS 0 rfl rfl 10 (by decide) (hts _ k_X2_copyFrom_f64) (fun _ h9 => h9) rfl (by decide +kernel) rfl rfl (Nat.le_of_ble_eq_true rfl) dX2_copyFrom_154 (fun H locs hP hD hS => ?_)
  have hP : va_P G.1 vwCl (LC G a (upd (upd (upd (upd (upd (upd (upd (upd (upd (upd (upd (upd (upd (upd (upd (upd (upd (upd (upd (upd (upd (upd (upd (upd (upd (upd (upd (upd (upd (upd (upd v 0 (ov 0)) 2 (ov 2)) 4 (ov 4)) 6 (ov 6)) 8 (ov 8)) 1 (ov 1)) 3 (ov 3)) 5 (ov 5)) 7 (ov 7)) 9 (ov 9)) 13 (ov 13)) 17 (ov 17)) 21 (ov 21)) 14 (ov 14)) 18 (ov 18)) 22 (ov 22)) 15 (ov 15)) 19 (ov 19)) 23 (ov 23)) 16 (ov 16)) 20 (ov 20)) 24 (ov 24)) 25 (ov 25)) 12 (ov 12)) 41 (ov 41)) 42 (ov 42)) 38 (ov 38)) 10 (ov 10)) 11 (ov 11)) 39 (ov 39)) 40 (ov 40)) oq ++ LC G b ov oq) H := hP
  have hD : va_D A (LC G a (upd (upd (upd (upd (upd (upd (upd (upd (upd (upd (upd (upd (upd (upd (upd (upd (upd (upd (upd (upd (upd (upd (upd (upd (upd (upd (upd (upd (upd (upd (upd v 0 (ov 0)) 2 (ov 2)) 4 (ov 4)) 6 (ov 6)) 8 (ov 8)) 1 (ov 1)) 3 (ov 3)) 5 (ov 5)) 7 (ov 7)) 9 (ov 9)) 13 (ov 13)) 17 (ov 17)) 21 (ov 21)) 14 (ov 14)) 18 (ov 18)) 22 (ov 22)) 15 (ov 15)) 19 (ov 19)) 23 (ov 23)) 16 (ov 16)) 20 (ov 20)) 24 (ov 24)) 25 (ov 25)) 12 (ov 12)) 41 (ov 41)) 42 (ov 42)) 38 (ov 38)) 10 (ov 10)) 11 (ov 11)) 39 (ov 39)) 40 (ov 40)) oq ++ LC G b ov oq) := hD
  refine lv_aload_n hx hb dX2_copyFrom_157 rfl (lv_at hl 1 rfl) ?_
  refine lv_aload_n hx hb dX2_copyFrom_158 rfl (lv_at hl 2 rfl) ?_
  refine va_get (D := G.1) (ci := 2) (v := .int (ov 43)) (C := RX2) (T := TX2) (N := 14) hx hb hts in_X2_copyFrom_RX2 hown hK.1 hP 11 rfl rfl 11 (by decide) (hts _ k_X2_copyFrom_f67) (fun _ h9 => h9) rfl dX2_copyFrom_159 ?_
  refine va_put (D := G.1) (ci := 2) (v := .int (ov 43)) (ty := .int) (C := RX2) (T := TX2) (N := 14) hx hb hts in_X2_copyFrom_RX2 tyX2 tyX2_ok nmX2 hown hK.1 hP hD hS 0 rfl rfl 11 (by decide) (hts _ k_X2_copyFrom_f67) (fun _ h9 => h9) rfl (by decide +kernel) rfl rfl (Nat.le_of_ble_eq_true rfl) dX2_copyFrom_162 (fun H locs hP hD hS => ?_)
  have hP : va_P G.1 vwCl (LC G a (upd (upd (upd (upd (upd (upd (upd (upd (upd (upd (upd (upd (upd (upd (upd (upd (upd (upd (upd (upd (upd (upd (upd (upd (upd (upd (upd (upd (upd (upd (upd (upd v 0 (ov 0)) 2 (ov 2)) 4 (ov 4)) 6 (ov 6)) 8 (ov 8)) 1 (ov 1)) 3 (ov 3)) 5 (ov 5)) 7 (ov 7)) 9 (ov 9)) 13 (ov 13)) 17 (ov 17)) 21 (ov 21)) 14 (ov 14)) 18 (ov 18)) 22 (ov 22)) 15 (ov 15)) 19 (ov 19)) 23 (ov 23)) 16 (ov 16)) 20 (ov 20)) 24 (ov 24)) 25 (ov 25)) 12 (ov 12)) 41 (ov 41)) 42 (ov 42)) 38 (ov 38)) 10 (ov 10)) 11 (ov 11)) 39 (ov 39)) 40 (ov 40)) 43 (ov 43)) oq ++ LC G b ov oq) H := hP
  have hD : va_D A (LC G a (upd (upd (upd (upd (upd (upd (upd (upd (upd (upd (upd (upd (upd (upd (upd (upd (upd (upd (upd (upd (upd (upd (upd (upd (upd (upd (upd (upd (upd (upd (upd (upd v 0 (ov 0)) 2 (ov 2)) 4 (ov 4)) 6 (ov 6)) 8 (ov 8)) 1 (ov 1)) 3 (ov 3)) 5 (ov 5)) 7 (ov 7)) 9 (ov 9)) 13 (ov 13)) 17 (ov 17)) 21 (ov 21)) 14 (ov 14)) 18 (ov 18)) 22 (ov 22)) 15 (ov 15)) 19 (ov 19)) 23 (ov 23)) 16 (ov 16)) 20 (ov 20)) 24 (ov 24)) 25 (ov 25)) 12 (ov 12)) 41 (ov 41)) 42 (ov 42)) 38 (ov 38)) 10 (ov 10)) 11 (ov 11)) 39 (ov 39)) 40 (ov 40)) 43 (ov 43)) oq ++ LC G b ov oq) := hD
  refine lv_aload_n hx hb dX2_copyFrom_165 rfl (lv_at hl 1 rfl) ?_
  refine lv_aload_n hx hb dX2_copyFrom_166 rfl (lv_at hl 2 rfl) ?_
  refine va_get (D := G.1) (ci := 2) (v := .int (ov 44)) (C := RX2) (T := TX2) (N := 14) hx hb hts in_X2_copyFrom_RX2 hown hK.1 hP 11 rfl rfl 12 (by decide) (hts _ k_X2_copyFrom_f70) (fun _ h9 => h9) rfl dX2_copyFrom_167 ?_
  refine va_put (D := G.1) (ci := 2) (v := .int (ov 44)) (ty := .int) (C := RX2) (T := TX2) (N := 14) hx hb hts in_X2_copyFrom_RX2 tyX2 tyX2_ok nmX2 hown hK.1 hP hD hS 0 rfl rfl 12 (by decide) (hts _ k_X2_copyFrom_f70) (fun _ h9 => h9) rfl (by decide +kernel) rfl rfl (Nat.le_of_ble_eq_true rfl) dX2_copyFrom_170 (fun H locs hP hD hS => ?_)
  have hP : va_P G.1 vwCl (LC G a (upd (upd (upd (upd (upd (upd (upd (upd (upd (upd (upd (upd (upd (upd (upd (upd (upd (upd (upd (upd (upd (upd (upd (upd (upd (upd (upd (upd (upd (upd (upd (upd (upd v 0 (ov 0)) 2 (ov 2)) 4 (ov 4)) 6 (ov 6)) 8 (ov 8)) 1 (ov 1)) 3 (ov 3)) 5 (ov 5)) 7 (ov 7)) 9 (ov 9)) 13 (ov 13)) 17 (ov 17)) 21 (ov 21)) 14 (ov 14)) 18 (ov 18)) 22 (ov 22)) 15 (ov 15)) 19 (ov 19)) 23 (ov 23)) 16 (ov 16)) 20 (ov 20)) 24 (ov 24)) 25 (ov 25)) 12 (ov 12)) 41 (ov 41)) 42 (ov 42)) 38 (ov 38)) 10 (ov 10)) 11 (ov 11)) 39 (ov 39)) 40 (ov 40)) 43 (ov 43)) 44 (ov 44)) oq ++ LC G b ov oq) H := hP
  have hD : va_D A (LC G a (upd (upd (upd (upd (upd (upd (upd (upd (upd (upd (upd (upd (upd (upd (upd (upd (upd (upd (upd (upd (upd (upd (upd (upd (upd (upd (upd (upd (upd (upd (upd (upd (upd v 0 (ov 0)) 2 (ov 2)) 4 (ov 4)) 6 (ov 6)) 8 (ov 8)) 1 (ov 1)) 3 (ov 3)) 5 (ov 5)) 7 (ov 7)) 9 (ov 9)) 13 (ov 13)) 17 (ov 17)) 21 (ov 21)) 14 (ov 14)) 18 (ov 18)) 22 (ov 22)) 15 (ov 15)) 19 (ov 19)) 23 (ov 23)) 16 (ov 16)) 20 (ov 20)) 24 (ov 24)) 25 (ov 25)) 12 (ov 12)) 41 (ov 41)) 42 (ov 42)) 38 (ov 38)) 10 (ov 10)) 11 (ov 11)) 39 (ov 39)) 40 (ov 40)) 43 (ov 43)) 44 (ov 44)) oq ++ LC G b ov oq) := hD
  refine lv_aload_n hx hb dX2_copyFrom_173 rfl (lv_at hl 1 rfl) ?_
  refine lv_aload_n hx hb dX2_copyFrom_174 rfl (lv_at hl 2 rfl) ?_
  refine va_get (D := G.1) (ci := 2) (v := .int (ov 45)) (C := RX2) (T := TX2) (N := 14) hx hb hts in_X2_copyFrom_RX2 hown hK.1 hP 11 rfl rfl 13 (by decide) (hts _ k_X2_copyFrom_f73) (fun _ h9 => h9) rfl dX2_copyFrom_175 ?_
  refine va_put (D := G.1) (ci := 2) (v := .int (ov 45)) (ty := .int) (C := RX2) (T := TX2) (N := 14) hx hb hts in_X2_copyFrom_RX2 tyX2 tyX2_ok nmX2 hown hK.1 hP hD hS 0 rfl rfl 13 (by decide) (hts _ k_X2_copyFrom_f73) (fun _ h9 => h9) rfl (by decide +kernel) rfl rfl (Nat.le_of_ble_eq_true rfl) dX2_copyFrom_178 (fun H locs hP hD hS => ?_)
  have hP : va_P G.1 vwCl (LC G a (upd (upd (upd (upd (upd (upd (upd (upd (upd (upd (upd (upd (upd (upd (upd (upd (upd (upd (upd (upd (upd (upd (upd (upd (upd (upd (upd (upd (upd (upd (upd (upd (upd (upd v 0 (ov 0)) 2 (ov 2)) 4 (ov 4)) 6 (ov 6)) 8 (ov 8)) 1 (ov 1)) 3 (ov 3)) 5 (ov 5)) 7 (ov 7)) 9 (ov 9)) 13 (ov 13)) 17 (ov 17)) 21 (ov 21)) 14 (ov 14)) 18 (ov 18)) 22 (ov 22)) 15 (ov 15)) 19 (ov 19)) 23 (ov 23)) 16 (ov 16)) 20 (ov 20)) 24 (ov 24)) 25 (ov 25)) 12 (ov 12)) 41 (ov 41)) 42 (ov 42)) 38 (ov 38)) 10 (ov 10)) 11 (ov 11)) 39 (ov 39)) 40 (ov 40)) 43 (ov 43)) 44 (ov 44)) 45 (ov 45)) oq ++ LC G b ov oq) H := hP
  have hD : va_D A (LC G a (upd (upd (upd (upd (upd (upd (upd (upd (upd (upd (upd (upd (upd (upd (upd (upd (upd (upd (upd (upd (upd (upd (upd (upd (upd (upd (upd (upd (upd (upd (upd (upd (upd (upd v 0 (ov 0)) 2 (ov 2)) 4 (ov 4)) 6 (ov 6)) 8 (ov 8)) 1 (ov 1)) 3 (ov 3)) 5 (ov 5)) 7 (ov 7)) 9 (ov 9)) 13 (ov 13)) 17 (ov 17)) 21 (ov 21)) 14 (ov 14)) 18 (ov 18)) 22 (ov 22)) 15 (ov 15)) 19 (ov 19)) 23 (ov 23)) 16 (ov 16)) 20 (ov 20)) 24 (ov 24)) 25 (ov 25)) 12 (ov 12)) 41 (ov 41)) 42 (ov 42)) 38 (ov 38)) 10 (ov 10)) 11 (ov 11)) 39 (ov 39)) 40 (ov 40)) 43 (ov 43)) 44 (ov 44)) 45 (ov 45)) oq ++ LC G b ov oq) := hD
  exact end_V C0 hP hD hS (ov, oq) rfl rfl dX2_copyFrom_181

def s_X2_workTick_122_0  (v_122 : (Nat → Int32)) : Int32 × (Nat → Int32) :=
  match f_X0_coolDown (v_122 0) (v_122 4) (v_122 6) (v_122 8) with
  | (bf_c14, bp_c14, bl_c14, bs_c14) =>
    match f_X0_coolDown (v_122 1) (v_122 5) (v_122 7) (v_122 9) with
    | (bf_c16, bp_c16, bl_c16, bs_c16) =>
      ((nI 0), (upd (upd (upd (upd (upd (upd (upd (upd v_122 0 bf_c14) 4 bp_c14) 6 bl_c14) 8 bs_c14) 1 bf_c16) 5 bp_c16) 7 bl_c16) 9 bs_c16))
def s_X2_workTick_122_1  (v_122 : (Nat → Int32)) : Int32 × (Nat → Int32) :=
  match f_X0_coolDown (v_122 0) (v_122 4) (v_122 6) (v_122 8) with
  | (bf_c21, bp_c21, bl_c21, bs_c21) =>
    match f_X0_coolDown (v_122 1) (v_122 5) (v_122 7) (v_122 9) with
    | (bf_c23, bp_c23, bl_c23, bs_c23) =>
      ((nI 1), (upd (upd (upd (upd (upd (upd (upd (upd v_122 0 bf_c21) 4 bp_c21) 6 bl_c21) 8 bs_c21) 1 bf_c23) 5 bp_c23) 7 bl_c23) 9 bs_c23))
def s_X2_workTick_83  (v_83 : (Nat → Int32)) : Int32 × (Nat → Int32) :=
  if (f_X2_need v_83) ≤ (f_X2_allPressure v_83) then
    match f_X2_takeSteam v_83 (f_X2_need v_83) with
    | v_c11 =>
      match f_X2_workLoads v_c11 with
      | v_c12 =>
        s_X2_workTick_122_0 v_c12
  else
    match f_X2_holdLoads v_83 with
    | v_c19 =>
      s_X2_workTick_122_1 v_c19
def s_X2_workTick_34_2  (v_34 : (Nat → Int32)) : Int32 × (Nat → Int32) :=
  s_X2_workTick_83 v_34
def s_X2_workTick_34_1  (v_34 : (Nat → Int32)) : Int32 × (Nat → Int32) :=
  match f_X0_burn (v_34 1) (v_34 3) (v_34 5) (v_34 7) (v_34 10) with
  | (r_5, bf_c5, bw_c5, bp_c5, bl_c5) =>
    s_X2_workTick_34_2 (upd (upd (upd (upd (upd (upd v_34 1 bf_c5) 3 bw_c5) 5 bp_c5) 7 bl_c5) 10 ((v_34 10) - r_5)) 38 ((v_34 38) + r_5))
def s_X2_workTick_34_0  (v_34 : (Nat → Int32)) : Int32 × (Nat → Int32) :=
  match f_X0_burn (v_34 0) (v_34 2) (v_34 4) (v_34 6) (v_34 10) with
  | (r_3, bf_c3, bw_c3, bp_c3, bl_c3) =>
    s_X2_workTick_34_1 (upd (upd (upd (upd (upd (upd v_34 0 bf_c3) 2 bw_c3) 4 bp_c3) 6 bl_c3) 10 ((v_34 10) - r_3)) 38 ((v_34 38) + r_3))
def f_X2_workTick (v : (Nat → Int32)) : Int32 × (Nat → Int32) :=
  if (((v 12) + (nI 1)) - ((v 12) + (nI 1)) / (nI 60) * (nI 60)) = 0 then
    match f_X2_receiveRation (upd v 12 ((v 12) + (nI 1))) with
    | v_c25 =>
      s_X2_workTick_34_0 v_c25
  else
    s_X2_workTick_34_0 (upd v 12 ((v 12) + (nI 1)))
set_option maxRecDepth 20000 in
theorem k_X2_workTick_f12 : Cond.fieldLink RX2 12 "SteamRations$Laundry" "boilers" "[LSteamRations$Boiler;" ∈ wsX2_workTick := by decide +kernel
set_option maxRecDepth 20000 in
theorem k_X2_workTick_f32 : Cond.fieldLink RX2 32 "SteamRations$Laundry" "coal" "I" ∈ wsX2_workTick := by decide +kernel
set_option maxRecDepth 20000 in
theorem k_X2_workTick_f49 : Cond.fieldLink RX2 49 "SteamRations$Laundry" "ticks" "I" ∈ wsX2_workTick := by decide +kernel
set_option maxRecDepth 20000 in
theorem k_X2_workTick_f58 : Cond.fieldLink RX2 58 "SteamRations$Laundry" "burnt" "I" ∈ wsX2_workTick := by decide +kernel
set_option maxRecDepth 20000 in
theorem in_X2_workTick_RX2 : ∀ w ∈ u_ws RX2 TX2 14, w ∈ wsX2_workTick := by decide +kernel
theorem cd_X2_workTick : yX2_workTick.cls = RX2 ∧ yX2_workTick.cls ≠ "java/lang/invoke/MethodHandle" ∧ yX2_workTick.cls ≠ "java/lang/invoke/VarHandle" ∧ (parseMethodDescriptor yX2_workTick.desc).map (fun d => d.parameters.length) = some 0 := by decide +kernel
set_option maxHeartbeats 4000000 in
set_option maxRecDepth 100000 in
theorem c_X2_workTick (l : Launch) (G : GG) (a : Nat → Nat) (v : (Nat → Int32)) (q : (Nat → Int32)) (sz : Nat)   : Met l yX2_workTick wsX2_workTick ({ frames := 2, cells := 0, slots := 0, locals := 61 }) (Pre G [.ref (a 0)] (LC G a v q) sz) (PI G (va_A (LC G a v q) sz) (fun r (u : (Nat → Int32)) => f_X2_workTick v = (r, u) ∧ (r = nI 0 ∨ r = nI 1)) (fun u : (Nat → Int32) => LC G a u q)) 0 0 (va_A (LC G a v q) sz) := by
  refine Met.walk (cc := cX2_workTick) (maxL := 7) (ret := (some .boolean)) (Qc := fun A => PI G A (fun r (u : (Nat → Int32)) => f_X2_workTick v = (r, u) ∧ (r = nI 0 ∨ r = nI 1)) (fun u : (Nat → Int32) => LC G a u q)) (by decide) rfl (Nat.le_of_ble_eq_true rfl) ?_
  intro p e s m below meth c A H C0 _ hK hsz hP hD hA hS ls hl
  have hx := C0.1
  have hb := C0.2.1
  have hown : s.vm.findClass RX2 = some m.cls := C0.2.2.2.2.1
  have hml := C0.2.2.2.1
  have hts : ∀ w ∈ wsX2_workTick, w.before [.ref (a 0)].toArray s = true := C0.2.2.2.2.2.1
  have hl : lv_has ls 7 [(0, .ref (a 0))] := hl
  have h_X2_workTick_122_0 : ∀ (v_122 : (Nat → Int32)), f_X2_workTick v = s_X2_workTick_122_0 v_122 → ∀ (H : Heap) (locs : List Loc) (ls : Array Slot), va_P G.1 vwCl (LC G a v_122 q) H → va_D A (LC G a v_122 q) → va_S A s.heap H locs → lv_has ls 7 [(2, .int (nI 0)), (0, .ref (a 0))] → W p l e ({ frames := 2, cells := 0, slots := 0, locals := 61 }) s m ([.ref (a 0)] : List Value).toArray below meth c H locs 0 0 (MQ below (PI G A (fun r (u : (Nat → Int32)) => f_X2_workTick v = (r, u) ∧ (r = nI 0 ∨ r = nI 1)) (fun u : (Nat → Int32) => LC G a u q)) ([.ref (a 0)] : List Value).toArray s 0 0 A) (F0 m 122 ls []) := by
    intro v_122  hE H locs ls hP hD hS hl
    refine lv_aload_n hx hb dX2_workTick_122 rfl (lv_at hl 1 rfl) ?_
    refine va_get (D := G.1) (ci := 2) (v := .ref (a 1)) (C := RX2) (T := TX2) (N := 14) hx hb hts in_X2_workTick_RX2 hown hK.1 hP 0 rfl rfl 0 (by decide) (hts _ k_X2_workTick_f12) (fun _ h9 => h9) rfl dX2_workTick_123 ?_
    refine lv_astore_n (lv' := [(3, .ref (a 1)), (2, .int (nI 0)), (0, .ref (a 0))]) hx hb dX2_workTick_126 rfl hl (by decide) rfl (fun ls hl => ?_)
    refine lv_aload_n hx hb dX2_workTick_127 rfl (lv_at hl 0 rfl) ?_
    refine n_alen (n := 2) hx hb hK hP 1 2 rfl rfl dX2_workTick_128 ?_
    refine lv_istore (lv' := [(4, .int (nI 2)), (3, .ref (a 1)), (2, .int (nI 0)), (0, .ref (a 0))]) hx hb dX2_workTick_129 hl (by decide) rfl (fun ls hl => ?_)
    refine lv_iconst (v := (nI 0)) hx hb dX2_workTick_131 (by decide) ?_
    refine lv_istore (lv' := [(5, .int (nI 0)), (4, .int (nI 2)), (3, .ref (a 1)), (2, .int (nI 0)), (0, .ref (a 0))]) hx hb dX2_workTick_132 hl (by decide) rfl (fun ls hl => ?_)
    refine lv_iload hx hb dX2_workTick_134 (lv_at hl 0 rfl) ?_
    refine lv_iload hx hb dX2_workTick_136 (lv_at hl 1 rfl) ?_
    refine lv_icmp_ge (tgt := 158) hx hb dX2_workTick_138 (by decide) (fun c_13 => absurd c_13 (by decide +kernel)) (fun c_13 => ?_)
    refine lv_aload_n hx hb dX2_workTick_141 rfl (lv_at hl 2 rfl) ?_
    refine lv_iload hx hb dX2_workTick_142 (lv_at hl 0 rfl) ?_
    refine n_aald (j := 0) (v := .ref (a 2)) (Cn := "SteamRations$Boiler") hx hb hK hP 1 2 rfl rfl (by decide) (by decide) rfl dX2_workTick_144 ?_
    refine lv_astore (lv' := [(6, .ref (a 2)), (5, .int (nI 0)), (4, .int (nI 2)), (3, .ref (a 1)), (2, .int (nI 0)), (0, .ref (a 0))]) hx hb dX2_workTick_145 hl (by decide) rfl (fun ls hl => ?_)
    refine lv_aload hx hb dX2_workTick_147 (lv_at hl 0 rfl) ?_
    refine gcall_V (run_V (As := []) (rest := []) C0 hK hP hD (c_X0_coolDown l G (a 2) (v_122 0) (v_122 2) (v_122 4) (v_122 6) (v_122 8) H.size ) (cwV 0 hts gX2_workTick_X0_coolDown rfl rfl rfl cd_X0_coolDown ⟨Nat.le_of_ble_eq_true rfl, Nat.le_of_ble_eq_true rfl⟩) [2] rfl rfl 2 (ci := 0) rfl rfl rfl rfl hl.1 rfl (Nat.le_of_ble_eq_true rfl) dX2_workTick_149 ⟨Nat.le_of_ble_eq_true rfl, Nat.le_of_ble_eq_true rfl⟩) hP hD hS hA [2] rfl rfl (fun _ => rfl) (fun u_14 H locs hw_14 hP hD hS => ?_)
    obtain ⟨bf_c14, bp_c14, bl_c14, bs_c14⟩ := u_14
    have hP : va_P G.1 vwCl (LC G a (upd (upd (upd (upd v_122 0 bf_c14) 4 bp_c14) 6 bl_c14) 8 bs_c14) q) H := hP
    have hD : va_D A (LC G a (upd (upd (upd (upd v_122 0 bf_c14) 4 bp_c14) 6 bl_c14) 8 bs_c14) q) := hD
    refine lv_iinc (v := (nI 1)) (lv' := [(5, .int (nI 1)), (6, .ref (a 2)), (4, .int (nI 2)), (3, .ref (a 1)), (2, .int (nI 0)), (0, .ref (a 0))]) hx hb dX2_workTick_152 hl (k := 1) rfl (inc1 0) (by decide) rfl (fun ls hl => ?_)
    refine lv_goto (tgt := 134) hx hb dX2_workTick_155 (by decide) ?_
    refine lv_iload hx hb dX2_workTick_134 (lv_at hl 0 rfl) ?_
    refine lv_iload hx hb dX2_workTick_136 (lv_at hl 2 rfl) ?_
    refine lv_icmp_ge (tgt := 158) hx hb dX2_workTick_138 (by decide) (fun c_15 => absurd c_15 (by decide +kernel)) (fun c_15 => ?_)
    refine lv_aload_n hx hb dX2_workTick_141 rfl (lv_at hl 3 rfl) ?_
    refine lv_iload hx hb dX2_workTick_142 (lv_at hl 0 rfl) ?_
    refine n_aald (j := 1) (v := .ref (a 3)) (Cn := "SteamRations$Boiler") hx hb hK hP 1 2 rfl rfl (by decide) (by decide) rfl dX2_workTick_144 ?_
    refine lv_astore (lv' := [(6, .ref (a 3)), (5, .int (nI 1)), (4, .int (nI 2)), (3, .ref (a 1)), (2, .int (nI 0)), (0, .ref (a 0))]) hx hb dX2_workTick_145 hl (by decide) rfl (fun ls hl => ?_)
    refine lv_aload hx hb dX2_workTick_147 (lv_at hl 0 rfl) ?_
    refine gcall_V (run_V (As := []) (rest := []) C0 hK hP hD (c_X0_coolDown l G (a 3) (v_122 1) (v_122 3) (v_122 5) (v_122 7) (v_122 9) H.size ) (cwV 0 hts gX2_workTick_X0_coolDown rfl rfl rfl cd_X0_coolDown ⟨Nat.le_of_ble_eq_true rfl, Nat.le_of_ble_eq_true rfl⟩) [3] rfl rfl 3 (ci := 0) rfl rfl rfl rfl hl.1 rfl (Nat.le_of_ble_eq_true rfl) dX2_workTick_149 ⟨Nat.le_of_ble_eq_true rfl, Nat.le_of_ble_eq_true rfl⟩) hP hD hS hA [3] rfl rfl (fun _ => rfl) (fun u_16 H locs hw_16 hP hD hS => ?_)
    obtain ⟨bf_c16, bp_c16, bl_c16, bs_c16⟩ := u_16
    have hP : va_P G.1 vwCl (LC G a (upd (upd (upd (upd (upd (upd (upd (upd v_122 0 bf_c14) 4 bp_c14) 6 bl_c14) 8 bs_c14) 1 bf_c16) 5 bp_c16) 7 bl_c16) 9 bs_c16) q) H := hP
    have hD : va_D A (LC G a (upd (upd (upd (upd (upd (upd (upd (upd v_122 0 bf_c14) 4 bp_c14) 6 bl_c14) 8 bs_c14) 1 bf_c16) 5 bp_c16) 7 bl_c16) 9 bs_c16) q) := hD
    refine lv_iinc (v := (nI 2)) (lv' := [(5, .int (nI 2)), (6, .ref (a 3)), (4, .int (nI 2)), (3, .ref (a 1)), (2, .int (nI 0)), (0, .ref (a 0))]) hx hb dX2_workTick_152 hl (k := 1) rfl (inc1 1) (by decide) rfl (fun ls hl => ?_)
    refine lv_goto (tgt := 134) hx hb dX2_workTick_155 (by decide) ?_
    refine lv_iload hx hb dX2_workTick_134 (lv_at hl 0 rfl) ?_
    refine lv_iload hx hb dX2_workTick_136 (lv_at hl 2 rfl) ?_
    refine lv_icmp_ge (tgt := 158) hx hb dX2_workTick_138 (by decide) (fun c_17 => ?_) (fun c_17 => absurd (by decide +kernel) c_17)
    refine lv_iload_n hx hb dX2_workTick_158 rfl (lv_at hl 4 rfl) ?_
    exact end_Z C0 (by decide) hP hD hS (upd (upd (upd (upd (upd (upd (upd (upd v_122 0 bf_c14) 4 bp_c14) 6 bl_c14) 8 bs_c14) 1 bf_c16) 5 bp_c16) 7 bl_c16) 9 bs_c16) ⟨(hE.trans (by simp only [s_X2_workTick_122_0, hw_14, hw_16])), by decide⟩ rfl dX2_workTick_159
  have h_X2_workTick_122_1 : ∀ (v_122 : (Nat → Int32)), f_X2_workTick v = s_X2_workTick_122_1 v_122 → ∀ (H : Heap) (locs : List Loc) (ls : Array Slot), va_P G.1 vwCl (LC G a v_122 q) H → va_D A (LC G a v_122 q) → va_S A s.heap H locs → lv_has ls 7 [(2, .int (nI 1)), (0, .ref (a 0))] → W p l e ({ frames := 2, cells := 0, slots := 0, locals := 61 }) s m ([.ref (a 0)] : List Value).toArray below meth c H locs 0 0 (MQ below (PI G A (fun r (u : (Nat → Int32)) => f_X2_workTick v = (r, u) ∧ (r = nI 0 ∨ r = nI 1)) (fun u : (Nat → Int32) => LC G a u q)) ([.ref (a 0)] : List Value).toArray s 0 0 A) (F0 m 122 ls []) := by
    intro v_122  hE H locs ls hP hD hS hl
    refine lv_aload_n hx hb dX2_workTick_122 rfl (lv_at hl 1 rfl) ?_
    refine va_get (D := G.1) (ci := 2) (v := .ref (a 1)) (C := RX2) (T := TX2) (N := 14) hx hb hts in_X2_workTick_RX2 hown hK.1 hP 0 rfl rfl 0 (by decide) (hts _ k_X2_workTick_f12) (fun _ h9 => h9) rfl dX2_workTick_123 ?_
    refine lv_astore_n (lv' := [(3, .ref (a 1)), (2, .int (nI 1)), (0, .ref (a 0))]) hx hb dX2_workTick_126 rfl hl (by decide) rfl (fun ls hl => ?_)
    refine lv_aload_n hx hb dX2_workTick_127 rfl (lv_at hl 0 rfl) ?_
    refine n_alen (n := 2) hx hb hK hP 1 2 rfl rfl dX2_workTick_128 ?_
    refine lv_istore (lv' := [(4, .int (nI 2)), (3, .ref (a 1)), (2, .int (nI 1)), (0, .ref (a 0))]) hx hb dX2_workTick_129 hl (by decide) rfl (fun ls hl => ?_)
    refine lv_iconst (v := (nI 0)) hx hb dX2_workTick_131 (by decide) ?_
    refine lv_istore (lv' := [(5, .int (nI 0)), (4, .int (nI 2)), (3, .ref (a 1)), (2, .int (nI 1)), (0, .ref (a 0))]) hx hb dX2_workTick_132 hl (by decide) rfl (fun ls hl => ?_)
    refine lv_iload hx hb dX2_workTick_134 (lv_at hl 0 rfl) ?_
    refine lv_iload hx hb dX2_workTick_136 (lv_at hl 1 rfl) ?_
    refine lv_icmp_ge (tgt := 158) hx hb dX2_workTick_138 (by decide) (fun c_20 => absurd c_20 (by decide +kernel)) (fun c_20 => ?_)
    refine lv_aload_n hx hb dX2_workTick_141 rfl (lv_at hl 2 rfl) ?_
    refine lv_iload hx hb dX2_workTick_142 (lv_at hl 0 rfl) ?_
    refine n_aald (j := 0) (v := .ref (a 2)) (Cn := "SteamRations$Boiler") hx hb hK hP 1 2 rfl rfl (by decide) (by decide) rfl dX2_workTick_144 ?_
    refine lv_astore (lv' := [(6, .ref (a 2)), (5, .int (nI 0)), (4, .int (nI 2)), (3, .ref (a 1)), (2, .int (nI 1)), (0, .ref (a 0))]) hx hb dX2_workTick_145 hl (by decide) rfl (fun ls hl => ?_)
    refine lv_aload hx hb dX2_workTick_147 (lv_at hl 0 rfl) ?_
    refine gcall_V (run_V (As := []) (rest := []) C0 hK hP hD (c_X0_coolDown l G (a 2) (v_122 0) (v_122 2) (v_122 4) (v_122 6) (v_122 8) H.size ) (cwV 0 hts gX2_workTick_X0_coolDown rfl rfl rfl cd_X0_coolDown ⟨Nat.le_of_ble_eq_true rfl, Nat.le_of_ble_eq_true rfl⟩) [2] rfl rfl 2 (ci := 0) rfl rfl rfl rfl hl.1 rfl (Nat.le_of_ble_eq_true rfl) dX2_workTick_149 ⟨Nat.le_of_ble_eq_true rfl, Nat.le_of_ble_eq_true rfl⟩) hP hD hS hA [2] rfl rfl (fun _ => rfl) (fun u_21 H locs hw_21 hP hD hS => ?_)
    obtain ⟨bf_c21, bp_c21, bl_c21, bs_c21⟩ := u_21
    have hP : va_P G.1 vwCl (LC G a (upd (upd (upd (upd v_122 0 bf_c21) 4 bp_c21) 6 bl_c21) 8 bs_c21) q) H := hP
    have hD : va_D A (LC G a (upd (upd (upd (upd v_122 0 bf_c21) 4 bp_c21) 6 bl_c21) 8 bs_c21) q) := hD
    refine lv_iinc (v := (nI 1)) (lv' := [(5, .int (nI 1)), (6, .ref (a 2)), (4, .int (nI 2)), (3, .ref (a 1)), (2, .int (nI 1)), (0, .ref (a 0))]) hx hb dX2_workTick_152 hl (k := 1) rfl (inc1 0) (by decide) rfl (fun ls hl => ?_)
    refine lv_goto (tgt := 134) hx hb dX2_workTick_155 (by decide) ?_
    refine lv_iload hx hb dX2_workTick_134 (lv_at hl 0 rfl) ?_
    refine lv_iload hx hb dX2_workTick_136 (lv_at hl 2 rfl) ?_
    refine lv_icmp_ge (tgt := 158) hx hb dX2_workTick_138 (by decide) (fun c_22 => absurd c_22 (by decide +kernel)) (fun c_22 => ?_)
    refine lv_aload_n hx hb dX2_workTick_141 rfl (lv_at hl 3 rfl) ?_
    refine lv_iload hx hb dX2_workTick_142 (lv_at hl 0 rfl) ?_
    refine n_aald (j := 1) (v := .ref (a 3)) (Cn := "SteamRations$Boiler") hx hb hK hP 1 2 rfl rfl (by decide) (by decide) rfl dX2_workTick_144 ?_
    refine lv_astore (lv' := [(6, .ref (a 3)), (5, .int (nI 1)), (4, .int (nI 2)), (3, .ref (a 1)), (2, .int (nI 1)), (0, .ref (a 0))]) hx hb dX2_workTick_145 hl (by decide) rfl (fun ls hl => ?_)
    refine lv_aload hx hb dX2_workTick_147 (lv_at hl 0 rfl) ?_
    refine gcall_V (run_V (As := []) (rest := []) C0 hK hP hD (c_X0_coolDown l G (a 3) (v_122 1) (v_122 3) (v_122 5) (v_122 7) (v_122 9) H.size ) (cwV 0 hts gX2_workTick_X0_coolDown rfl rfl rfl cd_X0_coolDown ⟨Nat.le_of_ble_eq_true rfl, Nat.le_of_ble_eq_true rfl⟩) [3] rfl rfl 3 (ci := 0) rfl rfl rfl rfl hl.1 rfl (Nat.le_of_ble_eq_true rfl) dX2_workTick_149 ⟨Nat.le_of_ble_eq_true rfl, Nat.le_of_ble_eq_true rfl⟩) hP hD hS hA [3] rfl rfl (fun _ => rfl) (fun u_23 H locs hw_23 hP hD hS => ?_)
    obtain ⟨bf_c23, bp_c23, bl_c23, bs_c23⟩ := u_23
    have hP : va_P G.1 vwCl (LC G a (upd (upd (upd (upd (upd (upd (upd (upd v_122 0 bf_c21) 4 bp_c21) 6 bl_c21) 8 bs_c21) 1 bf_c23) 5 bp_c23) 7 bl_c23) 9 bs_c23) q) H := hP
    have hD : va_D A (LC G a (upd (upd (upd (upd (upd (upd (upd (upd v_122 0 bf_c21) 4 bp_c21) 6 bl_c21) 8 bs_c21) 1 bf_c23) 5 bp_c23) 7 bl_c23) 9 bs_c23) q) := hD
    refine lv_iinc (v := (nI 2)) (lv' := [(5, .int (nI 2)), (6, .ref (a 3)), (4, .int (nI 2)), (3, .ref (a 1)), (2, .int (nI 1)), (0, .ref (a 0))]) hx hb dX2_workTick_152 hl (k := 1) rfl (inc1 1) (by decide) rfl (fun ls hl => ?_)
    refine lv_goto (tgt := 134) hx hb dX2_workTick_155 (by decide) ?_
    refine lv_iload hx hb dX2_workTick_134 (lv_at hl 0 rfl) ?_
    refine lv_iload hx hb dX2_workTick_136 (lv_at hl 2 rfl) ?_
    refine lv_icmp_ge (tgt := 158) hx hb dX2_workTick_138 (by decide) (fun c_24 => ?_) (fun c_24 => absurd (by decide +kernel) c_24)
    refine lv_iload_n hx hb dX2_workTick_158 rfl (lv_at hl 4 rfl) ?_
    exact end_Z C0 (by decide) hP hD hS (upd (upd (upd (upd (upd (upd (upd (upd v_122 0 bf_c21) 4 bp_c21) 6 bl_c21) 8 bs_c21) 1 bf_c23) 5 bp_c23) 7 bl_c23) 9 bs_c23) ⟨(hE.trans (by simp only [s_X2_workTick_122_1, hw_21, hw_23])), by decide⟩ rfl dX2_workTick_159
  have h_X2_workTick_83 : ∀ (v_83 : (Nat → Int32)), f_X2_workTick v = s_X2_workTick_83 v_83 → ∀ (H : Heap) (locs : List Loc) (ls : Array Slot), va_P G.1 vwCl (LC G a v_83 q) H → va_D A (LC G a v_83 q) → va_S A s.heap H locs → lv_has ls 7 [(0, .ref (a 0))] → W p l e ({ frames := 2, cells := 0, slots := 0, locals := 61 }) s m ([.ref (a 0)] : List Value).toArray below meth c H locs 0 0 (MQ below (PI G A (fun r (u : (Nat → Int32)) => f_X2_workTick v = (r, u) ∧ (r = nI 0 ∨ r = nI 1)) (fun u : (Nat → Int32) => LC G a u q)) ([.ref (a 0)] : List Value).toArray s 0 0 A) (F0 m 83 ls []) := by
    intro v_83  hE H locs ls hP hD hS hl
    refine lv_aload_n hx hb dX2_workTick_83 rfl (lv_at hl 0 rfl) ?_
    refine gcall_I (run_V (As := []) (rest := []) C0 hK hP hD (c_X2_need l G a v_83 q H.size ) (cwV 0 hts gX2_workTick_X2_need rfl rfl rfl cd_X2_need ⟨Nat.le_of_ble_eq_true rfl, Nat.le_of_ble_eq_true rfl⟩) [0, 1, 2, 3, 4, 5, 6, 7, 8, 9, 10] rfl rfl 0 (ci := 2) rfl rfl rfl rfl hl.1 rfl (Nat.le_of_ble_eq_true rfl) dX2_workTick_84 ⟨Nat.le_of_ble_eq_true rfl, Nat.le_of_ble_eq_true rfl⟩) hP hD hS hA [0, 1, 2, 3, 4, 5, 6, 7, 8, 9, 10] rfl rfl (fun _ => rfl) (fun r_7 _ H locs hw_7 hP hD hS => ?_)
    subst hw_7
    have hP : va_P G.1 vwCl (LC G a v_83 q) H := hP
    have hD : va_D A (LC G a v_83 q) := hD
    refine lv_istore_n (lv' := [(1, .int (f_X2_need v_83)), (0, .ref (a 0))]) hx hb dX2_workTick_87 rfl hl (by decide) rfl (fun ls hl => ?_)
    refine lv_aload_n hx hb dX2_workTick_88 rfl (lv_at hl 1 rfl) ?_
    refine gcall_I (run_V (As := []) (rest := []) C0 hK hP hD (c_X2_allPressure l G a v_83 q H.size ) (cwV 0 hts gX2_workTick_X2_allPressure rfl rfl rfl cd_X2_allPressure ⟨Nat.le_of_ble_eq_true rfl, Nat.le_of_ble_eq_true rfl⟩) [0, 1, 2, 3, 4, 5, 6, 7, 8, 9, 10] rfl rfl 0 (ci := 2) rfl rfl rfl rfl hl.1 rfl (Nat.le_of_ble_eq_true rfl) dX2_workTick_89 ⟨Nat.le_of_ble_eq_true rfl, Nat.le_of_ble_eq_true rfl⟩) hP hD hS hA [0, 1, 2, 3, 4, 5, 6, 7, 8, 9, 10] rfl rfl (fun _ => rfl) (fun r_8 _ H locs hw_8 hP hD hS => ?_)
    subst hw_8
    have hP : va_P G.1 vwCl (LC G a v_83 q) H := hP
    have hD : va_D A (LC G a v_83 q) := hD
    refine lv_iload_n hx hb dX2_workTick_92 rfl (lv_at hl 0 rfl) ?_
    refine lv_icmp_ge (tgt := 100) hx hb dX2_workTick_93 (by decide) (fun c_9 => ?_) (fun c_9 => ?_)
    · refine lv_iconst (v := (nI 0)) hx hb dX2_workTick_100 (by decide) ?_
      refine lv_istore_n (lv' := [(2, .int (nI 0)), (1, .int (f_X2_need v_83)), (0, .ref (a 0))]) hx hb dX2_workTick_101 rfl hl (by decide) rfl (fun ls hl => ?_)
      refine lv_iload_n hx hb dX2_workTick_102 rfl (lv_at hl 0 rfl) ?_
      refine lv_if_eq (tgt := 113) hx hb dX2_workTick_103 (by decide) (fun c_10 => ?_) (fun c_10 => absurd (by decide +kernel) c_10)
      refine lv_aload_n hx hb dX2_workTick_113 rfl (lv_at hl 2 rfl) ?_
      refine lv_iload_n hx hb dX2_workTick_114 rfl (lv_at hl 1 rfl) ?_
      refine gcall_V (run_V (As := [.int (f_X2_need v_83)]) (rest := []) C0 hK hP hD (c_X2_takeSteam l G a v_83 q H.size (f_X2_need v_83)) (cwV 1 hts gX2_workTick_X2_takeSteam rfl rfl rfl cd_X2_takeSteam ⟨Nat.le_of_ble_eq_true rfl, Nat.le_of_ble_eq_true rfl⟩) [0, 1, 2, 3, 4, 5, 6, 7, 8, 9, 10] rfl rfl 0 (ci := 2) rfl rfl rfl rfl hl.1 rfl (Nat.le_of_ble_eq_true rfl) dX2_workTick_115 ⟨Nat.le_of_ble_eq_true rfl, Nat.le_of_ble_eq_true rfl⟩) hP hD hS hA [0, 1, 2, 3, 4, 5, 6, 7, 8, 9, 10] rfl rfl (fun _ => rfl) (fun u_11 H locs hw_11 hP hD hS => ?_)
      obtain ⟨v_c11, rfl⟩ : ∃ z, z = u_11 := ⟨_, rfl⟩
      have hP : va_P G.1 vwCl (LC G a v_c11 q) H := hP
      have hD : va_D A (LC G a v_c11 q) := hD
      refine lv_aload_n hx hb dX2_workTick_118 rfl (lv_at hl 2 rfl) ?_
      refine gcall_V (run_V (As := []) (rest := []) C0 hK hP hD (c_X2_workLoads l G a v_c11 q H.size ) (cwV 0 hts gX2_workTick_X2_workLoads rfl rfl rfl cd_X2_workLoads ⟨Nat.le_of_ble_eq_true rfl, Nat.le_of_ble_eq_true rfl⟩) [0, 1, 2, 3, 4, 5, 6, 7, 8, 9, 10] rfl rfl 0 (ci := 2) rfl rfl rfl rfl hl.1 rfl (Nat.le_of_ble_eq_true rfl) dX2_workTick_119 ⟨Nat.le_of_ble_eq_true rfl, Nat.le_of_ble_eq_true rfl⟩) hP hD hS hA [0, 1, 2, 3, 4, 5, 6, 7, 8, 9, 10] rfl rfl (fun _ => rfl) (fun u_12 H locs hw_12 hP hD hS => ?_)
      obtain ⟨v_c12, rfl⟩ : ∃ z, z = u_12 := ⟨_, rfl⟩
      have hP : va_P G.1 vwCl (LC G a v_c12 q) H := hP
      have hD : va_D A (LC G a v_c12 q) := hD
      exact h_X2_workTick_122_0 v_c12  (hE.trans (by simp only [s_X2_workTick_83, if_pos c_9, hw_11, hw_12])) _ _ _ hP hD hS (lv_sub hl [0, 2] rfl)
    · refine lv_iconst (v := (nI 1)) hx hb dX2_workTick_96 (by decide) ?_
      refine lv_goto (tgt := 101) hx hb dX2_workTick_97 (by decide) ?_
      refine lv_istore_n (lv' := [(2, .int (nI 1)), (1, .int (f_X2_need v_83)), (0, .ref (a 0))]) hx hb dX2_workTick_101 rfl hl (by decide) rfl (fun ls hl => ?_)
      refine lv_iload_n hx hb dX2_workTick_102 rfl (lv_at hl 0 rfl) ?_
      refine lv_if_eq (tgt := 113) hx hb dX2_workTick_103 (by decide) (fun c_18 => absurd c_18 (by decide +kernel)) (fun c_18 => ?_)
      refine lv_aload_n hx hb dX2_workTick_106 rfl (lv_at hl 2 rfl) ?_
      refine gcall_V (run_V (As := []) (rest := []) C0 hK hP hD (c_X2_holdLoads l G a v_83 q H.size ) (cwV 0 hts gX2_workTick_X2_holdLoads rfl rfl rfl cd_X2_holdLoads ⟨Nat.le_of_ble_eq_true rfl, Nat.le_of_ble_eq_true rfl⟩) [0, 1, 2, 3, 4, 5, 6, 7, 8, 9, 10] rfl rfl 0 (ci := 2) rfl rfl rfl rfl hl.1 rfl (Nat.le_of_ble_eq_true rfl) dX2_workTick_107 ⟨Nat.le_of_ble_eq_true rfl, Nat.le_of_ble_eq_true rfl⟩) hP hD hS hA [0, 1, 2, 3, 4, 5, 6, 7, 8, 9, 10] rfl rfl (fun _ => rfl) (fun u_19 H locs hw_19 hP hD hS => ?_)
      obtain ⟨v_c19, rfl⟩ : ∃ z, z = u_19 := ⟨_, rfl⟩
      have hP : va_P G.1 vwCl (LC G a v_c19 q) H := hP
      have hD : va_D A (LC G a v_c19 q) := hD
      refine lv_goto (tgt := 122) hx hb dX2_workTick_110 (by decide) ?_
      exact h_X2_workTick_122_1 v_c19  (hE.trans (by simp only [s_X2_workTick_83, if_neg c_9, hw_19])) _ _ _ hP hD hS (lv_sub hl [0, 2] rfl)
  have h_X2_workTick_34_2 : ∀ (v_34 : (Nat → Int32)), f_X2_workTick v = s_X2_workTick_34_2 v_34 → ∀ (H : Heap) (locs : List Loc) (ls : Array Slot), va_P G.1 vwCl (LC G a v_34 q) H → va_D A (LC G a v_34 q) → va_S A s.heap H locs → lv_has ls 7 [(3, .int (nI 2)), (2, .int (nI 2)), (1, .ref (a 1)), (0, .ref (a 0))] → W p l e ({ frames := 2, cells := 0, slots := 0, locals := 61 }) s m ([.ref (a 0)] : List Value).toArray below meth c H locs 0 0 (MQ below (PI G A (fun r (u : (Nat → Int32)) => f_X2_workTick v = (r, u) ∧ (r = nI 0 ∨ r = nI 1)) (fun u : (Nat → Int32) => LC G a u q)) ([.ref (a 0)] : List Value).toArray s 0 0 A) (F0 m 34 ls []) := by
    intro v_34  hE H locs ls hP hD hS hl
    refine lv_iload_n hx hb dX2_workTick_34 rfl (lv_at hl 0 rfl) ?_
    refine lv_iload_n hx hb dX2_workTick_35 rfl (lv_at hl 1 rfl) ?_
    refine lv_icmp_ge (tgt := 83) hx hb dX2_workTick_36 (by decide) (fun c_6 => ?_) (fun c_6 => absurd (by decide +kernel) c_6)
    exact h_X2_workTick_83 v_34  (hE.trans (by simp only [s_X2_workTick_34_2])) _ _ _ hP hD hS (lv_sub hl [3] rfl)
  have h_X2_workTick_34_1 : ∀ (v_34 : (Nat → Int32)), f_X2_workTick v = s_X2_workTick_34_1 v_34 → ∀ (H : Heap) (locs : List Loc) (ls : Array Slot), va_P G.1 vwCl (LC G a v_34 q) H → va_D A (LC G a v_34 q) → va_S A s.heap H locs → lv_has ls 7 [(3, .int (nI 1)), (2, .int (nI 2)), (1, .ref (a 1)), (0, .ref (a 0))] → W p l e ({ frames := 2, cells := 0, slots := 0, locals := 61 }) s m ([.ref (a 0)] : List Value).toArray below meth c H locs 0 0 (MQ below (PI G A (fun r (u : (Nat → Int32)) => f_X2_workTick v = (r, u) ∧ (r = nI 0 ∨ r = nI 1)) (fun u : (Nat → Int32) => LC G a u q)) ([.ref (a 0)] : List Value).toArray s 0 0 A) (F0 m 34 ls []) := by
    intro v_34  hE H locs ls hP hD hS hl
    refine lv_iload_n hx hb dX2_workTick_34 rfl (lv_at hl 0 rfl) ?_
    refine lv_iload_n hx hb dX2_workTick_35 rfl (lv_at hl 1 rfl) ?_
    refine lv_icmp_ge (tgt := 83) hx hb dX2_workTick_36 (by decide) (fun c_4 => absurd c_4 (by decide +kernel)) (fun c_4 => ?_)
    refine lv_aload_n hx hb dX2_workTick_39 rfl (lv_at hl 2 rfl) ?_
    refine lv_iload_n hx hb dX2_workTick_40 rfl (lv_at hl 0 rfl) ?_
    refine n_aald (j := 1) (v := .ref (a 3)) (Cn := "SteamRations$Boiler") hx hb hK hP 1 2 rfl rfl (by decide) (by decide) rfl dX2_workTick_41 ?_
    refine lv_astore (lv' := [(4, .ref (a 3)), (3, .int (nI 1)), (2, .int (nI 2)), (1, .ref (a 1)), (0, .ref (a 0))]) hx hb dX2_workTick_42 hl (by decide) rfl (fun ls hl => ?_)
    refine lv_aload hx hb dX2_workTick_44 (lv_at hl 0 rfl) ?_
    refine lv_aload_n hx hb dX2_workTick_46 rfl (lv_at hl 4 rfl) ?_
    refine va_get (D := G.1) (ci := 2) (v := .int (v_34 10)) (C := RX2) (T := TX2) (N := 14) hx hb hts in_X2_workTick_RX2 hown hK.1 hP 0 rfl rfl 7 (by decide) (hts _ k_X2_workTick_f32) (fun _ h9 => h9) rfl dX2_workTick_47 ?_
    refine gcall_I (run_V (As := [.int (v_34 10)]) (rest := []) C0 hK hP hD (c_X0_burn l G (a 3) (v_34 1) (v_34 3) (v_34 5) (v_34 7) (v_34 9) H.size (v_34 10)) (cwV 1 hts gX2_workTick_X0_burn rfl rfl rfl cd_X0_burn ⟨Nat.le_of_ble_eq_true rfl, Nat.le_of_ble_eq_true rfl⟩) [3] rfl rfl 3 (ci := 0) rfl rfl rfl rfl hl.1 rfl (Nat.le_of_ble_eq_true rfl) dX2_workTick_50 ⟨Nat.le_of_ble_eq_true rfl, Nat.le_of_ble_eq_true rfl⟩) hP hD hS hA [3] rfl rfl (fun _ => rfl) (fun r_5 u_5 H locs hw_5 hP hD hS => ?_)
    obtain ⟨bf_c5, bw_c5, bp_c5, bl_c5⟩ := u_5
    have hP : va_P G.1 vwCl (LC G a (upd (upd (upd (upd v_34 1 bf_c5) 3 bw_c5) 5 bp_c5) 7 bl_c5) q) H := hP
    have hD : va_D A (LC G a (upd (upd (upd (upd v_34 1 bf_c5) 3 bw_c5) 5 bp_c5) 7 bl_c5) q) := hD
    refine lv_istore (lv' := [(5, .int r_5), (4, .ref (a 3)), (3, .int (nI 1)), (2, .int (nI 2)), (1, .ref (a 1)), (0, .ref (a 0))]) hx hb dX2_workTick_53 hl (by decide) rfl (fun ls hl => ?_)
    refine lv_aload_n hx hb dX2_workTick_55 rfl (lv_at hl 5 rfl) ?_
    refine lv_dup hx hb dX2_workTick_56 rfl ?_
    refine va_get (D := G.1) (ci := 2) (v := .int (v_34 10)) (C := RX2) (T := TX2) (N := 14) hx hb hts in_X2_workTick_RX2 hown hK.1 hP 0 rfl rfl 7 (by decide) (hts _ k_X2_workTick_f32) (fun _ h9 => h9) rfl dX2_workTick_57 ?_
    refine lv_iload hx hb dX2_workTick_60 (lv_at hl 0 rfl) ?_
    refine lv_isub hx hb dX2_workTick_62 ?_
    refine va_put (D := G.1) (ci := 2) (v := .int ((v_34 10) - r_5)) (ty := .int) (C := RX2) (T := TX2) (N := 14) hx hb hts in_X2_workTick_RX2 tyX2 tyX2_ok nmX2 hown hK.1 hP hD hS 0 rfl rfl 7 (by decide) (hts _ k_X2_workTick_f32) (fun _ h9 => h9) rfl (by decide +kernel) rfl rfl (Nat.le_of_ble_eq_true rfl) dX2_workTick_63 (fun H locs hP hD hS => ?_)
    have hP : va_P G.1 vwCl (LC G a (upd (upd (upd (upd (upd v_34 1 bf_c5) 3 bw_c5) 5 bp_c5) 7 bl_c5) 10 ((v_34 10) - r_5)) q) H := hP
    have hD : va_D A (LC G a (upd (upd (upd (upd (upd v_34 1 bf_c5) 3 bw_c5) 5 bp_c5) 7 bl_c5) 10 ((v_34 10) - r_5)) q) := hD
    refine lv_aload_n hx hb dX2_workTick_66 rfl (lv_at hl 5 rfl) ?_
    refine lv_dup hx hb dX2_workTick_67 rfl ?_
    refine va_get (D := G.1) (ci := 2) (v := .int (v_34 38)) (C := RX2) (T := TX2) (N := 14) hx hb hts in_X2_workTick_RX2 hown hK.1 hP 0 rfl rfl 6 (by decide) (hts _ k_X2_workTick_f58) (fun _ h9 => h9) rfl dX2_workTick_68 ?_
    refine lv_iload hx hb dX2_workTick_71 (lv_at hl 0 rfl) ?_
    refine lv_iadd hx hb dX2_workTick_73 ?_
    refine va_put (D := G.1) (ci := 2) (v := .int ((v_34 38) + r_5)) (ty := .int) (C := RX2) (T := TX2) (N := 14) hx hb hts in_X2_workTick_RX2 tyX2 tyX2_ok nmX2 hown hK.1 hP hD hS 0 rfl rfl 6 (by decide) (hts _ k_X2_workTick_f58) (fun _ h9 => h9) rfl (by decide +kernel) rfl rfl (Nat.le_of_ble_eq_true rfl) dX2_workTick_74 (fun H locs hP hD hS => ?_)
    have hP : va_P G.1 vwCl (LC G a (upd (upd (upd (upd (upd (upd v_34 1 bf_c5) 3 bw_c5) 5 bp_c5) 7 bl_c5) 10 ((v_34 10) - r_5)) 38 ((v_34 38) + r_5)) q) H := hP
    have hD : va_D A (LC G a (upd (upd (upd (upd (upd (upd v_34 1 bf_c5) 3 bw_c5) 5 bp_c5) 7 bl_c5) 10 ((v_34 10) - r_5)) 38 ((v_34 38) + r_5)) q) := hD
    refine lv_iinc (v := (nI 2)) (lv' := [(3, .int (nI 2)), (5, .int r_5), (4, .ref (a 3)), (2, .int (nI 2)), (1, .ref (a 1)), (0, .ref (a 0))]) hx hb dX2_workTick_77 hl (k := 2) rfl (inc1 1) (by decide) rfl (fun ls hl => ?_)
    refine lv_goto (tgt := 34) hx hb dX2_workTick_80 (by decide) ?_
    exact h_X2_workTick_34_2 (upd (upd (upd (upd (upd (upd v_34 1 bf_c5) 3 bw_c5) 5 bp_c5) 7 bl_c5) 10 ((v_34 10) - r_5)) 38 ((v_34 38) + r_5))  (hE.trans (by simp only [s_X2_workTick_34_1, hw_5])) _ _ _ hP hD hS (lv_sub hl [0, 3, 4, 5] rfl)
  have h_X2_workTick_34_0 : ∀ (v_34 : (Nat → Int32)), f_X2_workTick v = s_X2_workTick_34_0 v_34 → ∀ (H : Heap) (locs : List Loc) (ls : Array Slot), va_P G.1 vwCl (LC G a v_34 q) H → va_D A (LC G a v_34 q) → va_S A s.heap H locs → lv_has ls 7 [(3, .int (nI 0)), (2, .int (nI 2)), (1, .ref (a 1)), (0, .ref (a 0))] → W p l e ({ frames := 2, cells := 0, slots := 0, locals := 61 }) s m ([.ref (a 0)] : List Value).toArray below meth c H locs 0 0 (MQ below (PI G A (fun r (u : (Nat → Int32)) => f_X2_workTick v = (r, u) ∧ (r = nI 0 ∨ r = nI 1)) (fun u : (Nat → Int32) => LC G a u q)) ([.ref (a 0)] : List Value).toArray s 0 0 A) (F0 m 34 ls []) := by
    intro v_34  hE H locs ls hP hD hS hl
    refine lv_iload_n hx hb dX2_workTick_34 rfl (lv_at hl 0 rfl) ?_
    refine lv_iload_n hx hb dX2_workTick_35 rfl (lv_at hl 1 rfl) ?_
    refine lv_icmp_ge (tgt := 83) hx hb dX2_workTick_36 (by decide) (fun c_2 => absurd c_2 (by decide +kernel)) (fun c_2 => ?_)
    refine lv_aload_n hx hb dX2_workTick_39 rfl (lv_at hl 2 rfl) ?_
    refine lv_iload_n hx hb dX2_workTick_40 rfl (lv_at hl 0 rfl) ?_
    refine n_aald (j := 0) (v := .ref (a 2)) (Cn := "SteamRations$Boiler") hx hb hK hP 1 2 rfl rfl (by decide) (by decide) rfl dX2_workTick_41 ?_
    refine lv_astore (lv' := [(4, .ref (a 2)), (3, .int (nI 0)), (2, .int (nI 2)), (1, .ref (a 1)), (0, .ref (a 0))]) hx hb dX2_workTick_42 hl (by decide) rfl (fun ls hl => ?_)
    refine lv_aload hx hb dX2_workTick_44 (lv_at hl 0 rfl) ?_
    refine lv_aload_n hx hb dX2_workTick_46 rfl (lv_at hl 4 rfl) ?_
    refine va_get (D := G.1) (ci := 2) (v := .int (v_34 10)) (C := RX2) (T := TX2) (N := 14) hx hb hts in_X2_workTick_RX2 hown hK.1 hP 0 rfl rfl 7 (by decide) (hts _ k_X2_workTick_f32) (fun _ h9 => h9) rfl dX2_workTick_47 ?_
    refine gcall_I (run_V (As := [.int (v_34 10)]) (rest := []) C0 hK hP hD (c_X0_burn l G (a 2) (v_34 0) (v_34 2) (v_34 4) (v_34 6) (v_34 8) H.size (v_34 10)) (cwV 1 hts gX2_workTick_X0_burn rfl rfl rfl cd_X0_burn ⟨Nat.le_of_ble_eq_true rfl, Nat.le_of_ble_eq_true rfl⟩) [2] rfl rfl 2 (ci := 0) rfl rfl rfl rfl hl.1 rfl (Nat.le_of_ble_eq_true rfl) dX2_workTick_50 ⟨Nat.le_of_ble_eq_true rfl, Nat.le_of_ble_eq_true rfl⟩) hP hD hS hA [2] rfl rfl (fun _ => rfl) (fun r_3 u_3 H locs hw_3 hP hD hS => ?_)
    obtain ⟨bf_c3, bw_c3, bp_c3, bl_c3⟩ := u_3
    have hP : va_P G.1 vwCl (LC G a (upd (upd (upd (upd v_34 0 bf_c3) 2 bw_c3) 4 bp_c3) 6 bl_c3) q) H := hP
    have hD : va_D A (LC G a (upd (upd (upd (upd v_34 0 bf_c3) 2 bw_c3) 4 bp_c3) 6 bl_c3) q) := hD
    refine lv_istore (lv' := [(5, .int r_3), (4, .ref (a 2)), (3, .int (nI 0)), (2, .int (nI 2)), (1, .ref (a 1)), (0, .ref (a 0))]) hx hb dX2_workTick_53 hl (by decide) rfl (fun ls hl => ?_)
    refine lv_aload_n hx hb dX2_workTick_55 rfl (lv_at hl 5 rfl) ?_
    refine lv_dup hx hb dX2_workTick_56 rfl ?_
    refine va_get (D := G.1) (ci := 2) (v := .int (v_34 10)) (C := RX2) (T := TX2) (N := 14) hx hb hts in_X2_workTick_RX2 hown hK.1 hP 0 rfl rfl 7 (by decide) (hts _ k_X2_workTick_f32) (fun _ h9 => h9) rfl dX2_workTick_57 ?_
    refine lv_iload hx hb dX2_workTick_60 (lv_at hl 0 rfl) ?_
    refine lv_isub hx hb dX2_workTick_62 ?_
    refine va_put (D := G.1) (ci := 2) (v := .int ((v_34 10) - r_3)) (ty := .int) (C := RX2) (T := TX2) (N := 14) hx hb hts in_X2_workTick_RX2 tyX2 tyX2_ok nmX2 hown hK.1 hP hD hS 0 rfl rfl 7 (by decide) (hts _ k_X2_workTick_f32) (fun _ h9 => h9) rfl (by decide +kernel) rfl rfl (Nat.le_of_ble_eq_true rfl) dX2_workTick_63 (fun H locs hP hD hS => ?_)
    have hP : va_P G.1 vwCl (LC G a (upd (upd (upd (upd (upd v_34 0 bf_c3) 2 bw_c3) 4 bp_c3) 6 bl_c3) 10 ((v_34 10) - r_3)) q) H := hP
    have hD : va_D A (LC G a (upd (upd (upd (upd (upd v_34 0 bf_c3) 2 bw_c3) 4 bp_c3) 6 bl_c3) 10 ((v_34 10) - r_3)) q) := hD
    refine lv_aload_n hx hb dX2_workTick_66 rfl (lv_at hl 5 rfl) ?_
    refine lv_dup hx hb dX2_workTick_67 rfl ?_
    refine va_get (D := G.1) (ci := 2) (v := .int (v_34 38)) (C := RX2) (T := TX2) (N := 14) hx hb hts in_X2_workTick_RX2 hown hK.1 hP 0 rfl rfl 6 (by decide) (hts _ k_X2_workTick_f58) (fun _ h9 => h9) rfl dX2_workTick_68 ?_
    refine lv_iload hx hb dX2_workTick_71 (lv_at hl 0 rfl) ?_
    refine lv_iadd hx hb dX2_workTick_73 ?_
    refine va_put (D := G.1) (ci := 2) (v := .int ((v_34 38) + r_3)) (ty := .int) (C := RX2) (T := TX2) (N := 14) hx hb hts in_X2_workTick_RX2 tyX2 tyX2_ok nmX2 hown hK.1 hP hD hS 0 rfl rfl 6 (by decide) (hts _ k_X2_workTick_f58) (fun _ h9 => h9) rfl (by decide +kernel) rfl rfl (Nat.le_of_ble_eq_true rfl) dX2_workTick_74 (fun H locs hP hD hS => ?_)
    have hP : va_P G.1 vwCl (LC G a (upd (upd (upd (upd (upd (upd v_34 0 bf_c3) 2 bw_c3) 4 bp_c3) 6 bl_c3) 10 ((v_34 10) - r_3)) 38 ((v_34 38) + r_3)) q) H := hP
    have hD : va_D A (LC G a (upd (upd (upd (upd (upd (upd v_34 0 bf_c3) 2 bw_c3) 4 bp_c3) 6 bl_c3) 10 ((v_34 10) - r_3)) 38 ((v_34 38) + r_3)) q) := hD
    refine lv_iinc (v := (nI 1)) (lv' := [(3, .int (nI 1)), (5, .int r_3), (4, .ref (a 2)), (2, .int (nI 2)), (1, .ref (a 1)), (0, .ref (a 0))]) hx hb dX2_workTick_77 hl (k := 2) rfl (inc1 0) (by decide) rfl (fun ls hl => ?_)
    refine lv_goto (tgt := 34) hx hb dX2_workTick_80 (by decide) ?_
    exact h_X2_workTick_34_1 (upd (upd (upd (upd (upd (upd v_34 0 bf_c3) 2 bw_c3) 4 bp_c3) 6 bl_c3) 10 ((v_34 10) - r_3)) 38 ((v_34 38) + r_3))  (hE.trans (by simp only [s_X2_workTick_34_0, hw_3])) _ _ _ hP hD hS (lv_sub hl [0, 3, 4, 5] rfl)
  refine lv_aload_n hx hb dX2_workTick_0 rfl (lv_at hl 0 rfl) ?_
  refine lv_dup hx hb dX2_workTick_1 rfl ?_
  refine va_get (D := G.1) (ci := 2) (v := .int (v 12)) (C := RX2) (T := TX2) (N := 14) hx hb hts in_X2_workTick_RX2 hown hK.1 hP 0 rfl rfl 3 (by decide) (hts _ k_X2_workTick_f49) (fun _ h9 => h9) rfl dX2_workTick_2 ?_
  refine lv_iconst (v := (nI 1)) hx hb dX2_workTick_5 (by decide) ?_
  refine lv_iadd hx hb dX2_workTick_6 ?_
  refine va_put (D := G.1) (ci := 2) (v := .int ((v 12) + (nI 1))) (ty := .int) (C := RX2) (T := TX2) (N := 14) hx hb hts in_X2_workTick_RX2 tyX2 tyX2_ok nmX2 hown hK.1 hP hD hS 0 rfl rfl 3 (by decide) (hts _ k_X2_workTick_f49) (fun _ h9 => h9) rfl (by decide +kernel) rfl rfl (Nat.le_of_ble_eq_true rfl) dX2_workTick_7 (fun H locs hP hD hS => ?_)
  have hP : va_P G.1 vwCl (LC G a (upd v 12 ((v 12) + (nI 1))) q) H := hP
  have hD : va_D A (LC G a (upd v 12 ((v 12) + (nI 1))) q) := hD
  refine lv_aload_n hx hb dX2_workTick_10 rfl (lv_at hl 0 rfl) ?_
  refine va_get (D := G.1) (ci := 2) (v := .int ((v 12) + (nI 1))) (C := RX2) (T := TX2) (N := 14) hx hb hts in_X2_workTick_RX2 hown hK.1 hP 0 rfl rfl 3 (by decide) (hts _ k_X2_workTick_f49) (fun _ h9 => h9) rfl dX2_workTick_11 ?_
  refine lv_bipush (v := (nI 60)) hx hb dX2_workTick_14 (by decide) ?_
  refine lv_irem hx hb dX2_workTick_16 (by decide) ?_
  refine lv_if_ne (tgt := 24) hx hb dX2_workTick_17 (by decide) (fun c_1 => ?_) (fun c_1 => ?_)
  · refine lv_aload_n hx hb dX2_workTick_24 rfl (lv_at hl 0 rfl) ?_
    refine va_get (D := G.1) (ci := 2) (v := .ref (a 1)) (C := RX2) (T := TX2) (N := 14) hx hb hts in_X2_workTick_RX2 hown hK.1 hP 0 rfl rfl 0 (by decide) (hts _ k_X2_workTick_f12) (fun _ h9 => h9) rfl dX2_workTick_25 ?_
    refine lv_astore_n (lv' := [(1, .ref (a 1)), (0, .ref (a 0))]) hx hb dX2_workTick_28 rfl hl (by decide) rfl (fun ls hl => ?_)
    refine lv_aload_n hx hb dX2_workTick_29 rfl (lv_at hl 0 rfl) ?_
    refine n_alen (n := 2) hx hb hK hP 1 2 rfl rfl dX2_workTick_30 ?_
    refine lv_istore_n (lv' := [(2, .int (nI 2)), (1, .ref (a 1)), (0, .ref (a 0))]) hx hb dX2_workTick_31 rfl hl (by decide) rfl (fun ls hl => ?_)
    refine lv_iconst (v := (nI 0)) hx hb dX2_workTick_32 (by decide) ?_
    refine lv_istore_n (lv' := [(3, .int (nI 0)), (2, .int (nI 2)), (1, .ref (a 1)), (0, .ref (a 0))]) hx hb dX2_workTick_33 rfl hl (by decide) rfl (fun ls hl => ?_)
    exact h_X2_workTick_34_0 (upd v 12 ((v 12) + (nI 1)))  (by simp only [f_X2_workTick, if_neg c_1]) _ _ _ hP hD hS (lv_sub hl [0, 1, 2, 3] rfl)
  · refine lv_aload_n hx hb dX2_workTick_20 rfl (lv_at hl 0 rfl) ?_
    refine gcall_V (run_V (As := []) (rest := []) C0 hK hP hD (c_X2_receiveRation l G a (upd v 12 ((v 12) + (nI 1))) q H.size ) (cwV 0 hts gX2_workTick_X2_receiveRation rfl rfl rfl cd_X2_receiveRation ⟨Nat.le_of_ble_eq_true rfl, Nat.le_of_ble_eq_true rfl⟩) [0, 1, 2, 3, 4, 5, 6, 7, 8, 9, 10] rfl rfl 0 (ci := 2) rfl rfl rfl rfl hl.1 rfl (Nat.le_of_ble_eq_true rfl) dX2_workTick_21 ⟨Nat.le_of_ble_eq_true rfl, Nat.le_of_ble_eq_true rfl⟩) hP hD hS hA [0, 1, 2, 3, 4, 5, 6, 7, 8, 9, 10] rfl rfl (fun _ => rfl) (fun u_25 H locs hw_25 hP hD hS => ?_)
    obtain ⟨v_c25, rfl⟩ : ∃ z, z = u_25 := ⟨_, rfl⟩
    have hP : va_P G.1 vwCl (LC G a v_c25 q) H := hP
    have hD : va_D A (LC G a v_c25 q) := hD
    refine lv_aload_n hx hb dX2_workTick_24 rfl (lv_at hl 0 rfl) ?_
    refine va_get (D := G.1) (ci := 2) (v := .ref (a 1)) (C := RX2) (T := TX2) (N := 14) hx hb hts in_X2_workTick_RX2 hown hK.1 hP 0 rfl rfl 0 (by decide) (hts _ k_X2_workTick_f12) (fun _ h9 => h9) rfl dX2_workTick_25 ?_
    refine lv_astore_n (lv' := [(1, .ref (a 1)), (0, .ref (a 0))]) hx hb dX2_workTick_28 rfl hl (by decide) rfl (fun ls hl => ?_)
    refine lv_aload_n hx hb dX2_workTick_29 rfl (lv_at hl 0 rfl) ?_
    refine n_alen (n := 2) hx hb hK hP 1 2 rfl rfl dX2_workTick_30 ?_
    refine lv_istore_n (lv' := [(2, .int (nI 2)), (1, .ref (a 1)), (0, .ref (a 0))]) hx hb dX2_workTick_31 rfl hl (by decide) rfl (fun ls hl => ?_)
    refine lv_iconst (v := (nI 0)) hx hb dX2_workTick_32 (by decide) ?_
    refine lv_istore_n (lv' := [(3, .int (nI 0)), (2, .int (nI 2)), (1, .ref (a 1)), (0, .ref (a 0))]) hx hb dX2_workTick_33 rfl hl (by decide) rfl (fun ls hl => ?_)
    exact h_X2_workTick_34_0 v_c25  (by simp only [f_X2_workTick, if_pos c_1, hw_25]) _ _ _ hP hD hS (lv_sub hl [0, 1, 2, 3] rfl)
