theorem rf4_0 (r0 r1 r2 r3 x : Nat) : ∀ j, j < 4 → va_up (rf4 r0 r1 r2 r3) 0 (some x) j = rf4 x r1 r2 r3 j := by
  intro j h
  have h4 : j = 0 ∨ j = 1 ∨ j = 2 ∨ j = 3 := by omega
  rcases h4 with rfl | rfl | rfl | rfl <;> rfl
theorem rf4_1 (r0 r1 r2 r3 x : Nat) : ∀ j, j < 4 → va_up (rf4 r0 r1 r2 r3) 1 (some x) j = rf4 r0 x r2 r3 j := by
  intro j h
  have h4 : j = 0 ∨ j = 1 ∨ j = 2 ∨ j = 3 := by omega
  rcases h4 with rfl | rfl | rfl | rfl <;> rfl
theorem rf4_2 (r0 r1 r2 r3 x : Nat) : ∀ j, j < 4 → va_up (rf4 r0 r1 r2 r3) 2 (some x) j = rf4 r0 r1 x r3 j := by
  intro j h
  have h4 : j = 0 ∨ j = 1 ∨ j = 2 ∨ j = 3 := by omega
  rcases h4 with rfl | rfl | rfl | rfl <;> rfl
theorem rf4_3 (r0 r1 r2 r3 x : Nat) : ∀ j, j < 4 → va_up (rf4 r0 r1 r2 r3) 3 (some x) j = rf4 r0 r1 r2 x j := by
  intro j h
  have h4 : j = 0 ∨ j = 1 ∨ j = 2 ∨ j = 3 := by omega
  rcases h4 with rfl | rfl | rfl | rfl <;> rfl
set_option maxRecDepth 20000 in
theorem k_X1_dropOldest_f12 : Cond.fieldLink RX1 12 "SteamRations$History" "states" "[LSteamRations$Laundry;" ∈ wsX1_dropOldest := by decide +kernel
set_option maxRecDepth 20000 in
theorem k_X1_dropOldest_f18 : Cond.fieldLink RX1 18 "SteamRations$History" "size" "I" ∈ wsX1_dropOldest := by decide +kernel
set_option maxRecDepth 20000 in
theorem in_X1_dropOldest_RX1 : ∀ w ∈ u_ws RX1 TX1 2, w ∈ wsX1_dropOldest := by decide +kernel
theorem cd_X1_dropOldest : yX1_dropOldest.cls = RX1 ∧ yX1_dropOldest.cls ≠ "java/lang/invoke/MethodHandle" ∧ yX1_dropOldest.cls ≠ "java/lang/invoke/VarHandle" ∧ (parseMethodDescriptor yX1_dropOldest.desc).map (fun d => d.parameters.length) = some 0 := by decide +kernel
set_option maxHeartbeats 4000000 in
set_option maxRecDepth 100000 in
theorem c_X1_dropOldest (l : Launch) (G : GG) (h0 : Nat) (h1 : Nat) (r0 : Nat) (r1 : Nat) (r2 : Nat) (r3 : Nat) (afl : (List Value)) (bfl : (List Value)) (cfl : (List Value)) (dfl : (List Value)) (sz : Nat)   : Met l yX1_dropOldest wsX1_dropOldest ({ frames := 0, cells := 0, slots := 0, locals := 0 }) (Pre G [.ref h0] (HC G h0 h1 (nI 4) r0 r1 r2 r3 ++ OB r0 afl ++ OB r1 bfl ++ OB r2 cfl ++ OB r3 dfl) sz) (PV G (va_A (HC G h0 h1 (nI 4) r0 r1 r2 r3 ++ OB r0 afl ++ OB r1 bfl ++ OB r2 cfl ++ OB r3 dfl) sz) (fun _ : Unit => True) (fun _ : Unit => HC G h0 h1 (nI 3) r1 r2 r3 r0 ++ OB r0 afl ++ OB r1 bfl ++ OB r2 cfl ++ OB r3 dfl)) 0 0 (va_A (HC G h0 h1 (nI 4) r0 r1 r2 r3 ++ OB r0 afl ++ OB r1 bfl ++ OB r2 cfl ++ OB r3 dfl) sz) := by
  refine Met.walk (cc := cX1_dropOldest) (maxL := 3) (ret := none) (Qc := fun A => PV G A (fun _ : Unit => True) (fun _ : Unit => HC G h0 h1 (nI 3) r1 r2 r3 r0 ++ OB r0 afl ++ OB r1 bfl ++ OB r2 cfl ++ OB r3 dfl)) (by decide) rfl (Nat.le_of_ble_eq_true rfl) ?_
  intro p e s m below meth c A H C0 _ hK hsz hP hD hA hS ls hl
  have hx := C0.1
  have hb := C0.2.1
  have hown : s.vm.findClass RX1 = some m.cls := C0.2.2.2.2.1
  have hml := C0.2.2.2.1
  have hts : ∀ w ∈ wsX1_dropOldest, w.before [.ref h0].toArray s = true := C0.2.2.2.2.2.1
  have hl : lv_has ls 3 [(0, .ref h0)] := hl
  refine lv_aload_n hx hb dX1_dropOldest_0 rfl (lv_at hl 0 rfl) ?_
  refine va_get (D := G.1) (ci := 1) (v := .ref h1) (C := RX1) (T := TX1) (N := 2) hx hb hts in_X1_dropOldest_RX1 hown hK.1 hP 0 rfl rfl 0 (by decide) (hts _ k_X1_dropOldest_f12) (fun _ h9 => h9) rfl dX1_dropOldest_1 ?_
  refine n_alen (n := 4) hx hb hK hP 1 4 rfl rfl dX1_dropOldest_4 ?_
  refine lv_if_ne (tgt := 9) hx hb dX1_dropOldest_5 (by decide) (fun c_1 => ?_) (fun c_1 => absurd c_1 (by decide +kernel))
  refine lv_aload_n hx hb dX1_dropOldest_9 rfl (lv_at hl 0 rfl) ?_
  refine va_get (D := G.1) (ci := 1) (v := .ref h1) (C := RX1) (T := TX1) (N := 2) hx hb hts in_X1_dropOldest_RX1 hown hK.1 hP 0 rfl rfl 0 (by decide) (hts _ k_X1_dropOldest_f12) (fun _ h9 => h9) rfl dX1_dropOldest_10 ?_
  refine lv_iconst (v := (nI 0)) hx hb dX1_dropOldest_13 (by decide) ?_
  refine n_aald (j := 0) (v := .ref r0) (Cn := "SteamRations$Laundry") hx hb hK hP 1 4 rfl rfl (by decide) (by decide) rfl dX1_dropOldest_14 ?_
  refine lv_astore_n (lv' := [(1, .ref r0), (0, .ref h0)]) hx hb dX1_dropOldest_15 rfl hl (by decide) rfl (fun ls hl => ?_)
  refine lv_iconst (v := (nI 1)) hx hb dX1_dropOldest_16 (by decide) ?_
  refine lv_istore_n (lv' := [(2, .int (nI 1)), (1, .ref r0), (0, .ref h0)]) hx hb dX1_dropOldest_17 rfl hl (by decide) rfl (fun ls hl => ?_)
  refine lv_iload_n hx hb dX1_dropOldest_18 rfl (lv_at hl 0 rfl) ?_
  refine lv_aload_n hx hb dX1_dropOldest_19 rfl (lv_at hl 2 rfl) ?_
  refine va_get (D := G.1) (ci := 1) (v := .ref h1) (C := RX1) (T := TX1) (N := 2) hx hb hts in_X1_dropOldest_RX1 hown hK.1 hP 0 rfl rfl 0 (by decide) (hts _ k_X1_dropOldest_f12) (fun _ h9 => h9) rfl dX1_dropOldest_20 ?_
  refine n_alen (n := 4) hx hb hK hP 1 4 rfl rfl dX1_dropOldest_23 ?_
  refine lv_icmp_ge (tgt := 47) hx hb dX1_dropOldest_24 (by decide) (fun c_2 => absurd c_2 (by decide +kernel)) (fun c_2 => ?_)
  refine lv_aload_n hx hb dX1_dropOldest_27 rfl (lv_at hl 2 rfl) ?_
  refine va_get (D := G.1) (ci := 1) (v := .ref h1) (C := RX1) (T := TX1) (N := 2) hx hb hts in_X1_dropOldest_RX1 hown hK.1 hP 0 rfl rfl 0 (by decide) (hts _ k_X1_dropOldest_f12) (fun _ h9 => h9) rfl dX1_dropOldest_28 ?_
  refine lv_iload_n hx hb dX1_dropOldest_31 rfl (lv_at hl 0 rfl) ?_
  refine lv_iconst (v := (nI 1)) hx hb dX1_dropOldest_32 (by decide) ?_
  refine n_isub (i := 1) (j := 1) hx hb (by decide) dX1_dropOldest_33 ?_
  refine lv_aload_n hx hb dX1_dropOldest_34 rfl (lv_at hl 2 rfl) ?_
  refine va_get (D := G.1) (ci := 1) (v := .ref h1) (C := RX1) (T := TX1) (N := 2) hx hb hts in_X1_dropOldest_RX1 hown hK.1 hP 0 rfl rfl 0 (by decide) (hts _ k_X1_dropOldest_f12) (fun _ h9 => h9) rfl dX1_dropOldest_35 ?_
  refine lv_iload_n hx hb dX1_dropOldest_38 rfl (lv_at hl 0 rfl) ?_
  refine n_aald (j := 1) (v := .ref r1) (Cn := "SteamRations$Laundry") hx hb hK hP 1 4 rfl rfl (by decide) (by decide) rfl dX1_dropOldest_39 ?_
  refine n_aast (j := 0) (ci := 2) hx hb hK hP hD hS 1 4 3 rfl rfl rfl rfl (by decide) (by decide) dX1_dropOldest_40 (fun H locs hP hD hS => ?_)
  have hP : va_P G.1 vwCl (HC G h0 h1 (nI 4) r1 r1 r2 r3 ++ OB r0 afl ++ OB r1 bfl ++ OB r2 cfl ++ OB r3 dfl) H := va_P_arrq (k := 1) (rf4_0 _ _ _ _ _) hP rfl rfl
  have hD : va_D A (HC G h0 h1 (nI 4) r1 r1 r2 r3 ++ OB r0 afl ++ OB r1 bfl ++ OB r2 cfl ++ OB r3 dfl) := va_D_arr (k := 1) hD rfl rfl
  refine lv_iinc (v := (nI 2)) (lv' := [(2, .int (nI 2)), (1, .ref r0), (0, .ref h0)]) hx hb dX1_dropOldest_41 hl (k := 0) rfl (inc1 1) (by decide) rfl (fun ls hl => ?_)
  refine lv_goto (tgt := 18) hx hb dX1_dropOldest_44 (by decide) ?_
  refine lv_iload_n hx hb dX1_dropOldest_18 rfl (lv_at hl 0 rfl) ?_
  refine lv_aload_n hx hb dX1_dropOldest_19 rfl (lv_at hl 2 rfl) ?_
  refine va_get (D := G.1) (ci := 1) (v := .ref h1) (C := RX1) (T := TX1) (N := 2) hx hb hts in_X1_dropOldest_RX1 hown hK.1 hP 0 rfl rfl 0 (by decide) (hts _ k_X1_dropOldest_f12) (fun _ h9 => h9) rfl dX1_dropOldest_20 ?_
  refine n_alen (n := 4) hx hb hK hP 1 4 rfl rfl dX1_dropOldest_23 ?_
  refine lv_icmp_ge (tgt := 47) hx hb dX1_dropOldest_24 (by decide) (fun c_3 => absurd c_3 (by decide +kernel)) (fun c_3 => ?_)
  refine lv_aload_n hx hb dX1_dropOldest_27 rfl (lv_at hl 2 rfl) ?_
  refine va_get (D := G.1) (ci := 1) (v := .ref h1) (C := RX1) (T := TX1) (N := 2) hx hb hts in_X1_dropOldest_RX1 hown hK.1 hP 0 rfl rfl 0 (by decide) (hts _ k_X1_dropOldest_f12) (fun _ h9 => h9) rfl dX1_dropOldest_28 ?_
  refine lv_iload_n hx hb dX1_dropOldest_31 rfl (lv_at hl 0 rfl) ?_
  refine lv_iconst (v := (nI 1)) hx hb dX1_dropOldest_32 (by decide) ?_
  refine n_isub (i := 2) (j := 1) hx hb (by decide) dX1_dropOldest_33 ?_
  refine lv_aload_n hx hb dX1_dropOldest_34 rfl (lv_at hl 2 rfl) ?_
  refine va_get (D := G.1) (ci := 1) (v := .ref h1) (C := RX1) (T := TX1) (N := 2) hx hb hts in_X1_dropOldest_RX1 hown hK.1 hP 0 rfl rfl 0 (by decide) (hts _ k_X1_dropOldest_f12) (fun _ h9 => h9) rfl dX1_dropOldest_35 ?_
  refine lv_iload_n hx hb dX1_dropOldest_38 rfl (lv_at hl 0 rfl) ?_
  refine n_aald (j := 2) (v := .ref r2) (Cn := "SteamRations$Laundry") hx hb hK hP 1 4 rfl rfl (by decide) (by decide) rfl dX1_dropOldest_39 ?_
  refine n_aast (j := 1) (ci := 2) hx hb hK hP hD hS 1 4 4 rfl rfl rfl rfl (by decide) (by decide) dX1_dropOldest_40 (fun H locs hP hD hS => ?_)
  have hP : va_P G.1 vwCl (HC G h0 h1 (nI 4) r1 r2 r2 r3 ++ OB r0 afl ++ OB r1 bfl ++ OB r2 cfl ++ OB r3 dfl) H := va_P_arrq (k := 1) (rf4_1 _ _ _ _ _) hP rfl rfl
  have hD : va_D A (HC G h0 h1 (nI 4) r1 r2 r2 r3 ++ OB r0 afl ++ OB r1 bfl ++ OB r2 cfl ++ OB r3 dfl) := va_D_arr (k := 1) hD rfl rfl
  refine lv_iinc (v := (nI 3)) (lv' := [(2, .int (nI 3)), (1, .ref r0), (0, .ref h0)]) hx hb dX1_dropOldest_41 hl (k := 0) rfl (inc1 2) (by decide) rfl (fun ls hl => ?_)
  refine lv_goto (tgt := 18) hx hb dX1_dropOldest_44 (by decide) ?_
  refine lv_iload_n hx hb dX1_dropOldest_18 rfl (lv_at hl 0 rfl) ?_
  refine lv_aload_n hx hb dX1_dropOldest_19 rfl (lv_at hl 2 rfl) ?_
  refine va_get (D := G.1) (ci := 1) (v := .ref h1) (C := RX1) (T := TX1) (N := 2) hx hb hts in_X1_dropOldest_RX1 hown hK.1 hP 0 rfl rfl 0 (by decide) (hts _ k_X1_dropOldest_f12) (fun _ h9 => h9) rfl dX1_dropOldest_20 ?_
  refine n_alen (n := 4) hx hb hK hP 1 4 rfl rfl dX1_dropOldest_23 ?_
  refine lv_icmp_ge (tgt := 47) hx hb dX1_dropOldest_24 (by decide) (fun c_4 => absurd c_4 (by decide +kernel)) (fun c_4 => ?_)
  refine lv_aload_n hx hb dX1_dropOldest_27 rfl (lv_at hl 2 rfl) ?_
  refine va_get (D := G.1) (ci := 1) (v := .ref h1) (C := RX1) (T := TX1) (N := 2) hx hb hts in_X1_dropOldest_RX1 hown hK.1 hP 0 rfl rfl 0 (by decide) (hts _ k_X1_dropOldest_f12) (fun _ h9 => h9) rfl dX1_dropOldest_28 ?_
  refine lv_iload_n hx hb dX1_dropOldest_31 rfl (lv_at hl 0 rfl) ?_
  refine lv_iconst (v := (nI 1)) hx hb dX1_dropOldest_32 (by decide) ?_
  refine n_isub (i := 3) (j := 1) hx hb (by decide) dX1_dropOldest_33 ?_
  refine lv_aload_n hx hb dX1_dropOldest_34 rfl (lv_at hl 2 rfl) ?_
  refine va_get (D := G.1) (ci := 1) (v := .ref h1) (C := RX1) (T := TX1) (N := 2) hx hb hts in_X1_dropOldest_RX1 hown hK.1 hP 0 rfl rfl 0 (by decide) (hts _ k_X1_dropOldest_f12) (fun _ h9 => h9) rfl dX1_dropOldest_35 ?_
  refine lv_iload_n hx hb dX1_dropOldest_38 rfl (lv_at hl 0 rfl) ?_
  refine n_aald (j := 3) (v := .ref r3) (Cn := "SteamRations$Laundry") hx hb hK hP 1 4 rfl rfl (by decide) (by decide) rfl dX1_dropOldest_39 ?_
  refine n_aast (j := 2) (ci := 2) hx hb hK hP hD hS 1 4 5 rfl rfl rfl rfl (by decide) (by decide) dX1_dropOldest_40 (fun H locs hP hD hS => ?_)
  have hP : va_P G.1 vwCl (HC G h0 h1 (nI 4) r1 r2 r3 r3 ++ OB r0 afl ++ OB r1 bfl ++ OB r2 cfl ++ OB r3 dfl) H := va_P_arrq (k := 1) (rf4_2 _ _ _ _ _) hP rfl rfl
  have hD : va_D A (HC G h0 h1 (nI 4) r1 r2 r3 r3 ++ OB r0 afl ++ OB r1 bfl ++ OB r2 cfl ++ OB r3 dfl) := va_D_arr (k := 1) hD rfl rfl
  refine lv_iinc (v := (nI 4)) (lv' := [(2, .int (nI 4)), (1, .ref r0), (0, .ref h0)]) hx hb dX1_dropOldest_41 hl (k := 0) rfl (inc1 3) (by decide) rfl (fun ls hl => ?_)
  refine lv_goto (tgt := 18) hx hb dX1_dropOldest_44 (by decide) ?_
  refine lv_iload_n hx hb dX1_dropOldest_18 rfl (lv_at hl 0 rfl) ?_
  refine lv_aload_n hx hb dX1_dropOldest_19 rfl (lv_at hl 2 rfl) ?_
  refine va_get (D := G.1) (ci := 1) (v := .ref h1) (C := RX1) (T := TX1) (N := 2) hx hb hts in_X1_dropOldest_RX1 hown hK.1 hP 0 rfl rfl 0 (by decide) (hts _ k_X1_dropOldest_f12) (fun _ h9 => h9) rfl dX1_dropOldest_20 ?_
  refine n_alen (n := 4) hx hb hK hP 1 4 rfl rfl dX1_dropOldest_23 ?_
  refine lv_icmp_ge (tgt := 47) hx hb dX1_dropOldest_24 (by decide) (fun c_5 => ?_) (fun c_5 => absurd (by decide +kernel) c_5)
  refine lv_aload_n hx hb dX1_dropOldest_47 rfl (lv_at hl 2 rfl) ?_
  refine va_get (D := G.1) (ci := 1) (v := .ref h1) (C := RX1) (T := TX1) (N := 2) hx hb hts in_X1_dropOldest_RX1 hown hK.1 hP 0 rfl rfl 0 (by decide) (hts _ k_X1_dropOldest_f12) (fun _ h9 => h9) rfl dX1_dropOldest_48 ?_
  refine lv_aload_n hx hb dX1_dropOldest_51 rfl (lv_at hl 2 rfl) ?_
  refine va_get (D := G.1) (ci := 1) (v := .ref h1) (C := RX1) (T := TX1) (N := 2) hx hb hts in_X1_dropOldest_RX1 hown hK.1 hP 0 rfl rfl 0 (by decide) (hts _ k_X1_dropOldest_f12) (fun _ h9 => h9) rfl dX1_dropOldest_52 ?_
  refine n_alen (n := 4) hx hb hK hP 1 4 rfl rfl dX1_dropOldest_55 ?_
  refine lv_iconst (v := (nI 1)) hx hb dX1_dropOldest_56 (by decide) ?_
  refine n_isub (i := 4) (j := 1) hx hb (by decide) dX1_dropOldest_57 ?_
  refine lv_aload_n hx hb dX1_dropOldest_58 rfl (lv_at hl 1 rfl) ?_
  refine n_aast (j := 3) (ci := 2) hx hb hK hP hD hS 1 4 2 rfl rfl rfl rfl (by decide) (by decide) dX1_dropOldest_59 (fun H locs hP hD hS => ?_)
  have hP : va_P G.1 vwCl (HC G h0 h1 (nI 4) r1 r2 r3 r0 ++ OB r0 afl ++ OB r1 bfl ++ OB r2 cfl ++ OB r3 dfl) H := va_P_arrq (k := 1) (rf4_3 _ _ _ _ _) hP rfl rfl
  have hD : va_D A (HC G h0 h1 (nI 4) r1 r2 r3 r0 ++ OB r0 afl ++ OB r1 bfl ++ OB r2 cfl ++ OB r3 dfl) := va_D_arr (k := 1) hD rfl rfl
  refine lv_aload_n hx hb dX1_dropOldest_60 rfl (lv_at hl 2 rfl) ?_
  refine lv_dup hx hb dX1_dropOldest_61 rfl ?_
  refine va_get (D := G.1) (ci := 1) (v := .int (nI 4)) (C := RX1) (T := TX1) (N := 2) hx hb hts in_X1_dropOldest_RX1 hown hK.1 hP 0 rfl rfl 1 (by decide) (hts _ k_X1_dropOldest_f18) (fun _ h9 => h9) rfl dX1_dropOldest_62 ?_
  refine lv_iconst (v := (nI 1)) hx hb dX1_dropOldest_65 (by decide) ?_
  refine n_isub (i := 4) (j := 1) hx hb (by decide) dX1_dropOldest_66 ?_
  refine va_put (D := G.1) (ci := 1) (v := .int (nI 3)) (ty := .int) (C := RX1) (T := TX1) (N := 2) hx hb hts in_X1_dropOldest_RX1 tyX1 tyX1_ok nmX1 hown hK.1 hP hD hS 0 rfl rfl 1 (by decide) (hts _ k_X1_dropOldest_f18) (fun _ h9 => h9) rfl (by decide +kernel) rfl rfl (Nat.le_of_ble_eq_true rfl) dX1_dropOldest_67 (fun H locs hP hD hS => ?_)
  have hP : va_P G.1 vwCl (HC G h0 h1 (nI 3) r1 r2 r3 r0 ++ OB r0 afl ++ OB r1 bfl ++ OB r2 cfl ++ OB r3 dfl) H := hP
  have hD : va_D A (HC G h0 h1 (nI 3) r1 r2 r3 r0 ++ OB r0 afl ++ OB r1 bfl ++ OB r2 cfl ++ OB r3 dfl) := hD
  exact end_V C0 hP hD hS () trivial rfl dX1_dropOldest_70


set_option maxRecDepth 20000 in
theorem k_X1_push_f12 : Cond.fieldLink RX1 12 "SteamRations$History" "states" "[LSteamRations$Laundry;" ∈ wsX1_push := by decide +kernel
set_option maxRecDepth 20000 in
theorem k_X1_push_f18 : Cond.fieldLink RX1 18 "SteamRations$History" "size" "I" ∈ wsX1_push := by decide +kernel
set_option maxRecDepth 20000 in
theorem in_X1_push_RX1 : ∀ w ∈ u_ws RX1 TX1 2, w ∈ wsX1_push := by decide +kernel
theorem cd_X1_push : yX1_push.cls = RX1 ∧ yX1_push.cls ≠ "java/lang/invoke/MethodHandle" ∧ yX1_push.cls ≠ "java/lang/invoke/VarHandle" ∧ (parseMethodDescriptor yX1_push.desc).map (fun d => d.parameters.length) = some 1 := by decide +kernel
set_option maxHeartbeats 4000000 in
set_option maxRecDepth 100000 in
theorem c_X1_push_0 (l : Launch) (G : GG) (h0 : Nat) (h1 : Nat) (x0 : Nat → Nat) (x1 : Nat → Nat) (x2 : Nat → Nat) (x3 : Nat → Nat) (y : Nat → Nat) (av : (Nat → Int32)) (aq : (Nat → Int32)) (bv : (Nat → Int32)) (bq : (Nat → Int32)) (cv : (Nat → Int32)) (cq : (Nat → Int32)) (dv : (Nat → Int32)) (dq : (Nat → Int32)) (v : (Nat → Int32)) (q : (Nat → Int32)) (sz : Nat)   : Met l yX1_push wsX1_push ({ frames := 2, cells := 0, slots := 0, locals := 44 }) (Pre G [.ref h0, .ref (y 0)] (HC G h0 h1 (nI 0) (x0 0) (x1 0) (x2 0) (x3 0) ++ LC G x0 av aq ++ LC G x1 bv bq ++ LC G x2 cv cq ++ LC G x3 dv dq ++ LC G y v q) sz) (PV G (va_A (HC G h0 h1 (nI 0) (x0 0) (x1 0) (x2 0) (x3 0) ++ LC G x0 av aq ++ LC G x1 bv bq ++ LC G x2 cv cq ++ LC G x3 dv dq ++ LC G y v q) sz) (fun _ : Unit => True) (fun _ : Unit => HC G h0 h1 (nI 1) (x0 0) (x1 0) (x2 0) (x3 0) ++ LC G x0 v q ++ LC G x1 bv bq ++ LC G x2 cv cq ++ LC G x3 dv dq ++ LC G y v q)) 0 0 (va_A (HC G h0 h1 (nI 0) (x0 0) (x1 0) (x2 0) (x3 0) ++ LC G x0 av aq ++ LC G x1 bv bq ++ LC G x2 cv cq ++ LC G x3 dv dq ++ LC G y v q) sz) := by
  refine Met.walk (cc := cX1_push) (maxL := 2) (ret := none) (Qc := fun A => PV G A (fun _ : Unit => True) (fun _ : Unit => HC G h0 h1 (nI 1) (x0 0) (x1 0) (x2 0) (x3 0) ++ LC G x0 v q ++ LC G x1 bv bq ++ LC G x2 cv cq ++ LC G x3 dv dq ++ LC G y v q)) (by decide) rfl (Nat.le_of_ble_eq_true rfl) ?_
  intro p e s m below meth c A H C0 _ hK hsz hP hD hA hS ls hl
  have hx := C0.1
  have hb := C0.2.1
  have hown : s.vm.findClass RX1 = some m.cls := C0.2.2.2.2.1
  have hml := C0.2.2.2.1
  have hts : ∀ w ∈ wsX1_push, w.before [.ref h0, .ref (y 0)].toArray s = true := C0.2.2.2.2.2.1
  have hl : lv_has ls 2 [(0, .ref h0), (1, .ref (y 0))] := hl
  refine lv_aload_n hx hb dX1_push_0 rfl (lv_at hl 0 rfl) ?_
  refine va_get (D := G.1) (ci := 1) (v := .int (nI 0)) (C := RX1) (T := TX1) (N := 2) hx hb hts in_X1_push_RX1 hown hK.1 hP 0 rfl rfl 1 (by decide) (hts _ k_X1_push_f18) (fun _ h9 => h9) rfl dX1_push_1 ?_
  refine lv_aload_n hx hb dX1_push_4 rfl (lv_at hl 0 rfl) ?_
  refine va_get (D := G.1) (ci := 1) (v := .ref h1) (C := RX1) (T := TX1) (N := 2) hx hb hts in_X1_push_RX1 hown hK.1 hP 0 rfl rfl 0 (by decide) (hts _ k_X1_push_f12) (fun _ h9 => h9) rfl dX1_push_5 ?_
  refine n_alen (n := 4) hx hb hK hP 1 4 rfl rfl dX1_push_8 ?_
  refine lv_icmp_lt (tgt := 16) hx hb dX1_push_9 (by decide) (fun c_1 => ?_) (fun c_1 => absurd (by decide +kernel) c_1)
  refine lv_aload_n hx hb dX1_push_16 rfl (lv_at hl 0 rfl) ?_
  refine va_get (D := G.1) (ci := 1) (v := .int (nI 0)) (C := RX1) (T := TX1) (N := 2) hx hb hts in_X1_push_RX1 hown hK.1 hP 0 rfl rfl 1 (by decide) (hts _ k_X1_push_f18) (fun _ h9 => h9) rfl dX1_push_17 ?_
  refine lv_if_lt (tgt := 58) hx hb dX1_push_20 (by decide) (fun c_2 => absurd c_2 (by decide +kernel)) (fun c_2 => ?_)
  refine lv_aload_n hx hb dX1_push_23 rfl (lv_at hl 0 rfl) ?_
  refine va_get (D := G.1) (ci := 1) (v := .int (nI 0)) (C := RX1) (T := TX1) (N := 2) hx hb hts in_X1_push_RX1 hown hK.1 hP 0 rfl rfl 1 (by decide) (hts _ k_X1_push_f18) (fun _ h9 => h9) rfl dX1_push_24 ?_
  refine lv_aload_n hx hb dX1_push_27 rfl (lv_at hl 0 rfl) ?_
  refine va_get (D := G.1) (ci := 1) (v := .ref h1) (C := RX1) (T := TX1) (N := 2) hx hb hts in_X1_push_RX1 hown hK.1 hP 0 rfl rfl 0 (by decide) (hts _ k_X1_push_f12) (fun _ h9 => h9) rfl dX1_push_28 ?_
  refine n_alen (n := 4) hx hb hK hP 1 4 rfl rfl dX1_push_31 ?_
  refine lv_icmp_ge (tgt := 58) hx hb dX1_push_32 (by decide) (fun c_3 => absurd c_3 (by decide +kernel)) (fun c_3 => ?_)
  refine lv_aload_n hx hb dX1_push_35 rfl (lv_at hl 0 rfl) ?_
  refine va_get (D := G.1) (ci := 1) (v := .ref h1) (C := RX1) (T := TX1) (N := 2) hx hb hts in_X1_push_RX1 hown hK.1 hP 0 rfl rfl 0 (by decide) (hts _ k_X1_push_f12) (fun _ h9 => h9) rfl dX1_push_36 ?_
  refine lv_aload_n hx hb dX1_push_39 rfl (lv_at hl 0 rfl) ?_
  refine va_get (D := G.1) (ci := 1) (v := .int (nI 0)) (C := RX1) (T := TX1) (N := 2) hx hb hts in_X1_push_RX1 hown hK.1 hP 0 rfl rfl 1 (by decide) (hts _ k_X1_push_f18) (fun _ h9 => h9) rfl dX1_push_40 ?_
  refine n_aald (j := 0) (v := .ref (x0 0)) (Cn := "SteamRations$Laundry") hx hb hK hP 1 4 rfl rfl (by decide) (by decide) rfl dX1_push_43 ?_
  refine lv_aload_n hx hb dX1_push_44 rfl (lv_at hl 1 rfl) ?_
  have hW : BW G A [HC G h0 h1 (nI 0) (x0 0) (x1 0) (x2 0) (x3 0), LC G x0 av aq, LC G x1 bv bq, LC G x2 cv cq, LC G x3 dv dq, LC G y v q] H := BW.of hP hD
  refine gcallB_V (bc := [LC G x0 av aq, LC G y v q]) (runB_V (As := [.ref (y 0)]) (rest := []) (bc := [LC G x0 av aq, LC G y v q]) C0 hK hW (c_X2_copyFrom l G x0 y av aq v q H.size ) (cwV 1 hts gX1_push_X2_copyFrom rfl rfl rfl cd_X2_copyFrom ⟨Nat.le_of_ble_eq_true rfl, Nat.le_of_ble_eq_true rfl⟩) [1, 5] rfl rfl rfl 1 0 rfl (ci := 2) rfl rfl rfl rfl hl.1 rfl (Nat.le_of_ble_eq_true rfl) dX1_push_45 ⟨Nat.le_of_ble_eq_true rfl, Nat.le_of_ble_eq_true rfl⟩) hW hS hA [1, 5] rfl rfl rfl (fun u => [LC G x0 u.1 u.2, LC G y v q]) (fun _ => rfl) (fun _ => rfl) (fun u_4 H locs hw_4 hW hS => ?_)
  obtain ⟨hP, hD⟩ := hW.flat
  obtain ⟨v_c4, q_c4⟩ := u_4
  simp only [f_X2_copyFrom, Prod.mk.injEq] at hw_4
  obtain ⟨rfl, rfl⟩ := hw_4
  have hP : va_P G.1 vwCl (HC G h0 h1 (nI 0) (x0 0) (x1 0) (x2 0) (x3 0) ++ LC G x0 v q ++ LC G x1 bv bq ++ LC G x2 cv cq ++ LC G x3 dv dq ++ LC G y v q) H := hP
  have hD : va_D A (HC G h0 h1 (nI 0) (x0 0) (x1 0) (x2 0) (x3 0) ++ LC G x0 v q ++ LC G x1 bv bq ++ LC G x2 cv cq ++ LC G x3 dv dq ++ LC G y v q) := hD
  refine lv_aload_n hx hb dX1_push_48 rfl (lv_at hl 0 rfl) ?_
  refine lv_dup hx hb dX1_push_49 rfl ?_
  refine va_get (D := G.1) (ci := 1) (v := .int (nI 0)) (C := RX1) (T := TX1) (N := 2) hx hb hts in_X1_push_RX1 hown hK.1 hP 0 rfl rfl 1 (by decide) (hts _ k_X1_push_f18) (fun _ h9 => h9) rfl dX1_push_50 ?_
  refine lv_iconst (v := (nI 1)) hx hb dX1_push_53 (by decide) ?_
  refine n_iadd (i := 0) (j := 1) hx hb dX1_push_54 ?_
  refine W.eq (g2 := F0 m 55 ls ([.int (nI 1), .ref h0])) (by first | rfl | (simp only [F0]; congr 3; omega)) ?_
  refine va_put (D := G.1) (ci := 1) (v := .int (nI 1)) (ty := .int) (C := RX1) (T := TX1) (N := 2) hx hb hts in_X1_push_RX1 tyX1 tyX1_ok nmX1 hown hK.1 hP hD hS 0 rfl rfl 1 (by decide) (hts _ k_X1_push_f18) (fun _ h9 => h9) rfl (by decide +kernel) rfl rfl (Nat.le_of_ble_eq_true rfl) dX1_push_55 (fun H locs hP hD hS => ?_)
  have hP : va_P G.1 vwCl (HC G h0 h1 (nI 1) (x0 0) (x1 0) (x2 0) (x3 0) ++ LC G x0 v q ++ LC G x1 bv bq ++ LC G x2 cv cq ++ LC G x3 dv dq ++ LC G y v q) H := hP
  have hD : va_D A (HC G h0 h1 (nI 1) (x0 0) (x1 0) (x2 0) (x3 0) ++ LC G x0 v q ++ LC G x1 bv bq ++ LC G x2 cv cq ++ LC G x3 dv dq ++ LC G y v q) := hD
  exact end_V C0 hP hD hS () trivial rfl dX1_push_58


set_option maxHeartbeats 4000000 in
set_option maxRecDepth 100000 in
theorem c_X1_push_1 (l : Launch) (G : GG) (h0 : Nat) (h1 : Nat) (x0 : Nat → Nat) (x1 : Nat → Nat) (x2 : Nat → Nat) (x3 : Nat → Nat) (y : Nat → Nat) (av : (Nat → Int32)) (aq : (Nat → Int32)) (bv : (Nat → Int32)) (bq : (Nat → Int32)) (cv : (Nat → Int32)) (cq : (Nat → Int32)) (dv : (Nat → Int32)) (dq : (Nat → Int32)) (v : (Nat → Int32)) (q : (Nat → Int32)) (sz : Nat)   : Met l yX1_push wsX1_push ({ frames := 2, cells := 0, slots := 0, locals := 44 }) (Pre G [.ref h0, .ref (y 0)] (HC G h0 h1 (nI 1) (x0 0) (x1 0) (x2 0) (x3 0) ++ LC G x0 av aq ++ LC G x1 bv bq ++ LC G x2 cv cq ++ LC G x3 dv dq ++ LC G y v q) sz) (PV G (va_A (HC G h0 h1 (nI 1) (x0 0) (x1 0) (x2 0) (x3 0) ++ LC G x0 av aq ++ LC G x1 bv bq ++ LC G x2 cv cq ++ LC G x3 dv dq ++ LC G y v q) sz) (fun _ : Unit => True) (fun _ : Unit => HC G h0 h1 (nI 2) (x0 0) (x1 0) (x2 0) (x3 0) ++ LC G x0 av aq ++ LC G x1 v q ++ LC G x2 cv cq ++ LC G x3 dv dq ++ LC G y v q)) 0 0 (va_A (HC G h0 h1 (nI 1) (x0 0) (x1 0) (x2 0) (x3 0) ++ LC G x0 av aq ++ LC G x1 bv bq ++ LC G x2 cv cq ++ LC G x3 dv dq ++ LC G y v q) sz) := by
  refine Met.walk (cc := cX1_push) (maxL := 2) (ret := none) (Qc := fun A => PV G A (fun _ : Unit => True) (fun _ : Unit => HC G h0 h1 (nI 2) (x0 0) (x1 0) (x2 0) (x3 0) ++ LC G x0 av aq ++ LC G x1 v q ++ LC G x2 cv cq ++ LC G x3 dv dq ++ LC G y v q)) (by decide) rfl (Nat.le_of_ble_eq_true rfl) ?_
  intro p e s m below meth c A H C0 _ hK hsz hP hD hA hS ls hl
  have hx := C0.1
  have hb := C0.2.1
  have hown : s.vm.findClass RX1 = some m.cls := C0.2.2.2.2.1
  have hml := C0.2.2.2.1
  have hts : ∀ w ∈ wsX1_push, w.before [.ref h0, .ref (y 0)].toArray s = true := C0.2.2.2.2.2.1
  have hl : lv_has ls 2 [(0, .ref h0), (1, .ref (y 0))] := hl
  refine lv_aload_n hx hb dX1_push_0 rfl (lv_at hl 0 rfl) ?_
  refine va_get (D := G.1) (ci := 1) (v := .int (nI 1)) (C := RX1) (T := TX1) (N := 2) hx hb hts in_X1_push_RX1 hown hK.1 hP 0 rfl rfl 1 (by decide) (hts _ k_X1_push_f18) (fun _ h9 => h9) rfl dX1_push_1 ?_
  refine lv_aload_n hx hb dX1_push_4 rfl (lv_at hl 0 rfl) ?_
  refine va_get (D := G.1) (ci := 1) (v := .ref h1) (C := RX1) (T := TX1) (N := 2) hx hb hts in_X1_push_RX1 hown hK.1 hP 0 rfl rfl 0 (by decide) (hts _ k_X1_push_f12) (fun _ h9 => h9) rfl dX1_push_5 ?_
  refine n_alen (n := 4) hx hb hK hP 1 4 rfl rfl dX1_push_8 ?_
  refine lv_icmp_lt (tgt := 16) hx hb dX1_push_9 (by decide) (fun c_1 => ?_) (fun c_1 => absurd (by decide +kernel) c_1)
  refine lv_aload_n hx hb dX1_push_16 rfl (lv_at hl 0 rfl) ?_
  refine va_get (D := G.1) (ci := 1) (v := .int (nI 1)) (C := RX1) (T := TX1) (N := 2) hx hb hts in_X1_push_RX1 hown hK.1 hP 0 rfl rfl 1 (by decide) (hts _ k_X1_push_f18) (fun _ h9 => h9) rfl dX1_push_17 ?_
  refine lv_if_lt (tgt := 58) hx hb dX1_push_20 (by decide) (fun c_2 => absurd c_2 (by decide +kernel)) (fun c_2 => ?_)
  refine lv_aload_n hx hb dX1_push_23 rfl (lv_at hl 0 rfl) ?_
  refine va_get (D := G.1) (ci := 1) (v := .int (nI 1)) (C := RX1) (T := TX1) (N := 2) hx hb hts in_X1_push_RX1 hown hK.1 hP 0 rfl rfl 1 (by decide) (hts _ k_X1_push_f18) (fun _ h9 => h9) rfl dX1_push_24 ?_
  refine lv_aload_n hx hb dX1_push_27 rfl (lv_at hl 0 rfl) ?_
  refine va_get (D := G.1) (ci := 1) (v := .ref h1) (C := RX1) (T := TX1) (N := 2) hx hb hts in_X1_push_RX1 hown hK.1 hP 0 rfl rfl 0 (by decide) (hts _ k_X1_push_f12) (fun _ h9 => h9) rfl dX1_push_28 ?_
  refine n_alen (n := 4) hx hb hK hP 1 4 rfl rfl dX1_push_31 ?_
  refine lv_icmp_ge (tgt := 58) hx hb dX1_push_32 (by decide) (fun c_3 => absurd c_3 (by decide +kernel)) (fun c_3 => ?_)
  refine lv_aload_n hx hb dX1_push_35 rfl (lv_at hl 0 rfl) ?_
  refine va_get (D := G.1) (ci := 1) (v := .ref h1) (C := RX1) (T := TX1) (N := 2) hx hb hts in_X1_push_RX1 hown hK.1 hP 0 rfl rfl 0 (by decide) (hts _ k_X1_push_f12) (fun _ h9 => h9) rfl dX1_push_36 ?_
  refine lv_aload_n hx hb dX1_push_39 rfl (lv_at hl 0 rfl) ?_
  refine va_get (D := G.1) (ci := 1) (v := .int (nI 1)) (C := RX1) (T := TX1) (N := 2) hx hb hts in_X1_push_RX1 hown hK.1 hP 0 rfl rfl 1 (by decide) (hts _ k_X1_push_f18) (fun _ h9 => h9) rfl dX1_push_40 ?_
  refine n_aald (j := 1) (v := .ref (x1 0)) (Cn := "SteamRations$Laundry") hx hb hK hP 1 4 rfl rfl (by decide) (by decide) rfl dX1_push_43 ?_
  refine lv_aload_n hx hb dX1_push_44 rfl (lv_at hl 1 rfl) ?_
  have hW : BW G A [HC G h0 h1 (nI 1) (x0 0) (x1 0) (x2 0) (x3 0), LC G x0 av aq, LC G x1 bv bq, LC G x2 cv cq, LC G x3 dv dq, LC G y v q] H := BW.of hP hD
  refine gcallB_V (bc := [LC G x1 bv bq, LC G y v q]) (runB_V (As := [.ref (y 0)]) (rest := []) (bc := [LC G x1 bv bq, LC G y v q]) C0 hK hW (c_X2_copyFrom l G x1 y bv bq v q H.size ) (cwV 1 hts gX1_push_X2_copyFrom rfl rfl rfl cd_X2_copyFrom ⟨Nat.le_of_ble_eq_true rfl, Nat.le_of_ble_eq_true rfl⟩) [2, 5] rfl rfl rfl 2 0 rfl (ci := 2) rfl rfl rfl rfl hl.1 rfl (Nat.le_of_ble_eq_true rfl) dX1_push_45 ⟨Nat.le_of_ble_eq_true rfl, Nat.le_of_ble_eq_true rfl⟩) hW hS hA [2, 5] rfl rfl rfl (fun u => [LC G x1 u.1 u.2, LC G y v q]) (fun _ => rfl) (fun _ => rfl) (fun u_4 H locs hw_4 hW hS => ?_)
  obtain ⟨hP, hD⟩ := hW.flat
  obtain ⟨v_c4, q_c4⟩ := u_4
  simp only [f_X2_copyFrom, Prod.mk.injEq] at hw_4
  obtain ⟨rfl, rfl⟩ := hw_4
  have hP : va_P G.1 vwCl (HC G h0 h1 (nI 1) (x0 0) (x1 0) (x2 0) (x3 0) ++ LC G x0 av aq ++ LC G x1 v q ++ LC G x2 cv cq ++ LC G x3 dv dq ++ LC G y v q) H := hP
  have hD : va_D A (HC G h0 h1 (nI 1) (x0 0) (x1 0) (x2 0) (x3 0) ++ LC G x0 av aq ++ LC G x1 v q ++ LC G x2 cv cq ++ LC G x3 dv dq ++ LC G y v q) := hD
  refine lv_aload_n hx hb dX1_push_48 rfl (lv_at hl 0 rfl) ?_
  refine lv_dup hx hb dX1_push_49 rfl ?_
  refine va_get (D := G.1) (ci := 1) (v := .int (nI 1)) (C := RX1) (T := TX1) (N := 2) hx hb hts in_X1_push_RX1 hown hK.1 hP 0 rfl rfl 1 (by decide) (hts _ k_X1_push_f18) (fun _ h9 => h9) rfl dX1_push_50 ?_
  refine lv_iconst (v := (nI 1)) hx hb dX1_push_53 (by decide) ?_
  refine n_iadd (i := 1) (j := 1) hx hb dX1_push_54 ?_
  refine W.eq (g2 := F0 m 55 ls ([.int (nI 2), .ref h0])) (by first | rfl | (simp only [F0]; congr 3; omega)) ?_
  refine va_put (D := G.1) (ci := 1) (v := .int (nI 2)) (ty := .int) (C := RX1) (T := TX1) (N := 2) hx hb hts in_X1_push_RX1 tyX1 tyX1_ok nmX1 hown hK.1 hP hD hS 0 rfl rfl 1 (by decide) (hts _ k_X1_push_f18) (fun _ h9 => h9) rfl (by decide +kernel) rfl rfl (Nat.le_of_ble_eq_true rfl) dX1_push_55 (fun H locs hP hD hS => ?_)
  have hP : va_P G.1 vwCl (HC G h0 h1 (nI 2) (x0 0) (x1 0) (x2 0) (x3 0) ++ LC G x0 av aq ++ LC G x1 v q ++ LC G x2 cv cq ++ LC G x3 dv dq ++ LC G y v q) H := hP
  have hD : va_D A (HC G h0 h1 (nI 2) (x0 0) (x1 0) (x2 0) (x3 0) ++ LC G x0 av aq ++ LC G x1 v q ++ LC G x2 cv cq ++ LC G x3 dv dq ++ LC G y v q) := hD
  exact end_V C0 hP hD hS () trivial rfl dX1_push_58


set_option maxHeartbeats 4000000 in
set_option maxRecDepth 100000 in
theorem c_X1_push_2 (l : Launch) (G : GG) (h0 : Nat) (h1 : Nat) (x0 : Nat → Nat) (x1 : Nat → Nat) (x2 : Nat → Nat) (x3 : Nat → Nat) (y : Nat → Nat) (av : (Nat → Int32)) (aq : (Nat → Int32)) (bv : (Nat → Int32)) (bq : (Nat → Int32)) (cv : (Nat → Int32)) (cq : (Nat → Int32)) (dv : (Nat → Int32)) (dq : (Nat → Int32)) (v : (Nat → Int32)) (q : (Nat → Int32)) (sz : Nat)   : Met l yX1_push wsX1_push ({ frames := 2, cells := 0, slots := 0, locals := 44 }) (Pre G [.ref h0, .ref (y 0)] (HC G h0 h1 (nI 2) (x0 0) (x1 0) (x2 0) (x3 0) ++ LC G x0 av aq ++ LC G x1 bv bq ++ LC G x2 cv cq ++ LC G x3 dv dq ++ LC G y v q) sz) (PV G (va_A (HC G h0 h1 (nI 2) (x0 0) (x1 0) (x2 0) (x3 0) ++ LC G x0 av aq ++ LC G x1 bv bq ++ LC G x2 cv cq ++ LC G x3 dv dq ++ LC G y v q) sz) (fun _ : Unit => True) (fun _ : Unit => HC G h0 h1 (nI 3) (x0 0) (x1 0) (x2 0) (x3 0) ++ LC G x0 av aq ++ LC G x1 bv bq ++ LC G x2 v q ++ LC G x3 dv dq ++ LC G y v q)) 0 0 (va_A (HC G h0 h1 (nI 2) (x0 0) (x1 0) (x2 0) (x3 0) ++ LC G x0 av aq ++ LC G x1 bv bq ++ LC G x2 cv cq ++ LC G x3 dv dq ++ LC G y v q) sz) := by
  refine Met.walk (cc := cX1_push) (maxL := 2) (ret := none) (Qc := fun A => PV G A (fun _ : Unit => True) (fun _ : Unit => HC G h0 h1 (nI 3) (x0 0) (x1 0) (x2 0) (x3 0) ++ LC G x0 av aq ++ LC G x1 bv bq ++ LC G x2 v q ++ LC G x3 dv dq ++ LC G y v q)) (by decide) rfl (Nat.le_of_ble_eq_true rfl) ?_
  intro p e s m below meth c A H C0 _ hK hsz hP hD hA hS ls hl
  have hx := C0.1
  have hb := C0.2.1
  have hown : s.vm.findClass RX1 = some m.cls := C0.2.2.2.2.1
  have hml := C0.2.2.2.1
  have hts : ∀ w ∈ wsX1_push, w.before [.ref h0, .ref (y 0)].toArray s = true := C0.2.2.2.2.2.1
  have hl : lv_has ls 2 [(0, .ref h0), (1, .ref (y 0))] := hl
  refine lv_aload_n hx hb dX1_push_0 rfl (lv_at hl 0 rfl) ?_
  refine va_get (D := G.1) (ci := 1) (v := .int (nI 2)) (C := RX1) (T := TX1) (N := 2) hx hb hts in_X1_push_RX1 hown hK.1 hP 0 rfl rfl 1 (by decide) (hts _ k_X1_push_f18) (fun _ h9 => h9) rfl dX1_push_1 ?_
  refine lv_aload_n hx hb dX1_push_4 rfl (lv_at hl 0 rfl) ?_
  refine va_get (D := G.1) (ci := 1) (v := .ref h1) (C := RX1) (T := TX1) (N := 2) hx hb hts in_X1_push_RX1 hown hK.1 hP 0 rfl rfl 0 (by decide) (hts _ k_X1_push_f12) (fun _ h9 => h9) rfl dX1_push_5 ?_
  refine n_alen (n := 4) hx hb hK hP 1 4 rfl rfl dX1_push_8 ?_
  refine lv_icmp_lt (tgt := 16) hx hb dX1_push_9 (by decide) (fun c_1 => ?_) (fun c_1 => absurd (by decide +kernel) c_1)
  refine lv_aload_n hx hb dX1_push_16 rfl (lv_at hl 0 rfl) ?_
  refine va_get (D := G.1) (ci := 1) (v := .int (nI 2)) (C := RX1) (T := TX1) (N := 2) hx hb hts in_X1_push_RX1 hown hK.1 hP 0 rfl rfl 1 (by decide) (hts _ k_X1_push_f18) (fun _ h9 => h9) rfl dX1_push_17 ?_
  refine lv_if_lt (tgt := 58) hx hb dX1_push_20 (by decide) (fun c_2 => absurd c_2 (by decide +kernel)) (fun c_2 => ?_)
  refine lv_aload_n hx hb dX1_push_23 rfl (lv_at hl 0 rfl) ?_
  refine va_get (D := G.1) (ci := 1) (v := .int (nI 2)) (C := RX1) (T := TX1) (N := 2) hx hb hts in_X1_push_RX1 hown hK.1 hP 0 rfl rfl 1 (by decide) (hts _ k_X1_push_f18) (fun _ h9 => h9) rfl dX1_push_24 ?_
  refine lv_aload_n hx hb dX1_push_27 rfl (lv_at hl 0 rfl) ?_
  refine va_get (D := G.1) (ci := 1) (v := .ref h1) (C := RX1) (T := TX1) (N := 2) hx hb hts in_X1_push_RX1 hown hK.1 hP 0 rfl rfl 0 (by decide) (hts _ k_X1_push_f12) (fun _ h9 => h9) rfl dX1_push_28 ?_
  refine n_alen (n := 4) hx hb hK hP 1 4 rfl rfl dX1_push_31 ?_
  refine lv_icmp_ge (tgt := 58) hx hb dX1_push_32 (by decide) (fun c_3 => absurd c_3 (by decide +kernel)) (fun c_3 => ?_)
  refine lv_aload_n hx hb dX1_push_35 rfl (lv_at hl 0 rfl) ?_
  refine va_get (D := G.1) (ci := 1) (v := .ref h1) (C := RX1) (T := TX1) (N := 2) hx hb hts in_X1_push_RX1 hown hK.1 hP 0 rfl rfl 0 (by decide) (hts _ k_X1_push_f12) (fun _ h9 => h9) rfl dX1_push_36 ?_
  refine lv_aload_n hx hb dX1_push_39 rfl (lv_at hl 0 rfl) ?_
  refine va_get (D := G.1) (ci := 1) (v := .int (nI 2)) (C := RX1) (T := TX1) (N := 2) hx hb hts in_X1_push_RX1 hown hK.1 hP 0 rfl rfl 1 (by decide) (hts _ k_X1_push_f18) (fun _ h9 => h9) rfl dX1_push_40 ?_
  refine n_aald (j := 2) (v := .ref (x2 0)) (Cn := "SteamRations$Laundry") hx hb hK hP 1 4 rfl rfl (by decide) (by decide) rfl dX1_push_43 ?_
  refine lv_aload_n hx hb dX1_push_44 rfl (lv_at hl 1 rfl) ?_
  have hW : BW G A [HC G h0 h1 (nI 2) (x0 0) (x1 0) (x2 0) (x3 0), LC G x0 av aq, LC G x1 bv bq, LC G x2 cv cq, LC G x3 dv dq, LC G y v q] H := BW.of hP hD
  refine gcallB_V (bc := [LC G x2 cv cq, LC G y v q]) (runB_V (As := [.ref (y 0)]) (rest := []) (bc := [LC G x2 cv cq, LC G y v q]) C0 hK hW (c_X2_copyFrom l G x2 y cv cq v q H.size ) (cwV 1 hts gX1_push_X2_copyFrom rfl rfl rfl cd_X2_copyFrom ⟨Nat.le_of_ble_eq_true rfl, Nat.le_of_ble_eq_true rfl⟩) [3, 5] rfl rfl rfl 3 0 rfl (ci := 2) rfl rfl rfl rfl hl.1 rfl (Nat.le_of_ble_eq_true rfl) dX1_push_45 ⟨Nat.le_of_ble_eq_true rfl, Nat.le_of_ble_eq_true rfl⟩) hW hS hA [3, 5] rfl rfl rfl (fun u => [LC G x2 u.1 u.2, LC G y v q]) (fun _ => rfl) (fun _ => rfl) (fun u_4 H locs hw_4 hW hS => ?_)
  obtain ⟨hP, hD⟩ := hW.flat
  obtain ⟨v_c4, q_c4⟩ := u_4
  simp only [f_X2_copyFrom, Prod.mk.injEq] at hw_4
  obtain ⟨rfl, rfl⟩ := hw_4
  have hP : va_P G.1 vwCl (HC G h0 h1 (nI 2) (x0 0) (x1 0) (x2 0) (x3 0) ++ LC G x0 av aq ++ LC G x1 bv bq ++ LC G x2 v q ++ LC G x3 dv dq ++ LC G y v q) H := hP
  have hD : va_D A (HC G h0 h1 (nI 2) (x0 0) (x1 0) (x2 0) (x3 0) ++ LC G x0 av aq ++ LC G x1 bv bq ++ LC G x2 v q ++ LC G x3 dv dq ++ LC G y v q) := hD
  refine lv_aload_n hx hb dX1_push_48 rfl (lv_at hl 0 rfl) ?_
  refine lv_dup hx hb dX1_push_49 rfl ?_
  refine va_get (D := G.1) (ci := 1) (v := .int (nI 2)) (C := RX1) (T := TX1) (N := 2) hx hb hts in_X1_push_RX1 hown hK.1 hP 0 rfl rfl 1 (by decide) (hts _ k_X1_push_f18) (fun _ h9 => h9) rfl dX1_push_50 ?_
  refine lv_iconst (v := (nI 1)) hx hb dX1_push_53 (by decide) ?_
  refine n_iadd (i := 2) (j := 1) hx hb dX1_push_54 ?_
  refine W.eq (g2 := F0 m 55 ls ([.int (nI 3), .ref h0])) (by first | rfl | (simp only [F0]; congr 3; omega)) ?_
  refine va_put (D := G.1) (ci := 1) (v := .int (nI 3)) (ty := .int) (C := RX1) (T := TX1) (N := 2) hx hb hts in_X1_push_RX1 tyX1 tyX1_ok nmX1 hown hK.1 hP hD hS 0 rfl rfl 1 (by decide) (hts _ k_X1_push_f18) (fun _ h9 => h9) rfl (by decide +kernel) rfl rfl (Nat.le_of_ble_eq_true rfl) dX1_push_55 (fun H locs hP hD hS => ?_)
  have hP : va_P G.1 vwCl (HC G h0 h1 (nI 3) (x0 0) (x1 0) (x2 0) (x3 0) ++ LC G x0 av aq ++ LC G x1 bv bq ++ LC G x2 v q ++ LC G x3 dv dq ++ LC G y v q) H := hP
  have hD : va_D A (HC G h0 h1 (nI 3) (x0 0) (x1 0) (x2 0) (x3 0) ++ LC G x0 av aq ++ LC G x1 bv bq ++ LC G x2 v q ++ LC G x3 dv dq ++ LC G y v q) := hD
  exact end_V C0 hP hD hS () trivial rfl dX1_push_58


set_option maxHeartbeats 4000000 in
set_option maxRecDepth 100000 in
theorem c_X1_push_3 (l : Launch) (G : GG) (h0 : Nat) (h1 : Nat) (x0 : Nat → Nat) (x1 : Nat → Nat) (x2 : Nat → Nat) (x3 : Nat → Nat) (y : Nat → Nat) (av : (Nat → Int32)) (aq : (Nat → Int32)) (bv : (Nat → Int32)) (bq : (Nat → Int32)) (cv : (Nat → Int32)) (cq : (Nat → Int32)) (dv : (Nat → Int32)) (dq : (Nat → Int32)) (v : (Nat → Int32)) (q : (Nat → Int32)) (sz : Nat)   : Met l yX1_push wsX1_push ({ frames := 2, cells := 0, slots := 0, locals := 44 }) (Pre G [.ref h0, .ref (y 0)] (HC G h0 h1 (nI 3) (x0 0) (x1 0) (x2 0) (x3 0) ++ LC G x0 av aq ++ LC G x1 bv bq ++ LC G x2 cv cq ++ LC G x3 dv dq ++ LC G y v q) sz) (PV G (va_A (HC G h0 h1 (nI 3) (x0 0) (x1 0) (x2 0) (x3 0) ++ LC G x0 av aq ++ LC G x1 bv bq ++ LC G x2 cv cq ++ LC G x3 dv dq ++ LC G y v q) sz) (fun _ : Unit => True) (fun _ : Unit => HC G h0 h1 (nI 4) (x0 0) (x1 0) (x2 0) (x3 0) ++ LC G x0 av aq ++ LC G x1 bv bq ++ LC G x2 cv cq ++ LC G x3 v q ++ LC G y v q)) 0 0 (va_A (HC G h0 h1 (nI 3) (x0 0) (x1 0) (x2 0) (x3 0) ++ LC G x0 av aq ++ LC G x1 bv bq ++ LC G x2 cv cq ++ LC G x3 dv dq ++ LC G y v q) sz) := by
  refine Met.walk (cc := cX1_push) (maxL := 2) (ret := none) (Qc := fun A => PV G A (fun _ : Unit => True) (fun _ : Unit => HC G h0 h1 (nI 4) (x0 0) (x1 0) (x2 0) (x3 0) ++ LC G x0 av aq ++ LC G x1 bv bq ++ LC G x2 cv cq ++ LC G x3 v q ++ LC G y v q)) (by decide) rfl (Nat.le_of_ble_eq_true rfl) ?_
  intro p e s m below meth c A H C0 _ hK hsz hP hD hA hS ls hl
  have hx := C0.1
  have hb := C0.2.1
  have hown : s.vm.findClass RX1 = some m.cls := C0.2.2.2.2.1
  have hml := C0.2.2.2.1
  have hts : ∀ w ∈ wsX1_push, w.before [.ref h0, .ref (y 0)].toArray s = true := C0.2.2.2.2.2.1
  have hl : lv_has ls 2 [(0, .ref h0), (1, .ref (y 0))] := hl
  refine lv_aload_n hx hb dX1_push_0 rfl (lv_at hl 0 rfl) ?_
  refine va_get (D := G.1) (ci := 1) (v := .int (nI 3)) (C := RX1) (T := TX1) (N := 2) hx hb hts in_X1_push_RX1 hown hK.1 hP 0 rfl rfl 1 (by decide) (hts _ k_X1_push_f18) (fun _ h9 => h9) rfl dX1_push_1 ?_
  refine lv_aload_n hx hb dX1_push_4 rfl (lv_at hl 0 rfl) ?_
  refine va_get (D := G.1) (ci := 1) (v := .ref h1) (C := RX1) (T := TX1) (N := 2) hx hb hts in_X1_push_RX1 hown hK.1 hP 0 rfl rfl 0 (by decide) (hts _ k_X1_push_f12) (fun _ h9 => h9) rfl dX1_push_5 ?_
  refine n_alen (n := 4) hx hb hK hP 1 4 rfl rfl dX1_push_8 ?_
  refine lv_icmp_lt (tgt := 16) hx hb dX1_push_9 (by decide) (fun c_1 => ?_) (fun c_1 => absurd (by decide +kernel) c_1)
  refine lv_aload_n hx hb dX1_push_16 rfl (lv_at hl 0 rfl) ?_
  refine va_get (D := G.1) (ci := 1) (v := .int (nI 3)) (C := RX1) (T := TX1) (N := 2) hx hb hts in_X1_push_RX1 hown hK.1 hP 0 rfl rfl 1 (by decide) (hts _ k_X1_push_f18) (fun _ h9 => h9) rfl dX1_push_17 ?_
  refine lv_if_lt (tgt := 58) hx hb dX1_push_20 (by decide) (fun c_2 => absurd c_2 (by decide +kernel)) (fun c_2 => ?_)
  refine lv_aload_n hx hb dX1_push_23 rfl (lv_at hl 0 rfl) ?_
  refine va_get (D := G.1) (ci := 1) (v := .int (nI 3)) (C := RX1) (T := TX1) (N := 2) hx hb hts in_X1_push_RX1 hown hK.1 hP 0 rfl rfl 1 (by decide) (hts _ k_X1_push_f18) (fun _ h9 => h9) rfl dX1_push_24 ?_
  refine lv_aload_n hx hb dX1_push_27 rfl (lv_at hl 0 rfl) ?_
  refine va_get (D := G.1) (ci := 1) (v := .ref h1) (C := RX1) (T := TX1) (N := 2) hx hb hts in_X1_push_RX1 hown hK.1 hP 0 rfl rfl 0 (by decide) (hts _ k_X1_push_f12) (fun _ h9 => h9) rfl dX1_push_28 ?_
  refine n_alen (n := 4) hx hb hK hP 1 4 rfl rfl dX1_push_31 ?_
  refine lv_icmp_ge (tgt := 58) hx hb dX1_push_32 (by decide) (fun c_3 => absurd c_3 (by decide +kernel)) (fun c_3 => ?_)
  refine lv_aload_n hx hb dX1_push_35 rfl (lv_at hl 0 rfl) ?_
  refine va_get (D := G.1) (ci := 1) (v := .ref h1) (C := RX1) (T := TX1) (N := 2) hx hb hts in_X1_push_RX1 hown hK.1 hP 0 rfl rfl 0 (by decide) (hts _ k_X1_push_f12) (fun _ h9 => h9) rfl dX1_push_36 ?_
  refine lv_aload_n hx hb dX1_push_39 rfl (lv_at hl 0 rfl) ?_
  refine va_get (D := G.1) (ci := 1) (v := .int (nI 3)) (C := RX1) (T := TX1) (N := 2) hx hb hts in_X1_push_RX1 hown hK.1 hP 0 rfl rfl 1 (by decide) (hts _ k_X1_push_f18) (fun _ h9 => h9) rfl dX1_push_40 ?_
  refine n_aald (j := 3) (v := .ref (x3 0)) (Cn := "SteamRations$Laundry") hx hb hK hP 1 4 rfl rfl (by decide) (by decide) rfl dX1_push_43 ?_
  refine lv_aload_n hx hb dX1_push_44 rfl (lv_at hl 1 rfl) ?_
  have hW : BW G A [HC G h0 h1 (nI 3) (x0 0) (x1 0) (x2 0) (x3 0), LC G x0 av aq, LC G x1 bv bq, LC G x2 cv cq, LC G x3 dv dq, LC G y v q] H := BW.of hP hD
  refine gcallB_V (bc := [LC G x3 dv dq, LC G y v q]) (runB_V (As := [.ref (y 0)]) (rest := []) (bc := [LC G x3 dv dq, LC G y v q]) C0 hK hW (c_X2_copyFrom l G x3 y dv dq v q H.size ) (cwV 1 hts gX1_push_X2_copyFrom rfl rfl rfl cd_X2_copyFrom ⟨Nat.le_of_ble_eq_true rfl, Nat.le_of_ble_eq_true rfl⟩) [4, 5] rfl rfl rfl 4 0 rfl (ci := 2) rfl rfl rfl rfl hl.1 rfl (Nat.le_of_ble_eq_true rfl) dX1_push_45 ⟨Nat.le_of_ble_eq_true rfl, Nat.le_of_ble_eq_true rfl⟩) hW hS hA [4, 5] rfl rfl rfl (fun u => [LC G x3 u.1 u.2, LC G y v q]) (fun _ => rfl) (fun _ => rfl) (fun u_4 H locs hw_4 hW hS => ?_)
  obtain ⟨hP, hD⟩ := hW.flat
  obtain ⟨v_c4, q_c4⟩ := u_4
  simp only [f_X2_copyFrom, Prod.mk.injEq] at hw_4
  obtain ⟨rfl, rfl⟩ := hw_4
  have hP : va_P G.1 vwCl (HC G h0 h1 (nI 3) (x0 0) (x1 0) (x2 0) (x3 0) ++ LC G x0 av aq ++ LC G x1 bv bq ++ LC G x2 cv cq ++ LC G x3 v q ++ LC G y v q) H := hP
  have hD : va_D A (HC G h0 h1 (nI 3) (x0 0) (x1 0) (x2 0) (x3 0) ++ LC G x0 av aq ++ LC G x1 bv bq ++ LC G x2 cv cq ++ LC G x3 v q ++ LC G y v q) := hD
  refine lv_aload_n hx hb dX1_push_48 rfl (lv_at hl 0 rfl) ?_
  refine lv_dup hx hb dX1_push_49 rfl ?_
  refine va_get (D := G.1) (ci := 1) (v := .int (nI 3)) (C := RX1) (T := TX1) (N := 2) hx hb hts in_X1_push_RX1 hown hK.1 hP 0 rfl rfl 1 (by decide) (hts _ k_X1_push_f18) (fun _ h9 => h9) rfl dX1_push_50 ?_
  refine lv_iconst (v := (nI 1)) hx hb dX1_push_53 (by decide) ?_
  refine n_iadd (i := 3) (j := 1) hx hb dX1_push_54 ?_
  refine W.eq (g2 := F0 m 55 ls ([.int (nI 4), .ref h0])) (by first | rfl | (simp only [F0]; congr 3; omega)) ?_
  refine va_put (D := G.1) (ci := 1) (v := .int (nI 4)) (ty := .int) (C := RX1) (T := TX1) (N := 2) hx hb hts in_X1_push_RX1 tyX1 tyX1_ok nmX1 hown hK.1 hP hD hS 0 rfl rfl 1 (by decide) (hts _ k_X1_push_f18) (fun _ h9 => h9) rfl (by decide +kernel) rfl rfl (Nat.le_of_ble_eq_true rfl) dX1_push_55 (fun H locs hP hD hS => ?_)
  have hP : va_P G.1 vwCl (HC G h0 h1 (nI 4) (x0 0) (x1 0) (x2 0) (x3 0) ++ LC G x0 av aq ++ LC G x1 bv bq ++ LC G x2 cv cq ++ LC G x3 v q ++ LC G y v q) H := hP
  have hD : va_D A (HC G h0 h1 (nI 4) (x0 0) (x1 0) (x2 0) (x3 0) ++ LC G x0 av aq ++ LC G x1 bv bq ++ LC G x2 cv cq ++ LC G x3 v q ++ LC G y v q) := hD
  exact end_V C0 hP hD hS () trivial rfl dX1_push_58


set_option maxHeartbeats 4000000 in
set_option maxRecDepth 100000 in
theorem c_X1_push_4 (l : Launch) (G : GG) (h0 : Nat) (h1 : Nat) (x0 : Nat → Nat) (x1 : Nat → Nat) (x2 : Nat → Nat) (x3 : Nat → Nat) (y : Nat → Nat) (av : (Nat → Int32)) (aq : (Nat → Int32)) (bv : (Nat → Int32)) (bq : (Nat → Int32)) (cv : (Nat → Int32)) (cq : (Nat → Int32)) (dv : (Nat → Int32)) (dq : (Nat → Int32)) (v : (Nat → Int32)) (q : (Nat → Int32)) (sz : Nat)   : Met l yX1_push wsX1_push ({ frames := 2, cells := 0, slots := 0, locals := 44 }) (Pre G [.ref h0, .ref (y 0)] (HC G h0 h1 (nI 4) (x0 0) (x1 0) (x2 0) (x3 0) ++ LC G x0 av aq ++ LC G x1 bv bq ++ LC G x2 cv cq ++ LC G x3 dv dq ++ LC G y v q) sz) (PV G (va_A (HC G h0 h1 (nI 4) (x0 0) (x1 0) (x2 0) (x3 0) ++ LC G x0 av aq ++ LC G x1 bv bq ++ LC G x2 cv cq ++ LC G x3 dv dq ++ LC G y v q) sz) (fun _ : Unit => True) (fun _ : Unit => HC G h0 h1 (nI 4) (x1 0) (x2 0) (x3 0) (x0 0) ++ LC G x1 bv bq ++ LC G x2 cv cq ++ LC G x3 dv dq ++ LC G x0 v q ++ LC G y v q)) 0 0 (va_A (HC G h0 h1 (nI 4) (x0 0) (x1 0) (x2 0) (x3 0) ++ LC G x0 av aq ++ LC G x1 bv bq ++ LC G x2 cv cq ++ LC G x3 dv dq ++ LC G y v q) sz) := by
  refine Met.walk (cc := cX1_push) (maxL := 2) (ret := none) (Qc := fun A => PV G A (fun _ : Unit => True) (fun _ : Unit => HC G h0 h1 (nI 4) (x1 0) (x2 0) (x3 0) (x0 0) ++ LC G x1 bv bq ++ LC G x2 cv cq ++ LC G x3 dv dq ++ LC G x0 v q ++ LC G y v q)) (by decide) rfl (Nat.le_of_ble_eq_true rfl) ?_
  intro p e s m below meth c A H C0 _ hK hsz hP hD hA hS ls hl
  have hx := C0.1
  have hb := C0.2.1
  have hown : s.vm.findClass RX1 = some m.cls := C0.2.2.2.2.1
  have hml := C0.2.2.2.1
  have hts : ∀ w ∈ wsX1_push, w.before [.ref h0, .ref (y 0)].toArray s = true := C0.2.2.2.2.2.1
  have hl : lv_has ls 2 [(0, .ref h0), (1, .ref (y 0))] := hl
  refine lv_aload_n hx hb dX1_push_0 rfl (lv_at hl 0 rfl) ?_
  refine va_get (D := G.1) (ci := 1) (v := .int (nI 4)) (C := RX1) (T := TX1) (N := 2) hx hb hts in_X1_push_RX1 hown hK.1 hP 0 rfl rfl 1 (by decide) (hts _ k_X1_push_f18) (fun _ h9 => h9) rfl dX1_push_1 ?_
  refine lv_aload_n hx hb dX1_push_4 rfl (lv_at hl 0 rfl) ?_
  refine va_get (D := G.1) (ci := 1) (v := .ref h1) (C := RX1) (T := TX1) (N := 2) hx hb hts in_X1_push_RX1 hown hK.1 hP 0 rfl rfl 0 (by decide) (hts _ k_X1_push_f12) (fun _ h9 => h9) rfl dX1_push_5 ?_
  refine n_alen (n := 4) hx hb hK hP 1 4 rfl rfl dX1_push_8 ?_
  refine lv_icmp_lt (tgt := 16) hx hb dX1_push_9 (by decide) (fun c_1 => absurd c_1 (by decide +kernel)) (fun c_1 => ?_)
  refine lv_aload_n hx hb dX1_push_12 rfl (lv_at hl 0 rfl) ?_
  refine gcall_V (run_V (As := []) (rest := []) C0 hK hP hD (c_X1_dropOldest l G h0 h1 (x0 0) (x1 0) (x2 0) (x3 0) ([.ref (x0 1), .ref (x0 4), .ref (x0 9), .int (av 12), .int (av 41), .int (av 42), .int (av 38), .int (av 10), .int (av 11), .int (av 39), .int (av 40), .int (av 43), .int (av 44), .int (av 45)]) ([.ref (x1 1), .ref (x1 4), .ref (x1 9), .int (bv 12), .int (bv 41), .int (bv 42), .int (bv 38), .int (bv 10), .int (bv 11), .int (bv 39), .int (bv 40), .int (bv 43), .int (bv 44), .int (bv 45)]) ([.ref (x2 1), .ref (x2 4), .ref (x2 9), .int (cv 12), .int (cv 41), .int (cv 42), .int (cv 38), .int (cv 10), .int (cv 11), .int (cv 39), .int (cv 40), .int (cv 43), .int (cv 44), .int (cv 45)]) ([.ref (x3 1), .ref (x3 4), .ref (x3 9), .int (dv 12), .int (dv 41), .int (dv 42), .int (dv 38), .int (dv 10), .int (dv 11), .int (dv 39), .int (dv 40), .int (dv 43), .int (dv 44), .int (dv 45)]) H.size ) (cwV 0 hts gX1_push_X1_dropOldest rfl rfl rfl cd_X1_dropOldest ⟨Nat.le_of_ble_eq_true rfl, Nat.le_of_ble_eq_true rfl⟩) [0, 1, 2, 13, 24, 35] rfl rfl 0 (ci := 1) rfl rfl rfl rfl hl.1 rfl (Nat.le_of_ble_eq_true rfl) dX1_push_13 ⟨Nat.le_of_ble_eq_true rfl, Nat.le_of_ble_eq_true rfl⟩) hP hD hS hA [0, 1, 2, 13, 24, 35] rfl rfl (fun _ => rfl) (fun _ H locs hw_2 hP hD hS => ?_)
  have hP : va_P G.1 vwCl (HC G h0 h1 (nI 3) (x1 0) (x2 0) (x3 0) (x0 0) ++ LC G x0 av aq ++ LC G x1 bv bq ++ LC G x2 cv cq ++ LC G x3 dv dq ++ LC G y v q) H := hP
  have hD : va_D A (HC G h0 h1 (nI 3) (x1 0) (x2 0) (x3 0) (x0 0) ++ LC G x0 av aq ++ LC G x1 bv bq ++ LC G x2 cv cq ++ LC G x3 dv dq ++ LC G y v q) := hD
  refine lv_aload_n hx hb dX1_push_16 rfl (lv_at hl 0 rfl) ?_
  refine va_get (D := G.1) (ci := 1) (v := .int (nI 3)) (C := RX1) (T := TX1) (N := 2) hx hb hts in_X1_push_RX1 hown hK.1 hP 0 rfl rfl 1 (by decide) (hts _ k_X1_push_f18) (fun _ h9 => h9) rfl dX1_push_17 ?_
  refine lv_if_lt (tgt := 58) hx hb dX1_push_20 (by decide) (fun c_3 => absurd c_3 (by decide +kernel)) (fun c_3 => ?_)
  refine lv_aload_n hx hb dX1_push_23 rfl (lv_at hl 0 rfl) ?_
  refine va_get (D := G.1) (ci := 1) (v := .int (nI 3)) (C := RX1) (T := TX1) (N := 2) hx hb hts in_X1_push_RX1 hown hK.1 hP 0 rfl rfl 1 (by decide) (hts _ k_X1_push_f18) (fun _ h9 => h9) rfl dX1_push_24 ?_
  refine lv_aload_n hx hb dX1_push_27 rfl (lv_at hl 0 rfl) ?_
  refine va_get (D := G.1) (ci := 1) (v := .ref h1) (C := RX1) (T := TX1) (N := 2) hx hb hts in_X1_push_RX1 hown hK.1 hP 0 rfl rfl 0 (by decide) (hts _ k_X1_push_f12) (fun _ h9 => h9) rfl dX1_push_28 ?_
  refine n_alen (n := 4) hx hb hK hP 1 4 rfl rfl dX1_push_31 ?_
  refine lv_icmp_ge (tgt := 58) hx hb dX1_push_32 (by decide) (fun c_4 => absurd c_4 (by decide +kernel)) (fun c_4 => ?_)
  refine lv_aload_n hx hb dX1_push_35 rfl (lv_at hl 0 rfl) ?_
  refine va_get (D := G.1) (ci := 1) (v := .ref h1) (C := RX1) (T := TX1) (N := 2) hx hb hts in_X1_push_RX1 hown hK.1 hP 0 rfl rfl 0 (by decide) (hts _ k_X1_push_f12) (fun _ h9 => h9) rfl dX1_push_36 ?_
  refine lv_aload_n hx hb dX1_push_39 rfl (lv_at hl 0 rfl) ?_
  refine va_get (D := G.1) (ci := 1) (v := .int (nI 3)) (C := RX1) (T := TX1) (N := 2) hx hb hts in_X1_push_RX1 hown hK.1 hP 0 rfl rfl 1 (by decide) (hts _ k_X1_push_f18) (fun _ h9 => h9) rfl dX1_push_40 ?_
  refine n_aald (j := 3) (v := .ref (x0 0)) (Cn := "SteamRations$Laundry") hx hb hK hP 1 4 rfl rfl (by decide) (by decide) rfl dX1_push_43 ?_
  refine lv_aload_n hx hb dX1_push_44 rfl (lv_at hl 1 rfl) ?_
  have hW : BW G A [HC G h0 h1 (nI 3) (x1 0) (x2 0) (x3 0) (x0 0), LC G x0 av aq, LC G x1 bv bq, LC G x2 cv cq, LC G x3 dv dq, LC G y v q] H := BW.of hP hD
  refine gcallB_V (bc := [LC G x0 av aq, LC G y v q]) (runB_V (As := [.ref (y 0)]) (rest := []) (bc := [LC G x0 av aq, LC G y v q]) C0 hK hW (c_X2_copyFrom l G x0 y av aq v q H.size ) (cwV 1 hts gX1_push_X2_copyFrom rfl rfl rfl cd_X2_copyFrom ⟨Nat.le_of_ble_eq_true rfl, Nat.le_of_ble_eq_true rfl⟩) [1, 5] rfl rfl rfl 1 0 rfl (ci := 2) rfl rfl rfl rfl hl.1 rfl (Nat.le_of_ble_eq_true rfl) dX1_push_45 ⟨Nat.le_of_ble_eq_true rfl, Nat.le_of_ble_eq_true rfl⟩) hW hS hA [1, 5] rfl rfl rfl (fun u => [LC G x0 u.1 u.2, LC G y v q]) (fun _ => rfl) (fun _ => rfl) (fun u_5 H locs hw_5 hW hS => ?_)
  obtain ⟨hP, hD⟩ := hW.flat
  obtain ⟨v_c5, q_c5⟩ := u_5
  simp only [f_X2_copyFrom, Prod.mk.injEq] at hw_5
  obtain ⟨rfl, rfl⟩ := hw_5
  have hP : va_P G.1 vwCl (HC G h0 h1 (nI 3) (x1 0) (x2 0) (x3 0) (x0 0) ++ LC G x0 v q ++ LC G x1 bv bq ++ LC G x2 cv cq ++ LC G x3 dv dq ++ LC G y v q) H := hP
  have hD : va_D A (HC G h0 h1 (nI 3) (x1 0) (x2 0) (x3 0) (x0 0) ++ LC G x0 v q ++ LC G x1 bv bq ++ LC G x2 cv cq ++ LC G x3 dv dq ++ LC G y v q) := hD
  refine lv_aload_n hx hb dX1_push_48 rfl (lv_at hl 0 rfl) ?_
  refine lv_dup hx hb dX1_push_49 rfl ?_
  refine va_get (D := G.1) (ci := 1) (v := .int (nI 3)) (C := RX1) (T := TX1) (N := 2) hx hb hts in_X1_push_RX1 hown hK.1 hP 0 rfl rfl 1 (by decide) (hts _ k_X1_push_f18) (fun _ h9 => h9) rfl dX1_push_50 ?_
  refine lv_iconst (v := (nI 1)) hx hb dX1_push_53 (by decide) ?_
  refine n_iadd (i := 3) (j := 1) hx hb dX1_push_54 ?_
  refine W.eq (g2 := F0 m 55 ls ([.int (nI 4), .ref h0])) (by first | rfl | (simp only [F0]; congr 3; omega)) ?_
  refine va_put (D := G.1) (ci := 1) (v := .int (nI 4)) (ty := .int) (C := RX1) (T := TX1) (N := 2) hx hb hts in_X1_push_RX1 tyX1 tyX1_ok nmX1 hown hK.1 hP hD hS 0 rfl rfl 1 (by decide) (hts _ k_X1_push_f18) (fun _ h9 => h9) rfl (by decide +kernel) rfl rfl (Nat.le_of_ble_eq_true rfl) dX1_push_55 (fun H locs hP hD hS => ?_)
  have hP : va_P G.1 vwCl (HC G h0 h1 (nI 4) (x1 0) (x2 0) (x3 0) (x0 0) ++ LC G x0 v q ++ LC G x1 bv bq ++ LC G x2 cv cq ++ LC G x3 dv dq ++ LC G y v q) H := hP
  have hD : va_D A (HC G h0 h1 (nI 4) (x1 0) (x2 0) (x3 0) (x0 0) ++ LC G x0 v q ++ LC G x1 bv bq ++ LC G x2 cv cq ++ LC G x3 dv dq ++ LC G y v q) := hD
  have hP : va_P G.1 vwCl (HC G h0 h1 (nI 4) (x1 0) (x2 0) (x3 0) (x0 0) ++ LC G x1 bv bq ++ LC G x2 cv cq ++ LC G x3 dv dq ++ LC G x0 v q ++ LC G y v q) H := hP.sub [0, 1, 13, 14, 15, 16, 17, 18, 19, 20, 21, 22, 23, 24, 25, 26, 27, 28, 29, 30, 31, 32, 33, 34, 35, 36, 37, 38, 39, 40, 41, 42, 43, 44, 45, 2, 3, 4, 5, 6, 7, 8, 9, 10, 11, 12, 46, 47, 48, 49, 50, 51, 52, 53, 54, 55, 56] rfl
  have hD : va_D A (HC G h0 h1 (nI 4) (x1 0) (x2 0) (x3 0) (x0 0) ++ LC G x1 bv bq ++ LC G x2 cv cq ++ LC G x3 dv dq ++ LC G x0 v q ++ LC G y v q) := hD.sub [0, 1, 13, 14, 15, 16, 17, 18, 19, 20, 21, 22, 23, 24, 25, 26, 27, 28, 29, 30, 31, 32, 33, 34, 35, 36, 37, 38, 39, 40, 41, 42, 43, 44, 45, 2, 3, 4, 5, 6, 7, 8, 9, 10, 11, 12, 46, 47, 48, 49, 50, 51, 52, 53, 54, 55, 56] (by decide) rfl
  exact end_V C0 hP hD hS () trivial rfl dX1_push_58


set_option maxRecDepth 20000 in
theorem k_X1_takeBack_f18 : Cond.fieldLink RX1 18 "SteamRations$History" "size" "I" ∈ wsX1_takeBack := by decide +kernel
set_option maxRecDepth 20000 in
theorem in_X1_takeBack_RX1 : ∀ w ∈ u_ws RX1 TX1 2, w ∈ wsX1_takeBack := by decide +kernel
theorem cd_X1_takeBack : yX1_takeBack.cls = RX1 ∧ yX1_takeBack.cls ≠ "java/lang/invoke/MethodHandle" ∧ yX1_takeBack.cls ≠ "java/lang/invoke/VarHandle" ∧ (parseMethodDescriptor yX1_takeBack.desc).map (fun d => d.parameters.length) = some 1 := by decide +kernel
set_option maxHeartbeats 4000000 in
set_option maxRecDepth 100000 in
theorem c_X1_takeBack_0 (l : Launch) (G : GG) (h0 : Nat) (h1 : Nat) (x0 : Nat → Nat) (x1 : Nat → Nat) (x2 : Nat → Nat) (x3 : Nat → Nat) (y : Nat → Nat) (av : (Nat → Int32)) (aq : (Nat → Int32)) (bv : (Nat → Int32)) (bq : (Nat → Int32)) (cv : (Nat → Int32)) (cq : (Nat → Int32)) (dv : (Nat → Int32)) (dq : (Nat → Int32)) (v : (Nat → Int32)) (q : (Nat → Int32)) (sz : Nat)   : Met l yX1_takeBack wsX1_takeBack ({ frames := 2, cells := 0, slots := 0, locals := 44 }) (Pre G [.ref h0, .ref (y 0)] (HC G h0 h1 (nI 0) (x0 0) (x1 0) (x2 0) (x3 0) ++ LC G x0 av aq ++ LC G x1 bv bq ++ LC G x2 cv cq ++ LC G x3 dv dq ++ LC G y v q) sz) (PI G (va_A (HC G h0 h1 (nI 0) (x0 0) (x1 0) (x2 0) (x3 0) ++ LC G x0 av aq ++ LC G x1 bv bq ++ LC G x2 cv cq ++ LC G x3 dv dq ++ LC G y v q) sz) (fun r (_ : Unit) => r = (-5)) (fun _ : Unit => HC G h0 h1 (nI 0) (x0 0) (x1 0) (x2 0) (x3 0) ++ LC G x0 av aq ++ LC G x1 bv bq ++ LC G x2 cv cq ++ LC G x3 dv dq ++ LC G y v q)) 0 0 (va_A (HC G h0 h1 (nI 0) (x0 0) (x1 0) (x2 0) (x3 0) ++ LC G x0 av aq ++ LC G x1 bv bq ++ LC G x2 cv cq ++ LC G x3 dv dq ++ LC G y v q) sz) := by
  refine Met.walk (cc := cX1_takeBack) (maxL := 2) (ret := (some .int)) (Qc := fun A => PI G A (fun r (_ : Unit) => r = (-5)) (fun _ : Unit => HC G h0 h1 (nI 0) (x0 0) (x1 0) (x2 0) (x3 0) ++ LC G x0 av aq ++ LC G x1 bv bq ++ LC G x2 cv cq ++ LC G x3 dv dq ++ LC G y v q)) (by decide) rfl (Nat.le_of_ble_eq_true rfl) ?_
  intro p e s m below meth c A H C0 _ hK hsz hP hD hA hS ls hl
  have hx := C0.1
  have hb := C0.2.1
  have hown : s.vm.findClass RX1 = some m.cls := C0.2.2.2.2.1
  have hml := C0.2.2.2.1
  have hts : ∀ w ∈ wsX1_takeBack, w.before [.ref h0, .ref (y 0)].toArray s = true := C0.2.2.2.2.2.1
  have hl : lv_has ls 2 [(0, .ref h0), (1, .ref (y 0))] := hl
  refine lv_aload_n hx hb dX1_takeBack_0 rfl (lv_at hl 0 rfl) ?_
  refine va_get (D := G.1) (ci := 1) (v := .int (nI 0)) (C := RX1) (T := TX1) (N := 2) hx hb hts in_X1_takeBack_RX1 hown hK.1 hP 0 rfl rfl 1 (by decide) (hts _ k_X1_takeBack_f18) (fun _ h9 => h9) rfl dX1_takeBack_1 ?_
  refine lv_iconst (v := (nI 1)) hx hb dX1_takeBack_4 (by decide) ?_
  refine lv_icmp_lt (tgt := 20) hx hb dX1_takeBack_5 (by decide) (fun c_1 => ?_) (fun c_1 => absurd (by decide +kernel) c_1)
  refine lv_bipush (v := (-5)) hx hb dX1_takeBack_20 (by decide) ?_
  exact end_I C0 hP hD hS () rfl rfl dX1_takeBack_22


set_option maxRecDepth 20000 in
theorem k_X1_takeBack_f12 : Cond.fieldLink RX1 12 "SteamRations$History" "states" "[LSteamRations$Laundry;" ∈ wsX1_takeBack := by decide +kernel
set_option maxHeartbeats 4000000 in
set_option maxRecDepth 100000 in
theorem c_X1_takeBack_1 (l : Launch) (G : GG) (h0 : Nat) (h1 : Nat) (x0 : Nat → Nat) (x1 : Nat → Nat) (x2 : Nat → Nat) (x3 : Nat → Nat) (y : Nat → Nat) (av : (Nat → Int32)) (aq : (Nat → Int32)) (bv : (Nat → Int32)) (bq : (Nat → Int32)) (cv : (Nat → Int32)) (cq : (Nat → Int32)) (dv : (Nat → Int32)) (dq : (Nat → Int32)) (v : (Nat → Int32)) (q : (Nat → Int32)) (sz : Nat)   : Met l yX1_takeBack wsX1_takeBack ({ frames := 2, cells := 0, slots := 0, locals := 44 }) (Pre G [.ref h0, .ref (y 0)] (HC G h0 h1 (nI 1) (x0 0) (x1 0) (x2 0) (x3 0) ++ LC G x0 av aq ++ LC G x1 bv bq ++ LC G x2 cv cq ++ LC G x3 dv dq ++ LC G y v q) sz) (PI G (va_A (HC G h0 h1 (nI 1) (x0 0) (x1 0) (x2 0) (x3 0) ++ LC G x0 av aq ++ LC G x1 bv bq ++ LC G x2 cv cq ++ LC G x3 dv dq ++ LC G y v q) sz) (fun r (_ : Unit) => r = (nI 0)) (fun _ : Unit => HC G h0 h1 (nI 0) (x0 0) (x1 0) (x2 0) (x3 0) ++ LC G x0 av aq ++ LC G x1 bv bq ++ LC G x2 cv cq ++ LC G x3 dv dq ++ LC G y av aq)) 0 0 (va_A (HC G h0 h1 (nI 1) (x0 0) (x1 0) (x2 0) (x3 0) ++ LC G x0 av aq ++ LC G x1 bv bq ++ LC G x2 cv cq ++ LC G x3 dv dq ++ LC G y v q) sz) := by
  refine Met.walk (cc := cX1_takeBack) (maxL := 2) (ret := (some .int)) (Qc := fun A => PI G A (fun r (_ : Unit) => r = (nI 0)) (fun _ : Unit => HC G h0 h1 (nI 0) (x0 0) (x1 0) (x2 0) (x3 0) ++ LC G x0 av aq ++ LC G x1 bv bq ++ LC G x2 cv cq ++ LC G x3 dv dq ++ LC G y av aq)) (by decide) rfl (Nat.le_of_ble_eq_true rfl) ?_
  intro p e s m below meth c A H C0 _ hK hsz hP hD hA hS ls hl
  have hx := C0.1
  have hb := C0.2.1
  have hown : s.vm.findClass RX1 = some m.cls := C0.2.2.2.2.1
  have hml := C0.2.2.2.1
  have hts : ∀ w ∈ wsX1_takeBack, w.before [.ref h0, .ref (y 0)].toArray s = true := C0.2.2.2.2.2.1
  have hl : lv_has ls 2 [(0, .ref h0), (1, .ref (y 0))] := hl
  refine lv_aload_n hx hb dX1_takeBack_0 rfl (lv_at hl 0 rfl) ?_
  refine va_get (D := G.1) (ci := 1) (v := .int (nI 1)) (C := RX1) (T := TX1) (N := 2) hx hb hts in_X1_takeBack_RX1 hown hK.1 hP 0 rfl rfl 1 (by decide) (hts _ k_X1_takeBack_f18) (fun _ h9 => h9) rfl dX1_takeBack_1 ?_
  refine lv_iconst (v := (nI 1)) hx hb dX1_takeBack_4 (by decide) ?_
  refine lv_icmp_lt (tgt := 20) hx hb dX1_takeBack_5 (by decide) (fun c_1 => absurd c_1 (by decide +kernel)) (fun c_1 => ?_)
  refine lv_aload_n hx hb dX1_takeBack_8 rfl (lv_at hl 0 rfl) ?_
  refine va_get (D := G.1) (ci := 1) (v := .int (nI 1)) (C := RX1) (T := TX1) (N := 2) hx hb hts in_X1_takeBack_RX1 hown hK.1 hP 0 rfl rfl 1 (by decide) (hts _ k_X1_takeBack_f18) (fun _ h9 => h9) rfl dX1_takeBack_9 ?_
  refine lv_aload_n hx hb dX1_takeBack_12 rfl (lv_at hl 0 rfl) ?_
  refine va_get (D := G.1) (ci := 1) (v := .ref h1) (C := RX1) (T := TX1) (N := 2) hx hb hts in_X1_takeBack_RX1 hown hK.1 hP 0 rfl rfl 0 (by decide) (hts _ k_X1_takeBack_f12) (fun _ h9 => h9) rfl dX1_takeBack_13 ?_
  refine n_alen (n := 4) hx hb hK hP 1 4 rfl rfl dX1_takeBack_16 ?_
  refine lv_icmp_le (tgt := 23) hx hb dX1_takeBack_17 (by decide) (fun c_2 => ?_) (fun c_2 => absurd (by decide +kernel) c_2)
  refine lv_aload_n hx hb dX1_takeBack_23 rfl (lv_at hl 0 rfl) ?_
  refine lv_dup hx hb dX1_takeBack_24 rfl ?_
  refine va_get (D := G.1) (ci := 1) (v := .int (nI 1)) (C := RX1) (T := TX1) (N := 2) hx hb hts in_X1_takeBack_RX1 hown hK.1 hP 0 rfl rfl 1 (by decide) (hts _ k_X1_takeBack_f18) (fun _ h9 => h9) rfl dX1_takeBack_25 ?_
  refine lv_iconst (v := (nI 1)) hx hb dX1_takeBack_28 (by decide) ?_
  refine n_isub (i := 1) (j := 1) hx hb (by decide) dX1_takeBack_29 ?_
  refine va_put (D := G.1) (ci := 1) (v := .int (nI 0)) (ty := .int) (C := RX1) (T := TX1) (N := 2) hx hb hts in_X1_takeBack_RX1 tyX1 tyX1_ok nmX1 hown hK.1 hP hD hS 0 rfl rfl 1 (by decide) (hts _ k_X1_takeBack_f18) (fun _ h9 => h9) rfl (by decide +kernel) rfl rfl (Nat.le_of_ble_eq_true rfl) dX1_takeBack_30 (fun H locs hP hD hS => ?_)
  have hP : va_P G.1 vwCl (HC G h0 h1 (nI 0) (x0 0) (x1 0) (x2 0) (x3 0) ++ LC G x0 av aq ++ LC G x1 bv bq ++ LC G x2 cv cq ++ LC G x3 dv dq ++ LC G y v q) H := hP
  have hD : va_D A (HC G h0 h1 (nI 0) (x0 0) (x1 0) (x2 0) (x3 0) ++ LC G x0 av aq ++ LC G x1 bv bq ++ LC G x2 cv cq ++ LC G x3 dv dq ++ LC G y v q) := hD
  refine lv_aload_n hx hb dX1_takeBack_33 rfl (lv_at hl 1 rfl) ?_
  refine lv_aload_n hx hb dX1_takeBack_34 rfl (lv_at hl 0 rfl) ?_
  refine va_get (D := G.1) (ci := 1) (v := .ref h1) (C := RX1) (T := TX1) (N := 2) hx hb hts in_X1_takeBack_RX1 hown hK.1 hP 0 rfl rfl 0 (by decide) (hts _ k_X1_takeBack_f12) (fun _ h9 => h9) rfl dX1_takeBack_35 ?_
  refine lv_aload_n hx hb dX1_takeBack_38 rfl (lv_at hl 0 rfl) ?_
  refine va_get (D := G.1) (ci := 1) (v := .int (nI 0)) (C := RX1) (T := TX1) (N := 2) hx hb hts in_X1_takeBack_RX1 hown hK.1 hP 0 rfl rfl 1 (by decide) (hts _ k_X1_takeBack_f18) (fun _ h9 => h9) rfl dX1_takeBack_39 ?_
  refine n_aald (j := 0) (v := .ref (x0 0)) (Cn := "SteamRations$Laundry") hx hb hK hP 1 4 rfl rfl (by decide) (by decide) rfl dX1_takeBack_42 ?_
  have hW : BW G A [HC G h0 h1 (nI 0) (x0 0) (x1 0) (x2 0) (x3 0), LC G x0 av aq, LC G x1 bv bq, LC G x2 cv cq, LC G x3 dv dq, LC G y v q] H := BW.of hP hD
  refine gcallB_V (bc := [LC G y v q, LC G x0 av aq]) (runB_V (As := [.ref (x0 0)]) (rest := []) (bc := [LC G y v q, LC G x0 av aq]) C0 hK hW (c_X2_copyFrom l G y x0 v q av aq H.size ) (cwV 1 hts gX1_takeBack_X2_copyFrom rfl rfl rfl cd_X2_copyFrom ⟨Nat.le_of_ble_eq_true rfl, Nat.le_of_ble_eq_true rfl⟩) [5, 1] rfl rfl rfl 5 0 rfl (ci := 2) rfl rfl rfl rfl hl.1 rfl (Nat.le_of_ble_eq_true rfl) dX1_takeBack_43 ⟨Nat.le_of_ble_eq_true rfl, Nat.le_of_ble_eq_true rfl⟩) hW hS hA [5, 1] rfl rfl rfl (fun u => [LC G y u.1 u.2, LC G x0 av aq]) (fun _ => rfl) (fun _ => rfl) (fun u_3 H locs hw_3 hW hS => ?_)
  obtain ⟨hP, hD⟩ := hW.flat
  obtain ⟨v_c3, q_c3⟩ := u_3
  simp only [f_X2_copyFrom, Prod.mk.injEq] at hw_3
  obtain ⟨rfl, rfl⟩ := hw_3
  have hP : va_P G.1 vwCl (HC G h0 h1 (nI 0) (x0 0) (x1 0) (x2 0) (x3 0) ++ LC G x0 av aq ++ LC G x1 bv bq ++ LC G x2 cv cq ++ LC G x3 dv dq ++ LC G y av aq) H := hP
  have hD : va_D A (HC G h0 h1 (nI 0) (x0 0) (x1 0) (x2 0) (x3 0) ++ LC G x0 av aq ++ LC G x1 bv bq ++ LC G x2 cv cq ++ LC G x3 dv dq ++ LC G y av aq) := hD
  refine lv_aload_n hx hb dX1_takeBack_46 rfl (lv_at hl 0 rfl) ?_
  refine va_get (D := G.1) (ci := 1) (v := .int (nI 0)) (C := RX1) (T := TX1) (N := 2) hx hb hts in_X1_takeBack_RX1 hown hK.1 hP 0 rfl rfl 1 (by decide) (hts _ k_X1_takeBack_f18) (fun _ h9 => h9) rfl dX1_takeBack_47 ?_
  exact end_I C0 hP hD hS () rfl rfl dX1_takeBack_50


set_option maxHeartbeats 4000000 in
set_option maxRecDepth 100000 in
theorem c_X1_takeBack_2 (l : Launch) (G : GG) (h0 : Nat) (h1 : Nat) (x0 : Nat → Nat) (x1 : Nat → Nat) (x2 : Nat → Nat) (x3 : Nat → Nat) (y : Nat → Nat) (av : (Nat → Int32)) (aq : (Nat → Int32)) (bv : (Nat → Int32)) (bq : (Nat → Int32)) (cv : (Nat → Int32)) (cq : (Nat → Int32)) (dv : (Nat → Int32)) (dq : (Nat → Int32)) (v : (Nat → Int32)) (q : (Nat → Int32)) (sz : Nat)   : Met l yX1_takeBack wsX1_takeBack ({ frames := 2, cells := 0, slots := 0, locals := 44 }) (Pre G [.ref h0, .ref (y 0)] (HC G h0 h1 (nI 2) (x0 0) (x1 0) (x2 0) (x3 0) ++ LC G x0 av aq ++ LC G x1 bv bq ++ LC G x2 cv cq ++ LC G x3 dv dq ++ LC G y v q) sz) (PI G (va_A (HC G h0 h1 (nI 2) (x0 0) (x1 0) (x2 0) (x3 0) ++ LC G x0 av aq ++ LC G x1 bv bq ++ LC G x2 cv cq ++ LC G x3 dv dq ++ LC G y v q) sz) (fun r (_ : Unit) => r = (nI 1)) (fun _ : Unit => HC G h0 h1 (nI 1) (x0 0) (x1 0) (x2 0) (x3 0) ++ LC G x0 av aq ++ LC G x1 bv bq ++ LC G x2 cv cq ++ LC G x3 dv dq ++ LC G y bv bq)) 0 0 (va_A (HC G h0 h1 (nI 2) (x0 0) (x1 0) (x2 0) (x3 0) ++ LC G x0 av aq ++ LC G x1 bv bq ++ LC G x2 cv cq ++ LC G x3 dv dq ++ LC G y v q) sz) := by
  refine Met.walk (cc := cX1_takeBack) (maxL := 2) (ret := (some .int)) (Qc := fun A => PI G A (fun r (_ : Unit) => r = (nI 1)) (fun _ : Unit => HC G h0 h1 (nI 1) (x0 0) (x1 0) (x2 0) (x3 0) ++ LC G x0 av aq ++ LC G x1 bv bq ++ LC G x2 cv cq ++ LC G x3 dv dq ++ LC G y bv bq)) (by decide) rfl (Nat.le_of_ble_eq_true rfl) ?_
  intro p e s m below meth c A H C0 _ hK hsz hP hD hA hS ls hl
  have hx := C0.1
  have hb := C0.2.1
  have hown : s.vm.findClass RX1 = some m.cls := C0.2.2.2.2.1
  have hml := C0.2.2.2.1
  have hts : ∀ w ∈ wsX1_takeBack, w.before [.ref h0, .ref (y 0)].toArray s = true := C0.2.2.2.2.2.1
  have hl : lv_has ls 2 [(0, .ref h0), (1, .ref (y 0))] := hl
  refine lv_aload_n hx hb dX1_takeBack_0 rfl (lv_at hl 0 rfl) ?_
  refine va_get (D := G.1) (ci := 1) (v := .int (nI 2)) (C := RX1) (T := TX1) (N := 2) hx hb hts in_X1_takeBack_RX1 hown hK.1 hP 0 rfl rfl 1 (by decide) (hts _ k_X1_takeBack_f18) (fun _ h9 => h9) rfl dX1_takeBack_1 ?_
  refine lv_iconst (v := (nI 1)) hx hb dX1_takeBack_4 (by decide) ?_
  refine lv_icmp_lt (tgt := 20) hx hb dX1_takeBack_5 (by decide) (fun c_1 => absurd c_1 (by decide +kernel)) (fun c_1 => ?_)
  refine lv_aload_n hx hb dX1_takeBack_8 rfl (lv_at hl 0 rfl) ?_
  refine va_get (D := G.1) (ci := 1) (v := .int (nI 2)) (C := RX1) (T := TX1) (N := 2) hx hb hts in_X1_takeBack_RX1 hown hK.1 hP 0 rfl rfl 1 (by decide) (hts _ k_X1_takeBack_f18) (fun _ h9 => h9) rfl dX1_takeBack_9 ?_
  refine lv_aload_n hx hb dX1_takeBack_12 rfl (lv_at hl 0 rfl) ?_
  refine va_get (D := G.1) (ci := 1) (v := .ref h1) (C := RX1) (T := TX1) (N := 2) hx hb hts in_X1_takeBack_RX1 hown hK.1 hP 0 rfl rfl 0 (by decide) (hts _ k_X1_takeBack_f12) (fun _ h9 => h9) rfl dX1_takeBack_13 ?_
  refine n_alen (n := 4) hx hb hK hP 1 4 rfl rfl dX1_takeBack_16 ?_
  refine lv_icmp_le (tgt := 23) hx hb dX1_takeBack_17 (by decide) (fun c_2 => ?_) (fun c_2 => absurd (by decide +kernel) c_2)
  refine lv_aload_n hx hb dX1_takeBack_23 rfl (lv_at hl 0 rfl) ?_
  refine lv_dup hx hb dX1_takeBack_24 rfl ?_
  refine va_get (D := G.1) (ci := 1) (v := .int (nI 2)) (C := RX1) (T := TX1) (N := 2) hx hb hts in_X1_takeBack_RX1 hown hK.1 hP 0 rfl rfl 1 (by decide) (hts _ k_X1_takeBack_f18) (fun _ h9 => h9) rfl dX1_takeBack_25 ?_
  refine lv_iconst (v := (nI 1)) hx hb dX1_takeBack_28 (by decide) ?_
  refine n_isub (i := 2) (j := 1) hx hb (by decide) dX1_takeBack_29 ?_
  refine va_put (D := G.1) (ci := 1) (v := .int (nI 1)) (ty := .int) (C := RX1) (T := TX1) (N := 2) hx hb hts in_X1_takeBack_RX1 tyX1 tyX1_ok nmX1 hown hK.1 hP hD hS 0 rfl rfl 1 (by decide) (hts _ k_X1_takeBack_f18) (fun _ h9 => h9) rfl (by decide +kernel) rfl rfl (Nat.le_of_ble_eq_true rfl) dX1_takeBack_30 (fun H locs hP hD hS => ?_)
  have hP : va_P G.1 vwCl (HC G h0 h1 (nI 1) (x0 0) (x1 0) (x2 0) (x3 0) ++ LC G x0 av aq ++ LC G x1 bv bq ++ LC G x2 cv cq ++ LC G x3 dv dq ++ LC G y v q) H := hP
  have hD : va_D A (HC G h0 h1 (nI 1) (x0 0) (x1 0) (x2 0) (x3 0) ++ LC G x0 av aq ++ LC G x1 bv bq ++ LC G x2 cv cq ++ LC G x3 dv dq ++ LC G y v q) := hD
  refine lv_aload_n hx hb dX1_takeBack_33 rfl (lv_at hl 1 rfl) ?_
  refine lv_aload_n hx hb dX1_takeBack_34 rfl (lv_at hl 0 rfl) ?_
  refine va_get (D := G.1) (ci := 1) (v := .ref h1) (C := RX1) (T := TX1) (N := 2) hx hb hts in_X1_takeBack_RX1 hown hK.1 hP 0 rfl rfl 0 (by decide) (hts _ k_X1_takeBack_f12) (fun _ h9 => h9) rfl dX1_takeBack_35 ?_
  refine lv_aload_n hx hb dX1_takeBack_38 rfl (lv_at hl 0 rfl) ?_
  refine va_get (D := G.1) (ci := 1) (v := .int (nI 1)) (C := RX1) (T := TX1) (N := 2) hx hb hts in_X1_takeBack_RX1 hown hK.1 hP 0 rfl rfl 1 (by decide) (hts _ k_X1_takeBack_f18) (fun _ h9 => h9) rfl dX1_takeBack_39 ?_
  refine n_aald (j := 1) (v := .ref (x1 0)) (Cn := "SteamRations$Laundry") hx hb hK hP 1 4 rfl rfl (by decide) (by decide) rfl dX1_takeBack_42 ?_
  have hW : BW G A [HC G h0 h1 (nI 1) (x0 0) (x1 0) (x2 0) (x3 0), LC G x0 av aq, LC G x1 bv bq, LC G x2 cv cq, LC G x3 dv dq, LC G y v q] H := BW.of hP hD
  refine gcallB_V (bc := [LC G y v q, LC G x1 bv bq]) (runB_V (As := [.ref (x1 0)]) (rest := []) (bc := [LC G y v q, LC G x1 bv bq]) C0 hK hW (c_X2_copyFrom l G y x1 v q bv bq H.size ) (cwV 1 hts gX1_takeBack_X2_copyFrom rfl rfl rfl cd_X2_copyFrom ⟨Nat.le_of_ble_eq_true rfl, Nat.le_of_ble_eq_true rfl⟩) [5, 2] rfl rfl rfl 5 0 rfl (ci := 2) rfl rfl rfl rfl hl.1 rfl (Nat.le_of_ble_eq_true rfl) dX1_takeBack_43 ⟨Nat.le_of_ble_eq_true rfl, Nat.le_of_ble_eq_true rfl⟩) hW hS hA [5, 2] rfl rfl rfl (fun u => [LC G y u.1 u.2, LC G x1 bv bq]) (fun _ => rfl) (fun _ => rfl) (fun u_3 H locs hw_3 hW hS => ?_)
  obtain ⟨hP, hD⟩ := hW.flat
  obtain ⟨v_c3, q_c3⟩ := u_3
  simp only [f_X2_copyFrom, Prod.mk.injEq] at hw_3
  obtain ⟨rfl, rfl⟩ := hw_3
  have hP : va_P G.1 vwCl (HC G h0 h1 (nI 1) (x0 0) (x1 0) (x2 0) (x3 0) ++ LC G x0 av aq ++ LC G x1 bv bq ++ LC G x2 cv cq ++ LC G x3 dv dq ++ LC G y bv bq) H := hP
  have hD : va_D A (HC G h0 h1 (nI 1) (x0 0) (x1 0) (x2 0) (x3 0) ++ LC G x0 av aq ++ LC G x1 bv bq ++ LC G x2 cv cq ++ LC G x3 dv dq ++ LC G y bv bq) := hD
  refine lv_aload_n hx hb dX1_takeBack_46 rfl (lv_at hl 0 rfl) ?_
  refine va_get (D := G.1) (ci := 1) (v := .int (nI 1)) (C := RX1) (T := TX1) (N := 2) hx hb hts in_X1_takeBack_RX1 hown hK.1 hP 0 rfl rfl 1 (by decide) (hts _ k_X1_takeBack_f18) (fun _ h9 => h9) rfl dX1_takeBack_47 ?_
  exact end_I C0 hP hD hS () rfl rfl dX1_takeBack_50


set_option maxHeartbeats 4000000 in
set_option maxRecDepth 100000 in
theorem c_X1_takeBack_3 (l : Launch) (G : GG) (h0 : Nat) (h1 : Nat) (x0 : Nat → Nat) (x1 : Nat → Nat) (x2 : Nat → Nat) (x3 : Nat → Nat) (y : Nat → Nat) (av : (Nat → Int32)) (aq : (Nat → Int32)) (bv : (Nat → Int32)) (bq : (Nat → Int32)) (cv : (Nat → Int32)) (cq : (Nat → Int32)) (dv : (Nat → Int32)) (dq : (Nat → Int32)) (v : (Nat → Int32)) (q : (Nat → Int32)) (sz : Nat)   : Met l yX1_takeBack wsX1_takeBack ({ frames := 2, cells := 0, slots := 0, locals := 44 }) (Pre G [.ref h0, .ref (y 0)] (HC G h0 h1 (nI 3) (x0 0) (x1 0) (x2 0) (x3 0) ++ LC G x0 av aq ++ LC G x1 bv bq ++ LC G x2 cv cq ++ LC G x3 dv dq ++ LC G y v q) sz) (PI G (va_A (HC G h0 h1 (nI 3) (x0 0) (x1 0) (x2 0) (x3 0) ++ LC G x0 av aq ++ LC G x1 bv bq ++ LC G x2 cv cq ++ LC G x3 dv dq ++ LC G y v q) sz) (fun r (_ : Unit) => r = (nI 2)) (fun _ : Unit => HC G h0 h1 (nI 2) (x0 0) (x1 0) (x2 0) (x3 0) ++ LC G x0 av aq ++ LC G x1 bv bq ++ LC G x2 cv cq ++ LC G x3 dv dq ++ LC G y cv cq)) 0 0 (va_A (HC G h0 h1 (nI 3) (x0 0) (x1 0) (x2 0) (x3 0) ++ LC G x0 av aq ++ LC G x1 bv bq ++ LC G x2 cv cq ++ LC G x3 dv dq ++ LC G y v q) sz) := by
  refine Met.walk (cc := cX1_takeBack) (maxL := 2) (ret := (some .int)) (Qc := fun A => PI G A (fun r (_ : Unit) => r = (nI 2)) (fun _ : Unit => HC G h0 h1 (nI 2) (x0 0) (x1 0) (x2 0) (x3 0) ++ LC G x0 av aq ++ LC G x1 bv bq ++ LC G x2 cv cq ++ LC G x3 dv dq ++ LC G y cv cq)) (by decide) rfl (Nat.le_of_ble_eq_true rfl) ?_
  intro p e s m below meth c A H C0 _ hK hsz hP hD hA hS ls hl
  have hx := C0.1
  have hb := C0.2.1
  have hown : s.vm.findClass RX1 = some m.cls := C0.2.2.2.2.1
  have hml := C0.2.2.2.1
  have hts : ∀ w ∈ wsX1_takeBack, w.before [.ref h0, .ref (y 0)].toArray s = true := C0.2.2.2.2.2.1
  have hl : lv_has ls 2 [(0, .ref h0), (1, .ref (y 0))] := hl
  refine lv_aload_n hx hb dX1_takeBack_0 rfl (lv_at hl 0 rfl) ?_
  refine va_get (D := G.1) (ci := 1) (v := .int (nI 3)) (C := RX1) (T := TX1) (N := 2) hx hb hts in_X1_takeBack_RX1 hown hK.1 hP 0 rfl rfl 1 (by decide) (hts _ k_X1_takeBack_f18) (fun _ h9 => h9) rfl dX1_takeBack_1 ?_
  refine lv_iconst (v := (nI 1)) hx hb dX1_takeBack_4 (by decide) ?_
  refine lv_icmp_lt (tgt := 20) hx hb dX1_takeBack_5 (by decide) (fun c_1 => absurd c_1 (by decide +kernel)) (fun c_1 => ?_)
  refine lv_aload_n hx hb dX1_takeBack_8 rfl (lv_at hl 0 rfl) ?_
  refine va_get (D := G.1) (ci := 1) (v := .int (nI 3)) (C := RX1) (T := TX1) (N := 2) hx hb hts in_X1_takeBack_RX1 hown hK.1 hP 0 rfl rfl 1 (by decide) (hts _ k_X1_takeBack_f18) (fun _ h9 => h9) rfl dX1_takeBack_9 ?_
  refine lv_aload_n hx hb dX1_takeBack_12 rfl (lv_at hl 0 rfl) ?_
  refine va_get (D := G.1) (ci := 1) (v := .ref h1) (C := RX1) (T := TX1) (N := 2) hx hb hts in_X1_takeBack_RX1 hown hK.1 hP 0 rfl rfl 0 (by decide) (hts _ k_X1_takeBack_f12) (fun _ h9 => h9) rfl dX1_takeBack_13 ?_
  refine n_alen (n := 4) hx hb hK hP 1 4 rfl rfl dX1_takeBack_16 ?_
  refine lv_icmp_le (tgt := 23) hx hb dX1_takeBack_17 (by decide) (fun c_2 => ?_) (fun c_2 => absurd (by decide +kernel) c_2)
  refine lv_aload_n hx hb dX1_takeBack_23 rfl (lv_at hl 0 rfl) ?_
  refine lv_dup hx hb dX1_takeBack_24 rfl ?_
  refine va_get (D := G.1) (ci := 1) (v := .int (nI 3)) (C := RX1) (T := TX1) (N := 2) hx hb hts in_X1_takeBack_RX1 hown hK.1 hP 0 rfl rfl 1 (by decide) (hts _ k_X1_takeBack_f18) (fun _ h9 => h9) rfl dX1_takeBack_25 ?_
  refine lv_iconst (v := (nI 1)) hx hb dX1_takeBack_28 (by decide) ?_
  refine n_isub (i := 3) (j := 1) hx hb (by decide) dX1_takeBack_29 ?_
  refine va_put (D := G.1) (ci := 1) (v := .int (nI 2)) (ty := .int) (C := RX1) (T := TX1) (N := 2) hx hb hts in_X1_takeBack_RX1 tyX1 tyX1_ok nmX1 hown hK.1 hP hD hS 0 rfl rfl 1 (by decide) (hts _ k_X1_takeBack_f18) (fun _ h9 => h9) rfl (by decide +kernel) rfl rfl (Nat.le_of_ble_eq_true rfl) dX1_takeBack_30 (fun H locs hP hD hS => ?_)
  have hP : va_P G.1 vwCl (HC G h0 h1 (nI 2) (x0 0) (x1 0) (x2 0) (x3 0) ++ LC G x0 av aq ++ LC G x1 bv bq ++ LC G x2 cv cq ++ LC G x3 dv dq ++ LC G y v q) H := hP
  have hD : va_D A (HC G h0 h1 (nI 2) (x0 0) (x1 0) (x2 0) (x3 0) ++ LC G x0 av aq ++ LC G x1 bv bq ++ LC G x2 cv cq ++ LC G x3 dv dq ++ LC G y v q) := hD
  refine lv_aload_n hx hb dX1_takeBack_33 rfl (lv_at hl 1 rfl) ?_
  refine lv_aload_n hx hb dX1_takeBack_34 rfl (lv_at hl 0 rfl) ?_
  refine va_get (D := G.1) (ci := 1) (v := .ref h1) (C := RX1) (T := TX1) (N := 2) hx hb hts in_X1_takeBack_RX1 hown hK.1 hP 0 rfl rfl 0 (by decide) (hts _ k_X1_takeBack_f12) (fun _ h9 => h9) rfl dX1_takeBack_35 ?_
  refine lv_aload_n hx hb dX1_takeBack_38 rfl (lv_at hl 0 rfl) ?_
  refine va_get (D := G.1) (ci := 1) (v := .int (nI 2)) (C := RX1) (T := TX1) (N := 2) hx hb hts in_X1_takeBack_RX1 hown hK.1 hP 0 rfl rfl 1 (by decide) (hts _ k_X1_takeBack_f18) (fun _ h9 => h9) rfl dX1_takeBack_39 ?_
  refine n_aald (j := 2) (v := .ref (x2 0)) (Cn := "SteamRations$Laundry") hx hb hK hP 1 4 rfl rfl (by decide) (by decide) rfl dX1_takeBack_42 ?_
  have hW : BW G A [HC G h0 h1 (nI 2) (x0 0) (x1 0) (x2 0) (x3 0), LC G x0 av aq, LC G x1 bv bq, LC G x2 cv cq, LC G x3 dv dq, LC G y v q] H := BW.of hP hD
  refine gcallB_V (bc := [LC G y v q, LC G x2 cv cq]) (runB_V (As := [.ref (x2 0)]) (rest := []) (bc := [LC G y v q, LC G x2 cv cq]) C0 hK hW (c_X2_copyFrom l G y x2 v q cv cq H.size ) (cwV 1 hts gX1_takeBack_X2_copyFrom rfl rfl rfl cd_X2_copyFrom ⟨Nat.le_of_ble_eq_true rfl, Nat.le_of_ble_eq_true rfl⟩) [5, 3] rfl rfl rfl 5 0 rfl (ci := 2) rfl rfl rfl rfl hl.1 rfl (Nat.le_of_ble_eq_true rfl) dX1_takeBack_43 ⟨Nat.le_of_ble_eq_true rfl, Nat.le_of_ble_eq_true rfl⟩) hW hS hA [5, 3] rfl rfl rfl (fun u => [LC G y u.1 u.2, LC G x2 cv cq]) (fun _ => rfl) (fun _ => rfl) (fun u_3 H locs hw_3 hW hS => ?_)
  obtain ⟨hP, hD⟩ := hW.flat
  obtain ⟨v_c3, q_c3⟩ := u_3
  simp only [f_X2_copyFrom, Prod.mk.injEq] at hw_3
  obtain ⟨rfl, rfl⟩ := hw_3
  have hP : va_P G.1 vwCl (HC G h0 h1 (nI 2) (x0 0) (x1 0) (x2 0) (x3 0) ++ LC G x0 av aq ++ LC G x1 bv bq ++ LC G x2 cv cq ++ LC G x3 dv dq ++ LC G y cv cq) H := hP
  have hD : va_D A (HC G h0 h1 (nI 2) (x0 0) (x1 0) (x2 0) (x3 0) ++ LC G x0 av aq ++ LC G x1 bv bq ++ LC G x2 cv cq ++ LC G x3 dv dq ++ LC G y cv cq) := hD
  refine lv_aload_n hx hb dX1_takeBack_46 rfl (lv_at hl 0 rfl) ?_
  refine va_get (D := G.1) (ci := 1) (v := .int (nI 2)) (C := RX1) (T := TX1) (N := 2) hx hb hts in_X1_takeBack_RX1 hown hK.1 hP 0 rfl rfl 1 (by decide) (hts _ k_X1_takeBack_f18) (fun _ h9 => h9) rfl dX1_takeBack_47 ?_
  exact end_I C0 hP hD hS () rfl rfl dX1_takeBack_50


set_option maxHeartbeats 4000000 in
set_option maxRecDepth 100000 in
theorem c_X1_takeBack_4 (l : Launch) (G : GG) (h0 : Nat) (h1 : Nat) (x0 : Nat → Nat) (x1 : Nat → Nat) (x2 : Nat → Nat) (x3 : Nat → Nat) (y : Nat → Nat) (av : (Nat → Int32)) (aq : (Nat → Int32)) (bv : (Nat → Int32)) (bq : (Nat → Int32)) (cv : (Nat → Int32)) (cq : (Nat → Int32)) (dv : (Nat → Int32)) (dq : (Nat → Int32)) (v : (Nat → Int32)) (q : (Nat → Int32)) (sz : Nat)   : Met l yX1_takeBack wsX1_takeBack ({ frames := 2, cells := 0, slots := 0, locals := 44 }) (Pre G [.ref h0, .ref (y 0)] (HC G h0 h1 (nI 4) (x0 0) (x1 0) (x2 0) (x3 0) ++ LC G x0 av aq ++ LC G x1 bv bq ++ LC G x2 cv cq ++ LC G x3 dv dq ++ LC G y v q) sz) (PI G (va_A (HC G h0 h1 (nI 4) (x0 0) (x1 0) (x2 0) (x3 0) ++ LC G x0 av aq ++ LC G x1 bv bq ++ LC G x2 cv cq ++ LC G x3 dv dq ++ LC G y v q) sz) (fun r (_ : Unit) => r = (nI 3)) (fun _ : Unit => HC G h0 h1 (nI 3) (x0 0) (x1 0) (x2 0) (x3 0) ++ LC G x0 av aq ++ LC G x1 bv bq ++ LC G x2 cv cq ++ LC G x3 dv dq ++ LC G y dv dq)) 0 0 (va_A (HC G h0 h1 (nI 4) (x0 0) (x1 0) (x2 0) (x3 0) ++ LC G x0 av aq ++ LC G x1 bv bq ++ LC G x2 cv cq ++ LC G x3 dv dq ++ LC G y v q) sz) := by
  refine Met.walk (cc := cX1_takeBack) (maxL := 2) (ret := (some .int)) (Qc := fun A => PI G A (fun r (_ : Unit) => r = (nI 3)) (fun _ : Unit => HC G h0 h1 (nI 3) (x0 0) (x1 0) (x2 0) (x3 0) ++ LC G x0 av aq ++ LC G x1 bv bq ++ LC G x2 cv cq ++ LC G x3 dv dq ++ LC G y dv dq)) (by decide) rfl (Nat.le_of_ble_eq_true rfl) ?_
  intro p e s m below meth c A H C0 _ hK hsz hP hD hA hS ls hl
  have hx := C0.1
  have hb := C0.2.1
  have hown : s.vm.findClass RX1 = some m.cls := C0.2.2.2.2.1
  have hml := C0.2.2.2.1
  have hts : ∀ w ∈ wsX1_takeBack, w.before [.ref h0, .ref (y 0)].toArray s = true := C0.2.2.2.2.2.1
  have hl : lv_has ls 2 [(0, .ref h0), (1, .ref (y 0))] := hl
  refine lv_aload_n hx hb dX1_takeBack_0 rfl (lv_at hl 0 rfl) ?_
  refine va_get (D := G.1) (ci := 1) (v := .int (nI 4)) (C := RX1) (T := TX1) (N := 2) hx hb hts in_X1_takeBack_RX1 hown hK.1 hP 0 rfl rfl 1 (by decide) (hts _ k_X1_takeBack_f18) (fun _ h9 => h9) rfl dX1_takeBack_1 ?_
  refine lv_iconst (v := (nI 1)) hx hb dX1_takeBack_4 (by decide) ?_
  refine lv_icmp_lt (tgt := 20) hx hb dX1_takeBack_5 (by decide) (fun c_1 => absurd c_1 (by decide +kernel)) (fun c_1 => ?_)
  refine lv_aload_n hx hb dX1_takeBack_8 rfl (lv_at hl 0 rfl) ?_
  refine va_get (D := G.1) (ci := 1) (v := .int (nI 4)) (C := RX1) (T := TX1) (N := 2) hx hb hts in_X1_takeBack_RX1 hown hK.1 hP 0 rfl rfl 1 (by decide) (hts _ k_X1_takeBack_f18) (fun _ h9 => h9) rfl dX1_takeBack_9 ?_
  refine lv_aload_n hx hb dX1_takeBack_12 rfl (lv_at hl 0 rfl) ?_
  refine va_get (D := G.1) (ci := 1) (v := .ref h1) (C := RX1) (T := TX1) (N := 2) hx hb hts in_X1_takeBack_RX1 hown hK.1 hP 0 rfl rfl 0 (by decide) (hts _ k_X1_takeBack_f12) (fun _ h9 => h9) rfl dX1_takeBack_13 ?_
  refine n_alen (n := 4) hx hb hK hP 1 4 rfl rfl dX1_takeBack_16 ?_
  refine lv_icmp_le (tgt := 23) hx hb dX1_takeBack_17 (by decide) (fun c_2 => ?_) (fun c_2 => absurd (by decide +kernel) c_2)
  refine lv_aload_n hx hb dX1_takeBack_23 rfl (lv_at hl 0 rfl) ?_
  refine lv_dup hx hb dX1_takeBack_24 rfl ?_
  refine va_get (D := G.1) (ci := 1) (v := .int (nI 4)) (C := RX1) (T := TX1) (N := 2) hx hb hts in_X1_takeBack_RX1 hown hK.1 hP 0 rfl rfl 1 (by decide) (hts _ k_X1_takeBack_f18) (fun _ h9 => h9) rfl dX1_takeBack_25 ?_
  refine lv_iconst (v := (nI 1)) hx hb dX1_takeBack_28 (by decide) ?_
  refine n_isub (i := 4) (j := 1) hx hb (by decide) dX1_takeBack_29 ?_
  refine va_put (D := G.1) (ci := 1) (v := .int (nI 3)) (ty := .int) (C := RX1) (T := TX1) (N := 2) hx hb hts in_X1_takeBack_RX1 tyX1 tyX1_ok nmX1 hown hK.1 hP hD hS 0 rfl rfl 1 (by decide) (hts _ k_X1_takeBack_f18) (fun _ h9 => h9) rfl (by decide +kernel) rfl rfl (Nat.le_of_ble_eq_true rfl) dX1_takeBack_30 (fun H locs hP hD hS => ?_)
  have hP : va_P G.1 vwCl (HC G h0 h1 (nI 3) (x0 0) (x1 0) (x2 0) (x3 0) ++ LC G x0 av aq ++ LC G x1 bv bq ++ LC G x2 cv cq ++ LC G x3 dv dq ++ LC G y v q) H := hP
  have hD : va_D A (HC G h0 h1 (nI 3) (x0 0) (x1 0) (x2 0) (x3 0) ++ LC G x0 av aq ++ LC G x1 bv bq ++ LC G x2 cv cq ++ LC G x3 dv dq ++ LC G y v q) := hD
  refine lv_aload_n hx hb dX1_takeBack_33 rfl (lv_at hl 1 rfl) ?_
  refine lv_aload_n hx hb dX1_takeBack_34 rfl (lv_at hl 0 rfl) ?_
  refine va_get (D := G.1) (ci := 1) (v := .ref h1) (C := RX1) (T := TX1) (N := 2) hx hb hts in_X1_takeBack_RX1 hown hK.1 hP 0 rfl rfl 0 (by decide) (hts _ k_X1_takeBack_f12) (fun _ h9 => h9) rfl dX1_takeBack_35 ?_
  refine lv_aload_n hx hb dX1_takeBack_38 rfl (lv_at hl 0 rfl) ?_
  refine va_get (D := G.1) (ci := 1) (v := .int (nI 3)) (C := RX1) (T := TX1) (N := 2) hx hb hts in_X1_takeBack_RX1 hown hK.1 hP 0 rfl rfl 1 (by decide) (hts _ k_X1_takeBack_f18) (fun _ h9 => h9) rfl dX1_takeBack_39 ?_
  refine n_aald (j := 3) (v := .ref (x3 0)) (Cn := "SteamRations$Laundry") hx hb hK hP 1 4 rfl rfl (by decide) (by decide) rfl dX1_takeBack_42 ?_
  have hW : BW G A [HC G h0 h1 (nI 3) (x0 0) (x1 0) (x2 0) (x3 0), LC G x0 av aq, LC G x1 bv bq, LC G x2 cv cq, LC G x3 dv dq, LC G y v q] H := BW.of hP hD
  refine gcallB_V (bc := [LC G y v q, LC G x3 dv dq]) (runB_V (As := [.ref (x3 0)]) (rest := []) (bc := [LC G y v q, LC G x3 dv dq]) C0 hK hW (c_X2_copyFrom l G y x3 v q dv dq H.size ) (cwV 1 hts gX1_takeBack_X2_copyFrom rfl rfl rfl cd_X2_copyFrom ⟨Nat.le_of_ble_eq_true rfl, Nat.le_of_ble_eq_true rfl⟩) [5, 4] rfl rfl rfl 5 0 rfl (ci := 2) rfl rfl rfl rfl hl.1 rfl (Nat.le_of_ble_eq_true rfl) dX1_takeBack_43 ⟨Nat.le_of_ble_eq_true rfl, Nat.le_of_ble_eq_true rfl⟩) hW hS hA [5, 4] rfl rfl rfl (fun u => [LC G y u.1 u.2, LC G x3 dv dq]) (fun _ => rfl) (fun _ => rfl) (fun u_3 H locs hw_3 hW hS => ?_)
  obtain ⟨hP, hD⟩ := hW.flat
  obtain ⟨v_c3, q_c3⟩ := u_3
  simp only [f_X2_copyFrom, Prod.mk.injEq] at hw_3
  obtain ⟨rfl, rfl⟩ := hw_3
  have hP : va_P G.1 vwCl (HC G h0 h1 (nI 3) (x0 0) (x1 0) (x2 0) (x3 0) ++ LC G x0 av aq ++ LC G x1 bv bq ++ LC G x2 cv cq ++ LC G x3 dv dq ++ LC G y dv dq) H := hP
  have hD : va_D A (HC G h0 h1 (nI 3) (x0 0) (x1 0) (x2 0) (x3 0) ++ LC G x0 av aq ++ LC G x1 bv bq ++ LC G x2 cv cq ++ LC G x3 dv dq ++ LC G y dv dq) := hD
  refine lv_aload_n hx hb dX1_takeBack_46 rfl (lv_at hl 0 rfl) ?_
  refine va_get (D := G.1) (ci := 1) (v := .int (nI 3)) (C := RX1) (T := TX1) (N := 2) hx hb hts in_X1_takeBack_RX1 hown hK.1 hP 0 rfl rfl 1 (by decide) (hts _ k_X1_takeBack_f18) (fun _ h9 => h9) rfl dX1_takeBack_47 ?_
  exact end_I C0 hP hD hS () rfl rfl dX1_takeBack_50

def f_X1_push (hn : Nat) (xs : Nat → Nat → Nat) (vs qs : Nat → Nat → Int32) (v q : Nat → Int32) : Nat × (Nat → Nat → Nat) × (Nat → Nat → Int32) × (Nat → Nat → Int32) :=
  if hn = 4 then (4, fun i => if i < 3 then xs (i + 1) else xs 0, fun i => if i < 3 then vs (i + 1) else v, fun i => if i < 3 then qs (i + 1) else q)
  else (hn + 1, xs, fun i => if i = hn then v else vs i, fun i => if i = hn then q else qs i)
def f_X1_takeBack (hn : Nat) (vs qs : Nat → Nat → Int32) (v q : Nat → Int32) : Int32 × Nat × (Nat → Int32) × (Nat → Int32) :=
  if hn = 0 then ((-5), 0, v, q) else (nI (hn - 1), hn - 1, vs (hn - 1), qs (hn - 1))

set_option maxRecDepth 100000 in
set_option maxHeartbeats 4000000 in
theorem c_X1_push (l : Launch) (G : GG) (h0 h1 : Nat) (y : Nat → Nat) (hn : Nat) (xs : Nat → Nat → Nat) (vs qs : Nat → Nat → Int32) (v q : Nat → Int32) (sz : Nat) (hn4 : hn ≤ 4) : Met l yX1_push wsX1_push ({ frames := 2, cells := 0, slots := 0, locals := 44 }) (Pre G [.ref h0, .ref (y 0)] (HB G h0 h1 hn xs vs qs ++ LC G y v q) sz) (PV G (va_A (HB G h0 h1 hn xs vs qs ++ LC G y v q) sz) (fun u : Nat × (Nat → Nat → Nat) × (Nat → Nat → Int32) × (Nat → Nat → Int32) => f_X1_push hn xs vs qs v q = u) (fun u : Nat × (Nat → Nat → Nat) × (Nat → Nat → Int32) × (Nat → Nat → Int32) => HB G h0 h1 u.1 u.2.1 u.2.2.1 u.2.2.2 ++ LC G y v q)) 0 0 (va_A (HB G h0 h1 hn xs vs qs ++ LC G y v q) sz) := by
  have h5 : hn = 0 ∨ hn = 1 ∨ hn = 2 ∨ hn = 3 ∨ hn = 4 := by omega
  rcases h5 with rfl | rfl | rfl | rfl | rfl
  · exact Met.impV (c_X1_push_0 l G h0 h1 (xs 0) (xs 1) (xs 2) (xs 3) y (vs 0) (qs 0) (vs 1) (qs 1) (vs 2) (qs 2) (vs 3) (qs 3) v q sz) (fun _ => f_X1_push 0 xs vs qs v q) (fun u _ => ⟨rfl, rfl⟩)
  · exact Met.impV (c_X1_push_1 l G h0 h1 (xs 0) (xs 1) (xs 2) (xs 3) y (vs 0) (qs 0) (vs 1) (qs 1) (vs 2) (qs 2) (vs 3) (qs 3) v q sz) (fun _ => f_X1_push 1 xs vs qs v q) (fun u _ => ⟨rfl, rfl⟩)
  · exact Met.impV (c_X1_push_2 l G h0 h1 (xs 0) (xs 1) (xs 2) (xs 3) y (vs 0) (qs 0) (vs 1) (qs 1) (vs 2) (qs 2) (vs 3) (qs 3) v q sz) (fun _ => f_X1_push 2 xs vs qs v q) (fun u _ => ⟨rfl, rfl⟩)
  · exact Met.impV (c_X1_push_3 l G h0 h1 (xs 0) (xs 1) (xs 2) (xs 3) y (vs 0) (qs 0) (vs 1) (qs 1) (vs 2) (qs 2) (vs 3) (qs 3) v q sz) (fun _ => f_X1_push 3 xs vs qs v q) (fun u _ => ⟨rfl, rfl⟩)
  · exact Met.impV (c_X1_push_4 l G h0 h1 (xs 0) (xs 1) (xs 2) (xs 3) y (vs 0) (qs 0) (vs 1) (qs 1) (vs 2) (qs 2) (vs 3) (qs 3) v q sz) (fun _ => f_X1_push 4 xs vs qs v q) (fun u _ => ⟨rfl, rfl⟩)

set_option maxRecDepth 100000 in
set_option maxHeartbeats 4000000 in
theorem c_X1_takeBack (l : Launch) (G : GG) (h0 h1 : Nat) (y : Nat → Nat) (hn : Nat) (xs : Nat → Nat → Nat) (vs qs : Nat → Nat → Int32) (v q : Nat → Int32) (sz : Nat) (hn4 : hn ≤ 4) : Met l yX1_takeBack wsX1_takeBack ({ frames := 2, cells := 0, slots := 0, locals := 44 }) (Pre G [.ref h0, .ref (y 0)] (HB G h0 h1 hn xs vs qs ++ LC G y v q) sz) (PI G (va_A (HB G h0 h1 hn xs vs qs ++ LC G y v q) sz) (fun r (u : Nat × (Nat → Int32) × (Nat → Int32)) => f_X1_takeBack hn vs qs v q = (r, u)) (fun u : Nat × (Nat → Int32) × (Nat → Int32) => HB G h0 h1 u.1 xs vs qs ++ LC G y u.2.1 u.2.2)) 0 0 (va_A (HB G h0 h1 hn xs vs qs ++ LC G y v q) sz) := by
  have h5 : hn = 0 ∨ hn = 1 ∨ hn = 2 ∨ hn = 3 ∨ hn = 4 := by omega
  rcases h5 with rfl | rfl | rfl | rfl | rfl
  · exact Met.impI (c_X1_takeBack_0 l G h0 h1 (xs 0) (xs 1) (xs 2) (xs 3) y (vs 0) (qs 0) (vs 1) (qs 1) (vs 2) (qs 2) (vs 3) (qs 3) v q sz) (fun _ => (f_X1_takeBack 0 vs qs v q).2) (fun r u h => ⟨by rw [h]; rfl, rfl⟩)
  · exact Met.impI (c_X1_takeBack_1 l G h0 h1 (xs 0) (xs 1) (xs 2) (xs 3) y (vs 0) (qs 0) (vs 1) (qs 1) (vs 2) (qs 2) (vs 3) (qs 3) v q sz) (fun _ => (f_X1_takeBack 1 vs qs v q).2) (fun r u h => ⟨by rw [h]; rfl, rfl⟩)
  · exact Met.impI (c_X1_takeBack_2 l G h0 h1 (xs 0) (xs 1) (xs 2) (xs 3) y (vs 0) (qs 0) (vs 1) (qs 1) (vs 2) (qs 2) (vs 3) (qs 3) v q sz) (fun _ => (f_X1_takeBack 2 vs qs v q).2) (fun r u h => ⟨by rw [h]; rfl, rfl⟩)
  · exact Met.impI (c_X1_takeBack_3 l G h0 h1 (xs 0) (xs 1) (xs 2) (xs 3) y (vs 0) (qs 0) (vs 1) (qs 1) (vs 2) (qs 2) (vs 3) (qs 3) v q sz) (fun _ => (f_X1_takeBack 3 vs qs v q).2) (fun r u h => ⟨by rw [h]; rfl, rfl⟩)
  · exact Met.impI (c_X1_takeBack_4 l G h0 h1 (xs 0) (xs 1) (xs 2) (xs 3) y (vs 0) (qs 0) (vs 1) (qs 1) (vs 2) (qs 2) (vs 3) (qs 3) v q sz) (fun _ => (f_X1_takeBack 4 vs qs v q).2) (fun r u h => ⟨by rw [h]; rfl, rfl⟩)
