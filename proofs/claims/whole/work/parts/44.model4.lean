def f_X7_runs (M : (Nat → Int32)) (x : Nat) (p0 : Int32) : Int32 × (Nat → Int32) :=
  if (f_X7_in p0 (nI 1) (nI 200)) = 0 then
    ((-2), M)
  else
    if (M ((46 * x) + 12)) ≤ ((nI 99999) - p0) then
      match f_X7_ticks M x p0 with
      | M_c4 =>
        (((M_c4 ((46 * x) + 41)) - (M ((46 * x) + 41))), M_c4)
    else
      ((-3), M)
set_option maxRecDepth 20000 in
theorem k_X7_runs_c82 : Cond.constant RX7 82 (99999) ∈ wsX7_runs := by decide +kernel
set_option maxRecDepth 20000 in
theorem k_X7_runs_f7 : Cond.fieldLink RX7 7 "SteamRationsModel" "s" "[I" ∈ wsX7_runs := by decide +kernel
set_option maxRecDepth 20000 in
theorem in_X7_runs_RX7 : ∀ w ∈ u_ws RX7 TX7 11, w ∈ wsX7_runs := by decide +kernel
theorem cd_X7_runs : yX7_runs.cls = RX7 ∧ yX7_runs.cls ≠ "java/lang/invoke/MethodHandle" ∧ yX7_runs.cls ≠ "java/lang/invoke/VarHandle" ∧ (parseMethodDescriptor yX7_runs.desc).map (fun d => d.parameters.length) = some 2 := by decide +kernel
set_option maxHeartbeats 4000000 in
set_option maxRecDepth 100000 in
theorem c_X7_runs (l : Launch) (G : GG) (a : Nat → Nat) (g : (Nat → Int32)) (M : (Nat → Int32)) (T : (Nat → Int32)) (Y : (Nat → Int32)) (sz : Nat) (x : Nat) (p0 : Int32) (hx6 : x ≤ 6) (hT0 : TickOK M x) : Met l yX7_runs wsX7_runs ({ frames := 6, cells := 0, slots := 0, locals := 143 }) (Pre G [.ref (a 0), .int (nI x), .int p0] (MC G a g M T Y) sz) (PI G (va_A (MC G a g M T Y) sz) (fun r (u : (Nat → Int32)) => f_X7_runs M x p0 = (r, u)) (fun u : (Nat → Int32) => MC G a g u T Y)) 0 0 (va_A (MC G a g M T Y) sz) := by
  refine Met.walk (cc := cX7_runs) (maxL := 5) (ret := (some .int)) (Qc := fun A => PI G A (fun r (u : (Nat → Int32)) => f_X7_runs M x p0 = (r, u)) (fun u : (Nat → Int32) => MC G a g u T Y)) (by decide) rfl (Nat.le_of_ble_eq_true rfl) ?_
  intro p e s m below meth c A H C0 _ hK hsz hP hD hA hS ls hl
  have hx := C0.1
  have hb := C0.2.1
  have hown : s.vm.findClass RX7 = some m.cls := C0.2.2.2.2.1
  have hml := C0.2.2.2.1
  have hts : ∀ w ∈ wsX7_runs, w.before [.ref (a 0), .int (nI x), .int p0].toArray s = true := C0.2.2.2.2.2.1
  have hl : lv_has ls 5 [(0, .ref (a 0)), (1, .int (nI x)), (2, .int p0)] := hl
  refine lv_iload_n hx hb dX7_runs_0 rfl (lv_at hl 2 rfl) ?_
  refine lv_iconst (v := (nI 1)) hx hb dX7_runs_1 (by decide) ?_
  refine lv_sipush (v := (nI 200)) hx hb dX7_runs_2 (by decide) ?_
  refine gcall_I (run_S (As := [.int p0, .int (nI 1), .int (nI 200)]) (rest := []) C0 hK hP hD (c_X7_in l G   H.size p0 (nI 1) (nI 200)) (va_cwS 3 hts gX7_runs_X7_in rfl rfl rfl cd2_X7_in ⟨Nat.le_of_ble_eq_true rfl, Nat.le_of_ble_eq_true rfl⟩) [] rfl rfl rfl hl.1 rfl (Nat.le_of_ble_eq_true rfl) dX7_runs_5 ⟨Nat.le_of_ble_eq_true rfl, Nat.le_of_ble_eq_true rfl⟩) hP hD hS hA [] rfl rfl (fun _ => rfl) (fun r_1 _ H locs hw_1 hP hD hS => ?_)
  have hz_r_1 := hw_1.2
  have hw_1 := hw_1.1
  subst hw_1
  have hP : va_P G.1 vwCl (MC G a g M T Y) H := hP
  have hD : va_D A (MC G a g M T Y) := hD
  refine lv_if_ne (tgt := 14) hx hb dX7_runs_8 (by decide) (fun c_2 => ?_) (fun c_2 => ?_)
  · refine lv_bipush (v := (nI 46)) hx hb dX7_runs_14 (by decide) ?_
    refine lv_iload_n hx hb dX7_runs_16 rfl (lv_at hl 1 rfl) ?_
    refine n_imul (i := 46) (j := x) hx hb dX7_runs_17 ?_
    refine lv_istore_n (lv' := [(3, .int (nI (46 * x))), (0, .ref (a 0)), (1, .int (nI x)), (2, .int p0)]) hx hb dX7_runs_18 rfl hl (by decide) rfl (fun ls hl => ?_)
    refine lv_aload_n hx hb dX7_runs_19 rfl (lv_at hl 1 rfl) ?_
    refine va_get (D := G.1) (ci := 7) (v := .ref (a 1)) (C := RX7) (T := TX7) (N := 11) hx hb hts in_X7_runs_RX7 hown hK.1 hP 0 rfl rfl 0 (by decide) (hts _ k_X7_runs_f7) (fun _ h9 => h9) rfl dX7_runs_20 ?_
    refine lv_iload_n hx hb dX7_runs_23 rfl (lv_at hl 0 rfl) ?_
    refine lv_bipush (v := (nI 12)) hx hb dX7_runs_24 (by decide) ?_
    refine n_iadd (i := 46 * x) (j := 12) hx hb dX7_runs_26 ?_
    refine W.eq (g2 := F0 m 27 ls ([.int (nI ((46 * x) + 12)), .ref (a 1)])) (by first | rfl | (simp only [F0]; congr 3; omega)) ?_
    refine n_iald (f := M) (j := (46 * x) + 12) hx hb hK hP 1 rfl (by omega) (by decide) dX7_runs_27 ?_
    refine lv_ldc (v := (nI 99999)) hx hb hown (hts _ k_X7_runs_c82) dX7_runs_28 ?_
    refine lv_iload_n hx hb dX7_runs_30 rfl (lv_at hl 3 rfl) ?_
    refine lv_isub hx hb dX7_runs_31 ?_
    refine lv_icmp_le (tgt := 38) hx hb dX7_runs_32 (by decide) (fun c_3 => ?_) (fun c_3 => ?_)
    · refine lv_aload_n hx hb dX7_runs_38 rfl (lv_at hl 1 rfl) ?_
      refine va_get (D := G.1) (ci := 7) (v := .ref (a 1)) (C := RX7) (T := TX7) (N := 11) hx hb hts in_X7_runs_RX7 hown hK.1 hP 0 rfl rfl 0 (by decide) (hts _ k_X7_runs_f7) (fun _ h9 => h9) rfl dX7_runs_39 ?_
      refine lv_iload_n hx hb dX7_runs_42 rfl (lv_at hl 0 rfl) ?_
      refine lv_bipush (v := (nI 41)) hx hb dX7_runs_43 (by decide) ?_
      refine n_iadd (i := 46 * x) (j := 41) hx hb dX7_runs_45 ?_
      refine W.eq (g2 := F0 m 46 ls ([.int (nI ((46 * x) + 41)), .ref (a 1)])) (by first | rfl | (simp only [F0]; congr 3; omega)) ?_
      refine n_iald (f := M) (j := (46 * x) + 41) hx hb hK hP 1 rfl (by omega) (by decide) dX7_runs_46 ?_
      refine lv_istore (lv' := [(4, .int (M ((46 * x) + 41))), (3, .int (nI (46 * x))), (0, .ref (a 0)), (1, .int (nI x)), (2, .int p0)]) hx hb dX7_runs_47 hl (by decide) rfl (fun ls hl => ?_)
      refine lv_aload_n hx hb dX7_runs_49 rfl (lv_at hl 2 rfl) ?_
      refine lv_iload_n hx hb dX7_runs_50 rfl (lv_at hl 3 rfl) ?_
      refine lv_iload_n hx hb dX7_runs_51 rfl (lv_at hl 4 rfl) ?_
      refine gcall_V (run_V (As := [.int (nI x), .int p0]) (rest := []) C0 hK hP hD (c_X7_ticks l G a g M T Y H.size x p0 hx6 hT0) (cwV 2 hts gX7_runs_X7_ticks rfl rfl rfl cd_X7_ticks ⟨Nat.le_of_ble_eq_true rfl, Nat.le_of_ble_eq_true rfl⟩) [0, 1, 2, 3] rfl rfl 0 (ci := 7) rfl rfl rfl rfl hl.1 rfl (Nat.le_of_ble_eq_true rfl) dX7_runs_52 ⟨Nat.le_of_ble_eq_true rfl, Nat.le_of_ble_eq_true rfl⟩) hP hD hS hA [0, 1, 2, 3] rfl rfl (fun _ => rfl) (fun u_4 H locs hw_4 hP hD hS => ?_)
      obtain ⟨M_c4, rfl⟩ : ∃ z, z = u_4 := ⟨_, rfl⟩
      have hP : va_P G.1 vwCl (MC G a g M_c4 T Y) H := hP
      have hD : va_D A (MC G a g M_c4 T Y) := hD
      refine lv_aload_n hx hb dX7_runs_55 rfl (lv_at hl 2 rfl) ?_
      refine va_get (D := G.1) (ci := 7) (v := .ref (a 1)) (C := RX7) (T := TX7) (N := 11) hx hb hts in_X7_runs_RX7 hown hK.1 hP 0 rfl rfl 0 (by decide) (hts _ k_X7_runs_f7) (fun _ h9 => h9) rfl dX7_runs_56 ?_
      refine lv_iload_n hx hb dX7_runs_59 rfl (lv_at hl 1 rfl) ?_
      refine lv_bipush (v := (nI 41)) hx hb dX7_runs_60 (by decide) ?_
      refine n_iadd (i := 46 * x) (j := 41) hx hb dX7_runs_62 ?_
      refine W.eq (g2 := F0 m 63 ls ([.int (nI ((46 * x) + 41)), .ref (a 1)])) (by first | rfl | (simp only [F0]; congr 3; omega)) ?_
      refine n_iald (f := M_c4) (j := (46 * x) + 41) hx hb hK hP 1 rfl (by omega) (by decide) dX7_runs_63 ?_
      refine lv_iload hx hb dX7_runs_64 (lv_at hl 0 rfl) ?_
      refine lv_isub hx hb dX7_runs_66 ?_
      exact end_I C0 hP hD hS M_c4 (by simp only [f_X7_runs, if_neg c_2, if_pos c_3, hw_4]) rfl dX7_runs_67
    · refine lv_bipush (v := (-3)) hx hb dX7_runs_35 (by decide) ?_
      exact end_I C0 hP hD hS M (by simp only [f_X7_runs, if_neg c_2, if_neg c_3]) rfl dX7_runs_37
  · refine lv_bipush (v := (-2)) hx hb dX7_runs_11 (by decide) ?_
    exact end_I C0 hP hD hS M (by simp only [f_X7_runs, if_pos c_2]) rfl dX7_runs_13

def f_X7_starts (M : (Nat → Int32)) (x : Nat) (p0 : Int32) (p1 : Int32) : Int32 × (Nat → Int32) :=
  if (f_X7_in p0 (nI 0) (nI 3)) = 0 then
    ((-1), M)
  else
    if (f_X7_in p1 (nI 0) (nI 2)) = 0 then
      ((-1), M)
    else
      match f_X7_why M x (nI p0.toNatClampNeg) p1 with
      | (r_5, M_c5) =>
        if r_5 ≤ 0 then
          match f_X7_puts M_c5 (46 * x) p0.toNatClampNeg p1 with
          | M_c7 =>
            ((f_X7_ticksOf p1), M_c7)
        else
          (((-10) - r_5), M_c5)
theorem cd_X7_starts : yX7_starts.cls = RX7 ∧ yX7_starts.cls ≠ "java/lang/invoke/MethodHandle" ∧ yX7_starts.cls ≠ "java/lang/invoke/VarHandle" ∧ (parseMethodDescriptor yX7_starts.desc).map (fun d => d.parameters.length) = some 3 := by decide +kernel
set_option maxHeartbeats 4000000 in
set_option maxRecDepth 100000 in
theorem c_X7_starts (l : Launch) (G : GG) (a : Nat → Nat) (g : (Nat → Int32)) (M : (Nat → Int32)) (T : (Nat → Int32)) (Y : (Nat → Int32)) (sz : Nat) (x : Nat) (p0 : Int32) (p1 : Int32) (v : (Nat → Int32)) (q : (Nat → Int32)) (hx6 : x ≤ 6) (hAA : At M (46 * x) v q) (hv : InvW v) : Met l yX7_starts wsX7_starts ({ frames := 5, cells := 0, slots := 0, locals := 118 }) (Pre G [.ref (a 0), .int (nI x), .int p0, .int p1] (MC G a g M T Y) sz) (PI G (va_A (MC G a g M T Y) sz) (fun r (u : (Nat → Int32)) => f_X7_starts M x p0 p1 = (r, u)) (fun u : (Nat → Int32) => MC G a g u T Y)) 0 0 (va_A (MC G a g M T Y) sz) := by
  refine Met.walk (cc := cX7_starts) (maxL := 5) (ret := (some .int)) (Qc := fun A => PI G A (fun r (u : (Nat → Int32)) => f_X7_starts M x p0 p1 = (r, u)) (fun u : (Nat → Int32) => MC G a g u T Y)) (by decide) rfl (Nat.le_of_ble_eq_true rfl) ?_
  intro p e s m below meth c A H C0 _ hK hsz hP hD hA hS ls hl
  have hx := C0.1
  have hb := C0.2.1
  have hown : s.vm.findClass RX7 = some m.cls := C0.2.2.2.2.1
  have hml := C0.2.2.2.1
  have hts : ∀ w ∈ wsX7_starts, w.before [.ref (a 0), .int (nI x), .int p0, .int p1].toArray s = true := C0.2.2.2.2.2.1
  have hl : lv_has ls 5 [(0, .ref (a 0)), (1, .int (nI x)), (2, .int p0), (3, .int p1)] := hl
  refine lv_iload_n hx hb dX7_starts_0 rfl (lv_at hl 2 rfl) ?_
  refine lv_iconst (v := (nI 0)) hx hb dX7_starts_1 (by decide) ?_
  refine lv_iconst (v := (nI 3)) hx hb dX7_starts_2 (by decide) ?_
  refine gcall_I (run_S (As := [.int p0, .int (nI 0), .int (nI 3)]) (rest := []) C0 hK hP hD (c_X7_in l G   H.size p0 (nI 0) (nI 3)) (va_cwS 3 hts gX7_starts_X7_in rfl rfl rfl cd2_X7_in ⟨Nat.le_of_ble_eq_true rfl, Nat.le_of_ble_eq_true rfl⟩) [] rfl rfl rfl hl.1 rfl (Nat.le_of_ble_eq_true rfl) dX7_starts_3 ⟨Nat.le_of_ble_eq_true rfl, Nat.le_of_ble_eq_true rfl⟩) hP hD hS hA [] rfl rfl (fun _ => rfl) (fun r_1 _ H locs hw_1 hP hD hS => ?_)
  have hz_r_1 := hw_1.2
  have hw_1 := hw_1.1
  subst hw_1
  have hP : va_P G.1 vwCl (MC G a g M T Y) H := hP
  have hD : va_D A (MC G a g M T Y) := hD
  refine lv_if_eq (tgt := 18) hx hb dX7_starts_6 (by decide) (fun c_2 => ?_) (fun c_2 => ?_)
  · refine lv_iconst (v := (-1)) hx hb dX7_starts_18 (by decide) ?_
    exact end_I C0 hP hD hS M (by simp only [f_X7_starts, if_pos c_2]) rfl dX7_starts_19
  · refine lv_iload_n hx hb dX7_starts_9 rfl (lv_at hl 3 rfl) ?_
    refine lv_iconst (v := (nI 0)) hx hb dX7_starts_10 (by decide) ?_
    refine lv_iconst (v := (nI 2)) hx hb dX7_starts_11 (by decide) ?_
    refine gcall_I (run_S (As := [.int p1, .int (nI 0), .int (nI 2)]) (rest := []) C0 hK hP hD (c_X7_in l G   H.size p1 (nI 0) (nI 2)) (va_cwS 3 hts gX7_starts_X7_in rfl rfl rfl cd2_X7_in ⟨Nat.le_of_ble_eq_true rfl, Nat.le_of_ble_eq_true rfl⟩) [] rfl rfl rfl hl.1 rfl (Nat.le_of_ble_eq_true rfl) dX7_starts_12 ⟨Nat.le_of_ble_eq_true rfl, Nat.le_of_ble_eq_true rfl⟩) hP hD hS hA [] rfl rfl (fun _ => rfl) (fun r_3 _ H locs hw_3 hP hD hS => ?_)
    have hz_r_3 := hw_3.2
    have hw_3 := hw_3.1
    subst hw_3
    have hP : va_P G.1 vwCl (MC G a g M T Y) H := hP
    have hD : va_D A (MC G a g M T Y) := hD
    refine lv_if_ne (tgt := 20) hx hb dX7_starts_15 (by decide) (fun c_4 => ?_) (fun c_4 => ?_)
    · have ej_2 : p0 = nI p0.toNatClampNeg := natOf (inNat0 c_2)
      have hj_2 : p0.toNatClampNeg ≤ 3 := inLe c_2 (by decide)
      have hl : lv_has ls 5 [(0, .ref (a 0)), (1, .int (nI x)), (2, .int (nI p0.toNatClampNeg)), (3, .int p1)] := by rw [← ej_2]; exact hl
      refine lv_aload_n hx hb dX7_starts_20 rfl (lv_at hl 0 rfl) ?_
      refine lv_iload_n hx hb dX7_starts_21 rfl (lv_at hl 1 rfl) ?_
      refine lv_iload_n hx hb dX7_starts_22 rfl (lv_at hl 2 rfl) ?_
      refine lv_iload_n hx hb dX7_starts_23 rfl (lv_at hl 3 rfl) ?_
      refine gcall_I (run_V (As := [.int (nI x), .int (nI p0.toNatClampNeg), .int p1]) (rest := []) C0 hK hP hD (c_X7_why l G a g M T Y H.size x (nI p0.toNatClampNeg) p1 v q hx6 hAA hv ((nI_ltI (by omega) (by decide)).mpr (by omega)) (inK3 c_4)) (cwV 3 hts gX7_starts_X7_why rfl rfl rfl cd_X7_why ⟨Nat.le_of_ble_eq_true rfl, Nat.le_of_ble_eq_true rfl⟩) [0, 1, 2, 3] rfl rfl 0 (ci := 7) rfl rfl rfl rfl hl.1 rfl (Nat.le_of_ble_eq_true rfl) dX7_starts_24 ⟨Nat.le_of_ble_eq_true rfl, Nat.le_of_ble_eq_true rfl⟩) hP hD hS hA [0, 1, 2, 3] rfl rfl (fun _ => rfl) (fun r_5 u_5 H locs hw_5 hP hD hS => ?_)
      obtain ⟨M_c5, rfl⟩ : ∃ z, z = u_5 := ⟨_, rfl⟩
      have hP : va_P G.1 vwCl (MC G a g M_c5 T Y) H := hP
      have hD : va_D A (MC G a g M_c5 T Y) := hD
      refine lv_istore (lv' := [(4, .int r_5), (0, .ref (a 0)), (1, .int (nI x)), (2, .int (nI p0.toNatClampNeg)), (3, .int p1)]) hx hb dX7_starts_27 hl (by decide) rfl (fun ls hl => ?_)
      refine lv_iload hx hb dX7_starts_29 (lv_at hl 0 rfl) ?_
      refine lv_if_le (tgt := 40) hx hb dX7_starts_31 (by decide) (fun c_6 => ?_) (fun c_6 => ?_)
      · refine lv_aload_n hx hb dX7_starts_40 rfl (lv_at hl 1 rfl) ?_
        refine lv_bipush (v := (nI 46)) hx hb dX7_starts_41 (by decide) ?_
        refine lv_iload_n hx hb dX7_starts_43 rfl (lv_at hl 2 rfl) ?_
        refine n_imul (i := 46) (j := x) hx hb dX7_starts_44 ?_
        refine lv_iload_n hx hb dX7_starts_45 rfl (lv_at hl 3 rfl) ?_
        refine lv_iload_n hx hb dX7_starts_46 rfl (lv_at hl 4 rfl) ?_
        refine gcall_V (run_V (As := [.int (nI (46 * x)), .int (nI p0.toNatClampNeg), .int p1]) (rest := []) C0 hK hP hD (c_X7_puts l G a g M_c5 T Y H.size (46 * x) p0.toNatClampNeg p1 (by omega) (by omega)) (cwV 3 hts gX7_starts_X7_puts rfl rfl rfl cd_X7_puts ⟨Nat.le_of_ble_eq_true rfl, Nat.le_of_ble_eq_true rfl⟩) [0, 1, 2, 3] rfl rfl 0 (ci := 7) rfl rfl rfl rfl hl.1 rfl (Nat.le_of_ble_eq_true rfl) dX7_starts_47 ⟨Nat.le_of_ble_eq_true rfl, Nat.le_of_ble_eq_true rfl⟩) hP hD hS hA [0, 1, 2, 3] rfl rfl (fun _ => rfl) (fun u_7 H locs hw_7 hP hD hS => ?_)
        obtain ⟨M_c7, rfl⟩ : ∃ z, z = u_7 := ⟨_, rfl⟩
        have hP : va_P G.1 vwCl (MC G a g M_c7 T Y) H := hP
        have hD : va_D A (MC G a g M_c7 T Y) := hD
        refine lv_iload_n hx hb dX7_starts_50 rfl (lv_at hl 4 rfl) ?_
        refine gcall_I (run_S (As := [.int p1]) (rest := []) C0 hK hP hD (c_X7_ticksOf l G   H.size p1) (va_cwS 1 hts gX7_starts_X7_ticksOf rfl rfl rfl cd2_X7_ticksOf ⟨Nat.le_of_ble_eq_true rfl, Nat.le_of_ble_eq_true rfl⟩) [] rfl rfl rfl hl.1 rfl (Nat.le_of_ble_eq_true rfl) dX7_starts_51 ⟨Nat.le_of_ble_eq_true rfl, Nat.le_of_ble_eq_true rfl⟩) hP hD hS hA [] rfl rfl (fun _ => rfl) (fun r_8 _ H locs hw_8 hP hD hS => ?_)
        subst hw_8
        have hP : va_P G.1 vwCl (MC G a g M_c7 T Y) H := hP
        have hD : va_D A (MC G a g M_c7 T Y) := hD
        exact end_I C0 hP hD hS M_c7 (by simp only [f_X7_starts, if_neg c_2, if_neg c_4, hw_5, if_pos c_6, hw_7]) rfl dX7_starts_54
      · refine lv_bipush (v := (-10)) hx hb dX7_starts_34 (by decide) ?_
        refine lv_iload hx hb dX7_starts_36 (lv_at hl 0 rfl) ?_
        refine lv_isub hx hb dX7_starts_38 ?_
        exact end_I C0 hP hD hS M_c5 (by simp only [f_X7_starts, if_neg c_2, if_neg c_4, hw_5, if_neg c_6]) rfl dX7_starts_39
    · refine lv_iconst (v := (-1)) hx hb dX7_starts_18 (by decide) ?_
      exact end_I C0 hP hD hS M (by simp only [f_X7_starts, if_neg c_2, if_pos c_4]) rfl dX7_starts_19

def f_X7_start (g : (Nat → Int32)) (M : (Nat → Int32)) (p0 : Int32) (p1 : Int32) (ns : Nat) : Int32 × (Nat → Int32) × (Nat → Int32) :=
  match f_X7_starts (cpyM M 0 6 46) 6 p0 p1 with
  | (r_2, M_c2) =>
    match f_X7_settles g M_c2 r_2 ns with
    | (r_3, g_c3, M_c3) =>
      (r_3, g_c3, M_c3)
theorem cd_X7_start : yX7_start.cls = RX7 ∧ yX7_start.cls ≠ "java/lang/invoke/MethodHandle" ∧ yX7_start.cls ≠ "java/lang/invoke/VarHandle" ∧ (parseMethodDescriptor yX7_start.desc).map (fun d => d.parameters.length) = some 2 := by decide +kernel
set_option maxHeartbeats 4000000 in
set_option maxRecDepth 100000 in
theorem c_X7_start (l : Launch) (G : GG) (a : Nat → Nat) (g : (Nat → Int32)) (M : (Nat → Int32)) (T : (Nat → Int32)) (Y : (Nat → Int32)) (sz : Nat) (p0 : Int32) (p1 : Int32) (ns : Nat) (v : (Nat → Int32)) (q : (Nat → Int32)) (hs : g 0 = nI ns) (hn : ns ≤ 4) (hAA : At M 0 v q) (hL : InvL v q) : Met l yX7_start wsX7_start ({ frames := 6, cells := 0, slots := 0, locals := 142 }) (Pre G [.ref (a 0), .int p0, .int p1] (MC G a g M T Y) sz) (PI G (va_A (MC G a g M T Y) sz) (fun r (u : (Nat → Int32) × (Nat → Int32)) => f_X7_start g M p0 p1 ns = (r, u)) (fun u : (Nat → Int32) × (Nat → Int32) => MC G a u.1 u.2 T Y)) 0 0 (va_A (MC G a g M T Y) sz) := by
  refine Met.walk (cc := cX7_start) (maxL := 3) (ret := (some .int)) (Qc := fun A => PI G A (fun r (u : (Nat → Int32) × (Nat → Int32)) => f_X7_start g M p0 p1 ns = (r, u)) (fun u : (Nat → Int32) × (Nat → Int32) => MC G a u.1 u.2 T Y)) (by decide) rfl (Nat.le_of_ble_eq_true rfl) ?_
  intro p e s m below meth c A H C0 _ hK hsz hP hD hA hS ls hl
  have hx := C0.1
  have hb := C0.2.1
  have hown : s.vm.findClass RX7 = some m.cls := C0.2.2.2.2.1
  have hml := C0.2.2.2.1
  have hts : ∀ w ∈ wsX7_start, w.before [.ref (a 0), .int p0, .int p1].toArray s = true := C0.2.2.2.2.2.1
  have hl : lv_has ls 3 [(0, .ref (a 0)), (1, .int p0), (2, .int p1)] := hl
  refine lv_aload_n hx hb dX7_start_0 rfl (lv_at hl 0 rfl) ?_
  refine lv_iconst (v := (nI 0)) hx hb dX7_start_1 (by decide) ?_
  refine lv_bipush (v := (nI 6)) hx hb dX7_start_2 (by decide) ?_
  refine gcall_V (run_V (As := [.int (nI 0), .int (nI 6)]) (rest := []) C0 hK hP hD (c_X7_copies l G a g M T Y H.size 0 6 (by omega) (by omega) (by omega)) (cwV 2 hts gX7_start_X7_copies rfl rfl rfl cd_X7_copies ⟨Nat.le_of_ble_eq_true rfl, Nat.le_of_ble_eq_true rfl⟩) [0, 1, 2, 3] rfl rfl 0 (ci := 7) rfl rfl rfl rfl hl.1 rfl (Nat.le_of_ble_eq_true rfl) dX7_start_4 ⟨Nat.le_of_ble_eq_true rfl, Nat.le_of_ble_eq_true rfl⟩) hP hD hS hA [0, 1, 2, 3] rfl rfl (fun _ => rfl) (fun u_1 H locs hw_1 hP hD hS => ?_)
  obtain ⟨M_c1, rfl⟩ : ∃ z, z = u_1 := ⟨_, rfl⟩
  simp only [f_X7_copies, Prod.mk.injEq] at hw_1
  obtain rfl := hw_1
  have hP : va_P G.1 vwCl (MC G a g (cpyM M 0 6 46) T Y) H := hP
  have hD : va_D A (MC G a g (cpyM M 0 6 46) T Y) := hD
  refine lv_aload_n hx hb dX7_start_7 rfl (lv_at hl 0 rfl) ?_
  refine lv_aload_n hx hb dX7_start_8 rfl (lv_at hl 0 rfl) ?_
  refine lv_bipush (v := (nI 6)) hx hb dX7_start_9 (by decide) ?_
  refine lv_iload_n hx hb dX7_start_11 rfl (lv_at hl 1 rfl) ?_
  refine lv_iload_n hx hb dX7_start_12 rfl (lv_at hl 2 rfl) ?_
  refine gcall_I (run_V (As := [.int (nI 6), .int p0, .int p1]) (rest := [.ref (a 0)]) C0 hK hP hD (c_X7_starts l G a g (cpyM M 0 6 46) T Y H.size 6 p0 p1 v q (by omega) hAA.cpy06 hL.1) (cwV 3 hts gX7_start_X7_starts rfl rfl rfl cd_X7_starts ⟨Nat.le_of_ble_eq_true rfl, Nat.le_of_ble_eq_true rfl⟩) [0, 1, 2, 3] rfl rfl 0 (ci := 7) rfl rfl rfl rfl hl.1 rfl (Nat.le_of_ble_eq_true rfl) dX7_start_13 ⟨Nat.le_of_ble_eq_true rfl, Nat.le_of_ble_eq_true rfl⟩) hP hD hS hA [0, 1, 2, 3] rfl rfl (fun _ => rfl) (fun r_2 u_2 H locs hw_2 hP hD hS => ?_)
  obtain ⟨M_c2, rfl⟩ : ∃ z, z = u_2 := ⟨_, rfl⟩
  have hP : va_P G.1 vwCl (MC G a g M_c2 T Y) H := hP
  have hD : va_D A (MC G a g M_c2 T Y) := hD
  refine gcall_I (run_V (As := [.int r_2]) (rest := []) C0 hK hP hD (c_X7_settles l G a g M_c2 T Y H.size r_2 ns hs hn) (cwV 1 hts gX7_start_X7_settles rfl rfl rfl cd_X7_settles ⟨Nat.le_of_ble_eq_true rfl, Nat.le_of_ble_eq_true rfl⟩) [0, 1, 2, 3] rfl rfl 0 (ci := 7) rfl rfl rfl rfl hl.1 rfl (Nat.le_of_ble_eq_true rfl) dX7_start_16 ⟨Nat.le_of_ble_eq_true rfl, Nat.le_of_ble_eq_true rfl⟩) hP hD hS hA [0, 1, 2, 3] rfl rfl (fun _ => rfl) (fun r_3 u_3 H locs hw_3 hP hD hS => ?_)
  obtain ⟨g_c3, M_c3⟩ := u_3
  have hP : va_P G.1 vwCl (MC G a g_c3 M_c3 T Y) H := hP
  have hD : va_D A (MC G a g_c3 M_c3 T Y) := hD
  exact end_I C0 hP hD hS (g_c3, M_c3) (by simp only [f_X7_start, hw_2, hw_3]) rfl dX7_start_19

def f_X7_queue (g : (Nat → Int32)) (M : (Nat → Int32)) (p0 : Int32) (ns : Nat) : Int32 × (Nat → Int32) × (Nat → Int32) :=
  match f_X7_queues (cpyM M 0 6 46) 6 p0 (((cpyM M 0 6 46) (46 * 6 + 25)).toNatClampNeg) with
  | (r_2, M_c2) =>
    match f_X7_settles g M_c2 r_2 ns with
    | (r_3, g_c3, M_c3) =>
      (r_3, g_c3, M_c3)
theorem cd_X7_queue : yX7_queue.cls = RX7 ∧ yX7_queue.cls ≠ "java/lang/invoke/MethodHandle" ∧ yX7_queue.cls ≠ "java/lang/invoke/VarHandle" ∧ (parseMethodDescriptor yX7_queue.desc).map (fun d => d.parameters.length) = some 1 := by decide +kernel
set_option maxHeartbeats 4000000 in
set_option maxRecDepth 100000 in
theorem c_X7_queue (l : Launch) (G : GG) (a : Nat → Nat) (g : (Nat → Int32)) (M : (Nat → Int32)) (T : (Nat → Int32)) (Y : (Nat → Int32)) (sz : Nat) (p0 : Int32) (ns : Nat) (v : (Nat → Int32)) (q : (Nat → Int32)) (hs : g 0 = nI ns) (hn : ns ≤ 4) (hAA : At M 0 v q) (hL : InvL v q) : Met l yX7_queue wsX7_queue ({ frames := 3, cells := 0, slots := 0, locals := 65 }) (Pre G [.ref (a 0), .int p0] (MC G a g M T Y) sz) (PI G (va_A (MC G a g M T Y) sz) (fun r (u : (Nat → Int32) × (Nat → Int32)) => f_X7_queue g M p0 ns = (r, u)) (fun u : (Nat → Int32) × (Nat → Int32) => MC G a u.1 u.2 T Y)) 0 0 (va_A (MC G a g M T Y) sz) := by
  refine Met.walk (cc := cX7_queue) (maxL := 2) (ret := (some .int)) (Qc := fun A => PI G A (fun r (u : (Nat → Int32) × (Nat → Int32)) => f_X7_queue g M p0 ns = (r, u)) (fun u : (Nat → Int32) × (Nat → Int32) => MC G a u.1 u.2 T Y)) (by decide) rfl (Nat.le_of_ble_eq_true rfl) ?_
  intro p e s m below meth c A H C0 _ hK hsz hP hD hA hS ls hl
  have hx := C0.1
  have hb := C0.2.1
  have hown : s.vm.findClass RX7 = some m.cls := C0.2.2.2.2.1
  have hml := C0.2.2.2.1
  have hts : ∀ w ∈ wsX7_queue, w.before [.ref (a 0), .int p0].toArray s = true := C0.2.2.2.2.2.1
  have hl : lv_has ls 2 [(0, .ref (a 0)), (1, .int p0)] := hl
  refine lv_aload_n hx hb dX7_queue_0 rfl (lv_at hl 0 rfl) ?_
  refine lv_iconst (v := (nI 0)) hx hb dX7_queue_1 (by decide) ?_
  refine lv_bipush (v := (nI 6)) hx hb dX7_queue_2 (by decide) ?_
  refine gcall_V (run_V (As := [.int (nI 0), .int (nI 6)]) (rest := []) C0 hK hP hD (c_X7_copies l G a g M T Y H.size 0 6 (by omega) (by omega) (by omega)) (cwV 2 hts gX7_queue_X7_copies rfl rfl rfl cd_X7_copies ⟨Nat.le_of_ble_eq_true rfl, Nat.le_of_ble_eq_true rfl⟩) [0, 1, 2, 3] rfl rfl 0 (ci := 7) rfl rfl rfl rfl hl.1 rfl (Nat.le_of_ble_eq_true rfl) dX7_queue_4 ⟨Nat.le_of_ble_eq_true rfl, Nat.le_of_ble_eq_true rfl⟩) hP hD hS hA [0, 1, 2, 3] rfl rfl (fun _ => rfl) (fun u_1 H locs hw_1 hP hD hS => ?_)
  obtain ⟨M_c1, rfl⟩ : ∃ z, z = u_1 := ⟨_, rfl⟩
  simp only [f_X7_copies, Prod.mk.injEq] at hw_1
  obtain rfl := hw_1
  have hP : va_P G.1 vwCl (MC G a g (cpyM M 0 6 46) T Y) H := hP
  have hD : va_D A (MC G a g (cpyM M 0 6 46) T Y) := hD
  refine lv_aload_n hx hb dX7_queue_7 rfl (lv_at hl 0 rfl) ?_
  refine lv_aload_n hx hb dX7_queue_8 rfl (lv_at hl 0 rfl) ?_
  refine lv_bipush (v := (nI 6)) hx hb dX7_queue_9 (by decide) ?_
  refine lv_iload_n hx hb dX7_queue_11 rfl (lv_at hl 1 rfl) ?_
  refine gcall_I (run_V (As := [.int (nI 6), .int p0]) (rest := [.ref (a 0)]) C0 hK hP hD (c_X7_queues l G a g (cpyM M 0 6 46) T Y H.size 6 p0 (((cpyM M 0 6 46) (46 * 6 + 25)).toNatClampNeg) (by omega) (InvL.len hAA.cpy06 hL).1 (InvL.len hAA.cpy06 hL).2.1) (cwV 2 hts gX7_queue_X7_queues rfl rfl rfl cd_X7_queues ⟨Nat.le_of_ble_eq_true rfl, Nat.le_of_ble_eq_true rfl⟩) [0, 1, 2, 3] rfl rfl 0 (ci := 7) rfl rfl rfl rfl hl.1 rfl (Nat.le_of_ble_eq_true rfl) dX7_queue_12 ⟨Nat.le_of_ble_eq_true rfl, Nat.le_of_ble_eq_true rfl⟩) hP hD hS hA [0, 1, 2, 3] rfl rfl (fun _ => rfl) (fun r_2 u_2 H locs hw_2 hP hD hS => ?_)
  obtain ⟨M_c2, rfl⟩ : ∃ z, z = u_2 := ⟨_, rfl⟩
  have hP : va_P G.1 vwCl (MC G a g M_c2 T Y) H := hP
  have hD : va_D A (MC G a g M_c2 T Y) := hD
  refine gcall_I (run_V (As := [.int r_2]) (rest := []) C0 hK hP hD (c_X7_settles l G a g M_c2 T Y H.size r_2 ns hs hn) (cwV 1 hts gX7_queue_X7_settles rfl rfl rfl cd_X7_settles ⟨Nat.le_of_ble_eq_true rfl, Nat.le_of_ble_eq_true rfl⟩) [0, 1, 2, 3] rfl rfl 0 (ci := 7) rfl rfl rfl rfl hl.1 rfl (Nat.le_of_ble_eq_true rfl) dX7_queue_15 ⟨Nat.le_of_ble_eq_true rfl, Nat.le_of_ble_eq_true rfl⟩) hP hD hS hA [0, 1, 2, 3] rfl rfl (fun _ => rfl) (fun r_3 u_3 H locs hw_3 hP hD hS => ?_)
  obtain ⟨g_c3, M_c3⟩ := u_3
  have hP : va_P G.1 vwCl (MC G a g_c3 M_c3 T Y) H := hP
  have hD : va_D A (MC G a g_c3 M_c3 T Y) := hD
  exact end_I C0 hP hD hS (g_c3, M_c3) (by simp only [f_X7_queue, hw_2, hw_3]) rfl dX7_queue_18

def f_X7_run (g : (Nat → Int32)) (M : (Nat → Int32)) (p0 : Int32) (ns : Nat) : Int32 × (Nat → Int32) × (Nat → Int32) :=
  match f_X7_runs (cpyM M 0 6 46) 6 p0 with
  | (r_2, M_c2) =>
    match f_X7_settles g M_c2 r_2 ns with
    | (r_3, g_c3, M_c3) =>
      (r_3, g_c3, M_c3)
theorem cd_X7_run : yX7_run.cls = RX7 ∧ yX7_run.cls ≠ "java/lang/invoke/MethodHandle" ∧ yX7_run.cls ≠ "java/lang/invoke/VarHandle" ∧ (parseMethodDescriptor yX7_run.desc).map (fun d => d.parameters.length) = some 1 := by decide +kernel
set_option maxHeartbeats 4000000 in
set_option maxRecDepth 100000 in
theorem c_X7_run (l : Launch) (G : GG) (a : Nat → Nat) (g : (Nat → Int32)) (M : (Nat → Int32)) (T : (Nat → Int32)) (Y : (Nat → Int32)) (sz : Nat) (p0 : Int32) (ns : Nat) (v : (Nat → Int32)) (q : (Nat → Int32)) (hs : g 0 = nI ns) (hn : ns ≤ 4) (hAA : At M 0 v q) (hL : InvL v q) : Met l yX7_run wsX7_run ({ frames := 7, cells := 0, slots := 0, locals := 167 }) (Pre G [.ref (a 0), .int p0] (MC G a g M T Y) sz) (PI G (va_A (MC G a g M T Y) sz) (fun r (u : (Nat → Int32) × (Nat → Int32)) => f_X7_run g M p0 ns = (r, u)) (fun u : (Nat → Int32) × (Nat → Int32) => MC G a u.1 u.2 T Y)) 0 0 (va_A (MC G a g M T Y) sz) := by
  refine Met.walk (cc := cX7_run) (maxL := 2) (ret := (some .int)) (Qc := fun A => PI G A (fun r (u : (Nat → Int32) × (Nat → Int32)) => f_X7_run g M p0 ns = (r, u)) (fun u : (Nat → Int32) × (Nat → Int32) => MC G a u.1 u.2 T Y)) (by decide) rfl (Nat.le_of_ble_eq_true rfl) ?_
  intro p e s m below meth c A H C0 _ hK hsz hP hD hA hS ls hl
  have hx := C0.1
  have hb := C0.2.1
  have hown : s.vm.findClass RX7 = some m.cls := C0.2.2.2.2.1
  have hml := C0.2.2.2.1
  have hts : ∀ w ∈ wsX7_run, w.before [.ref (a 0), .int p0].toArray s = true := C0.2.2.2.2.2.1
  have hl : lv_has ls 2 [(0, .ref (a 0)), (1, .int p0)] := hl
  refine lv_aload_n hx hb dX7_run_0 rfl (lv_at hl 0 rfl) ?_
  refine lv_iconst (v := (nI 0)) hx hb dX7_run_1 (by decide) ?_
  refine lv_bipush (v := (nI 6)) hx hb dX7_run_2 (by decide) ?_
  refine gcall_V (run_V (As := [.int (nI 0), .int (nI 6)]) (rest := []) C0 hK hP hD (c_X7_copies l G a g M T Y H.size 0 6 (by omega) (by omega) (by omega)) (cwV 2 hts gX7_run_X7_copies rfl rfl rfl cd_X7_copies ⟨Nat.le_of_ble_eq_true rfl, Nat.le_of_ble_eq_true rfl⟩) [0, 1, 2, 3] rfl rfl 0 (ci := 7) rfl rfl rfl rfl hl.1 rfl (Nat.le_of_ble_eq_true rfl) dX7_run_4 ⟨Nat.le_of_ble_eq_true rfl, Nat.le_of_ble_eq_true rfl⟩) hP hD hS hA [0, 1, 2, 3] rfl rfl (fun _ => rfl) (fun u_1 H locs hw_1 hP hD hS => ?_)
  obtain ⟨M_c1, rfl⟩ : ∃ z, z = u_1 := ⟨_, rfl⟩
  simp only [f_X7_copies, Prod.mk.injEq] at hw_1
  obtain rfl := hw_1
  have hP : va_P G.1 vwCl (MC G a g (cpyM M 0 6 46) T Y) H := hP
  have hD : va_D A (MC G a g (cpyM M 0 6 46) T Y) := hD
  refine lv_aload_n hx hb dX7_run_7 rfl (lv_at hl 0 rfl) ?_
  refine lv_aload_n hx hb dX7_run_8 rfl (lv_at hl 0 rfl) ?_
  refine lv_bipush (v := (nI 6)) hx hb dX7_run_9 (by decide) ?_
  refine lv_iload_n hx hb dX7_run_11 rfl (lv_at hl 1 rfl) ?_
  refine gcall_I (run_V (As := [.int (nI 6), .int p0]) (rest := [.ref (a 0)]) C0 hK hP hD (c_X7_runs l G a g (cpyM M 0 6 46) T Y H.size 6 p0 (by omega) (TickOK.c06 hAA hL)) (cwV 2 hts gX7_run_X7_runs rfl rfl rfl cd_X7_runs ⟨Nat.le_of_ble_eq_true rfl, Nat.le_of_ble_eq_true rfl⟩) [0, 1, 2, 3] rfl rfl 0 (ci := 7) rfl rfl rfl rfl hl.1 rfl (Nat.le_of_ble_eq_true rfl) dX7_run_12 ⟨Nat.le_of_ble_eq_true rfl, Nat.le_of_ble_eq_true rfl⟩) hP hD hS hA [0, 1, 2, 3] rfl rfl (fun _ => rfl) (fun r_2 u_2 H locs hw_2 hP hD hS => ?_)
  obtain ⟨M_c2, rfl⟩ : ∃ z, z = u_2 := ⟨_, rfl⟩
  have hP : va_P G.1 vwCl (MC G a g M_c2 T Y) H := hP
  have hD : va_D A (MC G a g M_c2 T Y) := hD
  refine gcall_I (run_V (As := [.int r_2]) (rest := []) C0 hK hP hD (c_X7_settles l G a g M_c2 T Y H.size r_2 ns hs hn) (cwV 1 hts gX7_run_X7_settles rfl rfl rfl cd_X7_settles ⟨Nat.le_of_ble_eq_true rfl, Nat.le_of_ble_eq_true rfl⟩) [0, 1, 2, 3] rfl rfl 0 (ci := 7) rfl rfl rfl rfl hl.1 rfl (Nat.le_of_ble_eq_true rfl) dX7_run_15 ⟨Nat.le_of_ble_eq_true rfl, Nat.le_of_ble_eq_true rfl⟩) hP hD hS hA [0, 1, 2, 3] rfl rfl (fun _ => rfl) (fun r_3 u_3 H locs hw_3 hP hD hS => ?_)
  obtain ⟨g_c3, M_c3⟩ := u_3
  have hP : va_P G.1 vwCl (MC G a g_c3 M_c3 T Y) H := hP
  have hD : va_D A (MC G a g_c3 M_c3 T Y) := hD
  exact end_I C0 hP hD hS (g_c3, M_c3) (by simp only [f_X7_run, hw_2, hw_3]) rfl dX7_run_18

def f_X7_unqueue (g : (Nat → Int32)) (M : (Nat → Int32)) (p0 : Int32) (ns : Nat) : Int32 × (Nat → Int32) × (Nat → Int32) :=
  if (f_X7_in p0 (nI 0) ((M 25) - (nI 1))) = 0 then
    ((-1), g, M)
  else
    match f_X7_records g M ns with
    | (g_c3, M_c3) =>
      match f_X7_leaves M_c3 0 p0.toNatClampNeg ((M 25).toNatClampNeg) with
      | (r_4, M_c4) =>
        (r_4, g_c3, M_c4)
set_option maxRecDepth 20000 in
theorem k_X7_unqueue_f7 : Cond.fieldLink RX7 7 "SteamRationsModel" "s" "[I" ∈ wsX7_unqueue := by decide +kernel
set_option maxRecDepth 20000 in
theorem in_X7_unqueue_RX7 : ∀ w ∈ u_ws RX7 TX7 11, w ∈ wsX7_unqueue := by decide +kernel
theorem cd_X7_unqueue : yX7_unqueue.cls = RX7 ∧ yX7_unqueue.cls ≠ "java/lang/invoke/MethodHandle" ∧ yX7_unqueue.cls ≠ "java/lang/invoke/VarHandle" ∧ (parseMethodDescriptor yX7_unqueue.desc).map (fun d => d.parameters.length) = some 1 := by decide +kernel
set_option maxHeartbeats 4000000 in
set_option maxRecDepth 100000 in
theorem c_X7_unqueue (l : Launch) (G : GG) (a : Nat → Nat) (g : (Nat → Int32)) (M : (Nat → Int32)) (T : (Nat → Int32)) (Y : (Nat → Int32)) (sz : Nat) (p0 : Int32) (ns : Nat) (v : (Nat → Int32)) (q : (Nat → Int32)) (hs : g 0 = nI ns) (hn : ns ≤ 4) (hAA : At M 0 v q) (hL : InvL v q) : Met l yX7_unqueue wsX7_unqueue ({ frames := 2, cells := 0, slots := 0, locals := 44 }) (Pre G [.ref (a 0), .int p0] (MC G a g M T Y) sz) (PI G (va_A (MC G a g M T Y) sz) (fun r (u : (Nat → Int32) × (Nat → Int32)) => f_X7_unqueue g M p0 ns = (r, u)) (fun u : (Nat → Int32) × (Nat → Int32) => MC G a u.1 u.2 T Y)) 0 0 (va_A (MC G a g M T Y) sz) := by
  refine Met.walk (cc := cX7_unqueue) (maxL := 2) (ret := (some .int)) (Qc := fun A => PI G A (fun r (u : (Nat → Int32) × (Nat → Int32)) => f_X7_unqueue g M p0 ns = (r, u)) (fun u : (Nat → Int32) × (Nat → Int32) => MC G a u.1 u.2 T Y)) (by decide) rfl (Nat.le_of_ble_eq_true rfl) ?_
  intro p e s m below meth c A H C0 _ hK hsz hP hD hA hS ls hl
  have hx := C0.1
  have hb := C0.2.1
  have hown : s.vm.findClass RX7 = some m.cls := C0.2.2.2.2.1
  have hml := C0.2.2.2.1
  have hts : ∀ w ∈ wsX7_unqueue, w.before [.ref (a 0), .int p0].toArray s = true := C0.2.2.2.2.2.1
  have hl : lv_has ls 2 [(0, .ref (a 0)), (1, .int p0)] := hl
  refine lv_iload_n hx hb dX7_unqueue_0 rfl (lv_at hl 1 rfl) ?_
  refine lv_iconst (v := (nI 0)) hx hb dX7_unqueue_1 (by decide) ?_
  refine lv_aload_n hx hb dX7_unqueue_2 rfl (lv_at hl 0 rfl) ?_
  refine va_get (D := G.1) (ci := 7) (v := .ref (a 1)) (C := RX7) (T := TX7) (N := 11) hx hb hts in_X7_unqueue_RX7 hown hK.1 hP 0 rfl rfl 0 (by decide) (hts _ k_X7_unqueue_f7) (fun _ h9 => h9) rfl dX7_unqueue_3 ?_
  refine lv_bipush (v := (nI 25)) hx hb dX7_unqueue_6 (by decide) ?_
  refine n_iald (f := M) (j := 25) hx hb hK hP 1 rfl (by decide) (by decide) dX7_unqueue_8 ?_
  refine lv_iconst (v := (nI 1)) hx hb dX7_unqueue_9 (by decide) ?_
  refine lv_isub hx hb dX7_unqueue_10 ?_
  refine gcall_I (run_S (As := [.int p0, .int (nI 0), .int ((M 25) - (nI 1))]) (rest := []) C0 hK hP hD (c_X7_in l G   H.size p0 (nI 0) ((M 25) - (nI 1))) (va_cwS 3 hts gX7_unqueue_X7_in rfl rfl rfl cd2_X7_in ⟨Nat.le_of_ble_eq_true rfl, Nat.le_of_ble_eq_true rfl⟩) [] rfl rfl rfl hl.1 rfl (Nat.le_of_ble_eq_true rfl) dX7_unqueue_11 ⟨Nat.le_of_ble_eq_true rfl, Nat.le_of_ble_eq_true rfl⟩) hP hD hS hA [] rfl rfl (fun _ => rfl) (fun r_1 _ H locs hw_1 hP hD hS => ?_)
  have hz_r_1 := hw_1.2
  have hw_1 := hw_1.1
  subst hw_1
  have hP : va_P G.1 vwCl (MC G a g M T Y) H := hP
  have hD : va_D A (MC G a g M T Y) := hD
  refine lv_if_ne (tgt := 19) hx hb dX7_unqueue_14 (by decide) (fun c_2 => ?_) (fun c_2 => ?_)
  · have ej_2 : p0 = nI p0.toNatClampNeg := natOf (inNat0 c_2)
    have hj_2 : p0.toNatClampNeg < (M 25).toNatClampNeg := inLen c_2 (InvL.len (x := 0) hAA hL).1 (InvL.len (x := 0) hAA hL).2.1
    have hl : lv_has ls 2 [(0, .ref (a 0)), (1, .int (nI p0.toNatClampNeg))] := by rw [← ej_2]; exact hl
    refine lv_aload_n hx hb dX7_unqueue_19 rfl (lv_at hl 0 rfl) ?_
    refine gcall_V (run_V (As := []) (rest := []) C0 hK hP hD (c_X7_records l G a g M T Y H.size ns hs hn) (cwV 0 hts gX7_unqueue_X7_records rfl rfl rfl cd_X7_records ⟨Nat.le_of_ble_eq_true rfl, Nat.le_of_ble_eq_true rfl⟩) [0, 1, 2, 3] rfl rfl 0 (ci := 7) rfl rfl rfl rfl hl.1 rfl (Nat.le_of_ble_eq_true rfl) dX7_unqueue_20 ⟨Nat.le_of_ble_eq_true rfl, Nat.le_of_ble_eq_true rfl⟩) hP hD hS hA [0, 1, 2, 3] rfl rfl (fun _ => rfl) (fun u_3 H locs hw_3 hP hD hS => ?_)
    obtain ⟨g_c3, M_c3⟩ := u_3
    have hrk : M_c3 25 = M 25 := by rw [show M_c3 = (f_X7_records g M ns).2 from by rw [hw_3]]; exact rec_keep hn (Or.inl (by decide))
    have hP : va_P G.1 vwCl (MC G a g_c3 M_c3 T Y) H := hP
    have hD : va_D A (MC G a g_c3 M_c3 T Y) := hD
    refine lv_aload_n hx hb dX7_unqueue_23 rfl (lv_at hl 0 rfl) ?_
    refine lv_iconst (v := (nI 0)) hx hb dX7_unqueue_24 (by decide) ?_
    refine lv_iload_n hx hb dX7_unqueue_25 rfl (lv_at hl 1 rfl) ?_
    refine gcall_I (run_V (As := [.int (nI 0), .int (nI p0.toNatClampNeg)]) (rest := []) C0 hK hP hD (c_X7_leaves l G a g_c3 M_c3 T Y H.size 0 p0.toNatClampNeg ((M 25).toNatClampNeg) (by omega) (hrk.trans (InvL.len (x := 0) hAA hL).1) (InvL.len (x := 0) hAA hL).2.1 (by omega)) (cwV 2 hts gX7_unqueue_X7_leaves rfl rfl rfl cd_X7_leaves ⟨Nat.le_of_ble_eq_true rfl, Nat.le_of_ble_eq_true rfl⟩) [0, 1, 2, 3] rfl rfl 0 (ci := 7) rfl rfl rfl rfl hl.1 rfl (Nat.le_of_ble_eq_true rfl) dX7_unqueue_26 ⟨Nat.le_of_ble_eq_true rfl, Nat.le_of_ble_eq_true rfl⟩) hP hD hS hA [0, 1, 2, 3] rfl rfl (fun _ => rfl) (fun r_4 u_4 H locs hw_4 hP hD hS => ?_)
    obtain ⟨M_c4, rfl⟩ : ∃ z, z = u_4 := ⟨_, rfl⟩
    have hP : va_P G.1 vwCl (MC G a g_c3 M_c4 T Y) H := hP
    have hD : va_D A (MC G a g_c3 M_c4 T Y) := hD
    exact end_I C0 hP hD hS (g_c3, M_c4) (by simp only [f_X7_unqueue, if_neg c_2, hw_3, hw_4]) rfl dX7_unqueue_29
  · refine lv_iconst (v := (-1)) hx hb dX7_unqueue_17 (by decide) ?_
    exact end_I C0 hP hD hS (g, M) (by simp only [f_X7_unqueue, if_pos c_2]) rfl dX7_unqueue_18

def f_X7_reason (M : (Nat → Int32)) (p0 : Int32) : Int32 × (Nat → Int32) :=
  if (f_X7_in p0 (nI 0) (nI 2)) = 0 then
    ((-1), M)
  else
    match f_X7_why M 0 (f_X7_lowestEmpty M 0) p0 with
    | (r_4, M_c4) =>
      (r_4, M_c4)
theorem cd_X7_reason : yX7_reason.cls = RX7 ∧ yX7_reason.cls ≠ "java/lang/invoke/MethodHandle" ∧ yX7_reason.cls ≠ "java/lang/invoke/VarHandle" ∧ (parseMethodDescriptor yX7_reason.desc).map (fun d => d.parameters.length) = some 1 := by decide +kernel
set_option maxHeartbeats 4000000 in
set_option maxRecDepth 100000 in
theorem c_X7_reason (l : Launch) (G : GG) (a : Nat → Nat) (g : (Nat → Int32)) (M : (Nat → Int32)) (T : (Nat → Int32)) (Y : (Nat → Int32)) (sz : Nat) (p0 : Int32) (v : (Nat → Int32)) (q : (Nat → Int32)) (hAA : At M 0 v q) (hL : InvL v q) : Met l yX7_reason wsX7_reason ({ frames := 5, cells := 0, slots := 0, locals := 118 }) (Pre G [.ref (a 0), .int p0] (MC G a g M T Y) sz) (PI G (va_A (MC G a g M T Y) sz) (fun r (u : (Nat → Int32)) => f_X7_reason M p0 = (r, u)) (fun u : (Nat → Int32) => MC G a g u T Y)) 0 0 (va_A (MC G a g M T Y) sz) := by
  refine Met.walk (cc := cX7_reason) (maxL := 2) (ret := (some .int)) (Qc := fun A => PI G A (fun r (u : (Nat → Int32)) => f_X7_reason M p0 = (r, u)) (fun u : (Nat → Int32) => MC G a g u T Y)) (by decide) rfl (Nat.le_of_ble_eq_true rfl) ?_
  intro p e s m below meth c A H C0 _ hK hsz hP hD hA hS ls hl
  have hx := C0.1
  have hb := C0.2.1
  have hown : s.vm.findClass RX7 = some m.cls := C0.2.2.2.2.1
  have hml := C0.2.2.2.1
  have hts : ∀ w ∈ wsX7_reason, w.before [.ref (a 0), .int p0].toArray s = true := C0.2.2.2.2.2.1
  have hl : lv_has ls 2 [(0, .ref (a 0)), (1, .int p0)] := hl
  refine lv_iload_n hx hb dX7_reason_0 rfl (lv_at hl 1 rfl) ?_
  refine lv_iconst (v := (nI 0)) hx hb dX7_reason_1 (by decide) ?_
  refine lv_iconst (v := (nI 2)) hx hb dX7_reason_2 (by decide) ?_
  refine gcall_I (run_S (As := [.int p0, .int (nI 0), .int (nI 2)]) (rest := []) C0 hK hP hD (c_X7_in l G   H.size p0 (nI 0) (nI 2)) (va_cwS 3 hts gX7_reason_X7_in rfl rfl rfl cd2_X7_in ⟨Nat.le_of_ble_eq_true rfl, Nat.le_of_ble_eq_true rfl⟩) [] rfl rfl rfl hl.1 rfl (Nat.le_of_ble_eq_true rfl) dX7_reason_3 ⟨Nat.le_of_ble_eq_true rfl, Nat.le_of_ble_eq_true rfl⟩) hP hD hS hA [] rfl rfl (fun _ => rfl) (fun r_1 _ H locs hw_1 hP hD hS => ?_)
  have hz_r_1 := hw_1.2
  have hw_1 := hw_1.1
  subst hw_1
  have hP : va_P G.1 vwCl (MC G a g M T Y) H := hP
  have hD : va_D A (MC G a g M T Y) := hD
  refine lv_if_eq (tgt := 23) hx hb dX7_reason_6 (by decide) (fun c_2 => ?_) (fun c_2 => ?_)
  · refine lv_iconst (v := (-1)) hx hb dX7_reason_23 (by decide) ?_
    exact end_I C0 hP hD hS M (by simp only [f_X7_reason, if_pos c_2]) rfl dX7_reason_24
  · refine lv_aload_n hx hb dX7_reason_9 rfl (lv_at hl 0 rfl) ?_
    refine lv_iconst (v := (nI 0)) hx hb dX7_reason_10 (by decide) ?_
    refine lv_aload_n hx hb dX7_reason_11 rfl (lv_at hl 0 rfl) ?_
    refine lv_iconst (v := (nI 0)) hx hb dX7_reason_12 (by decide) ?_
    refine gcall_I (run_V (As := [.int (nI 0)]) (rest := [.int (nI 0), .ref (a 0)]) C0 hK hP hD (c_X7_lowestEmpty l G a g M T Y H.size 0 (by omega)) (cwV 1 hts gX7_reason_X7_lowestEmpty rfl rfl rfl cd_X7_lowestEmpty ⟨Nat.le_of_ble_eq_true rfl, Nat.le_of_ble_eq_true rfl⟩) [0, 1, 2, 3] rfl rfl 0 (ci := 7) rfl rfl rfl rfl hl.1 rfl (Nat.le_of_ble_eq_true rfl) dX7_reason_13 ⟨Nat.le_of_ble_eq_true rfl, Nat.le_of_ble_eq_true rfl⟩) hP hD hS hA [0, 1, 2, 3] rfl rfl (fun _ => rfl) (fun r_3 _ H locs hw_3 hP hD hS => ?_)
    subst hw_3
    have hP : va_P G.1 vwCl (MC G a g M T Y) H := hP
    have hD : va_D A (MC G a g M T Y) := hD
    refine lv_iload_n hx hb dX7_reason_16 rfl (lv_at hl 1 rfl) ?_
    refine gcall_I (run_V (As := [.int (nI 0), .int (f_X7_lowestEmpty M 0), .int p0]) (rest := []) C0 hK hP hD (c_X7_why l G a g M T Y H.size 0 (f_X7_lowestEmpty M 0) p0 v q (by omega) hAA hL.1 (by rw [low_at (b := 0) hAA hL.1.1.1]; exact lowI_lt _) (inK3 c_2)) (cwV 3 hts gX7_reason_X7_why rfl rfl rfl cd_X7_why ⟨Nat.le_of_ble_eq_true rfl, Nat.le_of_ble_eq_true rfl⟩) [0, 1, 2, 3] rfl rfl 0 (ci := 7) rfl rfl rfl rfl hl.1 rfl (Nat.le_of_ble_eq_true rfl) dX7_reason_17 ⟨Nat.le_of_ble_eq_true rfl, Nat.le_of_ble_eq_true rfl⟩) hP hD hS hA [0, 1, 2, 3] rfl rfl (fun _ => rfl) (fun r_4 u_4 H locs hw_4 hP hD hS => ?_)
    obtain ⟨M_c4, rfl⟩ : ∃ z, z = u_4 := ⟨_, rfl⟩
    have hP : va_P G.1 vwCl (MC G a g M_c4 T Y) H := hP
    have hD : va_D A (MC G a g M_c4 T Y) := hD
    refine lv_goto (tgt := 24) hx hb dX7_reason_20 (by decide) ?_
    exact end_I C0 hP hD hS M_c4 (by simp only [f_X7_reason, if_neg c_2, hw_4]) rfl dX7_reason_24

def f_X7_tries (M : (Nat → Int32)) (p0 : Int32) (p1 : Int32) (p2 : Int32) : (Nat → Int32) :=
  match f_X7_ticks (upd (upd (cpyM M 0 6 46) 276 p0) 277 p1) 6 p2 with
  | M_c2 =>
    M_c2
set_option maxRecDepth 20000 in
theorem k_X7_tries_f7 : Cond.fieldLink RX7 7 "SteamRationsModel" "s" "[I" ∈ wsX7_tries := by decide +kernel
set_option maxRecDepth 20000 in
theorem in_X7_tries_RX7 : ∀ w ∈ u_ws RX7 TX7 11, w ∈ wsX7_tries := by decide +kernel
theorem cd_X7_tries : yX7_tries.cls = RX7 ∧ yX7_tries.cls ≠ "java/lang/invoke/MethodHandle" ∧ yX7_tries.cls ≠ "java/lang/invoke/VarHandle" ∧ (parseMethodDescriptor yX7_tries.desc).map (fun d => d.parameters.length) = some 3 := by decide +kernel
set_option maxHeartbeats 4000000 in
set_option maxRecDepth 100000 in
theorem c_X7_tries (l : Launch) (G : GG) (a : Nat → Nat) (g : (Nat → Int32)) (M : (Nat → Int32)) (T : (Nat → Int32)) (Y : (Nat → Int32)) (sz : Nat) (p0 : Int32) (p1 : Int32) (p2 : Int32) (v : (Nat → Int32)) (q : (Nat → Int32)) (hAA : At M 0 v q) (hL : InvL v q) (hp0 : 0 ≤ p0) (hp1 : 0 ≤ p1) : Met l yX7_tries wsX7_tries ({ frames := 6, cells := 0, slots := 0, locals := 143 }) (Pre G [.ref (a 0), .int p0, .int p1, .int p2] (MC G a g M T Y) sz) (PV G (va_A (MC G a g M T Y) sz) (fun u : (Nat → Int32) => f_X7_tries M p0 p1 p2 = u) (fun u : (Nat → Int32) => MC G a g u T Y)) 0 0 (va_A (MC G a g M T Y) sz) := by
  refine Met.walk (cc := cX7_tries) (maxL := 4) (ret := none) (Qc := fun A => PV G A (fun u : (Nat → Int32) => f_X7_tries M p0 p1 p2 = u) (fun u : (Nat → Int32) => MC G a g u T Y)) (by decide) rfl (Nat.le_of_ble_eq_true rfl) ?_
  intro p e s m below meth c A H C0 _ hK hsz hP hD hA hS ls hl
  have hx := C0.1
  have hb := C0.2.1
  have hown : s.vm.findClass RX7 = some m.cls := C0.2.2.2.2.1
  have hml := C0.2.2.2.1
  have hts : ∀ w ∈ wsX7_tries, w.before [.ref (a 0), .int p0, .int p1, .int p2].toArray s = true := C0.2.2.2.2.2.1
  have hl : lv_has ls 4 [(0, .ref (a 0)), (1, .int p0), (2, .int p1), (3, .int p2)] := hl
  refine lv_aload_n hx hb dX7_tries_0 rfl (lv_at hl 0 rfl) ?_
  refine lv_iconst (v := (nI 0)) hx hb dX7_tries_1 (by decide) ?_
  refine lv_bipush (v := (nI 6)) hx hb dX7_tries_2 (by decide) ?_
  refine gcall_V (run_V (As := [.int (nI 0), .int (nI 6)]) (rest := []) C0 hK hP hD (c_X7_copies l G a g M T Y H.size 0 6 (by omega) (by omega) (by omega)) (cwV 2 hts gX7_tries_X7_copies rfl rfl rfl cd_X7_copies ⟨Nat.le_of_ble_eq_true rfl, Nat.le_of_ble_eq_true rfl⟩) [0, 1, 2, 3] rfl rfl 0 (ci := 7) rfl rfl rfl rfl hl.1 rfl (Nat.le_of_ble_eq_true rfl) dX7_tries_4 ⟨Nat.le_of_ble_eq_true rfl, Nat.le_of_ble_eq_true rfl⟩) hP hD hS hA [0, 1, 2, 3] rfl rfl (fun _ => rfl) (fun u_1 H locs hw_1 hP hD hS => ?_)
  obtain ⟨M_c1, rfl⟩ : ∃ z, z = u_1 := ⟨_, rfl⟩
  simp only [f_X7_copies, Prod.mk.injEq] at hw_1
  obtain rfl := hw_1
  have hP : va_P G.1 vwCl (MC G a g (cpyM M 0 6 46) T Y) H := hP
  have hD : va_D A (MC G a g (cpyM M 0 6 46) T Y) := hD
  refine lv_aload_n hx hb dX7_tries_7 rfl (lv_at hl 0 rfl) ?_
  refine va_get (D := G.1) (ci := 7) (v := .ref (a 1)) (C := RX7) (T := TX7) (N := 11) hx hb hts in_X7_tries_RX7 hown hK.1 hP 0 rfl rfl 0 (by decide) (hts _ k_X7_tries_f7) (fun _ h9 => h9) rfl dX7_tries_8 ?_
  refine lv_sipush (v := (nI 276)) hx hb dX7_tries_11 (by decide) ?_
  refine lv_iload_n hx hb dX7_tries_14 rfl (lv_at hl 1 rfl) ?_
  refine n_iast (f := (cpyM M 0 6 46)) (j := 276) (x := p0) hx hb hK hP hD hS 1 rfl (by decide) (by decide) dX7_tries_15 (fun H locs hP hD hS => ?_)
  have hP : va_P G.1 vwCl (MC G a g (upd (cpyM M 0 6 46) 276 p0) T Y) H := hP
  have hD : va_D A (MC G a g (upd (cpyM M 0 6 46) 276 p0) T Y) := hD
  refine lv_aload_n hx hb dX7_tries_16 rfl (lv_at hl 0 rfl) ?_
  refine va_get (D := G.1) (ci := 7) (v := .ref (a 1)) (C := RX7) (T := TX7) (N := 11) hx hb hts in_X7_tries_RX7 hown hK.1 hP 0 rfl rfl 0 (by decide) (hts _ k_X7_tries_f7) (fun _ h9 => h9) rfl dX7_tries_17 ?_
  refine lv_sipush (v := (nI 277)) hx hb dX7_tries_20 (by decide) ?_
  refine lv_iload_n hx hb dX7_tries_23 rfl (lv_at hl 2 rfl) ?_
  refine n_iast (f := (upd (cpyM M 0 6 46) 276 p0)) (j := 277) (x := p1) hx hb hK hP hD hS 1 rfl (by decide) (by decide) dX7_tries_24 (fun H locs hP hD hS => ?_)
  have hP : va_P G.1 vwCl (MC G a g (upd (upd (cpyM M 0 6 46) 276 p0) 277 p1) T Y) H := hP
  have hD : va_D A (MC G a g (upd (upd (cpyM M 0 6 46) 276 p0) 277 p1) T Y) := hD
  refine lv_aload_n hx hb dX7_tries_25 rfl (lv_at hl 0 rfl) ?_
  refine lv_bipush (v := (nI 6)) hx hb dX7_tries_26 (by decide) ?_
  refine lv_iload_n hx hb dX7_tries_28 rfl (lv_at hl 3 rfl) ?_
  refine gcall_V (run_V (As := [.int (nI 6), .int p2]) (rest := []) C0 hK hP hD (c_X7_ticks l G a g (upd (upd (cpyM M 0 6 46) 276 p0) 277 p1) T Y H.size 6 p2 (by omega) (TickOK.tries hAA hL hp0 hp1)) (cwV 2 hts gX7_tries_X7_ticks rfl rfl rfl cd_X7_ticks ⟨Nat.le_of_ble_eq_true rfl, Nat.le_of_ble_eq_true rfl⟩) [0, 1, 2, 3] rfl rfl 0 (ci := 7) rfl rfl rfl rfl hl.1 rfl (Nat.le_of_ble_eq_true rfl) dX7_tries_29 ⟨Nat.le_of_ble_eq_true rfl, Nat.le_of_ble_eq_true rfl⟩) hP hD hS hA [0, 1, 2, 3] rfl rfl (fun _ => rfl) (fun u_2 H locs hw_2 hP hD hS => ?_)
  obtain ⟨M_c2, rfl⟩ : ∃ z, z = u_2 := ⟨_, rfl⟩
  have hP : va_P G.1 vwCl (MC G a g M_c2 T Y) H := hP
  have hD : va_D A (MC G a g M_c2 T Y) := hD
  exact end_V C0 hP hD hS M_c2 (by simp only [f_X7_tries, hw_2]) rfl dX7_tries_32
