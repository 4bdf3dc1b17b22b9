def s_X7_works_23 (b : Nat) : Nat → (Nat → Int32) → Int32 → Nat → (Nat → Int32)
  | 0, _, _, _ => fun _ => 0
  | n + 1, M_23, z, i =>
    if z ≤ (nI i) then
      match f_X7_washes M_23 b with
      | M_c5 =>
        M_c5
    else
      if (M_23 (b + 4)) < (M_23 (b + 4 + 1)) then
        s_X7_works_23 b n (upd M_23 (b + 4 + 1) ((M_23 (b + 4 + 1)) - (nI 1))) z (i + 1)
      else
        s_X7_works_23 b n (upd M_23 (b + 4 + 0) ((M_23 (b + 4 + 0)) - (nI 1))) z (i + 1)
def f_X7_works (M : (Nat → Int32)) (b : Nat) : (Nat → Int32) :=
  if (f_X7_need M b) ≤ (f_X7_pressure M b) then
    s_X7_works_23 b ((f_X7_need M b).toNatClampNeg + 1) M (f_X7_need M b) 0
  else
    match f_X7_waits M b with
    | M_c7 =>
      M_c7
set_option maxRecDepth 20000 in
theorem k_X7_works_f7 : Cond.fieldLink RX7 7 "SteamRationsModel" "s" "[I" ∈ wsX7_works := by decide +kernel
set_option maxRecDepth 20000 in
theorem in_X7_works_RX7 : ∀ w ∈ u_ws RX7 TX7 11, w ∈ wsX7_works := by decide +kernel
theorem cd_X7_works : yX7_works.cls = RX7 ∧ yX7_works.cls ≠ "java/lang/invoke/MethodHandle" ∧ yX7_works.cls ≠ "java/lang/invoke/VarHandle" ∧ (parseMethodDescriptor yX7_works.desc).map (fun d => d.parameters.length) = some 1 := by decide +kernel
set_option maxHeartbeats 4000000 in
set_option maxRecDepth 100000 in
theorem c_X7_works (l : Launch) (G : GG) (a : Nat → Nat) (g : (Nat → Int32)) (M : (Nat → Int32)) (T : (Nat → Int32)) (Y : (Nat → Int32)) (sz : Nat) (b : Nat) (hb : b ≤ 322) : Met l yX7_works wsX7_works ({ frames := 2, cells := 0, slots := 0, locals := 45 }) (Pre G [.ref (a 0), .int (nI b)] (MC G a g M T Y) sz) (PV G (va_A (MC G a g M T Y) sz) (fun u : (Nat → Int32) => f_X7_works M b = u) (fun u : (Nat → Int32) => MC G a g u T Y)) 0 0 (va_A (MC G a g M T Y) sz) := by
  refine Met.walk (cc := cX7_works) (maxL := 5) (ret := none) (Qc := fun A => PV G A (fun u : (Nat → Int32) => f_X7_works M b = u) (fun u : (Nat → Int32) => MC G a g u T Y)) (by decide) rfl (Nat.le_of_ble_eq_true rfl) ?_
  intro p e s m below meth c A H C0 _ hK hsz hP hD hA hS ls hl
  have hx := C0.1
  have hb := C0.2.1
  have hown : s.vm.findClass RX7 = some m.cls := C0.2.2.2.2.1
  have hml := C0.2.2.2.1
  have hts : ∀ w ∈ wsX7_works, w.before [.ref (a 0), .int (nI b)].toArray s = true := C0.2.2.2.2.2.1
  have hl : lv_has ls 5 [(0, .ref (a 0)), (1, .int (nI b))] := hl
  have h_X7_works_23 : ∀ (n : Nat) (M_23 : (Nat → Int32)) (z : Int32) (i : Nat), z.toNatClampNeg - i < n → (i ≤ z.toNatClampNeg) → (z.toNatClampNeg < 2 ^ 31) → f_X7_works M b = s_X7_works_23 b n M_23 z i → ∀ (H : Heap) (locs : List Loc) (ls : Array Slot), va_P G.1 vwCl (MC G a g M_23 T Y) H → va_D A (MC G a g M_23 T Y) → va_S A s.heap H locs → lv_has ls 5 [(3, .int (nI i)), (2, .int z), (0, .ref (a 0)), (1, .int (nI b))] → W p l e ({ frames := 2, cells := 0, slots := 0, locals := 45 }) s m ([.ref (a 0), .int (nI b)] : List Value).toArray below meth c H locs 0 0 (MQ below (PV G A (fun u : (Nat → Int32) => f_X7_works M b = u) (fun u : (Nat → Int32) => MC G a g u T Y)) ([.ref (a 0), .int (nI b)] : List Value).toArray s 0 0 A) (F0 m 23 ls []) := by
    intro n
    induction n with
    | zero =>
      intro M_23 z i hm
      exact absurd hm (Nat.not_lt_zero _)
    | succ n ih =>
      intro M_23 z i hm hi hz hE H locs ls hP hD hS hl
      refine lv_iload_n hx hb dX7_works_23 rfl (lv_at hl 0 rfl) ?_
      refine lv_iload_n hx hb dX7_works_24 rfl (lv_at hl 1 rfl) ?_
      refine lv_icmp_ge (tgt := 77) hx hb dX7_works_25 (by decide) (fun c_4 => ?_) (fun c_4 => ?_)
      · refine lv_aload_n hx hb dX7_works_77 rfl (lv_at hl 2 rfl) ?_
        refine lv_iload_n hx hb dX7_works_78 rfl (lv_at hl 3 rfl) ?_
        refine gcall_V (run_V (As := [.int (nI b)]) (rest := []) C0 hK hP hD (c_X7_washes l G a g M_23 T Y H.size b (by omega)) (cwV 1 hts gX7_works_X7_washes rfl rfl rfl cd_X7_washes ⟨Nat.le_of_ble_eq_true rfl, Nat.le_of_ble_eq_true rfl⟩) [0, 1, 2, 3] rfl rfl 0 (ci := 7) rfl rfl rfl rfl hl.1 rfl (Nat.le_of_ble_eq_true rfl) dX7_works_79 ⟨Nat.le_of_ble_eq_true rfl, Nat.le_of_ble_eq_true rfl⟩) hP hD hS hA [0, 1, 2, 3] rfl rfl (fun _ => rfl) (fun u_5 H locs hw_5 hP hD hS => ?_)
        obtain ⟨M_c5, rfl⟩ : ∃ z, z = u_5 := ⟨_, rfl⟩
        have hP : va_P G.1 vwCl (MC G a g M_c5 T Y) H := hP
        have hD : va_D A (MC G a g M_c5 T Y) := hD
        exact end_V C0 hP hD hS M_c5 (hE.trans (by simp only [s_X7_works_23, if_pos c_4, hw_5])) rfl dX7_works_82
      · have c_4g : i < z.toNatClampNeg := ltNat c_4 (by omega)
        refine lv_aload_n hx hb dX7_works_28 rfl (lv_at hl 2 rfl) ?_
        refine va_get (D := G.1) (ci := 7) (v := .ref (a 1)) (C := RX7) (T := TX7) (N := 11) hx hb hts in_X7_works_RX7 hown hK.1 hP 0 rfl rfl 0 (by decide) (hts _ k_X7_works_f7) (fun _ h9 => h9) rfl dX7_works_29 ?_
        refine lv_iload_n hx hb dX7_works_32 rfl (lv_at hl 3 rfl) ?_
        refine lv_iconst (v := (nI 4)) hx hb dX7_works_33 (by decide) ?_
        refine n_iadd (i := b) (j := 4) hx hb dX7_works_34 ?_
        refine n_iald (f := M_23) (j := b + 4) hx hb hK hP 1 rfl (by omega) (by decide) dX7_works_35 ?_
        refine lv_aload_n hx hb dX7_works_36 rfl (lv_at hl 2 rfl) ?_
        refine va_get (D := G.1) (ci := 7) (v := .ref (a 1)) (C := RX7) (T := TX7) (N := 11) hx hb hts in_X7_works_RX7 hown hK.1 hP 0 rfl rfl 0 (by decide) (hts _ k_X7_works_f7) (fun _ h9 => h9) rfl dX7_works_37 ?_
        refine lv_iload_n hx hb dX7_works_40 rfl (lv_at hl 3 rfl) ?_
        refine lv_iconst (v := (nI 4)) hx hb dX7_works_41 (by decide) ?_
        refine n_iadd (i := b) (j := 4) hx hb dX7_works_42 ?_
        refine lv_iconst (v := (nI 1)) hx hb dX7_works_43 (by decide) ?_
        refine n_iadd (i := b + 4) (j := 1) hx hb dX7_works_44 ?_
        refine n_iald (f := M_23) (j := b + 4 + 1) hx hb hK hP 1 rfl (by omega) (by decide) dX7_works_45 ?_
        refine lv_icmp_lt (tgt := 53) hx hb dX7_works_46 (by decide) (fun c_6 => ?_) (fun c_6 => ?_)
        · refine lv_iconst (v := (nI 1)) hx hb dX7_works_53 (by decide) ?_
          refine lv_istore (lv' := [(4, .int (nI 1)), (3, .int (nI i)), (2, .int z), (0, .ref (a 0)), (1, .int (nI b))]) hx hb dX7_works_54 hl (by decide) rfl (fun ls hl => ?_)
          refine lv_aload_n hx hb dX7_works_56 rfl (lv_at hl 3 rfl) ?_
          refine va_get (D := G.1) (ci := 7) (v := .ref (a 1)) (C := RX7) (T := TX7) (N := 11) hx hb hts in_X7_works_RX7 hown hK.1 hP 0 rfl rfl 0 (by decide) (hts _ k_X7_works_f7) (fun _ h9 => h9) rfl dX7_works_57 ?_
          refine lv_iload_n hx hb dX7_works_60 rfl (lv_at hl 4 rfl) ?_
          refine lv_iconst (v := (nI 4)) hx hb dX7_works_61 (by decide) ?_
          refine n_iadd (i := b) (j := 4) hx hb dX7_works_62 ?_
          refine lv_iload hx hb dX7_works_63 (lv_at hl 0 rfl) ?_
          refine n_iadd (i := b + 4) (j := 1) hx hb dX7_works_65 ?_
          refine lv_dup2_11 hx hb dX7_works_66 rfl rfl ?_
          refine n_iald (f := M_23) (j := b + 4 + 1) hx hb hK hP 1 rfl (by omega) (by decide) dX7_works_67 ?_
          refine lv_iconst (v := (nI 1)) hx hb dX7_works_68 (by decide) ?_
          refine lv_isub hx hb dX7_works_69 ?_
          refine n_iast (f := M_23) (j := b + 4 + 1) (x := ((M_23 (b + 4 + 1)) - (nI 1))) hx hb hK hP hD hS 1 rfl (by omega) (by decide) dX7_works_70 (fun H locs hP hD hS => ?_)
          have hP : va_P G.1 vwCl (MC G a g (upd M_23 (b + 4 + 1) ((M_23 (b + 4 + 1)) - (nI 1))) T Y) H := hP
          have hD : va_D A (MC G a g (upd M_23 (b + 4 + 1) ((M_23 (b + 4 + 1)) - (nI 1))) T Y) := hD
          refine lv_iinc (v := (nI (i + 1))) (lv' := [(3, .int (nI (i + 1))), (4, .int (nI 1)), (2, .int z), (0, .ref (a 0)), (1, .int (nI b))]) hx hb dX7_works_71 hl (k := 1) rfl (inc1 i) (by decide) rfl (fun ls hl => ?_)
          refine lv_goto (tgt := 23) hx hb dX7_works_74 (by decide) ?_
          exact ih (upd M_23 (b + 4 + 1) ((M_23 (b + 4 + 1)) - (nI 1))) z (i + 1) (by omega) (by omega) hz (hE.trans (by simp only [s_X7_works_23, if_neg c_4, if_pos c_6])) _ _ _ hP hD hS (lv_sub hl [0, 2, 3, 4] rfl)
        · refine lv_iconst (v := (nI 0)) hx hb dX7_works_49 (by decide) ?_
          refine lv_goto (tgt := 54) hx hb dX7_works_50 (by decide) ?_
          refine lv_istore (lv' := [(4, .int (nI 0)), (3, .int (nI i)), (2, .int z), (0, .ref (a 0)), (1, .int (nI b))]) hx hb dX7_works_54 hl (by decide) rfl (fun ls hl => ?_)
          refine lv_aload_n hx hb dX7_works_56 rfl (lv_at hl 3 rfl) ?_
          refine va_get (D := G.1) (ci := 7) (v := .ref (a 1)) (C := RX7) (T := TX7) (N := 11) hx hb hts in_X7_works_RX7 hown hK.1 hP 0 rfl rfl 0 (by decide) (hts _ k_X7_works_f7) (fun _ h9 => h9) rfl dX7_works_57 ?_
          refine lv_iload_n hx hb dX7_works_60 rfl (lv_at hl 4 rfl) ?_
          refine lv_iconst (v := (nI 4)) hx hb dX7_works_61 (by decide) ?_
          refine n_iadd (i := b) (j := 4) hx hb dX7_works_62 ?_
          refine lv_iload hx hb dX7_works_63 (lv_at hl 0 rfl) ?_
          refine n_iadd (i := b + 4) (j := 0) hx hb dX7_works_65 ?_
          refine lv_dup2_11 hx hb dX7_works_66 rfl rfl ?_
          refine n_iald (f := M_23) (j := b + 4 + 0) hx hb hK hP 1 rfl (by omega) (by decide) dX7_works_67 ?_
          refine lv_iconst (v := (nI 1)) hx hb dX7_works_68 (by decide) ?_
          refine lv_isub hx hb dX7_works_69 ?_
          refine n_iast (f := M_23) (j := b + 4 + 0) (x := ((M_23 (b + 4 + 0)) - (nI 1))) hx hb hK hP hD hS 1 rfl (by omega) (by decide) dX7_works_70 (fun H locs hP hD hS => ?_)
          have hP : va_P G.1 vwCl (MC G a g (upd M_23 (b + 4 + 0) ((M_23 (b + 4 + 0)) - (nI 1))) T Y) H := hP
          have hD : va_D A (MC G a g (upd M_23 (b + 4 + 0) ((M_23 (b + 4 + 0)) - (nI 1))) T Y) := hD
          refine lv_iinc (v := (nI (i + 1))) (lv' := [(3, .int (nI (i + 1))), (4, .int (nI 0)), (2, .int z), (0, .ref (a 0)), (1, .int (nI b))]) hx hb dX7_works_71 hl (k := 1) rfl (inc1 i) (by decide) rfl (fun ls hl => ?_)
          refine lv_goto (tgt := 23) hx hb dX7_works_74 (by decide) ?_
          exact ih (upd M_23 (b + 4 + 0) ((M_23 (b + 4 + 0)) - (nI 1))) z (i + 1) (by omega) (by omega) hz (hE.trans (by simp only [s_X7_works_23, if_neg c_4, if_neg c_6])) _ _ _ hP hD hS (lv_sub hl [0, 2, 3, 4] rfl)
  refine lv_aload_n hx hb dX7_works_0 rfl (lv_at hl 0 rfl) ?_
  refine lv_iload_n hx hb dX7_works_1 rfl (lv_at hl 1 rfl) ?_
  refine gcall_I (run_V (As := [.int (nI b)]) (rest := []) C0 hK hP hD (c_X7_need l G a g M T Y H.size b (by omega)) (cwV 1 hts gX7_works_X7_need rfl rfl rfl cd_X7_need ⟨Nat.le_of_ble_eq_true rfl, Nat.le_of_ble_eq_true rfl⟩) [0, 1, 2, 3] rfl rfl 0 (ci := 7) rfl rfl rfl rfl hl.1 rfl (Nat.le_of_ble_eq_true rfl) dX7_works_2 ⟨Nat.le_of_ble_eq_true rfl, Nat.le_of_ble_eq_true rfl⟩) hP hD hS hA [0, 1, 2, 3] rfl rfl (fun _ => rfl) (fun r_1 _ H locs hw_1 hP hD hS => ?_)
  subst hw_1
  have hP : va_P G.1 vwCl (MC G a g M T Y) H := hP
  have hD : va_D A (MC G a g M T Y) := hD
  refine lv_istore_n (lv' := [(2, .int (f_X7_need M b)), (0, .ref (a 0)), (1, .int (nI b))]) hx hb dX7_works_5 rfl hl (by decide) rfl (fun ls hl => ?_)
  refine lv_aload_n hx hb dX7_works_6 rfl (lv_at hl 1 rfl) ?_
  refine lv_iload_n hx hb dX7_works_7 rfl (lv_at hl 2 rfl) ?_
  refine gcall_I (run_V (As := [.int (nI b)]) (rest := []) C0 hK hP hD (c_X7_pressure l G a g M T Y H.size b (by omega)) (cwV 1 hts gX7_works_X7_pressure rfl rfl rfl cd_X7_pressure ⟨Nat.le_of_ble_eq_true rfl, Nat.le_of_ble_eq_true rfl⟩) [0, 1, 2, 3] rfl rfl 0 (ci := 7) rfl rfl rfl rfl hl.1 rfl (Nat.le_of_ble_eq_true rfl) dX7_works_8 ⟨Nat.le_of_ble_eq_true rfl, Nat.le_of_ble_eq_true rfl⟩) hP hD hS hA [0, 1, 2, 3] rfl rfl (fun _ => rfl) (fun r_2 _ H locs hw_2 hP hD hS => ?_)
  subst hw_2
  have hP : va_P G.1 vwCl (MC G a g M T Y) H := hP
  have hD : va_D A (MC G a g M T Y) := hD
  refine lv_iload_n hx hb dX7_works_11 rfl (lv_at hl 0 rfl) ?_
  refine lv_icmp_ge (tgt := 21) hx hb dX7_works_12 (by decide) (fun c_3 => ?_) (fun c_3 => ?_)
  · refine lv_iconst (v := (nI 0)) hx hb dX7_works_21 (by decide) ?_
    refine lv_istore_n (lv' := [(3, .int (nI 0)), (2, .int (f_X7_need M b)), (0, .ref (a 0)), (1, .int (nI b))]) hx hb dX7_works_22 rfl hl (by decide) rfl (fun ls hl => ?_)
    exact h_X7_works_23 ((f_X7_need M b).toNatClampNeg + 1) M (f_X7_need M b) 0 (by omega) (Nat.zero_le _) (natBig _) (by simp only [f_X7_works, if_pos c_3]) _ _ _ hP hD hS (lv_sub hl [0, 1, 2, 3] rfl)
  · refine lv_aload_n hx hb dX7_works_15 rfl (lv_at hl 1 rfl) ?_
    refine lv_iload_n hx hb dX7_works_16 rfl (lv_at hl 2 rfl) ?_
    refine gcall_V (run_V (As := [.int (nI b)]) (rest := []) C0 hK hP hD (c_X7_waits l G a g M T Y H.size b (by omega)) (cwV 1 hts gX7_works_X7_waits rfl rfl rfl cd_X7_waits ⟨Nat.le_of_ble_eq_true rfl, Nat.le_of_ble_eq_true rfl⟩) [0, 1, 2, 3] rfl rfl 0 (ci := 7) rfl rfl rfl rfl hl.1 rfl (Nat.le_of_ble_eq_true rfl) dX7_works_17 ⟨Nat.le_of_ble_eq_true rfl, Nat.le_of_ble_eq_true rfl⟩) hP hD hS hA [0, 1, 2, 3] rfl rfl (fun _ => rfl) (fun u_7 H locs hw_7 hP hD hS => ?_)
    obtain ⟨M_c7, rfl⟩ : ∃ z, z = u_7 := ⟨_, rfl⟩
    have hP : va_P G.1 vwCl (MC G a g M_c7 T Y) H := hP
    have hD : va_D A (MC G a g M_c7 T Y) := hD
    exact end_V C0 hP hD hS M_c7 (by simp only [f_X7_works, if_neg c_3, hw_7]) rfl dX7_works_20

def s_X7_passes_114_2  (M_114 : (Nat → Int32)) : (Nat → Int32) :=
  M_114
def s_X7_passes_114_1 (b : Nat) (M_114 : (Nat → Int32)) : (Nat → Int32) :=
  if (M_114 (b + 4 + 1)) ≤ 0 then
    if ((upd M_114 (b + 4 + 1) ((M_114 (b + 4 + 1)) - (nI 0))) (b + 4 + 1)) ≤ (nI 70) then
      s_X7_passes_114_2 (upd M_114 (b + 4 + 1) ((M_114 (b + 4 + 1)) - (nI 0)))
    else
      s_X7_passes_114_2 (upd (upd (upd (upd (upd M_114 (b + 4 + 1) ((M_114 (b + 4 + 1)) - (nI 0))) (b + 4 + 1) (nI 30)) (b + 1) (nI 0)) (b + 6 + 1) (nI 10)) (b + 8 + 1) (((upd (upd (upd (upd M_114 (b + 4 + 1) ((M_114 (b + 4 + 1)) - (nI 0))) (b + 4 + 1) (nI 30)) (b + 1) (nI 0)) (b + 6 + 1) (nI 10)) (b + 8 + 1)) + (nI 1)))
  else
    if ((upd M_114 (b + 4 + 1) ((M_114 (b + 4 + 1)) - (nI 1))) (b + 4 + 1)) ≤ (nI 70) then
      s_X7_passes_114_2 (upd M_114 (b + 4 + 1) ((M_114 (b + 4 + 1)) - (nI 1)))
    else
      s_X7_passes_114_2 (upd (upd (upd (upd (upd M_114 (b + 4 + 1) ((M_114 (b + 4 + 1)) - (nI 1))) (b + 4 + 1) (nI 30)) (b + 1) (nI 0)) (b + 6 + 1) (nI 10)) (b + 8 + 1) (((upd (upd (upd (upd M_114 (b + 4 + 1) ((M_114 (b + 4 + 1)) - (nI 1))) (b + 4 + 1) (nI 30)) (b + 1) (nI 0)) (b + 6 + 1) (nI 10)) (b + 8 + 1)) + (nI 1)))
def s_X7_passes_114_0 (b : Nat) (M_114 : (Nat → Int32)) : (Nat → Int32) :=
  if (M_114 (b + 4 + 0)) ≤ 0 then
    if ((upd M_114 (b + 4 + 0) ((M_114 (b + 4 + 0)) - (nI 0))) (b + 4 + 0)) ≤ (nI 70) then
      s_X7_passes_114_1 b (upd M_114 (b + 4 + 0) ((M_114 (b + 4 + 0)) - (nI 0)))
    else
      s_X7_passes_114_1 b (upd (upd (upd (upd (upd M_114 (b + 4 + 0) ((M_114 (b + 4 + 0)) - (nI 0))) (b + 4 + 0) (nI 30)) (b + 0) (nI 0)) (b + 6 + 0) (nI 10)) (b + 8 + 0) (((upd (upd (upd (upd M_114 (b + 4 + 0) ((M_114 (b + 4 + 0)) - (nI 0))) (b + 4 + 0) (nI 30)) (b + 0) (nI 0)) (b + 6 + 0) (nI 10)) (b + 8 + 0)) + (nI 1)))
  else
    if ((upd M_114 (b + 4 + 0) ((M_114 (b + 4 + 0)) - (nI 1))) (b + 4 + 0)) ≤ (nI 70) then
      s_X7_passes_114_1 b (upd M_114 (b + 4 + 0) ((M_114 (b + 4 + 0)) - (nI 1)))
    else
      s_X7_passes_114_1 b (upd (upd (upd (upd (upd M_114 (b + 4 + 0) ((M_114 (b + 4 + 0)) - (nI 1))) (b + 4 + 0) (nI 30)) (b + 0) (nI 0)) (b + 6 + 0) (nI 10)) (b + 8 + 0) (((upd (upd (upd (upd M_114 (b + 4 + 0) ((M_114 (b + 4 + 0)) - (nI 1))) (b + 4 + 0) (nI 30)) (b + 0) (nI 0)) (b + 6 + 0) (nI 10)) (b + 8 + 0)) + (nI 1)))
def s_X7_passes_95 (b : Nat) (M_95 : (Nat → Int32)) : (Nat → Int32) :=
  match f_X7_fires M_95 b 0 with
  | M_c2 =>
    match f_X7_fires M_c2 b 1 with
    | M_c3 =>
      match f_X7_works M_c3 b with
      | M_c4 =>
        s_X7_passes_114_0 b M_c4
def f_X7_passes (M : (Nat → Int32)) (b : Nat) : (Nat → Int32) :=
  if (((upd M (b + 12) ((M (b + 12)) + (nI 1))) (b + 12)) - ((upd M (b + 12) ((M (b + 12)) + (nI 1))) (b + 12)) / (nI 60) * (nI 60)) = 0 then
    if ((nI 999) - ((upd M (b + 12) ((M (b + 12)) + (nI 1))) (b + 10))) ≤ ((upd M (b + 12) ((M (b + 12)) + (nI 1))) (b + 11)) then
      s_X7_passes_95 b (upd (upd (upd M (b + 12) ((M (b + 12)) + (nI 1))) (b + 10) (((upd M (b + 12) ((M (b + 12)) + (nI 1))) (b + 10)) + ((nI 999) - ((upd M (b + 12) ((M (b + 12)) + (nI 1))) (b + 10))))) (b + 39) (((upd (upd M (b + 12) ((M (b + 12)) + (nI 1))) (b + 10) (((upd M (b + 12) ((M (b + 12)) + (nI 1))) (b + 10)) + ((nI 999) - ((upd M (b + 12) ((M (b + 12)) + (nI 1))) (b + 10))))) (b + 39)) + ((nI 999) - ((upd M (b + 12) ((M (b + 12)) + (nI 1))) (b + 10)))))
    else
      s_X7_passes_95 b (upd (upd (upd M (b + 12) ((M (b + 12)) + (nI 1))) (b + 10) (((upd M (b + 12) ((M (b + 12)) + (nI 1))) (b + 10)) + ((upd M (b + 12) ((M (b + 12)) + (nI 1))) (b + 11)))) (b + 39) (((upd (upd M (b + 12) ((M (b + 12)) + (nI 1))) (b + 10) (((upd M (b + 12) ((M (b + 12)) + (nI 1))) (b + 10)) + ((upd M (b + 12) ((M (b + 12)) + (nI 1))) (b + 11)))) (b + 39)) + ((upd M (b + 12) ((M (b + 12)) + (nI 1))) (b + 11))))
  else
    s_X7_passes_95 b (upd M (b + 12) ((M (b + 12)) + (nI 1)))
set_option maxRecDepth 20000 in
theorem k_X7_passes_f7 : Cond.fieldLink RX7 7 "SteamRationsModel" "s" "[I" ∈ wsX7_passes := by decide +kernel
set_option maxRecDepth 20000 in
theorem in_X7_passes_RX7 : ∀ w ∈ u_ws RX7 TX7 11, w ∈ wsX7_passes := by decide +kernel
theorem cd_X7_passes : yX7_passes.cls = RX7 ∧ yX7_passes.cls ≠ "java/lang/invoke/MethodHandle" ∧ yX7_passes.cls ≠ "java/lang/invoke/VarHandle" ∧ (parseMethodDescriptor yX7_passes.desc).map (fun d => d.parameters.length) = some 1 := by decide +kernel
set_option maxHeartbeats 4000000 in
set_option maxRecDepth 100000 in
theorem c_X7_passes (l : Launch) (G : GG) (a : Nat → Nat) (g : (Nat → Int32)) (M : (Nat → Int32)) (T : (Nat → Int32)) (Y : (Nat → Int32)) (sz : Nat) (b : Nat) (hb : b ≤ 322) : Met l yX7_passes wsX7_passes ({ frames := 3, cells := 0, slots := 0, locals := 69 }) (Pre G [.ref (a 0), .int (nI b)] (MC G a g M T Y) sz) (PV G (va_A (MC G a g M T Y) sz) (fun u : (Nat → Int32) => f_X7_passes M b = u) (fun u : (Nat → Int32) => MC G a g u T Y)) 0 0 (va_A (MC G a g M T Y) sz) := by
  refine Met.walk (cc := cX7_passes) (maxL := 4) (ret := none) (Qc := fun A => PV G A (fun u : (Nat → Int32) => f_X7_passes M b = u) (fun u : (Nat → Int32) => MC G a g u T Y)) (by decide) rfl (Nat.le_of_ble_eq_true rfl) ?_
  intro p e s m below meth c A H C0 _ hK hsz hP hD hA hS ls hl
  have hx := C0.1
  have hb := C0.2.1
  have hown : s.vm.findClass RX7 = some m.cls := C0.2.2.2.2.1
  have hml := C0.2.2.2.1
  have hts : ∀ w ∈ wsX7_passes, w.before [.ref (a 0), .int (nI b)].toArray s = true := C0.2.2.2.2.2.1
  have hl : lv_has ls 4 [(0, .ref (a 0)), (1, .int (nI b))] := hl
  have h_X7_passes_114_2 : ∀ (M_114 : (Nat → Int32)), f_X7_passes M b = s_X7_passes_114_2 M_114 → ∀ (H : Heap) (locs : List Loc) (ls : Array Slot), va_P G.1 vwCl (MC G a g M_114 T Y) H → va_D A (MC G a g M_114 T Y) → va_S A s.heap H locs → lv_has ls 4 [(2, .int (nI 2)), (0, .ref (a 0)), (1, .int (nI b))] → W p l e ({ frames := 3, cells := 0, slots := 0, locals := 69 }) s m ([.ref (a 0), .int (nI b)] : List Value).toArray below meth c H locs 0 0 (MQ below (PV G A (fun u : (Nat → Int32) => f_X7_passes M b = u) (fun u : (Nat → Int32) => MC G a g u T Y)) ([.ref (a 0), .int (nI b)] : List Value).toArray s 0 0 A) (F0 m 114 ls []) := by
    intro M_114  hE H locs ls hP hD hS hl
    refine lv_iload_n hx hb dX7_passes_114 rfl (lv_at hl 0 rfl) ?_
    refine lv_iconst (v := (nI 2)) hx hb dX7_passes_115 (by decide) ?_
    refine lv_icmp_ge (tgt := 210) hx hb dX7_passes_116 (by decide) (fun c_11 => ?_) (fun c_11 => absurd (by decide +kernel) c_11)
    exact end_V C0 hP hD hS M_114 (hE.trans (by simp only [s_X7_passes_114_2])) rfl dX7_passes_210
  have h_X7_passes_114_1 : ∀ (M_114 : (Nat → Int32)), f_X7_passes M b = s_X7_passes_114_1 b M_114 → ∀ (H : Heap) (locs : List Loc) (ls : Array Slot), va_P G.1 vwCl (MC G a g M_114 T Y) H → va_D A (MC G a g M_114 T Y) → va_S A s.heap H locs → lv_has ls 4 [(2, .int (nI 1)), (0, .ref (a 0)), (1, .int (nI b))] → W p l e ({ frames := 3, cells := 0, slots := 0, locals := 69 }) s m ([.ref (a 0), .int (nI b)] : List Value).toArray below meth c H locs 0 0 (MQ below (PV G A (fun u : (Nat → Int32) => f_X7_passes M b = u) (fun u : (Nat → Int32) => MC G a g u T Y)) ([.ref (a 0), .int (nI b)] : List Value).toArray s 0 0 A) (F0 m 114 ls []) := by
    intro M_114  hE H locs ls hP hD hS hl
    refine lv_iload_n hx hb dX7_passes_114 rfl (lv_at hl 0 rfl) ?_
    refine lv_iconst (v := (nI 2)) hx hb dX7_passes_115 (by decide) ?_
    refine lv_icmp_ge (tgt := 210) hx hb dX7_passes_116 (by decide) (fun c_8 => absurd c_8 (by decide +kernel)) (fun c_8 => ?_)
    refine lv_iload_n hx hb dX7_passes_119 rfl (lv_at hl 2 rfl) ?_
    refine lv_iconst (v := (nI 4)) hx hb dX7_passes_120 (by decide) ?_
    refine n_iadd (i := b) (j := 4) hx hb dX7_passes_121 ?_
    refine lv_iload_n hx hb dX7_passes_122 rfl (lv_at hl 0 rfl) ?_
    refine n_iadd (i := b + 4) (j := 1) hx hb dX7_passes_123 ?_
    refine lv_istore_n (lv' := [(3, .int (nI (b + 4 + 1))), (2, .int (nI 1)), (0, .ref (a 0)), (1, .int (nI b))]) hx hb dX7_passes_124 rfl hl (by decide) rfl (fun ls hl => ?_)
    refine lv_aload_n hx hb dX7_passes_125 rfl (lv_at hl 2 rfl) ?_
    refine va_get (D := G.1) (ci := 7) (v := .ref (a 1)) (C := RX7) (T := TX7) (N := 11) hx hb hts in_X7_passes_RX7 hown hK.1 hP 0 rfl rfl 0 (by decide) (hts _ k_X7_passes_f7) (fun _ h9 => h9) rfl dX7_passes_126 ?_
    refine lv_iload_n hx hb dX7_passes_129 rfl (lv_at hl 0 rfl) ?_
    refine lv_dup2_11 hx hb dX7_passes_130 rfl rfl ?_
    refine n_iald (f := M_114) (j := b + 4 + 1) hx hb hK hP 1 rfl (by omega) (by decide) dX7_passes_131 ?_
    refine lv_aload_n hx hb dX7_passes_132 rfl (lv_at hl 2 rfl) ?_
    refine va_get (D := G.1) (ci := 7) (v := .ref (a 1)) (C := RX7) (T := TX7) (N := 11) hx hb hts in_X7_passes_RX7 hown hK.1 hP 0 rfl rfl 0 (by decide) (hts _ k_X7_passes_f7) (fun _ h9 => h9) rfl dX7_passes_133 ?_
    refine lv_iload_n hx hb dX7_passes_136 rfl (lv_at hl 0 rfl) ?_
    refine n_iald (f := M_114) (j := b + 4 + 1) hx hb hK hP 1 rfl (by omega) (by decide) dX7_passes_137 ?_
    refine lv_if_le (tgt := 145) hx hb dX7_passes_138 (by decide) (fun c_9 => ?_) (fun c_9 => ?_)
    · refine lv_iconst (v := (nI 0)) hx hb dX7_passes_145 (by decide) ?_
      refine lv_isub hx hb dX7_passes_146 ?_
      refine n_iast (f := M_114) (j := b + 4 + 1) (x := ((M_114 (b + 4 + 1)) - (nI 0))) hx hb hK hP hD hS 1 rfl (by omega) (by decide) dX7_passes_147 (fun H locs hP hD hS => ?_)
      have hP : va_P G.1 vwCl (MC G a g (upd M_114 (b + 4 + 1) ((M_114 (b + 4 + 1)) - (nI 0))) T Y) H := hP
      have hD : va_D A (MC G a g (upd M_114 (b + 4 + 1) ((M_114 (b + 4 + 1)) - (nI 0))) T Y) := hD
      refine lv_aload_n hx hb dX7_passes_148 rfl (lv_at hl 2 rfl) ?_
      refine va_get (D := G.1) (ci := 7) (v := .ref (a 1)) (C := RX7) (T := TX7) (N := 11) hx hb hts in_X7_passes_RX7 hown hK.1 hP 0 rfl rfl 0 (by decide) (hts _ k_X7_passes_f7) (fun _ h9 => h9) rfl dX7_passes_149 ?_
      refine lv_iload_n hx hb dX7_passes_152 rfl (lv_at hl 0 rfl) ?_
      refine n_iald (f := (upd M_114 (b + 4 + 1) ((M_114 (b + 4 + 1)) - (nI 0)))) (j := b + 4 + 1) hx hb hK hP 1 rfl (by omega) (by decide) dX7_passes_153 ?_
      refine lv_bipush (v := (nI 70)) hx hb dX7_passes_154 (by decide) ?_
      refine lv_icmp_le (tgt := 204) hx hb dX7_passes_156 (by decide) (fun c_10 => ?_) (fun c_10 => ?_)
      · refine lv_iinc (v := (nI 2)) (lv' := [(2, .int (nI 2)), (3, .int (nI (b + 4 + 1))), (0, .ref (a 0)), (1, .int (nI b))]) hx hb dX7_passes_204 hl (k := 1) rfl (inc1 1) (by decide) rfl (fun ls hl => ?_)
        refine lv_goto (tgt := 114) hx hb dX7_passes_207 (by decide) ?_
        exact h_X7_passes_114_2 (upd M_114 (b + 4 + 1) ((M_114 (b + 4 + 1)) - (nI 0)))  (hE.trans (by simp only [s_X7_passes_114_1, if_pos c_9, if_pos c_10])) _ _ _ hP hD hS (lv_sub hl [0, 2, 3] rfl)
      · refine lv_aload_n hx hb dX7_passes_159 rfl (lv_at hl 2 rfl) ?_
        refine va_get (D := G.1) (ci := 7) (v := .ref (a 1)) (C := RX7) (T := TX7) (N := 11) hx hb hts in_X7_passes_RX7 hown hK.1 hP 0 rfl rfl 0 (by decide) (hts _ k_X7_passes_f7) (fun _ h9 => h9) rfl dX7_passes_160 ?_
        refine lv_iload_n hx hb dX7_passes_163 rfl (lv_at hl 0 rfl) ?_
        refine lv_bipush (v := (nI 30)) hx hb dX7_passes_164 (by decide) ?_
        refine n_iast (f := (upd M_114 (b + 4 + 1) ((M_114 (b + 4 + 1)) - (nI 0)))) (j := b + 4 + 1) (x := (nI 30)) hx hb hK hP hD hS 1 rfl (by omega) (by decide) dX7_passes_166 (fun H locs hP hD hS => ?_)
        have hP : va_P G.1 vwCl (MC G a g (upd (upd M_114 (b + 4 + 1) ((M_114 (b + 4 + 1)) - (nI 0))) (b + 4 + 1) (nI 30)) T Y) H := hP
        have hD : va_D A (MC G a g (upd (upd M_114 (b + 4 + 1) ((M_114 (b + 4 + 1)) - (nI 0))) (b + 4 + 1) (nI 30)) T Y) := hD
        refine lv_aload_n hx hb dX7_passes_167 rfl (lv_at hl 2 rfl) ?_
        refine va_get (D := G.1) (ci := 7) (v := .ref (a 1)) (C := RX7) (T := TX7) (N := 11) hx hb hts in_X7_passes_RX7 hown hK.1 hP 0 rfl rfl 0 (by decide) (hts _ k_X7_passes_f7) (fun _ h9 => h9) rfl dX7_passes_168 ?_
        refine lv_iload_n hx hb dX7_passes_171 rfl (lv_at hl 3 rfl) ?_
        refine lv_iload_n hx hb dX7_passes_172 rfl (lv_at hl 1 rfl) ?_
        refine n_iadd (i := b) (j := 1) hx hb dX7_passes_173 ?_
        refine lv_iconst (v := (nI 0)) hx hb dX7_passes_174 (by decide) ?_
        refine n_iast (f := (upd (upd M_114 (b + 4 + 1) ((M_114 (b + 4 + 1)) - (nI 0))) (b + 4 + 1) (nI 30))) (j := b + 1) (x := (nI 0)) hx hb hK hP hD hS 1 rfl (by omega) (by decide) dX7_passes_175 (fun H locs hP hD hS => ?_)
        have hP : va_P G.1 vwCl (MC G a g (upd (upd (upd M_114 (b + 4 + 1) ((M_114 (b + 4 + 1)) - (nI 0))) (b + 4 + 1) (nI 30)) (b + 1) (nI 0)) T Y) H := hP
        have hD : va_D A (MC G a g (upd (upd (upd M_114 (b + 4 + 1) ((M_114 (b + 4 + 1)) - (nI 0))) (b + 4 + 1) (nI 30)) (b + 1) (nI 0)) T Y) := hD
        refine lv_aload_n hx hb dX7_passes_176 rfl (lv_at hl 2 rfl) ?_
        refine va_get (D := G.1) (ci := 7) (v := .ref (a 1)) (C := RX7) (T := TX7) (N := 11) hx hb hts in_X7_passes_RX7 hown hK.1 hP 0 rfl rfl 0 (by decide) (hts _ k_X7_passes_f7) (fun _ h9 => h9) rfl dX7_passes_177 ?_
        refine lv_iload_n hx hb dX7_passes_180 rfl (lv_at hl 3 rfl) ?_
        refine lv_bipush (v := (nI 6)) hx hb dX7_passes_181 (by decide) ?_
        refine n_iadd (i := b) (j := 6) hx hb dX7_passes_183 ?_
        refine lv_iload_n hx hb dX7_passes_184 rfl (lv_at hl 1 rfl) ?_
        refine n_iadd (i := b + 6) (j := 1) hx hb dX7_passes_185 ?_
        refine lv_bipush (v := (nI 10)) hx hb dX7_passes_186 (by decide) ?_
        refine n_iast (f := (upd (upd (upd M_114 (b + 4 + 1) ((M_114 (b + 4 + 1)) - (nI 0))) (b + 4 + 1) (nI 30)) (b + 1) (nI 0))) (j := b + 6 + 1) (x := (nI 10)) hx hb hK hP hD hS 1 rfl (by omega) (by decide) dX7_passes_188 (fun H locs hP hD hS => ?_)
        have hP : va_P G.1 vwCl (MC G a g (upd (upd (upd (upd M_114 (b + 4 + 1) ((M_114 (b + 4 + 1)) - (nI 0))) (b + 4 + 1) (nI 30)) (b + 1) (nI 0)) (b + 6 + 1) (nI 10)) T Y) H := hP
        have hD : va_D A (MC G a g (upd (upd (upd (upd M_114 (b + 4 + 1) ((M_114 (b + 4 + 1)) - (nI 0))) (b + 4 + 1) (nI 30)) (b + 1) (nI 0)) (b + 6 + 1) (nI 10)) T Y) := hD
        refine lv_aload_n hx hb dX7_passes_189 rfl (lv_at hl 2 rfl) ?_
        refine va_get (D := G.1) (ci := 7) (v := .ref (a 1)) (C := RX7) (T := TX7) (N := 11) hx hb hts in_X7_passes_RX7 hown hK.1 hP 0 rfl rfl 0 (by decide) (hts _ k_X7_passes_f7) (fun _ h9 => h9) rfl dX7_passes_190 ?_
        refine lv_iload_n hx hb dX7_passes_193 rfl (lv_at hl 3 rfl) ?_
        refine lv_bipush (v := (nI 8)) hx hb dX7_passes_194 (by decide) ?_
        refine n_iadd (i := b) (j := 8) hx hb dX7_passes_196 ?_
        refine lv_iload_n hx hb dX7_passes_197 rfl (lv_at hl 1 rfl) ?_
        refine n_iadd (i := b + 8) (j := 1) hx hb dX7_passes_198 ?_
        refine lv_dup2_11 hx hb dX7_passes_199 rfl rfl ?_
        refine n_iald (f := (upd (upd (upd (upd M_114 (b + 4 + 1) ((M_114 (b + 4 + 1)) - (nI 0))) (b + 4 + 1) (nI 30)) (b + 1) (nI 0)) (b + 6 + 1) (nI 10))) (j := b + 8 + 1) hx hb hK hP 1 rfl (by omega) (by decide) dX7_passes_200 ?_
        refine lv_iconst (v := (nI 1)) hx hb dX7_passes_201 (by decide) ?_
        refine lv_iadd hx hb dX7_passes_202 ?_
        refine n_iast (f := (upd (upd (upd (upd M_114 (b + 4 + 1) ((M_114 (b + 4 + 1)) - (nI 0))) (b + 4 + 1) (nI 30)) (b + 1) (nI 0)) (b + 6 + 1) (nI 10))) (j := b + 8 + 1) (x := (((upd (upd (upd (upd M_114 (b + 4 + 1) ((M_114 (b + 4 + 1)) - (nI 0))) (b + 4 + 1) (nI 30)) (b + 1) (nI 0)) (b + 6 + 1) (nI 10)) (b + 8 + 1)) + (nI 1))) hx hb hK hP hD hS 1 rfl (by omega) (by decide) dX7_passes_203 (fun H locs hP hD hS => ?_)
        have hP : va_P G.1 vwCl (MC G a g (upd (upd (upd (upd (upd M_114 (b + 4 + 1) ((M_114 (b + 4 + 1)) - (nI 0))) (b + 4 + 1) (nI 30)) (b + 1) (nI 0)) (b + 6 + 1) (nI 10)) (b + 8 + 1) (((upd (upd (upd (upd M_114 (b + 4 + 1) ((M_114 (b + 4 + 1)) - (nI 0))) (b + 4 + 1) (nI 30)) (b + 1) (nI 0)) (b + 6 + 1) (nI 10)) (b + 8 + 1)) + (nI 1))) T Y) H := hP
        have hD : va_D A (MC G a g (upd (upd (upd (upd (upd M_114 (b + 4 + 1) ((M_114 (b + 4 + 1)) - (nI 0))) (b + 4 + 1) (nI 30)) (b + 1) (nI 0)) (b + 6 + 1) (nI 10)) (b + 8 + 1) (((upd (upd (upd (upd M_114 (b + 4 + 1) ((M_114 (b + 4 + 1)) - (nI 0))) (b + 4 + 1) (nI 30)) (b + 1) (nI 0)) (b + 6 + 1) (nI 10)) (b + 8 + 1)) + (nI 1))) T Y) := hD
        refine lv_iinc (v := (nI 2)) (lv' := [(2, .int (nI 2)), (3, .int (nI (b + 4 + 1))), (0, .ref (a 0)), (1, .int (nI b))]) hx hb dX7_passes_204 hl (k := 1) rfl (inc1 1) (by decide) rfl (fun ls hl => ?_)
        refine lv_goto (tgt := 114) hx hb dX7_passes_207 (by decide) ?_
        exact h_X7_passes_114_2 (upd (upd (upd (upd (upd M_114 (b + 4 + 1) ((M_114 (b + 4 + 1)) - (nI 0))) (b + 4 + 1) (nI 30)) (b + 1) (nI 0)) (b + 6 + 1) (nI 10)) (b + 8 + 1) (((upd (upd (upd (upd M_114 (b + 4 + 1) ((M_114 (b + 4 + 1)) - (nI 0))) (b + 4 + 1) (nI 30)) (b + 1) (nI 0)) (b + 6 + 1) (nI 10)) (b + 8 + 1)) + (nI 1)))  (hE.trans (by simp only [s_X7_passes_114_1, if_pos c_9, if_neg c_10])) _ _ _ hP hD hS (lv_sub hl [0, 2, 3] rfl)
    · refine lv_iconst (v := (nI 1)) hx hb dX7_passes_141 (by decide) ?_
      refine lv_goto (tgt := 146) hx hb dX7_passes_142 (by decide) ?_
      refine lv_isub hx hb dX7_passes_146 ?_
      refine n_iast (f := M_114) (j := b + 4 + 1) (x := ((M_114 (b + 4 + 1)) - (nI 1))) hx hb hK hP hD hS 1 rfl (by omega) (by decide) dX7_passes_147 (fun H locs hP hD hS => ?_)
      have hP : va_P G.1 vwCl (MC G a g (upd M_114 (b + 4 + 1) ((M_114 (b + 4 + 1)) - (nI 1))) T Y) H := hP
      have hD : va_D A (MC G a g (upd M_114 (b + 4 + 1) ((M_114 (b + 4 + 1)) - (nI 1))) T Y) := hD
      refine lv_aload_n hx hb dX7_passes_148 rfl (lv_at hl 2 rfl) ?_
      refine va_get (D := G.1) (ci := 7) (v := .ref (a 1)) (C := RX7) (T := TX7) (N := 11) hx hb hts in_X7_passes_RX7 hown hK.1 hP 0 rfl rfl 0 (by decide) (hts _ k_X7_passes_f7) (fun _ h9 => h9) rfl dX7_passes_149 ?_
      refine lv_iload_n hx hb dX7_passes_152 rfl (lv_at hl 0 rfl) ?_
      refine n_iald (f := (upd M_114 (b + 4 + 1) ((M_114 (b + 4 + 1)) - (nI 1)))) (j := b + 4 + 1) hx hb hK hP 1 rfl (by omega) (by decide) dX7_passes_153 ?_
      refine lv_bipush (v := (nI 70)) hx hb dX7_passes_154 (by decide) ?_
      refine lv_icmp_le (tgt := 204) hx hb dX7_passes_156 (by decide) (fun c_12 => ?_) (fun c_12 => ?_)
      · refine lv_iinc (v := (nI 2)) (lv' := [(2, .int (nI 2)), (3, .int (nI (b + 4 + 1))), (0, .ref (a 0)), (1, .int (nI b))]) hx hb dX7_passes_204 hl (k := 1) rfl (inc1 1) (by decide) rfl (fun ls hl => ?_)
        refine lv_goto (tgt := 114) hx hb dX7_passes_207 (by decide) ?_
        exact h_X7_passes_114_2 (upd M_114 (b + 4 + 1) ((M_114 (b + 4 + 1)) - (nI 1)))  (hE.trans (by simp only [s_X7_passes_114_1, if_neg c_9, if_pos c_12])) _ _ _ hP hD hS (lv_sub hl [0, 2, 3] rfl)
      · refine lv_aload_n hx hb dX7_passes_159 rfl (lv_at hl 2 rfl) ?_
        refine va_get (D := G.1) (ci := 7) (v := .ref (a 1)) (C := RX7) (T := TX7) (N := 11) hx hb hts in_X7_passes_RX7 hown hK.1 hP 0 rfl rfl 0 (by decide) (hts _ k_X7_passes_f7) (fun _ h9 => h9) rfl dX7_passes_160 ?_
        refine lv_iload_n hx hb dX7_passes_163 rfl (lv_at hl 0 rfl) ?_
        refine lv_bipush (v := (nI 30)) hx hb dX7_passes_164 (by decide) ?_
        refine n_iast (f := (upd M_114 (b + 4 + 1) ((M_114 (b + 4 + 1)) - (nI 1)))) (j := b + 4 + 1) (x := (nI 30)) hx hb hK hP hD hS 1 rfl (by omega) (by decide) dX7_passes_166 (fun H locs hP hD hS => ?_)
        have hP : va_P G.1 vwCl (MC G a g (upd (upd M_114 (b + 4 + 1) ((M_114 (b + 4 + 1)) - (nI 1))) (b + 4 + 1) (nI 30)) T Y) H := hP
        have hD : va_D A (MC G a g (upd (upd M_114 (b + 4 + 1) ((M_114 (b + 4 + 1)) - (nI 1))) (b + 4 + 1) (nI 30)) T Y) := hD
        refine lv_aload_n hx hb dX7_passes_167 rfl (lv_at hl 2 rfl) ?_
        refine va_get (D := G.1) (ci := 7) (v := .ref (a 1)) (C := RX7) (T := TX7) (N := 11) hx hb hts in_X7_passes_RX7 hown hK.1 hP 0 rfl rfl 0 (by decide) (hts _ k_X7_passes_f7) (fun _ h9 => h9) rfl dX7_passes_168 ?_
        refine lv_iload_n hx hb dX7_passes_171 rfl (lv_at hl 3 rfl) ?_
        refine lv_iload_n hx hb dX7_passes_172 rfl (lv_at hl 1 rfl) ?_
        refine n_iadd (i := b) (j := 1) hx hb dX7_passes_173 ?_
        refine lv_iconst (v := (nI 0)) hx hb dX7_passes_174 (by decide) ?_
        refine n_iast (f := (upd (upd M_114 (b + 4 + 1) ((M_114 (b + 4 + 1)) - (nI 1))) (b + 4 + 1) (nI 30))) (j := b + 1) (x := (nI 0)) hx hb hK hP hD hS 1 rfl (by omega) (by decide) dX7_passes_175 (fun H locs hP hD hS => ?_)
        have hP : va_P G.1 vwCl (MC G a g (upd (upd (upd M_114 (b + 4 + 1) ((M_114 (b + 4 + 1)) - (nI 1))) (b + 4 + 1) (nI 30)) (b + 1) (nI 0)) T Y) H := hP
        have hD : va_D A (MC G a g (upd (upd (upd M_114 (b + 4 + 1) ((M_114 (b + 4 + 1)) - (nI 1))) (b + 4 + 1) (nI 30)) (b + 1) (nI 0)) T Y) := hD
        refine lv_aload_n hx hb dX7_passes_176 rfl (lv_at hl 2 rfl) ?_
        refine va_get (D := G.1) (ci := 7) (v := .ref (a 1)) (C := RX7) (T := TX7) (N := 11) hx hb hts in_X7_passes_RX7 hown hK.1 hP 0 rfl rfl 0 (by decide) (hts _ k_X7_passes_f7) (fun _ h9 => h9) rfl dX7_passes_177 ?_
        refine lv_iload_n hx hb dX7_passes_180 rfl (lv_at hl 3 rfl) ?_
        refine lv_bipush (v := (nI 6)) hx hb dX7_passes_181 (by decide) ?_
        refine n_iadd (i := b) (j := 6) hx hb dX7_passes_183 ?_
        refine lv_iload_n hx hb dX7_passes_184 rfl (lv_at hl 1 rfl) ?_
        refine n_iadd (i := b + 6) (j := 1) hx hb dX7_passes_185 ?_
        refine lv_bipush (v := (nI 10)) hx hb dX7_passes_186 (by decide) ?_
        refine n_iast (f := (upd (upd (upd M_114 (b + 4 + 1) ((M_114 (b + 4 + 1)) - (nI 1))) (b + 4 + 1) (nI 30)) (b + 1) (nI 0))) (j := b + 6 + 1) (x := (nI 10)) hx hb hK hP hD hS 1 rfl (by omega) (by decide) dX7_passes_188 (fun H locs hP hD hS => ?_)
        have hP : va_P G.1 vwCl (MC G a g (upd (upd (upd (upd M_114 (b + 4 + 1) ((M_114 (b + 4 + 1)) - (nI 1))) (b + 4 + 1) (nI 30)) (b + 1) (nI 0)) (b + 6 + 1) (nI 10)) T Y) H := hP
        have hD : va_D A (MC G a g (upd (upd (upd (upd M_114 (b + 4 + 1) ((M_114 (b + 4 + 1)) - (nI 1))) (b + 4 + 1) (nI 30)) (b + 1) (nI 0)) (b + 6 + 1) (nI 10)) T Y) := hD
        refine lv_aload_n hx hb dX7_passes_189 rfl (lv_at hl 2 rfl) ?_
        refine va_get (D := G.1) (ci := 7) (v := .ref (a 1)) (C := RX7) (T := TX7) (N := 11) hx hb hts in_X7_passes_RX7 hown hK.1 hP 0 rfl rfl 0 (by decide) (hts _ k_X7_passes_f7) (fun _ h9 => h9) rfl dX7_passes_190 ?_
        refine lv_iload_n hx hb dX7_passes_193 rfl (lv_at hl 3 rfl) ?_
        refine lv_bipush (v := (nI 8)) hx hb dX7_passes_194 (by decide) ?_
        refine n_iadd (i := b) (j := 8) hx hb dX7_passes_196 ?_
        refine lv_iload_n hx hb dX7_passes_197 rfl (lv_at hl 1 rfl) ?_
        refine n_iadd (i := b + 8) (j := 1) hx hb dX7_passes_198 ?_
        refine lv_dup2_11 hx hb dX7_passes_199 rfl rfl ?_
        refine n_iald (f := (upd (upd (upd (upd M_114 (b + 4 + 1) ((M_114 (b + 4 + 1)) - (nI 1))) (b + 4 + 1) (nI 30)) (b + 1) (nI 0)) (b + 6 + 1) (nI 10))) (j := b + 8 + 1) hx hb hK hP 1 rfl (by omega) (by decide) dX7_passes_200 ?_
        refine lv_iconst (v := (nI 1)) hx hb dX7_passes_201 (by decide) ?_
        refine lv_iadd hx hb dX7_passes_202 ?_
        refine n_iast (f := (upd (upd (upd (upd M_114 (b + 4 + 1) ((M_114 (b + 4 + 1)) - (nI 1))) (b + 4 + 1) (nI 30)) (b + 1) (nI 0)) (b + 6 + 1) (nI 10))) (j := b + 8 + 1) (x := (((upd (upd (upd (upd M_114 (b + 4 + 1) ((M_114 (b + 4 + 1)) - (nI 1))) (b + 4 + 1) (nI 30)) (b + 1) (nI 0)) (b + 6 + 1) (nI 10)) (b + 8 + 1)) + (nI 1))) hx hb hK hP hD hS 1 rfl (by omega) (by decide) dX7_passes_203 (fun H locs hP hD hS => ?_)
        have hP : va_P G.1 vwCl (MC G a g (upd (upd (upd (upd (upd M_114 (b + 4 + 1) ((M_114 (b + 4 + 1)) - (nI 1))) (b + 4 + 1) (nI 30)) (b + 1) (nI 0)) (b + 6 + 1) (nI 10)) (b + 8 + 1) (((upd (upd (upd (upd M_114 (b + 4 + 1) ((M_114 (b + 4 + 1)) - (nI 1))) (b + 4 + 1) (nI 30)) (b + 1) (nI 0)) (b + 6 + 1) (nI 10)) (b + 8 + 1)) + (nI 1))) T Y) H := hP
        have hD : va_D A (MC G a g (upd (upd (upd (upd (upd M_114 (b + 4 + 1) ((M_114 (b + 4 + 1)) - (nI 1))) (b + 4 + 1) (nI 30)) (b + 1) (nI 0)) (b + 6 + 1) (nI 10)) (b + 8 + 1) (((upd (upd (upd (upd M_114 (b + 4 + 1) ((M_114 (b + 4 + 1)) - (nI 1))) (b + 4 + 1) (nI 30)) (b + 1) (nI 0)) (b + 6 + 1) (nI 10)) (b + 8 + 1)) + (nI 1))) T Y) := hD
        refine lv_iinc (v := (nI 2)) (lv' := [(2, .int (nI 2)), (3, .int (nI (b + 4 + 1))), (0, .ref (a 0)), (1, .int (nI b))]) hx hb dX7_passes_204 hl (k := 1) rfl (inc1 1) (by decide) rfl (fun ls hl => ?_)
        refine lv_goto (tgt := 114) hx hb dX7_passes_207 (by decide) ?_
        exact h_X7_passes_114_2 (upd (upd (upd (upd (upd M_114 (b + 4 + 1) ((M_114 (b + 4 + 1)) - (nI 1))) (b + 4 + 1) (nI 30)) (b + 1) (nI 0)) (b + 6 + 1) (nI 10)) (b + 8 + 1) (((upd (upd (upd (upd M_114 (b + 4 + 1) ((M_114 (b + 4 + 1)) - (nI 1))) (b + 4 + 1) (nI 30)) (b + 1) (nI 0)) (b + 6 + 1) (nI 10)) (b + 8 + 1)) + (nI 1)))  (hE.trans (by simp only [s_X7_passes_114_1, if_neg c_9, if_neg c_12])) _ _ _ hP hD hS (lv_sub hl [0, 2, 3] rfl)
  have h_X7_passes_114_0 : ∀ (M_114 : (Nat → Int32)), f_X7_passes M b = s_X7_passes_114_0 b M_114 → ∀ (H : Heap) (locs : List Loc) (ls : Array Slot), va_P G.1 vwCl (MC G a g M_114 T Y) H → va_D A (MC G a g M_114 T Y) → va_S A s.heap H locs → lv_has ls 4 [(2, .int (nI 0)), (0, .ref (a 0)), (1, .int (nI b))] → W p l e ({ frames := 3, cells := 0, slots := 0, locals := 69 }) s m ([.ref (a 0), .int (nI b)] : List Value).toArray below meth c H locs 0 0 (MQ below (PV G A (fun u : (Nat → Int32) => f_X7_passes M b = u) (fun u : (Nat → Int32) => MC G a g u T Y)) ([.ref (a 0), .int (nI b)] : List Value).toArray s 0 0 A) (F0 m 114 ls []) := by
    intro M_114  hE H locs ls hP hD hS hl
    refine lv_iload_n hx hb dX7_passes_114 rfl (lv_at hl 0 rfl) ?_
    refine lv_iconst (v := (nI 2)) hx hb dX7_passes_115 (by decide) ?_
    refine lv_icmp_ge (tgt := 210) hx hb dX7_passes_116 (by decide) (fun c_5 => absurd c_5 (by decide +kernel)) (fun c_5 => ?_)
    refine lv_iload_n hx hb dX7_passes_119 rfl (lv_at hl 2 rfl) ?_
    refine lv_iconst (v := (nI 4)) hx hb dX7_passes_120 (by decide) ?_
    refine n_iadd (i := b) (j := 4) hx hb dX7_passes_121 ?_
    refine lv_iload_n hx hb dX7_passes_122 rfl (lv_at hl 0 rfl) ?_
    refine n_iadd (i := b + 4) (j := 0) hx hb dX7_passes_123 ?_
    refine lv_istore_n (lv' := [(3, .int (nI (b + 4 + 0))), (2, .int (nI 0)), (0, .ref (a 0)), (1, .int (nI b))]) hx hb dX7_passes_124 rfl hl (by decide) rfl (fun ls hl => ?_)
    refine lv_aload_n hx hb dX7_passes_125 rfl (lv_at hl 2 rfl) ?_
    refine va_get (D := G.1) (ci := 7) (v := .ref (a 1)) (C := RX7) (T := TX7) (N := 11) hx hb hts in_X7_passes_RX7 hown hK.1 hP 0 rfl rfl 0 (by decide) (hts _ k_X7_passes_f7) (fun _ h9 => h9) rfl dX7_passes_126 ?_
    refine lv_iload_n hx hb dX7_passes_129 rfl (lv_at hl 0 rfl) ?_
    refine lv_dup2_11 hx hb dX7_passes_130 rfl rfl ?_
    refine n_iald (f := M_114) (j := b + 4 + 0) hx hb hK hP 1 rfl (by omega) (by decide) dX7_passes_131 ?_
    refine lv_aload_n hx hb dX7_passes_132 rfl (lv_at hl 2 rfl) ?_
    refine va_get (D := G.1) (ci := 7) (v := .ref (a 1)) (C := RX7) (T := TX7) (N := 11) hx hb hts in_X7_passes_RX7 hown hK.1 hP 0 rfl rfl 0 (by decide) (hts _ k_X7_passes_f7) (fun _ h9 => h9) rfl dX7_passes_133 ?_
    refine lv_iload_n hx hb dX7_passes_136 rfl (lv_at hl 0 rfl) ?_
    refine n_iald (f := M_114) (j := b + 4 + 0) hx hb hK hP 1 rfl (by omega) (by decide) dX7_passes_137 ?_
    refine lv_if_le (tgt := 145) hx hb dX7_passes_138 (by decide) (fun c_6 => ?_) (fun c_6 => ?_)
    · refine lv_iconst (v := (nI 0)) hx hb dX7_passes_145 (by decide) ?_
      refine lv_isub hx hb dX7_passes_146 ?_
      refine n_iast (f := M_114) (j := b + 4 + 0) (x := ((M_114 (b + 4 + 0)) - (nI 0))) hx hb hK hP hD hS 1 rfl (by omega) (by decide) dX7_passes_147 (fun H locs hP hD hS => ?_)
      have hP : va_P G.1 vwCl (MC G a g (upd M_114 (b + 4 + 0) ((M_114 (b + 4 + 0)) - (nI 0))) T Y) H := hP
      have hD : va_D A (MC G a g (upd M_114 (b + 4 + 0) ((M_114 (b + 4 + 0)) - (nI 0))) T Y) := hD
      refine lv_aload_n hx hb dX7_passes_148 rfl (lv_at hl 2 rfl) ?_
      refine va_get (D := G.1) (ci := 7) (v := .ref (a 1)) (C := RX7) (T := TX7) (N := 11) hx hb hts in_X7_passes_RX7 hown hK.1 hP 0 rfl rfl 0 (by decide) (hts _ k_X7_passes_f7) (fun _ h9 => h9) rfl dX7_passes_149 ?_
      refine lv_iload_n hx hb dX7_passes_152 rfl (lv_at hl 0 rfl) ?_
      refine n_iald (f := (upd M_114 (b + 4 + 0) ((M_114 (b + 4 + 0)) - (nI 0)))) (j := b + 4 + 0) hx hb hK hP 1 rfl (by omega) (by decide) dX7_passes_153 ?_
      refine lv_bipush (v := (nI 70)) hx hb dX7_passes_154 (by decide) ?_
      refine lv_icmp_le (tgt := 204) hx hb dX7_passes_156 (by decide) (fun c_7 => ?_) (fun c_7 => ?_)
      · refine lv_iinc (v := (nI 1)) (lv' := [(2, .int (nI 1)), (3, .int (nI (b + 4 + 0))), (0, .ref (a 0)), (1, .int (nI b))]) hx hb dX7_passes_204 hl (k := 1) rfl (inc1 0) (by decide) rfl (fun ls hl => ?_)
        refine lv_goto (tgt := 114) hx hb dX7_passes_207 (by decide) ?_
        exact h_X7_passes_114_1 (upd M_114 (b + 4 + 0) ((M_114 (b + 4 + 0)) - (nI 0)))  (hE.trans (by simp only [s_X7_passes_114_0, if_pos c_6, if_pos c_7])) _ _ _ hP hD hS (lv_sub hl [0, 2, 3] rfl)
      · refine lv_aload_n hx hb dX7_passes_159 rfl (lv_at hl 2 rfl) ?_
        refine va_get (D := G.1) (ci := 7) (v := .ref (a 1)) (C := RX7) (T := TX7) (N := 11) hx hb hts in_X7_passes_RX7 hown hK.1 hP 0 rfl rfl 0 (by decide) (hts _ k_X7_passes_f7) (fun _ h9 => h9) rfl dX7_passes_160 ?_
        refine lv_iload_n hx hb dX7_passes_163 rfl (lv_at hl 0 rfl) ?_
        refine lv_bipush (v := (nI 30)) hx hb dX7_passes_164 (by decide) ?_
        refine n_iast (f := (upd M_114 (b + 4 + 0) ((M_114 (b + 4 + 0)) - (nI 0)))) (j := b + 4 + 0) (x := (nI 30)) hx hb hK hP hD hS 1 rfl (by omega) (by decide) dX7_passes_166 (fun H locs hP hD hS => ?_)
        have hP : va_P G.1 vwCl (MC G a g (upd (upd M_114 (b + 4 + 0) ((M_114 (b + 4 + 0)) - (nI 0))) (b + 4 + 0) (nI 30)) T Y) H := hP
        have hD : va_D A (MC G a g (upd (upd M_114 (b + 4 + 0) ((M_114 (b + 4 + 0)) - (nI 0))) (b + 4 + 0) (nI 30)) T Y) := hD
        refine lv_aload_n hx hb dX7_passes_167 rfl (lv_at hl 2 rfl) ?_
        refine va_get (D := G.1) (ci := 7) (v := .ref (a 1)) (C := RX7) (T := TX7) (N := 11) hx hb hts in_X7_passes_RX7 hown hK.1 hP 0 rfl rfl 0 (by decide) (hts _ k_X7_passes_f7) (fun _ h9 => h9) rfl dX7_passes_168 ?_
        refine lv_iload_n hx hb dX7_passes_171 rfl (lv_at hl 3 rfl) ?_
        refine lv_iload_n hx hb dX7_passes_172 rfl (lv_at hl 1 rfl) ?_
        refine n_iadd (i := b) (j := 0) hx hb dX7_passes_173 ?_
        refine lv_iconst (v := (nI 0)) hx hb dX7_passes_174 (by decide) ?_
        refine n_iast (f := (upd (upd M_114 (b + 4 + 0) ((M_114 (b + 4 + 0)) - (nI 0))) (b + 4 + 0) (nI 30))) (j := b + 0) (x := (nI 0)) hx hb hK hP hD hS 1 rfl (by omega) (by decide) dX7_passes_175 (fun H locs hP hD hS => ?_)
        have hP : va_P G.1 vwCl (MC G a g (upd (upd (upd M_114 (b + 4 + 0) ((M_114 (b + 4 + 0)) - (nI 0))) (b + 4 + 0) (nI 30)) (b + 0) (nI 0)) T Y) H := hP
        have hD : va_D A (MC G a g (upd (upd (upd M_114 (b + 4 + 0) ((M_114 (b + 4 + 0)) - (nI 0))) (b + 4 + 0) (nI 30)) (b + 0) (nI 0)) T Y) := hD
        refine lv_aload_n hx hb dX7_passes_176 rfl (lv_at hl 2 rfl) ?_
        refine va_get (D := G.1) (ci := 7) (v := .ref (a 1)) (C := RX7) (T := TX7) (N := 11) hx hb hts in_X7_passes_RX7 hown hK.1 hP 0 rfl rfl 0 (by decide) (hts _ k_X7_passes_f7) (fun _ h9 => h9) rfl dX7_passes_177 ?_
        refine lv_iload_n hx hb dX7_passes_180 rfl (lv_at hl 3 rfl) ?_
        refine lv_bipush (v := (nI 6)) hx hb dX7_passes_181 (by decide) ?_
        refine n_iadd (i := b) (j := 6) hx hb dX7_passes_183 ?_
        refine lv_iload_n hx hb dX7_passes_184 rfl (lv_at hl 1 rfl) ?_
        refine n_iadd (i := b + 6) (j := 0) hx hb dX7_passes_185 ?_
        refine lv_bipush (v := (nI 10)) hx hb dX7_passes_186 (by decide) ?_
        refine n_iast (f := (upd (upd (upd M_114 (b + 4 + 0) ((M_114 (b + 4 + 0)) - (nI 0))) (b + 4 + 0) (nI 30)) (b + 0) (nI 0))) (j := b + 6 + 0) (x := (nI 10)) hx hb hK hP hD hS 1 rfl (by omega) (by decide) dX7_passes_188 (fun H locs hP hD hS => ?_)
        have hP : va_P G.1 vwCl (MC G a g (upd (upd (upd (upd M_114 (b + 4 + 0) ((M_114 (b + 4 + 0)) - (nI 0))) (b + 4 + 0) (nI 30)) (b + 0) (nI 0)) (b + 6 + 0) (nI 10)) T Y) H := hP
        have hD : va_D A (MC G a g (upd (upd (upd (upd M_114 (b + 4 + 0) ((M_114 (b + 4 + 0)) - (nI 0))) (b + 4 + 0) (nI 30)) (b + 0) (nI 0)) (b + 6 + 0) (nI 10)) T Y) := hD
        refine lv_aload_n hx hb dX7_passes_189 rfl (lv_at hl 2 rfl) ?_
        refine va_get (D := G.1) (ci := 7) (v := .ref (a 1)) (C := RX7) (T := TX7) (N := 11) hx hb hts in_X7_passes_RX7 hown hK.1 hP 0 rfl rfl 0 (by decide) (hts _ k_X7_passes_f7) (fun _ h9 => h9) rfl dX7_passes_190 ?_
        refine lv_iload_n hx hb dX7_passes_193 rfl (lv_at hl 3 rfl) ?_
        refine lv_bipush (v := (nI 8)) hx hb dX7_passes_194 (by decide) ?_
        refine n_iadd (i := b) (j := 8) hx hb dX7_passes_196 ?_
        refine lv_iload_n hx hb dX7_passes_197 rfl (lv_at hl 1 rfl) ?_
        refine n_iadd (i := b + 8) (j := 0) hx hb dX7_passes_198 ?_
        refine lv_dup2_11 hx hb dX7_passes_199 rfl rfl ?_
        refine n_iald (f := (upd (upd (upd (upd M_114 (b + 4 + 0) ((M_114 (b + 4 + 0)) - (nI 0))) (b + 4 + 0) (nI 30)) (b + 0) (nI 0)) (b + 6 + 0) (nI 10))) (j := b + 8 + 0) hx hb hK hP 1 rfl (by omega) (by decide) dX7_passes_200 ?_
        refine lv_iconst (v := (nI 1)) hx hb dX7_passes_201 (by decide) ?_
        refine lv_iadd hx hb dX7_passes_202 ?_
        refine n_iast (f := (upd (upd (upd (upd M_114 (b + 4 + 0) ((M_114 (b + 4 + 0)) - (nI 0))) (b + 4 + 0) (nI 30)) (b + 0) (nI 0)) (b + 6 + 0) (nI 10))) (j := b + 8 + 0) (x := (((upd (upd (upd (upd M_114 (b + 4 + 0) ((M_114 (b + 4 + 0)) - (nI 0))) (b + 4 + 0) (nI 30)) (b + 0) (nI 0)) (b + 6 + 0) (nI 10)) (b + 8 + 0)) + (nI 1))) hx hb hK hP hD hS 1 rfl (by omega) (by decide) dX7_passes_203 (fun H locs hP hD hS => ?_)
        have hP : va_P G.1 vwCl (MC G a g (upd (upd (upd (upd (upd M_114 (b + 4 + 0) ((M_114 (b + 4 + 0)) - (nI 0))) (b + 4 + 0) (nI 30)) (b + 0) (nI 0)) (b + 6 + 0) (nI 10)) (b + 8 + 0) (((upd (upd (upd (upd M_114 (b + 4 + 0) ((M_114 (b + 4 + 0)) - (nI 0))) (b + 4 + 0) (nI 30)) (b + 0) (nI 0)) (b + 6 + 0) (nI 10)) (b + 8 + 0)) + (nI 1))) T Y) H := hP
        have hD : va_D A (MC G a g (upd (upd (upd (upd (upd M_114 (b + 4 + 0) ((M_114 (b + 4 + 0)) - (nI 0))) (b + 4 + 0) (nI 30)) (b + 0) (nI 0)) (b + 6 + 0) (nI 10)) (b + 8 + 0) (((upd (upd (upd (upd M_114 (b + 4 + 0) ((M_114 (b + 4 + 0)) - (nI 0))) (b + 4 + 0) (nI 30)) (b + 0) (nI 0)) (b + 6 + 0) (nI 10)) (b + 8 + 0)) + (nI 1))) T Y) := hD
        refine lv_iinc (v := (nI 1)) (lv' := [(2, .int (nI 1)), (3, .int (nI (b + 4 + 0))), (0, .ref (a 0)), (1, .int (nI b))]) hx hb dX7_passes_204 hl (k := 1) rfl (inc1 0) (by decide) rfl (fun ls hl => ?_)
        refine lv_goto (tgt := 114) hx hb dX7_passes_207 (by decide) ?_
        exact h_X7_passes_114_1 (upd (upd (upd (upd (upd M_114 (b + 4 + 0) ((M_114 (b + 4 + 0)) - (nI 0))) (b + 4 + 0) (nI 30)) (b + 0) (nI 0)) (b + 6 + 0) (nI 10)) (b + 8 + 0) (((upd (upd (upd (upd M_114 (b + 4 + 0) ((M_114 (b + 4 + 0)) - (nI 0))) (b + 4 + 0) (nI 30)) (b + 0) (nI 0)) (b + 6 + 0) (nI 10)) (b + 8 + 0)) + (nI 1)))  (hE.trans (by simp only [s_X7_passes_114_0, if_pos c_6, if_neg c_7])) _ _ _ hP hD hS (lv_sub hl [0, 2, 3] rfl)
    · refine lv_iconst (v := (nI 1)) hx hb dX7_passes_141 (by decide) ?_
      refine lv_goto (tgt := 146) hx hb dX7_passes_142 (by decide) ?_
      refine lv_isub hx hb dX7_passes_146 ?_
      refine n_iast (f := M_114) (j := b + 4 + 0) (x := ((M_114 (b + 4 + 0)) - (nI 1))) hx hb hK hP hD hS 1 rfl (by omega) (by decide) dX7_passes_147 (fun H locs hP hD hS => ?_)
      have hP : va_P G.1 vwCl (MC G a g (upd M_114 (b + 4 + 0) ((M_114 (b + 4 + 0)) - (nI 1))) T Y) H := hP
      have hD : va_D A (MC G a g (upd M_114 (b + 4 + 0) ((M_114 (b + 4 + 0)) - (nI 1))) T Y) := hD
      refine lv_aload_n hx hb dX7_passes_148 rfl (lv_at hl 2 rfl) ?_
      refine va_get (D := G.1) (ci := 7) (v := .ref (a 1)) (C := RX7) (T := TX7) (N := 11) hx hb hts in_X7_passes_RX7 hown hK.1 hP 0 rfl rfl 0 (by decide) (hts _ k_X7_passes_f7) (fun _ h9 => h9) rfl dX7_passes_149 ?_
      refine lv_iload_n hx hb dX7_passes_152 rfl (lv_at hl 0 rfl) ?_
      refine n_iald (f := (upd M_114 (b + 4 + 0) ((M_114 (b + 4 + 0)) - (nI 1)))) (j := b + 4 + 0) hx hb hK hP 1 rfl (by omega) (by decide) dX7_passes_153 ?_
      refine lv_bipush (v := (nI 70)) hx hb dX7_passes_154 (by decide) ?_
      refine lv_icmp_le (tgt := 204) hx hb dX7_passes_156 (by decide) (fun c_13 => ?_) (fun c_13 => ?_)
      · refine lv_iinc (v := (nI 1)) (lv' := [(2, .int (nI 1)), (3, .int (nI (b + 4 + 0))), (0, .ref (a 0)), (1, .int (nI b))]) hx hb dX7_passes_204 hl (k := 1) rfl (inc1 0) (by decide) rfl (fun ls hl => ?_)
        refine lv_goto (tgt := 114) hx hb dX7_passes_207 (by decide) ?_
        exact h_X7_passes_114_1 (upd M_114 (b + 4 + 0) ((M_114 (b + 4 + 0)) - (nI 1)))  (hE.trans (by simp only [s_X7_passes_114_0, if_neg c_6, if_pos c_13])) _ _ _ hP hD hS (lv_sub hl [0, 2, 3] rfl)
      · refine lv_aload_n hx hb dX7_passes_159 rfl (lv_at hl 2 rfl) ?_
        refine va_get (D := G.1) (ci := 7) (v := .ref (a 1)) (C := RX7) (T := TX7) (N := 11) hx hb hts in_X7_passes_RX7 hown hK.1 hP 0 rfl rfl 0 (by decide) (hts _ k_X7_passes_f7) (fun _ h9 => h9) rfl dX7_passes_160 ?_
        refine lv_iload_n hx hb dX7_passes_163 rfl (lv_at hl 0 rfl) ?_
        refine lv_bipush (v := (nI 30)) hx hb dX7_passes_164 (by decide) ?_
        refine n_iast (f := (upd M_114 (b + 4 + 0) ((M_114 (b + 4 + 0)) - (nI 1)))) (j := b + 4 + 0) (x := (nI 30)) hx hb hK hP hD hS 1 rfl (by omega) (by decide) dX7_passes_166 (fun H locs hP hD hS => ?_)
        have hP : va_P G.1 vwCl (MC G a g (upd (upd M_114 (b + 4 + 0) ((M_114 (b + 4 + 0)) - (nI 1))) (b + 4 + 0) (nI 30)) T Y) H := hP
        have hD : va_D A (MC G a g (upd (upd M_114 (b + 4 + 0) ((M_114 (b + 4 + 0)) - (nI 1))) (b + 4 + 0) (nI 30)) T Y) := hD
        refine lv_aload_n hx hb dX7_passes_167 rfl (lv_at hl 2 rfl) ?_
        refine va_get (D := G.1) (ci := 7) (v := .ref (a 1)) (C := RX7) (T := TX7) (N := 11) hx hb hts in_X7_passes_RX7 hown hK.1 hP 0 rfl rfl 0 (by decide) (hts _ k_X7_passes_f7) (fun _ h9 => h9) rfl dX7_passes_168 ?_
        refine lv_iload_n hx hb dX7_passes_171 rfl (lv_at hl 3 rfl) ?_
        refine lv_iload_n hx hb dX7_passes_172 rfl (lv_at hl 1 rfl) ?_
        refine n_iadd (i := b) (j := 0) hx hb dX7_passes_173 ?_
        refine lv_iconst (v := (nI 0)) hx hb dX7_passes_174 (by decide) ?_
        refine n_iast (f := (upd (upd M_114 (b + 4 + 0) ((M_114 (b + 4 + 0)) - (nI 1))) (b + 4 + 0) (nI 30))) (j := b + 0) (x := (nI 0)) hx hb hK hP hD hS 1 rfl (by omega) (by decide) dX7_passes_175 (fun H locs hP hD hS => ?_)
        have hP : va_P G.1 vwCl (MC G a g (upd (upd (upd M_114 (b + 4 + 0) ((M_114 (b + 4 + 0)) - (nI 1))) (b + 4 + 0) (nI 30)) (b + 0) (nI 0)) T Y) H := hP
        have hD : va_D A (MC G a g (upd (upd (upd M_114 (b + 4 + 0) ((M_114 (b + 4 + 0)) - (nI 1))) (b + 4 + 0) (nI 30)) (b + 0) (nI 0)) T Y) := hD
        refine lv_aload_n hx hb dX7_passes_176 rfl (lv_at hl 2 rfl) ?_
        refine va_get (D := G.1) (ci := 7) (v := .ref (a 1)) (C := RX7) (T := TX7) (N := 11) hx hb hts in_X7_passes_RX7 hown hK.1 hP 0 rfl rfl 0 (by decide) (hts _ k_X7_passes_f7) (fun _ h9 => h9) rfl dX7_passes_177 ?_
        refine lv_iload_n hx hb dX7_passes_180 rfl (lv_at hl 3 rfl) ?_
        refine lv_bipush (v := (nI 6)) hx hb dX7_passes_181 (by decide) ?_
        refine n_iadd (i := b) (j := 6) hx hb dX7_passes_183 ?_
        refine lv_iload_n hx hb dX7_passes_184 rfl (lv_at hl 1 rfl) ?_
        refine n_iadd (i := b + 6) (j := 0) hx hb dX7_passes_185 ?_
        refine lv_bipush (v := (nI 10)) hx hb dX7_passes_186 (by decide) ?_
        refine n_iast (f := (upd (upd (upd M_114 (b + 4 + 0) ((M_114 (b + 4 + 0)) - (nI 1))) (b + 4 + 0) (nI 30)) (b + 0) (nI 0))) (j := b + 6 + 0) (x := (nI 10)) hx hb hK hP hD hS 1 rfl (by omega) (by decide) dX7_passes_188 (fun H locs hP hD hS => ?_)
        have hP : va_P G.1 vwCl (MC G a g (upd (upd (upd (upd M_114 (b + 4 + 0) ((M_114 (b + 4 + 0)) - (nI 1))) (b + 4 + 0) (nI 30)) (b + 0) (nI 0)) (b + 6 + 0) (nI 10)) T Y) H := hP
        have hD : va_D A (MC G a g (upd (upd (upd (upd M_114 (b + 4 + 0) ((M_114 (b + 4 + 0)) - (nI 1))) (b + 4 + 0) (nI 30)) (b + 0) (nI 0)) (b + 6 + 0) (nI 10)) T Y) := hD
        refine lv_aload_n hx hb dX7_passes_189 rfl (lv_at hl 2 rfl) ?_
        refine va_get (D := G.1) (ci := 7) (v := .ref (a 1)) (C := RX7) (T := TX7) (N := 11) hx hb hts in_X7_passes_RX7 hown hK.1 hP 0 rfl rfl 0 (by decide) (hts _ k_X7_passes_f7) (fun _ h9 => h9) rfl dX7_passes_190 ?_
        refine lv_iload_n hx hb dX7_passes_193 rfl (lv_at hl 3 rfl) ?_
        refine lv_bipush (v := (nI 8)) hx hb dX7_passes_194 (by decide) ?_
        refine n_iadd (i := b) (j := 8) hx hb dX7_passes_196 ?_
        refine lv_iload_n hx hb dX7_passes_197 rfl (lv_at hl 1 rfl) ?_
        refine n_iadd (i := b + 8) (j := 0) hx hb dX7_passes_198 ?_
        refine lv_dup2_11 hx hb dX7_passes_199 rfl rfl ?_
        refine n_iald (f := (upd (upd (upd (upd M_114 (b + 4 + 0) ((M_114 (b + 4 + 0)) - (nI 1))) (b + 4 + 0) (nI 30)) (b + 0) (nI 0)) (b + 6 + 0) (nI 10))) (j := b + 8 + 0) hx hb hK hP 1 rfl (by omega) (by decide) dX7_passes_200 ?_
        refine lv_iconst (v := (nI 1)) hx hb dX7_passes_201 (by decide) ?_
        refine lv_iadd hx hb dX7_passes_202 ?_
        refine n_iast (f := (upd (upd (upd (upd M_114 (b + 4 + 0) ((M_114 (b + 4 + 0)) - (nI 1))) (b + 4 + 0) (nI 30)) (b + 0) (nI 0)) (b + 6 + 0) (nI 10))) (j := b + 8 + 0) (x := (((upd (upd (upd (upd M_114 (b + 4 + 0) ((M_114 (b + 4 + 0)) - (nI 1))) (b + 4 + 0) (nI 30)) (b + 0) (nI 0)) (b + 6 + 0) (nI 10)) (b + 8 + 0)) + (nI 1))) hx hb hK hP hD hS 1 rfl (by omega) (by decide) dX7_passes_203 (fun H locs hP hD hS => ?_)
        have hP : va_P G.1 vwCl (MC G a g (upd (upd (upd (upd (upd M_114 (b + 4 + 0) ((M_114 (b + 4 + 0)) - (nI 1))) (b + 4 + 0) (nI 30)) (b + 0) (nI 0)) (b + 6 + 0) (nI 10)) (b + 8 + 0) (((upd (upd (upd (upd M_114 (b + 4 + 0) ((M_114 (b + 4 + 0)) - (nI 1))) (b + 4 + 0) (nI 30)) (b + 0) (nI 0)) (b + 6 + 0) (nI 10)) (b + 8 + 0)) + (nI 1))) T Y) H := hP
        have hD : va_D A (MC G a g (upd (upd (upd (upd (upd M_114 (b + 4 + 0) ((M_114 (b + 4 + 0)) - (nI 1))) (b + 4 + 0) (nI 30)) (b + 0) (nI 0)) (b + 6 + 0) (nI 10)) (b + 8 + 0) (((upd (upd (upd (upd M_114 (b + 4 + 0) ((M_114 (b + 4 + 0)) - (nI 1))) (b + 4 + 0) (nI 30)) (b + 0) (nI 0)) (b + 6 + 0) (nI 10)) (b + 8 + 0)) + (nI 1))) T Y) := hD
        refine lv_iinc (v := (nI 1)) (lv' := [(2, .int (nI 1)), (3, .int (nI (b + 4 + 0))), (0, .ref (a 0)), (1, .int (nI b))]) hx hb dX7_passes_204 hl (k := 1) rfl (inc1 0) (by decide) rfl (fun ls hl => ?_)
        refine lv_goto (tgt := 114) hx hb dX7_passes_207 (by decide) ?_
        exact h_X7_passes_114_1 (upd (upd (upd (upd (upd M_114 (b + 4 + 0) ((M_114 (b + 4 + 0)) - (nI 1))) (b + 4 + 0) (nI 30)) (b + 0) (nI 0)) (b + 6 + 0) (nI 10)) (b + 8 + 0) (((upd (upd (upd (upd M_114 (b + 4 + 0) ((M_114 (b + 4 + 0)) - (nI 1))) (b + 4 + 0) (nI 30)) (b + 0) (nI 0)) (b + 6 + 0) (nI 10)) (b + 8 + 0)) + (nI 1)))  (hE.trans (by simp only [s_X7_passes_114_0, if_neg c_6, if_neg c_13])) _ _ _ hP hD hS (lv_sub hl [0, 2, 3] rfl)
  have h_X7_passes_95 : ∀ (M_95 : (Nat → Int32)), f_X7_passes M b = s_X7_passes_95 b M_95 → ∀ (H : Heap) (locs : List Loc) (ls : Array Slot), va_P G.1 vwCl (MC G a g M_95 T Y) H → va_D A (MC G a g M_95 T Y) → va_S A s.heap H locs → lv_has ls 4 [(0, .ref (a 0)), (1, .int (nI b))] → W p l e ({ frames := 3, cells := 0, slots := 0, locals := 69 }) s m ([.ref (a 0), .int (nI b)] : List Value).toArray below meth c H locs 0 0 (MQ below (PV G A (fun u : (Nat → Int32) => f_X7_passes M b = u) (fun u : (Nat → Int32) => MC G a g u T Y)) ([.ref (a 0), .int (nI b)] : List Value).toArray s 0 0 A) (F0 m 95 ls []) := by
    intro M_95  hE H locs ls hP hD hS hl
    refine lv_aload_n hx hb dX7_passes_95 rfl (lv_at hl 0 rfl) ?_
    refine lv_iload_n hx hb dX7_passes_96 rfl (lv_at hl 1 rfl) ?_
    refine lv_iconst (v := (nI 0)) hx hb dX7_passes_97 (by decide) ?_
    refine gcall_V (run_V (As := [.int (nI b), .int (nI 0)]) (rest := []) C0 hK hP hD (c_X7_fires l G a g M_95 T Y H.size b 0 (by omega) (by omega)) (cwV 2 hts gX7_passes_X7_fires rfl rfl rfl cd_X7_fires ⟨Nat.le_of_ble_eq_true rfl, Nat.le_of_ble_eq_true rfl⟩) [0, 1, 2, 3] rfl rfl 0 (ci := 7) rfl rfl rfl rfl hl.1 rfl (Nat.le_of_ble_eq_true rfl) dX7_passes_98 ⟨Nat.le_of_ble_eq_true rfl, Nat.le_of_ble_eq_true rfl⟩) hP hD hS hA [0, 1, 2, 3] rfl rfl (fun _ => rfl) (fun u_2 H locs hw_2 hP hD hS => ?_)
    obtain ⟨M_c2, rfl⟩ : ∃ z, z = u_2 := ⟨_, rfl⟩
    have hP : va_P G.1 vwCl (MC G a g M_c2 T Y) H := hP
    have hD : va_D A (MC G a g M_c2 T Y) := hD
    refine lv_aload_n hx hb dX7_passes_101 rfl (lv_at hl 0 rfl) ?_
    refine lv_iload_n hx hb dX7_passes_102 rfl (lv_at hl 1 rfl) ?_
    refine lv_iconst (v := (nI 1)) hx hb dX7_passes_103 (by decide) ?_
    refine gcall_V (run_V (As := [.int (nI b), .int (nI 1)]) (rest := []) C0 hK hP hD (c_X7_fires l G a g M_c2 T Y H.size b 1 (by omega) (by omega)) (cwV 2 hts gX7_passes_X7_fires rfl rfl rfl cd_X7_fires ⟨Nat.le_of_ble_eq_true rfl, Nat.le_of_ble_eq_true rfl⟩) [0, 1, 2, 3] rfl rfl 0 (ci := 7) rfl rfl rfl rfl hl.1 rfl (Nat.le_of_ble_eq_true rfl) dX7_passes_104 ⟨Nat.le_of_ble_eq_true rfl, Nat.le_of_ble_eq_true rfl⟩) hP hD hS hA [0, 1, 2, 3] rfl rfl (fun _ => rfl) (fun u_3 H locs hw_3 hP hD hS => ?_)
    obtain ⟨M_c3, rfl⟩ : ∃ z, z = u_3 := ⟨_, rfl⟩
    have hP : va_P G.1 vwCl (MC G a g M_c3 T Y) H := hP
    have hD : va_D A (MC G a g M_c3 T Y) := hD
    refine lv_aload_n hx hb dX7_passes_107 rfl (lv_at hl 0 rfl) ?_
    refine lv_iload_n hx hb dX7_passes_108 rfl (lv_at hl 1 rfl) ?_
    refine gcall_V (run_V (As := [.int (nI b)]) (rest := []) C0 hK hP hD (c_X7_works l G a g M_c3 T Y H.size b (by omega)) (cwV 1 hts gX7_passes_X7_works rfl rfl rfl cd_X7_works ⟨Nat.le_of_ble_eq_true rfl, Nat.le_of_ble_eq_true rfl⟩) [0, 1, 2, 3] rfl rfl 0 (ci := 7) rfl rfl rfl rfl hl.1 rfl (Nat.le_of_ble_eq_true rfl) dX7_passes_109 ⟨Nat.le_of_ble_eq_true rfl, Nat.le_of_ble_eq_true rfl⟩) hP hD hS hA [0, 1, 2, 3] rfl rfl (fun _ => rfl) (fun u_4 H locs hw_4 hP hD hS => ?_)
    obtain ⟨M_c4, rfl⟩ : ∃ z, z = u_4 := ⟨_, rfl⟩
    have hP : va_P G.1 vwCl (MC G a g M_c4 T Y) H := hP
    have hD : va_D A (MC G a g M_c4 T Y) := hD
    refine lv_iconst (v := (nI 0)) hx hb dX7_passes_112 (by decide) ?_
    refine lv_istore_n (lv' := [(2, .int (nI 0)), (0, .ref (a 0)), (1, .int (nI b))]) hx hb dX7_passes_113 rfl hl (by decide) rfl (fun ls hl => ?_)
    exact h_X7_passes_114_0 M_c4  (hE.trans (by simp only [s_X7_passes_95, hw_2, hw_3, hw_4])) _ _ _ hP hD hS (lv_sub hl [0, 1, 2] rfl)
  refine lv_aload_n hx hb dX7_passes_0 rfl (lv_at hl 0 rfl) ?_
  refine va_get (D := G.1) (ci := 7) (v := .ref (a 1)) (C := RX7) (T := TX7) (N := 11) hx hb hts in_X7_passes_RX7 hown hK.1 hP 0 rfl rfl 0 (by decide) (hts _ k_X7_passes_f7) (fun _ h9 => h9) rfl dX7_passes_1 ?_
  refine lv_iload_n hx hb dX7_passes_4 rfl (lv_at hl 1 rfl) ?_
  refine lv_bipush (v := (nI 12)) hx hb dX7_passes_5 (by decide) ?_
  refine n_iadd (i := b) (j := 12) hx hb dX7_passes_7 ?_
  refine lv_dup2_11 hx hb dX7_passes_8 rfl rfl ?_
  refine n_iald (f := M) (j := b + 12) hx hb hK hP 1 rfl (by omega) (by decide) dX7_passes_9 ?_
  refine lv_iconst (v := (nI 1)) hx hb dX7_passes_10 (by decide) ?_
  refine lv_iadd hx hb dX7_passes_11 ?_
  refine n_iast (f := M) (j := b + 12) (x := ((M (b + 12)) + (nI 1))) hx hb hK hP hD hS 1 rfl (by omega) (by decide) dX7_passes_12 (fun H locs hP hD hS => ?_)
  have hP : va_P G.1 vwCl (MC G a g (upd M (b + 12) ((M (b + 12)) + (nI 1))) T Y) H := hP
  have hD : va_D A (MC G a g (upd M (b + 12) ((M (b + 12)) + (nI 1))) T Y) := hD
  refine lv_aload_n hx hb dX7_passes_13 rfl (lv_at hl 0 rfl) ?_
  refine va_get (D := G.1) (ci := 7) (v := .ref (a 1)) (C := RX7) (T := TX7) (N := 11) hx hb hts in_X7_passes_RX7 hown hK.1 hP 0 rfl rfl 0 (by decide) (hts _ k_X7_passes_f7) (fun _ h9 => h9) rfl dX7_passes_14 ?_
  refine lv_iload_n hx hb dX7_passes_17 rfl (lv_at hl 1 rfl) ?_
  refine lv_bipush (v := (nI 12)) hx hb dX7_passes_18 (by decide) ?_
  refine n_iadd (i := b) (j := 12) hx hb dX7_passes_20 ?_
  refine n_iald (f := (upd M (b + 12) ((M (b + 12)) + (nI 1)))) (j := b + 12) hx hb hK hP 1 rfl (by omega) (by decide) dX7_passes_21 ?_
  refine lv_bipush (v := (nI 60)) hx hb dX7_passes_22 (by decide) ?_
  refine lv_irem hx hb dX7_passes_24 (by decide) ?_
  refine lv_if_ne (tgt := 95) hx hb dX7_passes_25 (by decide) (fun c_1 => ?_) (fun c_1 => ?_)
  · exact h_X7_passes_95 (upd M (b + 12) ((M (b + 12)) + (nI 1)))  (by simp only [f_X7_passes, if_neg c_1]) _ _ _ hP hD hS (lv_sub hl [0, 1] rfl)
  · refine lv_sipush (v := (nI 999)) hx hb dX7_passes_28 (by decide) ?_
    refine lv_aload_n hx hb dX7_passes_31 rfl (lv_at hl 0 rfl) ?_
    refine va_get (D := G.1) (ci := 7) (v := .ref (a 1)) (C := RX7) (T := TX7) (N := 11) hx hb hts in_X7_passes_RX7 hown hK.1 hP 0 rfl rfl 0 (by decide) (hts _ k_X7_passes_f7) (fun _ h9 => h9) rfl dX7_passes_32 ?_
    refine lv_iload_n hx hb dX7_passes_35 rfl (lv_at hl 1 rfl) ?_
    refine lv_bipush (v := (nI 10)) hx hb dX7_passes_36 (by decide) ?_
    refine n_iadd (i := b) (j := 10) hx hb dX7_passes_38 ?_
    refine n_iald (f := (upd M (b + 12) ((M (b + 12)) + (nI 1)))) (j := b + 10) hx hb hK hP 1 rfl (by omega) (by decide) dX7_passes_39 ?_
    refine lv_isub hx hb dX7_passes_40 ?_
    refine lv_istore_n (lv' := [(2, .int ((nI 999) - ((upd M (b + 12) ((M (b + 12)) + (nI 1))) (b + 10)))), (0, .ref (a 0)), (1, .int (nI b))]) hx hb dX7_passes_41 rfl hl (by decide) rfl (fun ls hl => ?_)
    refine lv_aload_n hx hb dX7_passes_42 rfl (lv_at hl 1 rfl) ?_
    refine va_get (D := G.1) (ci := 7) (v := .ref (a 1)) (C := RX7) (T := TX7) (N := 11) hx hb hts in_X7_passes_RX7 hown hK.1 hP 0 rfl rfl 0 (by decide) (hts _ k_X7_passes_f7) (fun _ h9 => h9) rfl dX7_passes_43 ?_
    refine lv_iload_n hx hb dX7_passes_46 rfl (lv_at hl 2 rfl) ?_
    refine lv_bipush (v := (nI 11)) hx hb dX7_passes_47 (by decide) ?_
    refine n_iadd (i := b) (j := 11) hx hb dX7_passes_49 ?_
    refine n_iald (f := (upd M (b + 12) ((M (b + 12)) + (nI 1)))) (j := b + 11) hx hb hK hP 1 rfl (by omega) (by decide) dX7_passes_50 ?_
    refine lv_iload_n hx hb dX7_passes_51 rfl (lv_at hl 0 rfl) ?_
    refine lv_icmp_ge (tgt := 67) hx hb dX7_passes_52 (by decide) (fun c_14 => ?_) (fun c_14 => ?_)
    · refine lv_iload_n hx hb dX7_passes_67 rfl (lv_at hl 0 rfl) ?_
      refine lv_istore_n (lv' := [(3, .int ((nI 999) - ((upd M (b + 12) ((M (b + 12)) + (nI 1))) (b + 10)))), (2, .int ((nI 999) - ((upd M (b + 12) ((M (b + 12)) + (nI 1))) (b + 10)))), (0, .ref (a 0)), (1, .int (nI b))]) hx hb dX7_passes_68 rfl hl (by decide) rfl (fun ls hl => ?_)
      refine lv_aload_n hx hb dX7_passes_69 rfl (lv_at hl 2 rfl) ?_
      refine va_get (D := G.1) (ci := 7) (v := .ref (a 1)) (C := RX7) (T := TX7) (N := 11) hx hb hts in_X7_passes_RX7 hown hK.1 hP 0 rfl rfl 0 (by decide) (hts _ k_X7_passes_f7) (fun _ h9 => h9) rfl dX7_passes_70 ?_
      refine lv_iload_n hx hb dX7_passes_73 rfl (lv_at hl 3 rfl) ?_
      refine lv_bipush (v := (nI 10)) hx hb dX7_passes_74 (by decide) ?_
      refine n_iadd (i := b) (j := 10) hx hb dX7_passes_76 ?_
      refine lv_dup2_11 hx hb dX7_passes_77 rfl rfl ?_
      refine n_iald (f := (upd M (b + 12) ((M (b + 12)) + (nI 1)))) (j := b + 10) hx hb hK hP 1 rfl (by omega) (by decide) dX7_passes_78 ?_
      refine lv_iload_n hx hb dX7_passes_79 rfl (lv_at hl 0 rfl) ?_
      refine lv_iadd hx hb dX7_passes_80 ?_
      refine n_iast (f := (upd M (b + 12) ((M (b + 12)) + (nI 1)))) (j := b + 10) (x := (((upd M (b + 12) ((M (b + 12)) + (nI 1))) (b + 10)) + ((nI 999) - ((upd M (b + 12) ((M (b + 12)) + (nI 1))) (b + 10))))) hx hb hK hP hD hS 1 rfl (by omega) (by decide) dX7_passes_81 (fun H locs hP hD hS => ?_)
      have hP : va_P G.1 vwCl (MC G a g (upd (upd M (b + 12) ((M (b + 12)) + (nI 1))) (b + 10) (((upd M (b + 12) ((M (b + 12)) + (nI 1))) (b + 10)) + ((nI 999) - ((upd M (b + 12) ((M (b + 12)) + (nI 1))) (b + 10))))) T Y) H := hP
      have hD : va_D A (MC G a g (upd (upd M (b + 12) ((M (b + 12)) + (nI 1))) (b + 10) (((upd M (b + 12) ((M (b + 12)) + (nI 1))) (b + 10)) + ((nI 999) - ((upd M (b + 12) ((M (b + 12)) + (nI 1))) (b + 10))))) T Y) := hD
      refine lv_aload_n hx hb dX7_passes_82 rfl (lv_at hl 2 rfl) ?_
      refine va_get (D := G.1) (ci := 7) (v := .ref (a 1)) (C := RX7) (T := TX7) (N := 11) hx hb hts in_X7_passes_RX7 hown hK.1 hP 0 rfl rfl 0 (by decide) (hts _ k_X7_passes_f7) (fun _ h9 => h9) rfl dX7_passes_83 ?_
      refine lv_iload_n hx hb dX7_passes_86 rfl (lv_at hl 3 rfl) ?_
      refine lv_bipush (v := (nI 39)) hx hb dX7_passes_87 (by decide) ?_
      refine n_iadd (i := b) (j := 39) hx hb dX7_passes_89 ?_
      refine lv_dup2_11 hx hb dX7_passes_90 rfl rfl ?_
      refine n_iald (f := (upd (upd M (b + 12) ((M (b + 12)) + (nI 1))) (b + 10) (((upd M (b + 12) ((M (b + 12)) + (nI 1))) (b + 10)) + ((nI 999) - ((upd M (b + 12) ((M (b + 12)) + (nI 1))) (b + 10)))))) (j := b + 39) hx hb hK hP 1 rfl (by omega) (by decide) dX7_passes_91 ?_
      refine lv_iload_n hx hb dX7_passes_92 rfl (lv_at hl 0 rfl) ?_
      refine lv_iadd hx hb dX7_passes_93 ?_
      refine n_iast (f := (upd (upd M (b + 12) ((M (b + 12)) + (nI 1))) (b + 10) (((upd M (b + 12) ((M (b + 12)) + (nI 1))) (b + 10)) + ((nI 999) - ((upd M (b + 12) ((M (b + 12)) + (nI 1))) (b + 10)))))) (j := b + 39) (x := (((upd (upd M (b + 12) ((M (b + 12)) + (nI 1))) (b + 10) (((upd M (b + 12) ((M (b + 12)) + (nI 1))) (b + 10)) + ((nI 999) - ((upd M (b + 12) ((M (b + 12)) + (nI 1))) (b + 10))))) (b + 39)) + ((nI 999) - ((upd M (b + 12) ((M (b + 12)) + (nI 1))) (b + 10))))) hx hb hK hP hD hS 1 rfl (by omega) (by decide) dX7_passes_94 (fun H locs hP hD hS => ?_)
      have hP : va_P G.1 vwCl (MC G a g (upd (upd (upd M (b + 12) ((M (b + 12)) + (nI 1))) (b + 10) (((upd M (b + 12) ((M (b + 12)) + (nI 1))) (b + 10)) + ((nI 999) - ((upd M (b + 12) ((M (b + 12)) + (nI 1))) (b + 10))))) (b + 39) (((upd (upd M (b + 12) ((M (b + 12)) + (nI 1))) (b + 10) (((upd M (b + 12) ((M (b + 12)) + (nI 1))) (b + 10)) + ((nI 999) - ((upd M (b + 12) ((M (b + 12)) + (nI 1))) (b + 10))))) (b + 39)) + ((nI 999) - ((upd M (b + 12) ((M (b + 12)) + (nI 1))) (b + 10))))) T Y) H := hP
      have hD : va_D A (MC G a g (upd (upd (upd M (b + 12) ((M (b + 12)) + (nI 1))) (b + 10) (((upd M (b + 12) ((M (b + 12)) + (nI 1))) (b + 10)) + ((nI 999) - ((upd M (b + 12) ((M (b + 12)) + (nI 1))) (b + 10))))) (b + 39) (((upd (upd M (b + 12) ((M (b + 12)) + (nI 1))) (b + 10) (((upd M (b + 12) ((M (b + 12)) + (nI 1))) (b + 10)) + ((nI 999) - ((upd M (b + 12) ((M (b + 12)) + (nI 1))) (b + 10))))) (b + 39)) + ((nI 999) - ((upd M (b + 12) ((M (b + 12)) + (nI 1))) (b + 10))))) T Y) := hD
      exact h_X7_passes_95 (upd (upd (upd M (b + 12) ((M (b + 12)) + (nI 1))) (b + 10) (((upd M (b + 12) ((M (b + 12)) + (nI 1))) (b + 10)) + ((nI 999) - ((upd M (b + 12) ((M (b + 12)) + (nI 1))) (b + 10))))) (b + 39) (((upd (upd M (b + 12) ((M (b + 12)) + (nI 1))) (b + 10) (((upd M (b + 12) ((M (b + 12)) + (nI 1))) (b + 10)) + ((nI 999) - ((upd M (b + 12) ((M (b + 12)) + (nI 1))) (b + 10))))) (b + 39)) + ((nI 999) - ((upd M (b + 12) ((M (b + 12)) + (nI 1))) (b + 10)))))  (by simp only [f_X7_passes, if_pos c_1, if_pos c_14]) _ _ _ hP hD hS (lv_sub hl [2, 3] rfl)
    · refine lv_aload_n hx hb dX7_passes_55 rfl (lv_at hl 1 rfl) ?_
      refine va_get (D := G.1) (ci := 7) (v := .ref (a 1)) (C := RX7) (T := TX7) (N := 11) hx hb hts in_X7_passes_RX7 hown hK.1 hP 0 rfl rfl 0 (by decide) (hts _ k_X7_passes_f7) (fun _ h9 => h9) rfl dX7_passes_56 ?_
      refine lv_iload_n hx hb dX7_passes_59 rfl (lv_at hl 2 rfl) ?_
      refine lv_bipush (v := (nI 11)) hx hb dX7_passes_60 (by decide) ?_
      refine n_iadd (i := b) (j := 11) hx hb dX7_passes_62 ?_
      refine n_iald (f := (upd M (b + 12) ((M (b + 12)) + (nI 1)))) (j := b + 11) hx hb hK hP 1 rfl (by omega) (by decide) dX7_passes_63 ?_
      refine lv_goto (tgt := 68) hx hb dX7_passes_64 (by decide) ?_
      refine lv_istore_n (lv' := [(3, .int ((upd M (b + 12) ((M (b + 12)) + (nI 1))) (b + 11))), (2, .int ((nI 999) - ((upd M (b + 12) ((M (b + 12)) + (nI 1))) (b + 10)))), (0, .ref (a 0)), (1, .int (nI b))]) hx hb dX7_passes_68 rfl hl (by decide) rfl (fun ls hl => ?_)
      refine lv_aload_n hx hb dX7_passes_69 rfl (lv_at hl 2 rfl) ?_
      refine va_get (D := G.1) (ci := 7) (v := .ref (a 1)) (C := RX7) (T := TX7) (N := 11) hx hb hts in_X7_passes_RX7 hown hK.1 hP 0 rfl rfl 0 (by decide) (hts _ k_X7_passes_f7) (fun _ h9 => h9) rfl dX7_passes_70 ?_
      refine lv_iload_n hx hb dX7_passes_73 rfl (lv_at hl 3 rfl) ?_
      refine lv_bipush (v := (nI 10)) hx hb dX7_passes_74 (by decide) ?_
      refine n_iadd (i := b) (j := 10) hx hb dX7_passes_76 ?_
      refine lv_dup2_11 hx hb dX7_passes_77 rfl rfl ?_
      refine n_iald (f := (upd M (b + 12) ((M (b + 12)) + (nI 1)))) (j := b + 10) hx hb hK hP 1 rfl (by omega) (by decide) dX7_passes_78 ?_
      refine lv_iload_n hx hb dX7_passes_79 rfl (lv_at hl 0 rfl) ?_
      refine lv_iadd hx hb dX7_passes_80 ?_
      refine n_iast (f := (upd M (b + 12) ((M (b + 12)) + (nI 1)))) (j := b + 10) (x := (((upd M (b + 12) ((M (b + 12)) + (nI 1))) (b + 10)) + ((upd M (b + 12) ((M (b + 12)) + (nI 1))) (b + 11)))) hx hb hK hP hD hS 1 rfl (by omega) (by decide) dX7_passes_81 (fun H locs hP hD hS => ?_)
      have hP : va_P G.1 vwCl (MC G a g (upd (upd M (b + 12) ((M (b + 12)) + (nI 1))) (b + 10) (((upd M (b + 12) ((M (b + 12)) + (nI 1))) (b + 10)) + ((upd M (b + 12) ((M (b + 12)) + (nI 1))) (b + 11)))) T Y) H := hP
      have hD : va_D A (MC G a g (upd (upd M (b + 12) ((M (b + 12)) + (nI 1))) (b + 10) (((upd M (b + 12) ((M (b + 12)) + (nI 1))) (b + 10)) + ((upd M (b + 12) ((M (b + 12)) + (nI 1))) (b + 11)))) T Y) := hD
      refine lv_aload_n hx hb dX7_passes_82 rfl (lv_at hl 2 rfl) ?_
      refine va_get (D := G.1) (ci := 7) (v := .ref (a 1)) (C := RX7) (T := TX7) (N := 11) hx hb hts in_X7_passes_RX7 hown hK.1 hP 0 rfl rfl 0 (by decide) (hts _ k_X7_passes_f7) (fun _ h9 => h9) rfl dX7_passes_83 ?_
      refine lv_iload_n hx hb dX7_passes_86 rfl (lv_at hl 3 rfl) ?_
      refine lv_bipush (v := (nI 39)) hx hb dX7_passes_87 (by decide) ?_
      refine n_iadd (i := b) (j := 39) hx hb dX7_passes_89 ?_
      refine lv_dup2_11 hx hb dX7_passes_90 rfl rfl ?_
      refine n_iald (f := (upd (upd M (b + 12) ((M (b + 12)) + (nI 1))) (b + 10) (((upd M (b + 12) ((M (b + 12)) + (nI 1))) (b + 10)) + ((upd M (b + 12) ((M (b + 12)) + (nI 1))) (b + 11))))) (j := b + 39) hx hb hK hP 1 rfl (by omega) (by decide) dX7_passes_91 ?_
      refine lv_iload_n hx hb dX7_passes_92 rfl (lv_at hl 0 rfl) ?_
      refine lv_iadd hx hb dX7_passes_93 ?_
      refine n_iast (f := (upd (upd M (b + 12) ((M (b + 12)) + (nI 1))) (b + 10) (((upd M (b + 12) ((M (b + 12)) + (nI 1))) (b + 10)) + ((upd M (b + 12) ((M (b + 12)) + (nI 1))) (b + 11))))) (j := b + 39) (x := (((upd (upd M (b + 12) ((M (b + 12)) + (nI 1))) (b + 10) (((upd M (b + 12) ((M (b + 12)) + (nI 1))) (b + 10)) + ((upd M (b + 12) ((M (b + 12)) + (nI 1))) (b + 11)))) (b + 39)) + ((upd M (b + 12) ((M (b + 12)) + (nI 1))) (b + 11)))) hx hb hK hP hD hS 1 rfl (by omega) (by decide) dX7_passes_94 (fun H locs hP hD hS => ?_)
      have hP : va_P G.1 vwCl (MC G a g (upd (upd (upd M (b + 12) ((M (b + 12)) + (nI 1))) (b + 10) (((upd M (b + 12) ((M (b + 12)) + (nI 1))) (b + 10)) + ((upd M (b + 12) ((M (b + 12)) + (nI 1))) (b + 11)))) (b + 39) (((upd (upd M (b + 12) ((M (b + 12)) + (nI 1))) (b + 10) (((upd M (b + 12) ((M (b + 12)) + (nI 1))) (b + 10)) + ((upd M (b + 12) ((M (b + 12)) + (nI 1))) (b + 11)))) (b + 39)) + ((upd M (b + 12) ((M (b + 12)) + (nI 1))) (b + 11)))) T Y) H := hP
      have hD : va_D A (MC G a g (upd (upd (upd M (b + 12) ((M (b + 12)) + (nI 1))) (b + 10) (((upd M (b + 12) ((M (b + 12)) + (nI 1))) (b + 10)) + ((upd M (b + 12) ((M (b + 12)) + (nI 1))) (b + 11)))) (b + 39) (((upd (upd M (b + 12) ((M (b + 12)) + (nI 1))) (b + 10) (((upd M (b + 12) ((M (b + 12)) + (nI 1))) (b + 10)) + ((upd M (b + 12) ((M (b + 12)) + (nI 1))) (b + 11)))) (b + 39)) + ((upd M (b + 12) ((M (b + 12)) + (nI 1))) (b + 11)))) T Y) := hD
      exact h_X7_passes_95 (upd (upd (upd M (b + 12) ((M (b + 12)) + (nI 1))) (b + 10) (((upd M (b + 12) ((M (b + 12)) + (nI 1))) (b + 10)) + ((upd M (b + 12) ((M (b + 12)) + (nI 1))) (b + 11)))) (b + 39) (((upd (upd M (b + 12) ((M (b + 12)) + (nI 1))) (b + 10) (((upd M (b + 12) ((M (b + 12)) + (nI 1))) (b + 10)) + ((upd M (b + 12) ((M (b + 12)) + (nI 1))) (b + 11)))) (b + 39)) + ((upd M (b + 12) ((M (b + 12)) + (nI 1))) (b + 11))))  (by simp only [f_X7_passes, if_pos c_1, if_neg c_14]) _ _ _ hP hD hS (lv_sub hl [2, 3] rfl)
