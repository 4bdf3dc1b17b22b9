def f_X7_pressure (M : (Nat → Int32)) (b : Nat) : Int32 :=
  ((M (b + 4)) + (M (b + 4 + 1)))
set_option maxRecDepth 20000 in
theorem k_X7_pressure_f7 : Cond.fieldLink RX7 7 "SteamRationsModel" "s" "[I" ∈ wsX7_pressure := by decide +kernel
set_option maxRecDepth 20000 in
theorem in_X7_pressure_RX7 : ∀ w ∈ u_ws RX7 TX7 11, w ∈ wsX7_pressure := by decide +kernel
theorem cd_X7_pressure : yX7_pressure.cls = RX7 ∧ yX7_pressure.cls ≠ "java/lang/invoke/MethodHandle" ∧ yX7_pressure.cls ≠ "java/lang/invoke/VarHandle" ∧ (parseMethodDescriptor yX7_pressure.desc).map (fun d => d.parameters.length) = some 1 := by decide +kernel
set_option maxHeartbeats 4000000 in
set_option maxRecDepth 100000 in
theorem c_X7_pressure (l : Launch) (G : GG) (a : Nat → Nat) (g : (Nat → Int32)) (M : (Nat → Int32)) (T : (Nat → Int32)) (Y : (Nat → Int32)) (sz : Nat) (b : Nat) (hb : b ≤ 322) : Met l yX7_pressure wsX7_pressure ({ frames := 0, cells := 0, slots := 0, locals := 0 }) (Pre G [.ref (a 0), .int (nI b)] (MC G a g M T Y) sz) (PI G (va_A (MC G a g M T Y) sz) (fun r (_ : Unit) => f_X7_pressure M b = r) (fun _ : Unit => MC G a g M T Y)) 0 0 (va_A (MC G a g M T Y) sz) := by
  refine Met.walk (cc := cX7_pressure) (maxL := 2) (ret := (some .int)) (Qc := fun A => PI G A (fun r (_ : Unit) => f_X7_pressure M b = r) (fun _ : Unit => MC G a g M T Y)) (by decide) rfl (Nat.le_of_ble_eq_true rfl) ?_
  intro p e s m below meth c A H C0 _ hK hsz hP hD hA hS ls hl
  have hx := C0.1
  have hb := C0.2.1
  have hown : s.vm.findClass RX7 = some m.cls := C0.2.2.2.2.1
  have hml := C0.2.2.2.1
  have hts : ∀ w ∈ wsX7_pressure, w.before [.ref (a 0), .int (nI b)].toArray s = true := C0.2.2.2.2.2.1
  have hl : lv_has ls 2 [(0, .ref (a 0)), (1, .int (nI b))] := hl
  refine lv_aload_n hx hb dX7_pressure_0 rfl (lv_at hl 0 rfl) ?_
  refine va_get (D := G.1) (ci := 7) (v := .ref (a 1)) (C := RX7) (T := TX7) (N := 11) hx hb hts in_X7_pressure_RX7 hown hK.1 hP 0 rfl rfl 0 (by decide) (hts _ k_X7_pressure_f7) (fun _ h9 => h9) rfl dX7_pressure_1 ?_
  refine lv_iload_n hx hb dX7_pressure_4 rfl (lv_at hl 1 rfl) ?_
  refine lv_iconst (v := (nI 4)) hx hb dX7_pressure_5 (by decide) ?_
  refine n_iadd (i := b) (j := 4) hx hb dX7_pressure_6 ?_
  refine n_iald (f := M) (j := b + 4) hx hb hK hP 1 rfl (by omega) (by decide) dX7_pressure_7 ?_
  refine lv_aload_n hx hb dX7_pressure_8 rfl (lv_at hl 0 rfl) ?_
  refine va_get (D := G.1) (ci := 7) (v := .ref (a 1)) (C := RX7) (T := TX7) (N := 11) hx hb hts in_X7_pressure_RX7 hown hK.1 hP 0 rfl rfl 0 (by decide) (hts _ k_X7_pressure_f7) (fun _ h9 => h9) rfl dX7_pressure_9 ?_
  refine lv_iload_n hx hb dX7_pressure_12 rfl (lv_at hl 1 rfl) ?_
  refine lv_iconst (v := (nI 4)) hx hb dX7_pressure_13 (by decide) ?_
  refine n_iadd (i := b) (j := 4) hx hb dX7_pressure_14 ?_
  refine lv_iconst (v := (nI 1)) hx hb dX7_pressure_15 (by decide) ?_
  refine n_iadd (i := b + 4) (j := 1) hx hb dX7_pressure_16 ?_
  refine n_iald (f := M) (j := b + 4 + 1) hx hb hK hP 1 rfl (by omega) (by decide) dX7_pressure_17 ?_
  refine lv_iadd hx hb dX7_pressure_18 ?_
  exact end_I C0 hP hD hS () (by simp only [f_X7_pressure]) rfl dX7_pressure_19

def s_X7_need_4_4  (x : Int32) : Int32 :=
  x
def s_X7_need_4_3 (M : (Nat → Int32)) (b : Nat) (x : Int32) : Int32 :=
  if 0 ≤ (M (b + 13 + 3)) then
    s_X7_need_4_4 (x + (((nI 2) * (M (b + 13 + 3))) + (nI 2)))
  else
    s_X7_need_4_4 (x + (nI 0))
def s_X7_need_4_2 (M : (Nat → Int32)) (b : Nat) (x : Int32) : Int32 :=
  if 0 ≤ (M (b + 13 + 2)) then
    s_X7_need_4_3 M b (x + (((nI 2) * (M (b + 13 + 2))) + (nI 2)))
  else
    s_X7_need_4_3 M b (x + (nI 0))
def s_X7_need_4_1 (M : (Nat → Int32)) (b : Nat) (x : Int32) : Int32 :=
  if 0 ≤ (M (b + 13 + 1)) then
    s_X7_need_4_2 M b (x + (((nI 2) * (M (b + 13 + 1))) + (nI 2)))
  else
    s_X7_need_4_2 M b (x + (nI 0))
def s_X7_need_4_0 (M : (Nat → Int32)) (b : Nat) (x : Int32) : Int32 :=
  if 0 ≤ (M (b + 13 + 0)) then
    s_X7_need_4_1 M b (x + (((nI 2) * (M (b + 13 + 0))) + (nI 2)))
  else
    s_X7_need_4_1 M b (x + (nI 0))
def f_X7_need (M : (Nat → Int32)) (b : Nat) : Int32 :=
  s_X7_need_4_0 M b (nI 0)
set_option maxRecDepth 20000 in
theorem k_X7_need_f7 : Cond.fieldLink RX7 7 "SteamRationsModel" "s" "[I" ∈ wsX7_need := by decide +kernel
set_option maxRecDepth 20000 in
theorem in_X7_need_RX7 : ∀ w ∈ u_ws RX7 TX7 11, w ∈ wsX7_need := by decide +kernel
theorem cd_X7_need : yX7_need.cls = RX7 ∧ yX7_need.cls ≠ "java/lang/invoke/MethodHandle" ∧ yX7_need.cls ≠ "java/lang/invoke/VarHandle" ∧ (parseMethodDescriptor yX7_need.desc).map (fun d => d.parameters.length) = some 1 := by decide +kernel
set_option maxHeartbeats 4000000 in
set_option maxRecDepth 100000 in
theorem c_X7_need (l : Launch) (G : GG) (a : Nat → Nat) (g : (Nat → Int32)) (M : (Nat → Int32)) (T : (Nat → Int32)) (Y : (Nat → Int32)) (sz : Nat) (b : Nat) (hb : b ≤ 322) : Met l yX7_need wsX7_need ({ frames := 0, cells := 0, slots := 0, locals := 0 }) (Pre G [.ref (a 0), .int (nI b)] (MC G a g M T Y) sz) (PI G (va_A (MC G a g M T Y) sz) (fun r (_ : Unit) => f_X7_need M b = r) (fun _ : Unit => MC G a g M T Y)) 0 0 (va_A (MC G a g M T Y) sz) := by
  refine Met.walk (cc := cX7_need) (maxL := 4) (ret := (some .int)) (Qc := fun A => PI G A (fun r (_ : Unit) => f_X7_need M b = r) (fun _ : Unit => MC G a g M T Y)) (by decide) rfl (Nat.le_of_ble_eq_true rfl) ?_
  intro p e s m below meth c A H C0 _ hK hsz hP hD hA hS ls hl
  have hx := C0.1
  have hb := C0.2.1
  have hown : s.vm.findClass RX7 = some m.cls := C0.2.2.2.2.1
  have hml := C0.2.2.2.1
  have hts : ∀ w ∈ wsX7_need, w.before [.ref (a 0), .int (nI b)].toArray s = true := C0.2.2.2.2.2.1
  have hl : lv_has ls 4 [(0, .ref (a 0)), (1, .int (nI b))] := hl
  have h_X7_need_4_4 : ∀ (x : Int32), f_X7_need M b = s_X7_need_4_4 x → ∀ (H : Heap) (locs : List Loc) (ls : Array Slot), va_P G.1 vwCl (MC G a g M T Y) H → va_D A (MC G a g M T Y) → va_S A s.heap H locs → lv_has ls 4 [(3, .int (nI 4)), (2, .int x), (0, .ref (a 0)), (1, .int (nI b))] → W p l e ({ frames := 0, cells := 0, slots := 0, locals := 0 }) s m ([.ref (a 0), .int (nI b)] : List Value).toArray below meth c H locs 0 0 (MQ below (PI G A (fun r (_ : Unit) => f_X7_need M b = r) (fun _ : Unit => MC G a g M T Y)) ([.ref (a 0), .int (nI b)] : List Value).toArray s 0 0 A) (F0 m 4 ls []) := by
    intro x  hE H locs ls hP hD hS hl
    refine lv_iload_n hx hb dX7_need_4 rfl (lv_at hl 0 rfl) ?_
    refine lv_iconst (v := (nI 4)) hx hb dX7_need_5 (by decide) ?_
    refine lv_icmp_ge (tgt := 51) hx hb dX7_need_6 (by decide) (fun c_9 => ?_) (fun c_9 => absurd (by decide +kernel) c_9)
    refine lv_iload_n hx hb dX7_need_51 rfl (lv_at hl 1 rfl) ?_
    exact end_I C0 hP hD hS () (hE.trans (by simp only [s_X7_need_4_4])) rfl dX7_need_52
  have h_X7_need_4_3 : ∀ (x : Int32), f_X7_need M b = s_X7_need_4_3 M b x → ∀ (H : Heap) (locs : List Loc) (ls : Array Slot), va_P G.1 vwCl (MC G a g M T Y) H → va_D A (MC G a g M T Y) → va_S A s.heap H locs → lv_has ls 4 [(3, .int (nI 3)), (2, .int x), (0, .ref (a 0)), (1, .int (nI b))] → W p l e ({ frames := 0, cells := 0, slots := 0, locals := 0 }) s m ([.ref (a 0), .int (nI b)] : List Value).toArray below meth c H locs 0 0 (MQ below (PI G A (fun r (_ : Unit) => f_X7_need M b = r) (fun _ : Unit => MC G a g M T Y)) ([.ref (a 0), .int (nI b)] : List Value).toArray s 0 0 A) (F0 m 4 ls []) := by
    intro x  hE H locs ls hP hD hS hl
    refine lv_iload_n hx hb dX7_need_4 rfl (lv_at hl 0 rfl) ?_
    refine lv_iconst (v := (nI 4)) hx hb dX7_need_5 (by decide) ?_
    refine lv_icmp_ge (tgt := 51) hx hb dX7_need_6 (by decide) (fun c_7 => absurd c_7 (by decide +kernel)) (fun c_7 => ?_)
    refine lv_iload_n hx hb dX7_need_9 rfl (lv_at hl 1 rfl) ?_
    refine lv_aload_n hx hb dX7_need_10 rfl (lv_at hl 2 rfl) ?_
    refine va_get (D := G.1) (ci := 7) (v := .ref (a 1)) (C := RX7) (T := TX7) (N := 11) hx hb hts in_X7_need_RX7 hown hK.1 hP 0 rfl rfl 0 (by decide) (hts _ k_X7_need_f7) (fun _ h9 => h9) rfl dX7_need_11 ?_
    refine lv_iload_n hx hb dX7_need_14 rfl (lv_at hl 3 rfl) ?_
    refine lv_bipush (v := (nI 13)) hx hb dX7_need_15 (by decide) ?_
    refine n_iadd (i := b) (j := 13) hx hb dX7_need_17 ?_
    refine lv_iload_n hx hb dX7_need_18 rfl (lv_at hl 0 rfl) ?_
    refine n_iadd (i := b + 13) (j := 3) hx hb dX7_need_19 ?_
    refine n_iald (f := M) (j := b + 13 + 3) hx hb hK hP 1 rfl (by omega) (by decide) dX7_need_20 ?_
    refine lv_if_ge (tgt := 28) hx hb dX7_need_21 (by decide) (fun c_8 => ?_) (fun c_8 => ?_)
    · refine lv_iconst (v := (nI 2)) hx hb dX7_need_28 (by decide) ?_
      refine lv_aload_n hx hb dX7_need_29 rfl (lv_at hl 2 rfl) ?_
      refine va_get (D := G.1) (ci := 7) (v := .ref (a 1)) (C := RX7) (T := TX7) (N := 11) hx hb hts in_X7_need_RX7 hown hK.1 hP 0 rfl rfl 0 (by decide) (hts _ k_X7_need_f7) (fun _ h9 => h9) rfl dX7_need_30 ?_
      refine lv_iload_n hx hb dX7_need_33 rfl (lv_at hl 3 rfl) ?_
      refine lv_bipush (v := (nI 13)) hx hb dX7_need_34 (by decide) ?_
      refine n_iadd (i := b) (j := 13) hx hb dX7_need_36 ?_
      refine lv_iload_n hx hb dX7_need_37 rfl (lv_at hl 0 rfl) ?_
      refine n_iadd (i := b + 13) (j := 3) hx hb dX7_need_38 ?_
      refine n_iald (f := M) (j := b + 13 + 3) hx hb hK hP 1 rfl (by omega) (by decide) dX7_need_39 ?_
      refine lv_imul hx hb dX7_need_40 ?_
      refine lv_iconst (v := (nI 2)) hx hb dX7_need_41 (by decide) ?_
      refine lv_iadd hx hb dX7_need_42 ?_
      refine lv_iadd hx hb dX7_need_43 ?_
      refine lv_istore_n (lv' := [(2, .int (x + (((nI 2) * (M (b + 13 + 3))) + (nI 2)))), (3, .int (nI 3)), (0, .ref (a 0)), (1, .int (nI b))]) hx hb dX7_need_44 rfl hl (by decide) rfl (fun ls hl => ?_)
      refine lv_iinc (v := (nI 4)) (lv' := [(3, .int (nI 4)), (2, .int (x + (((nI 2) * (M (b + 13 + 3))) + (nI 2)))), (0, .ref (a 0)), (1, .int (nI b))]) hx hb dX7_need_45 hl (k := 1) rfl (inc1 3) (by decide) rfl (fun ls hl => ?_)
      refine lv_goto (tgt := 4) hx hb dX7_need_48 (by decide) ?_
      exact h_X7_need_4_4 (x + (((nI 2) * (M (b + 13 + 3))) + (nI 2)))  (hE.trans (by simp only [s_X7_need_4_3, if_pos c_8])) _ _ _ hP hD hS (lv_sub hl [0, 1, 2, 3] rfl)
    · refine lv_iconst (v := (nI 0)) hx hb dX7_need_24 (by decide) ?_
      refine lv_goto (tgt := 43) hx hb dX7_need_25 (by decide) ?_
      refine lv_iadd hx hb dX7_need_43 ?_
      refine lv_istore_n (lv' := [(2, .int (x + (nI 0))), (3, .int (nI 3)), (0, .ref (a 0)), (1, .int (nI b))]) hx hb dX7_need_44 rfl hl (by decide) rfl (fun ls hl => ?_)
      refine lv_iinc (v := (nI 4)) (lv' := [(3, .int (nI 4)), (2, .int (x + (nI 0))), (0, .ref (a 0)), (1, .int (nI b))]) hx hb dX7_need_45 hl (k := 1) rfl (inc1 3) (by decide) rfl (fun ls hl => ?_)
      refine lv_goto (tgt := 4) hx hb dX7_need_48 (by decide) ?_
      exact h_X7_need_4_4 (x + (nI 0))  (hE.trans (by simp only [s_X7_need_4_3, if_neg c_8])) _ _ _ hP hD hS (lv_sub hl [0, 1, 2, 3] rfl)
  have h_X7_need_4_2 : ∀ (x : Int32), f_X7_need M b = s_X7_need_4_2 M b x → ∀ (H : Heap) (locs : List Loc) (ls : Array Slot), va_P G.1 vwCl (MC G a g M T Y) H → va_D A (MC G a g M T Y) → va_S A s.heap H locs → lv_has ls 4 [(3, .int (nI 2)), (2, .int x), (0, .ref (a 0)), (1, .int (nI b))] → W p l e ({ frames := 0, cells := 0, slots := 0, locals := 0 }) s m ([.ref (a 0), .int (nI b)] : List Value).toArray below meth c H locs 0 0 (MQ below (PI G A (fun r (_ : Unit) => f_X7_need M b = r) (fun _ : Unit => MC G a g M T Y)) ([.ref (a 0), .int (nI b)] : List Value).toArray s 0 0 A) (F0 m 4 ls []) := by
    intro x  hE H locs ls hP hD hS hl
    refine lv_iload_n hx hb dX7_need_4 rfl (lv_at hl 0 rfl) ?_
    refine lv_iconst (v := (nI 4)) hx hb dX7_need_5 (by decide) ?_
    refine lv_icmp_ge (tgt := 51) hx hb dX7_need_6 (by decide) (fun c_5 => absurd c_5 (by decide +kernel)) (fun c_5 => ?_)
    refine lv_iload_n hx hb dX7_need_9 rfl (lv_at hl 1 rfl) ?_
    refine lv_aload_n hx hb dX7_need_10 rfl (lv_at hl 2 rfl) ?_
    refine va_get (D := G.1) (ci := 7) (v := .ref (a 1)) (C := RX7) (T := TX7) (N := 11) hx hb hts in_X7_need_RX7 hown hK.1 hP 0 rfl rfl 0 (by decide) (hts _ k_X7_need_f7) (fun _ h9 => h9) rfl dX7_need_11 ?_
    refine lv_iload_n hx hb dX7_need_14 rfl (lv_at hl 3 rfl) ?_
    refine lv_bipush (v := (nI 13)) hx hb dX7_need_15 (by decide) ?_
    refine n_iadd (i := b) (j := 13) hx hb dX7_need_17 ?_
    refine lv_iload_n hx hb dX7_need_18 rfl (lv_at hl 0 rfl) ?_
    refine n_iadd (i := b + 13) (j := 2) hx hb dX7_need_19 ?_
    refine n_iald (f := M) (j := b + 13 + 2) hx hb hK hP 1 rfl (by omega) (by decide) dX7_need_20 ?_
    refine lv_if_ge (tgt := 28) hx hb dX7_need_21 (by decide) (fun c_6 => ?_) (fun c_6 => ?_)
    · refine lv_iconst (v := (nI 2)) hx hb dX7_need_28 (by decide) ?_
      refine lv_aload_n hx hb dX7_need_29 rfl (lv_at hl 2 rfl) ?_
      refine va_get (D := G.1) (ci := 7) (v := .ref (a 1)) (C := RX7) (T := TX7) (N := 11) hx hb hts in_X7_need_RX7 hown hK.1 hP 0 rfl rfl 0 (by decide) (hts _ k_X7_need_f7) (fun _ h9 => h9) rfl dX7_need_30 ?_
      refine lv_iload_n hx hb dX7_need_33 rfl (lv_at hl 3 rfl) ?_
      refine lv_bipush (v := (nI 13)) hx hb dX7_need_34 (by decide) ?_
      refine n_iadd (i := b) (j := 13) hx hb dX7_need_36 ?_
      refine lv_iload_n hx hb dX7_need_37 rfl (lv_at hl 0 rfl) ?_
      refine n_iadd (i := b + 13) (j := 2) hx hb dX7_need_38 ?_
      refine n_iald (f := M) (j := b + 13 + 2) hx hb hK hP 1 rfl (by omega) (by decide) dX7_need_39 ?_
      refine lv_imul hx hb dX7_need_40 ?_
      refine lv_iconst (v := (nI 2)) hx hb dX7_need_41 (by decide) ?_
      refine lv_iadd hx hb dX7_need_42 ?_
      refine lv_iadd hx hb dX7_need_43 ?_
      refine lv_istore_n (lv' := [(2, .int (x + (((nI 2) * (M (b + 13 + 2))) + (nI 2)))), (3, .int (nI 2)), (0, .ref (a 0)), (1, .int (nI b))]) hx hb dX7_need_44 rfl hl (by decide) rfl (fun ls hl => ?_)
      refine lv_iinc (v := (nI 3)) (lv' := [(3, .int (nI 3)), (2, .int (x + (((nI 2) * (M (b + 13 + 2))) + (nI 2)))), (0, .ref (a 0)), (1, .int (nI b))]) hx hb dX7_need_45 hl (k := 1) rfl (inc1 2) (by decide) rfl (fun ls hl => ?_)
      refine lv_goto (tgt := 4) hx hb dX7_need_48 (by decide) ?_
      exact h_X7_need_4_3 (x + (((nI 2) * (M (b + 13 + 2))) + (nI 2)))  (hE.trans (by simp only [s_X7_need_4_2, if_pos c_6])) _ _ _ hP hD hS (lv_sub hl [0, 1, 2, 3] rfl)
    · refine lv_iconst (v := (nI 0)) hx hb dX7_need_24 (by decide) ?_
      refine lv_goto (tgt := 43) hx hb dX7_need_25 (by decide) ?_
      refine lv_iadd hx hb dX7_need_43 ?_
      refine lv_istore_n (lv' := [(2, .int (x + (nI 0))), (3, .int (nI 2)), (0, .ref (a 0)), (1, .int (nI b))]) hx hb dX7_need_44 rfl hl (by decide) rfl (fun ls hl => ?_)
      refine lv_iinc (v := (nI 3)) (lv' := [(3, .int (nI 3)), (2, .int (x + (nI 0))), (0, .ref (a 0)), (1, .int (nI b))]) hx hb dX7_need_45 hl (k := 1) rfl (inc1 2) (by decide) rfl (fun ls hl => ?_)
      refine lv_goto (tgt := 4) hx hb dX7_need_48 (by decide) ?_
      exact h_X7_need_4_3 (x + (nI 0))  (hE.trans (by simp only [s_X7_need_4_2, if_neg c_6])) _ _ _ hP hD hS (lv_sub hl [0, 1, 2, 3] rfl)
  have h_X7_need_4_1 : ∀ (x : Int32), f_X7_need M b = s_X7_need_4_1 M b x → ∀ (H : Heap) (locs : List Loc) (ls : Array Slot), va_P G.1 vwCl (MC G a g M T Y) H → va_D A (MC G a g M T Y) → va_S A s.heap H locs → lv_has ls 4 [(3, .int (nI 1)), (2, .int x), (0, .ref (a 0)), (1, .int (nI b))] → W p l e ({ frames := 0, cells := 0, slots := 0, locals := 0 }) s m ([.ref (a 0), .int (nI b)] : List Value).toArray below meth c H locs 0 0 (MQ below (PI G A (fun r (_ : Unit) => f_X7_need M b = r) (fun _ : Unit => MC G a g M T Y)) ([.ref (a 0), .int (nI b)] : List Value).toArray s 0 0 A) (F0 m 4 ls []) := by
    intro x  hE H locs ls hP hD hS hl
    refine lv_iload_n hx hb dX7_need_4 rfl (lv_at hl 0 rfl) ?_
    refine lv_iconst (v := (nI 4)) hx hb dX7_need_5 (by decide) ?_
    refine lv_icmp_ge (tgt := 51) hx hb dX7_need_6 (by decide) (fun c_3 => absurd c_3 (by decide +kernel)) (fun c_3 => ?_)
    refine lv_iload_n hx hb dX7_need_9 rfl (lv_at hl 1 rfl) ?_
    refine lv_aload_n hx hb dX7_need_10 rfl (lv_at hl 2 rfl) ?_
    refine va_get (D := G.1) (ci := 7) (v := .ref (a 1)) (C := RX7) (T := TX7) (N := 11) hx hb hts in_X7_need_RX7 hown hK.1 hP 0 rfl rfl 0 (by decide) (hts _ k_X7_need_f7) (fun _ h9 => h9) rfl dX7_need_11 ?_
    refine lv_iload_n hx hb dX7_need_14 rfl (lv_at hl 3 rfl) ?_
    refine lv_bipush (v := (nI 13)) hx hb dX7_need_15 (by decide) ?_
    refine n_iadd (i := b) (j := 13) hx hb dX7_need_17 ?_
    refine lv_iload_n hx hb dX7_need_18 rfl (lv_at hl 0 rfl) ?_
    refine n_iadd (i := b + 13) (j := 1) hx hb dX7_need_19 ?_
    refine n_iald (f := M) (j := b + 13 + 1) hx hb hK hP 1 rfl (by omega) (by decide) dX7_need_20 ?_
    refine lv_if_ge (tgt := 28) hx hb dX7_need_21 (by decide) (fun c_4 => ?_) (fun c_4 => ?_)
    · refine lv_iconst (v := (nI 2)) hx hb dX7_need_28 (by decide) ?_
      refine lv_aload_n hx hb dX7_need_29 rfl (lv_at hl 2 rfl) ?_
      refine va_get (D := G.1) (ci := 7) (v := .ref (a 1)) (C := RX7) (T := TX7) (N := 11) hx hb hts in_X7_need_RX7 hown hK.1 hP 0 rfl rfl 0 (by decide) (hts _ k_X7_need_f7) (fun _ h9 => h9) rfl dX7_need_30 ?_
      refine lv_iload_n hx hb dX7_need_33 rfl (lv_at hl 3 rfl) ?_
      refine lv_bipush (v := (nI 13)) hx hb dX7_need_34 (by decide) ?_
      refine n_iadd (i := b) (j := 13) hx hb dX7_need_36 ?_
      refine lv_iload_n hx hb dX7_need_37 rfl (lv_at hl 0 rfl) ?_
      refine n_iadd (i := b + 13) (j := 1) hx hb dX7_need_38 ?_
      refine n_iald (f := M) (j := b + 13 + 1) hx hb hK hP 1 rfl (by omega) (by decide) dX7_need_39 ?_
      refine lv_imul hx hb dX7_need_40 ?_
      refine lv_iconst (v := (nI 2)) hx hb dX7_need_41 (by decide) ?_
      refine lv_iadd hx hb dX7_need_42 ?_
      refine lv_iadd hx hb dX7_need_43 ?_
      refine lv_istore_n (lv' := [(2, .int (x + (((nI 2) * (M (b + 13 + 1))) + (nI 2)))), (3, .int (nI 1)), (0, .ref (a 0)), (1, .int (nI b))]) hx hb dX7_need_44 rfl hl (by decide) rfl (fun ls hl => ?_)
      refine lv_iinc (v := (nI 2)) (lv' := [(3, .int (nI 2)), (2, .int (x + (((nI 2) * (M (b + 13 + 1))) + (nI 2)))), (0, .ref (a 0)), (1, .int (nI b))]) hx hb dX7_need_45 hl (k := 1) rfl (inc1 1) (by decide) rfl (fun ls hl => ?_)
      refine lv_goto (tgt := 4) hx hb dX7_need_48 (by decide) ?_
      exact h_X7_need_4_2 (x + (((nI 2) * (M (b + 13 + 1))) + (nI 2)))  (hE.trans (by simp only [s_X7_need_4_1, if_pos c_4])) _ _ _ hP hD hS (lv_sub hl [0, 1, 2, 3] rfl)
    · refine lv_iconst (v := (nI 0)) hx hb dX7_need_24 (by decide) ?_
      refine lv_goto (tgt := 43) hx hb dX7_need_25 (by decide) ?_
      refine lv_iadd hx hb dX7_need_43 ?_
      refine lv_istore_n (lv' := [(2, .int (x + (nI 0))), (3, .int (nI 1)), (0, .ref (a 0)), (1, .int (nI b))]) hx hb dX7_need_44 rfl hl (by decide) rfl (fun ls hl => ?_)
      refine lv_iinc (v := (nI 2)) (lv' := [(3, .int (nI 2)), (2, .int (x + (nI 0))), (0, .ref (a 0)), (1, .int (nI b))]) hx hb dX7_need_45 hl (k := 1) rfl (inc1 1) (by decide) rfl (fun ls hl => ?_)
      refine lv_goto (tgt := 4) hx hb dX7_need_48 (by decide) ?_
      exact h_X7_need_4_2 (x + (nI 0))  (hE.trans (by simp only [s_X7_need_4_1, if_neg c_4])) _ _ _ hP hD hS (lv_sub hl [0, 1, 2, 3] rfl)
  have h_X7_need_4_0 : ∀ (x : Int32), f_X7_need M b = s_X7_need_4_0 M b x → ∀ (H : Heap) (locs : List Loc) (ls : Array Slot), va_P G.1 vwCl (MC G a g M T Y) H → va_D A (MC G a g M T Y) → va_S A s.heap H locs → lv_has ls 4 [(3, .int (nI 0)), (2, .int x), (0, .ref (a 0)), (1, .int (nI b))] → W p l e ({ frames := 0, cells := 0, slots := 0, locals := 0 }) s m ([.ref (a 0), .int (nI b)] : List Value).toArray below meth c H locs 0 0 (MQ below (PI G A (fun r (_ : Unit) => f_X7_need M b = r) (fun _ : Unit => MC G a g M T Y)) ([.ref (a 0), .int (nI b)] : List Value).toArray s 0 0 A) (F0 m 4 ls []) := by
    intro x  hE H locs ls hP hD hS hl
    refine lv_iload_n hx hb dX7_need_4 rfl (lv_at hl 0 rfl) ?_
    refine lv_iconst (v := (nI 4)) hx hb dX7_need_5 (by decide) ?_
    refine lv_icmp_ge (tgt := 51) hx hb dX7_need_6 (by decide) (fun c_1 => absurd c_1 (by decide +kernel)) (fun c_1 => ?_)
    refine lv_iload_n hx hb dX7_need_9 rfl (lv_at hl 1 rfl) ?_
    refine lv_aload_n hx hb dX7_need_10 rfl (lv_at hl 2 rfl) ?_
    refine va_get (D := G.1) (ci := 7) (v := .ref (a 1)) (C := RX7) (T := TX7) (N := 11) hx hb hts in_X7_need_RX7 hown hK.1 hP 0 rfl rfl 0 (by decide) (hts _ k_X7_need_f7) (fun _ h9 => h9) rfl dX7_need_11 ?_
    refine lv_iload_n hx hb dX7_need_14 rfl (lv_at hl 3 rfl) ?_
    refine lv_bipush (v := (nI 13)) hx hb dX7_need_15 (by decide) ?_
    refine n_iadd (i := b) (j := 13) hx hb dX7_need_17 ?_
    refine lv_iload_n hx hb dX7_need_18 rfl (lv_at hl 0 rfl) ?_
    refine n_iadd (i := b + 13) (j := 0) hx hb dX7_need_19 ?_
    refine n_iald (f := M) (j := b + 13 + 0) hx hb hK hP 1 rfl (by omega) (by decide) dX7_need_20 ?_
    refine lv_if_ge (tgt := 28) hx hb dX7_need_21 (by decide) (fun c_2 => ?_) (fun c_2 => ?_)
    · refine lv_iconst (v := (nI 2)) hx hb dX7_need_28 (by decide) ?_
      refine lv_aload_n hx hb dX7_need_29 rfl (lv_at hl 2 rfl) ?_
      refine va_get (D := G.1) (ci := 7) (v := .ref (a 1)) (C := RX7) (T := TX7) (N := 11) hx hb hts in_X7_need_RX7 hown hK.1 hP 0 rfl rfl 0 (by decide) (hts _ k_X7_need_f7) (fun _ h9 => h9) rfl dX7_need_30 ?_
      refine lv_iload_n hx hb dX7_need_33 rfl (lv_at hl 3 rfl) ?_
      refine lv_bipush (v := (nI 13)) hx hb dX7_need_34 (by decide) ?_
      refine n_iadd (i := b) (j := 13) hx hb dX7_need_36 ?_
      refine lv_iload_n hx hb dX7_need_37 rfl (lv_at hl 0 rfl) ?_
      refine n_iadd (i := b + 13) (j := 0) hx hb dX7_need_38 ?_
      refine n_iald (f := M) (j := b + 13 + 0) hx hb hK hP 1 rfl (by omega) (by decide) dX7_need_39 ?_
      refine lv_imul hx hb dX7_need_40 ?_
      refine lv_iconst (v := (nI 2)) hx hb dX7_need_41 (by decide) ?_
      refine lv_iadd hx hb dX7_need_42 ?_
      refine lv_iadd hx hb dX7_need_43 ?_
      refine lv_istore_n (lv' := [(2, .int (x + (((nI 2) * (M (b + 13 + 0))) + (nI 2)))), (3, .int (nI 0)), (0, .ref (a 0)), (1, .int (nI b))]) hx hb dX7_need_44 rfl hl (by decide) rfl (fun ls hl => ?_)
      refine lv_iinc (v := (nI 1)) (lv' := [(3, .int (nI 1)), (2, .int (x + (((nI 2) * (M (b + 13 + 0))) + (nI 2)))), (0, .ref (a 0)), (1, .int (nI b))]) hx hb dX7_need_45 hl (k := 1) rfl (inc1 0) (by decide) rfl (fun ls hl => ?_)
      refine lv_goto (tgt := 4) hx hb dX7_need_48 (by decide) ?_
      exact h_X7_need_4_1 (x + (((nI 2) * (M (b + 13 + 0))) + (nI 2)))  (hE.trans (by simp only [s_X7_need_4_0, if_pos c_2])) _ _ _ hP hD hS (lv_sub hl [0, 1, 2, 3] rfl)
    · refine lv_iconst (v := (nI 0)) hx hb dX7_need_24 (by decide) ?_
      refine lv_goto (tgt := 43) hx hb dX7_need_25 (by decide) ?_
      refine lv_iadd hx hb dX7_need_43 ?_
      refine lv_istore_n (lv' := [(2, .int (x + (nI 0))), (3, .int (nI 0)), (0, .ref (a 0)), (1, .int (nI b))]) hx hb dX7_need_44 rfl hl (by decide) rfl (fun ls hl => ?_)
      refine lv_iinc (v := (nI 1)) (lv' := [(3, .int (nI 1)), (2, .int (x + (nI 0))), (0, .ref (a 0)), (1, .int (nI b))]) hx hb dX7_need_45 hl (k := 1) rfl (inc1 0) (by decide) rfl (fun ls hl => ?_)
      refine lv_goto (tgt := 4) hx hb dX7_need_48 (by decide) ?_
      exact h_X7_need_4_1 (x + (nI 0))  (hE.trans (by simp only [s_X7_need_4_0, if_neg c_2])) _ _ _ hP hD hS (lv_sub hl [0, 1, 2, 3] rfl)
  refine lv_iconst (v := (nI 0)) hx hb dX7_need_0 (by decide) ?_
  refine lv_istore_n (lv' := [(2, .int (nI 0)), (0, .ref (a 0)), (1, .int (nI b))]) hx hb dX7_need_1 rfl hl (by decide) rfl (fun ls hl => ?_)
  refine lv_iconst (v := (nI 0)) hx hb dX7_need_2 (by decide) ?_
  refine lv_istore_n (lv' := [(3, .int (nI 0)), (2, .int (nI 0)), (0, .ref (a 0)), (1, .int (nI b))]) hx hb dX7_need_3 rfl hl (by decide) rfl (fun ls hl => ?_)
  exact h_X7_need_4_0 (nI 0)  (by simp only [f_X7_need]) _ _ _ hP hD hS (lv_sub hl [0, 1, 2, 3] rfl)

def f_X7_empties (M : (Nat → Int32)) (b : Nat) (i : Nat) : (Nat → Int32) :=
  (upd (upd (upd M (b + 13 + i) (-1)) (b + 17 + i) (nI 0)) (b + 21 + i) (nI 0))
set_option maxRecDepth 20000 in
theorem k_X7_empties_f7 : Cond.fieldLink RX7 7 "SteamRationsModel" "s" "[I" ∈ wsX7_empties := by decide +kernel
set_option maxRecDepth 20000 in
theorem in_X7_empties_RX7 : ∀ w ∈ u_ws RX7 TX7 11, w ∈ wsX7_empties := by decide +kernel
theorem cd_X7_empties : yX7_empties.cls = RX7 ∧ yX7_empties.cls ≠ "java/lang/invoke/MethodHandle" ∧ yX7_empties.cls ≠ "java/lang/invoke/VarHandle" ∧ (parseMethodDescriptor yX7_empties.desc).map (fun d => d.parameters.length) = some 2 := by decide +kernel
set_option maxHeartbeats 4000000 in
set_option maxRecDepth 100000 in
theorem c_X7_empties (l : Launch) (G : GG) (a : Nat → Nat) (g : (Nat → Int32)) (M : (Nat → Int32)) (T : (Nat → Int32)) (Y : (Nat → Int32)) (sz : Nat) (b : Nat) (i : Nat) (hb : b ≤ 322) (hi : i < 4) : Met l yX7_empties wsX7_empties ({ frames := 0, cells := 0, slots := 0, locals := 0 }) (Pre G [.ref (a 0), .int (nI b), .int (nI i)] (MC G a g M T Y) sz) (PV G (va_A (MC G a g M T Y) sz) (fun u : (Nat → Int32) => f_X7_empties M b i = u) (fun u : (Nat → Int32) => MC G a g u T Y)) 0 0 (va_A (MC G a g M T Y) sz) := by
  refine Met.walk (cc := cX7_empties) (maxL := 3) (ret := none) (Qc := fun A => PV G A (fun u : (Nat → Int32) => f_X7_empties M b i = u) (fun u : (Nat → Int32) => MC G a g u T Y)) (by decide) rfl (Nat.le_of_ble_eq_true rfl) ?_
  intro p e s m below meth c A H C0 _ hK hsz hP hD hA hS ls hl
  have hx := C0.1
  have hb := C0.2.1
  have hown : s.vm.findClass RX7 = some m.cls := C0.2.2.2.2.1
  have hml := C0.2.2.2.1
  have hts : ∀ w ∈ wsX7_empties, w.before [.ref (a 0), .int (nI b), .int (nI i)].toArray s = true := C0.2.2.2.2.2.1
  have hl : lv_has ls 3 [(0, .ref (a 0)), (1, .int (nI b)), (2, .int (nI i))] := hl
  refine lv_aload_n hx hb dX7_empties_0 rfl (lv_at hl 0 rfl) ?_
  refine va_get (D := G.1) (ci := 7) (v := .ref (a 1)) (C := RX7) (T := TX7) (N := 11) hx hb hts in_X7_empties_RX7 hown hK.1 hP 0 rfl rfl 0 (by decide) (hts _ k_X7_empties_f7) (fun _ h9 => h9) rfl dX7_empties_1 ?_
  refine lv_iload_n hx hb dX7_empties_4 rfl (lv_at hl 1 rfl) ?_
  refine lv_bipush (v := (nI 13)) hx hb dX7_empties_5 (by decide) ?_
  refine n_iadd (i := b) (j := 13) hx hb dX7_empties_7 ?_
  refine lv_iload_n hx hb dX7_empties_8 rfl (lv_at hl 2 rfl) ?_
  refine n_iadd (i := b + 13) (j := i) hx hb dX7_empties_9 ?_
  refine lv_iconst (v := (-1)) hx hb dX7_empties_10 (by decide) ?_
  refine n_iast (f := M) (j := b + 13 + i) (x := (-1)) hx hb hK hP hD hS 1 rfl (by omega) (by decide) dX7_empties_11 (fun H locs hP hD hS => ?_)
  have hP : va_P G.1 vwCl (MC G a g (upd M (b + 13 + i) (-1)) T Y) H := hP
  have hD : va_D A (MC G a g (upd M (b + 13 + i) (-1)) T Y) := hD
  refine lv_aload_n hx hb dX7_empties_12 rfl (lv_at hl 0 rfl) ?_
  refine va_get (D := G.1) (ci := 7) (v := .ref (a 1)) (C := RX7) (T := TX7) (N := 11) hx hb hts in_X7_empties_RX7 hown hK.1 hP 0 rfl rfl 0 (by decide) (hts _ k_X7_empties_f7) (fun _ h9 => h9) rfl dX7_empties_13 ?_
  refine lv_iload_n hx hb dX7_empties_16 rfl (lv_at hl 1 rfl) ?_
  refine lv_bipush (v := (nI 17)) hx hb dX7_empties_17 (by decide) ?_
  refine n_iadd (i := b) (j := 17) hx hb dX7_empties_19 ?_
  refine lv_iload_n hx hb dX7_empties_20 rfl (lv_at hl 2 rfl) ?_
  refine n_iadd (i := b + 17) (j := i) hx hb dX7_empties_21 ?_
  refine lv_iconst (v := (nI 0)) hx hb dX7_empties_22 (by decide) ?_
  refine n_iast (f := (upd M (b + 13 + i) (-1))) (j := b + 17 + i) (x := (nI 0)) hx hb hK hP hD hS 1 rfl (by omega) (by decide) dX7_empties_23 (fun H locs hP hD hS => ?_)
  have hP : va_P G.1 vwCl (MC G a g (upd (upd M (b + 13 + i) (-1)) (b + 17 + i) (nI 0)) T Y) H := hP
  have hD : va_D A (MC G a g (upd (upd M (b + 13 + i) (-1)) (b + 17 + i) (nI 0)) T Y) := hD
  refine lv_aload_n hx hb dX7_empties_24 rfl (lv_at hl 0 rfl) ?_
  refine va_get (D := G.1) (ci := 7) (v := .ref (a 1)) (C := RX7) (T := TX7) (N := 11) hx hb hts in_X7_empties_RX7 hown hK.1 hP 0 rfl rfl 0 (by decide) (hts _ k_X7_empties_f7) (fun _ h9 => h9) rfl dX7_empties_25 ?_
  refine lv_iload_n hx hb dX7_empties_28 rfl (lv_at hl 1 rfl) ?_
  refine lv_bipush (v := (nI 21)) hx hb dX7_empties_29 (by decide) ?_
  refine n_iadd (i := b) (j := 21) hx hb dX7_empties_31 ?_
  refine lv_iload_n hx hb dX7_empties_32 rfl (lv_at hl 2 rfl) ?_
  refine n_iadd (i := b + 21) (j := i) hx hb dX7_empties_33 ?_
  refine lv_iconst (v := (nI 0)) hx hb dX7_empties_34 (by decide) ?_
  refine n_iast (f := (upd (upd M (b + 13 + i) (-1)) (b + 17 + i) (nI 0))) (j := b + 21 + i) (x := (nI 0)) hx hb hK hP hD hS 1 rfl (by omega) (by decide) dX7_empties_35 (fun H locs hP hD hS => ?_)
  have hP : va_P G.1 vwCl (MC G a g (upd (upd (upd M (b + 13 + i) (-1)) (b + 17 + i) (nI 0)) (b + 21 + i) (nI 0)) T Y) H := hP
  have hD : va_D A (MC G a g (upd (upd (upd M (b + 13 + i) (-1)) (b + 17 + i) (nI 0)) (b + 21 + i) (nI 0)) T Y) := hD
  exact end_V C0 hP hD hS (upd (upd (upd M (b + 13 + i) (-1)) (b + 17 + i) (nI 0)) (b + 21 + i) (nI 0)) (by simp only [f_X7_empties]) rfl dX7_empties_36

def s_X7_washes_2_4  (M_2 : (Nat → Int32)) : (Nat → Int32) :=
  M_2
def s_X7_washes_2_3 (b : Nat) (M_2 : (Nat → Int32)) : (Nat → Int32) :=
  if (M_2 (b + 13 + 3)) < 0 then
    s_X7_washes_2_4 M_2
  else
    if ((upd M_2 (b + 17 + 3) ((M_2 (b + 17 + 3)) - (nI 1))) (b + 17 + 3)) = 0 then
      match f_X7_empties (upd (upd (upd M_2 (b + 17 + 3) ((M_2 (b + 17 + 3)) - (nI 1))) (b + 41) (((upd M_2 (b + 17 + 3) ((M_2 (b + 17 + 3)) - (nI 1))) (b + 41)) + (nI 1))) (b + 44) (((upd (upd M_2 (b + 17 + 3) ((M_2 (b + 17 + 3)) - (nI 1))) (b + 41) (((upd M_2 (b + 17 + 3) ((M_2 (b + 17 + 3)) - (nI 1))) (b + 41)) + (nI 1))) (b + 44)) + (f_X7_worthOf (M_2 (b + 13 + 3))))) b 3 with
      | M_c12 =>
        s_X7_washes_2_4 M_c12
    else
      s_X7_washes_2_4 (upd M_2 (b + 17 + 3) ((M_2 (b + 17 + 3)) - (nI 1)))
def s_X7_washes_2_2 (b : Nat) (M_2 : (Nat → Int32)) : (Nat → Int32) :=
  if (M_2 (b + 13 + 2)) < 0 then
    s_X7_washes_2_3 b M_2
  else
    if ((upd M_2 (b + 17 + 2) ((M_2 (b + 17 + 2)) - (nI 1))) (b + 17 + 2)) = 0 then
      match f_X7_empties (upd (upd (upd M_2 (b + 17 + 2) ((M_2 (b + 17 + 2)) - (nI 1))) (b + 41) (((upd M_2 (b + 17 + 2) ((M_2 (b + 17 + 2)) - (nI 1))) (b + 41)) + (nI 1))) (b + 44) (((upd (upd M_2 (b + 17 + 2) ((M_2 (b + 17 + 2)) - (nI 1))) (b + 41) (((upd M_2 (b + 17 + 2) ((M_2 (b + 17 + 2)) - (nI 1))) (b + 41)) + (nI 1))) (b + 44)) + (f_X7_worthOf (M_2 (b + 13 + 2))))) b 2 with
      | M_c15 =>
        s_X7_washes_2_3 b M_c15
    else
      s_X7_washes_2_3 b (upd M_2 (b + 17 + 2) ((M_2 (b + 17 + 2)) - (nI 1)))
def s_X7_washes_2_1 (b : Nat) (M_2 : (Nat → Int32)) : (Nat → Int32) :=
  if (M_2 (b + 13 + 1)) < 0 then
    s_X7_washes_2_2 b M_2
  else
    if ((upd M_2 (b + 17 + 1) ((M_2 (b + 17 + 1)) - (nI 1))) (b + 17 + 1)) = 0 then
      match f_X7_empties (upd (upd (upd M_2 (b + 17 + 1) ((M_2 (b + 17 + 1)) - (nI 1))) (b + 41) (((upd M_2 (b + 17 + 1) ((M_2 (b + 17 + 1)) - (nI 1))) (b + 41)) + (nI 1))) (b + 44) (((upd (upd M_2 (b + 17 + 1) ((M_2 (b + 17 + 1)) - (nI 1))) (b + 41) (((upd M_2 (b + 17 + 1) ((M_2 (b + 17 + 1)) - (nI 1))) (b + 41)) + (nI 1))) (b + 44)) + (f_X7_worthOf (M_2 (b + 13 + 1))))) b 1 with
      | M_c18 =>
        s_X7_washes_2_2 b M_c18
    else
      s_X7_washes_2_2 b (upd M_2 (b + 17 + 1) ((M_2 (b + 17 + 1)) - (nI 1)))
def s_X7_washes_2_0 (b : Nat) (M_2 : (Nat → Int32)) : (Nat → Int32) :=
  if (M_2 (b + 13 + 0)) < 0 then
    s_X7_washes_2_1 b M_2
  else
    if ((upd M_2 (b + 17 + 0) ((M_2 (b + 17 + 0)) - (nI 1))) (b + 17 + 0)) = 0 then
      match f_X7_empties (upd (upd (upd M_2 (b + 17 + 0) ((M_2 (b + 17 + 0)) - (nI 1))) (b + 41) (((upd M_2 (b + 17 + 0) ((M_2 (b + 17 + 0)) - (nI 1))) (b + 41)) + (nI 1))) (b + 44) (((upd (upd M_2 (b + 17 + 0) ((M_2 (b + 17 + 0)) - (nI 1))) (b + 41) (((upd M_2 (b + 17 + 0) ((M_2 (b + 17 + 0)) - (nI 1))) (b + 41)) + (nI 1))) (b + 44)) + (f_X7_worthOf (M_2 (b + 13 + 0))))) b 0 with
      | M_c21 =>
        s_X7_washes_2_1 b M_c21
    else
      s_X7_washes_2_1 b (upd M_2 (b + 17 + 0) ((M_2 (b + 17 + 0)) - (nI 1)))
def f_X7_washes (M : (Nat → Int32)) (b : Nat) : (Nat → Int32) :=
  s_X7_washes_2_0 b M
set_option maxRecDepth 20000 in
theorem k_X7_washes_f7 : Cond.fieldLink RX7 7 "SteamRationsModel" "s" "[I" ∈ wsX7_washes := by decide +kernel
set_option maxRecDepth 20000 in
theorem in_X7_washes_RX7 : ∀ w ∈ u_ws RX7 TX7 11, w ∈ wsX7_washes := by decide +kernel
theorem cd_X7_washes : yX7_washes.cls = RX7 ∧ yX7_washes.cls ≠ "java/lang/invoke/MethodHandle" ∧ yX7_washes.cls ≠ "java/lang/invoke/VarHandle" ∧ (parseMethodDescriptor yX7_washes.desc).map (fun d => d.parameters.length) = some 1 := by decide +kernel
set_option maxHeartbeats 4000000 in
set_option maxRecDepth 100000 in
theorem c_X7_washes (l : Launch) (G : GG) (a : Nat → Nat) (g : (Nat → Int32)) (M : (Nat → Int32)) (T : (Nat → Int32)) (Y : (Nat → Int32)) (sz : Nat) (b : Nat) (hb : b ≤ 322) : Met l yX7_washes wsX7_washes ({ frames := 1, cells := 0, slots := 0, locals := 22 }) (Pre G [.ref (a 0), .int (nI b)] (MC G a g M T Y) sz) (PV G (va_A (MC G a g M T Y) sz) (fun u : (Nat → Int32) => f_X7_washes M b = u) (fun u : (Nat → Int32) => MC G a g u T Y)) 0 0 (va_A (MC G a g M T Y) sz) := by
  refine Met.walk (cc := cX7_washes) (maxL := 4) (ret := none) (Qc := fun A => PV G A (fun u : (Nat → Int32) => f_X7_washes M b = u) (fun u : (Nat → Int32) => MC G a g u T Y)) (by decide) rfl (Nat.le_of_ble_eq_true rfl) ?_
  intro p e s m below meth c A H C0 _ hK hsz hP hD hA hS ls hl
  have hx := C0.1
  have hb := C0.2.1
  have hown : s.vm.findClass RX7 = some m.cls := C0.2.2.2.2.1
  have hml := C0.2.2.2.1
  have hts : ∀ w ∈ wsX7_washes, w.before [.ref (a 0), .int (nI b)].toArray s = true := C0.2.2.2.2.2.1
  have hl : lv_has ls 4 [(0, .ref (a 0)), (1, .int (nI b))] := hl
  have h_X7_washes_2_4 : ∀ (M_2 : (Nat → Int32)), f_X7_washes M b = s_X7_washes_2_4 M_2 → ∀ (H : Heap) (locs : List Loc) (ls : Array Slot), va_P G.1 vwCl (MC G a g M_2 T Y) H → va_D A (MC G a g M_2 T Y) → va_S A s.heap H locs → lv_has ls 4 [(2, .int (nI 4)), (0, .ref (a 0)), (1, .int (nI b))] → W p l e ({ frames := 1, cells := 0, slots := 0, locals := 22 }) s m ([.ref (a 0), .int (nI b)] : List Value).toArray below meth c H locs 0 0 (MQ below (PV G A (fun u : (Nat → Int32) => f_X7_washes M b = u) (fun u : (Nat → Int32) => MC G a g u T Y)) ([.ref (a 0), .int (nI b)] : List Value).toArray s 0 0 A) (F0 m 2 ls []) := by
    intro M_2  hE H locs ls hP hD hS hl
    refine lv_iload_n hx hb dX7_washes_2 rfl (lv_at hl 0 rfl) ?_
    refine lv_iconst (v := (nI 4)) hx hb dX7_washes_3 (by decide) ?_
    refine lv_icmp_ge (tgt := 93) hx hb dX7_washes_4 (by decide) (fun c_9 => ?_) (fun c_9 => absurd (by decide +kernel) c_9)
    exact end_V C0 hP hD hS M_2 (hE.trans (by simp only [s_X7_washes_2_4])) rfl dX7_washes_93
  have h_X7_washes_2_3 : ∀ (M_2 : (Nat → Int32)), f_X7_washes M b = s_X7_washes_2_3 b M_2 → ∀ (H : Heap) (locs : List Loc) (ls : Array Slot), va_P G.1 vwCl (MC G a g M_2 T Y) H → va_D A (MC G a g M_2 T Y) → va_S A s.heap H locs → lv_has ls 4 [(2, .int (nI 3)), (0, .ref (a 0)), (1, .int (nI b))] → W p l e ({ frames := 1, cells := 0, slots := 0, locals := 22 }) s m ([.ref (a 0), .int (nI b)] : List Value).toArray below meth c H locs 0 0 (MQ below (PV G A (fun u : (Nat → Int32) => f_X7_washes M b = u) (fun u : (Nat → Int32) => MC G a g u T Y)) ([.ref (a 0), .int (nI b)] : List Value).toArray s 0 0 A) (F0 m 2 ls []) := by
    intro M_2  hE H locs ls hP hD hS hl
    refine lv_iload_n hx hb dX7_washes_2 rfl (lv_at hl 0 rfl) ?_
    refine lv_iconst (v := (nI 4)) hx hb dX7_washes_3 (by decide) ?_
    refine lv_icmp_ge (tgt := 93) hx hb dX7_washes_4 (by decide) (fun c_7 => absurd c_7 (by decide +kernel)) (fun c_7 => ?_)
    refine lv_aload_n hx hb dX7_washes_7 rfl (lv_at hl 1 rfl) ?_
    refine va_get (D := G.1) (ci := 7) (v := .ref (a 1)) (C := RX7) (T := TX7) (N := 11) hx hb hts in_X7_washes_RX7 hown hK.1 hP 0 rfl rfl 0 (by decide) (hts _ k_X7_washes_f7) (fun _ h9 => h9) rfl dX7_washes_8 ?_
    refine lv_iload_n hx hb dX7_washes_11 rfl (lv_at hl 2 rfl) ?_
    refine lv_bipush (v := (nI 13)) hx hb dX7_washes_12 (by decide) ?_
    refine n_iadd (i := b) (j := 13) hx hb dX7_washes_14 ?_
    refine lv_iload_n hx hb dX7_washes_15 rfl (lv_at hl 0 rfl) ?_
    refine n_iadd (i := b + 13) (j := 3) hx hb dX7_washes_16 ?_
    refine n_iald (f := M_2) (j := b + 13 + 3) hx hb hK hP 1 rfl (by omega) (by decide) dX7_washes_17 ?_
    refine lv_istore_n (lv' := [(3, .int (M_2 (b + 13 + 3))), (2, .int (nI 3)), (0, .ref (a 0)), (1, .int (nI b))]) hx hb dX7_washes_18 rfl hl (by decide) rfl (fun ls hl => ?_)
    refine lv_iload_n hx hb dX7_washes_19 rfl (lv_at hl 0 rfl) ?_
    refine lv_if_lt (tgt := 87) hx hb dX7_washes_20 (by decide) (fun c_8 => ?_) (fun c_8 => ?_)
    · refine lv_iinc (v := (nI 4)) (lv' := [(2, .int (nI 4)), (3, .int (M_2 (b + 13 + 3))), (0, .ref (a 0)), (1, .int (nI b))]) hx hb dX7_washes_87 hl (k := 1) rfl (inc1 3) (by decide) rfl (fun ls hl => ?_)
      refine lv_goto (tgt := 2) hx hb dX7_washes_90 (by decide) ?_
      exact h_X7_washes_2_4 M_2  (hE.trans (by simp only [s_X7_washes_2_3, if_pos c_8])) _ _ _ hP hD hS (lv_sub hl [0, 2, 3] rfl)
    · refine lv_aload_n hx hb dX7_washes_23 rfl (lv_at hl 2 rfl) ?_
      refine va_get (D := G.1) (ci := 7) (v := .ref (a 1)) (C := RX7) (T := TX7) (N := 11) hx hb hts in_X7_washes_RX7 hown hK.1 hP 0 rfl rfl 0 (by decide) (hts _ k_X7_washes_f7) (fun _ h9 => h9) rfl dX7_washes_24 ?_
      refine lv_iload_n hx hb dX7_washes_27 rfl (lv_at hl 3 rfl) ?_
      refine lv_bipush (v := (nI 17)) hx hb dX7_washes_28 (by decide) ?_
      refine n_iadd (i := b) (j := 17) hx hb dX7_washes_30 ?_
      refine lv_iload_n hx hb dX7_washes_31 rfl (lv_at hl 1 rfl) ?_
      refine n_iadd (i := b + 17) (j := 3) hx hb dX7_washes_32 ?_
      refine lv_dup2_11 hx hb dX7_washes_33 rfl rfl ?_
      refine n_iald (f := M_2) (j := b + 17 + 3) hx hb hK hP 1 rfl (by omega) (by decide) dX7_washes_34 ?_
      refine lv_iconst (v := (nI 1)) hx hb dX7_washes_35 (by decide) ?_
      refine lv_isub hx hb dX7_washes_36 ?_
      refine n_iast (f := M_2) (j := b + 17 + 3) (x := ((M_2 (b + 17 + 3)) - (nI 1))) hx hb hK hP hD hS 1 rfl (by omega) (by decide) dX7_washes_37 (fun H locs hP hD hS => ?_)
      have hP : va_P G.1 vwCl (MC G a g (upd M_2 (b + 17 + 3) ((M_2 (b + 17 + 3)) - (nI 1))) T Y) H := hP
      have hD : va_D A (MC G a g (upd M_2 (b + 17 + 3) ((M_2 (b + 17 + 3)) - (nI 1))) T Y) := hD
      refine lv_aload_n hx hb dX7_washes_38 rfl (lv_at hl 2 rfl) ?_
      refine va_get (D := G.1) (ci := 7) (v := .ref (a 1)) (C := RX7) (T := TX7) (N := 11) hx hb hts in_X7_washes_RX7 hown hK.1 hP 0 rfl rfl 0 (by decide) (hts _ k_X7_washes_f7) (fun _ h9 => h9) rfl dX7_washes_39 ?_
      refine lv_iload_n hx hb dX7_washes_42 rfl (lv_at hl 3 rfl) ?_
      refine lv_bipush (v := (nI 17)) hx hb dX7_washes_43 (by decide) ?_
      refine n_iadd (i := b) (j := 17) hx hb dX7_washes_45 ?_
      refine lv_iload_n hx hb dX7_washes_46 rfl (lv_at hl 1 rfl) ?_
      refine n_iadd (i := b + 17) (j := 3) hx hb dX7_washes_47 ?_
      refine n_iald (f := (upd M_2 (b + 17 + 3) ((M_2 (b + 17 + 3)) - (nI 1)))) (j := b + 17 + 3) hx hb hK hP 1 rfl (by omega) (by decide) dX7_washes_48 ?_
      refine lv_if_ne (tgt := 87) hx hb dX7_washes_49 (by decide) (fun c_10 => ?_) (fun c_10 => ?_)
      · refine lv_iinc (v := (nI 4)) (lv' := [(2, .int (nI 4)), (3, .int (M_2 (b + 13 + 3))), (0, .ref (a 0)), (1, .int (nI b))]) hx hb dX7_washes_87 hl (k := 1) rfl (inc1 3) (by decide) rfl (fun ls hl => ?_)
        refine lv_goto (tgt := 2) hx hb dX7_washes_90 (by decide) ?_
        exact h_X7_washes_2_4 (upd M_2 (b + 17 + 3) ((M_2 (b + 17 + 3)) - (nI 1)))  (hE.trans (by simp only [s_X7_washes_2_3, if_neg c_8, if_neg c_10])) _ _ _ hP hD hS (lv_sub hl [0, 2, 3] rfl)
      · refine lv_aload_n hx hb dX7_washes_52 rfl (lv_at hl 2 rfl) ?_
        refine va_get (D := G.1) (ci := 7) (v := .ref (a 1)) (C := RX7) (T := TX7) (N := 11) hx hb hts in_X7_washes_RX7 hown hK.1 hP 0 rfl rfl 0 (by decide) (hts _ k_X7_washes_f7) (fun _ h9 => h9) rfl dX7_washes_53 ?_
        refine lv_iload_n hx hb dX7_washes_56 rfl (lv_at hl 3 rfl) ?_
        refine lv_bipush (v := (nI 41)) hx hb dX7_washes_57 (by decide) ?_
        refine n_iadd (i := b) (j := 41) hx hb dX7_washes_59 ?_
        refine lv_dup2_11 hx hb dX7_washes_60 rfl rfl ?_
        refine n_iald (f := (upd M_2 (b + 17 + 3) ((M_2 (b + 17 + 3)) - (nI 1)))) (j := b + 41) hx hb hK hP 1 rfl (by omega) (by decide) dX7_washes_61 ?_
        refine lv_iconst (v := (nI 1)) hx hb dX7_washes_62 (by decide) ?_
        refine lv_iadd hx hb dX7_washes_63 ?_
        refine n_iast (f := (upd M_2 (b + 17 + 3) ((M_2 (b + 17 + 3)) - (nI 1)))) (j := b + 41) (x := (((upd M_2 (b + 17 + 3) ((M_2 (b + 17 + 3)) - (nI 1))) (b + 41)) + (nI 1))) hx hb hK hP hD hS 1 rfl (by omega) (by decide) dX7_washes_64 (fun H locs hP hD hS => ?_)
        have hP : va_P G.1 vwCl (MC G a g (upd (upd M_2 (b + 17 + 3) ((M_2 (b + 17 + 3)) - (nI 1))) (b + 41) (((upd M_2 (b + 17 + 3) ((M_2 (b + 17 + 3)) - (nI 1))) (b + 41)) + (nI 1))) T Y) H := hP
        have hD : va_D A (MC G a g (upd (upd M_2 (b + 17 + 3) ((M_2 (b + 17 + 3)) - (nI 1))) (b + 41) (((upd M_2 (b + 17 + 3) ((M_2 (b + 17 + 3)) - (nI 1))) (b + 41)) + (nI 1))) T Y) := hD
        refine lv_aload_n hx hb dX7_washes_65 rfl (lv_at hl 2 rfl) ?_
        refine va_get (D := G.1) (ci := 7) (v := .ref (a 1)) (C := RX7) (T := TX7) (N := 11) hx hb hts in_X7_washes_RX7 hown hK.1 hP 0 rfl rfl 0 (by decide) (hts _ k_X7_washes_f7) (fun _ h9 => h9) rfl dX7_washes_66 ?_
        refine lv_iload_n hx hb dX7_washes_69 rfl (lv_at hl 3 rfl) ?_
        refine lv_bipush (v := (nI 44)) hx hb dX7_washes_70 (by decide) ?_
        refine n_iadd (i := b) (j := 44) hx hb dX7_washes_72 ?_
        refine lv_dup2_11 hx hb dX7_washes_73 rfl rfl ?_
        refine n_iald (f := (upd (upd M_2 (b + 17 + 3) ((M_2 (b + 17 + 3)) - (nI 1))) (b + 41) (((upd M_2 (b + 17 + 3) ((M_2 (b + 17 + 3)) - (nI 1))) (b + 41)) + (nI 1)))) (j := b + 44) hx hb hK hP 1 rfl (by omega) (by decide) dX7_washes_74 ?_
        refine lv_iload_n hx hb dX7_washes_75 rfl (lv_at hl 0 rfl) ?_
        refine gcall_I (run_S (As := [.int (M_2 (b + 13 + 3))]) (rest := [.int ((upd (upd M_2 (b + 17 + 3) ((M_2 (b + 17 + 3)) - (nI 1))) (b + 41) (((upd M_2 (b + 17 + 3) ((M_2 (b + 17 + 3)) - (nI 1))) (b + 41)) + (nI 1))) (b + 44)), .int (nI (b + 44)), .ref (a 1)]) C0 hK hP hD (c_X7_worthOf l G   H.size (M_2 (b + 13 + 3))) (va_cwS 1 hts gX7_washes_X7_worthOf rfl rfl rfl cd2_X7_worthOf ⟨Nat.le_of_ble_eq_true rfl, Nat.le_of_ble_eq_true rfl⟩) [] rfl rfl rfl hl.1 rfl (Nat.le_of_ble_eq_true rfl) dX7_washes_76 ⟨Nat.le_of_ble_eq_true rfl, Nat.le_of_ble_eq_true rfl⟩) hP hD hS hA [] rfl rfl (fun _ => rfl) (fun r_11 _ H locs hw_11 hP hD hS => ?_)
        subst hw_11
        have hP : va_P G.1 vwCl (MC G a g (upd (upd M_2 (b + 17 + 3) ((M_2 (b + 17 + 3)) - (nI 1))) (b + 41) (((upd M_2 (b + 17 + 3) ((M_2 (b + 17 + 3)) - (nI 1))) (b + 41)) + (nI 1))) T Y) H := hP
        have hD : va_D A (MC G a g (upd (upd M_2 (b + 17 + 3) ((M_2 (b + 17 + 3)) - (nI 1))) (b + 41) (((upd M_2 (b + 17 + 3) ((M_2 (b + 17 + 3)) - (nI 1))) (b + 41)) + (nI 1))) T Y) := hD
        refine lv_iadd hx hb dX7_washes_79 ?_
        refine n_iast (f := (upd (upd M_2 (b + 17 + 3) ((M_2 (b + 17 + 3)) - (nI 1))) (b + 41) (((upd M_2 (b + 17 + 3) ((M_2 (b + 17 + 3)) - (nI 1))) (b + 41)) + (nI 1)))) (j := b + 44) (x := (((upd (upd M_2 (b + 17 + 3) ((M_2 (b + 17 + 3)) - (nI 1))) (b + 41) (((upd M_2 (b + 17 + 3) ((M_2 (b + 17 + 3)) - (nI 1))) (b + 41)) + (nI 1))) (b + 44)) + (f_X7_worthOf (M_2 (b + 13 + 3))))) hx hb hK hP hD hS 1 rfl (by omega) (by decide) dX7_washes_80 (fun H locs hP hD hS => ?_)
        have hP : va_P G.1 vwCl (MC G a g (upd (upd (upd M_2 (b + 17 + 3) ((M_2 (b + 17 + 3)) - (nI 1))) (b + 41) (((upd M_2 (b + 17 + 3) ((M_2 (b + 17 + 3)) - (nI 1))) (b + 41)) + (nI 1))) (b + 44) (((upd (upd M_2 (b + 17 + 3) ((M_2 (b + 17 + 3)) - (nI 1))) (b + 41) (((upd M_2 (b + 17 + 3) ((M_2 (b + 17 + 3)) - (nI 1))) (b + 41)) + (nI 1))) (b + 44)) + (f_X7_worthOf (M_2 (b + 13 + 3))))) T Y) H := hP
        have hD : va_D A (MC G a g (upd (upd (upd M_2 (b + 17 + 3) ((M_2 (b + 17 + 3)) - (nI 1))) (b + 41) (((upd M_2 (b + 17 + 3) ((M_2 (b + 17 + 3)) - (nI 1))) (b + 41)) + (nI 1))) (b + 44) (((upd (upd M_2 (b + 17 + 3) ((M_2 (b + 17 + 3)) - (nI 1))) (b + 41) (((upd M_2 (b + 17 + 3) ((M_2 (b + 17 + 3)) - (nI 1))) (b + 41)) + (nI 1))) (b + 44)) + (f_X7_worthOf (M_2 (b + 13 + 3))))) T Y) := hD
        refine lv_aload_n hx hb dX7_washes_81 rfl (lv_at hl 2 rfl) ?_
        refine lv_iload_n hx hb dX7_washes_82 rfl (lv_at hl 3 rfl) ?_
        refine lv_iload_n hx hb dX7_washes_83 rfl (lv_at hl 1 rfl) ?_
        refine gcall_V (run_V (As := [.int (nI b), .int (nI 3)]) (rest := []) C0 hK hP hD (c_X7_empties l G a g (upd (upd (upd M_2 (b + 17 + 3) ((M_2 (b + 17 + 3)) - (nI 1))) (b + 41) (((upd M_2 (b + 17 + 3) ((M_2 (b + 17 + 3)) - (nI 1))) (b + 41)) + (nI 1))) (b + 44) (((upd (upd M_2 (b + 17 + 3) ((M_2 (b + 17 + 3)) - (nI 1))) (b + 41) (((upd M_2 (b + 17 + 3) ((M_2 (b + 17 + 3)) - (nI 1))) (b + 41)) + (nI 1))) (b + 44)) + (f_X7_worthOf (M_2 (b + 13 + 3))))) T Y H.size b 3 (by omega) (by omega)) (cwV 2 hts gX7_washes_X7_empties rfl rfl rfl cd_X7_empties ⟨Nat.le_of_ble_eq_true rfl, Nat.le_of_ble_eq_true rfl⟩) [0, 1, 2, 3] rfl rfl 0 (ci := 7) rfl rfl rfl rfl hl.1 rfl (Nat.le_of_ble_eq_true rfl) dX7_washes_84 ⟨Nat.le_of_ble_eq_true rfl, Nat.le_of_ble_eq_true rfl⟩) hP hD hS hA [0, 1, 2, 3] rfl rfl (fun _ => rfl) (fun u_12 H locs hw_12 hP hD hS => ?_)
        obtain ⟨M_c12, rfl⟩ : ∃ z, z = u_12 := ⟨_, rfl⟩
        have hP : va_P G.1 vwCl (MC G a g M_c12 T Y) H := hP
        have hD : va_D A (MC G a g M_c12 T Y) := hD
        refine lv_iinc (v := (nI 4)) (lv' := [(2, .int (nI 4)), (3, .int (M_2 (b + 13 + 3))), (0, .ref (a 0)), (1, .int (nI b))]) hx hb dX7_washes_87 hl (k := 1) rfl (inc1 3) (by decide) rfl (fun ls hl => ?_)
        refine lv_goto (tgt := 2) hx hb dX7_washes_90 (by decide) ?_
        exact h_X7_washes_2_4 M_c12  (hE.trans (by simp only [s_X7_washes_2_3, if_neg c_8, if_pos c_10, hw_12])) _ _ _ hP hD hS (lv_sub hl [0, 2, 3] rfl)
  have h_X7_washes_2_2 : ∀ (M_2 : (Nat → Int32)), f_X7_washes M b = s_X7_washes_2_2 b M_2 → ∀ (H : Heap) (locs : List Loc) (ls : Array Slot), va_P G.1 vwCl (MC G a g M_2 T Y) H → va_D A (MC G a g M_2 T Y) → va_S A s.heap H locs → lv_has ls 4 [(2, .int (nI 2)), (0, .ref (a 0)), (1, .int (nI b))] → W p l e ({ frames := 1, cells := 0, slots := 0, locals := 22 }) s m ([.ref (a 0), .int (nI b)] : List Value).toArray below meth c H locs 0 0 (MQ below (PV G A (fun u : (Nat → Int32) => f_X7_washes M b = u) (fun u : (Nat → Int32) => MC G a g u T Y)) ([.ref (a 0), .int (nI b)] : List Value).toArray s 0 0 A) (F0 m 2 ls []) := by
    intro M_2  hE H locs ls hP hD hS hl
    refine lv_iload_n hx hb dX7_washes_2 rfl (lv_at hl 0 rfl) ?_
    refine lv_iconst (v := (nI 4)) hx hb dX7_washes_3 (by decide) ?_
    refine lv_icmp_ge (tgt := 93) hx hb dX7_washes_4 (by decide) (fun c_5 => absurd c_5 (by decide +kernel)) (fun c_5 => ?_)
    refine lv_aload_n hx hb dX7_washes_7 rfl (lv_at hl 1 rfl) ?_
    refine va_get (D := G.1) (ci := 7) (v := .ref (a 1)) (C := RX7) (T := TX7) (N := 11) hx hb hts in_X7_washes_RX7 hown hK.1 hP 0 rfl rfl 0 (by decide) (hts _ k_X7_washes_f7) (fun _ h9 => h9) rfl dX7_washes_8 ?_
    refine lv_iload_n hx hb dX7_washes_11 rfl (lv_at hl 2 rfl) ?_
    refine lv_bipush (v := (nI 13)) hx hb dX7_washes_12 (by decide) ?_
    refine n_iadd (i := b) (j := 13) hx hb dX7_washes_14 ?_
    refine lv_iload_n hx hb dX7_washes_15 rfl (lv_at hl 0 rfl) ?_
    refine n_iadd (i := b + 13) (j := 2) hx hb dX7_washes_16 ?_
    refine n_iald (f := M_2) (j := b + 13 + 2) hx hb hK hP 1 rfl (by omega) (by decide) dX7_washes_17 ?_
    refine lv_istore_n (lv' := [(3, .int (M_2 (b + 13 + 2))), (2, .int (nI 2)), (0, .ref (a 0)), (1, .int (nI b))]) hx hb dX7_washes_18 rfl hl (by decide) rfl (fun ls hl => ?_)
    refine lv_iload_n hx hb dX7_washes_19 rfl (lv_at hl 0 rfl) ?_
    refine lv_if_lt (tgt := 87) hx hb dX7_washes_20 (by decide) (fun c_6 => ?_) (fun c_6 => ?_)
    · refine lv_iinc (v := (nI 3)) (lv' := [(2, .int (nI 3)), (3, .int (M_2 (b + 13 + 2))), (0, .ref (a 0)), (1, .int (nI b))]) hx hb dX7_washes_87 hl (k := 1) rfl (inc1 2) (by decide) rfl (fun ls hl => ?_)
      refine lv_goto (tgt := 2) hx hb dX7_washes_90 (by decide) ?_
      exact h_X7_washes_2_3 M_2  (hE.trans (by simp only [s_X7_washes_2_2, if_pos c_6])) _ _ _ hP hD hS (lv_sub hl [0, 2, 3] rfl)
    · refine lv_aload_n hx hb dX7_washes_23 rfl (lv_at hl 2 rfl) ?_
      refine va_get (D := G.1) (ci := 7) (v := .ref (a 1)) (C := RX7) (T := TX7) (N := 11) hx hb hts in_X7_washes_RX7 hown hK.1 hP 0 rfl rfl 0 (by decide) (hts _ k_X7_washes_f7) (fun _ h9 => h9) rfl dX7_washes_24 ?_
      refine lv_iload_n hx hb dX7_washes_27 rfl (lv_at hl 3 rfl) ?_
      refine lv_bipush (v := (nI 17)) hx hb dX7_washes_28 (by decide) ?_
      refine n_iadd (i := b) (j := 17) hx hb dX7_washes_30 ?_
      refine lv_iload_n hx hb dX7_washes_31 rfl (lv_at hl 1 rfl) ?_
      refine n_iadd (i := b + 17) (j := 2) hx hb dX7_washes_32 ?_
      refine lv_dup2_11 hx hb dX7_washes_33 rfl rfl ?_
      refine n_iald (f := M_2) (j := b + 17 + 2) hx hb hK hP 1 rfl (by omega) (by decide) dX7_washes_34 ?_
      refine lv_iconst (v := (nI 1)) hx hb dX7_washes_35 (by decide) ?_
      refine lv_isub hx hb dX7_washes_36 ?_
      refine n_iast (f := M_2) (j := b + 17 + 2) (x := ((M_2 (b + 17 + 2)) - (nI 1))) hx hb hK hP hD hS 1 rfl (by omega) (by decide) dX7_washes_37 (fun H locs hP hD hS => ?_)
      have hP : va_P G.1 vwCl (MC G a g (upd M_2 (b + 17 + 2) ((M_2 (b + 17 + 2)) - (nI 1))) T Y) H := hP
      have hD : va_D A (MC G a g (upd M_2 (b + 17 + 2) ((M_2 (b + 17 + 2)) - (nI 1))) T Y) := hD
      refine lv_aload_n hx hb dX7_washes_38 rfl (lv_at hl 2 rfl) ?_
      refine va_get (D := G.1) (ci := 7) (v := .ref (a 1)) (C := RX7) (T := TX7) (N := 11) hx hb hts in_X7_washes_RX7 hown hK.1 hP 0 rfl rfl 0 (by decide) (hts _ k_X7_washes_f7) (fun _ h9 => h9) rfl dX7_washes_39 ?_
      refine lv_iload_n hx hb dX7_washes_42 rfl (lv_at hl 3 rfl) ?_
      refine lv_bipush (v := (nI 17)) hx hb dX7_washes_43 (by decide) ?_
      refine n_iadd (i := b) (j := 17) hx hb dX7_washes_45 ?_
      refine lv_iload_n hx hb dX7_washes_46 rfl (lv_at hl 1 rfl) ?_
      refine n_iadd (i := b + 17) (j := 2) hx hb dX7_washes_47 ?_
      refine n_iald (f := (upd M_2 (b + 17 + 2) ((M_2 (b + 17 + 2)) - (nI 1)))) (j := b + 17 + 2) hx hb hK hP 1 rfl (by omega) (by decide) dX7_washes_48 ?_
      refine lv_if_ne (tgt := 87) hx hb dX7_washes_49 (by decide) (fun c_13 => ?_) (fun c_13 => ?_)
      · refine lv_iinc (v := (nI 3)) (lv' := [(2, .int (nI 3)), (3, .int (M_2 (b + 13 + 2))), (0, .ref (a 0)), (1, .int (nI b))]) hx hb dX7_washes_87 hl (k := 1) rfl (inc1 2) (by decide) rfl (fun ls hl => ?_)
        refine lv_goto (tgt := 2) hx hb dX7_washes_90 (by decide) ?_
        exact h_X7_washes_2_3 (upd M_2 (b + 17 + 2) ((M_2 (b + 17 + 2)) - (nI 1)))  (hE.trans (by simp only [s_X7_washes_2_2, if_neg c_6, if_neg c_13])) _ _ _ hP hD hS (lv_sub hl [0, 2, 3] rfl)
      · refine lv_aload_n hx hb dX7_washes_52 rfl (lv_at hl 2 rfl) ?_
        refine va_get (D := G.1) (ci := 7) (v := .ref (a 1)) (C := RX7) (T := TX7) (N := 11) hx hb hts in_X7_washes_RX7 hown hK.1 hP 0 rfl rfl 0 (by decide) (hts _ k_X7_washes_f7) (fun _ h9 => h9) rfl dX7_washes_53 ?_
        refine lv_iload_n hx hb dX7_washes_56 rfl (lv_at hl 3 rfl) ?_
        refine lv_bipush (v := (nI 41)) hx hb dX7_washes_57 (by decide) ?_
        refine n_iadd (i := b) (j := 41) hx hb dX7_washes_59 ?_
        refine lv_dup2_11 hx hb dX7_washes_60 rfl rfl ?_
        refine n_iald (f := (upd M_2 (b + 17 + 2) ((M_2 (b + 17 + 2)) - (nI 1)))) (j := b + 41) hx hb hK hP 1 rfl (by omega) (by decide) dX7_washes_61 ?_
        refine lv_iconst (v := (nI 1)) hx hb dX7_washes_62 (by decide) ?_
        refine lv_iadd hx hb dX7_washes_63 ?_
        refine n_iast (f := (upd M_2 (b + 17 + 2) ((M_2 (b + 17 + 2)) - (nI 1)))) (j := b + 41) (x := (((upd M_2 (b + 17 + 2) ((M_2 (b + 17 + 2)) - (nI 1))) (b + 41)) + (nI 1))) hx hb hK hP hD hS 1 rfl (by omega) (by decide) dX7_washes_64 (fun H locs hP hD hS => ?_)
        have hP : va_P G.1 vwCl (MC G a g (upd (upd M_2 (b + 17 + 2) ((M_2 (b + 17 + 2)) - (nI 1))) (b + 41) (((upd M_2 (b + 17 + 2) ((M_2 (b + 17 + 2)) - (nI 1))) (b + 41)) + (nI 1))) T Y) H := hP
        have hD : va_D A (MC G a g (upd (upd M_2 (b + 17 + 2) ((M_2 (b + 17 + 2)) - (nI 1))) (b + 41) (((upd M_2 (b + 17 + 2) ((M_2 (b + 17 + 2)) - (nI 1))) (b + 41)) + (nI 1))) T Y) := hD
        refine lv_aload_n hx hb dX7_washes_65 rfl (lv_at hl 2 rfl) ?_
        refine va_get (D := G.1) (ci := 7) (v := .ref (a 1)) (C := RX7) (T := TX7) (N := 11) hx hb hts in_X7_washes_RX7 hown hK.1 hP 0 rfl rfl 0 (by decide) (hts _ k_X7_washes_f7) (fun _ h9 => h9) rfl dX7_washes_66 ?_
        refine lv_iload_n hx hb dX7_washes_69 rfl (lv_at hl 3 rfl) ?_
        refine lv_bipush (v := (nI 44)) hx hb dX7_washes_70 (by decide) ?_
        refine n_iadd (i := b) (j := 44) hx hb dX7_washes_72 ?_
        refine lv_dup2_11 hx hb dX7_washes_73 rfl rfl ?_
        refine n_iald (f := (upd (upd M_2 (b + 17 + 2) ((M_2 (b + 17 + 2)) - (nI 1))) (b + 41) (((upd M_2 (b + 17 + 2) ((M_2 (b + 17 + 2)) - (nI 1))) (b + 41)) + (nI 1)))) (j := b + 44) hx hb hK hP 1 rfl (by omega) (by decide) dX7_washes_74 ?_
        refine lv_iload_n hx hb dX7_washes_75 rfl (lv_at hl 0 rfl) ?_
        refine gcall_I (run_S (As := [.int (M_2 (b + 13 + 2))]) (rest := [.int ((upd (upd M_2 (b + 17 + 2) ((M_2 (b + 17 + 2)) - (nI 1))) (b + 41) (((upd M_2 (b + 17 + 2) ((M_2 (b + 17 + 2)) - (nI 1))) (b + 41)) + (nI 1))) (b + 44)), .int (nI (b + 44)), .ref (a 1)]) C0 hK hP hD (c_X7_worthOf l G   H.size (M_2 (b + 13 + 2))) (va_cwS 1 hts gX7_washes_X7_worthOf rfl rfl rfl cd2_X7_worthOf ⟨Nat.le_of_ble_eq_true rfl, Nat.le_of_ble_eq_true rfl⟩) [] rfl rfl rfl hl.1 rfl (Nat.le_of_ble_eq_true rfl) dX7_washes_76 ⟨Nat.le_of_ble_eq_true rfl, Nat.le_of_ble_eq_true rfl⟩) hP hD hS hA [] rfl rfl (fun _ => rfl) (fun r_14 _ H locs hw_14 hP hD hS => ?_)
        subst hw_14
        have hP : va_P G.1 vwCl (MC G a g (upd (upd M_2 (b + 17 + 2) ((M_2 (b + 17 + 2)) - (nI 1))) (b + 41) (((upd M_2 (b + 17 + 2) ((M_2 (b + 17 + 2)) - (nI 1))) (b + 41)) + (nI 1))) T Y) H := hP
        have hD : va_D A (MC G a g (upd (upd M_2 (b + 17 + 2) ((M_2 (b + 17 + 2)) - (nI 1))) (b + 41) (((upd M_2 (b + 17 + 2) ((M_2 (b + 17 + 2)) - (nI 1))) (b + 41)) + (nI 1))) T Y) := hD
        refine lv_iadd hx hb dX7_washes_79 ?_
        refine n_iast (f := (upd (upd M_2 (b + 17 + 2) ((M_2 (b + 17 + 2)) - (nI 1))) (b + 41) (((upd M_2 (b + 17 + 2) ((M_2 (b + 17 + 2)) - (nI 1))) (b + 41)) + (nI 1)))) (j := b + 44) (x := (((upd (upd M_2 (b + 17 + 2) ((M_2 (b + 17 + 2)) - (nI 1))) (b + 41) (((upd M_2 (b + 17 + 2) ((M_2 (b + 17 + 2)) - (nI 1))) (b + 41)) + (nI 1))) (b + 44)) + (f_X7_worthOf (M_2 (b + 13 + 2))))) hx hb hK hP hD hS 1 rfl (by omega) (by decide) dX7_washes_80 (fun H locs hP hD hS => ?_)
        have hP : va_P G.1 vwCl (MC G a g (upd (upd (upd M_2 (b + 17 + 2) ((M_2 (b + 17 + 2)) - (nI 1))) (b + 41) (((upd M_2 (b + 17 + 2) ((M_2 (b + 17 + 2)) - (nI 1))) (b + 41)) + (nI 1))) (b + 44) (((upd (upd M_2 (b + 17 + 2) ((M_2 (b + 17 + 2)) - (nI 1))) (b + 41) (((upd M_2 (b + 17 + 2) ((M_2 (b + 17 + 2)) - (nI 1))) (b + 41)) + (nI 1))) (b + 44)) + (f_X7_worthOf (M_2 (b + 13 + 2))))) T Y) H := hP
        have hD : va_D A (MC G a g (upd (upd (upd M_2 (b + 17 + 2) ((M_2 (b + 17 + 2)) - (nI 1))) (b + 41) (((upd M_2 (b + 17 + 2) ((M_2 (b + 17 + 2)) - (nI 1))) (b + 41)) + (nI 1))) (b + 44) (((upd (upd M_2 (b + 17 + 2) ((M_2 (b + 17 + 2)) - (nI 1))) (b + 41) (((upd M_2 (b + 17 + 2) ((M_2 (b + 17 + 2)) - (nI 1))) (b + 41)) + (nI 1))) (b + 44)) + (f_X7_worthOf (M_2 (b + 13 + 2))))) T Y) := hD
        refine lv_aload_n hx hb dX7_washes_81 rfl (lv_at hl 2 rfl) ?_
        refine lv_iload_n hx hb dX7_washes_82 rfl (lv_at hl 3 rfl) ?_
        refine lv_iload_n hx hb dX7_washes_83 rfl (lv_at hl 1 rfl) ?_
        refine gcall_V (run_V (As := [.int (nI b), .int (nI 2)]) (rest := []) C0 hK hP hD (c_X7_empties l G a g (upd (upd (upd M_2 (b + 17 + 2) ((M_2 (b + 17 + 2)) - (nI 1))) (b + 41) (((upd M_2 (b + 17 + 2) ((M_2 (b + 17 + 2)) - (nI 1))) (b + 41)) + (nI 1))) (b + 44) (((upd (upd M_2 (b + 17 + 2) ((M_2 (b + 17 + 2)) - (nI 1))) (b + 41) (((upd M_2 (b + 17 + 2) ((M_2 (b + 17 + 2)) - (nI 1))) (b + 41)) + (nI 1))) (b + 44)) + (f_X7_worthOf (M_2 (b + 13 + 2))))) T Y H.size b 2 (by omega) (by omega)) (cwV 2 hts gX7_washes_X7_empties rfl rfl rfl cd_X7_empties ⟨Nat.le_of_ble_eq_true rfl, Nat.le_of_ble_eq_true rfl⟩) [0, 1, 2, 3] rfl rfl 0 (ci := 7) rfl rfl rfl rfl hl.1 rfl (Nat.le_of_ble_eq_true rfl) dX7_washes_84 ⟨Nat.le_of_ble_eq_true rfl, Nat.le_of_ble_eq_true rfl⟩) hP hD hS hA [0, 1, 2, 3] rfl rfl (fun _ => rfl) (fun u_15 H locs hw_15 hP hD hS => ?_)
        obtain ⟨M_c15, rfl⟩ : ∃ z, z = u_15 := ⟨_, rfl⟩
        have hP : va_P G.1 vwCl (MC G a g M_c15 T Y) H := hP
        have hD : va_D A (MC G a g M_c15 T Y) := hD
        refine lv_iinc (v := (nI 3)) (lv' := [(2, .int (nI 3)), (3, .int (M_2 (b + 13 + 2))), (0, .ref (a 0)), (1, .int (nI b))]) hx hb dX7_washes_87 hl (k := 1) rfl (inc1 2) (by decide) rfl (fun ls hl => ?_)
        refine lv_goto (tgt := 2) hx hb dX7_washes_90 (by decide) ?_
        exact h_X7_washes_2_3 M_c15  (hE.trans (by simp only [s_X7_washes_2_2, if_neg c_6, if_pos c_13, hw_15])) _ _ _ hP hD hS (lv_sub hl [0, 2, 3] rfl)
  have h_X7_washes_2_1 : ∀ (M_2 : (Nat → Int32)), f_X7_washes M b = s_X7_washes_2_1 b M_2 → ∀ (H : Heap) (locs : List Loc) (ls : Array Slot), va_P G.1 vwCl (MC G a g M_2 T Y) H → va_D A (MC G a g M_2 T Y) → va_S A s.heap H locs → lv_has ls 4 [(2, .int (nI 1)), (0, .ref (a 0)), (1, .int (nI b))] → W p l e ({ frames := 1, cells := 0, slots := 0, locals := 22 }) s m ([.ref (a 0), .int (nI b)] : List Value).toArray below meth c H locs 0 0 (MQ below (PV G A (fun u : (Nat → Int32) => f_X7_washes M b = u) (fun u : (Nat → Int32) => MC G a g u T Y)) ([.ref (a 0), .int (nI b)] : List Value).toArray s 0 0 A) (F0 m 2 ls []) := by
    intro M_2  hE H locs ls hP hD hS hl
    refine lv_iload_n hx hb dX7_washes_2 rfl (lv_at hl 0 rfl) ?_
    refine lv_iconst (v := (nI 4)) hx hb dX7_washes_3 (by decide) ?_
    refine lv_icmp_ge (tgt := 93) hx hb dX7_washes_4 (by decide) (fun c_3 => absurd c_3 (by decide +kernel)) (fun c_3 => ?_)
    refine lv_aload_n hx hb dX7_washes_7 rfl (lv_at hl 1 rfl) ?_
    refine va_get (D := G.1) (ci := 7) (v := .ref (a 1)) (C := RX7) (T := TX7) (N := 11) hx hb hts in_X7_washes_RX7 hown hK.1 hP 0 rfl rfl 0 (by decide) (hts _ k_X7_washes_f7) (fun _ h9 => h9) rfl dX7_washes_8 ?_
    refine lv_iload_n hx hb dX7_washes_11 rfl (lv_at hl 2 rfl) ?_
    refine lv_bipush (v := (nI 13)) hx hb dX7_washes_12 (by decide) ?_
    refine n_iadd (i := b) (j := 13) hx hb dX7_washes_14 ?_
    refine lv_iload_n hx hb dX7_washes_15 rfl (lv_at hl 0 rfl) ?_
    refine n_iadd (i := b + 13) (j := 1) hx hb dX7_washes_16 ?_
    refine n_iald (f := M_2) (j := b + 13 + 1) hx hb hK hP 1 rfl (by omega) (by decide) dX7_washes_17 ?_
    refine lv_istore_n (lv' := [(3, .int (M_2 (b + 13 + 1))), (2, .int (nI 1)), (0, .ref (a 0)), (1, .int (nI b))]) hx hb dX7_washes_18 rfl hl (by decide) rfl (fun ls hl => ?_)
    refine lv_iload_n hx hb dX7_washes_19 rfl (lv_at hl 0 rfl) ?_
    refine lv_if_lt (tgt := 87) hx hb dX7_washes_20 (by decide) (fun c_4 => ?_) (fun c_4 => ?_)
    · refine lv_iinc (v := (nI 2)) (lv' := [(2, .int (nI 2)), (3, .int (M_2 (b + 13 + 1))), (0, .ref (a 0)), (1, .int (nI b))]) hx hb dX7_washes_87 hl (k := 1) rfl (inc1 1) (by decide) rfl (fun ls hl => ?_)
      refine lv_goto (tgt := 2) hx hb dX7_washes_90 (by decide) ?_
      exact h_X7_washes_2_2 M_2  (hE.trans (by simp only [s_X7_washes_2_1, if_pos c_4])) _ _ _ hP hD hS (lv_sub hl [0, 2, 3] rfl)
    · refine lv_aload_n hx hb dX7_washes_23 rfl (lv_at hl 2 rfl) ?_
      refine va_get (D := G.1) (ci := 7) (v := .ref (a 1)) (C := RX7) (T := TX7) (N := 11) hx hb hts in_X7_washes_RX7 hown hK.1 hP 0 rfl rfl 0 (by decide) (hts _ k_X7_washes_f7) (fun _ h9 => h9) rfl dX7_washes_24 ?_
      refine lv_iload_n hx hb dX7_washes_27 rfl (lv_at hl 3 rfl) ?_
      refine lv_bipush (v := (nI 17)) hx hb dX7_washes_28 (by decide) ?_
      refine n_iadd (i := b) (j := 17) hx hb dX7_washes_30 ?_
      refine lv_iload_n hx hb dX7_washes_31 rfl (lv_at hl 1 rfl) ?_
      refine n_iadd (i := b + 17) (j := 1) hx hb dX7_washes_32 ?_
      refine lv_dup2_11 hx hb dX7_washes_33 rfl rfl ?_
      refine n_iald (f := M_2) (j := b + 17 + 1) hx hb hK hP 1 rfl (by omega) (by decide) dX7_washes_34 ?_
      refine lv_iconst (v := (nI 1)) hx hb dX7_washes_35 (by decide) ?_
      refine lv_isub hx hb dX7_washes_36 ?_
      refine n_iast (f := M_2) (j := b + 17 + 1) (x := ((M_2 (b + 17 + 1)) - (nI 1))) hx hb hK hP hD hS 1 rfl (by omega) (by decide) dX7_washes_37 (fun H locs hP hD hS => ?_)
      have hP : va_P G.1 vwCl (MC G a g (upd M_2 (b + 17 + 1) ((M_2 (b + 17 + 1)) - (nI 1))) T Y) H := hP
      have hD : va_D A (MC G a g (upd M_2 (b + 17 + 1) ((M_2 (b + 17 + 1)) - (nI 1))) T Y) := hD
      refine lv_aload_n hx hb dX7_washes_38 rfl (lv_at hl 2 rfl) ?_
      refine va_get (D := G.1) (ci := 7) (v := .ref (a 1)) (C := RX7) (T := TX7) (N := 11) hx hb hts in_X7_washes_RX7 hown hK.1 hP 0 rfl rfl 0 (by decide) (hts _ k_X7_washes_f7) (fun _ h9 => h9) rfl dX7_washes_39 ?_
      refine lv_iload_n hx hb dX7_washes_42 rfl (lv_at hl 3 rfl) ?_
      refine lv_bipush (v := (nI 17)) hx hb dX7_washes_43 (by decide) ?_
      refine n_iadd (i := b) (j := 17) hx hb dX7_washes_45 ?_
      refine lv_iload_n hx hb dX7_washes_46 rfl (lv_at hl 1 rfl) ?_
      refine n_iadd (i := b + 17) (j := 1) hx hb dX7_washes_47 ?_
      refine n_iald (f := (upd M_2 (b + 17 + 1) ((M_2 (b + 17 + 1)) - (nI 1)))) (j := b + 17 + 1) hx hb hK hP 1 rfl (by omega) (by decide) dX7_washes_48 ?_
      refine lv_if_ne (tgt := 87) hx hb dX7_washes_49 (by decide) (fun c_16 => ?_) (fun c_16 => ?_)
      · refine lv_iinc (v := (nI 2)) (lv' := [(2, .int (nI 2)), (3, .int (M_2 (b + 13 + 1))), (0, .ref (a 0)), (1, .int (nI b))]) hx hb dX7_washes_87 hl (k := 1) rfl (inc1 1) (by decide) rfl (fun ls hl => ?_)
        refine lv_goto (tgt := 2) hx hb dX7_washes_90 (by decide) ?_
        exact h_X7_washes_2_2 (upd M_2 (b + 17 + 1) ((M_2 (b + 17 + 1)) - (nI 1)))  (hE.trans (by simp only [s_X7_washes_2_1, if_neg c_4, if_neg c_16])) _ _ _ hP hD hS (lv_sub hl [0, 2, 3] rfl)
      · refine lv_aload_n hx hb dX7_washes_52 rfl (lv_at hl 2 rfl) ?_
        refine va_get (D := G.1) (ci := 7) (v := .ref (a 1)) (C := RX7) (T := TX7) (N := 11) hx hb hts in_X7_washes_RX7 hown hK.1 hP 0 rfl rfl 0 (by decide) (hts _ k_X7_washes_f7) (fun _ h9 => h9) rfl dX7_washes_53 ?_
        refine lv_iload_n hx hb dX7_washes_56 rfl (lv_at hl 3 rfl) ?_
        refine lv_bipush (v := (nI 41)) hx hb dX7_washes_57 (by decide) ?_
        refine n_iadd (i := b) (j := 41) hx hb dX7_washes_59 ?_
        refine lv_dup2_11 hx hb dX7_washes_60 rfl rfl ?_
        refine n_iald (f := (upd M_2 (b + 17 + 1) ((M_2 (b + 17 + 1)) - (nI 1)))) (j := b + 41) hx hb hK hP 1 rfl (by omega) (by decide) dX7_washes_61 ?_
        refine lv_iconst (v := (nI 1)) hx hb dX7_washes_62 (by decide) ?_
        refine lv_iadd hx hb dX7_washes_63 ?_
        refine n_iast (f := (upd M_2 (b + 17 + 1) ((M_2 (b + 17 + 1)) - (nI 1)))) (j := b + 41) (x := (((upd M_2 (b + 17 + 1) ((M_2 (b + 17 + 1)) - (nI 1))) (b + 41)) + (nI 1))) hx hb hK hP hD hS 1 rfl (by omega) (by decide) dX7_washes_64 (fun H locs hP hD hS => ?_)
        have hP : va_P G.1 vwCl (MC G a g (upd (upd M_2 (b + 17 + 1) ((M_2 (b + 17 + 1)) - (nI 1))) (b + 41) (((upd M_2 (b + 17 + 1) ((M_2 (b + 17 + 1)) - (nI 1))) (b + 41)) + (nI 1))) T Y) H := hP
        have hD : va_D A (MC G a g (upd (upd M_2 (b + 17 + 1) ((M_2 (b + 17 + 1)) - (nI 1))) (b + 41) (((upd M_2 (b + 17 + 1) ((M_2 (b + 17 + 1)) - (nI 1))) (b + 41)) + (nI 1))) T Y) := hD
        refine lv_aload_n hx hb dX7_washes_65 rfl (lv_at hl 2 rfl) ?_
        refine va_get (D := G.1) (ci := 7) (v := .ref (a 1)) (C := RX7) (T := TX7) (N := 11) hx hb hts in_X7_washes_RX7 hown hK.1 hP 0 rfl rfl 0 (by decide) (hts _ k_X7_washes_f7) (fun _ h9 => h9) rfl dX7_washes_66 ?_
        refine lv_iload_n hx hb dX7_washes_69 rfl (lv_at hl 3 rfl) ?_
        refine lv_bipush (v := (nI 44)) hx hb dX7_washes_70 (by decide) ?_
        refine n_iadd (i := b) (j := 44) hx hb dX7_washes_72 ?_
        refine lv_dup2_11 hx hb dX7_washes_73 rfl rfl ?_
        refine n_iald (f := (upd (upd M_2 (b + 17 + 1) ((M_2 (b + 17 + 1)) - (nI 1))) (b + 41) (((upd M_2 (b + 17 + 1) ((M_2 (b + 17 + 1)) - (nI 1))) (b + 41)) + (nI 1)))) (j := b + 44) hx hb hK hP 1 rfl (by omega) (by decide) dX7_washes_74 ?_
        refine lv_iload_n hx hb dX7_washes_75 rfl (lv_at hl 0 rfl) ?_
        refine gcall_I (run_S (As := [.int (M_2 (b + 13 + 1))]) (rest := [.int ((upd (upd M_2 (b + 17 + 1) ((M_2 (b + 17 + 1)) - (nI 1))) (b + 41) (((upd M_2 (b + 17 + 1) ((M_2 (b + 17 + 1)) - (nI 1))) (b + 41)) + (nI 1))) (b + 44)), .int (nI (b + 44)), .ref (a 1)]) C0 hK hP hD (c_X7_worthOf l G   H.size (M_2 (b + 13 + 1))) (va_cwS 1 hts gX7_washes_X7_worthOf rfl rfl rfl cd2_X7_worthOf ⟨Nat.le_of_ble_eq_true rfl, Nat.le_of_ble_eq_true rfl⟩) [] rfl rfl rfl hl.1 rfl (Nat.le_of_ble_eq_true rfl) dX7_washes_76 ⟨Nat.le_of_ble_eq_true rfl, Nat.le_of_ble_eq_true rfl⟩) hP hD hS hA [] rfl rfl (fun _ => rfl) (fun r_17 _ H locs hw_17 hP hD hS => ?_)
        subst hw_17
        have hP : va_P G.1 vwCl (MC G a g (upd (upd M_2 (b + 17 + 1) ((M_2 (b + 17 + 1)) - (nI 1))) (b + 41) (((upd M_2 (b + 17 + 1) ((M_2 (b + 17 + 1)) - (nI 1))) (b + 41)) + (nI 1))) T Y) H := hP
        have hD : va_D A (MC G a g (upd (upd M_2 (b + 17 + 1) ((M_2 (b + 17 + 1)) - (nI 1))) (b + 41) (((upd M_2 (b + 17 + 1) ((M_2 (b + 17 + 1)) - (nI 1))) (b + 41)) + (nI 1))) T Y) := hD
        refine lv_iadd hx hb dX7_washes_79 ?_
        refine n_iast (f := (upd (upd M_2 (b + 17 + 1) ((M_2 (b + 17 + 1)) - (nI 1))) (b + 41) (((upd M_2 (b + 17 + 1) ((M_2 (b + 17 + 1)) - (nI 1))) (b + 41)) + (nI 1)))) (j := b + 44) (x := (((upd (upd M_2 (b + 17 + 1) ((M_2 (b + 17 + 1)) - (nI 1))) (b + 41) (((upd M_2 (b + 17 + 1) ((M_2 (b + 17 + 1)) - (nI 1))) (b + 41)) + (nI 1))) (b + 44)) + (f_X7_worthOf (M_2 (b + 13 + 1))))) hx hb hK hP hD hS 1 rfl (by omega) (by decide) dX7_washes_80 (fun H locs hP hD hS => ?_)
        have hP : va_P G.1 vwCl (MC G a g (upd (upd (upd M_2 (b + 17 + 1) ((M_2 (b + 17 + 1)) - (nI 1))) (b + 41) (((upd M_2 (b + 17 + 1) ((M_2 (b + 17 + 1)) - (nI 1))) (b + 41)) + (nI 1))) (b + 44) (((upd (upd M_2 (b + 17 + 1) ((M_2 (b + 17 + 1)) - (nI 1))) (b + 41) (((upd M_2 (b + 17 + 1) ((M_2 (b + 17 + 1)) - (nI 1))) (b + 41)) + (nI 1))) (b + 44)) + (f_X7_worthOf (M_2 (b + 13 + 1))))) T Y) H := hP
        have hD : va_D A (MC G a g (upd (upd (upd M_2 (b + 17 + 1) ((M_2 (b + 17 + 1)) - (nI 1))) (b + 41) (((upd M_2 (b + 17 + 1) ((M_2 (b + 17 + 1)) - (nI 1))) (b + 41)) + (nI 1))) (b + 44) (((upd (upd M_2 (b + 17 + 1) ((M_2 (b + 17 + 1)) - (nI 1))) (b + 41) (((upd M_2 (b + 17 + 1) ((M_2 (b + 17 + 1)) - (nI 1))) (b + 41)) + (nI 1))) (b + 44)) + (f_X7_worthOf (M_2 (b + 13 + 1))))) T Y) := hD
        refine lv_aload_n hx hb dX7_washes_81 rfl (lv_at hl 2 rfl) ?_
        refine lv_iload_n hx hb dX7_washes_82 rfl (lv_at hl 3 rfl) ?_
        refine lv_iload_n hx hb dX7_washes_83 rfl (lv_at hl 1 rfl) ?_
        refine gcall_V (run_V (As := [.int (nI b), .int (nI 1)]) (rest := []) C0 hK hP hD (c_X7_empties l G a g (upd (upd (upd M_2 (b + 17 + 1) ((M_2 (b + 17 + 1)) - (nI 1))) (b + 41) (((upd M_2 (b + 17 + 1) ((M_2 (b + 17 + 1)) - (nI 1))) (b + 41)) + (nI 1))) (b + 44) (((upd (upd M_2 (b + 17 + 1) ((M_2 (b + 17 + 1)) - (nI 1))) (b + 41) (((upd M_2 (b + 17 + 1) ((M_2 (b + 17 + 1)) - (nI 1))) (b + 41)) + (nI 1))) (b + 44)) + (f_X7_worthOf (M_2 (b + 13 + 1))))) T Y H.size b 1 (by omega) (by omega)) (cwV 2 hts gX7_washes_X7_empties rfl rfl rfl cd_X7_empties ⟨Nat.le_of_ble_eq_true rfl, Nat.le_of_ble_eq_true rfl⟩) [0, 1, 2, 3] rfl rfl 0 (ci := 7) rfl rfl rfl rfl hl.1 rfl (Nat.le_of_ble_eq_true rfl) dX7_washes_84 ⟨Nat.le_of_ble_eq_true rfl, Nat.le_of_ble_eq_true rfl⟩) hP hD hS hA [0, 1, 2, 3] rfl rfl (fun _ => rfl) (fun u_18 H locs hw_18 hP hD hS => ?_)
        obtain ⟨M_c18, rfl⟩ : ∃ z, z = u_18 := ⟨_, rfl⟩
        have hP : va_P G.1 vwCl (MC G a g M_c18 T Y) H := hP
        have hD : va_D A (MC G a g M_c18 T Y) := hD
        refine lv_iinc (v := (nI 2)) (lv' := [(2, .int (nI 2)), (3, .int (M_2 (b + 13 + 1))), (0, .ref (a 0)), (1, .int (nI b))]) hx hb dX7_washes_87 hl (k := 1) rfl (inc1 1) (by decide) rfl (fun ls hl => ?_)
        refine lv_goto (tgt := 2) hx hb dX7_washes_90 (by decide) ?_
        exact h_X7_washes_2_2 M_c18  (hE.trans (by simp only [s_X7_washes_2_1, if_neg c_4, if_pos c_16, hw_18])) _ _ _ hP hD hS (lv_sub hl [0, 2, 3] rfl)
  have h_X7_washes_2_0 : ∀ (M_2 : (Nat → Int32)), f_X7_washes M b = s_X7_washes_2_0 b M_2 → ∀ (H : Heap) (locs : List Loc) (ls : Array Slot), va_P G.1 vwCl (MC G a g M_2 T Y) H → va_D A (MC G a g M_2 T Y) → va_S A s.heap H locs → lv_has ls 4 [(2, .int (nI 0)), (0, .ref (a 0)), (1, .int (nI b))] → W p l e ({ frames := 1, cells := 0, slots := 0, locals := 22 }) s m ([.ref (a 0), .int (nI b)] : List Value).toArray below meth c H locs 0 0 (MQ below (PV G A (fun u : (Nat → Int32) => f_X7_washes M b = u) (fun u : (Nat → Int32) => MC G a g u T Y)) ([.ref (a 0), .int (nI b)] : List Value).toArray s 0 0 A) (F0 m 2 ls []) := by
    intro M_2  hE H locs ls hP hD hS hl
    refine lv_iload_n hx hb dX7_washes_2 rfl (lv_at hl 0 rfl) ?_
    refine lv_iconst (v := (nI 4)) hx hb dX7_washes_3 (by decide) ?_
    refine lv_icmp_ge (tgt := 93) hx hb dX7_washes_4 (by decide) (fun c_1 => absurd c_1 (by decide +kernel)) (fun c_1 => ?_)
    refine lv_aload_n hx hb dX7_washes_7 rfl (lv_at hl 1 rfl) ?_
    refine va_get (D := G.1) (ci := 7) (v := .ref (a 1)) (C := RX7) (T := TX7) (N := 11) hx hb hts in_X7_washes_RX7 hown hK.1 hP 0 rfl rfl 0 (by decide) (hts _ k_X7_washes_f7) (fun _ h9 => h9) rfl dX7_washes_8 ?_
    refine lv_iload_n hx hb dX7_washes_11 rfl (lv_at hl 2 rfl) ?_
    refine lv_bipush (v := (nI 13)) hx hb dX7_washes_12 (by decide) ?_
    refine n_iadd (i := b) (j := 13) hx hb dX7_washes_14 ?_
    refine lv_iload_n hx hb dX7_washes_15 rfl (lv_at hl 0 rfl) ?_
    refine n_iadd (i := b + 13) (j := 0) hx hb dX7_washes_16 ?_
    refine n_iald (f := M_2) (j := b + 13 + 0) hx hb hK hP 1 rfl (by omega) (by decide) dX7_washes_17 ?_
    refine lv_istore_n (lv' := [(3, .int (M_2 (b + 13 + 0))), (2, .int (nI 0)), (0, .ref (a 0)), (1, .int (nI b))]) hx hb dX7_washes_18 rfl hl (by decide) rfl (fun ls hl => ?_)
    refine lv_iload_n hx hb dX7_washes_19 rfl (lv_at hl 0 rfl) ?_
    refine lv_if_lt (tgt := 87) hx hb dX7_washes_20 (by decide) (fun c_2 => ?_) (fun c_2 => ?_)
    · refine lv_iinc (v := (nI 1)) (lv' := [(2, .int (nI 1)), (3, .int (M_2 (b + 13 + 0))), (0, .ref (a 0)), (1, .int (nI b))]) hx hb dX7_washes_87 hl (k := 1) rfl (inc1 0) (by decide) rfl (fun ls hl => ?_)
      refine lv_goto (tgt := 2) hx hb dX7_washes_90 (by decide) ?_
      exact h_X7_washes_2_1 M_2  (hE.trans (by simp only [s_X7_washes_2_0, if_pos c_2])) _ _ _ hP hD hS (lv_sub hl [0, 2, 3] rfl)
    · refine lv_aload_n hx hb dX7_washes_23 rfl (lv_at hl 2 rfl) ?_
      refine va_get (D := G.1) (ci := 7) (v := .ref (a 1)) (C := RX7) (T := TX7) (N := 11) hx hb hts in_X7_washes_RX7 hown hK.1 hP 0 rfl rfl 0 (by decide) (hts _ k_X7_washes_f7) (fun _ h9 => h9) rfl dX7_washes_24 ?_
      refine lv_iload_n hx hb dX7_washes_27 rfl (lv_at hl 3 rfl) ?_
      refine lv_bipush (v := (nI 17)) hx hb dX7_washes_28 (by decide) ?_
      refine n_iadd (i := b) (j := 17) hx hb dX7_washes_30 ?_
      refine lv_iload_n hx hb dX7_washes_31 rfl (lv_at hl 1 rfl) ?_
      refine n_iadd (i := b + 17) (j := 0) hx hb dX7_washes_32 ?_
      refine lv_dup2_11 hx hb dX7_washes_33 rfl rfl ?_
      refine n_iald (f := M_2) (j := b + 17 + 0) hx hb hK hP 1 rfl (by omega) (by decide) dX7_washes_34 ?_
      refine lv_iconst (v := (nI 1)) hx hb dX7_washes_35 (by decide) ?_
      refine lv_isub hx hb dX7_washes_36 ?_
      refine n_iast (f := M_2) (j := b + 17 + 0) (x := ((M_2 (b + 17 + 0)) - (nI 1))) hx hb hK hP hD hS 1 rfl (by omega) (by decide) dX7_washes_37 (fun H locs hP hD hS => ?_)
      have hP : va_P G.1 vwCl (MC G a g (upd M_2 (b + 17 + 0) ((M_2 (b + 17 + 0)) - (nI 1))) T Y) H := hP
      have hD : va_D A (MC G a g (upd M_2 (b + 17 + 0) ((M_2 (b + 17 + 0)) - (nI 1))) T Y) := hD
      refine lv_aload_n hx hb dX7_washes_38 rfl (lv_at hl 2 rfl) ?_
      refine va_get (D := G.1) (ci := 7) (v := .ref (a 1)) (C := RX7) (T := TX7) (N := 11) hx hb hts in_X7_washes_RX7 hown hK.1 hP 0 rfl rfl 0 (by decide) (hts _ k_X7_washes_f7) (fun _ h9 => h9) rfl dX7_washes_39 ?_
      refine lv_iload_n hx hb dX7_washes_42 rfl (lv_at hl 3 rfl) ?_
      refine lv_bipush (v := (nI 17)) hx hb dX7_washes_43 (by decide) ?_
      refine n_iadd (i := b) (j := 17) hx hb dX7_washes_45 ?_
      refine lv_iload_n hx hb dX7_washes_46 rfl (lv_at hl 1 rfl) ?_
      refine n_iadd (i := b + 17) (j := 0) hx hb dX7_washes_47 ?_
      refine n_iald (f := (upd M_2 (b + 17 + 0) ((M_2 (b + 17 + 0)) - (nI 1)))) (j := b + 17 + 0) hx hb hK hP 1 rfl (by omega) (by decide) dX7_washes_48 ?_
      refine lv_if_ne (tgt := 87) hx hb dX7_washes_49 (by decide) (fun c_19 => ?_) (fun c_19 => ?_)
      · refine lv_iinc (v := (nI 1)) (lv' := [(2, .int (nI 1)), (3, .int (M_2 (b + 13 + 0))), (0, .ref (a 0)), (1, .int (nI b))]) hx hb dX7_washes_87 hl (k := 1) rfl (inc1 0) (by decide) rfl (fun ls hl => ?_)
        refine lv_goto (tgt := 2) hx hb dX7_washes_90 (by decide) ?_
        exact h_X7_washes_2_1 (upd M_2 (b + 17 + 0) ((M_2 (b + 17 + 0)) - (nI 1)))  (hE.trans (by simp only [s_X7_washes_2_0, if_neg c_2, if_neg c_19])) _ _ _ hP hD hS (lv_sub hl [0, 2, 3] rfl)
      · refine lv_aload_n hx hb dX7_washes_52 rfl (lv_at hl 2 rfl) ?_
        refine va_get (D := G.1) (ci := 7) (v := .ref (a 1)) (C := RX7) (T := TX7) (N := 11) hx hb hts in_X7_washes_RX7 hown hK.1 hP 0 rfl rfl 0 (by decide) (hts _ k_X7_washes_f7) (fun _ h9 => h9) rfl dX7_washes_53 ?_
        refine lv_iload_n hx hb dX7_washes_56 rfl (lv_at hl 3 rfl) ?_
        refine lv_bipush (v := (nI 41)) hx hb dX7_washes_57 (by decide) ?_
        refine n_iadd (i := b) (j := 41) hx hb dX7_washes_59 ?_
        refine lv_dup2_11 hx hb dX7_washes_60 rfl rfl ?_
        refine n_iald (f := (upd M_2 (b + 17 + 0) ((M_2 (b + 17 + 0)) - (nI 1)))) (j := b + 41) hx hb hK hP 1 rfl (by omega) (by decide) dX7_washes_61 ?_
        refine lv_iconst (v := (nI 1)) hx hb dX7_washes_62 (by decide) ?_
        refine lv_iadd hx hb dX7_washes_63 ?_
        refine n_iast (f := (upd M_2 (b + 17 + 0) ((M_2 (b + 17 + 0)) - (nI 1)))) (j := b + 41) (x := (((upd M_2 (b + 17 + 0) ((M_2 (b + 17 + 0)) - (nI 1))) (b + 41)) + (nI 1))) hx hb hK hP hD hS 1 rfl (by omega) (by decide) dX7_washes_64 (fun H locs hP hD hS => ?_)
        have hP : va_P G.1 vwCl (MC G a g (upd (upd M_2 (b + 17 + 0) ((M_2 (b + 17 + 0)) - (nI 1))) (b + 41) (((upd M_2 (b + 17 + 0) ((M_2 (b + 17 + 0)) - (nI 1))) (b + 41)) + (nI 1))) T Y) H := hP
        have hD : va_D A (MC G a g (upd (upd M_2 (b + 17 + 0) ((M_2 (b + 17 + 0)) - (nI 1))) (b + 41) (((upd M_2 (b + 17 + 0) ((M_2 (b + 17 + 0)) - (nI 1))) (b + 41)) + (nI 1))) T Y) := hD
        refine lv_aload_n hx hb dX7_washes_65 rfl (lv_at hl 2 rfl) ?_
        refine va_get (D := G.1) (ci := 7) (v := .ref (a 1)) (C := RX7) (T := TX7) (N := 11) hx hb hts in_X7_washes_RX7 hown hK.1 hP 0 rfl rfl 0 (by decide) (hts _ k_X7_washes_f7) (fun _ h9 => h9) rfl dX7_washes_66 ?_
        refine lv_iload_n hx hb dX7_washes_69 rfl (lv_at hl 3 rfl) ?_
        refine lv_bipush (v := (nI 44)) hx hb dX7_washes_70 (by decide) ?_
        refine n_iadd (i := b) (j := 44) hx hb dX7_washes_72 ?_
        refine lv_dup2_11 hx hb dX7_washes_73 rfl rfl ?_
        refine n_iald (f := (upd (upd M_2 (b + 17 + 0) ((M_2 (b + 17 + 0)) - (nI 1))) (b + 41) (((upd M_2 (b + 17 + 0) ((M_2 (b + 17 + 0)) - (nI 1))) (b + 41)) + (nI 1)))) (j := b + 44) hx hb hK hP 1 rfl (by omega) (by decide) dX7_washes_74 ?_
        refine lv_iload_n hx hb dX7_washes_75 rfl (lv_at hl 0 rfl) ?_
        refine gcall_I (run_S (As := [.int (M_2 (b + 13 + 0))]) (rest := [.int ((upd (upd M_2 (b + 17 + 0) ((M_2 (b + 17 + 0)) - (nI 1))) (b + 41) (((upd M_2 (b + 17 + 0) ((M_2 (b + 17 + 0)) - (nI 1))) (b + 41)) + (nI 1))) (b + 44)), .int (nI (b + 44)), .ref (a 1)]) C0 hK hP hD (c_X7_worthOf l G   H.size (M_2 (b + 13 + 0))) (va_cwS 1 hts gX7_washes_X7_worthOf rfl rfl rfl cd2_X7_worthOf ⟨Nat.le_of_ble_eq_true rfl, Nat.le_of_ble_eq_true rfl⟩) [] rfl rfl rfl hl.1 rfl (Nat.le_of_ble_eq_true rfl) dX7_washes_76 ⟨Nat.le_of_ble_eq_true rfl, Nat.le_of_ble_eq_true rfl⟩) hP hD hS hA [] rfl rfl (fun _ => rfl) (fun r_20 _ H locs hw_20 hP hD hS => ?_)
        subst hw_20
        have hP : va_P G.1 vwCl (MC G a g (upd (upd M_2 (b + 17 + 0) ((M_2 (b + 17 + 0)) - (nI 1))) (b + 41) (((upd M_2 (b + 17 + 0) ((M_2 (b + 17 + 0)) - (nI 1))) (b + 41)) + (nI 1))) T Y) H := hP
        have hD : va_D A (MC G a g (upd (upd M_2 (b + 17 + 0) ((M_2 (b + 17 + 0)) - (nI 1))) (b + 41) (((upd M_2 (b + 17 + 0) ((M_2 (b + 17 + 0)) - (nI 1))) (b + 41)) + (nI 1))) T Y) := hD
        refine lv_iadd hx hb dX7_washes_79 ?_
        refine n_iast (f := (upd (upd M_2 (b + 17 + 0) ((M_2 (b + 17 + 0)) - (nI 1))) (b + 41) (((upd M_2 (b + 17 + 0) ((M_2 (b + 17 + 0)) - (nI 1))) (b + 41)) + (nI 1)))) (j := b + 44) (x := (((upd (upd M_2 (b + 17 + 0) ((M_2 (b + 17 + 0)) - (nI 1))) (b + 41) (((upd M_2 (b + 17 + 0) ((M_2 (b + 17 + 0)) - (nI 1))) (b + 41)) + (nI 1))) (b + 44)) + (f_X7_worthOf (M_2 (b + 13 + 0))))) hx hb hK hP hD hS 1 rfl (by omega) (by decide) dX7_washes_80 (fun H locs hP hD hS => ?_)
        have hP : va_P G.1 vwCl (MC G a g (upd (upd (upd M_2 (b + 17 + 0) ((M_2 (b + 17 + 0)) - (nI 1))) (b + 41) (((upd M_2 (b + 17 + 0) ((M_2 (b + 17 + 0)) - (nI 1))) (b + 41)) + (nI 1))) (b + 44) (((upd (upd M_2 (b + 17 + 0) ((M_2 (b + 17 + 0)) - (nI 1))) (b + 41) (((upd M_2 (b + 17 + 0) ((M_2 (b + 17 + 0)) - (nI 1))) (b + 41)) + (nI 1))) (b + 44)) + (f_X7_worthOf (M_2 (b + 13 + 0))))) T Y) H := hP
        have hD : va_D A (MC G a g (upd (upd (upd M_2 (b + 17 + 0) ((M_2 (b + 17 + 0)) - (nI 1))) (b + 41) (((upd M_2 (b + 17 + 0) ((M_2 (b + 17 + 0)) - (nI 1))) (b + 41)) + (nI 1))) (b + 44) (((upd (upd M_2 (b + 17 + 0) ((M_2 (b + 17 + 0)) - (nI 1))) (b + 41) (((upd M_2 (b + 17 + 0) ((M_2 (b + 17 + 0)) - (nI 1))) (b + 41)) + (nI 1))) (b + 44)) + (f_X7_worthOf (M_2 (b + 13 + 0))))) T Y) := hD
        refine lv_aload_n hx hb dX7_washes_81 rfl (lv_at hl 2 rfl) ?_
        refine lv_iload_n hx hb dX7_washes_82 rfl (lv_at hl 3 rfl) ?_
        refine lv_iload_n hx hb dX7_washes_83 rfl (lv_at hl 1 rfl) ?_
        refine gcall_V (run_V (As := [.int (nI b), .int (nI 0)]) (rest := []) C0 hK hP hD (c_X7_empties l G a g (upd (upd (upd M_2 (b + 17 + 0) ((M_2 (b + 17 + 0)) - (nI 1))) (b + 41) (((upd M_2 (b + 17 + 0) ((M_2 (b + 17 + 0)) - (nI 1))) (b + 41)) + (nI 1))) (b + 44) (((upd (upd M_2 (b + 17 + 0) ((M_2 (b + 17 + 0)) - (nI 1))) (b + 41) (((upd M_2 (b + 17 + 0) ((M_2 (b + 17 + 0)) - (nI 1))) (b + 41)) + (nI 1))) (b + 44)) + (f_X7_worthOf (M_2 (b + 13 + 0))))) T Y H.size b 0 (by omega) (by omega)) (cwV 2 hts gX7_washes_X7_empties rfl rfl rfl cd_X7_empties ⟨Nat.le_of_ble_eq_true rfl, Nat.le_of_ble_eq_true rfl⟩) [0, 1, 2, 3] rfl rfl 0 (ci := 7) rfl rfl rfl rfl hl.1 rfl (Nat.le_of_ble_eq_true rfl) dX7_washes_84 ⟨Nat.le_of_ble_eq_true rfl, Nat.le_of_ble_eq_true rfl⟩) hP hD hS hA [0, 1, 2, 3] rfl rfl (fun _ => rfl) (fun u_21 H locs hw_21 hP hD hS => ?_)
        obtain ⟨M_c21, rfl⟩ : ∃ z, z = u_21 := ⟨_, rfl⟩
        have hP : va_P G.1 vwCl (MC G a g M_c21 T Y) H := hP
        have hD : va_D A (MC G a g M_c21 T Y) := hD
        refine lv_iinc (v := (nI 1)) (lv' := [(2, .int (nI 1)), (3, .int (M_2 (b + 13 + 0))), (0, .ref (a 0)), (1, .int (nI b))]) hx hb dX7_washes_87 hl (k := 1) rfl (inc1 0) (by decide) rfl (fun ls hl => ?_)
        refine lv_goto (tgt := 2) hx hb dX7_washes_90 (by decide) ?_
        exact h_X7_washes_2_1 M_c21  (hE.trans (by simp only [s_X7_washes_2_0, if_neg c_2, if_pos c_19, hw_21])) _ _ _ hP hD hS (lv_sub hl [0, 2, 3] rfl)
  refine lv_iconst (v := (nI 0)) hx hb dX7_washes_0 (by decide) ?_
  refine lv_istore_n (lv' := [(2, .int (nI 0)), (0, .ref (a 0)), (1, .int (nI b))]) hx hb dX7_washes_1 rfl hl (by decide) rfl (fun ls hl => ?_)
  exact h_X7_washes_2_0 M  (by simp only [f_X7_washes]) _ _ _ hP hD hS (lv_sub hl [0, 1, 2] rfl)

def s_X7_waits_15_4  (M_15 : (Nat → Int32)) : (Nat → Int32) :=
  M_15
def s_X7_waits_15_3 (b : Nat) (M_15 : (Nat → Int32)) : (Nat → Int32) :=
  if (M_15 (b + 13 + 3)) < 0 then
    s_X7_waits_15_4 M_15
  else
    if ((upd M_15 (b + 21 + 3) ((M_15 (b + 21 + 3)) + (nI 1))) (b + 21 + 3)) = (nI 3) then
      match f_X7_empties (upd (upd M_15 (b + 21 + 3) ((M_15 (b + 21 + 3)) + (nI 1))) (b + 42) (((upd M_15 (b + 21 + 3) ((M_15 (b + 21 + 3)) + (nI 1))) (b + 42)) + (nI 1))) b 3 with
      | M_c11 =>
        s_X7_waits_15_4 M_c11
    else
      s_X7_waits_15_4 (upd M_15 (b + 21 + 3) ((M_15 (b + 21 + 3)) + (nI 1)))
def s_X7_waits_15_2 (b : Nat) (M_15 : (Nat → Int32)) : (Nat → Int32) :=
  if (M_15 (b + 13 + 2)) < 0 then
    s_X7_waits_15_3 b M_15
  else
    if ((upd M_15 (b + 21 + 2) ((M_15 (b + 21 + 2)) + (nI 1))) (b + 21 + 2)) = (nI 3) then
      match f_X7_empties (upd (upd M_15 (b + 21 + 2) ((M_15 (b + 21 + 2)) + (nI 1))) (b + 42) (((upd M_15 (b + 21 + 2) ((M_15 (b + 21 + 2)) + (nI 1))) (b + 42)) + (nI 1))) b 2 with
      | M_c13 =>
        s_X7_waits_15_3 b M_c13
    else
      s_X7_waits_15_3 b (upd M_15 (b + 21 + 2) ((M_15 (b + 21 + 2)) + (nI 1)))
def s_X7_waits_15_1 (b : Nat) (M_15 : (Nat → Int32)) : (Nat → Int32) :=
  if (M_15 (b + 13 + 1)) < 0 then
    s_X7_waits_15_2 b M_15
  else
    if ((upd M_15 (b + 21 + 1) ((M_15 (b + 21 + 1)) + (nI 1))) (b + 21 + 1)) = (nI 3) then
      match f_X7_empties (upd (upd M_15 (b + 21 + 1) ((M_15 (b + 21 + 1)) + (nI 1))) (b + 42) (((upd M_15 (b + 21 + 1) ((M_15 (b + 21 + 1)) + (nI 1))) (b + 42)) + (nI 1))) b 1 with
      | M_c15 =>
        s_X7_waits_15_2 b M_c15
    else
      s_X7_waits_15_2 b (upd M_15 (b + 21 + 1) ((M_15 (b + 21 + 1)) + (nI 1)))
def s_X7_waits_15_0 (b : Nat) (M_15 : (Nat → Int32)) : (Nat → Int32) :=
  if (M_15 (b + 13 + 0)) < 0 then
    s_X7_waits_15_1 b M_15
  else
    if ((upd M_15 (b + 21 + 0) ((M_15 (b + 21 + 0)) + (nI 1))) (b + 21 + 0)) = (nI 3) then
      match f_X7_empties (upd (upd M_15 (b + 21 + 0) ((M_15 (b + 21 + 0)) + (nI 1))) (b + 42) (((upd M_15 (b + 21 + 0) ((M_15 (b + 21 + 0)) + (nI 1))) (b + 42)) + (nI 1))) b 0 with
      | M_c17 =>
        s_X7_waits_15_1 b M_c17
    else
      s_X7_waits_15_1 b (upd M_15 (b + 21 + 0) ((M_15 (b + 21 + 0)) + (nI 1)))
def f_X7_waits (M : (Nat → Int32)) (b : Nat) : (Nat → Int32) :=
  s_X7_waits_15_0 b (upd M (b + 45) ((M (b + 45)) + (nI 1)))
set_option maxRecDepth 20000 in
theorem k_X7_waits_f7 : Cond.fieldLink RX7 7 "SteamRationsModel" "s" "[I" ∈ wsX7_waits := by decide +kernel
set_option maxRecDepth 20000 in
theorem in_X7_waits_RX7 : ∀ w ∈ u_ws RX7 TX7 11, w ∈ wsX7_waits := by decide +kernel
theorem cd_X7_waits : yX7_waits.cls = RX7 ∧ yX7_waits.cls ≠ "java/lang/invoke/MethodHandle" ∧ yX7_waits.cls ≠ "java/lang/invoke/VarHandle" ∧ (parseMethodDescriptor yX7_waits.desc).map (fun d => d.parameters.length) = some 1 := by decide +kernel
set_option maxHeartbeats 4000000 in
set_option maxRecDepth 100000 in
theorem c_X7_waits (l : Launch) (G : GG) (a : Nat → Nat) (g : (Nat → Int32)) (M : (Nat → Int32)) (T : (Nat → Int32)) (Y : (Nat → Int32)) (sz : Nat) (b : Nat) (hb : b ≤ 322) : Met l yX7_waits wsX7_waits ({ frames := 1, cells := 0, slots := 0, locals := 22 }) (Pre G [.ref (a 0), .int (nI b)] (MC G a g M T Y) sz) (PV G (va_A (MC G a g M T Y) sz) (fun u : (Nat → Int32) => f_X7_waits M b = u) (fun u : (Nat → Int32) => MC G a g u T Y)) 0 0 (va_A (MC G a g M T Y) sz) := by
  refine Met.walk (cc := cX7_waits) (maxL := 3) (ret := none) (Qc := fun A => PV G A (fun u : (Nat → Int32) => f_X7_waits M b = u) (fun u : (Nat → Int32) => MC G a g u T Y)) (by decide) rfl (Nat.le_of_ble_eq_true rfl) ?_
  intro p e s m below meth c A H C0 _ hK hsz hP hD hA hS ls hl
  have hx := C0.1
  have hb := C0.2.1
  have hown : s.vm.findClass RX7 = some m.cls := C0.2.2.2.2.1
  have hml := C0.2.2.2.1
  have hts : ∀ w ∈ wsX7_waits, w.before [.ref (a 0), .int (nI b)].toArray s = true := C0.2.2.2.2.2.1
  have hl : lv_has ls 3 [(0, .ref (a 0)), (1, .int (nI b))] := hl
  have h_X7_waits_15_4 : ∀ (M_15 : (Nat → Int32)), f_X7_waits M b = s_X7_waits_15_4 M_15 → ∀ (H : Heap) (locs : List Loc) (ls : Array Slot), va_P G.1 vwCl (MC G a g M_15 T Y) H → va_D A (MC G a g M_15 T Y) → va_S A s.heap H locs → lv_has ls 3 [(2, .int (nI 4)), (0, .ref (a 0)), (1, .int (nI b))] → W p l e ({ frames := 1, cells := 0, slots := 0, locals := 22 }) s m ([.ref (a 0), .int (nI b)] : List Value).toArray below meth c H locs 0 0 (MQ below (PV G A (fun u : (Nat → Int32) => f_X7_waits M b = u) (fun u : (Nat → Int32) => MC G a g u T Y)) ([.ref (a 0), .int (nI b)] : List Value).toArray s 0 0 A) (F0 m 15 ls []) := by
    intro M_15  hE H locs ls hP hD hS hl
    refine lv_iload_n hx hb dX7_waits_15 rfl (lv_at hl 0 rfl) ?_
    refine lv_iconst (v := (nI 4)) hx hb dX7_waits_16 (by decide) ?_
    refine lv_icmp_ge (tgt := 89) hx hb dX7_waits_17 (by decide) (fun c_9 => ?_) (fun c_9 => absurd (by decide +kernel) c_9)
    exact end_V C0 hP hD hS M_15 (hE.trans (by simp only [s_X7_waits_15_4])) rfl dX7_waits_89
  have h_X7_waits_15_3 : ∀ (M_15 : (Nat → Int32)), f_X7_waits M b = s_X7_waits_15_3 b M_15 → ∀ (H : Heap) (locs : List Loc) (ls : Array Slot), va_P G.1 vwCl (MC G a g M_15 T Y) H → va_D A (MC G a g M_15 T Y) → va_S A s.heap H locs → lv_has ls 3 [(2, .int (nI 3)), (0, .ref (a 0)), (1, .int (nI b))] → W p l e ({ frames := 1, cells := 0, slots := 0, locals := 22 }) s m ([.ref (a 0), .int (nI b)] : List Value).toArray below meth c H locs 0 0 (MQ below (PV G A (fun u : (Nat → Int32) => f_X7_waits M b = u) (fun u : (Nat → Int32) => MC G a g u T Y)) ([.ref (a 0), .int (nI b)] : List Value).toArray s 0 0 A) (F0 m 15 ls []) := by
    intro M_15  hE H locs ls hP hD hS hl
    refine lv_iload_n hx hb dX7_waits_15 rfl (lv_at hl 0 rfl) ?_
    refine lv_iconst (v := (nI 4)) hx hb dX7_waits_16 (by decide) ?_
    refine lv_icmp_ge (tgt := 89) hx hb dX7_waits_17 (by decide) (fun c_7 => absurd c_7 (by decide +kernel)) (fun c_7 => ?_)
    refine lv_aload_n hx hb dX7_waits_20 rfl (lv_at hl 1 rfl) ?_
    refine va_get (D := G.1) (ci := 7) (v := .ref (a 1)) (C := RX7) (T := TX7) (N := 11) hx hb hts in_X7_waits_RX7 hown hK.1 hP 0 rfl rfl 0 (by decide) (hts _ k_X7_waits_f7) (fun _ h9 => h9) rfl dX7_waits_21 ?_
    refine lv_iload_n hx hb dX7_waits_24 rfl (lv_at hl 2 rfl) ?_
    refine lv_bipush (v := (nI 13)) hx hb dX7_waits_25 (by decide) ?_
    refine n_iadd (i := b) (j := 13) hx hb dX7_waits_27 ?_
    refine lv_iload_n hx hb dX7_waits_28 rfl (lv_at hl 0 rfl) ?_
    refine n_iadd (i := b + 13) (j := 3) hx hb dX7_waits_29 ?_
    refine n_iald (f := M_15) (j := b + 13 + 3) hx hb hK hP 1 rfl (by omega) (by decide) dX7_waits_30 ?_
    refine lv_if_lt (tgt := 83) hx hb dX7_waits_31 (by decide) (fun c_8 => ?_) (fun c_8 => ?_)
    · refine lv_iinc (v := (nI 4)) (lv' := [(2, .int (nI 4)), (0, .ref (a 0)), (1, .int (nI b))]) hx hb dX7_waits_83 hl (k := 0) rfl (inc1 3) (by decide) rfl (fun ls hl => ?_)
      refine lv_goto (tgt := 15) hx hb dX7_waits_86 (by decide) ?_
      exact h_X7_waits_15_4 M_15  (hE.trans (by simp only [s_X7_waits_15_3, if_pos c_8])) _ _ _ hP hD hS (lv_sub hl [0, 1, 2] rfl)
    · refine lv_aload_n hx hb dX7_waits_34 rfl (lv_at hl 1 rfl) ?_
      refine va_get (D := G.1) (ci := 7) (v := .ref (a 1)) (C := RX7) (T := TX7) (N := 11) hx hb hts in_X7_waits_RX7 hown hK.1 hP 0 rfl rfl 0 (by decide) (hts _ k_X7_waits_f7) (fun _ h9 => h9) rfl dX7_waits_35 ?_
      refine lv_iload_n hx hb dX7_waits_38 rfl (lv_at hl 2 rfl) ?_
      refine lv_bipush (v := (nI 21)) hx hb dX7_waits_39 (by decide) ?_
      refine n_iadd (i := b) (j := 21) hx hb dX7_waits_41 ?_
      refine lv_iload_n hx hb dX7_waits_42 rfl (lv_at hl 0 rfl) ?_
      refine n_iadd (i := b + 21) (j := 3) hx hb dX7_waits_43 ?_
      refine lv_dup2_11 hx hb dX7_waits_44 rfl rfl ?_
      refine n_iald (f := M_15) (j := b + 21 + 3) hx hb hK hP 1 rfl (by omega) (by decide) dX7_waits_45 ?_
      refine lv_iconst (v := (nI 1)) hx hb dX7_waits_46 (by decide) ?_
      refine lv_iadd hx hb dX7_waits_47 ?_
      refine n_iast (f := M_15) (j := b + 21 + 3) (x := ((M_15 (b + 21 + 3)) + (nI 1))) hx hb hK hP hD hS 1 rfl (by omega) (by decide) dX7_waits_48 (fun H locs hP hD hS => ?_)
      have hP : va_P G.1 vwCl (MC G a g (upd M_15 (b + 21 + 3) ((M_15 (b + 21 + 3)) + (nI 1))) T Y) H := hP
      have hD : va_D A (MC G a g (upd M_15 (b + 21 + 3) ((M_15 (b + 21 + 3)) + (nI 1))) T Y) := hD
      refine lv_aload_n hx hb dX7_waits_49 rfl (lv_at hl 1 rfl) ?_
      refine va_get (D := G.1) (ci := 7) (v := .ref (a 1)) (C := RX7) (T := TX7) (N := 11) hx hb hts in_X7_waits_RX7 hown hK.1 hP 0 rfl rfl 0 (by decide) (hts _ k_X7_waits_f7) (fun _ h9 => h9) rfl dX7_waits_50 ?_
      refine lv_iload_n hx hb dX7_waits_53 rfl (lv_at hl 2 rfl) ?_
      refine lv_bipush (v := (nI 21)) hx hb dX7_waits_54 (by decide) ?_
      refine n_iadd (i := b) (j := 21) hx hb dX7_waits_56 ?_
      refine lv_iload_n hx hb dX7_waits_57 rfl (lv_at hl 0 rfl) ?_
      refine n_iadd (i := b + 21) (j := 3) hx hb dX7_waits_58 ?_
      refine n_iald (f := (upd M_15 (b + 21 + 3) ((M_15 (b + 21 + 3)) + (nI 1)))) (j := b + 21 + 3) hx hb hK hP 1 rfl (by omega) (by decide) dX7_waits_59 ?_
      refine lv_iconst (v := (nI 3)) hx hb dX7_waits_60 (by decide) ?_
      refine lv_icmp_ne (tgt := 83) hx hb dX7_waits_61 (by decide) (fun c_10 => ?_) (fun c_10 => ?_)
      · refine lv_iinc (v := (nI 4)) (lv' := [(2, .int (nI 4)), (0, .ref (a 0)), (1, .int (nI b))]) hx hb dX7_waits_83 hl (k := 0) rfl (inc1 3) (by decide) rfl (fun ls hl => ?_)
        refine lv_goto (tgt := 15) hx hb dX7_waits_86 (by decide) ?_
        exact h_X7_waits_15_4 (upd M_15 (b + 21 + 3) ((M_15 (b + 21 + 3)) + (nI 1)))  (hE.trans (by simp only [s_X7_waits_15_3, if_neg c_8, if_neg c_10])) _ _ _ hP hD hS (lv_sub hl [0, 1, 2] rfl)
      · refine lv_aload_n hx hb dX7_waits_64 rfl (lv_at hl 1 rfl) ?_
        refine va_get (D := G.1) (ci := 7) (v := .ref (a 1)) (C := RX7) (T := TX7) (N := 11) hx hb hts in_X7_waits_RX7 hown hK.1 hP 0 rfl rfl 0 (by decide) (hts _ k_X7_waits_f7) (fun _ h9 => h9) rfl dX7_waits_65 ?_
        refine lv_iload_n hx hb dX7_waits_68 rfl (lv_at hl 2 rfl) ?_
        refine lv_bipush (v := (nI 42)) hx hb dX7_waits_69 (by decide) ?_
        refine n_iadd (i := b) (j := 42) hx hb dX7_waits_71 ?_
        refine lv_dup2_11 hx hb dX7_waits_72 rfl rfl ?_
        refine n_iald (f := (upd M_15 (b + 21 + 3) ((M_15 (b + 21 + 3)) + (nI 1)))) (j := b + 42) hx hb hK hP 1 rfl (by omega) (by decide) dX7_waits_73 ?_
        refine lv_iconst (v := (nI 1)) hx hb dX7_waits_74 (by decide) ?_
        refine lv_iadd hx hb dX7_waits_75 ?_
        refine n_iast (f := (upd M_15 (b + 21 + 3) ((M_15 (b + 21 + 3)) + (nI 1)))) (j := b + 42) (x := (((upd M_15 (b + 21 + 3) ((M_15 (b + 21 + 3)) + (nI 1))) (b + 42)) + (nI 1))) hx hb hK hP hD hS 1 rfl (by omega) (by decide) dX7_waits_76 (fun H locs hP hD hS => ?_)
        have hP : va_P G.1 vwCl (MC G a g (upd (upd M_15 (b + 21 + 3) ((M_15 (b + 21 + 3)) + (nI 1))) (b + 42) (((upd M_15 (b + 21 + 3) ((M_15 (b + 21 + 3)) + (nI 1))) (b + 42)) + (nI 1))) T Y) H := hP
        have hD : va_D A (MC G a g (upd (upd M_15 (b + 21 + 3) ((M_15 (b + 21 + 3)) + (nI 1))) (b + 42) (((upd M_15 (b + 21 + 3) ((M_15 (b + 21 + 3)) + (nI 1))) (b + 42)) + (nI 1))) T Y) := hD
        refine lv_aload_n hx hb dX7_waits_77 rfl (lv_at hl 1 rfl) ?_
        refine lv_iload_n hx hb dX7_waits_78 rfl (lv_at hl 2 rfl) ?_
        refine lv_iload_n hx hb dX7_waits_79 rfl (lv_at hl 0 rfl) ?_
        refine gcall_V (run_V (As := [.int (nI b), .int (nI 3)]) (rest := []) C0 hK hP hD (c_X7_empties l G a g (upd (upd M_15 (b + 21 + 3) ((M_15 (b + 21 + 3)) + (nI 1))) (b + 42) (((upd M_15 (b + 21 + 3) ((M_15 (b + 21 + 3)) + (nI 1))) (b + 42)) + (nI 1))) T Y H.size b 3 (by omega) (by omega)) (cwV 2 hts gX7_waits_X7_empties rfl rfl rfl cd_X7_empties ⟨Nat.le_of_ble_eq_true rfl, Nat.le_of_ble_eq_true rfl⟩) [0, 1, 2, 3] rfl rfl 0 (ci := 7) rfl rfl rfl rfl hl.1 rfl (Nat.le_of_ble_eq_true rfl) dX7_waits_80 ⟨Nat.le_of_ble_eq_true rfl, Nat.le_of_ble_eq_true rfl⟩) hP hD hS hA [0, 1, 2, 3] rfl rfl (fun _ => rfl) (fun u_11 H locs hw_11 hP hD hS => ?_)
        obtain ⟨M_c11, rfl⟩ : ∃ z, z = u_11 := ⟨_, rfl⟩
        have hP : va_P G.1 vwCl (MC G a g M_c11 T Y) H := hP
        have hD : va_D A (MC G a g M_c11 T Y) := hD
        refine lv_iinc (v := (nI 4)) (lv' := [(2, .int (nI 4)), (0, .ref (a 0)), (1, .int (nI b))]) hx hb dX7_waits_83 hl (k := 0) rfl (inc1 3) (by decide) rfl (fun ls hl => ?_)
        refine lv_goto (tgt := 15) hx hb dX7_waits_86 (by decide) ?_
        exact h_X7_waits_15_4 M_c11  (hE.trans (by simp only [s_X7_waits_15_3, if_neg c_8, if_pos c_10, hw_11])) _ _ _ hP hD hS (lv_sub hl [0, 1, 2] rfl)
  have h_X7_waits_15_2 : ∀ (M_15 : (Nat → Int32)), f_X7_waits M b = s_X7_waits_15_2 b M_15 → ∀ (H : Heap) (locs : List Loc) (ls : Array Slot), va_P G.1 vwCl (MC G a g M_15 T Y) H → va_D A (MC G a g M_15 T Y) → va_S A s.heap H locs → lv_has ls 3 [(2, .int (nI 2)), (0, .ref (a 0)), (1, .int (nI b))] → W p l e ({ frames := 1, cells := 0, slots := 0, locals := 22 }) s m ([.ref (a 0), .int (nI b)] : List Value).toArray below meth c H locs 0 0 (MQ below (PV G A (fun u : (Nat → Int32) => f_X7_waits M b = u) (fun u : (Nat → Int32) => MC G a g u T Y)) ([.ref (a 0), .int (nI b)] : List Value).toArray s 0 0 A) (F0 m 15 ls []) := by
    intro M_15  hE H locs ls hP hD hS hl
    refine lv_iload_n hx hb dX7_waits_15 rfl (lv_at hl 0 rfl) ?_
    refine lv_iconst (v := (nI 4)) hx hb dX7_waits_16 (by decide) ?_
    refine lv_icmp_ge (tgt := 89) hx hb dX7_waits_17 (by decide) (fun c_5 => absurd c_5 (by decide +kernel)) (fun c_5 => ?_)
    refine lv_aload_n hx hb dX7_waits_20 rfl (lv_at hl 1 rfl) ?_
    refine va_get (D := G.1) (ci := 7) (v := .ref (a 1)) (C := RX7) (T := TX7) (N := 11) hx hb hts in_X7_waits_RX7 hown hK.1 hP 0 rfl rfl 0 (by decide) (hts _ k_X7_waits_f7) (fun _ h9 => h9) rfl dX7_waits_21 ?_
    refine lv_iload_n hx hb dX7_waits_24 rfl (lv_at hl 2 rfl) ?_
    refine lv_bipush (v := (nI 13)) hx hb dX7_waits_25 (by decide) ?_
    refine n_iadd (i := b) (j := 13) hx hb dX7_waits_27 ?_
    refine lv_iload_n hx hb dX7_waits_28 rfl (lv_at hl 0 rfl) ?_
    refine n_iadd (i := b + 13) (j := 2) hx hb dX7_waits_29 ?_
    refine n_iald (f := M_15) (j := b + 13 + 2) hx hb hK hP 1 rfl (by omega) (by decide) dX7_waits_30 ?_
    refine lv_if_lt (tgt := 83) hx hb dX7_waits_31 (by decide) (fun c_6 => ?_) (fun c_6 => ?_)
    · refine lv_iinc (v := (nI 3)) (lv' := [(2, .int (nI 3)), (0, .ref (a 0)), (1, .int (nI b))]) hx hb dX7_waits_83 hl (k := 0) rfl (inc1 2) (by decide) rfl (fun ls hl => ?_)
      refine lv_goto (tgt := 15) hx hb dX7_waits_86 (by decide) ?_
      exact h_X7_waits_15_3 M_15  (hE.trans (by simp only [s_X7_waits_15_2, if_pos c_6])) _ _ _ hP hD hS (lv_sub hl [0, 1, 2] rfl)
    · refine lv_aload_n hx hb dX7_waits_34 rfl (lv_at hl 1 rfl) ?_
      refine va_get (D := G.1) (ci := 7) (v := .ref (a 1)) (C := RX7) (T := TX7) (N := 11) hx hb hts in_X7_waits_RX7 hown hK.1 hP 0 rfl rfl 0 (by decide) (hts _ k_X7_waits_f7) (fun _ h9 => h9) rfl dX7_waits_35 ?_
      refine lv_iload_n hx hb dX7_waits_38 rfl (lv_at hl 2 rfl) ?_
      refine lv_bipush (v := (nI 21)) hx hb dX7_waits_39 (by decide) ?_
      refine n_iadd (i := b) (j := 21) hx hb dX7_waits_41 ?_
      refine lv_iload_n hx hb dX7_waits_42 rfl (lv_at hl 0 rfl) ?_
      refine n_iadd (i := b + 21) (j := 2) hx hb dX7_waits_43 ?_
      refine lv_dup2_11 hx hb dX7_waits_44 rfl rfl ?_
      refine n_iald (f := M_15) (j := b + 21 + 2) hx hb hK hP 1 rfl (by omega) (by decide) dX7_waits_45 ?_
      refine lv_iconst (v := (nI 1)) hx hb dX7_waits_46 (by decide) ?_
      refine lv_iadd hx hb dX7_waits_47 ?_
      refine n_iast (f := M_15) (j := b + 21 + 2) (x := ((M_15 (b + 21 + 2)) + (nI 1))) hx hb hK hP hD hS 1 rfl (by omega) (by decide) dX7_waits_48 (fun H locs hP hD hS => ?_)
      have hP : va_P G.1 vwCl (MC G a g (upd M_15 (b + 21 + 2) ((M_15 (b + 21 + 2)) + (nI 1))) T Y) H := hP
      have hD : va_D A (MC G a g (upd M_15 (b + 21 + 2) ((M_15 (b + 21 + 2)) + (nI 1))) T Y) := hD
      refine lv_aload_n hx hb dX7_waits_49 rfl (lv_at hl 1 rfl) ?_
      refine va_get (D := G.1) (ci := 7) (v := .ref (a 1)) (C := RX7) (T := TX7) (N := 11) hx hb hts in_X7_waits_RX7 hown hK.1 hP 0 rfl rfl 0 (by decide) (hts _ k_X7_waits_f7) (fun _ h9 => h9) rfl dX7_waits_50 ?_
      refine lv_iload_n hx hb dX7_waits_53 rfl (lv_at hl 2 rfl) ?_
      refine lv_bipush (v := (nI 21)) hx hb dX7_waits_54 (by decide) ?_
      refine n_iadd (i := b) (j := 21) hx hb dX7_waits_56 ?_
      refine lv_iload_n hx hb dX7_waits_57 rfl (lv_at hl 0 rfl) ?_
      refine n_iadd (i := b + 21) (j := 2) hx hb dX7_waits_58 ?_
      refine n_iald (f := (upd M_15 (b + 21 + 2) ((M_15 (b + 21 + 2)) + (nI 1)))) (j := b + 21 + 2) hx hb hK hP 1 rfl (by omega) (by decide) dX7_waits_59 ?_
      refine lv_iconst (v := (nI 3)) hx hb dX7_waits_60 (by decide) ?_
      refine lv_icmp_ne (tgt := 83) hx hb dX7_waits_61 (by decide) (fun c_12 => ?_) (fun c_12 => ?_)
      · refine lv_iinc (v := (nI 3)) (lv' := [(2, .int (nI 3)), (0, .ref (a 0)), (1, .int (nI b))]) hx hb dX7_waits_83 hl (k := 0) rfl (inc1 2) (by decide) rfl (fun ls hl => ?_)
        refine lv_goto (tgt := 15) hx hb dX7_waits_86 (by decide) ?_
        exact h_X7_waits_15_3 (upd M_15 (b + 21 + 2) ((M_15 (b + 21 + 2)) + (nI 1)))  (hE.trans (by simp only [s_X7_waits_15_2, if_neg c_6, if_neg c_12])) _ _ _ hP hD hS (lv_sub hl [0, 1, 2] rfl)
      · refine lv_aload_n hx hb dX7_waits_64 rfl (lv_at hl 1 rfl) ?_
        refine va_get (D := G.1) (ci := 7) (v := .ref (a 1)) (C := RX7) (T := TX7) (N := 11) hx hb hts in_X7_waits_RX7 hown hK.1 hP 0 rfl rfl 0 (by decide) (hts _ k_X7_waits_f7) (fun _ h9 => h9) rfl dX7_waits_65 ?_
        refine lv_iload_n hx hb dX7_waits_68 rfl (lv_at hl 2 rfl) ?_
        refine lv_bipush (v := (nI 42)) hx hb dX7_waits_69 (by decide) ?_
        refine n_iadd (i := b) (j := 42) hx hb dX7_waits_71 ?_
        refine lv_dup2_11 hx hb dX7_waits_72 rfl rfl ?_
        refine n_iald (f := (upd M_15 (b + 21 + 2) ((M_15 (b + 21 + 2)) + (nI 1)))) (j := b + 42) hx hb hK hP 1 rfl (by omega) (by decide) dX7_waits_73 ?_
        refine lv_iconst (v := (nI 1)) hx hb dX7_waits_74 (by decide) ?_
        refine lv_iadd hx hb dX7_waits_75 ?_
        refine n_iast (f := (upd M_15 (b + 21 + 2) ((M_15 (b + 21 + 2)) + (nI 1)))) (j := b + 42) (x := (((upd M_15 (b + 21 + 2) ((M_15 (b + 21 + 2)) + (nI 1))) (b + 42)) + (nI 1))) hx hb hK hP hD hS 1 rfl (by omega) (by decide) dX7_waits_76 (fun H locs hP hD hS => ?_)
        have hP : va_P G.1 vwCl (MC G a g (upd (upd M_15 (b + 21 + 2) ((M_15 (b + 21 + 2)) + (nI 1))) (b + 42) (((upd M_15 (b + 21 + 2) ((M_15 (b + 21 + 2)) + (nI 1))) (b + 42)) + (nI 1))) T Y) H := hP
        have hD : va_D A (MC G a g (upd (upd M_15 (b + 21 + 2) ((M_15 (b + 21 + 2)) + (nI 1))) (b + 42) (((upd M_15 (b + 21 + 2) ((M_15 (b + 21 + 2)) + (nI 1))) (b + 42)) + (nI 1))) T Y) := hD
        refine lv_aload_n hx hb dX7_waits_77 rfl (lv_at hl 1 rfl) ?_
        refine lv_iload_n hx hb dX7_waits_78 rfl (lv_at hl 2 rfl) ?_
        refine lv_iload_n hx hb dX7_waits_79 rfl (lv_at hl 0 rfl) ?_
        refine gcall_V (run_V (As := [.int (nI b), .int (nI 2)]) (rest := []) C0 hK hP hD (c_X7_empties l G a g (upd (upd M_15 (b + 21 + 2) ((M_15 (b + 21 + 2)) + (nI 1))) (b + 42) (((upd M_15 (b + 21 + 2) ((M_15 (b + 21 + 2)) + (nI 1))) (b + 42)) + (nI 1))) T Y H.size b 2 (by omega) (by omega)) (cwV 2 hts gX7_waits_X7_empties rfl rfl rfl cd_X7_empties ⟨Nat.le_of_ble_eq_true rfl, Nat.le_of_ble_eq_true rfl⟩) [0, 1, 2, 3] rfl rfl 0 (ci := 7) rfl rfl rfl rfl hl.1 rfl (Nat.le_of_ble_eq_true rfl) dX7_waits_80 ⟨Nat.le_of_ble_eq_true rfl, Nat.le_of_ble_eq_true rfl⟩) hP hD hS hA [0, 1, 2, 3] rfl rfl (fun _ => rfl) (fun u_13 H locs hw_13 hP hD hS => ?_)
        obtain ⟨M_c13, rfl⟩ : ∃ z, z = u_13 := ⟨_, rfl⟩
        have hP : va_P G.1 vwCl (MC G a g M_c13 T Y) H := hP
        have hD : va_D A (MC G a g M_c13 T Y) := hD
        refine lv_iinc (v := (nI 3)) (lv' := [(2, .int (nI 3)), (0, .ref (a 0)), (1, .int (nI b))]) hx hb dX7_waits_83 hl (k := 0) rfl (inc1 2) (by decide) rfl (fun ls hl => ?_)
        refine lv_goto (tgt := 15) hx hb dX7_waits_86 (by decide) ?_
        exact h_X7_waits_15_3 M_c13  (hE.trans (by simp only [s_X7_waits_15_2, if_neg c_6, if_pos c_12, hw_13])) _ _ _ hP hD hS (lv_sub hl [0, 1, 2] rfl)
  have h_X7_waits_15_1 : ∀ (M_15 : (Nat → Int32)), f_X7_waits M b = s_X7_waits_15_1 b M_15 → ∀ (H : Heap) (locs : List Loc) (ls : Array Slot), va_P G.1 vwCl (MC G a g M_15 T Y) H → va_D A (MC G a g M_15 T Y) → va_S A s.heap H locs → lv_has ls 3 [(2, .int (nI 1)), (0, .ref (a 0)), (1, .int (nI b))] → W p l e ({ frames := 1, cells := 0, slots := 0, locals := 22 }) s m ([.ref (a 0), .int (nI b)] : List Value).toArray below meth c H locs 0 0 (MQ below (PV G A (fun u : (Nat → Int32) => f_X7_waits M b = u) (fun u : (Nat → Int32) => MC G a g u T Y)) ([.ref (a 0), .int (nI b)] : List Value).toArray s 0 0 A) (F0 m 15 ls []) := by
    intro M_15  hE H locs ls hP hD hS hl
    refine lv_iload_n hx hb dX7_waits_15 rfl (lv_at hl 0 rfl) ?_
    refine lv_iconst (v := (nI 4)) hx hb dX7_waits_16 (by decide) ?_
    refine lv_icmp_ge (tgt := 89) hx hb dX7_waits_17 (by decide) (fun c_3 => absurd c_3 (by decide +kernel)) (fun c_3 => ?_)
    refine lv_aload_n hx hb dX7_waits_20 rfl (lv_at hl 1 rfl) ?_
    refine va_get (D := G.1) (ci := 7) (v := .ref (a 1)) (C := RX7) (T := TX7) (N := 11) hx hb hts in_X7_waits_RX7 hown hK.1 hP 0 rfl rfl 0 (by decide) (hts _ k_X7_waits_f7) (fun _ h9 => h9) rfl dX7_waits_21 ?_
    refine lv_iload_n hx hb dX7_waits_24 rfl (lv_at hl 2 rfl) ?_
    refine lv_bipush (v := (nI 13)) hx hb dX7_waits_25 (by decide) ?_
    refine n_iadd (i := b) (j := 13) hx hb dX7_waits_27 ?_
    refine lv_iload_n hx hb dX7_waits_28 rfl (lv_at hl 0 rfl) ?_
    refine n_iadd (i := b + 13) (j := 1) hx hb dX7_waits_29 ?_
    refine n_iald (f := M_15) (j := b + 13 + 1) hx hb hK hP 1 rfl (by omega) (by decide) dX7_waits_30 ?_
    refine lv_if_lt (tgt := 83) hx hb dX7_waits_31 (by decide) (fun c_4 => ?_) (fun c_4 => ?_)
    · refine lv_iinc (v := (nI 2)) (lv' := [(2, .int (nI 2)), (0, .ref (a 0)), (1, .int (nI b))]) hx hb dX7_waits_83 hl (k := 0) rfl (inc1 1) (by decide) rfl (fun ls hl => ?_)
      refine lv_goto (tgt := 15) hx hb dX7_waits_86 (by decide) ?_
      exact h_X7_waits_15_2 M_15  (hE.trans (by simp only [s_X7_waits_15_1, if_pos c_4])) _ _ _ hP hD hS (lv_sub hl [0, 1, 2] rfl)
    · refine lv_aload_n hx hb dX7_waits_34 rfl (lv_at hl 1 rfl) ?_
      refine va_get (D := G.1) (ci := 7) (v := .ref (a 1)) (C := RX7) (T := TX7) (N := 11) hx hb hts in_X7_waits_RX7 hown hK.1 hP 0 rfl rfl 0 (by decide) (hts _ k_X7_waits_f7) (fun _ h9 => h9) rfl dX7_waits_35 ?_
      refine lv_iload_n hx hb dX7_waits_38 rfl (lv_at hl 2 rfl) ?_
      refine lv_bipush (v := (nI 21)) hx hb dX7_waits_39 (by decide) ?_
      refine n_iadd (i := b) (j := 21) hx hb dX7_waits_41 ?_
      refine lv_iload_n hx hb dX7_waits_42 rfl (lv_at hl 0 rfl) ?_
      refine n_iadd (i := b + 21) (j := 1) hx hb dX7_waits_43 ?_
      refine lv_dup2_11 hx hb dX7_waits_44 rfl rfl ?_
      refine n_iald (f := M_15) (j := b + 21 + 1) hx hb hK hP 1 rfl (by omega) (by decide) dX7_waits_45 ?_
      refine lv_iconst (v := (nI 1)) hx hb dX7_waits_46 (by decide) ?_
      refine lv_iadd hx hb dX7_waits_47 ?_
      refine n_iast (f := M_15) (j := b + 21 + 1) (x := ((M_15 (b + 21 + 1)) + (nI 1))) hx hb hK hP hD hS 1 rfl (by omega) (by decide) dX7_waits_48 (fun H locs hP hD hS => ?_)
      have hP : va_P G.1 vwCl (MC G a g (upd M_15 (b + 21 + 1) ((M_15 (b + 21 + 1)) + (nI 1))) T Y) H := hP
      have hD : va_D A (MC G a g (upd M_15 (b + 21 + 1) ((M_15 (b + 21 + 1)) + (nI 1))) T Y) := hD
      refine lv_aload_n hx hb dX7_waits_49 rfl (lv_at hl 1 rfl) ?_
      refine va_get (D := G.1) (ci := 7) (v := .ref (a 1)) (C := RX7) (T := TX7) (N := 11) hx hb hts in_X7_waits_RX7 hown hK.1 hP 0 rfl rfl 0 (by decide) (hts _ k_X7_waits_f7) (fun _ h9 => h9) rfl dX7_waits_50 ?_
      refine lv_iload_n hx hb dX7_waits_53 rfl (lv_at hl 2 rfl) ?_
      refine lv_bipush (v := (nI 21)) hx hb dX7_waits_54 (by decide) ?_
      refine n_iadd (i := b) (j := 21) hx hb dX7_waits_56 ?_
      refine lv_iload_n hx hb dX7_waits_57 rfl (lv_at hl 0 rfl) ?_
      refine n_iadd (i := b + 21) (j := 1) hx hb dX7_waits_58 ?_
      refine n_iald (f := (upd M_15 (b + 21 + 1) ((M_15 (b + 21 + 1)) + (nI 1)))) (j := b + 21 + 1) hx hb hK hP 1 rfl (by omega) (by decide) dX7_waits_59 ?_
      refine lv_iconst (v := (nI 3)) hx hb dX7_waits_60 (by decide) ?_
      refine lv_icmp_ne (tgt := 83) hx hb dX7_waits_61 (by decide) (fun c_14 => ?_) (fun c_14 => ?_)
      · refine lv_iinc (v := (nI 2)) (lv' := [(2, .int (nI 2)), (0, .ref (a 0)), (1, .int (nI b))]) hx hb dX7_waits_83 hl (k := 0) rfl (inc1 1) (by decide) rfl (fun ls hl => ?_)
        refine lv_goto (tgt := 15) hx hb dX7_waits_86 (by decide) ?_
        exact h_X7_waits_15_2 (upd M_15 (b + 21 + 1) ((M_15 (b + 21 + 1)) + (nI 1)))  (hE.trans (by simp only [s_X7_waits_15_1, if_neg c_4, if_neg c_14])) _ _ _ hP hD hS (lv_sub hl [0, 1, 2] rfl)
      · refine lv_aload_n hx hb dX7_waits_64 rfl (lv_at hl 1 rfl) ?_
        refine va_get (D := G.1) (ci := 7) (v := .ref (a 1)) (C := RX7) (T := TX7) (N := 11) hx hb hts in_X7_waits_RX7 hown hK.1 hP 0 rfl rfl 0 (by decide) (hts _ k_X7_waits_f7) (fun _ h9 => h9) rfl dX7_waits_65 ?_
        refine lv_iload_n hx hb dX7_waits_68 rfl (lv_at hl 2 rfl) ?_
        refine lv_bipush (v := (nI 42)) hx hb dX7_waits_69 (by decide) ?_
        refine n_iadd (i := b) (j := 42) hx hb dX7_waits_71 ?_
        refine lv_dup2_11 hx hb dX7_waits_72 rfl rfl ?_
        refine n_iald (f := (upd M_15 (b + 21 + 1) ((M_15 (b + 21 + 1)) + (nI 1)))) (j := b + 42) hx hb hK hP 1 rfl (by omega) (by decide) dX7_waits_73 ?_
        refine lv_iconst (v := (nI 1)) hx hb dX7_waits_74 (by decide) ?_
        refine lv_iadd hx hb dX7_waits_75 ?_
        refine n_iast (f := (upd M_15 (b + 21 + 1) ((M_15 (b + 21 + 1)) + (nI 1)))) (j := b + 42) (x := (((upd M_15 (b + 21 + 1) ((M_15 (b + 21 + 1)) + (nI 1))) (b + 42)) + (nI 1))) hx hb hK hP hD hS 1 rfl (by omega) (by decide) dX7_waits_76 (fun H locs hP hD hS => ?_)
        have hP : va_P G.1 vwCl (MC G a g (upd (upd M_15 (b + 21 + 1) ((M_15 (b + 21 + 1)) + (nI 1))) (b + 42) (((upd M_15 (b + 21 + 1) ((M_15 (b + 21 + 1)) + (nI 1))) (b + 42)) + (nI 1))) T Y) H := hP
        have hD : va_D A (MC G a g (upd (upd M_15 (b + 21 + 1) ((M_15 (b + 21 + 1)) + (nI 1))) (b + 42) (((upd M_15 (b + 21 + 1) ((M_15 (b + 21 + 1)) + (nI 1))) (b + 42)) + (nI 1))) T Y) := hD
        refine lv_aload_n hx hb dX7_waits_77 rfl (lv_at hl 1 rfl) ?_
        refine lv_iload_n hx hb dX7_waits_78 rfl (lv_at hl 2 rfl) ?_
        refine lv_iload_n hx hb dX7_waits_79 rfl (lv_at hl 0 rfl) ?_
        refine gcall_V (run_V (As := [.int (nI b), .int (nI 1)]) (rest := []) C0 hK hP hD (c_X7_empties l G a g (upd (upd M_15 (b + 21 + 1) ((M_15 (b + 21 + 1)) + (nI 1))) (b + 42) (((upd M_15 (b + 21 + 1) ((M_15 (b + 21 + 1)) + (nI 1))) (b + 42)) + (nI 1))) T Y H.size b 1 (by omega) (by omega)) (cwV 2 hts gX7_waits_X7_empties rfl rfl rfl cd_X7_empties ⟨Nat.le_of_ble_eq_true rfl, Nat.le_of_ble_eq_true rfl⟩) [0, 1, 2, 3] rfl rfl 0 (ci := 7) rfl rfl rfl rfl hl.1 rfl (Nat.le_of_ble_eq_true rfl) dX7_waits_80 ⟨Nat.le_of_ble_eq_true rfl, Nat.le_of_ble_eq_true rfl⟩) hP hD hS hA [0, 1, 2, 3] rfl rfl (fun _ => rfl) (fun u_15 H locs hw_15 hP hD hS => ?_)
        obtain ⟨M_c15, rfl⟩ : ∃ z, z = u_15 := ⟨_, rfl⟩
        have hP : va_P G.1 vwCl (MC G a g M_c15 T Y) H := hP
        have hD : va_D A (MC G a g M_c15 T Y) := hD
        refine lv_iinc (v := (nI 2)) (lv' := [(2, .int (nI 2)), (0, .ref (a 0)), (1, .int (nI b))]) hx hb dX7_waits_83 hl (k := 0) rfl (inc1 1) (by decide) rfl (fun ls hl => ?_)
        refine lv_goto (tgt := 15) hx hb dX7_waits_86 (by decide) ?_
        exact h_X7_waits_15_2 M_c15  (hE.trans (by simp only [s_X7_waits_15_1, if_neg c_4, if_pos c_14, hw_15])) _ _ _ hP hD hS (lv_sub hl [0, 1, 2] rfl)
  have h_X7_waits_15_0 : ∀ (M_15 : (Nat → Int32)), f_X7_waits M b = s_X7_waits_15_0 b M_15 → ∀ (H : Heap) (locs : List Loc) (ls : Array Slot), va_P G.1 vwCl (MC G a g M_15 T Y) H → va_D A (MC G a g M_15 T Y) → va_S A s.heap H locs → lv_has ls 3 [(2, .int (nI 0)), (0, .ref (a 0)), (1, .int (nI b))] → W p l e ({ frames := 1, cells := 0, slots := 0, locals := 22 }) s m ([.ref (a 0), .int (nI b)] : List Value).toArray below meth c H locs 0 0 (MQ below (PV G A (fun u : (Nat → Int32) => f_X7_waits M b = u) (fun u : (Nat → Int32) => MC G a g u T Y)) ([.ref (a 0), .int (nI b)] : List Value).toArray s 0 0 A) (F0 m 15 ls []) := by
    intro M_15  hE H locs ls hP hD hS hl
    refine lv_iload_n hx hb dX7_waits_15 rfl (lv_at hl 0 rfl) ?_
    refine lv_iconst (v := (nI 4)) hx hb dX7_waits_16 (by decide) ?_
    refine lv_icmp_ge (tgt := 89) hx hb dX7_waits_17 (by decide) (fun c_1 => absurd c_1 (by decide +kernel)) (fun c_1 => ?_)
    refine lv_aload_n hx hb dX7_waits_20 rfl (lv_at hl 1 rfl) ?_
    refine va_get (D := G.1) (ci := 7) (v := .ref (a 1)) (C := RX7) (T := TX7) (N := 11) hx hb hts in_X7_waits_RX7 hown hK.1 hP 0 rfl rfl 0 (by decide) (hts _ k_X7_waits_f7) (fun _ h9 => h9) rfl dX7_waits_21 ?_
    refine lv_iload_n hx hb dX7_waits_24 rfl (lv_at hl 2 rfl) ?_
    refine lv_bipush (v := (nI 13)) hx hb dX7_waits_25 (by decide) ?_
    refine n_iadd (i := b) (j := 13) hx hb dX7_waits_27 ?_
    refine lv_iload_n hx hb dX7_waits_28 rfl (lv_at hl 0 rfl) ?_
    refine n_iadd (i := b + 13) (j := 0) hx hb dX7_waits_29 ?_
    refine n_iald (f := M_15) (j := b + 13 + 0) hx hb hK hP 1 rfl (by omega) (by decide) dX7_waits_30 ?_
    refine lv_if_lt (tgt := 83) hx hb dX7_waits_31 (by decide) (fun c_2 => ?_) (fun c_2 => ?_)
    · refine lv_iinc (v := (nI 1)) (lv' := [(2, .int (nI 1)), (0, .ref (a 0)), (1, .int (nI b))]) hx hb dX7_waits_83 hl (k := 0) rfl (inc1 0) (by decide) rfl (fun ls hl => ?_)
      refine lv_goto (tgt := 15) hx hb dX7_waits_86 (by decide) ?_
      exact h_X7_waits_15_1 M_15  (hE.trans (by simp only [s_X7_waits_15_0, if_pos c_2])) _ _ _ hP hD hS (lv_sub hl [0, 1, 2] rfl)
    · refine lv_aload_n hx hb dX7_waits_34 rfl (lv_at hl 1 rfl) ?_
      refine va_get (D := G.1) (ci := 7) (v := .ref (a 1)) (C := RX7) (T := TX7) (N := 11) hx hb hts in_X7_waits_RX7 hown hK.1 hP 0 rfl rfl 0 (by decide) (hts _ k_X7_waits_f7) (fun _ h9 => h9) rfl dX7_waits_35 ?_
      refine lv_iload_n hx hb dX7_waits_38 rfl (lv_at hl 2 rfl) ?_
      refine lv_bipush (v := (nI 21)) hx hb dX7_waits_39 (by decide) ?_
      refine n_iadd (i := b) (j := 21) hx hb dX7_waits_41 ?_
      refine lv_iload_n hx hb dX7_waits_42 rfl (lv_at hl 0 rfl) ?_
      refine n_iadd (i := b + 21) (j := 0) hx hb dX7_waits_43 ?_
      refine lv_dup2_11 hx hb dX7_waits_44 rfl rfl ?_
      refine n_iald (f := M_15) (j := b + 21 + 0) hx hb hK hP 1 rfl (by omega) (by decide) dX7_waits_45 ?_
      refine lv_iconst (v := (nI 1)) hx hb dX7_waits_46 (by decide) ?_
      refine lv_iadd hx hb dX7_waits_47 ?_
      refine n_iast (f := M_15) (j := b + 21 + 0) (x := ((M_15 (b + 21 + 0)) + (nI 1))) hx hb hK hP hD hS 1 rfl (by omega) (by decide) dX7_waits_48 (fun H locs hP hD hS => ?_)
      have hP : va_P G.1 vwCl (MC G a g (upd M_15 (b + 21 + 0) ((M_15 (b + 21 + 0)) + (nI 1))) T Y) H := hP
      have hD : va_D A (MC G a g (upd M_15 (b + 21 + 0) ((M_15 (b + 21 + 0)) + (nI 1))) T Y) := hD
      refine lv_aload_n hx hb dX7_waits_49 rfl (lv_at hl 1 rfl) ?_
      refine va_get (D := G.1) (ci := 7) (v := .ref (a 1)) (C := RX7) (T := TX7) (N := 11) hx hb hts in_X7_waits_RX7 hown hK.1 hP 0 rfl rfl 0 (by decide) (hts _ k_X7_waits_f7) (fun _ h9 => h9) rfl dX7_waits_50 ?_
      refine lv_iload_n hx hb dX7_waits_53 rfl (lv_at hl 2 rfl) ?_
      refine lv_bipush (v := (nI 21)) hx hb dX7_waits_54 (by decide) ?_
      refine n_iadd (i := b) (j := 21) hx hb dX7_waits_56 ?_
      refine lv_iload_n hx hb dX7_waits_57 rfl (lv_at hl 0 rfl) ?_
      refine n_iadd (i := b + 21) (j := 0) hx hb dX7_waits_58 ?_
      refine n_iald (f := (upd M_15 (b + 21 + 0) ((M_15 (b + 21 + 0)) + (nI 1)))) (j := b + 21 + 0) hx hb hK hP 1 rfl (by omega) (by decide) dX7_waits_59 ?_
      refine lv_iconst (v := (nI 3)) hx hb dX7_waits_60 (by decide) ?_
      refine lv_icmp_ne (tgt := 83) hx hb dX7_waits_61 (by decide) (fun c_16 => ?_) (fun c_16 => ?_)
      · refine lv_iinc (v := (nI 1)) (lv' := [(2, .int (nI 1)), (0, .ref (a 0)), (1, .int (nI b))]) hx hb dX7_waits_83 hl (k := 0) rfl (inc1 0) (by decide) rfl (fun ls hl => ?_)
        refine lv_goto (tgt := 15) hx hb dX7_waits_86 (by decide) ?_
        exact h_X7_waits_15_1 (upd M_15 (b + 21 + 0) ((M_15 (b + 21 + 0)) + (nI 1)))  (hE.trans (by simp only [s_X7_waits_15_0, if_neg c_2, if_neg c_16])) _ _ _ hP hD hS (lv_sub hl [0, 1, 2] rfl)
      · refine lv_aload_n hx hb dX7_waits_64 rfl (lv_at hl 1 rfl) ?_
        refine va_get (D := G.1) (ci := 7) (v := .ref (a 1)) (C := RX7) (T := TX7) (N := 11) hx hb hts in_X7_waits_RX7 hown hK.1 hP 0 rfl rfl 0 (by decide) (hts _ k_X7_waits_f7) (fun _ h9 => h9) rfl dX7_waits_65 ?_
        refine lv_iload_n hx hb dX7_waits_68 rfl (lv_at hl 2 rfl) ?_
        refine lv_bipush (v := (nI 42)) hx hb dX7_waits_69 (by decide) ?_
        refine n_iadd (i := b) (j := 42) hx hb dX7_waits_71 ?_
        refine lv_dup2_11 hx hb dX7_waits_72 rfl rfl ?_
        refine n_iald (f := (upd M_15 (b + 21 + 0) ((M_15 (b + 21 + 0)) + (nI 1)))) (j := b + 42) hx hb hK hP 1 rfl (by omega) (by decide) dX7_waits_73 ?_
        refine lv_iconst (v := (nI 1)) hx hb dX7_waits_74 (by decide) ?_
        refine lv_iadd hx hb dX7_waits_75 ?_
        refine n_iast (f := (upd M_15 (b + 21 + 0) ((M_15 (b + 21 + 0)) + (nI 1)))) (j := b + 42) (x := (((upd M_15 (b + 21 + 0) ((M_15 (b + 21 + 0)) + (nI 1))) (b + 42)) + (nI 1))) hx hb hK hP hD hS 1 rfl (by omega) (by decide) dX7_waits_76 (fun H locs hP hD hS => ?_)
        have hP : va_P G.1 vwCl (MC G a g (upd (upd M_15 (b + 21 + 0) ((M_15 (b + 21 + 0)) + (nI 1))) (b + 42) (((upd M_15 (b + 21 + 0) ((M_15 (b + 21 + 0)) + (nI 1))) (b + 42)) + (nI 1))) T Y) H := hP
        have hD : va_D A (MC G a g (upd (upd M_15 (b + 21 + 0) ((M_15 (b + 21 + 0)) + (nI 1))) (b + 42) (((upd M_15 (b + 21 + 0) ((M_15 (b + 21 + 0)) + (nI 1))) (b + 42)) + (nI 1))) T Y) := hD
        refine lv_aload_n hx hb dX7_waits_77 rfl (lv_at hl 1 rfl) ?_
        refine lv_iload_n hx hb dX7_waits_78 rfl (lv_at hl 2 rfl) ?_
        refine lv_iload_n hx hb dX7_waits_79 rfl (lv_at hl 0 rfl) ?_
        refine gcall_V (run_V (As := [.int (nI b), .int (nI 0)]) (rest := []) C0 hK hP hD (c_X7_empties l G a g (upd (upd M_15 (b + 21 + 0) ((M_15 (b + 21 + 0)) + (nI 1))) (b + 42) (((upd M_15 (b + 21 + 0) ((M_15 (b + 21 + 0)) + (nI 1))) (b + 42)) + (nI 1))) T Y H.size b 0 (by omega) (by omega)) (cwV 2 hts gX7_waits_X7_empties rfl rfl rfl cd_X7_empties ⟨Nat.le_of_ble_eq_true rfl, Nat.le_of_ble_eq_true rfl⟩) [0, 1, 2, 3] rfl rfl 0 (ci := 7) rfl rfl rfl rfl hl.1 rfl (Nat.le_of_ble_eq_true rfl) dX7_waits_80 ⟨Nat.le_of_ble_eq_true rfl, Nat.le_of_ble_eq_true rfl⟩) hP hD hS hA [0, 1, 2, 3] rfl rfl (fun _ => rfl) (fun u_17 H locs hw_17 hP hD hS => ?_)
        obtain ⟨M_c17, rfl⟩ : ∃ z, z = u_17 := ⟨_, rfl⟩
        have hP : va_P G.1 vwCl (MC G a g M_c17 T Y) H := hP
        have hD : va_D A (MC G a g M_c17 T Y) := hD
        refine lv_iinc (v := (nI 1)) (lv' := [(2, .int (nI 1)), (0, .ref (a 0)), (1, .int (nI b))]) hx hb dX7_waits_83 hl (k := 0) rfl (inc1 0) (by decide) rfl (fun ls hl => ?_)
        refine lv_goto (tgt := 15) hx hb dX7_waits_86 (by decide) ?_
        exact h_X7_waits_15_1 M_c17  (hE.trans (by simp only [s_X7_waits_15_0, if_neg c_2, if_pos c_16, hw_17])) _ _ _ hP hD hS (lv_sub hl [0, 1, 2] rfl)
  refine lv_aload_n hx hb dX7_waits_0 rfl (lv_at hl 0 rfl) ?_
  refine va_get (D := G.1) (ci := 7) (v := .ref (a 1)) (C := RX7) (T := TX7) (N := 11) hx hb hts in_X7_waits_RX7 hown hK.1 hP 0 rfl rfl 0 (by decide) (hts _ k_X7_waits_f7) (fun _ h9 => h9) rfl dX7_waits_1 ?_
  refine lv_iload_n hx hb dX7_waits_4 rfl (lv_at hl 1 rfl) ?_
  refine lv_bipush (v := (nI 45)) hx hb dX7_waits_5 (by decide) ?_
  refine n_iadd (i := b) (j := 45) hx hb dX7_waits_7 ?_
  refine lv_dup2_11 hx hb dX7_waits_8 rfl rfl ?_
  refine n_iald (f := M) (j := b + 45) hx hb hK hP 1 rfl (by omega) (by decide) dX7_waits_9 ?_
  refine lv_iconst (v := (nI 1)) hx hb dX7_waits_10 (by decide) ?_
  refine lv_iadd hx hb dX7_waits_11 ?_
  refine n_iast (f := M) (j := b + 45) (x := ((M (b + 45)) + (nI 1))) hx hb hK hP hD hS 1 rfl (by omega) (by decide) dX7_waits_12 (fun H locs hP hD hS => ?_)
  have hP : va_P G.1 vwCl (MC G a g (upd M (b + 45) ((M (b + 45)) + (nI 1))) T Y) H := hP
  have hD : va_D A (MC G a g (upd M (b + 45) ((M (b + 45)) + (nI 1))) T Y) := hD
  refine lv_iconst (v := (nI 0)) hx hb dX7_waits_13 (by decide) ?_
  refine lv_istore_n (lv' := [(2, .int (nI 0)), (0, .ref (a 0)), (1, .int (nI b))]) hx hb dX7_waits_14 rfl hl (by decide) rfl (fun ls hl => ?_)
  exact h_X7_waits_15_0 (upd M (b + 45) ((M (b + 45)) + (nI 1)))  (by simp only [f_X7_waits]) _ _ _ hP hD hS (lv_sub hl [0, 1, 2] rfl)

def s_X7_lowestEmpty_4_m1  (x : Int32) : Int32 :=
  x
def s_X7_lowestEmpty_4_0 (M : (Nat → Int32)) (b : Nat) (x : Int32) : Int32 :=
  if 0 ≤ (M (b + 13 + 0)) then
    s_X7_lowestEmpty_4_m1 x
  else
    s_X7_lowestEmpty_4_m1 (nI 0)
def s_X7_lowestEmpty_4_1 (M : (Nat → Int32)) (b : Nat) (x : Int32) : Int32 :=
  if 0 ≤ (M (b + 13 + 1)) then
    s_X7_lowestEmpty_4_0 M b x
  else
    s_X7_lowestEmpty_4_0 M b (nI 1)
def s_X7_lowestEmpty_4_2 (M : (Nat → Int32)) (b : Nat) (x : Int32) : Int32 :=
  if 0 ≤ (M (b + 13 + 2)) then
    s_X7_lowestEmpty_4_1 M b x
  else
    s_X7_lowestEmpty_4_1 M b (nI 2)
def s_X7_lowestEmpty_4_3 (M : (Nat → Int32)) (b : Nat) (x : Int32) : Int32 :=
  if 0 ≤ (M (b + 13 + 3)) then
    s_X7_lowestEmpty_4_2 M b x
  else
    s_X7_lowestEmpty_4_2 M b (nI 3)
def f_X7_lowestEmpty (M : (Nat → Int32)) (b : Nat) : Int32 :=
  s_X7_lowestEmpty_4_3 M b (-1)
set_option maxRecDepth 20000 in
theorem k_X7_lowestEmpty_f7 : Cond.fieldLink RX7 7 "SteamRationsModel" "s" "[I" ∈ wsX7_lowestEmpty := by decide +kernel
set_option maxRecDepth 20000 in
theorem in_X7_lowestEmpty_RX7 : ∀ w ∈ u_ws RX7 TX7 11, w ∈ wsX7_lowestEmpty := by decide +kernel
theorem cd_X7_lowestEmpty : yX7_lowestEmpty.cls = RX7 ∧ yX7_lowestEmpty.cls ≠ "java/lang/invoke/MethodHandle" ∧ yX7_lowestEmpty.cls ≠ "java/lang/invoke/VarHandle" ∧ (parseMethodDescriptor yX7_lowestEmpty.desc).map (fun d => d.parameters.length) = some 1 := by decide +kernel
set_option maxHeartbeats 4000000 in
set_option maxRecDepth 100000 in
theorem c_X7_lowestEmpty (l : Launch) (G : GG) (a : Nat → Nat) (g : (Nat → Int32)) (M : (Nat → Int32)) (T : (Nat → Int32)) (Y : (Nat → Int32)) (sz : Nat) (b : Nat) (hb : b ≤ 322) : Met l yX7_lowestEmpty wsX7_lowestEmpty ({ frames := 0, cells := 0, slots := 0, locals := 0 }) (Pre G [.ref (a 0), .int (nI b)] (MC G a g M T Y) sz) (PI G (va_A (MC G a g M T Y) sz) (fun r (_ : Unit) => f_X7_lowestEmpty M b = r) (fun _ : Unit => MC G a g M T Y)) 0 0 (va_A (MC G a g M T Y) sz) := by
  refine Met.walk (cc := cX7_lowestEmpty) (maxL := 4) (ret := (some .int)) (Qc := fun A => PI G A (fun r (_ : Unit) => f_X7_lowestEmpty M b = r) (fun _ : Unit => MC G a g M T Y)) (by decide) rfl (Nat.le_of_ble_eq_true rfl) ?_
  intro p e s m below meth c A H C0 _ hK hsz hP hD hA hS ls hl
  have hx := C0.1
  have hb := C0.2.1
  have hown : s.vm.findClass RX7 = some m.cls := C0.2.2.2.2.1
  have hml := C0.2.2.2.1
  have hts : ∀ w ∈ wsX7_lowestEmpty, w.before [.ref (a 0), .int (nI b)].toArray s = true := C0.2.2.2.2.2.1
  have hl : lv_has ls 4 [(0, .ref (a 0)), (1, .int (nI b))] := hl
  have h_X7_lowestEmpty_4_m1 : ∀ (x : Int32), f_X7_lowestEmpty M b = s_X7_lowestEmpty_4_m1 x → ∀ (H : Heap) (locs : List Loc) (ls : Array Slot), va_P G.1 vwCl (MC G a g M T Y) H → va_D A (MC G a g M T Y) → va_S A s.heap H locs → lv_has ls 4 [(3, .int (-1)), (2, .int x), (0, .ref (a 0)), (1, .int (nI b))] → W p l e ({ frames := 0, cells := 0, slots := 0, locals := 0 }) s m ([.ref (a 0), .int (nI b)] : List Value).toArray below meth c H locs 0 0 (MQ below (PI G A (fun r (_ : Unit) => f_X7_lowestEmpty M b = r) (fun _ : Unit => MC G a g M T Y)) ([.ref (a 0), .int (nI b)] : List Value).toArray s 0 0 A) (F0 m 4 ls []) := by
    intro x  hE H locs ls hP hD hS hl
    refine lv_iload_n hx hb dX7_lowestEmpty_4 rfl (lv_at hl 0 rfl) ?_
    refine lv_if_lt (tgt := 34) hx hb dX7_lowestEmpty_5 (by decide) (fun c_9 => ?_) (fun c_9 => absurd (by decide +kernel) c_9)
    refine lv_iload_n hx hb dX7_lowestEmpty_34 rfl (lv_at hl 1 rfl) ?_
    exact end_I C0 hP hD hS () (hE.trans (by simp only [s_X7_lowestEmpty_4_m1])) rfl dX7_lowestEmpty_35
  have h_X7_lowestEmpty_4_0 : ∀ (x : Int32), f_X7_lowestEmpty M b = s_X7_lowestEmpty_4_0 M b x → ∀ (H : Heap) (locs : List Loc) (ls : Array Slot), va_P G.1 vwCl (MC G a g M T Y) H → va_D A (MC G a g M T Y) → va_S A s.heap H locs → lv_has ls 4 [(3, .int (nI 0)), (2, .int x), (0, .ref (a 0)), (1, .int (nI b))] → W p l e ({ frames := 0, cells := 0, slots := 0, locals := 0 }) s m ([.ref (a 0), .int (nI b)] : List Value).toArray below meth c H locs 0 0 (MQ below (PI G A (fun r (_ : Unit) => f_X7_lowestEmpty M b = r) (fun _ : Unit => MC G a g M T Y)) ([.ref (a 0), .int (nI b)] : List Value).toArray s 0 0 A) (F0 m 4 ls []) := by
    intro x  hE H locs ls hP hD hS hl
    refine lv_iload_n hx hb dX7_lowestEmpty_4 rfl (lv_at hl 0 rfl) ?_
    refine lv_if_lt (tgt := 34) hx hb dX7_lowestEmpty_5 (by decide) (fun c_7 => absurd c_7 (by decide +kernel)) (fun c_7 => ?_)
    refine lv_aload_n hx hb dX7_lowestEmpty_8 rfl (lv_at hl 2 rfl) ?_
    refine va_get (D := G.1) (ci := 7) (v := .ref (a 1)) (C := RX7) (T := TX7) (N := 11) hx hb hts in_X7_lowestEmpty_RX7 hown hK.1 hP 0 rfl rfl 0 (by decide) (hts _ k_X7_lowestEmpty_f7) (fun _ h9 => h9) rfl dX7_lowestEmpty_9 ?_
    refine lv_iload_n hx hb dX7_lowestEmpty_12 rfl (lv_at hl 3 rfl) ?_
    refine lv_bipush (v := (nI 13)) hx hb dX7_lowestEmpty_13 (by decide) ?_
    refine n_iadd (i := b) (j := 13) hx hb dX7_lowestEmpty_15 ?_
    refine lv_iload_n hx hb dX7_lowestEmpty_16 rfl (lv_at hl 0 rfl) ?_
    refine n_iadd (i := b + 13) (j := 0) hx hb dX7_lowestEmpty_17 ?_
    refine n_iald (f := M) (j := b + 13 + 0) hx hb hK hP 1 rfl (by omega) (by decide) dX7_lowestEmpty_18 ?_
    refine lv_if_ge (tgt := 26) hx hb dX7_lowestEmpty_19 (by decide) (fun c_8 => ?_) (fun c_8 => ?_)
    · refine lv_iload_n hx hb dX7_lowestEmpty_26 rfl (lv_at hl 1 rfl) ?_
      refine lv_istore_n (lv' := [(2, .int x), (3, .int (nI 0)), (0, .ref (a 0)), (1, .int (nI b))]) hx hb dX7_lowestEmpty_27 rfl hl (by decide) rfl (fun ls hl => ?_)
      refine lv_iinc (v := (-1)) (lv' := [(3, .int (-1)), (2, .int x), (0, .ref (a 0)), (1, .int (nI b))]) hx hb dX7_lowestEmpty_28 hl (k := 1) rfl (by decide +kernel) (by decide) rfl (fun ls hl => ?_)
      refine lv_goto (tgt := 4) hx hb dX7_lowestEmpty_31 (by decide) ?_
      exact h_X7_lowestEmpty_4_m1 x  (hE.trans (by simp only [s_X7_lowestEmpty_4_0, if_pos c_8])) _ _ _ hP hD hS (lv_sub hl [0, 1, 2, 3] rfl)
    · refine lv_iload_n hx hb dX7_lowestEmpty_22 rfl (lv_at hl 0 rfl) ?_
      refine lv_goto (tgt := 27) hx hb dX7_lowestEmpty_23 (by decide) ?_
      refine lv_istore_n (lv' := [(2, .int (nI 0)), (3, .int (nI 0)), (0, .ref (a 0)), (1, .int (nI b))]) hx hb dX7_lowestEmpty_27 rfl hl (by decide) rfl (fun ls hl => ?_)
      refine lv_iinc (v := (-1)) (lv' := [(3, .int (-1)), (2, .int (nI 0)), (0, .ref (a 0)), (1, .int (nI b))]) hx hb dX7_lowestEmpty_28 hl (k := 1) rfl (by decide +kernel) (by decide) rfl (fun ls hl => ?_)
      refine lv_goto (tgt := 4) hx hb dX7_lowestEmpty_31 (by decide) ?_
      exact h_X7_lowestEmpty_4_m1 (nI 0)  (hE.trans (by simp only [s_X7_lowestEmpty_4_0, if_neg c_8])) _ _ _ hP hD hS (lv_sub hl [0, 1, 2, 3] rfl)
  have h_X7_lowestEmpty_4_1 : ∀ (x : Int32), f_X7_lowestEmpty M b = s_X7_lowestEmpty_4_1 M b x → ∀ (H : Heap) (locs : List Loc) (ls : Array Slot), va_P G.1 vwCl (MC G a g M T Y) H → va_D A (MC G a g M T Y) → va_S A s.heap H locs → lv_has ls 4 [(3, .int (nI 1)), (2, .int x), (0, .ref (a 0)), (1, .int (nI b))] → W p l e ({ frames := 0, cells := 0, slots := 0, locals := 0 }) s m ([.ref (a 0), .int (nI b)] : List Value).toArray below meth c H locs 0 0 (MQ below (PI G A (fun r (_ : Unit) => f_X7_lowestEmpty M b = r) (fun _ : Unit => MC G a g M T Y)) ([.ref (a 0), .int (nI b)] : List Value).toArray s 0 0 A) (F0 m 4 ls []) := by
    intro x  hE H locs ls hP hD hS hl
    refine lv_iload_n hx hb dX7_lowestEmpty_4 rfl (lv_at hl 0 rfl) ?_
    refine lv_if_lt (tgt := 34) hx hb dX7_lowestEmpty_5 (by decide) (fun c_5 => absurd c_5 (by decide +kernel)) (fun c_5 => ?_)
    refine lv_aload_n hx hb dX7_lowestEmpty_8 rfl (lv_at hl 2 rfl) ?_
    refine va_get (D := G.1) (ci := 7) (v := .ref (a 1)) (C := RX7) (T := TX7) (N := 11) hx hb hts in_X7_lowestEmpty_RX7 hown hK.1 hP 0 rfl rfl 0 (by decide) (hts _ k_X7_lowestEmpty_f7) (fun _ h9 => h9) rfl dX7_lowestEmpty_9 ?_
    refine lv_iload_n hx hb dX7_lowestEmpty_12 rfl (lv_at hl 3 rfl) ?_
    refine lv_bipush (v := (nI 13)) hx hb dX7_lowestEmpty_13 (by decide) ?_
    refine n_iadd (i := b) (j := 13) hx hb dX7_lowestEmpty_15 ?_
    refine lv_iload_n hx hb dX7_lowestEmpty_16 rfl (lv_at hl 0 rfl) ?_
    refine n_iadd (i := b + 13) (j := 1) hx hb dX7_lowestEmpty_17 ?_
    refine n_iald (f := M) (j := b + 13 + 1) hx hb hK hP 1 rfl (by omega) (by decide) dX7_lowestEmpty_18 ?_
    refine lv_if_ge (tgt := 26) hx hb dX7_lowestEmpty_19 (by decide) (fun c_6 => ?_) (fun c_6 => ?_)
    · refine lv_iload_n hx hb dX7_lowestEmpty_26 rfl (lv_at hl 1 rfl) ?_
      refine lv_istore_n (lv' := [(2, .int x), (3, .int (nI 1)), (0, .ref (a 0)), (1, .int (nI b))]) hx hb dX7_lowestEmpty_27 rfl hl (by decide) rfl (fun ls hl => ?_)
      refine lv_iinc (v := (nI 0)) (lv' := [(3, .int (nI 0)), (2, .int x), (0, .ref (a 0)), (1, .int (nI b))]) hx hb dX7_lowestEmpty_28 hl (k := 1) rfl (by decide +kernel) (by decide) rfl (fun ls hl => ?_)
      refine lv_goto (tgt := 4) hx hb dX7_lowestEmpty_31 (by decide) ?_
      exact h_X7_lowestEmpty_4_0 x  (hE.trans (by simp only [s_X7_lowestEmpty_4_1, if_pos c_6])) _ _ _ hP hD hS (lv_sub hl [0, 1, 2, 3] rfl)
    · refine lv_iload_n hx hb dX7_lowestEmpty_22 rfl (lv_at hl 0 rfl) ?_
      refine lv_goto (tgt := 27) hx hb dX7_lowestEmpty_23 (by decide) ?_
      refine lv_istore_n (lv' := [(2, .int (nI 1)), (3, .int (nI 1)), (0, .ref (a 0)), (1, .int (nI b))]) hx hb dX7_lowestEmpty_27 rfl hl (by decide) rfl (fun ls hl => ?_)
      refine lv_iinc (v := (nI 0)) (lv' := [(3, .int (nI 0)), (2, .int (nI 1)), (0, .ref (a 0)), (1, .int (nI b))]) hx hb dX7_lowestEmpty_28 hl (k := 1) rfl (by decide +kernel) (by decide) rfl (fun ls hl => ?_)
      refine lv_goto (tgt := 4) hx hb dX7_lowestEmpty_31 (by decide) ?_
      exact h_X7_lowestEmpty_4_0 (nI 1)  (hE.trans (by simp only [s_X7_lowestEmpty_4_1, if_neg c_6])) _ _ _ hP hD hS (lv_sub hl [0, 1, 2, 3] rfl)
  have h_X7_lowestEmpty_4_2 : ∀ (x : Int32), f_X7_lowestEmpty M b = s_X7_lowestEmpty_4_2 M b x → ∀ (H : Heap) (locs : List Loc) (ls : Array Slot), va_P G.1 vwCl (MC G a g M T Y) H → va_D A (MC G a g M T Y) → va_S A s.heap H locs → lv_has ls 4 [(3, .int (nI 2)), (2, .int x), (0, .ref (a 0)), (1, .int (nI b))] → W p l e ({ frames := 0, cells := 0, slots := 0, locals := 0 }) s m ([.ref (a 0), .int (nI b)] : List Value).toArray below meth c H locs 0 0 (MQ below (PI G A (fun r (_ : Unit) => f_X7_lowestEmpty M b = r) (fun _ : Unit => MC G a g M T Y)) ([.ref (a 0), .int (nI b)] : List Value).toArray s 0 0 A) (F0 m 4 ls []) := by
    intro x  hE H locs ls hP hD hS hl
    refine lv_iload_n hx hb dX7_lowestEmpty_4 rfl (lv_at hl 0 rfl) ?_
    refine lv_if_lt (tgt := 34) hx hb dX7_lowestEmpty_5 (by decide) (fun c_3 => absurd c_3 (by decide +kernel)) (fun c_3 => ?_)
    refine lv_aload_n hx hb dX7_lowestEmpty_8 rfl (lv_at hl 2 rfl) ?_
    refine va_get (D := G.1) (ci := 7) (v := .ref (a 1)) (C := RX7) (T := TX7) (N := 11) hx hb hts in_X7_lowestEmpty_RX7 hown hK.1 hP 0 rfl rfl 0 (by decide) (hts _ k_X7_lowestEmpty_f7) (fun _ h9 => h9) rfl dX7_lowestEmpty_9 ?_
    refine lv_iload_n hx hb dX7_lowestEmpty_12 rfl (lv_at hl 3 rfl) ?_
    refine lv_bipush (v := (nI 13)) hx hb dX7_lowestEmpty_13 (by decide) ?_
    refine n_iadd (i := b) (j := 13) hx hb dX7_lowestEmpty_15 ?_
    refine lv_iload_n hx hb dX7_lowestEmpty_16 rfl (lv_at hl 0 rfl) ?_
    refine n_iadd (i := b + 13) (j := 2) hx hb dX7_lowestEmpty_17 ?_
    refine n_iald (f := M) (j := b + 13 + 2) hx hb hK hP 1 rfl (by omega) (by decide) dX7_lowestEmpty_18 ?_
    refine lv_if_ge (tgt := 26) hx hb dX7_lowestEmpty_19 (by decide) (fun c_4 => ?_) (fun c_4 => ?_)
    · refine lv_iload_n hx hb dX7_lowestEmpty_26 rfl (lv_at hl 1 rfl) ?_
      refine lv_istore_n (lv' := [(2, .int x), (3, .int (nI 2)), (0, .ref (a 0)), (1, .int (nI b))]) hx hb dX7_lowestEmpty_27 rfl hl (by decide) rfl (fun ls hl => ?_)
      refine lv_iinc (v := (nI 1)) (lv' := [(3, .int (nI 1)), (2, .int x), (0, .ref (a 0)), (1, .int (nI b))]) hx hb dX7_lowestEmpty_28 hl (k := 1) rfl (by decide +kernel) (by decide) rfl (fun ls hl => ?_)
      refine lv_goto (tgt := 4) hx hb dX7_lowestEmpty_31 (by decide) ?_
      exact h_X7_lowestEmpty_4_1 x  (hE.trans (by simp only [s_X7_lowestEmpty_4_2, if_pos c_4])) _ _ _ hP hD hS (lv_sub hl [0, 1, 2, 3] rfl)
    · refine lv_iload_n hx hb dX7_lowestEmpty_22 rfl (lv_at hl 0 rfl) ?_
      refine lv_goto (tgt := 27) hx hb dX7_lowestEmpty_23 (by decide) ?_
      refine lv_istore_n (lv' := [(2, .int (nI 2)), (3, .int (nI 2)), (0, .ref (a 0)), (1, .int (nI b))]) hx hb dX7_lowestEmpty_27 rfl hl (by decide) rfl (fun ls hl => ?_)
      refine lv_iinc (v := (nI 1)) (lv' := [(3, .int (nI 1)), (2, .int (nI 2)), (0, .ref (a 0)), (1, .int (nI b))]) hx hb dX7_lowestEmpty_28 hl (k := 1) rfl (by decide +kernel) (by decide) rfl (fun ls hl => ?_)
      refine lv_goto (tgt := 4) hx hb dX7_lowestEmpty_31 (by decide) ?_
      exact h_X7_lowestEmpty_4_1 (nI 2)  (hE.trans (by simp only [s_X7_lowestEmpty_4_2, if_neg c_4])) _ _ _ hP hD hS (lv_sub hl [0, 1, 2, 3] rfl)
  have h_X7_lowestEmpty_4_3 : ∀ (x : Int32), f_X7_lowestEmpty M b = s_X7_lowestEmpty_4_3 M b x → ∀ (H : Heap) (locs : List Loc) (ls : Array Slot), va_P G.1 vwCl (MC G a g M T Y) H → va_D A (MC G a g M T Y) → va_S A s.heap H locs → lv_has ls 4 [(3, .int (nI 3)), (2, .int x), (0, .ref (a 0)), (1, .int (nI b))] → W p l e ({ frames := 0, cells := 0, slots := 0, locals := 0 }) s m ([.ref (a 0), .int (nI b)] : List Value).toArray below meth c H locs 0 0 (MQ below (PI G A (fun r (_ : Unit) => f_X7_lowestEmpty M b = r) (fun _ : Unit => MC G a g M T Y)) ([.ref (a 0), .int (nI b)] : List Value).toArray s 0 0 A) (F0 m 4 ls []) := by
    intro x  hE H locs ls hP hD hS hl
    refine lv_iload_n hx hb dX7_lowestEmpty_4 rfl (lv_at hl 0 rfl) ?_
    refine lv_if_lt (tgt := 34) hx hb dX7_lowestEmpty_5 (by decide) (fun c_1 => absurd c_1 (by decide +kernel)) (fun c_1 => ?_)
    refine lv_aload_n hx hb dX7_lowestEmpty_8 rfl (lv_at hl 2 rfl) ?_
    refine va_get (D := G.1) (ci := 7) (v := .ref (a 1)) (C := RX7) (T := TX7) (N := 11) hx hb hts in_X7_lowestEmpty_RX7 hown hK.1 hP 0 rfl rfl 0 (by decide) (hts _ k_X7_lowestEmpty_f7) (fun _ h9 => h9) rfl dX7_lowestEmpty_9 ?_
    refine lv_iload_n hx hb dX7_lowestEmpty_12 rfl (lv_at hl 3 rfl) ?_
    refine lv_bipush (v := (nI 13)) hx hb dX7_lowestEmpty_13 (by decide) ?_
    refine n_iadd (i := b) (j := 13) hx hb dX7_lowestEmpty_15 ?_
    refine lv_iload_n hx hb dX7_lowestEmpty_16 rfl (lv_at hl 0 rfl) ?_
    refine n_iadd (i := b + 13) (j := 3) hx hb dX7_lowestEmpty_17 ?_
    refine n_iald (f := M) (j := b + 13 + 3) hx hb hK hP 1 rfl (by omega) (by decide) dX7_lowestEmpty_18 ?_
    refine lv_if_ge (tgt := 26) hx hb dX7_lowestEmpty_19 (by decide) (fun c_2 => ?_) (fun c_2 => ?_)
    · refine lv_iload_n hx hb dX7_lowestEmpty_26 rfl (lv_at hl 1 rfl) ?_
      refine lv_istore_n (lv' := [(2, .int x), (3, .int (nI 3)), (0, .ref (a 0)), (1, .int (nI b))]) hx hb dX7_lowestEmpty_27 rfl hl (by decide) rfl (fun ls hl => ?_)
      refine lv_iinc (v := (nI 2)) (lv' := [(3, .int (nI 2)), (2, .int x), (0, .ref (a 0)), (1, .int (nI b))]) hx hb dX7_lowestEmpty_28 hl (k := 1) rfl (by decide +kernel) (by decide) rfl (fun ls hl => ?_)
      refine lv_goto (tgt := 4) hx hb dX7_lowestEmpty_31 (by decide) ?_
      exact h_X7_lowestEmpty_4_2 x  (hE.trans (by simp only [s_X7_lowestEmpty_4_3, if_pos c_2])) _ _ _ hP hD hS (lv_sub hl [0, 1, 2, 3] rfl)
    · refine lv_iload_n hx hb dX7_lowestEmpty_22 rfl (lv_at hl 0 rfl) ?_
      refine lv_goto (tgt := 27) hx hb dX7_lowestEmpty_23 (by decide) ?_
      refine lv_istore_n (lv' := [(2, .int (nI 3)), (3, .int (nI 3)), (0, .ref (a 0)), (1, .int (nI b))]) hx hb dX7_lowestEmpty_27 rfl hl (by decide) rfl (fun ls hl => ?_)
      refine lv_iinc (v := (nI 2)) (lv' := [(3, .int (nI 2)), (2, .int (nI 3)), (0, .ref (a 0)), (1, .int (nI b))]) hx hb dX7_lowestEmpty_28 hl (k := 1) rfl (by decide +kernel) (by decide) rfl (fun ls hl => ?_)
      refine lv_goto (tgt := 4) hx hb dX7_lowestEmpty_31 (by decide) ?_
      exact h_X7_lowestEmpty_4_2 (nI 3)  (hE.trans (by simp only [s_X7_lowestEmpty_4_3, if_neg c_2])) _ _ _ hP hD hS (lv_sub hl [0, 1, 2, 3] rfl)
  refine lv_iconst (v := (-1)) hx hb dX7_lowestEmpty_0 (by decide) ?_
  refine lv_istore_n (lv' := [(2, .int (-1)), (0, .ref (a 0)), (1, .int (nI b))]) hx hb dX7_lowestEmpty_1 rfl hl (by decide) rfl (fun ls hl => ?_)
  refine lv_iconst (v := (nI 3)) hx hb dX7_lowestEmpty_2 (by decide) ?_
  refine lv_istore_n (lv' := [(3, .int (nI 3)), (2, .int (-1)), (0, .ref (a 0)), (1, .int (nI b))]) hx hb dX7_lowestEmpty_3 rfl hl (by decide) rfl (fun ls hl => ?_)
  exact h_X7_lowestEmpty_4_3 (-1)  (by simp only [f_X7_lowestEmpty]) _ _ _ hP hD hS (lv_sub hl [0, 1, 2, 3] rfl)

def f_X7_puts (M : (Nat → Int32)) (b : Nat) (i : Nat) (p0 : Int32) : (Nat → Int32) :=
  (upd (upd (upd (upd M (b + 13 + i) p0) (b + 17 + i) (f_X7_ticksOf p0)) (b + 21 + i) (nI 0)) (b + 40) (((upd (upd (upd M (b + 13 + i) p0) (b + 17 + i) (f_X7_ticksOf p0)) (b + 21 + i) (nI 0)) (b + 40)) + (nI 1)))
set_option maxRecDepth 20000 in
theorem k_X7_puts_f7 : Cond.fieldLink RX7 7 "SteamRationsModel" "s" "[I" ∈ wsX7_puts := by decide +kernel
set_option maxRecDepth 20000 in
theorem in_X7_puts_RX7 : ∀ w ∈ u_ws RX7 TX7 11, w ∈ wsX7_puts := by decide +kernel
theorem cd_X7_puts : yX7_puts.cls = RX7 ∧ yX7_puts.cls ≠ "java/lang/invoke/MethodHandle" ∧ yX7_puts.cls ≠ "java/lang/invoke/VarHandle" ∧ (parseMethodDescriptor yX7_puts.desc).map (fun d => d.parameters.length) = some 3 := by decide +kernel
set_option maxHeartbeats 4000000 in
set_option maxRecDepth 100000 in
theorem c_X7_puts (l : Launch) (G : GG) (a : Nat → Nat) (g : (Nat → Int32)) (M : (Nat → Int32)) (T : (Nat → Int32)) (Y : (Nat → Int32)) (sz : Nat) (b : Nat) (i : Nat) (p0 : Int32) (hb : b ≤ 322) (hi : i < 4) : Met l yX7_puts wsX7_puts ({ frames := 1, cells := 0, slots := 0, locals := 20 }) (Pre G [.ref (a 0), .int (nI b), .int (nI i), .int p0] (MC G a g M T Y) sz) (PV G (va_A (MC G a g M T Y) sz) (fun u : (Nat → Int32) => f_X7_puts M b i p0 = u) (fun u : (Nat → Int32) => MC G a g u T Y)) 0 0 (va_A (MC G a g M T Y) sz) := by
  refine Met.walk (cc := cX7_puts) (maxL := 4) (ret := none) (Qc := fun A => PV G A (fun u : (Nat → Int32) => f_X7_puts M b i p0 = u) (fun u : (Nat → Int32) => MC G a g u T Y)) (by decide) rfl (Nat.le_of_ble_eq_true rfl) ?_
  intro p e s m below meth c A H C0 _ hK hsz hP hD hA hS ls hl
  have hx := C0.1
  have hb := C0.2.1
  have hown : s.vm.findClass RX7 = some m.cls := C0.2.2.2.2.1
  have hml := C0.2.2.2.1
  have hts : ∀ w ∈ wsX7_puts, w.before [.ref (a 0), .int (nI b), .int (nI i), .int p0].toArray s = true := C0.2.2.2.2.2.1
  have hl : lv_has ls 4 [(0, .ref (a 0)), (1, .int (nI b)), (2, .int (nI i)), (3, .int p0)] := hl
  refine lv_aload_n hx hb dX7_puts_0 rfl (lv_at hl 0 rfl) ?_
  refine va_get (D := G.1) (ci := 7) (v := .ref (a 1)) (C := RX7) (T := TX7) (N := 11) hx hb hts in_X7_puts_RX7 hown hK.1 hP 0 rfl rfl 0 (by decide) (hts _ k_X7_puts_f7) (fun _ h9 => h9) rfl dX7_puts_1 ?_
  refine lv_iload_n hx hb dX7_puts_4 rfl (lv_at hl 1 rfl) ?_
  refine lv_bipush (v := (nI 13)) hx hb dX7_puts_5 (by decide) ?_
  refine n_iadd (i := b) (j := 13) hx hb dX7_puts_7 ?_
  refine lv_iload_n hx hb dX7_puts_8 rfl (lv_at hl 2 rfl) ?_
  refine n_iadd (i := b + 13) (j := i) hx hb dX7_puts_9 ?_
  refine lv_iload_n hx hb dX7_puts_10 rfl (lv_at hl 3 rfl) ?_
  refine n_iast (f := M) (j := b + 13 + i) (x := p0) hx hb hK hP hD hS 1 rfl (by omega) (by decide) dX7_puts_11 (fun H locs hP hD hS => ?_)
  have hP : va_P G.1 vwCl (MC G a g (upd M (b + 13 + i) p0) T Y) H := hP
  have hD : va_D A (MC G a g (upd M (b + 13 + i) p0) T Y) := hD
  refine lv_aload_n hx hb dX7_puts_12 rfl (lv_at hl 0 rfl) ?_
  refine va_get (D := G.1) (ci := 7) (v := .ref (a 1)) (C := RX7) (T := TX7) (N := 11) hx hb hts in_X7_puts_RX7 hown hK.1 hP 0 rfl rfl 0 (by decide) (hts _ k_X7_puts_f7) (fun _ h9 => h9) rfl dX7_puts_13 ?_
  refine lv_iload_n hx hb dX7_puts_16 rfl (lv_at hl 1 rfl) ?_
  refine lv_bipush (v := (nI 17)) hx hb dX7_puts_17 (by decide) ?_
  refine n_iadd (i := b) (j := 17) hx hb dX7_puts_19 ?_
  refine lv_iload_n hx hb dX7_puts_20 rfl (lv_at hl 2 rfl) ?_
  refine n_iadd (i := b + 17) (j := i) hx hb dX7_puts_21 ?_
  refine lv_iload_n hx hb dX7_puts_22 rfl (lv_at hl 3 rfl) ?_
  refine gcall_I (run_S (As := [.int p0]) (rest := [.int (nI (b + 17 + i)), .ref (a 1)]) C0 hK hP hD (c_X7_ticksOf l G   H.size p0) (va_cwS 1 hts gX7_puts_X7_ticksOf rfl rfl rfl cd2_X7_ticksOf ⟨Nat.le_of_ble_eq_true rfl, Nat.le_of_ble_eq_true rfl⟩) [] rfl rfl rfl hl.1 rfl (Nat.le_of_ble_eq_true rfl) dX7_puts_23 ⟨Nat.le_of_ble_eq_true rfl, Nat.le_of_ble_eq_true rfl⟩) hP hD hS hA [] rfl rfl (fun _ => rfl) (fun r_1 _ H locs hw_1 hP hD hS => ?_)
  subst hw_1
  have hP : va_P G.1 vwCl (MC G a g (upd M (b + 13 + i) p0) T Y) H := hP
  have hD : va_D A (MC G a g (upd M (b + 13 + i) p0) T Y) := hD
  refine n_iast (f := (upd M (b + 13 + i) p0)) (j := b + 17 + i) (x := (f_X7_ticksOf p0)) hx hb hK hP hD hS 1 rfl (by omega) (by decide) dX7_puts_26 (fun H locs hP hD hS => ?_)
  have hP : va_P G.1 vwCl (MC G a g (upd (upd M (b + 13 + i) p0) (b + 17 + i) (f_X7_ticksOf p0)) T Y) H := hP
  have hD : va_D A (MC G a g (upd (upd M (b + 13 + i) p0) (b + 17 + i) (f_X7_ticksOf p0)) T Y) := hD
  refine lv_aload_n hx hb dX7_puts_27 rfl (lv_at hl 0 rfl) ?_
  refine va_get (D := G.1) (ci := 7) (v := .ref (a 1)) (C := RX7) (T := TX7) (N := 11) hx hb hts in_X7_puts_RX7 hown hK.1 hP 0 rfl rfl 0 (by decide) (hts _ k_X7_puts_f7) (fun _ h9 => h9) rfl dX7_puts_28 ?_
  refine lv_iload_n hx hb dX7_puts_31 rfl (lv_at hl 1 rfl) ?_
  refine lv_bipush (v := (nI 21)) hx hb dX7_puts_32 (by decide) ?_
  refine n_iadd (i := b) (j := 21) hx hb dX7_puts_34 ?_
  refine lv_iload_n hx hb dX7_puts_35 rfl (lv_at hl 2 rfl) ?_
  refine n_iadd (i := b + 21) (j := i) hx hb dX7_puts_36 ?_
  refine lv_iconst (v := (nI 0)) hx hb dX7_puts_37 (by decide) ?_
  refine n_iast (f := (upd (upd M (b + 13 + i) p0) (b + 17 + i) (f_X7_ticksOf p0))) (j := b + 21 + i) (x := (nI 0)) hx hb hK hP hD hS 1 rfl (by omega) (by decide) dX7_puts_38 (fun H locs hP hD hS => ?_)
  have hP : va_P G.1 vwCl (MC G a g (upd (upd (upd M (b + 13 + i) p0) (b + 17 + i) (f_X7_ticksOf p0)) (b + 21 + i) (nI 0)) T Y) H := hP
  have hD : va_D A (MC G a g (upd (upd (upd M (b + 13 + i) p0) (b + 17 + i) (f_X7_ticksOf p0)) (b + 21 + i) (nI 0)) T Y) := hD
  refine lv_aload_n hx hb dX7_puts_39 rfl (lv_at hl 0 rfl) ?_
  refine va_get (D := G.1) (ci := 7) (v := .ref (a 1)) (C := RX7) (T := TX7) (N := 11) hx hb hts in_X7_puts_RX7 hown hK.1 hP 0 rfl rfl 0 (by decide) (hts _ k_X7_puts_f7) (fun _ h9 => h9) rfl dX7_puts_40 ?_
  refine lv_iload_n hx hb dX7_puts_43 rfl (lv_at hl 1 rfl) ?_
  refine lv_bipush (v := (nI 40)) hx hb dX7_puts_44 (by decide) ?_
  refine n_iadd (i := b) (j := 40) hx hb dX7_puts_46 ?_
  refine lv_dup2_11 hx hb dX7_puts_47 rfl rfl ?_
  refine n_iald (f := (upd (upd (upd M (b + 13 + i) p0) (b + 17 + i) (f_X7_ticksOf p0)) (b + 21 + i) (nI 0))) (j := b + 40) hx hb hK hP 1 rfl (by omega) (by decide) dX7_puts_48 ?_
  refine lv_iconst (v := (nI 1)) hx hb dX7_puts_49 (by decide) ?_
  refine lv_iadd hx hb dX7_puts_50 ?_
  refine n_iast (f := (upd (upd (upd M (b + 13 + i) p0) (b + 17 + i) (f_X7_ticksOf p0)) (b + 21 + i) (nI 0))) (j := b + 40) (x := (((upd (upd (upd M (b + 13 + i) p0) (b + 17 + i) (f_X7_ticksOf p0)) (b + 21 + i) (nI 0)) (b + 40)) + (nI 1))) hx hb hK hP hD hS 1 rfl (by omega) (by decide) dX7_puts_51 (fun H locs hP hD hS => ?_)
  have hP : va_P G.1 vwCl (MC G a g (upd (upd (upd (upd M (b + 13 + i) p0) (b + 17 + i) (f_X7_ticksOf p0)) (b + 21 + i) (nI 0)) (b + 40) (((upd (upd (upd M (b + 13 + i) p0) (b + 17 + i) (f_X7_ticksOf p0)) (b + 21 + i) (nI 0)) (b + 40)) + (nI 1))) T Y) H := hP
  have hD : va_D A (MC G a g (upd (upd (upd (upd M (b + 13 + i) p0) (b + 17 + i) (f_X7_ticksOf p0)) (b + 21 + i) (nI 0)) (b + 40) (((upd (upd (upd M (b + 13 + i) p0) (b + 17 + i) (f_X7_ticksOf p0)) (b + 21 + i) (nI 0)) (b + 40)) + (nI 1))) T Y) := hD
  exact end_V C0 hP hD hS (upd (upd (upd (upd M (b + 13 + i) p0) (b + 17 + i) (f_X7_ticksOf p0)) (b + 21 + i) (nI 0)) (b + 40) (((upd (upd (upd M (b + 13 + i) p0) (b + 17 + i) (f_X7_ticksOf p0)) (b + 21 + i) (nI 0)) (b + 40)) + (nI 1))) (by simp only [f_X7_puts]) rfl dX7_puts_52

def f_X7_fires (M : (Nat → Int32)) (b : Nat) (i : Nat) : (Nat → Int32) :=
  if (M (b + i + 6)) ≤ 0 then
    if (M (b + i)) ≤ 0 then
      (upd M (b + i) (nI 0))
    else
      if (M (b + 10)) < (M (b + i)) then
        (upd M (b + i) (nI 0))
      else
        if (M (b + i + 2)) < (M (b + i)) then
          (upd M (b + i) (nI 0))
        else
          (upd (upd (upd (upd M (b + 10) ((M (b + 10)) - (M (b + i)))) (b + 38) (((upd M (b + 10) ((M (b + 10)) - (M (b + i)))) (b + 38)) + ((upd M (b + 10) ((M (b + 10)) - (M (b + i)))) (b + i)))) (b + i + 2) (((upd (upd M (b + 10) ((M (b + 10)) - (M (b + i)))) (b + 38) (((upd M (b + 10) ((M (b + 10)) - (M (b + i)))) (b + 38)) + ((upd M (b + 10) ((M (b + 10)) - (M (b + i)))) (b + i)))) (b + i + 2)) - ((upd (upd M (b + 10) ((M (b + 10)) - (M (b + i)))) (b + 38) (((upd M (b + 10) ((M (b + 10)) - (M (b + i)))) (b + 38)) + ((upd M (b + 10) ((M (b + 10)) - (M (b + i)))) (b + i)))) (b + i)))) (b + i + 4) (((upd (upd (upd M (b + 10) ((M (b + 10)) - (M (b + i)))) (b + 38) (((upd M (b + 10) ((M (b + 10)) - (M (b + i)))) (b + 38)) + ((upd M (b + 10) ((M (b + 10)) - (M (b + i)))) (b + i)))) (b + i + 2) (((upd (upd M (b + 10) ((M (b + 10)) - (M (b + i)))) (b + 38) (((upd M (b + 10) ((M (b + 10)) - (M (b + i)))) (b + 38)) + ((upd M (b + 10) ((M (b + 10)) - (M (b + i)))) (b + i)))) (b + i + 2)) - ((upd (upd M (b + 10) ((M (b + 10)) - (M (b + i)))) (b + 38) (((upd M (b + 10) ((M (b + 10)) - (M (b + i)))) (b + 38)) + ((upd M (b + 10) ((M (b + 10)) - (M (b + i)))) (b + i)))) (b + i)))) (b + i + 4)) + ((nI 3) * ((upd (upd (upd M (b + 10) ((M (b + 10)) - (M (b + i)))) (b + 38) (((upd M (b + 10) ((M (b + 10)) - (M (b + i)))) (b + 38)) + ((upd M (b + 10) ((M (b + 10)) - (M (b + i)))) (b + i)))) (b + i + 2) (((upd (upd M (b + 10) ((M (b + 10)) - (M (b + i)))) (b + 38) (((upd M (b + 10) ((M (b + 10)) - (M (b + i)))) (b + 38)) + ((upd M (b + 10) ((M (b + 10)) - (M (b + i)))) (b + i)))) (b + i + 2)) - ((upd (upd M (b + 10) ((M (b + 10)) - (M (b + i)))) (b + 38) (((upd M (b + 10) ((M (b + 10)) - (M (b + i)))) (b + 38)) + ((upd M (b + 10) ((M (b + 10)) - (M (b + i)))) (b + i)))) (b + i)))) (b + i)))))
  else
    (upd M (b + i + 6) ((M (b + i + 6)) - (nI 1)))
set_option maxRecDepth 20000 in
theorem k_X7_fires_f7 : Cond.fieldLink RX7 7 "SteamRationsModel" "s" "[I" ∈ wsX7_fires := by decide +kernel
set_option maxRecDepth 20000 in
theorem in_X7_fires_RX7 : ∀ w ∈ u_ws RX7 TX7 11, w ∈ wsX7_fires := by decide +kernel
theorem cd_X7_fires : yX7_fires.cls = RX7 ∧ yX7_fires.cls ≠ "java/lang/invoke/MethodHandle" ∧ yX7_fires.cls ≠ "java/lang/invoke/VarHandle" ∧ (parseMethodDescriptor yX7_fires.desc).map (fun d => d.parameters.length) = some 2 := by decide +kernel
set_option maxHeartbeats 4000000 in
set_option maxRecDepth 100000 in
theorem c_X7_fires (l : Launch) (G : GG) (a : Nat → Nat) (g : (Nat → Int32)) (M : (Nat → Int32)) (T : (Nat → Int32)) (Y : (Nat → Int32)) (sz : Nat) (b : Nat) (i : Nat) (hb : b ≤ 322) (hi : i < 2) : Met l yX7_fires wsX7_fires ({ frames := 0, cells := 0, slots := 0, locals := 0 }) (Pre G [.ref (a 0), .int (nI b), .int (nI i)] (MC G a g M T Y) sz) (PV G (va_A (MC G a g M T Y) sz) (fun u : (Nat → Int32) => f_X7_fires M b i = u) (fun u : (Nat → Int32) => MC G a g u T Y)) 0 0 (va_A (MC G a g M T Y) sz) := by
  refine Met.walk (cc := cX7_fires) (maxL := 4) (ret := none) (Qc := fun A => PV G A (fun u : (Nat → Int32) => f_X7_fires M b i = u) (fun u : (Nat → Int32) => MC G a g u T Y)) (by decide) rfl (Nat.le_of_ble_eq_true rfl) ?_
  intro p e s m below meth c A H C0 _ hK hsz hP hD hA hS ls hl
  have hx := C0.1
  have hb := C0.2.1
  have hown : s.vm.findClass RX7 = some m.cls := C0.2.2.2.2.1
  have hml := C0.2.2.2.1
  have hts : ∀ w ∈ wsX7_fires, w.before [.ref (a 0), .int (nI b), .int (nI i)].toArray s = true := C0.2.2.2.2.2.1
  have hl : lv_has ls 4 [(0, .ref (a 0)), (1, .int (nI b)), (2, .int (nI i))] := hl
  refine lv_iload_n hx hb dX7_fires_0 rfl (lv_at hl 1 rfl) ?_
  refine lv_iload_n hx hb dX7_fires_1 rfl (lv_at hl 2 rfl) ?_
  refine n_iadd (i := b) (j := i) hx hb dX7_fires_2 ?_
  refine lv_istore_n (lv' := [(3, .int (nI (b + i))), (0, .ref (a 0)), (1, .int (nI b)), (2, .int (nI i))]) hx hb dX7_fires_3 rfl hl (by decide) rfl (fun ls hl => ?_)
  refine lv_aload_n hx hb dX7_fires_4 rfl (lv_at hl 1 rfl) ?_
  refine va_get (D := G.1) (ci := 7) (v := .ref (a 1)) (C := RX7) (T := TX7) (N := 11) hx hb hts in_X7_fires_RX7 hown hK.1 hP 0 rfl rfl 0 (by decide) (hts _ k_X7_fires_f7) (fun _ h9 => h9) rfl dX7_fires_5 ?_
  refine lv_iload_n hx hb dX7_fires_8 rfl (lv_at hl 0 rfl) ?_
  refine lv_bipush (v := (nI 6)) hx hb dX7_fires_9 (by decide) ?_
  refine n_iadd (i := b + i) (j := 6) hx hb dX7_fires_11 ?_
  refine n_iald (f := M) (j := b + i + 6) hx hb hK hP 1 rfl (by omega) (by decide) dX7_fires_12 ?_
  refine lv_if_le (tgt := 32) hx hb dX7_fires_13 (by decide) (fun c_1 => ?_) (fun c_1 => ?_)
  · refine lv_aload_n hx hb dX7_fires_32 rfl (lv_at hl 1 rfl) ?_
    refine va_get (D := G.1) (ci := 7) (v := .ref (a 1)) (C := RX7) (T := TX7) (N := 11) hx hb hts in_X7_fires_RX7 hown hK.1 hP 0 rfl rfl 0 (by decide) (hts _ k_X7_fires_f7) (fun _ h9 => h9) rfl dX7_fires_33 ?_
    refine lv_iload_n hx hb dX7_fires_36 rfl (lv_at hl 0 rfl) ?_
    refine n_iald (f := M) (j := b + i) hx hb hK hP 1 rfl (by omega) (by decide) dX7_fires_37 ?_
    refine lv_if_le (tgt := 151) hx hb dX7_fires_38 (by decide) (fun c_2 => ?_) (fun c_2 => ?_)
    · refine lv_aload_n hx hb dX7_fires_151 rfl (lv_at hl 1 rfl) ?_
      refine va_get (D := G.1) (ci := 7) (v := .ref (a 1)) (C := RX7) (T := TX7) (N := 11) hx hb hts in_X7_fires_RX7 hown hK.1 hP 0 rfl rfl 0 (by decide) (hts _ k_X7_fires_f7) (fun _ h9 => h9) rfl dX7_fires_152 ?_
      refine lv_iload_n hx hb dX7_fires_155 rfl (lv_at hl 0 rfl) ?_
      refine lv_iconst (v := (nI 0)) hx hb dX7_fires_156 (by decide) ?_
      refine n_iast (f := M) (j := b + i) (x := (nI 0)) hx hb hK hP hD hS 1 rfl (by omega) (by decide) dX7_fires_157 (fun H locs hP hD hS => ?_)
      have hP : va_P G.1 vwCl (MC G a g (upd M (b + i) (nI 0)) T Y) H := hP
      have hD : va_D A (MC G a g (upd M (b + i) (nI 0)) T Y) := hD
      exact end_V C0 hP hD hS (upd M (b + i) (nI 0)) (by simp only [f_X7_fires, if_pos c_1, if_pos c_2]) rfl dX7_fires_158
    · refine lv_aload_n hx hb dX7_fires_41 rfl (lv_at hl 1 rfl) ?_
      refine va_get (D := G.1) (ci := 7) (v := .ref (a 1)) (C := RX7) (T := TX7) (N := 11) hx hb hts in_X7_fires_RX7 hown hK.1 hP 0 rfl rfl 0 (by decide) (hts _ k_X7_fires_f7) (fun _ h9 => h9) rfl dX7_fires_42 ?_
      refine lv_iload_n hx hb dX7_fires_45 rfl (lv_at hl 2 rfl) ?_
      refine lv_bipush (v := (nI 10)) hx hb dX7_fires_46 (by decide) ?_
      refine n_iadd (i := b) (j := 10) hx hb dX7_fires_48 ?_
      refine n_iald (f := M) (j := b + 10) hx hb hK hP 1 rfl (by omega) (by decide) dX7_fires_49 ?_
      refine lv_aload_n hx hb dX7_fires_50 rfl (lv_at hl 1 rfl) ?_
      refine va_get (D := G.1) (ci := 7) (v := .ref (a 1)) (C := RX7) (T := TX7) (N := 11) hx hb hts in_X7_fires_RX7 hown hK.1 hP 0 rfl rfl 0 (by decide) (hts _ k_X7_fires_f7) (fun _ h9 => h9) rfl dX7_fires_51 ?_
      refine lv_iload_n hx hb dX7_fires_54 rfl (lv_at hl 0 rfl) ?_
      refine n_iald (f := M) (j := b + i) hx hb hK hP 1 rfl (by omega) (by decide) dX7_fires_55 ?_
      refine lv_icmp_lt (tgt := 151) hx hb dX7_fires_56 (by decide) (fun c_3 => ?_) (fun c_3 => ?_)
      · refine lv_aload_n hx hb dX7_fires_151 rfl (lv_at hl 1 rfl) ?_
        refine va_get (D := G.1) (ci := 7) (v := .ref (a 1)) (C := RX7) (T := TX7) (N := 11) hx hb hts in_X7_fires_RX7 hown hK.1 hP 0 rfl rfl 0 (by decide) (hts _ k_X7_fires_f7) (fun _ h9 => h9) rfl dX7_fires_152 ?_
        refine lv_iload_n hx hb dX7_fires_155 rfl (lv_at hl 0 rfl) ?_
        refine lv_iconst (v := (nI 0)) hx hb dX7_fires_156 (by decide) ?_
        refine n_iast (f := M) (j := b + i) (x := (nI 0)) hx hb hK hP hD hS 1 rfl (by omega) (by decide) dX7_fires_157 (fun H locs hP hD hS => ?_)
        have hP : va_P G.1 vwCl (MC G a g (upd M (b + i) (nI 0)) T Y) H := hP
        have hD : va_D A (MC G a g (upd M (b + i) (nI 0)) T Y) := hD
        exact end_V C0 hP hD hS (upd M (b + i) (nI 0)) (by simp only [f_X7_fires, if_pos c_1, if_neg c_2, if_pos c_3]) rfl dX7_fires_158
      · refine lv_aload_n hx hb dX7_fires_59 rfl (lv_at hl 1 rfl) ?_
        refine va_get (D := G.1) (ci := 7) (v := .ref (a 1)) (C := RX7) (T := TX7) (N := 11) hx hb hts in_X7_fires_RX7 hown hK.1 hP 0 rfl rfl 0 (by decide) (hts _ k_X7_fires_f7) (fun _ h9 => h9) rfl dX7_fires_60 ?_
        refine lv_iload_n hx hb dX7_fires_63 rfl (lv_at hl 0 rfl) ?_
        refine lv_iconst (v := (nI 2)) hx hb dX7_fires_64 (by decide) ?_
        refine n_iadd (i := b + i) (j := 2) hx hb dX7_fires_65 ?_
        refine n_iald (f := M) (j := b + i + 2) hx hb hK hP 1 rfl (by omega) (by decide) dX7_fires_66 ?_
        refine lv_aload_n hx hb dX7_fires_67 rfl (lv_at hl 1 rfl) ?_
        refine va_get (D := G.1) (ci := 7) (v := .ref (a 1)) (C := RX7) (T := TX7) (N := 11) hx hb hts in_X7_fires_RX7 hown hK.1 hP 0 rfl rfl 0 (by decide) (hts _ k_X7_fires_f7) (fun _ h9 => h9) rfl dX7_fires_68 ?_
        refine lv_iload_n hx hb dX7_fires_71 rfl (lv_at hl 0 rfl) ?_
        refine n_iald (f := M) (j := b + i) hx hb hK hP 1 rfl (by omega) (by decide) dX7_fires_72 ?_
        refine lv_icmp_lt (tgt := 151) hx hb dX7_fires_73 (by decide) (fun c_4 => ?_) (fun c_4 => ?_)
        · refine lv_aload_n hx hb dX7_fires_151 rfl (lv_at hl 1 rfl) ?_
          refine va_get (D := G.1) (ci := 7) (v := .ref (a 1)) (C := RX7) (T := TX7) (N := 11) hx hb hts in_X7_fires_RX7 hown hK.1 hP 0 rfl rfl 0 (by decide) (hts _ k_X7_fires_f7) (fun _ h9 => h9) rfl dX7_fires_152 ?_
          refine lv_iload_n hx hb dX7_fires_155 rfl (lv_at hl 0 rfl) ?_
          refine lv_iconst (v := (nI 0)) hx hb dX7_fires_156 (by decide) ?_
          refine n_iast (f := M) (j := b + i) (x := (nI 0)) hx hb hK hP hD hS 1 rfl (by omega) (by decide) dX7_fires_157 (fun H locs hP hD hS => ?_)
          have hP : va_P G.1 vwCl (MC G a g (upd M (b + i) (nI 0)) T Y) H := hP
          have hD : va_D A (MC G a g (upd M (b + i) (nI 0)) T Y) := hD
          exact end_V C0 hP hD hS (upd M (b + i) (nI 0)) (by simp only [f_X7_fires, if_pos c_1, if_neg c_2, if_neg c_3, if_pos c_4]) rfl dX7_fires_158
        · refine lv_aload_n hx hb dX7_fires_76 rfl (lv_at hl 1 rfl) ?_
          refine va_get (D := G.1) (ci := 7) (v := .ref (a 1)) (C := RX7) (T := TX7) (N := 11) hx hb hts in_X7_fires_RX7 hown hK.1 hP 0 rfl rfl 0 (by decide) (hts _ k_X7_fires_f7) (fun _ h9 => h9) rfl dX7_fires_77 ?_
          refine lv_iload_n hx hb dX7_fires_80 rfl (lv_at hl 2 rfl) ?_
          refine lv_bipush (v := (nI 10)) hx hb dX7_fires_81 (by decide) ?_
          refine n_iadd (i := b) (j := 10) hx hb dX7_fires_83 ?_
          refine lv_dup2_11 hx hb dX7_fires_84 rfl rfl ?_
          refine n_iald (f := M) (j := b + 10) hx hb hK hP 1 rfl (by omega) (by decide) dX7_fires_85 ?_
          refine lv_aload_n hx hb dX7_fires_86 rfl (lv_at hl 1 rfl) ?_
          refine va_get (D := G.1) (ci := 7) (v := .ref (a 1)) (C := RX7) (T := TX7) (N := 11) hx hb hts in_X7_fires_RX7 hown hK.1 hP 0 rfl rfl 0 (by decide) (hts _ k_X7_fires_f7) (fun _ h9 => h9) rfl dX7_fires_87 ?_
          refine lv_iload_n hx hb dX7_fires_90 rfl (lv_at hl 0 rfl) ?_
          refine n_iald (f := M) (j := b + i) hx hb hK hP 1 rfl (by omega) (by decide) dX7_fires_91 ?_
          refine lv_isub hx hb dX7_fires_92 ?_
          refine n_iast (f := M) (j := b + 10) (x := ((M (b + 10)) - (M (b + i)))) hx hb hK hP hD hS 1 rfl (by omega) (by decide) dX7_fires_93 (fun H locs hP hD hS => ?_)
          have hP : va_P G.1 vwCl (MC G a g (upd M (b + 10) ((M (b + 10)) - (M (b + i)))) T Y) H := hP
          have hD : va_D A (MC G a g (upd M (b + 10) ((M (b + 10)) - (M (b + i)))) T Y) := hD
          refine lv_aload_n hx hb dX7_fires_94 rfl (lv_at hl 1 rfl) ?_
          refine va_get (D := G.1) (ci := 7) (v := .ref (a 1)) (C := RX7) (T := TX7) (N := 11) hx hb hts in_X7_fires_RX7 hown hK.1 hP 0 rfl rfl 0 (by decide) (hts _ k_X7_fires_f7) (fun _ h9 => h9) rfl dX7_fires_95 ?_
          refine lv_iload_n hx hb dX7_fires_98 rfl (lv_at hl 2 rfl) ?_
          refine lv_bipush (v := (nI 38)) hx hb dX7_fires_99 (by decide) ?_
          refine n_iadd (i := b) (j := 38) hx hb dX7_fires_101 ?_
          refine lv_dup2_11 hx hb dX7_fires_102 rfl rfl ?_
          refine n_iald (f := (upd M (b + 10) ((M (b + 10)) - (M (b + i))))) (j := b + 38) hx hb hK hP 1 rfl (by omega) (by decide) dX7_fires_103 ?_
          refine lv_aload_n hx hb dX7_fires_104 rfl (lv_at hl 1 rfl) ?_
          refine va_get (D := G.1) (ci := 7) (v := .ref (a 1)) (C := RX7) (T := TX7) (N := 11) hx hb hts in_X7_fires_RX7 hown hK.1 hP 0 rfl rfl 0 (by decide) (hts _ k_X7_fires_f7) (fun _ h9 => h9) rfl dX7_fires_105 ?_
          refine lv_iload_n hx hb dX7_fires_108 rfl (lv_at hl 0 rfl) ?_
          refine n_iald (f := (upd M (b + 10) ((M (b + 10)) - (M (b + i))))) (j := b + i) hx hb hK hP 1 rfl (by omega) (by decide) dX7_fires_109 ?_
          refine lv_iadd hx hb dX7_fires_110 ?_
          refine n_iast (f := (upd M (b + 10) ((M (b + 10)) - (M (b + i))))) (j := b + 38) (x := (((upd M (b + 10) ((M (b + 10)) - (M (b + i)))) (b + 38)) + ((upd M (b + 10) ((M (b + 10)) - (M (b + i)))) (b + i)))) hx hb hK hP hD hS 1 rfl (by omega) (by decide) dX7_fires_111 (fun H locs hP hD hS => ?_)
          have hP : va_P G.1 vwCl (MC G a g (upd (upd M (b + 10) ((M (b + 10)) - (M (b + i)))) (b + 38) (((upd M (b + 10) ((M (b + 10)) - (M (b + i)))) (b + 38)) + ((upd M (b + 10) ((M (b + 10)) - (M (b + i)))) (b + i)))) T Y) H := hP
          have hD : va_D A (MC G a g (upd (upd M (b + 10) ((M (b + 10)) - (M (b + i)))) (b + 38) (((upd M (b + 10) ((M (b + 10)) - (M (b + i)))) (b + 38)) + ((upd M (b + 10) ((M (b + 10)) - (M (b + i)))) (b + i)))) T Y) := hD
          refine lv_aload_n hx hb dX7_fires_112 rfl (lv_at hl 1 rfl) ?_
          refine va_get (D := G.1) (ci := 7) (v := .ref (a 1)) (C := RX7) (T := TX7) (N := 11) hx hb hts in_X7_fires_RX7 hown hK.1 hP 0 rfl rfl 0 (by decide) (hts _ k_X7_fires_f7) (fun _ h9 => h9) rfl dX7_fires_113 ?_
          refine lv_iload_n hx hb dX7_fires_116 rfl (lv_at hl 0 rfl) ?_
          refine lv_iconst (v := (nI 2)) hx hb dX7_fires_117 (by decide) ?_
          refine n_iadd (i := b + i) (j := 2) hx hb dX7_fires_118 ?_
          refine lv_dup2_11 hx hb dX7_fires_119 rfl rfl ?_
          refine n_iald (f := (upd (upd M (b + 10) ((M (b + 10)) - (M (b + i)))) (b + 38) (((upd M (b + 10) ((M (b + 10)) - (M (b + i)))) (b + 38)) + ((upd M (b + 10) ((M (b + 10)) - (M (b + i)))) (b + i))))) (j := b + i + 2) hx hb hK hP 1 rfl (by omega) (by decide) dX7_fires_120 ?_
          refine lv_aload_n hx hb dX7_fires_121 rfl (lv_at hl 1 rfl) ?_
          refine va_get (D := G.1) (ci := 7) (v := .ref (a 1)) (C := RX7) (T := TX7) (N := 11) hx hb hts in_X7_fires_RX7 hown hK.1 hP 0 rfl rfl 0 (by decide) (hts _ k_X7_fires_f7) (fun _ h9 => h9) rfl dX7_fires_122 ?_
          refine lv_iload_n hx hb dX7_fires_125 rfl (lv_at hl 0 rfl) ?_
          refine n_iald (f := (upd (upd M (b + 10) ((M (b + 10)) - (M (b + i)))) (b + 38) (((upd M (b + 10) ((M (b + 10)) - (M (b + i)))) (b + 38)) + ((upd M (b + 10) ((M (b + 10)) - (M (b + i)))) (b + i))))) (j := b + i) hx hb hK hP 1 rfl (by omega) (by decide) dX7_fires_126 ?_
          refine lv_isub hx hb dX7_fires_127 ?_
          refine n_iast (f := (upd (upd M (b + 10) ((M (b + 10)) - (M (b + i)))) (b + 38) (((upd M (b + 10) ((M (b + 10)) - (M (b + i)))) (b + 38)) + ((upd M (b + 10) ((M (b + 10)) - (M (b + i)))) (b + i))))) (j := b + i + 2) (x := (((upd (upd M (b + 10) ((M (b + 10)) - (M (b + i)))) (b + 38) (((upd M (b + 10) ((M (b + 10)) - (M (b + i)))) (b + 38)) + ((upd M (b + 10) ((M (b + 10)) - (M (b + i)))) (b + i)))) (b + i + 2)) - ((upd (upd M (b + 10) ((M (b + 10)) - (M (b + i)))) (b + 38) (((upd M (b + 10) ((M (b + 10)) - (M (b + i)))) (b + 38)) + ((upd M (b + 10) ((M (b + 10)) - (M (b + i)))) (b + i)))) (b + i)))) hx hb hK hP hD hS 1 rfl (by omega) (by decide) dX7_fires_128 (fun H locs hP hD hS => ?_)
          have hP : va_P G.1 vwCl (MC G a g (upd (upd (upd M (b + 10) ((M (b + 10)) - (M (b + i)))) (b + 38) (((upd M (b + 10) ((M (b + 10)) - (M (b + i)))) (b + 38)) + ((upd M (b + 10) ((M (b + 10)) - (M (b + i)))) (b + i)))) (b + i + 2) (((upd (upd M (b + 10) ((M (b + 10)) - (M (b + i)))) (b + 38) (((upd M (b + 10) ((M (b + 10)) - (M (b + i)))) (b + 38)) + ((upd M (b + 10) ((M (b + 10)) - (M (b + i)))) (b + i)))) (b + i + 2)) - ((upd (upd M (b + 10) ((M (b + 10)) - (M (b + i)))) (b + 38) (((upd M (b + 10) ((M (b + 10)) - (M (b + i)))) (b + 38)) + ((upd M (b + 10) ((M (b + 10)) - (M (b + i)))) (b + i)))) (b + i)))) T Y) H := hP
          have hD : va_D A (MC G a g (upd (upd (upd M (b + 10) ((M (b + 10)) - (M (b + i)))) (b + 38) (((upd M (b + 10) ((M (b + 10)) - (M (b + i)))) (b + 38)) + ((upd M (b + 10) ((M (b + 10)) - (M (b + i)))) (b + i)))) (b + i + 2) (((upd (upd M (b + 10) ((M (b + 10)) - (M (b + i)))) (b + 38) (((upd M (b + 10) ((M (b + 10)) - (M (b + i)))) (b + 38)) + ((upd M (b + 10) ((M (b + 10)) - (M (b + i)))) (b + i)))) (b + i + 2)) - ((upd (upd M (b + 10) ((M (b + 10)) - (M (b + i)))) (b + 38) (((upd M (b + 10) ((M (b + 10)) - (M (b + i)))) (b + 38)) + ((upd M (b + 10) ((M (b + 10)) - (M (b + i)))) (b + i)))) (b + i)))) T Y) := hD
          refine lv_aload_n hx hb dX7_fires_129 rfl (lv_at hl 1 rfl) ?_
          refine va_get (D := G.1) (ci := 7) (v := .ref (a 1)) (C := RX7) (T := TX7) (N := 11) hx hb hts in_X7_fires_RX7 hown hK.1 hP 0 rfl rfl 0 (by decide) (hts _ k_X7_fires_f7) (fun _ h9 => h9) rfl dX7_fires_130 ?_
          refine lv_iload_n hx hb dX7_fires_133 rfl (lv_at hl 0 rfl) ?_
          refine lv_iconst (v := (nI 4)) hx hb dX7_fires_134 (by decide) ?_
          refine n_iadd (i := b + i) (j := 4) hx hb dX7_fires_135 ?_
          refine lv_dup2_11 hx hb dX7_fires_136 rfl rfl ?_
          refine n_iald (f := (upd (upd (upd M (b + 10) ((M (b + 10)) - (M (b + i)))) (b + 38) (((upd M (b + 10) ((M (b + 10)) - (M (b + i)))) (b + 38)) + ((upd M (b + 10) ((M (b + 10)) - (M (b + i)))) (b + i)))) (b + i + 2) (((upd (upd M (b + 10) ((M (b + 10)) - (M (b + i)))) (b + 38) (((upd M (b + 10) ((M (b + 10)) - (M (b + i)))) (b + 38)) + ((upd M (b + 10) ((M (b + 10)) - (M (b + i)))) (b + i)))) (b + i + 2)) - ((upd (upd M (b + 10) ((M (b + 10)) - (M (b + i)))) (b + 38) (((upd M (b + 10) ((M (b + 10)) - (M (b + i)))) (b + 38)) + ((upd M (b + 10) ((M (b + 10)) - (M (b + i)))) (b + i)))) (b + i))))) (j := b + i + 4) hx hb hK hP 1 rfl (by omega) (by decide) dX7_fires_137 ?_
          refine lv_iconst (v := (nI 3)) hx hb dX7_fires_138 (by decide) ?_
          refine lv_aload_n hx hb dX7_fires_139 rfl (lv_at hl 1 rfl) ?_
          refine va_get (D := G.1) (ci := 7) (v := .ref (a 1)) (C := RX7) (T := TX7) (N := 11) hx hb hts in_X7_fires_RX7 hown hK.1 hP 0 rfl rfl 0 (by decide) (hts _ k_X7_fires_f7) (fun _ h9 => h9) rfl dX7_fires_140 ?_
          refine lv_iload_n hx hb dX7_fires_143 rfl (lv_at hl 0 rfl) ?_
          refine n_iald (f := (upd (upd (upd M (b + 10) ((M (b + 10)) - (M (b + i)))) (b + 38) (((upd M (b + 10) ((M (b + 10)) - (M (b + i)))) (b + 38)) + ((upd M (b + 10) ((M (b + 10)) - (M (b + i)))) (b + i)))) (b + i + 2) (((upd (upd M (b + 10) ((M (b + 10)) - (M (b + i)))) (b + 38) (((upd M (b + 10) ((M (b + 10)) - (M (b + i)))) (b + 38)) + ((upd M (b + 10) ((M (b + 10)) - (M (b + i)))) (b + i)))) (b + i + 2)) - ((upd (upd M (b + 10) ((M (b + 10)) - (M (b + i)))) (b + 38) (((upd M (b + 10) ((M (b + 10)) - (M (b + i)))) (b + 38)) + ((upd M (b + 10) ((M (b + 10)) - (M (b + i)))) (b + i)))) (b + i))))) (j := b + i) hx hb hK hP 1 rfl (by omega) (by decide) dX7_fires_144 ?_
          refine lv_imul hx hb dX7_fires_145 ?_
          refine lv_iadd hx hb dX7_fires_146 ?_
          refine n_iast (f := (upd (upd (upd M (b + 10) ((M (b + 10)) - (M (b + i)))) (b + 38) (((upd M (b + 10) ((M (b + 10)) - (M (b + i)))) (b + 38)) + ((upd M (b + 10) ((M (b + 10)) - (M (b + i)))) (b + i)))) (b + i + 2) (((upd (upd M (b + 10) ((M (b + 10)) - (M (b + i)))) (b + 38) (((upd M (b + 10) ((M (b + 10)) - (M (b + i)))) (b + 38)) + ((upd M (b + 10) ((M (b + 10)) - (M (b + i)))) (b + i)))) (b + i + 2)) - ((upd (upd M (b + 10) ((M (b + 10)) - (M (b + i)))) (b + 38) (((upd M (b + 10) ((M (b + 10)) - (M (b + i)))) (b + 38)) + ((upd M (b + 10) ((M (b + 10)) - (M (b + i)))) (b + i)))) (b + i))))) (j := b + i + 4) (x := (((upd (upd (upd M (b + 10) ((M (b + 10)) - (M (b + i)))) (b + 38) (((upd M (b + 10) ((M (b + 10)) - (M (b + i)))) (b + 38)) + ((upd M (b + 10) ((M (b + 10)) - (M (b + i)))) (b + i)))) (b + i + 2) (((upd (upd M (b + 10) ((M (b + 10)) - (M (b + i)))) (b + 38) (((upd M (b + 10) ((M (b + 10)) - (M (b + i)))) (b + 38)) + ((upd M (b + 10) ((M (b + 10)) - (M (b + i)))) (b + i)))) (b + i + 2)) - ((upd (upd M (b + 10) ((M (b + 10)) - (M (b + i)))) (b + 38) (((upd M (b + 10) ((M (b + 10)) - (M (b + i)))) (b + 38)) + ((upd M (b + 10) ((M (b + 10)) - (M (b + i)))) (b + i)))) (b + i)))) (b + i + 4)) + ((nI 3) * ((upd (upd (upd M (b + 10) ((M (b + 10)) - (M (b + i)))) (b + 38) (((upd M (b + 10) ((M (b + 10)) - (M (b + i)))) (b + 38)) + ((upd M (b + 10) ((M (b + 10)) - (M (b + i)))) (b + i)))) (b + i + 2) (((upd (upd M (b + 10) ((M (b + 10)) - (M (b + i)))) (b + 38) (((upd M (b + 10) ((M (b + 10)) - (M (b + i)))) (b + 38)) + ((upd M (b + 10) ((M (b + 10)) - (M (b + i)))) (b + i)))) (b + i + 2)) - ((upd (upd M (b + 10) ((M (b + 10)) - (M (b + i)))) (b + 38) (((upd M (b + 10) ((M (b + 10)) - (M (b + i)))) (b + 38)) + ((upd M (b + 10) ((M (b + 10)) - (M (b + i)))) (b + i)))) (b + i)))) (b + i))))) hx hb hK hP hD hS 1 rfl (by omega) (by decide) dX7_fires_147 (fun H locs hP hD hS => ?_)
          have hP : va_P G.1 vwCl (MC G a g (upd (upd (upd (upd M (b + 10) ((M (b + 10)) - (M (b + i)))) (b + 38) (((upd M (b + 10) ((M (b + 10)) - (M (b + i)))) (b + 38)) + ((upd M (b + 10) ((M (b + 10)) - (M (b + i)))) (b + i)))) (b + i + 2) (((upd (upd M (b + 10) ((M (b + 10)) - (M (b + i)))) (b + 38) (((upd M (b + 10) ((M (b + 10)) - (M (b + i)))) (b + 38)) + ((upd M (b + 10) ((M (b + 10)) - (M (b + i)))) (b + i)))) (b + i + 2)) - ((upd (upd M (b + 10) ((M (b + 10)) - (M (b + i)))) (b + 38) (((upd M (b + 10) ((M (b + 10)) - (M (b + i)))) (b + 38)) + ((upd M (b + 10) ((M (b + 10)) - (M (b + i)))) (b + i)))) (b + i)))) (b + i + 4) (((upd (upd (upd M (b + 10) ((M (b + 10)) - (M (b + i)))) (b + 38) (((upd M (b + 10) ((M (b + 10)) - (M (b + i)))) (b + 38)) + ((upd M (b + 10) ((M (b + 10)) - (M (b + i)))) (b + i)))) (b + i + 2) (((upd (upd M (b + 10) ((M (b + 10)) - (M (b + i)))) (b + 38) (((upd M (b + 10) ((M (b + 10)) - (M (b + i)))) (b + 38)) + ((upd M (b + 10) ((M (b + 10)) - (M (b + i)))) (b + i)))) (b + i + 2)) - ((upd (upd M (b + 10) ((M (b + 10)) - (M (b + i)))) (b + 38) (((upd M (b + 10) ((M (b + 10)) - (M (b + i)))) (b + 38)) + ((upd M (b + 10) ((M (b + 10)) - (M (b + i)))) (b + i)))) (b + i)))) (b + i + 4)) + ((nI 3) * ((upd (upd (upd M (b + 10) ((M (b + 10)) - (M (b + i)))) (b + 38) (((upd M (b + 10) ((M (b + 10)) - (M (b + i)))) (b + 38)) + ((upd M (b + 10) ((M (b + 10)) - (M (b + i)))) (b + i)))) (b + i + 2) (((upd (upd M (b + 10) ((M (b + 10)) - (M (b + i)))) (b + 38) (((upd M (b + 10) ((M (b + 10)) - (M (b + i)))) (b + 38)) + ((upd M (b + 10) ((M (b + 10)) - (M (b + i)))) (b + i)))) (b + i + 2)) - ((upd (upd M (b + 10) ((M (b + 10)) - (M (b + i)))) (b + 38) (((upd M (b + 10) ((M (b + 10)) - (M (b + i)))) (b + 38)) + ((upd M (b + 10) ((M (b + 10)) - (M (b + i)))) (b + i)))) (b + i)))) (b + i))))) T Y) H := hP
          have hD : va_D A (MC G a g (upd (upd (upd (upd M (b + 10) ((M (b + 10)) - (M (b + i)))) (b + 38) (((upd M (b + 10) ((M (b + 10)) - (M (b + i)))) (b + 38)) + ((upd M (b + 10) ((M (b + 10)) - (M (b + i)))) (b + i)))) (b + i + 2) (((upd (upd M (b + 10) ((M (b + 10)) - (M (b + i)))) (b + 38) (((upd M (b + 10) ((M (b + 10)) - (M (b + i)))) (b + 38)) + ((upd M (b + 10) ((M (b + 10)) - (M (b + i)))) (b + i)))) (b + i + 2)) - ((upd (upd M (b + 10) ((M (b + 10)) - (M (b + i)))) (b + 38) (((upd M (b + 10) ((M (b + 10)) - (M (b + i)))) (b + 38)) + ((upd M (b + 10) ((M (b + 10)) - (M (b + i)))) (b + i)))) (b + i)))) (b + i + 4) (((upd (upd (upd M (b + 10) ((M (b + 10)) - (M (b + i)))) (b + 38) (((upd M (b + 10) ((M (b + 10)) - (M (b + i)))) (b + 38)) + ((upd M (b + 10) ((M (b + 10)) - (M (b + i)))) (b + i)))) (b + i + 2) (((upd (upd M (b + 10) ((M (b + 10)) - (M (b + i)))) (b + 38) (((upd M (b + 10) ((M (b + 10)) - (M (b + i)))) (b + 38)) + ((upd M (b + 10) ((M (b + 10)) - (M (b + i)))) (b + i)))) (b + i + 2)) - ((upd (upd M (b + 10) ((M (b + 10)) - (M (b + i)))) (b + 38) (((upd M (b + 10) ((M (b + 10)) - (M (b + i)))) (b + 38)) + ((upd M (b + 10) ((M (b + 10)) - (M (b + i)))) (b + i)))) (b + i)))) (b + i + 4)) + ((nI 3) * ((upd (upd (upd M (b + 10) ((M (b + 10)) - (M (b + i)))) (b + 38) (((upd M (b + 10) ((M (b + 10)) - (M (b + i)))) (b + 38)) + ((upd M (b + 10) ((M (b + 10)) - (M (b + i)))) (b + i)))) (b + i + 2) (((upd (upd M (b + 10) ((M (b + 10)) - (M (b + i)))) (b + 38) (((upd M (b + 10) ((M (b + 10)) - (M (b + i)))) (b + 38)) + ((upd M (b + 10) ((M (b + 10)) - (M (b + i)))) (b + i)))) (b + i + 2)) - ((upd (upd M (b + 10) ((M (b + 10)) - (M (b + i)))) (b + 38) (((upd M (b + 10) ((M (b + 10)) - (M (b + i)))) (b + 38)) + ((upd M (b + 10) ((M (b + 10)) - (M (b + i)))) (b + i)))) (b + i)))) (b + i))))) T Y) := hD
          refine lv_goto (tgt := 158) hx hb dX7_fires_148 (by decide) ?_
          exact end_V C0 hP hD hS (upd (upd (upd (upd M (b + 10) ((M (b + 10)) - (M (b + i)))) (b + 38) (((upd M (b + 10) ((M (b + 10)) - (M (b + i)))) (b + 38)) + ((upd M (b + 10) ((M (b + 10)) - (M (b + i)))) (b + i)))) (b + i + 2) (((upd (upd M (b + 10) ((M (b + 10)) - (M (b + i)))) (b + 38) (((upd M (b + 10) ((M (b + 10)) - (M (b + i)))) (b + 38)) + ((upd M (b + 10) ((M (b + 10)) - (M (b + i)))) (b + i)))) (b + i + 2)) - ((upd (upd M (b + 10) ((M (b + 10)) - (M (b + i)))) (b + 38) (((upd M (b + 10) ((M (b + 10)) - (M (b + i)))) (b + 38)) + ((upd M (b + 10) ((M (b + 10)) - (M (b + i)))) (b + i)))) (b + i)))) (b + i + 4) (((upd (upd (upd M (b + 10) ((M (b + 10)) - (M (b + i)))) (b + 38) (((upd M (b + 10) ((M (b + 10)) - (M (b + i)))) (b + 38)) + ((upd M (b + 10) ((M (b + 10)) - (M (b + i)))) (b + i)))) (b + i + 2) (((upd (upd M (b + 10) ((M (b + 10)) - (M (b + i)))) (b + 38) (((upd M (b + 10) ((M (b + 10)) - (M (b + i)))) (b + 38)) + ((upd M (b + 10) ((M (b + 10)) - (M (b + i)))) (b + i)))) (b + i + 2)) - ((upd (upd M (b + 10) ((M (b + 10)) - (M (b + i)))) (b + 38) (((upd M (b + 10) ((M (b + 10)) - (M (b + i)))) (b + 38)) + ((upd M (b + 10) ((M (b + 10)) - (M (b + i)))) (b + i)))) (b + i)))) (b + i + 4)) + ((nI 3) * ((upd (upd (upd M (b + 10) ((M (b + 10)) - (M (b + i)))) (b + 38) (((upd M (b + 10) ((M (b + 10)) - (M (b + i)))) (b + 38)) + ((upd M (b + 10) ((M (b + 10)) - (M (b + i)))) (b + i)))) (b + i + 2) (((upd (upd M (b + 10) ((M (b + 10)) - (M (b + i)))) (b + 38) (((upd M (b + 10) ((M (b + 10)) - (M (b + i)))) (b + 38)) + ((upd M (b + 10) ((M (b + 10)) - (M (b + i)))) (b + i)))) (b + i + 2)) - ((upd (upd M (b + 10) ((M (b + 10)) - (M (b + i)))) (b + 38) (((upd M (b + 10) ((M (b + 10)) - (M (b + i)))) (b + 38)) + ((upd M (b + 10) ((M (b + 10)) - (M (b + i)))) (b + i)))) (b + i)))) (b + i))))) (by simp only [f_X7_fires, if_pos c_1, if_neg c_2, if_neg c_3, if_neg c_4]) rfl dX7_fires_158
  · refine lv_aload_n hx hb dX7_fires_16 rfl (lv_at hl 1 rfl) ?_
    refine va_get (D := G.1) (ci := 7) (v := .ref (a 1)) (C := RX7) (T := TX7) (N := 11) hx hb hts in_X7_fires_RX7 hown hK.1 hP 0 rfl rfl 0 (by decide) (hts _ k_X7_fires_f7) (fun _ h9 => h9) rfl dX7_fires_17 ?_
    refine lv_iload_n hx hb dX7_fires_20 rfl (lv_at hl 0 rfl) ?_
    refine lv_bipush (v := (nI 6)) hx hb dX7_fires_21 (by decide) ?_
    refine n_iadd (i := b + i) (j := 6) hx hb dX7_fires_23 ?_
    refine lv_dup2_11 hx hb dX7_fires_24 rfl rfl ?_
    refine n_iald (f := M) (j := b + i + 6) hx hb hK hP 1 rfl (by omega) (by decide) dX7_fires_25 ?_
    refine lv_iconst (v := (nI 1)) hx hb dX7_fires_26 (by decide) ?_
    refine lv_isub hx hb dX7_fires_27 ?_
    refine n_iast (f := M) (j := b + i + 6) (x := ((M (b + i + 6)) - (nI 1))) hx hb hK hP hD hS 1 rfl (by omega) (by decide) dX7_fires_28 (fun H locs hP hD hS => ?_)
    have hP : va_P G.1 vwCl (MC G a g (upd M (b + i + 6) ((M (b + i + 6)) - (nI 1))) T Y) H := hP
    have hD : va_D A (MC G a g (upd M (b + i + 6) ((M (b + i + 6)) - (nI 1))) T Y) := hD
    refine lv_goto (tgt := 158) hx hb dX7_fires_29 (by decide) ?_
    exact end_V C0 hP hD hS (upd M (b + i + 6) ((M (b + i + 6)) - (nI 1))) (by simp only [f_X7_fires, if_neg c_1]) rfl dX7_fires_158

def cpyM (M : Nat → Int32) (x y k : Nat) : Nat → Int32 := fun j => if 46 * y ≤ j ∧ j < 46 * y + k then M (46 * x + (j - 46 * y)) else M j
theorem cpyM_0 (M : Nat → Int32) (x y : Nat) : cpyM M x y 0 = M := by
  funext j
  unfold cpyM
  rw [if_neg (by omega)]
theorem cpyM_s (M : Nat → Int32) {x y k : Nat} (hxy : x ≠ y) (hk : k < 46) : upd (cpyM M x y k) (46 * y + k) (cpyM M x y k (46 * x + k)) = cpyM M x y (k + 1) := by
  funext j
  unfold upd cpyM
  by_cases h : j = 46 * y + k
  · subst h
    rw [if_pos rfl, if_neg (by omega), if_pos (by omega)]
    congr 1
    omega
  · rw [if_neg h]
    by_cases h2 : 46 * y ≤ j ∧ j < 46 * y + k
    · rw [if_pos h2, if_pos (by omega)]
    · rw [if_neg h2, if_neg (by omega)]

def f_X7_copies (M : Nat → Int32) (x y : Nat) : Nat → Int32 := cpyM M x y 46
set_option maxRecDepth 20000 in
theorem k_X7_copies_f7 : Cond.fieldLink RX7 7 "SteamRationsModel" "s" "[I" ∈ wsX7_copies := by decide +kernel
set_option maxRecDepth 20000 in
theorem in_X7_copies_RX7 : ∀ w ∈ u_ws RX7 TX7 11, w ∈ wsX7_copies := by decide +kernel
theorem cd_X7_copies : yX7_copies.cls = RX7 ∧ yX7_copies.cls ≠ "java/lang/invoke/MethodHandle" ∧ yX7_copies.cls ≠ "java/lang/invoke/VarHandle" ∧ (parseMethodDescriptor yX7_copies.desc).map (fun d => d.parameters.length) = some 2 := by decide +kernel
set_option maxHeartbeats 4000000 in
set_option maxRecDepth 100000 in
theorem c_X7_copies (l : Launch) (G : GG) (a : Nat → Nat) (g : (Nat → Int32)) (M : (Nat → Int32)) (T : (Nat → Int32)) (Y : (Nat → Int32)) (sz : Nat) (x : Nat) (y : Nat) (hx8 : x < 8) (hy8 : y < 8) (hxy : x ≠ y) : Met l yX7_copies wsX7_copies ({ frames := 0, cells := 0, slots := 0, locals := 0 }) (Pre G [.ref (a 0), .int (nI x), .int (nI y)] (MC G a g M T Y) sz) (PV G (va_A (MC G a g M T Y) sz) (fun u : (Nat → Int32) => f_X7_copies M x y = u) (fun u : (Nat → Int32) => MC G a g u T Y)) 0 0 (va_A (MC G a g M T Y) sz) := by
  refine Met.walk (cc := cX7_copies) (maxL := 4) (ret := none) (Qc := fun A => PV G A (fun u : (Nat → Int32) => f_X7_copies M x y = u) (fun u : (Nat → Int32) => MC G a g u T Y)) (by decide) rfl (Nat.le_of_ble_eq_true rfl) ?_
  intro p e s m below meth c A H C0 _ hK hsz hP hD hA hS ls hl
  have hx := C0.1
  have hb := C0.2.1
  have hown : s.vm.findClass RX7 = some m.cls := C0.2.2.2.2.1
  have hml := C0.2.2.2.1
  have hts : ∀ w ∈ wsX7_copies, w.before [.ref (a 0), .int (nI x), .int (nI y)].toArray s = true := C0.2.2.2.2.2.1
  have hl : lv_has ls 4 [(0, .ref (a 0)), (1, .int (nI x)), (2, .int (nI y))] := hl
  have h_X7_copies_2 : ∀ (n : Nat) (M_2 : (Nat → Int32)) (i : Nat), 46 - i < n → (i ≤ 46) → (M_2 = cpyM M x y i) → ∀ (H : Heap) (locs : List Loc) (ls : Array Slot), va_P G.1 vwCl (MC G a g M_2 T Y) H → va_D A (MC G a g M_2 T Y) → va_S A s.heap H locs → lv_has ls 4 [(3, .int (nI i)), (0, .ref (a 0)), (1, .int (nI x)), (2, .int (nI y))] → W p l e ({ frames := 0, cells := 0, slots := 0, locals := 0 }) s m ([.ref (a 0), .int (nI x), .int (nI y)] : List Value).toArray below meth c H locs 0 0 (MQ below (PV G A (fun u : (Nat → Int32) => f_X7_copies M x y = u) (fun u : (Nat → Int32) => MC G a g u T Y)) ([.ref (a 0), .int (nI x), .int (nI y)] : List Value).toArray s 0 0 A) (F0 m 2 ls []) := by
    intro n
    induction n with
    | zero =>
      intro M_2 i hm
      exact absurd hm (Nat.not_lt_zero _)
    | succ n ih =>
      intro M_2 i hm hi hM  H locs ls hP hD hS hl
      refine lv_iload_n hx hb dX7_copies_2 rfl (lv_at hl 0 rfl) ?_
      refine lv_bipush (v := (nI 46)) hx hb dX7_copies_3 (by decide) ?_
      refine lv_icmp_ge (tgt := 36) hx hb dX7_copies_5 (by decide) (fun c_1 => ?_) (fun c_1 => ?_)
      · have c_1n : 46 ≤ i := (nI_leI (by omega) (by omega)).mp c_1
        have e46 : i = 46 := by omega
        rw [e46] at hM
        rw [hM] at hP hD
        exact end_V C0 hP hD hS (cpyM M x y 46) rfl rfl dX7_copies_36
      · have c_1n : ¬ (46 ≤ i) := fun z => c_1 ((nI_leI (by omega) (by omega)).mpr z)
        refine lv_aload_n hx hb dX7_copies_8 rfl (lv_at hl 1 rfl) ?_
        refine va_get (D := G.1) (ci := 7) (v := .ref (a 1)) (C := RX7) (T := TX7) (N := 11) hx hb hts in_X7_copies_RX7 hown hK.1 hP 0 rfl rfl 0 (by decide) (hts _ k_X7_copies_f7) (fun _ h9 => h9) rfl dX7_copies_9 ?_
        refine lv_bipush (v := (nI 46)) hx hb dX7_copies_12 (by decide) ?_
        refine lv_iload_n hx hb dX7_copies_14 rfl (lv_at hl 3 rfl) ?_
        refine n_imul (i := 46) (j := y) hx hb dX7_copies_15 ?_
        refine lv_iload_n hx hb dX7_copies_16 rfl (lv_at hl 0 rfl) ?_
        refine n_iadd (i := 46 * y) (j := i) hx hb dX7_copies_17 ?_
        refine W.eq (g2 := F0 m 18 ls ([.int (nI ((46 * y) + i)), .ref (a 1)])) (by first | rfl | (simp only [F0]; congr 3; omega)) ?_
        refine lv_aload_n hx hb dX7_copies_18 rfl (lv_at hl 1 rfl) ?_
        refine va_get (D := G.1) (ci := 7) (v := .ref (a 1)) (C := RX7) (T := TX7) (N := 11) hx hb hts in_X7_copies_RX7 hown hK.1 hP 0 rfl rfl 0 (by decide) (hts _ k_X7_copies_f7) (fun _ h9 => h9) rfl dX7_copies_19 ?_
        refine lv_bipush (v := (nI 46)) hx hb dX7_copies_22 (by decide) ?_
        refine lv_iload_n hx hb dX7_copies_24 rfl (lv_at hl 2 rfl) ?_
        refine n_imul (i := 46) (j := x) hx hb dX7_copies_25 ?_
        refine lv_iload_n hx hb dX7_copies_26 rfl (lv_at hl 0 rfl) ?_
        refine n_iadd (i := 46 * x) (j := i) hx hb dX7_copies_27 ?_
        refine W.eq (g2 := F0 m 28 ls ([.int (nI ((46 * x) + i)), .ref (a 1), .int (nI ((46 * y) + i)), .ref (a 1)])) (by first | rfl | (simp only [F0]; congr 3; omega)) ?_
        refine n_iald (f := M_2) (j := (46 * x) + i) hx hb hK hP 1 rfl (by omega) (by decide) dX7_copies_28 ?_
        refine n_iast (f := M_2) (j := (46 * y) + i) (x := (M_2 ((46 * x) + i))) hx hb hK hP hD hS 1 rfl (by omega) (by decide) dX7_copies_29 (fun H locs hP hD hS => ?_)
        have hP : va_P G.1 vwCl (MC G a g (upd M_2 ((46 * y) + i) (M_2 ((46 * x) + i))) T Y) H := hP
        have hD : va_D A (MC G a g (upd M_2 ((46 * y) + i) (M_2 ((46 * x) + i))) T Y) := hD
        refine lv_iinc (v := (nI (i + 1))) (lv' := [(3, .int (nI (i + 1))), (0, .ref (a 0)), (1, .int (nI x)), (2, .int (nI y))]) hx hb dX7_copies_30 hl (k := 0) rfl (inc1 i) (by decide) rfl (fun ls hl => ?_)
        refine lv_goto (tgt := 2) hx hb dX7_copies_33 (by decide) ?_
        exact ih (upd M_2 ((46 * y) + i) (M_2 ((46 * x) + i))) (i + 1) (by omega) (by omega) (by rw [hM]; exact cpyM_s M hxy (by omega))  _ _ _ hP hD hS (lv_sub hl [0, 1, 2, 3] rfl)
  refine lv_iconst (v := (nI 0)) hx hb dX7_copies_0 (by decide) ?_
  refine lv_istore_n (lv' := [(3, .int (nI 0)), (0, .ref (a 0)), (1, .int (nI x)), (2, .int (nI y))]) hx hb dX7_copies_1 rfl hl (by decide) rfl (fun ls hl => ?_)
  exact h_X7_copies_2 47 M 0 (by omega) (by omega) (cpyM_0 M x y).symm  _ _ _ hP hD hS (lv_sub hl [0, 1, 2, 3] rfl)
