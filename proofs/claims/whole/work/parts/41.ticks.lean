def s_X7_ticks_8 (x : Nat) (p0 : Int32) : Nat → (Nat → Int32) → Nat → (Nat → Int32)
  | 0, _, _ => fun _ => 0
  | n + 1, M_8, i =>
    if p0 ≤ (nI i) then
      M_8
    else
      match f_X7_passes M_8 (46 * x) with
      | M_c2 =>
        if (M_c2 ((46 * x) + 25)) ≤ 0 then
          s_X7_ticks_8 x p0 n M_c2 (i + 1)
        else
          match f_X7_why M_c2 x (f_X7_lowestEmpty M_c2 (46 * x)) (M_c2 ((46 * x) + 26)) with
          | (r_5, M_c5) =>
            if r_5 = 0 then
              match f_X7_leaves M_c5 (46 * x) 0 ((M_c5 (46 * x + 25)).toNatClampNeg) with
              | (r_7, M_c7) =>
                match f_X7_puts M_c7 (46 * x) ((f_X7_lowestEmpty M_c2 (46 * x)).toNatClampNeg) r_7 with
                | M_c8 =>
                  s_X7_ticks_8 x p0 n M_c8 (i + 1)
            else
              s_X7_ticks_8 x p0 n M_c5 (i + 1)
def f_X7_ticks (M : (Nat → Int32)) (x : Nat) (p0 : Int32) : (Nat → Int32) :=
  s_X7_ticks_8 x p0 (p0.toNatClampNeg + 1) M 0
set_option maxRecDepth 20000 in
theorem k_X7_ticks_f7 : Cond.fieldLink RX7 7 "SteamRationsModel" "s" "[I" ∈ wsX7_ticks := by decide +kernel
set_option maxRecDepth 20000 in
theorem in_X7_ticks_RX7 : ∀ w ∈ u_ws RX7 TX7 11, w ∈ wsX7_ticks := by decide +kernel
theorem cd_X7_ticks : yX7_ticks.cls = RX7 ∧ yX7_ticks.cls ≠ "java/lang/invoke/MethodHandle" ∧ yX7_ticks.cls ≠ "java/lang/invoke/VarHandle" ∧ (parseMethodDescriptor yX7_ticks.desc).map (fun d => d.parameters.length) = some 2 := by decide +kernel
set_option maxHeartbeats 4000000 in
set_option maxRecDepth 100000 in
theorem c_X7_ticks (l : Launch) (G : GG) (a : Nat → Nat) (g : (Nat → Int32)) (M : (Nat → Int32)) (T : (Nat → Int32)) (Y : (Nat → Int32)) (sz : Nat) (x : Nat) (p0 : Int32) (hx6 : x ≤ 6) (hT0 : TickOK M x) : Met l yX7_ticks wsX7_ticks ({ frames := 5, cells := 0, slots := 0, locals := 118 }) (Pre G [.ref (a 0), .int (nI x), .int p0] (MC G a g M T Y) sz) (PV G (va_A (MC G a g M T Y) sz) (fun u : (Nat → Int32) => f_X7_ticks M x p0 = u) (fun u : (Nat → Int32) => MC G a g u T Y)) 0 0 (va_A (MC G a g M T Y) sz) := by
  refine Met.walk (cc := cX7_ticks) (maxL := 6) (ret := none) (Qc := fun A => PV G A (fun u : (Nat → Int32) => f_X7_ticks M x p0 = u) (fun u : (Nat → Int32) => MC G a g u T Y)) (by decide) rfl (Nat.le_of_ble_eq_true rfl) ?_
  intro p e s m below meth c A H C0 _ hK hsz hP hD hA hS ls hl
  have hx := C0.1
  have hb := C0.2.1
  have hown : s.vm.findClass RX7 = some m.cls := C0.2.2.2.2.1
  have hml := C0.2.2.2.1
  have hts : ∀ w ∈ wsX7_ticks, w.before [.ref (a 0), .int (nI x), .int p0].toArray s = true := C0.2.2.2.2.2.1
  have hl : lv_has ls 6 [(0, .ref (a 0)), (1, .int (nI x)), (2, .int p0)] := hl
  have hN := natBig p0
  have h_X7_ticks_8 : ∀ (n : Nat) (M_8 : (Nat → Int32)) (i : Nat), p0.toNatClampNeg - i < n → (i ≤ p0.toNatClampNeg) → (TickOK M_8 x) → f_X7_ticks M x p0 = s_X7_ticks_8 x p0 n M_8 i → ∀ (H : Heap) (locs : List Loc) (ls : Array Slot), va_P G.1 vwCl (MC G a g M_8 T Y) H → va_D A (MC G a g M_8 T Y) → va_S A s.heap H locs → lv_has ls 6 [(4, .int (nI i)), (3, .int (nI (46 * x))), (0, .ref (a 0)), (1, .int (nI x)), (2, .int p0)] → W p l e ({ frames := 5, cells := 0, slots := 0, locals := 118 }) s m ([.ref (a 0), .int (nI x), .int p0] : List Value).toArray below meth c H locs 0 0 (MQ below (PV G A (fun u : (Nat → Int32) => f_X7_ticks M x p0 = u) (fun u : (Nat → Int32) => MC G a g u T Y)) ([.ref (a 0), .int (nI x), .int p0] : List Value).toArray s 0 0 A) (F0 m 8 ls []) := by
    intro n
    induction n with
    | zero =>
      intro M_8 i hm
      exact absurd hm (Nat.not_lt_zero _)
    | succ n ih =>
      intro M_8 i hm hi hT hE H locs ls hP hD hS hl
      refine lv_iload hx hb dX7_ticks_8 (lv_at hl 0 rfl) ?_
      refine lv_iload_n hx hb dX7_ticks_10 rfl (lv_at hl 4 rfl) ?_
      refine lv_icmp_ge (tgt := 76) hx hb dX7_ticks_11 (by decide) (fun c_1 => ?_) (fun c_1 => ?_)
      · exact end_V C0 hP hD hS M_8 (hE.trans (by simp only [s_X7_ticks_8, if_pos c_1])) rfl dX7_ticks_76
      · have c_1g : i < p0.toNatClampNeg := ltNat c_1 (by omega)
        refine lv_aload_n hx hb dX7_ticks_14 rfl (lv_at hl 2 rfl) ?_
        refine lv_iload_n hx hb dX7_ticks_15 rfl (lv_at hl 1 rfl) ?_
        refine gcall_V (run_V (As := [.int (nI (46 * x))]) (rest := []) C0 hK hP hD (c_X7_passes l G a g M_8 T Y H.size (46 * x) (by omega)) (cwV 1 hts gX7_ticks_X7_passes rfl rfl rfl cd_X7_passes ⟨Nat.le_of_ble_eq_true rfl, Nat.le_of_ble_eq_true rfl⟩) [0, 1, 2, 3] rfl rfl 0 (ci := 7) rfl rfl rfl rfl hl.1 rfl (Nat.le_of_ble_eq_true rfl) dX7_ticks_16 ⟨Nat.le_of_ble_eq_true rfl, Nat.le_of_ble_eq_true rfl⟩) hP hD hS hA [0, 1, 2, 3] rfl rfl (fun _ => rfl) (fun u_2 H locs hw_2 hP hD hS => ?_)
        obtain ⟨M_c2, rfl⟩ : ∃ z, z = u_2 := ⟨_, rfl⟩
        have hT1 : TickOK M_c2 x := by rw [← hw_2]; exact hT.pass
        obtain ⟨v1, q1, hA1, hv1⟩ := hT1
        have hlo : f_X7_lowestEmpty M_c2 (46 * x) < nI 4 := by rw [low_at hA1 hv1.1.1.1]; exact lowI_lt _
        have hP : va_P G.1 vwCl (MC G a g M_c2 T Y) H := hP
        have hD : va_D A (MC G a g M_c2 T Y) := hD
        refine lv_aload_n hx hb dX7_ticks_19 rfl (lv_at hl 2 rfl) ?_
        refine lv_iload_n hx hb dX7_ticks_20 rfl (lv_at hl 1 rfl) ?_
        refine gcall_I (run_V (As := [.int (nI (46 * x))]) (rest := []) C0 hK hP hD (c_X7_lowestEmpty l G a g M_c2 T Y H.size (46 * x) (by omega)) (cwV 1 hts gX7_ticks_X7_lowestEmpty rfl rfl rfl cd_X7_lowestEmpty ⟨Nat.le_of_ble_eq_true rfl, Nat.le_of_ble_eq_true rfl⟩) [0, 1, 2, 3] rfl rfl 0 (ci := 7) rfl rfl rfl rfl hl.1 rfl (Nat.le_of_ble_eq_true rfl) dX7_ticks_21 ⟨Nat.le_of_ble_eq_true rfl, Nat.le_of_ble_eq_true rfl⟩) hP hD hS hA [0, 1, 2, 3] rfl rfl (fun _ => rfl) (fun r_3 _ H locs hw_3 hP hD hS => ?_)
        subst hw_3
        have hP : va_P G.1 vwCl (MC G a g M_c2 T Y) H := hP
        have hD : va_D A (MC G a g M_c2 T Y) := hD
        refine lv_istore (lv' := [(5, .int (f_X7_lowestEmpty M_c2 (46 * x))), (4, .int (nI i)), (3, .int (nI (46 * x))), (0, .ref (a 0)), (1, .int (nI x)), (2, .int p0)]) hx hb dX7_ticks_24 hl (by decide) rfl (fun ls hl => ?_)
        refine lv_aload_n hx hb dX7_ticks_26 rfl (lv_at hl 3 rfl) ?_
        refine va_get (D := G.1) (ci := 7) (v := .ref (a 1)) (C := RX7) (T := TX7) (N := 11) hx hb hts in_X7_ticks_RX7 hown hK.1 hP 0 rfl rfl 0 (by decide) (hts _ k_X7_ticks_f7) (fun _ h9 => h9) rfl dX7_ticks_27 ?_
        refine lv_iload_n hx hb dX7_ticks_30 rfl (lv_at hl 2 rfl) ?_
        refine lv_bipush (v := (nI 25)) hx hb dX7_ticks_31 (by decide) ?_
        refine n_iadd (i := 46 * x) (j := 25) hx hb dX7_ticks_33 ?_
        refine W.eq (g2 := F0 m 34 ls ([.int (nI ((46 * x) + 25)), .ref (a 1)])) (by first | rfl | (simp only [F0]; congr 3; omega)) ?_
        refine n_iald (f := M_c2) (j := (46 * x) + 25) hx hb hK hP 1 rfl (by omega) (by decide) dX7_ticks_34 ?_
        refine lv_if_le (tgt := 70) hx hb dX7_ticks_35 (by decide) (fun c_4 => ?_) (fun c_4 => ?_)
        · refine lv_iinc (v := (nI (i + 1))) (lv' := [(4, .int (nI (i + 1))), (5, .int (f_X7_lowestEmpty M_c2 (46 * x))), (3, .int (nI (46 * x))), (0, .ref (a 0)), (1, .int (nI x)), (2, .int p0)]) hx hb dX7_ticks_70 hl (k := 1) rfl (inc1 i) (by decide) rfl (fun ls hl => ?_)
          refine lv_goto (tgt := 8) hx hb dX7_ticks_73 (by decide) ?_
          exact ih M_c2 (i + 1) (by omega) (by omega) ⟨v1, q1, hA1, hv1⟩ (hE.trans (by simp only [s_X7_ticks_8, if_neg c_1, hw_2, if_pos c_4])) _ _ _ hP hD hS (lv_sub hl [0, 2, 3, 4, 5] rfl)
        · refine lv_aload_n hx hb dX7_ticks_38 rfl (lv_at hl 3 rfl) ?_
          refine lv_iload_n hx hb dX7_ticks_39 rfl (lv_at hl 4 rfl) ?_
          refine lv_iload hx hb dX7_ticks_40 (lv_at hl 0 rfl) ?_
          refine lv_aload_n hx hb dX7_ticks_42 rfl (lv_at hl 3 rfl) ?_
          refine va_get (D := G.1) (ci := 7) (v := .ref (a 1)) (C := RX7) (T := TX7) (N := 11) hx hb hts in_X7_ticks_RX7 hown hK.1 hP 0 rfl rfl 0 (by decide) (hts _ k_X7_ticks_f7) (fun _ h9 => h9) rfl dX7_ticks_43 ?_
          refine lv_iload_n hx hb dX7_ticks_46 rfl (lv_at hl 2 rfl) ?_
          refine lv_bipush (v := (nI 26)) hx hb dX7_ticks_47 (by decide) ?_
          refine n_iadd (i := 46 * x) (j := 26) hx hb dX7_ticks_49 ?_
          refine W.eq (g2 := F0 m 50 ls ([.int (nI ((46 * x) + 26)), .ref (a 1), .int (f_X7_lowestEmpty M_c2 (46 * x)), .int (nI x), .ref (a 0)])) (by first | rfl | (simp only [F0]; congr 3; omega)) ?_
          refine n_iald (f := M_c2) (j := (46 * x) + 26) hx hb hK hP 1 rfl (by omega) (by decide) dX7_ticks_50 ?_
          refine gcall_I (run_V (As := [.int (nI x), .int (f_X7_lowestEmpty M_c2 (46 * x)), .int (M_c2 ((46 * x) + 26))]) (rest := []) C0 hK hP hD (c_X7_why l G a g M_c2 T Y H.size x (f_X7_lowestEmpty M_c2 (46 * x)) (M_c2 ((46 * x) + 26)) v1 q1 hx6 hA1 hv1.1 hlo (InvL.head hA1 hv1 c_4)) (cwV 3 hts gX7_ticks_X7_why rfl rfl rfl cd_X7_why ⟨Nat.le_of_ble_eq_true rfl, Nat.le_of_ble_eq_true rfl⟩) [0, 1, 2, 3] rfl rfl 0 (ci := 7) rfl rfl rfl rfl hl.1 rfl (Nat.le_of_ble_eq_true rfl) dX7_ticks_51 ⟨Nat.le_of_ble_eq_true rfl, Nat.le_of_ble_eq_true rfl⟩) hP hD hS hA [0, 1, 2, 3] rfl rfl (fun _ => rfl) (fun r_5 u_5 H locs hw_5 hP hD hS => ?_)
          obtain ⟨M_c5, rfl⟩ : ∃ z, z = u_5 := ⟨_, rfl⟩
          obtain ⟨hA2, hr51, -⟩ := why_keep hx6 hA1 hv1.1 hlo (InvL.head hA1 hv1 c_4) hw_5
          have hP : va_P G.1 vwCl (MC G a g M_c5 T Y) H := hP
          have hD : va_D A (MC G a g M_c5 T Y) := hD
          refine lv_if_ne (tgt := 70) hx hb dX7_ticks_54 (by decide) (fun c_6 => ?_) (fun c_6 => ?_)
          · refine lv_iinc (v := (nI (i + 1))) (lv' := [(4, .int (nI (i + 1))), (5, .int (f_X7_lowestEmpty M_c2 (46 * x))), (3, .int (nI (46 * x))), (0, .ref (a 0)), (1, .int (nI x)), (2, .int p0)]) hx hb dX7_ticks_70 hl (k := 1) rfl (inc1 i) (by decide) rfl (fun ls hl => ?_)
            refine lv_goto (tgt := 8) hx hb dX7_ticks_73 (by decide) ?_
            exact ih M_c5 (i + 1) (by omega) (by omega) ⟨v1, q1, hA2, hv1⟩ (hE.trans (by simp only [s_X7_ticks_8, if_neg c_1, hw_2, if_neg c_4, hw_5, if_neg c_6])) _ _ _ hP hD hS (lv_sub hl [0, 2, 3, 4, 5] rfl)
          · have ej_2 : (f_X7_lowestEmpty M_c2 (46 * x)) = nI (f_X7_lowestEmpty M_c2 (46 * x)).toNatClampNeg := natOf (whyV_nn (hr51 ▸ c_6))
            have hj_2 : (f_X7_lowestEmpty M_c2 (46 * x)).toNatClampNeg < 4 := natLt (whyV_nn (hr51 ▸ c_6)) (ltOf hlo) (by decide)
            have hl : lv_has ls 6 [(5, .int (nI ((f_X7_lowestEmpty M_c2 (46 * x)).toNatClampNeg))), (4, .int (nI i)), (3, .int (nI (46 * x))), (0, .ref (a 0)), (1, .int (nI x)), (2, .int p0)] := by rw [← ej_2]; exact hl
            refine lv_aload_n hx hb dX7_ticks_57 rfl (lv_at hl 3 rfl) ?_
            refine lv_iload_n hx hb dX7_ticks_58 rfl (lv_at hl 2 rfl) ?_
            refine lv_iload hx hb dX7_ticks_59 (lv_at hl 0 rfl) ?_
            refine lv_aload_n hx hb dX7_ticks_61 rfl (lv_at hl 3 rfl) ?_
            refine lv_iload_n hx hb dX7_ticks_62 rfl (lv_at hl 2 rfl) ?_
            refine lv_iconst (v := (nI 0)) hx hb dX7_ticks_63 (by decide) ?_
            refine gcall_I (run_V (As := [.int (nI (46 * x)), .int (nI 0)]) (rest := [.int (nI ((f_X7_lowestEmpty M_c2 (46 * x)).toNatClampNeg)), .int (nI (46 * x)), .ref (a 0)]) C0 hK hP hD (c_X7_leaves l G a g M_c5 T Y H.size (46 * x) 0 ((M_c5 (46 * x + 25)).toNatClampNeg) (by omega) (InvL.len hA2 hv1).1 (InvL.len hA2 hv1).2.1 (InvL.pos hA1 hA2 hv1 c_4)) (cwV 2 hts gX7_ticks_X7_leaves rfl rfl rfl cd_X7_leaves ⟨Nat.le_of_ble_eq_true rfl, Nat.le_of_ble_eq_true rfl⟩) [0, 1, 2, 3] rfl rfl 0 (ci := 7) rfl rfl rfl rfl hl.1 rfl (Nat.le_of_ble_eq_true rfl) dX7_ticks_64 ⟨Nat.le_of_ble_eq_true rfl, Nat.le_of_ble_eq_true rfl⟩) hP hD hS hA [0, 1, 2, 3] rfl rfl (fun _ => rfl) (fun r_7 u_7 H locs hw_7 hP hD hS => ?_)
            obtain ⟨M_c7, rfl⟩ : ∃ z, z = u_7 := ⟨_, rfl⟩
            have hP : va_P G.1 vwCl (MC G a g M_c7 T Y) H := hP
            have hD : va_D A (MC G a g M_c7 T Y) := hD
            refine gcall_V (run_V (As := [.int (nI (46 * x)), .int (nI ((f_X7_lowestEmpty M_c2 (46 * x)).toNatClampNeg)), .int r_7]) (rest := []) C0 hK hP hD (c_X7_puts l G a g M_c7 T Y H.size (46 * x) ((f_X7_lowestEmpty M_c2 (46 * x)).toNatClampNeg) r_7 (by omega) (by omega)) (cwV 3 hts gX7_ticks_X7_puts rfl rfl rfl cd_X7_puts ⟨Nat.le_of_ble_eq_true rfl, Nat.le_of_ble_eq_true rfl⟩) [0, 1, 2, 3] rfl rfl 0 (ci := 7) rfl rfl rfl rfl hl.1 rfl (Nat.le_of_ble_eq_true rfl) dX7_ticks_67 ⟨Nat.le_of_ble_eq_true rfl, Nat.le_of_ble_eq_true rfl⟩) hP hD hS hA [0, 1, 2, 3] rfl rfl (fun _ => rfl) (fun u_8 H locs hw_8 hP hD hS => ?_)
            obtain ⟨M_c8, rfl⟩ : ∃ z, z = u_8 := ⟨_, rfl⟩
            have hP : va_P G.1 vwCl (MC G a g M_c8 T Y) H := hP
            have hD : va_D A (MC G a g M_c8 T Y) := hD
            refine lv_iinc (v := (nI (i + 1))) (lv' := [(4, .int (nI (i + 1))), (5, .int (nI ((f_X7_lowestEmpty M_c2 (46 * x)).toNatClampNeg))), (3, .int (nI (46 * x))), (0, .ref (a 0)), (1, .int (nI x)), (2, .int p0)]) hx hb dX7_ticks_70 hl (k := 1) rfl (inc1 i) (by decide) rfl (fun ls hl => ?_)
            refine lv_goto (tgt := 8) hx hb dX7_ticks_73 (by decide) ?_
            exact ih M_c8 (i + 1) (by omega) (by omega) (by rw [← hw_8]; exact TickOK.fin hA2 hv1 (InvL.pos hA1 hA2 hv1 c_4) (by omega) hw_7) (hE.trans (by simp only [s_X7_ticks_8, if_neg c_1, hw_2, if_neg c_4, hw_5, if_pos c_6, hw_7, hw_8])) _ _ _ hP hD hS (lv_sub hl [0, 2, 3, 4, 5] rfl)
  refine lv_bipush (v := (nI 46)) hx hb dX7_ticks_0 (by decide) ?_
  refine lv_iload_n hx hb dX7_ticks_2 rfl (lv_at hl 1 rfl) ?_
  refine n_imul (i := 46) (j := x) hx hb dX7_ticks_3 ?_
  refine lv_istore_n (lv' := [(3, .int (nI (46 * x))), (0, .ref (a 0)), (1, .int (nI x)), (2, .int p0)]) hx hb dX7_ticks_4 rfl hl (by decide) rfl (fun ls hl => ?_)
  refine lv_iconst (v := (nI 0)) hx hb dX7_ticks_5 (by decide) ?_
  refine lv_istore (lv' := [(4, .int (nI 0)), (3, .int (nI (46 * x))), (0, .ref (a 0)), (1, .int (nI x)), (2, .int p0)]) hx hb dX7_ticks_6 hl (by decide) rfl (fun ls hl => ?_)
  exact h_X7_ticks_8 (p0.toNatClampNeg + 1) M 0 (by omega) (Nat.zero_le _) hT0 (by simp only [f_X7_ticks]) _ _ _ hP hD hS (lv_sub hl [0, 1, 2, 3, 4] rfl)
