def s_X7_why_72 (p0 : Int32) : Nat → (Nat → Int32) → Int32 → Int32 × (Nat → Int32)
  | 0, _, _ => (0, fun _ => 0)
  | n + 1, M_72, z =>
    if (M_72 (335 + p0.toNatClampNeg)) < 0 then
      if (M_72 367) = z then
        ((nI 0), M_72)
      else
        ((nI 3), M_72)
    else
      if (M_72 367) = z then
        match f_X7_passes M_72 322 with
        | M_c11 =>
          s_X7_why_72 p0 n M_c11 z
      else
        ((nI 3), M_72)
def f_X7_why (M : (Nat → Int32)) (x : Nat) (p0 : Int32) (p1 : Int32) : Int32 × (Nat → Int32) :=
  if p0 < 0 then
    ((nI 1), M)
  else
    if (M (((46 * x) + 13) + p0.toNatClampNeg)) < 0 then
      if (nI 10) ≤ (f_X7_pressure M (46 * x)) then
        match f_X7_puts (cpyM M x 7 46) 322 p0.toNatClampNeg p1 with
        | M_c6 =>
          s_X7_why_72 p0 11 M_c6 (M_c6 367)
      else
        ((nI 2), M)
    else
      ((nI 1), M)
set_option maxRecDepth 20000 in
theorem k_X7_why_f7 : Cond.fieldLink RX7 7 "SteamRationsModel" "s" "[I" ∈ wsX7_why := by decide +kernel
set_option maxRecDepth 20000 in
theorem in_X7_why_RX7 : ∀ w ∈ u_ws RX7 TX7 11, w ∈ wsX7_why := by decide +kernel
theorem cd_X7_why : yX7_why.cls = RX7 ∧ yX7_why.cls ≠ "java/lang/invoke/MethodHandle" ∧ yX7_why.cls ≠ "java/lang/invoke/VarHandle" ∧ (parseMethodDescriptor yX7_why.desc).map (fun d => d.parameters.length) = some 3 := by decide +kernel
set_option maxHeartbeats 4000000 in
set_option maxRecDepth 100000 in
theorem c_X7_why (l : Launch) (G : GG) (a : Nat → Nat) (g : (Nat → Int32)) (M : (Nat → Int32)) (T : (Nat → Int32)) (Y : (Nat → Int32)) (sz : Nat) (x : Nat) (p0 : Int32) (p1 : Int32) (v : (Nat → Int32)) (q : (Nat → Int32)) (hx6 : x ≤ 6) (hAA : At M (46 * x) v q) (hv : InvW v) (hmc : p0 < nI 4) (hk : p1 = 0 ∨ p1 = 1 ∨ p1 = 2) : Met l yX7_why wsX7_why ({ frames := 4, cells := 0, slots := 0, locals := 92 }) (Pre G [.ref (a 0), .int (nI x), .int p0, .int p1] (MC G a g M T Y) sz) (PI G (va_A (MC G a g M T Y) sz) (fun r (u : (Nat → Int32)) => f_X7_why M x p0 p1 = (r, u)) (fun u : (Nat → Int32) => MC G a g u T Y)) 0 0 (va_A (MC G a g M T Y) sz) := by
  refine Met.walk (cc := cX7_why) (maxL := 7) (ret := (some .int)) (Qc := fun A => PI G A (fun r (u : (Nat → Int32)) => f_X7_why M x p0 p1 = (r, u)) (fun u : (Nat → Int32) => MC G a g u T Y)) (by decide) rfl (Nat.le_of_ble_eq_true rfl) ?_
  intro p e s m below meth c A H C0 _ hK hsz hP hD hA hS ls hl
  have hx := C0.1
  have hb := C0.2.1
  have hown : s.vm.findClass RX7 = some m.cls := C0.2.2.2.2.1
  have hml := C0.2.2.2.1
  have hts : ∀ w ∈ wsX7_why, w.before [.ref (a 0), .int (nI x), .int p0, .int p1].toArray s = true := C0.2.2.2.2.2.1
  have hl : lv_has ls 7 [(0, .ref (a 0)), (1, .int (nI x)), (2, .int p0), (3, .int p1)] := hl
  have h_X7_why_72 : ∀ (n : Nat) (M_72 : (Nat → Int32)) (z : Int32), muW M_72 z p0.toNatClampNeg < n → (LoopOK M_72) → (p0.toNatClampNeg < 4) → f_X7_why M x p0 p1 = s_X7_why_72 p0 n M_72 z → ∀ (H : Heap) (locs : List Loc) (ls : Array Slot), va_P G.1 vwCl (MC G a g M_72 T Y) H → va_D A (MC G a g M_72 T Y) → va_S A s.heap H locs → lv_has ls 7 [(6, .int z), (5, .int (nI 322)), (0, .ref (a 0)), (2, .int (nI p0.toNatClampNeg))] → W p l e ({ frames := 4, cells := 0, slots := 0, locals := 92 }) s m ([.ref (a 0), .int (nI x), .int p0, .int p1] : List Value).toArray below meth c H locs 0 0 (MQ below (PI G A (fun r (u : (Nat → Int32)) => f_X7_why M x p0 p1 = (r, u)) (fun u : (Nat → Int32) => MC G a g u T Y)) ([.ref (a 0), .int (nI x), .int p0, .int p1] : List Value).toArray s 0 0 A) (F0 m 72 ls []) := by
    intro n
    induction n with
    | zero =>
      intro M_72 z hm
      exact absurd hm (Nat.not_lt_zero _)
    | succ n ih =>
      intro M_72 z hm hL hj0 hE H locs ls hP hD hS hl
      refine lv_aload_n hx hb dX7_why_72 rfl (lv_at hl 2 rfl) ?_
      refine va_get (D := G.1) (ci := 7) (v := .ref (a 1)) (C := RX7) (T := TX7) (N := 11) hx hb hts in_X7_why_RX7 hown hK.1 hP 0 rfl rfl 0 (by decide) (hts _ k_X7_why_f7) (fun _ h9 => h9) rfl dX7_why_73 ?_
      refine lv_iload hx hb dX7_why_76 (lv_at hl 1 rfl) ?_
      refine lv_bipush (v := (nI 13)) hx hb dX7_why_78 (by decide) ?_
      refine n_iadd (i := 322) (j := 13) hx hb dX7_why_80 ?_
      refine W.eq (g2 := F0 m 81 ls ([.int (nI 335), .ref (a 1)])) (by first | rfl | (simp only [F0]; congr 3; omega)) ?_
      refine lv_iload_n hx hb dX7_why_81 rfl (lv_at hl 3 rfl) ?_
      refine n_iadd (i := 335) (j := p0.toNatClampNeg) hx hb dX7_why_82 ?_
      refine n_iald (f := M_72) (j := 335 + p0.toNatClampNeg) hx hb hK hP 1 rfl (by omega) (by decide) dX7_why_83 ?_
      refine lv_if_lt (tgt := 111) hx hb dX7_why_84 (by decide) (fun c_7 => ?_) (fun c_7 => ?_)
      · refine lv_aload_n hx hb dX7_why_111 rfl (lv_at hl 2 rfl) ?_
        refine va_get (D := G.1) (ci := 7) (v := .ref (a 1)) (C := RX7) (T := TX7) (N := 11) hx hb hts in_X7_why_RX7 hown hK.1 hP 0 rfl rfl 0 (by decide) (hts _ k_X7_why_f7) (fun _ h9 => h9) rfl dX7_why_112 ?_
        refine lv_iload hx hb dX7_why_115 (lv_at hl 1 rfl) ?_
        refine lv_bipush (v := (nI 45)) hx hb dX7_why_117 (by decide) ?_
        refine n_iadd (i := 322) (j := 45) hx hb dX7_why_119 ?_
        refine W.eq (g2 := F0 m 120 ls ([.int (nI 367), .ref (a 1)])) (by first | rfl | (simp only [F0]; congr 3; omega)) ?_
        refine n_iald (f := M_72) (j := 367) hx hb hK hP 1 rfl (by decide) (by decide) dX7_why_120 ?_
        refine lv_iload hx hb dX7_why_121 (lv_at hl 0 rfl) ?_
        refine lv_icmp_ne (tgt := 130) hx hb dX7_why_123 (by decide) (fun c_8 => ?_) (fun c_8 => ?_)
        · refine lv_iconst (v := (nI 3)) hx hb dX7_why_130 (by decide) ?_
          exact end_I C0 hP hD hS M_72 (hE.trans (by simp only [s_X7_why_72, if_pos c_7, if_neg c_8])) rfl dX7_why_131
        · refine lv_iconst (v := (nI 0)) hx hb dX7_why_126 (by decide) ?_
          refine lv_goto (tgt := 131) hx hb dX7_why_127 (by decide) ?_
          exact end_I C0 hP hD hS M_72 (hE.trans (by simp only [s_X7_why_72, if_pos c_7, if_pos c_8])) rfl dX7_why_131
      · refine lv_aload_n hx hb dX7_why_87 rfl (lv_at hl 2 rfl) ?_
        refine va_get (D := G.1) (ci := 7) (v := .ref (a 1)) (C := RX7) (T := TX7) (N := 11) hx hb hts in_X7_why_RX7 hown hK.1 hP 0 rfl rfl 0 (by decide) (hts _ k_X7_why_f7) (fun _ h9 => h9) rfl dX7_why_88 ?_
        refine lv_iload hx hb dX7_why_91 (lv_at hl 1 rfl) ?_
        refine lv_bipush (v := (nI 45)) hx hb dX7_why_93 (by decide) ?_
        refine n_iadd (i := 322) (j := 45) hx hb dX7_why_95 ?_
        refine W.eq (g2 := F0 m 96 ls ([.int (nI 367), .ref (a 1)])) (by first | rfl | (simp only [F0]; congr 3; omega)) ?_
        refine n_iald (f := M_72) (j := 367) hx hb hK hP 1 rfl (by decide) (by decide) dX7_why_96 ?_
        refine lv_iload hx hb dX7_why_97 (lv_at hl 0 rfl) ?_
        refine lv_icmp_ne (tgt := 111) hx hb dX7_why_99 (by decide) (fun c_9 => ?_) (fun c_9 => ?_)
        · refine lv_aload_n hx hb dX7_why_111 rfl (lv_at hl 2 rfl) ?_
          refine va_get (D := G.1) (ci := 7) (v := .ref (a 1)) (C := RX7) (T := TX7) (N := 11) hx hb hts in_X7_why_RX7 hown hK.1 hP 0 rfl rfl 0 (by decide) (hts _ k_X7_why_f7) (fun _ h9 => h9) rfl dX7_why_112 ?_
          refine lv_iload hx hb dX7_why_115 (lv_at hl 1 rfl) ?_
          refine lv_bipush (v := (nI 45)) hx hb dX7_why_117 (by decide) ?_
          refine n_iadd (i := 322) (j := 45) hx hb dX7_why_119 ?_
          refine W.eq (g2 := F0 m 120 ls ([.int (nI 367), .ref (a 1)])) (by first | rfl | (simp only [F0]; congr 3; omega)) ?_
          refine n_iald (f := M_72) (j := 367) hx hb hK hP 1 rfl (by decide) (by decide) dX7_why_120 ?_
          refine lv_iload hx hb dX7_why_121 (lv_at hl 0 rfl) ?_
          refine lv_icmp_ne (tgt := 130) hx hb dX7_why_123 (by decide) (fun c_10 => ?_) (fun c_10 => absurd c_10 c_9)
          refine lv_iconst (v := (nI 3)) hx hb dX7_why_130 (by decide) ?_
          exact end_I C0 hP hD hS M_72 (hE.trans (by simp only [s_X7_why_72, if_neg c_7, if_neg c_9])) rfl dX7_why_131
        · refine lv_aload_n hx hb dX7_why_102 rfl (lv_at hl 2 rfl) ?_
          refine lv_iload hx hb dX7_why_103 (lv_at hl 1 rfl) ?_
          refine gcall_V (run_V (As := [.int (nI 322)]) (rest := []) C0 hK hP hD (c_X7_passes l G a g M_72 T Y H.size 322 (by omega)) (cwV 1 hts gX7_why_X7_passes rfl rfl rfl cd_X7_passes ⟨Nat.le_of_ble_eq_true rfl, Nat.le_of_ble_eq_true rfl⟩) [0, 1, 2, 3] rfl rfl 0 (ci := 7) rfl rfl rfl rfl hl.1 rfl (Nat.le_of_ble_eq_true rfl) dX7_why_105 ⟨Nat.le_of_ble_eq_true rfl, Nat.le_of_ble_eq_true rfl⟩) hP hD hS hA [0, 1, 2, 3] rfl rfl (fun _ => rfl) (fun u_11 H locs hw_11 hP hD hS => ?_)
          obtain ⟨M_c11, rfl⟩ : ∃ z, z = u_11 := ⟨_, rfl⟩
          have hP : va_P G.1 vwCl (MC G a g M_c11 T Y) H := hP
          have hD : va_D A (MC G a g M_c11 T Y) := hD
          refine lv_goto (tgt := 72) hx hb dX7_why_108 (by decide) ?_
          exact ih M_c11 z (by rw [← hw_11]; exact Nat.lt_of_lt_of_le (hL.dec hj0 (Int32.not_lt.mp c_7) c_9) (Nat.le_of_lt_succ hm)) (by rw [← hw_11]; exact hL.step) hj0 (hE.trans (by simp only [s_X7_why_72, if_neg c_7, if_pos c_9, hw_11])) _ _ _ hP hD hS (lv_sub hl [0, 1, 2, 3] rfl)
  refine lv_bipush (v := (nI 46)) hx hb dX7_why_0 (by decide) ?_
  refine lv_iload_n hx hb dX7_why_2 rfl (lv_at hl 1 rfl) ?_
  refine n_imul (i := 46) (j := x) hx hb dX7_why_3 ?_
  refine lv_istore (lv' := [(4, .int (nI (46 * x))), (0, .ref (a 0)), (1, .int (nI x)), (2, .int p0), (3, .int p1)]) hx hb dX7_why_4 hl (by decide) rfl (fun ls hl => ?_)
  refine lv_iload_n hx hb dX7_why_6 rfl (lv_at hl 3 rfl) ?_
  refine lv_if_lt (tgt := 25) hx hb dX7_why_7 (by decide) (fun c_1 => ?_) (fun c_1 => ?_)
  · refine lv_iconst (v := (nI 1)) hx hb dX7_why_25 (by decide) ?_
    exact end_I C0 hP hD hS M (by simp only [f_X7_why, if_pos c_1]) rfl dX7_why_26
  · have ej_2 : p0 = nI p0.toNatClampNeg := natOf c_1
    have hj_2 : p0.toNatClampNeg < 4 := natLt c_1 (ltOf hmc) (by decide)
    have hl : lv_has ls 7 [(4, .int (nI (46 * x))), (0, .ref (a 0)), (1, .int (nI x)), (2, .int (nI p0.toNatClampNeg)), (3, .int p1)] := by rw [← ej_2]; exact hl
    refine lv_aload_n hx hb dX7_why_10 rfl (lv_at hl 1 rfl) ?_
    refine va_get (D := G.1) (ci := 7) (v := .ref (a 1)) (C := RX7) (T := TX7) (N := 11) hx hb hts in_X7_why_RX7 hown hK.1 hP 0 rfl rfl 0 (by decide) (hts _ k_X7_why_f7) (fun _ h9 => h9) rfl dX7_why_11 ?_
    refine lv_iload hx hb dX7_why_14 (lv_at hl 0 rfl) ?_
    refine lv_bipush (v := (nI 13)) hx hb dX7_why_16 (by decide) ?_
    refine n_iadd (i := 46 * x) (j := 13) hx hb dX7_why_18 ?_
    refine W.eq (g2 := F0 m 19 ls ([.int (nI ((46 * x) + 13)), .ref (a 1)])) (by first | rfl | (simp only [F0]; congr 3; omega)) ?_
    refine lv_iload_n hx hb dX7_why_19 rfl (lv_at hl 3 rfl) ?_
    refine n_iadd (i := (46 * x) + 13) (j := p0.toNatClampNeg) hx hb dX7_why_20 ?_
    refine W.eq (g2 := F0 m 21 ls ([.int (nI (((46 * x) + 13) + p0.toNatClampNeg)), .ref (a 1)])) (by first | rfl | (simp only [F0]; congr 3; omega)) ?_
    refine n_iald (f := M) (j := ((46 * x) + 13) + p0.toNatClampNeg) hx hb hK hP 1 rfl (by omega) (by decide) dX7_why_21 ?_
    refine lv_if_lt (tgt := 27) hx hb dX7_why_22 (by decide) (fun c_2 => ?_) (fun c_2 => ?_)
    · refine lv_aload_n hx hb dX7_why_27 rfl (lv_at hl 1 rfl) ?_
      refine lv_iload hx hb dX7_why_28 (lv_at hl 0 rfl) ?_
      refine gcall_I (run_V (As := [.int (nI (46 * x))]) (rest := []) C0 hK hP hD (c_X7_pressure l G a g M T Y H.size (46 * x) (by omega)) (cwV 1 hts gX7_why_X7_pressure rfl rfl rfl cd_X7_pressure ⟨Nat.le_of_ble_eq_true rfl, Nat.le_of_ble_eq_true rfl⟩) [0, 1, 2, 3] rfl rfl 0 (ci := 7) rfl rfl rfl rfl hl.1 rfl (Nat.le_of_ble_eq_true rfl) dX7_why_30 ⟨Nat.le_of_ble_eq_true rfl, Nat.le_of_ble_eq_true rfl⟩) hP hD hS hA [0, 1, 2, 3] rfl rfl (fun _ => rfl) (fun r_3 _ H locs hw_3 hP hD hS => ?_)
      subst hw_3
      have hP : va_P G.1 vwCl (MC G a g M T Y) H := hP
      have hD : va_D A (MC G a g M T Y) := hD
      refine lv_bipush (v := (nI 10)) hx hb dX7_why_33 (by decide) ?_
      refine lv_icmp_ge (tgt := 40) hx hb dX7_why_35 (by decide) (fun c_4 => ?_) (fun c_4 => ?_)
      · refine lv_aload_n hx hb dX7_why_40 rfl (lv_at hl 1 rfl) ?_
        refine lv_iload_n hx hb dX7_why_41 rfl (lv_at hl 2 rfl) ?_
        refine lv_bipush (v := (nI 7)) hx hb dX7_why_42 (by decide) ?_
        refine gcall_V (run_V (As := [.int (nI x), .int (nI 7)]) (rest := []) C0 hK hP hD (c_X7_copies l G a g M T Y H.size x 7 (by omega) (by omega) (by omega)) (cwV 2 hts gX7_why_X7_copies rfl rfl rfl cd_X7_copies ⟨Nat.le_of_ble_eq_true rfl, Nat.le_of_ble_eq_true rfl⟩) [0, 1, 2, 3] rfl rfl 0 (ci := 7) rfl rfl rfl rfl hl.1 rfl (Nat.le_of_ble_eq_true rfl) dX7_why_44 ⟨Nat.le_of_ble_eq_true rfl, Nat.le_of_ble_eq_true rfl⟩) hP hD hS hA [0, 1, 2, 3] rfl rfl (fun _ => rfl) (fun u_5 H locs hw_5 hP hD hS => ?_)
        obtain ⟨M_c5, rfl⟩ : ∃ z, z = u_5 := ⟨_, rfl⟩
        simp only [f_X7_copies, Prod.mk.injEq] at hw_5
        obtain rfl := hw_5
        have hP : va_P G.1 vwCl (MC G a g (cpyM M x 7 46) T Y) H := hP
        have hD : va_D A (MC G a g (cpyM M x 7 46) T Y) := hD
        refine lv_sipush (v := (nI 322)) hx hb dX7_why_47 (by decide) ?_
        refine lv_istore (lv' := [(5, .int (nI 322)), (4, .int (nI (46 * x))), (0, .ref (a 0)), (1, .int (nI x)), (2, .int (nI p0.toNatClampNeg)), (3, .int p1)]) hx hb dX7_why_50 hl (by decide) rfl (fun ls hl => ?_)
        refine lv_aload_n hx hb dX7_why_52 rfl (lv_at hl 2 rfl) ?_
        refine lv_iload hx hb dX7_why_53 (lv_at hl 0 rfl) ?_
        refine lv_iload_n hx hb dX7_why_55 rfl (lv_at hl 4 rfl) ?_
        refine lv_iload_n hx hb dX7_why_56 rfl (lv_at hl 5 rfl) ?_
        refine gcall_V (run_V (As := [.int (nI 322), .int (nI p0.toNatClampNeg), .int p1]) (rest := []) C0 hK hP hD (c_X7_puts l G a g (cpyM M x 7 46) T Y H.size 322 p0.toNatClampNeg p1 (by omega) (by omega)) (cwV 3 hts gX7_why_X7_puts rfl rfl rfl cd_X7_puts ⟨Nat.le_of_ble_eq_true rfl, Nat.le_of_ble_eq_true rfl⟩) [0, 1, 2, 3] rfl rfl 0 (ci := 7) rfl rfl rfl rfl hl.1 rfl (Nat.le_of_ble_eq_true rfl) dX7_why_57 ⟨Nat.le_of_ble_eq_true rfl, Nat.le_of_ble_eq_true rfl⟩) hP hD hS hA [0, 1, 2, 3] rfl rfl (fun _ => rfl) (fun u_6 H locs hw_6 hP hD hS => ?_)
        obtain ⟨M_c6, rfl⟩ : ∃ z, z = u_6 := ⟨_, rfl⟩
        have hP : va_P G.1 vwCl (MC G a g M_c6 T Y) H := hP
        have hD : va_D A (MC G a g M_c6 T Y) := hD
        refine lv_aload_n hx hb dX7_why_60 rfl (lv_at hl 2 rfl) ?_
        refine va_get (D := G.1) (ci := 7) (v := .ref (a 1)) (C := RX7) (T := TX7) (N := 11) hx hb hts in_X7_why_RX7 hown hK.1 hP 0 rfl rfl 0 (by decide) (hts _ k_X7_why_f7) (fun _ h9 => h9) rfl dX7_why_61 ?_
        refine lv_iload hx hb dX7_why_64 (lv_at hl 0 rfl) ?_
        refine lv_bipush (v := (nI 45)) hx hb dX7_why_66 (by decide) ?_
        refine n_iadd (i := 322) (j := 45) hx hb dX7_why_68 ?_
        refine W.eq (g2 := F0 m 69 ls ([.int (nI 367), .ref (a 1)])) (by first | rfl | (simp only [F0]; congr 3; omega)) ?_
        refine n_iald (f := M_c6) (j := 367) hx hb hK hP 1 rfl (by decide) (by decide) dX7_why_69 ?_
        refine lv_istore (lv' := [(6, .int (M_c6 367)), (5, .int (nI 322)), (4, .int (nI (46 * x))), (0, .ref (a 0)), (1, .int (nI x)), (2, .int (nI p0.toNatClampNeg)), (3, .int p1)]) hx hb dX7_why_70 hl (by decide) rfl (fun ls hl => ?_)
        exact h_X7_why_72 11 M_c6 (M_c6 367) (by rw [← hw_6]; exact Nat.lt_of_le_of_lt ((LoopOK.start hAA hv (by omega) hk).mu _ (by omega)) (by decide)) (by rw [← hw_6]; exact LoopOK.start hAA hv (by omega) hk) (by omega) (by simp only [f_X7_why, if_neg c_1, if_pos c_2, if_pos c_4, hw_6]) _ _ _ hP hD hS (lv_sub hl [0, 1, 3, 5] rfl)
      · refine lv_iconst (v := (nI 2)) hx hb dX7_why_38 (by decide) ?_
        exact end_I C0 hP hD hS M (by simp only [f_X7_why, if_neg c_1, if_pos c_2, if_neg c_4]) rfl dX7_why_39
    · refine lv_iconst (v := (nI 1)) hx hb dX7_why_25 (by decide) ?_
      exact end_I C0 hP hD hS M (by simp only [f_X7_why, if_neg c_1, if_neg c_2]) rfl dX7_why_26
