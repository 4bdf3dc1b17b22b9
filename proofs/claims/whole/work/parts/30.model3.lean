theorem nlt0 {x : Int32} (h : 0 ≤ x) : ¬ x < 0 := by
  rw [Int32.le_iff_toInt_le] at h
  rw [Int32.lt_iff_toInt_lt]
  omega
theorem natLt3 {x y : Int32} {n : Nat} (h : ¬ x < 0) (h2 : ¬ y ≤ x) (h3 : y ≤ nI n) (hn : n < 2 ^ 31) : x.toNatClampNeg < n := by
  refine natLt h (fun z => h2 ?_) hn
  rw [Int32.le_iff_toInt_le] at h3 z ⊢
  omega
theorem typeIn {x : Int32} {ty : Nat} (h : x = nI ty) (h8 : ty ≤ 80) (hc : ¬ x = nI 80) : vp_in x 80 := by
  have h9 : ty ≠ 80 := fun z => hc (by rw [h, z])
  rw [h]
  exact vp_in_nI (by omega) (by decide)
theorem inNat0 {x hi : Int32} (h : ¬ f_X7_in x (nI 0) hi = 0) : ¬ x < 0 := by
  intro hx
  apply h
  unfold f_X7_in
  rw [if_pos (show x < nI 0 from hx)]
  rfl
theorem inLe {x : Int32} {n : Nat} (h : ¬ f_X7_in x (nI 0) (nI n) = 0) (hn : n < 2 ^ 31) : x.toNatClampNeg ≤ n := by
  have h0 := inNat0 h
  have e := natOf h0
  have hb := natBig x
  unfold f_X7_in at h
  rw [if_neg (show ¬ x < nI 0 from h0)] at h
  by_cases c : nI n < x
  · rw [if_pos c] at h
    exact absurd rfl h
  · rw [e, nI_ltI hn hb] at c
    omega
theorem vinLt {x y : Int32} {n : Nat} (h : ¬ x < 0) (h2 : ¬ y ≤ x) (h3 : y ≤ nI n) (hn : n < 2 ^ 31) : vp_in x n := by
  refine vinOf h (fun z => h2 ?_) hn
  rw [Int32.le_iff_toInt_le] at h3 z ⊢
  omega

def f_X7_sets (M : (Nat → Int32)) (x : Nat) (p0 : Int32) (p1 : Int32) : Int32 × (Nat → Int32) :=
  if (f_X7_in p0 (nI 0) (nI 1)) = 0 then
    ((-1), M)
  else
    if (f_X7_in p1 (nI 0) (nI 5)) = 0 then
      ((-2), M)
    else
      if (M (((46 * x) + p0.toNatClampNeg) + 6)) ≤ 0 then
        if (M ((46 * x) + p0.toNatClampNeg)) = p1 then
          ((-5), M)
        else
          ((M ((46 * x) + p0.toNatClampNeg)), (upd M ((46 * x) + p0.toNatClampNeg) p1))
      else
        ((-4), M)
set_option maxRecDepth 20000 in
theorem k_X7_sets_f7 : Cond.fieldLink RX7 7 "SteamRationsModel" "s" "[I" ∈ wsX7_sets := by decide +kernel
set_option maxRecDepth 20000 in
theorem in_X7_sets_RX7 : ∀ w ∈ u_ws RX7 TX7 11, w ∈ wsX7_sets := by decide +kernel
theorem cd_X7_sets : yX7_sets.cls = RX7 ∧ yX7_sets.cls ≠ "java/lang/invoke/MethodHandle" ∧ yX7_sets.cls ≠ "java/lang/invoke/VarHandle" ∧ (parseMethodDescriptor yX7_sets.desc).map (fun d => d.parameters.length) = some 3 := by decide +kernel
set_option maxHeartbeats 4000000 in
set_option maxRecDepth 100000 in
theorem c_X7_sets (l : Launch) (G : GG) (a : Nat → Nat) (g : (Nat → Int32)) (M : (Nat → Int32)) (T : (Nat → Int32)) (Y : (Nat → Int32)) (sz : Nat) (x : Nat) (p0 : Int32) (p1 : Int32) (hx : x ≤ 6) : Met l yX7_sets wsX7_sets ({ frames := 1, cells := 0, slots := 0, locals := 22 }) (Pre G [.ref (a 0), .int (nI x), .int p0, .int p1] (MC G a g M T Y) sz) (PI G (va_A (MC G a g M T Y) sz) (fun r (u : (Nat → Int32)) => f_X7_sets M x p0 p1 = (r, u)) (fun u : (Nat → Int32) => MC G a g u T Y)) 0 0 (va_A (MC G a g M T Y) sz) := by
  refine Met.walk (cc := cX7_sets) (maxL := 6) (ret := (some .int)) (Qc := fun A => PI G A (fun r (u : (Nat → Int32)) => f_X7_sets M x p0 p1 = (r, u)) (fun u : (Nat → Int32) => MC G a g u T Y)) (by decide) rfl (Nat.le_of_ble_eq_true rfl) ?_
  intro p e s m below meth c A H C0 _ hK hsz hP hD hA hS ls hl
  have hx := C0.1
  have hb := C0.2.1
  have hown : s.vm.findClass RX7 = some m.cls := C0.2.2.2.2.1
  have hml := C0.2.2.2.1
  have hts : ∀ w ∈ wsX7_sets, w.before [.ref (a 0), .int (nI x), .int p0, .int p1].toArray s = true := C0.2.2.2.2.2.1
  have hl : lv_has ls 6 [(0, .ref (a 0)), (1, .int (nI x)), (2, .int p0), (3, .int p1)] := hl
  refine lv_iload_n hx hb dX7_sets_0 rfl (lv_at hl 2 rfl) ?_
  refine lv_iconst (v := (nI 0)) hx hb dX7_sets_1 (by decide) ?_
  refine lv_iconst (v := (nI 1)) hx hb dX7_sets_2 (by decide) ?_
  refine gcall_I (run_S (As := [.int p0, .int (nI 0), .int (nI 1)]) (rest := []) C0 hK hP hD (c_X7_in l G   H.size p0 (nI 0) (nI 1)) (va_cwS 3 hts gX7_sets_X7_in rfl rfl rfl cd2_X7_in ⟨Nat.le_of_ble_eq_true rfl, Nat.le_of_ble_eq_true rfl⟩) [] rfl rfl rfl hl.1 rfl (Nat.le_of_ble_eq_true rfl) dX7_sets_3 ⟨Nat.le_of_ble_eq_true rfl, Nat.le_of_ble_eq_true rfl⟩) hP hD hS hA [] rfl rfl (fun _ => rfl) (fun r_1 _ H locs hw_1 hP hD hS => ?_)
  have hz_r_1 := hw_1.2
  have hw_1 := hw_1.1
  subst hw_1
  have hP : va_P G.1 vwCl (MC G a g M T Y) H := hP
  have hD : va_D A (MC G a g M T Y) := hD
  refine lv_if_ne (tgt := 11) hx hb dX7_sets_6 (by decide) (fun c_2 => ?_) (fun c_2 => ?_)
  · refine lv_iload_n hx hb dX7_sets_11 rfl (lv_at hl 3 rfl) ?_
    refine lv_iconst (v := (nI 0)) hx hb dX7_sets_12 (by decide) ?_
    refine lv_iconst (v := (nI 5)) hx hb dX7_sets_13 (by decide) ?_
    refine gcall_I (run_S (As := [.int p1, .int (nI 0), .int (nI 5)]) (rest := []) C0 hK hP hD (c_X7_in l G   H.size p1 (nI 0) (nI 5)) (va_cwS 3 hts gX7_sets_X7_in rfl rfl rfl cd2_X7_in ⟨Nat.le_of_ble_eq_true rfl, Nat.le_of_ble_eq_true rfl⟩) [] rfl rfl rfl hl.1 rfl (Nat.le_of_ble_eq_true rfl) dX7_sets_14 ⟨Nat.le_of_ble_eq_true rfl, Nat.le_of_ble_eq_true rfl⟩) hP hD hS hA [] rfl rfl (fun _ => rfl) (fun r_3 _ H locs hw_3 hP hD hS => ?_)
    have hz_r_3 := hw_3.2
    have hw_3 := hw_3.1
    subst hw_3
    have hP : va_P G.1 vwCl (MC G a g M T Y) H := hP
    have hD : va_D A (MC G a g M T Y) := hD
    refine lv_if_ne (tgt := 23) hx hb dX7_sets_17 (by decide) (fun c_4 => ?_) (fun c_4 => ?_)
    · have ej_2 : p0 = nI p0.toNatClampNeg := natOf (inNat0 c_2)
      have hj_2 : p0.toNatClampNeg ≤ 1 := inLe c_2 (by decide)
      have hl : lv_has ls 6 [(0, .ref (a 0)), (1, .int (nI x)), (2, .int (nI p0.toNatClampNeg)), (3, .int p1)] := by rw [← ej_2]; exact hl
      refine lv_bipush (v := (nI 46)) hx hb dX7_sets_23 (by decide) ?_
      refine lv_iload_n hx hb dX7_sets_25 rfl (lv_at hl 1 rfl) ?_
      refine n_imul (i := 46) (j := x) hx hb dX7_sets_26 ?_
      refine lv_iload_n hx hb dX7_sets_27 rfl (lv_at hl 2 rfl) ?_
      refine n_iadd (i := 46 * x) (j := p0.toNatClampNeg) hx hb dX7_sets_28 ?_
      refine W.eq (g2 := F0 m 29 ls ([.int (nI ((46 * x) + p0.toNatClampNeg))])) (by first | rfl | (simp only [F0]; congr 3; omega)) ?_
      refine lv_istore (lv' := [(4, .int (nI ((46 * x) + p0.toNatClampNeg))), (0, .ref (a 0)), (1, .int (nI x)), (2, .int (nI p0.toNatClampNeg)), (3, .int p1)]) hx hb dX7_sets_29 hl (by decide) rfl (fun ls hl => ?_)
      refine lv_aload_n hx hb dX7_sets_31 rfl (lv_at hl 1 rfl) ?_
      refine va_get (D := G.1) (ci := 7) (v := .ref (a 1)) (C := RX7) (T := TX7) (N := 11) hx hb hts in_X7_sets_RX7 hown hK.1 hP 0 rfl rfl 0 (by decide) (hts _ k_X7_sets_f7) (fun _ h9 => h9) rfl dX7_sets_32 ?_
      refine lv_iload hx hb dX7_sets_35 (lv_at hl 0 rfl) ?_
      refine lv_bipush (v := (nI 6)) hx hb dX7_sets_37 (by decide) ?_
      refine n_iadd (i := (46 * x) + p0.toNatClampNeg) (j := 6) hx hb dX7_sets_39 ?_
      refine W.eq (g2 := F0 m 40 ls ([.int (nI (((46 * x) + p0.toNatClampNeg) + 6)), .ref (a 1)])) (by first | rfl | (simp only [F0]; congr 3; omega)) ?_
      refine n_iald (f := M) (j := ((46 * x) + p0.toNatClampNeg) + 6) hx hb hK hP 1 rfl (by omega) (by decide) dX7_sets_40 ?_
      refine lv_if_le (tgt := 47) hx hb dX7_sets_41 (by decide) (fun c_5 => ?_) (fun c_5 => ?_)
      · refine lv_aload_n hx hb dX7_sets_47 rfl (lv_at hl 1 rfl) ?_
        refine va_get (D := G.1) (ci := 7) (v := .ref (a 1)) (C := RX7) (T := TX7) (N := 11) hx hb hts in_X7_sets_RX7 hown hK.1 hP 0 rfl rfl 0 (by decide) (hts _ k_X7_sets_f7) (fun _ h9 => h9) rfl dX7_sets_48 ?_
        refine lv_iload hx hb dX7_sets_51 (lv_at hl 0 rfl) ?_
        refine n_iald (f := M) (j := (46 * x) + p0.toNatClampNeg) hx hb hK hP 1 rfl (by omega) (by decide) dX7_sets_53 ?_
        refine lv_istore (lv' := [(5, .int (M ((46 * x) + p0.toNatClampNeg))), (4, .int (nI ((46 * x) + p0.toNatClampNeg))), (0, .ref (a 0)), (1, .int (nI x)), (2, .int (nI p0.toNatClampNeg)), (3, .int p1)]) hx hb dX7_sets_54 hl (by decide) rfl (fun ls hl => ?_)
        refine lv_iload hx hb dX7_sets_56 (lv_at hl 0 rfl) ?_
        refine lv_iload_n hx hb dX7_sets_58 rfl (lv_at hl 5 rfl) ?_
        refine lv_icmp_ne (tgt := 65) hx hb dX7_sets_59 (by decide) (fun c_6 => ?_) (fun c_6 => ?_)
        · refine lv_aload_n hx hb dX7_sets_65 rfl (lv_at hl 2 rfl) ?_
          refine va_get (D := G.1) (ci := 7) (v := .ref (a 1)) (C := RX7) (T := TX7) (N := 11) hx hb hts in_X7_sets_RX7 hown hK.1 hP 0 rfl rfl 0 (by decide) (hts _ k_X7_sets_f7) (fun _ h9 => h9) rfl dX7_sets_66 ?_
          refine lv_iload hx hb dX7_sets_69 (lv_at hl 1 rfl) ?_
          refine lv_iload_n hx hb dX7_sets_71 rfl (lv_at hl 5 rfl) ?_
          refine n_iast (f := M) (j := (46 * x) + p0.toNatClampNeg) (x := p1) hx hb hK hP hD hS 1 rfl (by omega) (by decide) dX7_sets_72 (fun H locs hP hD hS => ?_)
          have hP : va_P G.1 vwCl (MC G a g (upd M ((46 * x) + p0.toNatClampNeg) p1) T Y) H := hP
          have hD : va_D A (MC G a g (upd M ((46 * x) + p0.toNatClampNeg) p1) T Y) := hD
          refine lv_iload hx hb dX7_sets_73 (lv_at hl 0 rfl) ?_
          exact end_I C0 hP hD hS (upd M ((46 * x) + p0.toNatClampNeg) p1) (by simp only [f_X7_sets, if_neg c_2, if_neg c_4, if_pos c_5, if_neg c_6]) rfl dX7_sets_75
        · refine lv_bipush (v := (-5)) hx hb dX7_sets_62 (by decide) ?_
          exact end_I C0 hP hD hS M (by simp only [f_X7_sets, if_neg c_2, if_neg c_4, if_pos c_5, if_pos c_6]) rfl dX7_sets_64
      · refine lv_bipush (v := (-4)) hx hb dX7_sets_44 (by decide) ?_
        exact end_I C0 hP hD hS M (by simp only [f_X7_sets, if_neg c_2, if_neg c_4, if_neg c_5]) rfl dX7_sets_46
    · refine lv_bipush (v := (-2)) hx hb dX7_sets_20 (by decide) ?_
      exact end_I C0 hP hD hS M (by simp only [f_X7_sets, if_neg c_2, if_pos c_4]) rfl dX7_sets_22
  · refine lv_iconst (v := (-1)) hx hb dX7_sets_9 (by decide) ?_
    exact end_I C0 hP hD hS M (by simp only [f_X7_sets, if_pos c_2]) rfl dX7_sets_10

def f_X7_fills (M : (Nat → Int32)) (x : Nat) (p0 : Int32) (p1 : Int32) : Int32 × (Nat → Int32) :=
  if (f_X7_in p0 (nI 0) (nI 1)) = 0 then
    ((-1), M)
  else
    if (f_X7_in p1 (nI 1) (nI 200)) = 0 then
      ((-2), M)
    else
      if (M (((46 * x) + 2) + p0.toNatClampNeg)) ≤ ((nI 200) - p1) then
        (((upd M (((46 * x) + 2) + p0.toNatClampNeg) ((M (((46 * x) + 2) + p0.toNatClampNeg)) + p1)) (((46 * x) + 2) + p0.toNatClampNeg)), (upd M (((46 * x) + 2) + p0.toNatClampNeg) ((M (((46 * x) + 2) + p0.toNatClampNeg)) + p1)))
      else
        ((-3), M)
set_option maxRecDepth 20000 in
theorem k_X7_fills_f7 : Cond.fieldLink RX7 7 "SteamRationsModel" "s" "[I" ∈ wsX7_fills := by decide +kernel
set_option maxRecDepth 20000 in
theorem in_X7_fills_RX7 : ∀ w ∈ u_ws RX7 TX7 11, w ∈ wsX7_fills := by decide +kernel
theorem cd_X7_fills : yX7_fills.cls = RX7 ∧ yX7_fills.cls ≠ "java/lang/invoke/MethodHandle" ∧ yX7_fills.cls ≠ "java/lang/invoke/VarHandle" ∧ (parseMethodDescriptor yX7_fills.desc).map (fun d => d.parameters.length) = some 3 := by decide +kernel
set_option maxHeartbeats 4000000 in
set_option maxRecDepth 100000 in
theorem c_X7_fills (l : Launch) (G : GG) (a : Nat → Nat) (g : (Nat → Int32)) (M : (Nat → Int32)) (T : (Nat → Int32)) (Y : (Nat → Int32)) (sz : Nat) (x : Nat) (p0 : Int32) (p1 : Int32) (hx : x ≤ 6) : Met l yX7_fills wsX7_fills ({ frames := 1, cells := 0, slots := 0, locals := 22 }) (Pre G [.ref (a 0), .int (nI x), .int p0, .int p1] (MC G a g M T Y) sz) (PI G (va_A (MC G a g M T Y) sz) (fun r (u : (Nat → Int32)) => f_X7_fills M x p0 p1 = (r, u)) (fun u : (Nat → Int32) => MC G a g u T Y)) 0 0 (va_A (MC G a g M T Y) sz) := by
  refine Met.walk (cc := cX7_fills) (maxL := 5) (ret := (some .int)) (Qc := fun A => PI G A (fun r (u : (Nat → Int32)) => f_X7_fills M x p0 p1 = (r, u)) (fun u : (Nat → Int32) => MC G a g u T Y)) (by decide) rfl (Nat.le_of_ble_eq_true rfl) ?_
  intro p e s m below meth c A H C0 _ hK hsz hP hD hA hS ls hl
  have hx := C0.1
  have hb := C0.2.1
  have hown : s.vm.findClass RX7 = some m.cls := C0.2.2.2.2.1
  have hml := C0.2.2.2.1
  have hts : ∀ w ∈ wsX7_fills, w.before [.ref (a 0), .int (nI x), .int p0, .int p1].toArray s = true := C0.2.2.2.2.2.1
  have hl : lv_has ls 5 [(0, .ref (a 0)), (1, .int (nI x)), (2, .int p0), (3, .int p1)] := hl
  refine lv_iload_n hx hb dX7_fills_0 rfl (lv_at hl 2 rfl) ?_
  refine lv_iconst (v := (nI 0)) hx hb dX7_fills_1 (by decide) ?_
  refine lv_iconst (v := (nI 1)) hx hb dX7_fills_2 (by decide) ?_
  refine gcall_I (run_S (As := [.int p0, .int (nI 0), .int (nI 1)]) (rest := []) C0 hK hP hD (c_X7_in l G   H.size p0 (nI 0) (nI 1)) (va_cwS 3 hts gX7_fills_X7_in rfl rfl rfl cd2_X7_in ⟨Nat.le_of_ble_eq_true rfl, Nat.le_of_ble_eq_true rfl⟩) [] rfl rfl rfl hl.1 rfl (Nat.le_of_ble_eq_true rfl) dX7_fills_3 ⟨Nat.le_of_ble_eq_true rfl, Nat.le_of_ble_eq_true rfl⟩) hP hD hS hA [] rfl rfl (fun _ => rfl) (fun r_1 _ H locs hw_1 hP hD hS => ?_)
  have hz_r_1 := hw_1.2
  have hw_1 := hw_1.1
  subst hw_1
  have hP : va_P G.1 vwCl (MC G a g M T Y) H := hP
  have hD : va_D A (MC G a g M T Y) := hD
  refine lv_if_ne (tgt := 11) hx hb dX7_fills_6 (by decide) (fun c_2 => ?_) (fun c_2 => ?_)
  · refine lv_iload_n hx hb dX7_fills_11 rfl (lv_at hl 3 rfl) ?_
    refine lv_iconst (v := (nI 1)) hx hb dX7_fills_12 (by decide) ?_
    refine lv_sipush (v := (nI 200)) hx hb dX7_fills_13 (by decide) ?_
    refine gcall_I (run_S (As := [.int p1, .int (nI 1), .int (nI 200)]) (rest := []) C0 hK hP hD (c_X7_in l G   H.size p1 (nI 1) (nI 200)) (va_cwS 3 hts gX7_fills_X7_in rfl rfl rfl cd2_X7_in ⟨Nat.le_of_ble_eq_true rfl, Nat.le_of_ble_eq_true rfl⟩) [] rfl rfl rfl hl.1 rfl (Nat.le_of_ble_eq_true rfl) dX7_fills_16 ⟨Nat.le_of_ble_eq_true rfl, Nat.le_of_ble_eq_true rfl⟩) hP hD hS hA [] rfl rfl (fun _ => rfl) (fun r_3 _ H locs hw_3 hP hD hS => ?_)
    have hz_r_3 := hw_3.2
    have hw_3 := hw_3.1
    subst hw_3
    have hP : va_P G.1 vwCl (MC G a g M T Y) H := hP
    have hD : va_D A (MC G a g M T Y) := hD
    refine lv_if_ne (tgt := 25) hx hb dX7_fills_19 (by decide) (fun c_4 => ?_) (fun c_4 => ?_)
    · have ej_2 : p0 = nI p0.toNatClampNeg := natOf (inNat0 c_2)
      have hj_2 : p0.toNatClampNeg ≤ 1 := inLe c_2 (by decide)
      have hl : lv_has ls 5 [(0, .ref (a 0)), (1, .int (nI x)), (2, .int (nI p0.toNatClampNeg)), (3, .int p1)] := by rw [← ej_2]; exact hl
      refine lv_bipush (v := (nI 46)) hx hb dX7_fills_25 (by decide) ?_
      refine lv_iload_n hx hb dX7_fills_27 rfl (lv_at hl 1 rfl) ?_
      refine n_imul (i := 46) (j := x) hx hb dX7_fills_28 ?_
      refine lv_iconst (v := (nI 2)) hx hb dX7_fills_29 (by decide) ?_
      refine n_iadd (i := 46 * x) (j := 2) hx hb dX7_fills_30 ?_
      refine W.eq (g2 := F0 m 31 ls ([.int (nI ((46 * x) + 2))])) (by first | rfl | (simp only [F0]; congr 3; omega)) ?_
      refine lv_iload_n hx hb dX7_fills_31 rfl (lv_at hl 2 rfl) ?_
      refine n_iadd (i := (46 * x) + 2) (j := p0.toNatClampNeg) hx hb dX7_fills_32 ?_
      refine W.eq (g2 := F0 m 33 ls ([.int (nI (((46 * x) + 2) + p0.toNatClampNeg))])) (by first | rfl | (simp only [F0]; congr 3; omega)) ?_
      refine lv_istore (lv' := [(4, .int (nI (((46 * x) + 2) + p0.toNatClampNeg))), (0, .ref (a 0)), (1, .int (nI x)), (2, .int (nI p0.toNatClampNeg)), (3, .int p1)]) hx hb dX7_fills_33 hl (by decide) rfl (fun ls hl => ?_)
      refine lv_aload_n hx hb dX7_fills_35 rfl (lv_at hl 1 rfl) ?_
      refine va_get (D := G.1) (ci := 7) (v := .ref (a 1)) (C := RX7) (T := TX7) (N := 11) hx hb hts in_X7_fills_RX7 hown hK.1 hP 0 rfl rfl 0 (by decide) (hts _ k_X7_fills_f7) (fun _ h9 => h9) rfl dX7_fills_36 ?_
      refine lv_iload hx hb dX7_fills_39 (lv_at hl 0 rfl) ?_
      refine n_iald (f := M) (j := ((46 * x) + 2) + p0.toNatClampNeg) hx hb hK hP 1 rfl (by omega) (by decide) dX7_fills_41 ?_
      refine lv_sipush (v := (nI 200)) hx hb dX7_fills_42 (by decide) ?_
      refine lv_iload_n hx hb dX7_fills_45 rfl (lv_at hl 4 rfl) ?_
      refine lv_isub hx hb dX7_fills_46 ?_
      refine lv_icmp_le (tgt := 53) hx hb dX7_fills_47 (by decide) (fun c_5 => ?_) (fun c_5 => ?_)
      · refine lv_aload_n hx hb dX7_fills_53 rfl (lv_at hl 1 rfl) ?_
        refine va_get (D := G.1) (ci := 7) (v := .ref (a 1)) (C := RX7) (T := TX7) (N := 11) hx hb hts in_X7_fills_RX7 hown hK.1 hP 0 rfl rfl 0 (by decide) (hts _ k_X7_fills_f7) (fun _ h9 => h9) rfl dX7_fills_54 ?_
        refine lv_iload hx hb dX7_fills_57 (lv_at hl 0 rfl) ?_
        refine lv_dup2_11 hx hb dX7_fills_59 rfl rfl ?_
        refine n_iald (f := M) (j := ((46 * x) + 2) + p0.toNatClampNeg) hx hb hK hP 1 rfl (by omega) (by decide) dX7_fills_60 ?_
        refine lv_iload_n hx hb dX7_fills_61 rfl (lv_at hl 4 rfl) ?_
        refine lv_iadd hx hb dX7_fills_62 ?_
        refine n_iast (f := M) (j := ((46 * x) + 2) + p0.toNatClampNeg) (x := ((M (((46 * x) + 2) + p0.toNatClampNeg)) + p1)) hx hb hK hP hD hS 1 rfl (by omega) (by decide) dX7_fills_63 (fun H locs hP hD hS => ?_)
        have hP : va_P G.1 vwCl (MC G a g (upd M (((46 * x) + 2) + p0.toNatClampNeg) ((M (((46 * x) + 2) + p0.toNatClampNeg)) + p1)) T Y) H := hP
        have hD : va_D A (MC G a g (upd M (((46 * x) + 2) + p0.toNatClampNeg) ((M (((46 * x) + 2) + p0.toNatClampNeg)) + p1)) T Y) := hD
        refine lv_aload_n hx hb dX7_fills_64 rfl (lv_at hl 1 rfl) ?_
        refine va_get (D := G.1) (ci := 7) (v := .ref (a 1)) (C := RX7) (T := TX7) (N := 11) hx hb hts in_X7_fills_RX7 hown hK.1 hP 0 rfl rfl 0 (by decide) (hts _ k_X7_fills_f7) (fun _ h9 => h9) rfl dX7_fills_65 ?_
        refine lv_iload hx hb dX7_fills_68 (lv_at hl 0 rfl) ?_
        refine n_iald (f := (upd M (((46 * x) + 2) + p0.toNatClampNeg) ((M (((46 * x) + 2) + p0.toNatClampNeg)) + p1))) (j := ((46 * x) + 2) + p0.toNatClampNeg) hx hb hK hP 1 rfl (by omega) (by decide) dX7_fills_70 ?_
        exact end_I C0 hP hD hS (upd M (((46 * x) + 2) + p0.toNatClampNeg) ((M (((46 * x) + 2) + p0.toNatClampNeg)) + p1)) (by simp only [f_X7_fills, if_neg c_2, if_neg c_4, if_pos c_5]) rfl dX7_fills_71
      · refine lv_bipush (v := (-3)) hx hb dX7_fills_50 (by decide) ?_
        exact end_I C0 hP hD hS M (by simp only [f_X7_fills, if_neg c_2, if_neg c_4, if_neg c_5]) rfl dX7_fills_52
    · refine lv_bipush (v := (-2)) hx hb dX7_fills_22 (by decide) ?_
      exact end_I C0 hP hD hS M (by simp only [f_X7_fills, if_neg c_2, if_pos c_4]) rfl dX7_fills_24
  · refine lv_iconst (v := (-1)) hx hb dX7_fills_9 (by decide) ?_
    exact end_I C0 hP hD hS M (by simp only [f_X7_fills, if_pos c_2]) rfl dX7_fills_10

def f_X7_records (g : (Nat → Int32)) (M : (Nat → Int32)) (ns : Nat) : (Nat → Int32) × (Nat → Int32) :=
  if (nI ns) = (nI 4) then
    ((upd (upd g 0 ((g 0) - (nI 1))) 0 (((g 0) - (nI 1)) + (nI 1))), (cpyM (cpyM (cpyM (cpyM M 2 1 46) 3 2 46) 4 3 46) 0 4 46))
  else
    ((upd g 0 ((g 0) + (nI 1))), (cpyM M 0 (ns + 1) 46))
set_option maxRecDepth 20000 in
theorem k_X7_records_f24 : Cond.fieldLink RX7 24 "SteamRationsModel" "states" "I" ∈ wsX7_records := by decide +kernel
set_option maxRecDepth 20000 in
theorem in_X7_records_RX7 : ∀ w ∈ u_ws RX7 TX7 11, w ∈ wsX7_records := by decide +kernel
theorem cd_X7_records : yX7_records.cls = RX7 ∧ yX7_records.cls ≠ "java/lang/invoke/MethodHandle" ∧ yX7_records.cls ≠ "java/lang/invoke/VarHandle" ∧ (parseMethodDescriptor yX7_records.desc).map (fun d => d.parameters.length) = some 0 := by decide +kernel
set_option maxHeartbeats 4000000 in
set_option maxRecDepth 100000 in
theorem c_X7_records (l : Launch) (G : GG) (a : Nat → Nat) (g : (Nat → Int32)) (M : (Nat → Int32)) (T : (Nat → Int32)) (Y : (Nat → Int32)) (sz : Nat) (ns : Nat) (hs : g 0 = nI ns) (hn : ns ≤ 4) : Met l yX7_records wsX7_records ({ frames := 1, cells := 0, slots := 0, locals := 23 }) (Pre G [.ref (a 0)] (MC G a g M T Y) sz) (PV G (va_A (MC G a g M T Y) sz) (fun u : (Nat → Int32) × (Nat → Int32) => f_X7_records g M ns = u) (fun u : (Nat → Int32) × (Nat → Int32) => MC G a u.1 u.2 T Y)) 0 0 (va_A (MC G a g M T Y) sz) := by
  refine Met.walk (cc := cX7_records) (maxL := 2) (ret := none) (Qc := fun A => PV G A (fun u : (Nat → Int32) × (Nat → Int32) => f_X7_records g M ns = u) (fun u : (Nat → Int32) × (Nat → Int32) => MC G a u.1 u.2 T Y)) (by decide) rfl (Nat.le_of_ble_eq_true rfl) ?_
  intro p e s m below meth c A H C0 _ hK hsz hP hD hA hS ls hl
  have hx := C0.1
  have hb := C0.2.1
  have hown : s.vm.findClass RX7 = some m.cls := C0.2.2.2.2.1
  have hml := C0.2.2.2.1
  have hts : ∀ w ∈ wsX7_records, w.before [.ref (a 0)].toArray s = true := C0.2.2.2.2.2.1
  have hl : lv_has ls 2 [(0, .ref (a 0))] := hl
  refine lv_aload_n hx hb dX7_records_0 rfl (lv_at hl 0 rfl) ?_
  refine va_get (D := G.1) (ci := 7) (v := .int (g 0)) (C := RX7) (T := TX7) (N := 11) hx hb hts in_X7_records_RX7 hown hK.1 hP 0 rfl rfl 1 (by decide) (hts _ k_X7_records_f24) (fun _ h9 => h9) rfl dX7_records_1 ?_
  have ej_4 : (g 0) = nI ns := hs
  refine W.eq (g2 := F0 m 4 ls ([.int (nI ns)])) (by rw [← ej_4]) ?_
  refine lv_iconst (v := (nI 4)) hx hb dX7_records_4 (by decide) ?_
  refine lv_icmp_ne (tgt := 39) hx hb dX7_records_5 (by decide) (fun c_1 => ?_) (fun c_1 => ?_)
  · have c_1n : ¬ ns = 4 := fun z => c_1 (by rw [z])
    refine lv_aload_n hx hb dX7_records_39 rfl (lv_at hl 0 rfl) ?_
    refine lv_dup hx hb dX7_records_40 rfl ?_
    refine va_get (D := G.1) (ci := 7) (v := .int (g 0)) (C := RX7) (T := TX7) (N := 11) hx hb hts in_X7_records_RX7 hown hK.1 hP 0 rfl rfl 1 (by decide) (hts _ k_X7_records_f24) (fun _ h9 => h9) rfl dX7_records_41 ?_
    refine lv_iconst (v := (nI 1)) hx hb dX7_records_44 (by decide) ?_
    refine lv_iadd hx hb dX7_records_45 ?_
    refine va_put (D := G.1) (ci := 7) (v := .int ((g 0) + (nI 1))) (ty := .int) (C := RX7) (T := TX7) (N := 11) hx hb hts in_X7_records_RX7 tyX7 tyX7_ok nmX7 hown hK.1 hP hD hS 0 rfl rfl 1 (by decide) (hts _ k_X7_records_f24) (fun _ h9 => h9) rfl (by decide +kernel) rfl rfl (Nat.le_of_ble_eq_true rfl) dX7_records_46 (fun H locs hP hD hS => ?_)
    have hP : va_P G.1 vwCl (MC G a (upd g 0 ((g 0) + (nI 1))) M T Y) H := hP
    have hD : va_D A (MC G a (upd g 0 ((g 0) + (nI 1))) M T Y) := hD
    refine lv_aload_n hx hb dX7_records_49 rfl (lv_at hl 0 rfl) ?_
    refine lv_iconst (v := (nI 0)) hx hb dX7_records_50 (by decide) ?_
    refine lv_aload_n hx hb dX7_records_51 rfl (lv_at hl 0 rfl) ?_
    refine va_get (D := G.1) (ci := 7) (v := .int ((g 0) + (nI 1))) (C := RX7) (T := TX7) (N := 11) hx hb hts in_X7_records_RX7 hown hK.1 hP 0 rfl rfl 1 (by decide) (hts _ k_X7_records_f24) (fun _ h9 => h9) rfl dX7_records_52 ?_
    have ej_5 : ((g 0) + (nI 1)) = nI (ns + 1) := (by rw [hs]; exact nI_add ns 1)
    refine W.eq (g2 := F0 m 55 ls ([.int (nI (ns + 1)), .int (nI 0), .ref (a 0)])) (by rw [← ej_5]) ?_
    refine gcall_V (run_V (As := [.int (nI 0), .int (nI (ns + 1))]) (rest := []) C0 hK hP hD (c_X7_copies l G a (upd g 0 ((g 0) + (nI 1))) M T Y H.size 0 (ns + 1) (by omega) (by omega) (by omega)) (cwV 2 hts gX7_records_X7_copies rfl rfl rfl cd_X7_copies ⟨Nat.le_of_ble_eq_true rfl, Nat.le_of_ble_eq_true rfl⟩) [0, 1, 2, 3] rfl rfl 0 (ci := 7) rfl rfl rfl rfl hl.1 rfl (Nat.le_of_ble_eq_true rfl) dX7_records_55 ⟨Nat.le_of_ble_eq_true rfl, Nat.le_of_ble_eq_true rfl⟩) hP hD hS hA [0, 1, 2, 3] rfl rfl (fun _ => rfl) (fun u_2 H locs hw_2 hP hD hS => ?_)
    obtain ⟨M_c2, rfl⟩ : ∃ z, z = u_2 := ⟨_, rfl⟩
    simp only [f_X7_copies, Prod.mk.injEq] at hw_2
    obtain rfl := hw_2
    have hP : va_P G.1 vwCl (MC G a (upd g 0 ((g 0) + (nI 1))) (cpyM M 0 (ns + 1) 46) T Y) H := hP
    have hD : va_D A (MC G a (upd g 0 ((g 0) + (nI 1))) (cpyM M 0 (ns + 1) 46) T Y) := hD
    exact end_V C0 hP hD hS ((upd g 0 ((g 0) + (nI 1))), (cpyM M 0 (ns + 1) 46)) (by simp only [f_X7_records, if_neg c_1]) rfl dX7_records_58
  · have c_1n : ns = 4 := (nI_eq (by omega) (by omega)).mp c_1
    refine lv_iconst (v := (nI 1)) hx hb dX7_records_8 (by decide) ?_
    refine lv_istore_n (lv' := [(1, .int (nI 1)), (0, .ref (a 0))]) hx hb dX7_records_9 rfl hl (by decide) rfl (fun ls hl => ?_)
    refine lv_iload_n hx hb dX7_records_10 rfl (lv_at hl 0 rfl) ?_
    refine lv_iconst (v := (nI 4)) hx hb dX7_records_11 (by decide) ?_
    refine lv_icmp_ge (tgt := 29) hx hb dX7_records_12 (by decide) (fun c_3 => absurd c_3 (by decide +kernel)) (fun c_3 => ?_)
    refine lv_aload_n hx hb dX7_records_15 rfl (lv_at hl 1 rfl) ?_
    refine lv_iload_n hx hb dX7_records_16 rfl (lv_at hl 0 rfl) ?_
    refine lv_iconst (v := (nI 1)) hx hb dX7_records_17 (by decide) ?_
    refine n_iadd (i := 1) (j := 1) hx hb dX7_records_18 ?_
    refine W.eq (g2 := F0 m 19 ls ([.int (nI 2), .ref (a 0)])) (by first | rfl | (simp only [F0]; congr 3; omega)) ?_
    refine lv_iload_n hx hb dX7_records_19 rfl (lv_at hl 0 rfl) ?_
    refine gcall_V (run_V (As := [.int (nI 2), .int (nI 1)]) (rest := []) C0 hK hP hD (c_X7_copies l G a g M T Y H.size 2 1 (by omega) (by omega) (by omega)) (cwV 2 hts gX7_records_X7_copies rfl rfl rfl cd_X7_copies ⟨Nat.le_of_ble_eq_true rfl, Nat.le_of_ble_eq_true rfl⟩) [0, 1, 2, 3] rfl rfl 0 (ci := 7) rfl rfl rfl rfl hl.1 rfl (Nat.le_of_ble_eq_true rfl) dX7_records_20 ⟨Nat.le_of_ble_eq_true rfl, Nat.le_of_ble_eq_true rfl⟩) hP hD hS hA [0, 1, 2, 3] rfl rfl (fun _ => rfl) (fun u_4 H locs hw_4 hP hD hS => ?_)
    obtain ⟨M_c4, rfl⟩ : ∃ z, z = u_4 := ⟨_, rfl⟩
    simp only [f_X7_copies, Prod.mk.injEq] at hw_4
    obtain rfl := hw_4
    have hP : va_P G.1 vwCl (MC G a g (cpyM M 2 1 46) T Y) H := hP
    have hD : va_D A (MC G a g (cpyM M 2 1 46) T Y) := hD
    refine lv_iinc (v := (nI 2)) (lv' := [(1, .int (nI 2)), (0, .ref (a 0))]) hx hb dX7_records_23 hl (k := 0) rfl (inc1 1) (by decide) rfl (fun ls hl => ?_)
    refine lv_goto (tgt := 10) hx hb dX7_records_26 (by decide) ?_
    refine lv_iload_n hx hb dX7_records_10 rfl (lv_at hl 0 rfl) ?_
    refine lv_iconst (v := (nI 4)) hx hb dX7_records_11 (by decide) ?_
    refine lv_icmp_ge (tgt := 29) hx hb dX7_records_12 (by decide) (fun c_5 => absurd c_5 (by decide +kernel)) (fun c_5 => ?_)
    refine lv_aload_n hx hb dX7_records_15 rfl (lv_at hl 1 rfl) ?_
    refine lv_iload_n hx hb dX7_records_16 rfl (lv_at hl 0 rfl) ?_
    refine lv_iconst (v := (nI 1)) hx hb dX7_records_17 (by decide) ?_
    refine n_iadd (i := 2) (j := 1) hx hb dX7_records_18 ?_
    refine W.eq (g2 := F0 m 19 ls ([.int (nI 3), .ref (a 0)])) (by first | rfl | (simp only [F0]; congr 3; omega)) ?_
    refine lv_iload_n hx hb dX7_records_19 rfl (lv_at hl 0 rfl) ?_
    refine gcall_V (run_V (As := [.int (nI 3), .int (nI 2)]) (rest := []) C0 hK hP hD (c_X7_copies l G a g (cpyM M 2 1 46) T Y H.size 3 2 (by omega) (by omega) (by omega)) (cwV 2 hts gX7_records_X7_copies rfl rfl rfl cd_X7_copies ⟨Nat.le_of_ble_eq_true rfl, Nat.le_of_ble_eq_true rfl⟩) [0, 1, 2, 3] rfl rfl 0 (ci := 7) rfl rfl rfl rfl hl.1 rfl (Nat.le_of_ble_eq_true rfl) dX7_records_20 ⟨Nat.le_of_ble_eq_true rfl, Nat.le_of_ble_eq_true rfl⟩) hP hD hS hA [0, 1, 2, 3] rfl rfl (fun _ => rfl) (fun u_6 H locs hw_6 hP hD hS => ?_)
    obtain ⟨M_c6, rfl⟩ : ∃ z, z = u_6 := ⟨_, rfl⟩
    simp only [f_X7_copies, Prod.mk.injEq] at hw_6
    obtain rfl := hw_6
    have hP : va_P G.1 vwCl (MC G a g (cpyM (cpyM M 2 1 46) 3 2 46) T Y) H := hP
    have hD : va_D A (MC G a g (cpyM (cpyM M 2 1 46) 3 2 46) T Y) := hD
    refine lv_iinc (v := (nI 3)) (lv' := [(1, .int (nI 3)), (0, .ref (a 0))]) hx hb dX7_records_23 hl (k := 0) rfl (inc1 2) (by decide) rfl (fun ls hl => ?_)
    refine lv_goto (tgt := 10) hx hb dX7_records_26 (by decide) ?_
    refine lv_iload_n hx hb dX7_records_10 rfl (lv_at hl 0 rfl) ?_
    refine lv_iconst (v := (nI 4)) hx hb dX7_records_11 (by decide) ?_
    refine lv_icmp_ge (tgt := 29) hx hb dX7_records_12 (by decide) (fun c_7 => absurd c_7 (by decide +kernel)) (fun c_7 => ?_)
    refine lv_aload_n hx hb dX7_records_15 rfl (lv_at hl 1 rfl) ?_
    refine lv_iload_n hx hb dX7_records_16 rfl (lv_at hl 0 rfl) ?_
    refine lv_iconst (v := (nI 1)) hx hb dX7_records_17 (by decide) ?_
    refine n_iadd (i := 3) (j := 1) hx hb dX7_records_18 ?_
    refine W.eq (g2 := F0 m 19 ls ([.int (nI 4), .ref (a 0)])) (by first | rfl | (simp only [F0]; congr 3; omega)) ?_
    refine lv_iload_n hx hb dX7_records_19 rfl (lv_at hl 0 rfl) ?_
    refine gcall_V (run_V (As := [.int (nI 4), .int (nI 3)]) (rest := []) C0 hK hP hD (c_X7_copies l G a g (cpyM (cpyM M 2 1 46) 3 2 46) T Y H.size 4 3 (by omega) (by omega) (by omega)) (cwV 2 hts gX7_records_X7_copies rfl rfl rfl cd_X7_copies ⟨Nat.le_of_ble_eq_true rfl, Nat.le_of_ble_eq_true rfl⟩) [0, 1, 2, 3] rfl rfl 0 (ci := 7) rfl rfl rfl rfl hl.1 rfl (Nat.le_of_ble_eq_true rfl) dX7_records_20 ⟨Nat.le_of_ble_eq_true rfl, Nat.le_of_ble_eq_true rfl⟩) hP hD hS hA [0, 1, 2, 3] rfl rfl (fun _ => rfl) (fun u_8 H locs hw_8 hP hD hS => ?_)
    obtain ⟨M_c8, rfl⟩ : ∃ z, z = u_8 := ⟨_, rfl⟩
    simp only [f_X7_copies, Prod.mk.injEq] at hw_8
    obtain rfl := hw_8
    have hP : va_P G.1 vwCl (MC G a g (cpyM (cpyM (cpyM M 2 1 46) 3 2 46) 4 3 46) T Y) H := hP
    have hD : va_D A (MC G a g (cpyM (cpyM (cpyM M 2 1 46) 3 2 46) 4 3 46) T Y) := hD
    refine lv_iinc (v := (nI 4)) (lv' := [(1, .int (nI 4)), (0, .ref (a 0))]) hx hb dX7_records_23 hl (k := 0) rfl (inc1 3) (by decide) rfl (fun ls hl => ?_)
    refine lv_goto (tgt := 10) hx hb dX7_records_26 (by decide) ?_
    refine lv_iload_n hx hb dX7_records_10 rfl (lv_at hl 0 rfl) ?_
    refine lv_iconst (v := (nI 4)) hx hb dX7_records_11 (by decide) ?_
    refine lv_icmp_ge (tgt := 29) hx hb dX7_records_12 (by decide) (fun c_9 => ?_) (fun c_9 => absurd (by decide +kernel) c_9)
    refine lv_aload_n hx hb dX7_records_29 rfl (lv_at hl 1 rfl) ?_
    refine lv_dup hx hb dX7_records_30 rfl ?_
    refine va_get (D := G.1) (ci := 7) (v := .int (g 0)) (C := RX7) (T := TX7) (N := 11) hx hb hts in_X7_records_RX7 hown hK.1 hP 0 rfl rfl 1 (by decide) (hts _ k_X7_records_f24) (fun _ h9 => h9) rfl dX7_records_31 ?_
    refine lv_iconst (v := (nI 1)) hx hb dX7_records_34 (by decide) ?_
    refine lv_isub hx hb dX7_records_35 ?_
    refine va_put (D := G.1) (ci := 7) (v := .int ((g 0) - (nI 1))) (ty := .int) (C := RX7) (T := TX7) (N := 11) hx hb hts in_X7_records_RX7 tyX7 tyX7_ok nmX7 hown hK.1 hP hD hS 0 rfl rfl 1 (by decide) (hts _ k_X7_records_f24) (fun _ h9 => h9) rfl (by decide +kernel) rfl rfl (Nat.le_of_ble_eq_true rfl) dX7_records_36 (fun H locs hP hD hS => ?_)
    have hP : va_P G.1 vwCl (MC G a (upd g 0 ((g 0) - (nI 1))) (cpyM (cpyM (cpyM M 2 1 46) 3 2 46) 4 3 46) T Y) H := hP
    have hD : va_D A (MC G a (upd g 0 ((g 0) - (nI 1))) (cpyM (cpyM (cpyM M 2 1 46) 3 2 46) 4 3 46) T Y) := hD
    refine lv_aload_n hx hb dX7_records_39 rfl (lv_at hl 1 rfl) ?_
    refine lv_dup hx hb dX7_records_40 rfl ?_
    refine va_get (D := G.1) (ci := 7) (v := .int ((g 0) - (nI 1))) (C := RX7) (T := TX7) (N := 11) hx hb hts in_X7_records_RX7 hown hK.1 hP 0 rfl rfl 1 (by decide) (hts _ k_X7_records_f24) (fun _ h9 => h9) rfl dX7_records_41 ?_
    refine lv_iconst (v := (nI 1)) hx hb dX7_records_44 (by decide) ?_
    refine lv_iadd hx hb dX7_records_45 ?_
    refine va_put (D := G.1) (ci := 7) (v := .int (((g 0) - (nI 1)) + (nI 1))) (ty := .int) (C := RX7) (T := TX7) (N := 11) hx hb hts in_X7_records_RX7 tyX7 tyX7_ok nmX7 hown hK.1 hP hD hS 0 rfl rfl 1 (by decide) (hts _ k_X7_records_f24) (fun _ h9 => h9) rfl (by decide +kernel) rfl rfl (Nat.le_of_ble_eq_true rfl) dX7_records_46 (fun H locs hP hD hS => ?_)
    have hP : va_P G.1 vwCl (MC G a (upd (upd g 0 ((g 0) - (nI 1))) 0 (((g 0) - (nI 1)) + (nI 1))) (cpyM (cpyM (cpyM M 2 1 46) 3 2 46) 4 3 46) T Y) H := hP
    have hD : va_D A (MC G a (upd (upd g 0 ((g 0) - (nI 1))) 0 (((g 0) - (nI 1)) + (nI 1))) (cpyM (cpyM (cpyM M 2 1 46) 3 2 46) 4 3 46) T Y) := hD
    refine lv_aload_n hx hb dX7_records_49 rfl (lv_at hl 1 rfl) ?_
    refine lv_iconst (v := (nI 0)) hx hb dX7_records_50 (by decide) ?_
    refine lv_aload_n hx hb dX7_records_51 rfl (lv_at hl 1 rfl) ?_
    refine va_get (D := G.1) (ci := 7) (v := .int (((g 0) - (nI 1)) + (nI 1))) (C := RX7) (T := TX7) (N := 11) hx hb hts in_X7_records_RX7 hown hK.1 hP 0 rfl rfl 1 (by decide) (hts _ k_X7_records_f24) (fun _ h9 => h9) rfl dX7_records_52 ?_
    have ej_6 : (((g 0) - (nI 1)) + (nI 1)) = nI 4 := (by rw [hs, c_1n]; decide)
    refine W.eq (g2 := F0 m 55 ls ([.int (nI 4), .int (nI 0), .ref (a 0)])) (by rw [← ej_6]) ?_
    refine gcall_V (run_V (As := [.int (nI 0), .int (nI 4)]) (rest := []) C0 hK hP hD (c_X7_copies l G a (upd (upd g 0 ((g 0) - (nI 1))) 0 (((g 0) - (nI 1)) + (nI 1))) (cpyM (cpyM (cpyM M 2 1 46) 3 2 46) 4 3 46) T Y H.size 0 4 (by omega) (by omega) (by omega)) (cwV 2 hts gX7_records_X7_copies rfl rfl rfl cd_X7_copies ⟨Nat.le_of_ble_eq_true rfl, Nat.le_of_ble_eq_true rfl⟩) [0, 1, 2, 3] rfl rfl 0 (ci := 7) rfl rfl rfl rfl hl.1 rfl (Nat.le_of_ble_eq_true rfl) dX7_records_55 ⟨Nat.le_of_ble_eq_true rfl, Nat.le_of_ble_eq_true rfl⟩) hP hD hS hA [0, 1, 2, 3] rfl rfl (fun _ => rfl) (fun u_10 H locs hw_10 hP hD hS => ?_)
    obtain ⟨M_c10, rfl⟩ : ∃ z, z = u_10 := ⟨_, rfl⟩
    simp only [f_X7_copies, Prod.mk.injEq] at hw_10
    obtain rfl := hw_10
    have hP : va_P G.1 vwCl (MC G a (upd (upd g 0 ((g 0) - (nI 1))) 0 (((g 0) - (nI 1)) + (nI 1))) (cpyM (cpyM (cpyM (cpyM M 2 1 46) 3 2 46) 4 3 46) 0 4 46) T Y) H := hP
    have hD : va_D A (MC G a (upd (upd g 0 ((g 0) - (nI 1))) 0 (((g 0) - (nI 1)) + (nI 1))) (cpyM (cpyM (cpyM (cpyM M 2 1 46) 3 2 46) 4 3 46) 0 4 46) T Y) := hD
    exact end_V C0 hP hD hS ((upd (upd g 0 ((g 0) - (nI 1))) 0 (((g 0) - (nI 1)) + (nI 1))), (cpyM (cpyM (cpyM (cpyM M 2 1 46) 3 2 46) 4 3 46) 0 4 46)) (by simp only [f_X7_records, if_pos c_1]) rfl dX7_records_58

def f_X7_settles (g : (Nat → Int32)) (M : (Nat → Int32)) (p0 : Int32) (ns : Nat) : Int32 × (Nat → Int32) × (Nat → Int32) :=
  if p0 < 0 then
    (p0, g, M)
  else
    match f_X7_records g M ns with
    | (g_c2, M_c2) =>
      (p0, g_c2, (cpyM M_c2 6 0 46))
theorem cd_X7_settles : yX7_settles.cls = RX7 ∧ yX7_settles.cls ≠ "java/lang/invoke/MethodHandle" ∧ yX7_settles.cls ≠ "java/lang/invoke/VarHandle" ∧ (parseMethodDescriptor yX7_settles.desc).map (fun d => d.parameters.length) = some 1 := by decide +kernel
set_option maxHeartbeats 4000000 in
set_option maxRecDepth 100000 in
theorem c_X7_settles (l : Launch) (G : GG) (a : Nat → Nat) (g : (Nat → Int32)) (M : (Nat → Int32)) (T : (Nat → Int32)) (Y : (Nat → Int32)) (sz : Nat) (p0 : Int32) (ns : Nat) (hs : g 0 = nI ns) (hn : ns ≤ 4) : Met l yX7_settles wsX7_settles ({ frames := 2, cells := 0, slots := 0, locals := 44 }) (Pre G [.ref (a 0), .int p0] (MC G a g M T Y) sz) (PI G (va_A (MC G a g M T Y) sz) (fun r (u : (Nat → Int32) × (Nat → Int32)) => f_X7_settles g M p0 ns = (r, u)) (fun u : (Nat → Int32) × (Nat → Int32) => MC G a u.1 u.2 T Y)) 0 0 (va_A (MC G a g M T Y) sz) := by
  refine Met.walk (cc := cX7_settles) (maxL := 2) (ret := (some .int)) (Qc := fun A => PI G A (fun r (u : (Nat → Int32) × (Nat → Int32)) => f_X7_settles g M p0 ns = (r, u)) (fun u : (Nat → Int32) × (Nat → Int32) => MC G a u.1 u.2 T Y)) (by decide) rfl (Nat.le_of_ble_eq_true rfl) ?_
  intro p e s m below meth c A H C0 _ hK hsz hP hD hA hS ls hl
  have hx := C0.1
  have hb := C0.2.1
  have hown : s.vm.findClass RX7 = some m.cls := C0.2.2.2.2.1
  have hml := C0.2.2.2.1
  have hts : ∀ w ∈ wsX7_settles, w.before [.ref (a 0), .int p0].toArray s = true := C0.2.2.2.2.2.1
  have hl : lv_has ls 2 [(0, .ref (a 0)), (1, .int p0)] := hl
  refine lv_iload_n hx hb dX7_settles_0 rfl (lv_at hl 1 rfl) ?_
  refine lv_if_lt (tgt := 15) hx hb dX7_settles_1 (by decide) (fun c_1 => ?_) (fun c_1 => ?_)
  · refine lv_iload_n hx hb dX7_settles_15 rfl (lv_at hl 1 rfl) ?_
    exact end_I C0 hP hD hS (g, M) (by simp only [f_X7_settles, if_pos c_1]) rfl dX7_settles_16
  · refine lv_aload_n hx hb dX7_settles_4 rfl (lv_at hl 0 rfl) ?_
    refine gcall_V (run_V (As := []) (rest := []) C0 hK hP hD (c_X7_records l G a g M T Y H.size ns hs hn) (cwV 0 hts gX7_settles_X7_records rfl rfl rfl cd_X7_records ⟨Nat.le_of_ble_eq_true rfl, Nat.le_of_ble_eq_true rfl⟩) [0, 1, 2, 3] rfl rfl 0 (ci := 7) rfl rfl rfl rfl hl.1 rfl (Nat.le_of_ble_eq_true rfl) dX7_settles_5 ⟨Nat.le_of_ble_eq_true rfl, Nat.le_of_ble_eq_true rfl⟩) hP hD hS hA [0, 1, 2, 3] rfl rfl (fun _ => rfl) (fun u_2 H locs hw_2 hP hD hS => ?_)
    obtain ⟨g_c2, M_c2⟩ := u_2
    have hP : va_P G.1 vwCl (MC G a g_c2 M_c2 T Y) H := hP
    have hD : va_D A (MC G a g_c2 M_c2 T Y) := hD
    refine lv_aload_n hx hb dX7_settles_8 rfl (lv_at hl 0 rfl) ?_
    refine lv_bipush (v := (nI 6)) hx hb dX7_settles_9 (by decide) ?_
    refine lv_iconst (v := (nI 0)) hx hb dX7_settles_11 (by decide) ?_
    refine gcall_V (run_V (As := [.int (nI 6), .int (nI 0)]) (rest := []) C0 hK hP hD (c_X7_copies l G a g_c2 M_c2 T Y H.size 6 0 (by omega) (by omega) (by omega)) (cwV 2 hts gX7_settles_X7_copies rfl rfl rfl cd_X7_copies ⟨Nat.le_of_ble_eq_true rfl, Nat.le_of_ble_eq_true rfl⟩) [0, 1, 2, 3] rfl rfl 0 (ci := 7) rfl rfl rfl rfl hl.1 rfl (Nat.le_of_ble_eq_true rfl) dX7_settles_12 ⟨Nat.le_of_ble_eq_true rfl, Nat.le_of_ble_eq_true rfl⟩) hP hD hS hA [0, 1, 2, 3] rfl rfl (fun _ => rfl) (fun u_3 H locs hw_3 hP hD hS => ?_)
    obtain ⟨M_c3, rfl⟩ : ∃ z, z = u_3 := ⟨_, rfl⟩
    simp only [f_X7_copies, Prod.mk.injEq] at hw_3
    obtain rfl := hw_3
    have hP : va_P G.1 vwCl (MC G a g_c2 (cpyM M_c2 6 0 46) T Y) H := hP
    have hD : va_D A (MC G a g_c2 (cpyM M_c2 6 0 46) T Y) := hD
    refine lv_iload_n hx hb dX7_settles_15 rfl (lv_at hl 1 rfl) ?_
    exact end_I C0 hP hD hS (g_c2, (cpyM M_c2 6 0 46)) (by simp only [f_X7_settles, if_neg c_1, hw_2]) rfl dX7_settles_16

def s_X7_leaves_15 (b : Nat) (k : Nat) : Nat → (Nat → Int32) → Int32 → Nat → Int32 × (Nat → Int32)
  | 0, _, _, _ => (0, fun _ => 0)
  | n + 1, M_15, kd, j =>
    if (nI k) ≤ (nI (j + 1)) then
      (kd, (upd M_15 (b + 25) ((M_15 (b + 25)) - (nI 1))))
    else
      s_X7_leaves_15 b k n (upd M_15 (b + 26 + j) (M_15 (b + 26 + j + 1))) kd (j + 1)
def f_X7_leaves (M : (Nat → Int32)) (b : Nat) (i : Nat) (k : Nat) : Int32 × (Nat → Int32) :=
  s_X7_leaves_15 b k 13 M (M (b + 26 + i)) i
set_option maxRecDepth 20000 in
theorem k_X7_leaves_f7 : Cond.fieldLink RX7 7 "SteamRationsModel" "s" "[I" ∈ wsX7_leaves := by decide +kernel
set_option maxRecDepth 20000 in
theorem in_X7_leaves_RX7 : ∀ w ∈ u_ws RX7 TX7 11, w ∈ wsX7_leaves := by decide +kernel
theorem cd_X7_leaves : yX7_leaves.cls = RX7 ∧ yX7_leaves.cls ≠ "java/lang/invoke/MethodHandle" ∧ yX7_leaves.cls ≠ "java/lang/invoke/VarHandle" ∧ (parseMethodDescriptor yX7_leaves.desc).map (fun d => d.parameters.length) = some 2 := by decide +kernel
set_option maxHeartbeats 4000000 in
set_option maxRecDepth 100000 in
theorem c_X7_leaves (l : Launch) (G : GG) (a : Nat → Nat) (g : (Nat → Int32)) (M : (Nat → Int32)) (T : (Nat → Int32)) (Y : (Nat → Int32)) (sz : Nat) (b : Nat) (i : Nat) (k : Nat) (hb : b ≤ 322) (hm : M (b + 25) = nI k) (hk : k ≤ 12) (hi : i < k) : Met l yX7_leaves wsX7_leaves ({ frames := 0, cells := 0, slots := 0, locals := 0 }) (Pre G [.ref (a 0), .int (nI b), .int (nI i)] (MC G a g M T Y) sz) (PI G (va_A (MC G a g M T Y) sz) (fun r (u : (Nat → Int32)) => f_X7_leaves M b i k = (r, u)) (fun u : (Nat → Int32) => MC G a g u T Y)) 0 0 (va_A (MC G a g M T Y) sz) := by
  refine Met.walk (cc := cX7_leaves) (maxL := 5) (ret := (some .int)) (Qc := fun A => PI G A (fun r (u : (Nat → Int32)) => f_X7_leaves M b i k = (r, u)) (fun u : (Nat → Int32) => MC G a g u T Y)) (by decide) rfl (Nat.le_of_ble_eq_true rfl) ?_
  intro p e s m below meth c A H C0 _ hK hsz hP hD hA hS ls hl
  have hx := C0.1
  have hb := C0.2.1
  have hown : s.vm.findClass RX7 = some m.cls := C0.2.2.2.2.1
  have hml := C0.2.2.2.1
  have hts : ∀ w ∈ wsX7_leaves, w.before [.ref (a 0), .int (nI b), .int (nI i)].toArray s = true := C0.2.2.2.2.2.1
  have hl : lv_has ls 5 [(0, .ref (a 0)), (1, .int (nI b)), (2, .int (nI i))] := hl
  have h_X7_leaves_15 : ∀ (n : Nat) (M_15 : (Nat → Int32)) (kd : Int32) (j : Nat), k - j < n → (M_15 (b + 25) = nI k) → (j ≤ k) → f_X7_leaves M b i k = s_X7_leaves_15 b k n M_15 kd j → ∀ (H : Heap) (locs : List Loc) (ls : Array Slot), va_P G.1 vwCl (MC G a g M_15 T Y) H → va_D A (MC G a g M_15 T Y) → va_S A s.heap H locs → lv_has ls 5 [(4, .int (nI j)), (3, .int kd), (0, .ref (a 0)), (1, .int (nI b))] → W p l e ({ frames := 0, cells := 0, slots := 0, locals := 0 }) s m ([.ref (a 0), .int (nI b), .int (nI i)] : List Value).toArray below meth c H locs 0 0 (MQ below (PI G A (fun r (u : (Nat → Int32)) => f_X7_leaves M b i k = (r, u)) (fun u : (Nat → Int32) => MC G a g u T Y)) ([.ref (a 0), .int (nI b), .int (nI i)] : List Value).toArray s 0 0 A) (F0 m 15 ls []) := by
    intro n
    induction n with
    | zero =>
      intro M_15 kd j hm
      exact absurd hm (Nat.not_lt_zero _)
    | succ n ih =>
      intro M_15 kd j hm hm hj0 hE H locs ls hP hD hS hl
      refine lv_iload hx hb dX7_leaves_15 (lv_at hl 0 rfl) ?_
      refine lv_iconst (v := (nI 1)) hx hb dX7_leaves_17 (by decide) ?_
      refine n_iadd (i := j) (j := 1) hx hb dX7_leaves_18 ?_
      refine lv_aload_n hx hb dX7_leaves_19 rfl (lv_at hl 2 rfl) ?_
      refine va_get (D := G.1) (ci := 7) (v := .ref (a 1)) (C := RX7) (T := TX7) (N := 11) hx hb hts in_X7_leaves_RX7 hown hK.1 hP 0 rfl rfl 0 (by decide) (hts _ k_X7_leaves_f7) (fun _ h9 => h9) rfl dX7_leaves_20 ?_
      refine lv_iload_n hx hb dX7_leaves_23 rfl (lv_at hl 3 rfl) ?_
      refine lv_bipush (v := (nI 25)) hx hb dX7_leaves_24 (by decide) ?_
      refine n_iadd (i := b) (j := 25) hx hb dX7_leaves_26 ?_
      refine n_iald (f := M_15) (j := b + 25) hx hb hK hP 1 rfl (by omega) (by decide) dX7_leaves_27 ?_
      have ej_2 : (M_15 (b + 25)) = nI k := hm
      refine W.eq (g2 := F0 m 28 ls ([.int (nI k), .int (nI (j + 1))])) (by rw [← ej_2]) ?_
      refine lv_icmp_ge (tgt := 63) hx hb dX7_leaves_28 (by decide) (fun c_1 => ?_) (fun c_1 => ?_)
      · have c_1n : k ≤ (j + 1) := (nI_leI (by omega) (by omega)).mp c_1
        refine lv_aload_n hx hb dX7_leaves_63 rfl (lv_at hl 2 rfl) ?_
        refine va_get (D := G.1) (ci := 7) (v := .ref (a 1)) (C := RX7) (T := TX7) (N := 11) hx hb hts in_X7_leaves_RX7 hown hK.1 hP 0 rfl rfl 0 (by decide) (hts _ k_X7_leaves_f7) (fun _ h9 => h9) rfl dX7_leaves_64 ?_
        refine lv_iload_n hx hb dX7_leaves_67 rfl (lv_at hl 3 rfl) ?_
        refine lv_bipush (v := (nI 25)) hx hb dX7_leaves_68 (by decide) ?_
        refine n_iadd (i := b) (j := 25) hx hb dX7_leaves_70 ?_
        refine lv_dup2_11 hx hb dX7_leaves_71 rfl rfl ?_
        refine n_iald (f := M_15) (j := b + 25) hx hb hK hP 1 rfl (by omega) (by decide) dX7_leaves_72 ?_
        refine lv_iconst (v := (nI 1)) hx hb dX7_leaves_73 (by decide) ?_
        refine lv_isub hx hb dX7_leaves_74 ?_
        refine n_iast (f := M_15) (j := b + 25) (x := ((M_15 (b + 25)) - (nI 1))) hx hb hK hP hD hS 1 rfl (by omega) (by decide) dX7_leaves_75 (fun H locs hP hD hS => ?_)
        have hP : va_P G.1 vwCl (MC G a g (upd M_15 (b + 25) ((M_15 (b + 25)) - (nI 1))) T Y) H := hP
        have hD : va_D A (MC G a g (upd M_15 (b + 25) ((M_15 (b + 25)) - (nI 1))) T Y) := hD
        refine lv_iload_n hx hb dX7_leaves_76 rfl (lv_at hl 1 rfl) ?_
        exact end_I C0 hP hD hS (upd M_15 (b + 25) ((M_15 (b + 25)) - (nI 1))) (hE.trans (by simp only [s_X7_leaves_15, if_pos c_1])) rfl dX7_leaves_77
      · have c_1n : ¬ (k ≤ (j + 1)) := fun z => c_1 ((nI_leI (by omega) (by omega)).mpr z)
        refine lv_aload_n hx hb dX7_leaves_31 rfl (lv_at hl 2 rfl) ?_
        refine va_get (D := G.1) (ci := 7) (v := .ref (a 1)) (C := RX7) (T := TX7) (N := 11) hx hb hts in_X7_leaves_RX7 hown hK.1 hP 0 rfl rfl 0 (by decide) (hts _ k_X7_leaves_f7) (fun _ h9 => h9) rfl dX7_leaves_32 ?_
        refine lv_iload_n hx hb dX7_leaves_35 rfl (lv_at hl 3 rfl) ?_
        refine lv_bipush (v := (nI 26)) hx hb dX7_leaves_36 (by decide) ?_
        refine n_iadd (i := b) (j := 26) hx hb dX7_leaves_38 ?_
        refine lv_iload hx hb dX7_leaves_39 (lv_at hl 0 rfl) ?_
        refine n_iadd (i := b + 26) (j := j) hx hb dX7_leaves_41 ?_
        refine lv_aload_n hx hb dX7_leaves_42 rfl (lv_at hl 2 rfl) ?_
        refine va_get (D := G.1) (ci := 7) (v := .ref (a 1)) (C := RX7) (T := TX7) (N := 11) hx hb hts in_X7_leaves_RX7 hown hK.1 hP 0 rfl rfl 0 (by decide) (hts _ k_X7_leaves_f7) (fun _ h9 => h9) rfl dX7_leaves_43 ?_
        refine lv_iload_n hx hb dX7_leaves_46 rfl (lv_at hl 3 rfl) ?_
        refine lv_bipush (v := (nI 26)) hx hb dX7_leaves_47 (by decide) ?_
        refine n_iadd (i := b) (j := 26) hx hb dX7_leaves_49 ?_
        refine lv_iload hx hb dX7_leaves_50 (lv_at hl 0 rfl) ?_
        refine n_iadd (i := b + 26) (j := j) hx hb dX7_leaves_52 ?_
        refine lv_iconst (v := (nI 1)) hx hb dX7_leaves_53 (by decide) ?_
        refine n_iadd (i := b + 26 + j) (j := 1) hx hb dX7_leaves_54 ?_
        refine n_iald (f := M_15) (j := b + 26 + j + 1) hx hb hK hP 1 rfl (by omega) (by decide) dX7_leaves_55 ?_
        refine n_iast (f := M_15) (j := b + 26 + j) (x := (M_15 (b + 26 + j + 1))) hx hb hK hP hD hS 1 rfl (by omega) (by decide) dX7_leaves_56 (fun H locs hP hD hS => ?_)
        have hP : va_P G.1 vwCl (MC G a g (upd M_15 (b + 26 + j) (M_15 (b + 26 + j + 1))) T Y) H := hP
        have hD : va_D A (MC G a g (upd M_15 (b + 26 + j) (M_15 (b + 26 + j + 1))) T Y) := hD
        refine lv_iinc (v := (nI (j + 1))) (lv' := [(4, .int (nI (j + 1))), (3, .int kd), (0, .ref (a 0)), (1, .int (nI b))]) hx hb dX7_leaves_57 hl (k := 0) rfl (inc1 j) (by decide) rfl (fun ls hl => ?_)
        refine lv_goto (tgt := 15) hx hb dX7_leaves_60 (by decide) ?_
        exact ih (upd M_15 (b + 26 + j) (M_15 (b + 26 + j + 1))) kd (j + 1) (by omega) (by rw [pk_un (by omega)]; exact hm) (by omega) (hE.trans (by simp only [s_X7_leaves_15, if_neg c_1])) _ _ _ hP hD hS (lv_sub hl [0, 1, 2, 3] rfl)
  refine lv_aload_n hx hb dX7_leaves_0 rfl (lv_at hl 0 rfl) ?_
  refine va_get (D := G.1) (ci := 7) (v := .ref (a 1)) (C := RX7) (T := TX7) (N := 11) hx hb hts in_X7_leaves_RX7 hown hK.1 hP 0 rfl rfl 0 (by decide) (hts _ k_X7_leaves_f7) (fun _ h9 => h9) rfl dX7_leaves_1 ?_
  refine lv_iload_n hx hb dX7_leaves_4 rfl (lv_at hl 1 rfl) ?_
  refine lv_bipush (v := (nI 26)) hx hb dX7_leaves_5 (by decide) ?_
  refine n_iadd (i := b) (j := 26) hx hb dX7_leaves_7 ?_
  refine lv_iload_n hx hb dX7_leaves_8 rfl (lv_at hl 2 rfl) ?_
  refine n_iadd (i := b + 26) (j := i) hx hb dX7_leaves_9 ?_
  refine n_iald (f := M) (j := b + 26 + i) hx hb hK hP 1 rfl (by omega) (by decide) dX7_leaves_10 ?_
  refine lv_istore_n (lv' := [(3, .int (M (b + 26 + i))), (0, .ref (a 0)), (1, .int (nI b)), (2, .int (nI i))]) hx hb dX7_leaves_11 rfl hl (by decide) rfl (fun ls hl => ?_)
  refine lv_iload_n hx hb dX7_leaves_12 rfl (lv_at hl 3 rfl) ?_
  refine lv_istore (lv' := [(4, .int (nI i)), (3, .int (M (b + 26 + i))), (0, .ref (a 0)), (1, .int (nI b)), (2, .int (nI i))]) hx hb dX7_leaves_13 hl (by decide) rfl (fun ls hl => ?_)
  exact h_X7_leaves_15 13 M (M (b + 26 + i)) i (by omega) hm (by omega) (by simp only [f_X7_leaves]) _ _ _ hP hD hS (lv_sub hl [0, 1, 2, 3] rfl)

def f_X7_queues (M : (Nat → Int32)) (x : Nat) (p0 : Int32) (k : Nat) : Int32 × (Nat → Int32) :=
  if (f_X7_in p0 (nI 0) (nI 2)) = 0 then
    ((-1), M)
  else
    if (nI k) = (nI 12) then
      ((-3), M)
    else
      ((((upd (upd M (((46 * x) + 26) + k) p0) ((46 * x) + 25) (((upd M (((46 * x) + 26) + k) p0) ((46 * x) + 25)) + (nI 1))) ((46 * x) + 25)) - (nI 1)), (upd (upd M (((46 * x) + 26) + k) p0) ((46 * x) + 25) (((upd M (((46 * x) + 26) + k) p0) ((46 * x) + 25)) + (nI 1))))
set_option maxRecDepth 20000 in
theorem k_X7_queues_f7 : Cond.fieldLink RX7 7 "SteamRationsModel" "s" "[I" ∈ wsX7_queues := by decide +kernel
set_option maxRecDepth 20000 in
theorem in_X7_queues_RX7 : ∀ w ∈ u_ws RX7 TX7 11, w ∈ wsX7_queues := by decide +kernel
theorem cd_X7_queues : yX7_queues.cls = RX7 ∧ yX7_queues.cls ≠ "java/lang/invoke/MethodHandle" ∧ yX7_queues.cls ≠ "java/lang/invoke/VarHandle" ∧ (parseMethodDescriptor yX7_queues.desc).map (fun d => d.parameters.length) = some 2 := by decide +kernel
set_option maxHeartbeats 4000000 in
set_option maxRecDepth 100000 in
theorem c_X7_queues (l : Launch) (G : GG) (a : Nat → Nat) (g : (Nat → Int32)) (M : (Nat → Int32)) (T : (Nat → Int32)) (Y : (Nat → Int32)) (sz : Nat) (x : Nat) (p0 : Int32) (k : Nat) (hx : x ≤ 6) (hm : M (46 * x + 25) = nI k) (hk : k ≤ 12) : Met l yX7_queues wsX7_queues ({ frames := 1, cells := 0, slots := 0, locals := 22 }) (Pre G [.ref (a 0), .int (nI x), .int p0] (MC G a g M T Y) sz) (PI G (va_A (MC G a g M T Y) sz) (fun r (u : (Nat → Int32)) => f_X7_queues M x p0 k = (r, u)) (fun u : (Nat → Int32) => MC G a g u T Y)) 0 0 (va_A (MC G a g M T Y) sz) := by
  refine Met.walk (cc := cX7_queues) (maxL := 4) (ret := (some .int)) (Qc := fun A => PI G A (fun r (u : (Nat → Int32)) => f_X7_queues M x p0 k = (r, u)) (fun u : (Nat → Int32) => MC G a g u T Y)) (by decide) rfl (Nat.le_of_ble_eq_true rfl) ?_
  intro p e s m below meth c A H C0 _ hK hsz hP hD hA hS ls hl
  have hx := C0.1
  have hb := C0.2.1
  have hown : s.vm.findClass RX7 = some m.cls := C0.2.2.2.2.1
  have hml := C0.2.2.2.1
  have hts : ∀ w ∈ wsX7_queues, w.before [.ref (a 0), .int (nI x), .int p0].toArray s = true := C0.2.2.2.2.2.1
  have hl : lv_has ls 4 [(0, .ref (a 0)), (1, .int (nI x)), (2, .int p0)] := hl
  refine lv_iload_n hx hb dX7_queues_0 rfl (lv_at hl 2 rfl) ?_
  refine lv_iconst (v := (nI 0)) hx hb dX7_queues_1 (by decide) ?_
  refine lv_iconst (v := (nI 2)) hx hb dX7_queues_2 (by decide) ?_
  refine gcall_I (run_S (As := [.int p0, .int (nI 0), .int (nI 2)]) (rest := []) C0 hK hP hD (c_X7_in l G   H.size p0 (nI 0) (nI 2)) (va_cwS 3 hts gX7_queues_X7_in rfl rfl rfl cd2_X7_in ⟨Nat.le_of_ble_eq_true rfl, Nat.le_of_ble_eq_true rfl⟩) [] rfl rfl rfl hl.1 rfl (Nat.le_of_ble_eq_true rfl) dX7_queues_3 ⟨Nat.le_of_ble_eq_true rfl, Nat.le_of_ble_eq_true rfl⟩) hP hD hS hA [] rfl rfl (fun _ => rfl) (fun r_1 _ H locs hw_1 hP hD hS => ?_)
  have hz_r_1 := hw_1.2
  have hw_1 := hw_1.1
  subst hw_1
  have hP : va_P G.1 vwCl (MC G a g M T Y) H := hP
  have hD : va_D A (MC G a g M T Y) := hD
  refine lv_if_ne (tgt := 11) hx hb dX7_queues_6 (by decide) (fun c_2 => ?_) (fun c_2 => ?_)
  · refine lv_bipush (v := (nI 46)) hx hb dX7_queues_11 (by decide) ?_
    refine lv_iload_n hx hb dX7_queues_13 rfl (lv_at hl 1 rfl) ?_
    refine n_imul (i := 46) (j := x) hx hb dX7_queues_14 ?_
    refine lv_istore_n (lv' := [(3, .int (nI (46 * x))), (0, .ref (a 0)), (1, .int (nI x)), (2, .int p0)]) hx hb dX7_queues_15 rfl hl (by decide) rfl (fun ls hl => ?_)
    refine lv_aload_n hx hb dX7_queues_16 rfl (lv_at hl 1 rfl) ?_
    refine va_get (D := G.1) (ci := 7) (v := .ref (a 1)) (C := RX7) (T := TX7) (N := 11) hx hb hts in_X7_queues_RX7 hown hK.1 hP 0 rfl rfl 0 (by decide) (hts _ k_X7_queues_f7) (fun _ h9 => h9) rfl dX7_queues_17 ?_
    refine lv_iload_n hx hb dX7_queues_20 rfl (lv_at hl 0 rfl) ?_
    refine lv_bipush (v := (nI 25)) hx hb dX7_queues_21 (by decide) ?_
    refine n_iadd (i := 46 * x) (j := 25) hx hb dX7_queues_23 ?_
    refine W.eq (g2 := F0 m 24 ls ([.int (nI ((46 * x) + 25)), .ref (a 1)])) (by first | rfl | (simp only [F0]; congr 3; omega)) ?_
    refine n_iald (f := M) (j := (46 * x) + 25) hx hb hK hP 1 rfl (by omega) (by decide) dX7_queues_24 ?_
    have ej_3 : (M ((46 * x) + 25)) = nI k := hm
    refine W.eq (g2 := F0 m 25 ls ([.int (nI k)])) (by rw [← ej_3]) ?_
    refine lv_bipush (v := (nI 12)) hx hb dX7_queues_25 (by decide) ?_
    refine lv_icmp_ne (tgt := 33) hx hb dX7_queues_27 (by decide) (fun c_3 => ?_) (fun c_3 => ?_)
    · have c_3n : ¬ k = 12 := fun z => c_3 (by rw [z])
      refine lv_aload_n hx hb dX7_queues_33 rfl (lv_at hl 1 rfl) ?_
      refine va_get (D := G.1) (ci := 7) (v := .ref (a 1)) (C := RX7) (T := TX7) (N := 11) hx hb hts in_X7_queues_RX7 hown hK.1 hP 0 rfl rfl 0 (by decide) (hts _ k_X7_queues_f7) (fun _ h9 => h9) rfl dX7_queues_34 ?_
      refine lv_iload_n hx hb dX7_queues_37 rfl (lv_at hl 0 rfl) ?_
      refine lv_bipush (v := (nI 26)) hx hb dX7_queues_38 (by decide) ?_
      refine n_iadd (i := 46 * x) (j := 26) hx hb dX7_queues_40 ?_
      refine W.eq (g2 := F0 m 41 ls ([.int (nI ((46 * x) + 26)), .ref (a 1)])) (by first | rfl | (simp only [F0]; congr 3; omega)) ?_
      refine lv_aload_n hx hb dX7_queues_41 rfl (lv_at hl 1 rfl) ?_
      refine va_get (D := G.1) (ci := 7) (v := .ref (a 1)) (C := RX7) (T := TX7) (N := 11) hx hb hts in_X7_queues_RX7 hown hK.1 hP 0 rfl rfl 0 (by decide) (hts _ k_X7_queues_f7) (fun _ h9 => h9) rfl dX7_queues_42 ?_
      refine lv_iload_n hx hb dX7_queues_45 rfl (lv_at hl 0 rfl) ?_
      refine lv_bipush (v := (nI 25)) hx hb dX7_queues_46 (by decide) ?_
      refine n_iadd (i := 46 * x) (j := 25) hx hb dX7_queues_48 ?_
      refine W.eq (g2 := F0 m 49 ls ([.int (nI ((46 * x) + 25)), .ref (a 1), .int (nI ((46 * x) + 26)), .ref (a 1)])) (by first | rfl | (simp only [F0]; congr 3; omega)) ?_
      refine n_iald (f := M) (j := (46 * x) + 25) hx hb hK hP 1 rfl (by omega) (by decide) dX7_queues_49 ?_
      have ej_4 : (M ((46 * x) + 25)) = nI k := hm
      refine W.eq (g2 := F0 m 50 ls ([.int (nI k), .int (nI ((46 * x) + 26)), .ref (a 1)])) (by rw [← ej_4]) ?_
      refine n_iadd (i := (46 * x) + 26) (j := k) hx hb dX7_queues_50 ?_
      refine W.eq (g2 := F0 m 51 ls ([.int (nI (((46 * x) + 26) + k)), .ref (a 1)])) (by first | rfl | (simp only [F0]; congr 3; omega)) ?_
      refine lv_iload_n hx hb dX7_queues_51 rfl (lv_at hl 3 rfl) ?_
      refine n_iast (f := M) (j := ((46 * x) + 26) + k) (x := p0) hx hb hK hP hD hS 1 rfl (by omega) (by decide) dX7_queues_52 (fun H locs hP hD hS => ?_)
      have hP : va_P G.1 vwCl (MC G a g (upd M (((46 * x) + 26) + k) p0) T Y) H := hP
      have hD : va_D A (MC G a g (upd M (((46 * x) + 26) + k) p0) T Y) := hD
      refine lv_aload_n hx hb dX7_queues_53 rfl (lv_at hl 1 rfl) ?_
      refine va_get (D := G.1) (ci := 7) (v := .ref (a 1)) (C := RX7) (T := TX7) (N := 11) hx hb hts in_X7_queues_RX7 hown hK.1 hP 0 rfl rfl 0 (by decide) (hts _ k_X7_queues_f7) (fun _ h9 => h9) rfl dX7_queues_54 ?_
      refine lv_iload_n hx hb dX7_queues_57 rfl (lv_at hl 0 rfl) ?_
      refine lv_bipush (v := (nI 25)) hx hb dX7_queues_58 (by decide) ?_
      refine n_iadd (i := 46 * x) (j := 25) hx hb dX7_queues_60 ?_
      refine W.eq (g2 := F0 m 61 ls ([.int (nI ((46 * x) + 25)), .ref (a 1)])) (by first | rfl | (simp only [F0]; congr 3; omega)) ?_
      refine lv_dup2_11 hx hb dX7_queues_61 rfl rfl ?_
      refine n_iald (f := (upd M (((46 * x) + 26) + k) p0)) (j := (46 * x) + 25) hx hb hK hP 1 rfl (by omega) (by decide) dX7_queues_62 ?_
      refine lv_iconst (v := (nI 1)) hx hb dX7_queues_63 (by decide) ?_
      refine lv_iadd hx hb dX7_queues_64 ?_
      refine n_iast (f := (upd M (((46 * x) + 26) + k) p0)) (j := (46 * x) + 25) (x := (((upd M (((46 * x) + 26) + k) p0) ((46 * x) + 25)) + (nI 1))) hx hb hK hP hD hS 1 rfl (by omega) (by decide) dX7_queues_65 (fun H locs hP hD hS => ?_)
      have hP : va_P G.1 vwCl (MC G a g (upd (upd M (((46 * x) + 26) + k) p0) ((46 * x) + 25) (((upd M (((46 * x) + 26) + k) p0) ((46 * x) + 25)) + (nI 1))) T Y) H := hP
      have hD : va_D A (MC G a g (upd (upd M (((46 * x) + 26) + k) p0) ((46 * x) + 25) (((upd M (((46 * x) + 26) + k) p0) ((46 * x) + 25)) + (nI 1))) T Y) := hD
      refine lv_aload_n hx hb dX7_queues_66 rfl (lv_at hl 1 rfl) ?_
      refine va_get (D := G.1) (ci := 7) (v := .ref (a 1)) (C := RX7) (T := TX7) (N := 11) hx hb hts in_X7_queues_RX7 hown hK.1 hP 0 rfl rfl 0 (by decide) (hts _ k_X7_queues_f7) (fun _ h9 => h9) rfl dX7_queues_67 ?_
      refine lv_iload_n hx hb dX7_queues_70 rfl (lv_at hl 0 rfl) ?_
      refine lv_bipush (v := (nI 25)) hx hb dX7_queues_71 (by decide) ?_
      refine n_iadd (i := 46 * x) (j := 25) hx hb dX7_queues_73 ?_
      refine W.eq (g2 := F0 m 74 ls ([.int (nI ((46 * x) + 25)), .ref (a 1)])) (by first | rfl | (simp only [F0]; congr 3; omega)) ?_
      refine n_iald (f := (upd (upd M (((46 * x) + 26) + k) p0) ((46 * x) + 25) (((upd M (((46 * x) + 26) + k) p0) ((46 * x) + 25)) + (nI 1)))) (j := (46 * x) + 25) hx hb hK hP 1 rfl (by omega) (by decide) dX7_queues_74 ?_
      refine lv_iconst (v := (nI 1)) hx hb dX7_queues_75 (by decide) ?_
      refine lv_isub hx hb dX7_queues_76 ?_
      exact end_I C0 hP hD hS (upd (upd M (((46 * x) + 26) + k) p0) ((46 * x) + 25) (((upd M (((46 * x) + 26) + k) p0) ((46 * x) + 25)) + (nI 1))) (by simp only [f_X7_queues, if_neg c_2, if_neg c_3]) rfl dX7_queues_77
    · have c_3n : k = 12 := (nI_eq (by omega) (by omega)).mp c_3
      refine lv_bipush (v := (-3)) hx hb dX7_queues_30 (by decide) ?_
      exact end_I C0 hP hD hS M (by simp only [f_X7_queues, if_neg c_2, if_pos c_3]) rfl dX7_queues_32
  · refine lv_iconst (v := (-1)) hx hb dX7_queues_9 (by decide) ?_
    exact end_I C0 hP hD hS M (by simp only [f_X7_queues, if_pos c_2]) rfl dX7_queues_10

def f_X7_setFire (g : (Nat → Int32)) (M : (Nat → Int32)) (p0 : Int32) (p1 : Int32) (ns : Nat) : Int32 × (Nat → Int32) × (Nat → Int32) :=
  match f_X7_sets (cpyM M 0 6 46) 6 p0 p1 with
  | (r_2, M_c2) =>
    match f_X7_settles g M_c2 r_2 ns with
    | (r_3, g_c3, M_c3) =>
      (r_3, g_c3, M_c3)
theorem cd_X7_setFire : yX7_setFire.cls = RX7 ∧ yX7_setFire.cls ≠ "java/lang/invoke/MethodHandle" ∧ yX7_setFire.cls ≠ "java/lang/invoke/VarHandle" ∧ (parseMethodDescriptor yX7_setFire.desc).map (fun d => d.parameters.length) = some 2 := by decide +kernel
set_option maxHeartbeats 4000000 in
set_option maxRecDepth 100000 in
theorem c_X7_setFire (l : Launch) (G : GG) (a : Nat → Nat) (g : (Nat → Int32)) (M : (Nat → Int32)) (T : (Nat → Int32)) (Y : (Nat → Int32)) (sz : Nat) (p0 : Int32) (p1 : Int32) (ns : Nat) (hs : g 0 = nI ns) (hn : ns ≤ 4) : Met l yX7_setFire wsX7_setFire ({ frames := 3, cells := 0, slots := 0, locals := 65 }) (Pre G [.ref (a 0), .int p0, .int p1] (MC G a g M T Y) sz) (PI G (va_A (MC G a g M T Y) sz) (fun r (u : (Nat → Int32) × (Nat → Int32)) => f_X7_setFire g M p0 p1 ns = (r, u)) (fun u : (Nat → Int32) × (Nat → Int32) => MC G a u.1 u.2 T Y)) 0 0 (va_A (MC G a g M T Y) sz) := by
  refine Met.walk (cc := cX7_setFire) (maxL := 3) (ret := (some .int)) (Qc := fun A => PI G A (fun r (u : (Nat → Int32) × (Nat → Int32)) => f_X7_setFire g M p0 p1 ns = (r, u)) (fun u : (Nat → Int32) × (Nat → Int32) => MC G a u.1 u.2 T Y)) (by decide) rfl (Nat.le_of_ble_eq_true rfl) ?_
  intro p e s m below meth c A H C0 _ hK hsz hP hD hA hS ls hl
  have hx := C0.1
  have hb := C0.2.1
  have hown : s.vm.findClass RX7 = some m.cls := C0.2.2.2.2.1
  have hml := C0.2.2.2.1
  have hts : ∀ w ∈ wsX7_setFire, w.before [.ref (a 0), .int p0, .int p1].toArray s = true := C0.2.2.2.2.2.1
  have hl : lv_has ls 3 [(0, .ref (a 0)), (1, .int p0), (2, .int p1)] := hl
  refine lv_aload_n hx hb dX7_setFire_0 rfl (lv_at hl 0 rfl) ?_
  refine lv_iconst (v := (nI 0)) hx hb dX7_setFire_1 (by decide) ?_
  refine lv_bipush (v := (nI 6)) hx hb dX7_setFire_2 (by decide) ?_
  refine gcall_V (run_V (As := [.int (nI 0), .int (nI 6)]) (rest := []) C0 hK hP hD (c_X7_copies l G a g M T Y H.size 0 6 (by omega) (by omega) (by omega)) (cwV 2 hts gX7_setFire_X7_copies rfl rfl rfl cd_X7_copies ⟨Nat.le_of_ble_eq_true rfl, Nat.le_of_ble_eq_true rfl⟩) [0, 1, 2, 3] rfl rfl 0 (ci := 7) rfl rfl rfl rfl hl.1 rfl (Nat.le_of_ble_eq_true rfl) dX7_setFire_4 ⟨Nat.le_of_ble_eq_true rfl, Nat.le_of_ble_eq_true rfl⟩) hP hD hS hA [0, 1, 2, 3] rfl rfl (fun _ => rfl) (fun u_1 H locs hw_1 hP hD hS => ?_)
  obtain ⟨M_c1, rfl⟩ : ∃ z, z = u_1 := ⟨_, rfl⟩
  simp only [f_X7_copies, Prod.mk.injEq] at hw_1
  obtain rfl := hw_1
  have hP : va_P G.1 vwCl (MC G a g (cpyM M 0 6 46) T Y) H := hP
  have hD : va_D A (MC G a g (cpyM M 0 6 46) T Y) := hD
  refine lv_aload_n hx hb dX7_setFire_7 rfl (lv_at hl 0 rfl) ?_
  refine lv_aload_n hx hb dX7_setFire_8 rfl (lv_at hl 0 rfl) ?_
  refine lv_bipush (v := (nI 6)) hx hb dX7_setFire_9 (by decide) ?_
  refine lv_iload_n hx hb dX7_setFire_11 rfl (lv_at hl 1 rfl) ?_
  refine lv_iload_n hx hb dX7_setFire_12 rfl (lv_at hl 2 rfl) ?_
  refine gcall_I (run_V (As := [.int (nI 6), .int p0, .int p1]) (rest := [.ref (a 0)]) C0 hK hP hD (c_X7_sets l G a g (cpyM M 0 6 46) T Y H.size 6 p0 p1 (by omega)) (cwV 3 hts gX7_setFire_X7_sets rfl rfl rfl cd_X7_sets ⟨Nat.le_of_ble_eq_true rfl, Nat.le_of_ble_eq_true rfl⟩) [0, 1, 2, 3] rfl rfl 0 (ci := 7) rfl rfl rfl rfl hl.1 rfl (Nat.le_of_ble_eq_true rfl) dX7_setFire_13 ⟨Nat.le_of_ble_eq_true rfl, Nat.le_of_ble_eq_true rfl⟩) hP hD hS hA [0, 1, 2, 3] rfl rfl (fun _ => rfl) (fun r_2 u_2 H locs hw_2 hP hD hS => ?_)
  obtain ⟨M_c2, rfl⟩ : ∃ z, z = u_2 := ⟨_, rfl⟩
  have hP : va_P G.1 vwCl (MC G a g M_c2 T Y) H := hP
  have hD : va_D A (MC G a g M_c2 T Y) := hD
  refine gcall_I (run_V (As := [.int r_2]) (rest := []) C0 hK hP hD (c_X7_settles l G a g M_c2 T Y H.size r_2 ns hs hn) (cwV 1 hts gX7_setFire_X7_settles rfl rfl rfl cd_X7_settles ⟨Nat.le_of_ble_eq_true rfl, Nat.le_of_ble_eq_true rfl⟩) [0, 1, 2, 3] rfl rfl 0 (ci := 7) rfl rfl rfl rfl hl.1 rfl (Nat.le_of_ble_eq_true rfl) dX7_setFire_16 ⟨Nat.le_of_ble_eq_true rfl, Nat.le_of_ble_eq_true rfl⟩) hP hD hS hA [0, 1, 2, 3] rfl rfl (fun _ => rfl) (fun r_3 u_3 H locs hw_3 hP hD hS => ?_)
  obtain ⟨g_c3, M_c3⟩ := u_3
  have hP : va_P G.1 vwCl (MC G a g_c3 M_c3 T Y) H := hP
  have hD : va_D A (MC G a g_c3 M_c3 T Y) := hD
  exact end_I C0 hP hD hS (g_c3, M_c3) (by simp only [f_X7_setFire, hw_2, hw_3]) rfl dX7_setFire_19

def f_X7_fill (g : (Nat → Int32)) (M : (Nat → Int32)) (p0 : Int32) (p1 : Int32) (ns : Nat) : Int32 × (Nat → Int32) × (Nat → Int32) :=
  match f_X7_fills (cpyM M 0 6 46) 6 p0 p1 with
  | (r_2, M_c2) =>
    match f_X7_settles g M_c2 r_2 ns with
    | (r_3, g_c3, M_c3) =>
      (r_3, g_c3, M_c3)
theorem cd_X7_fill : yX7_fill.cls = RX7 ∧ yX7_fill.cls ≠ "java/lang/invoke/MethodHandle" ∧ yX7_fill.cls ≠ "java/lang/invoke/VarHandle" ∧ (parseMethodDescriptor yX7_fill.desc).map (fun d => d.parameters.length) = some 2 := by decide +kernel
set_option maxHeartbeats 4000000 in
set_option maxRecDepth 100000 in
theorem c_X7_fill (l : Launch) (G : GG) (a : Nat → Nat) (g : (Nat → Int32)) (M : (Nat → Int32)) (T : (Nat → Int32)) (Y : (Nat → Int32)) (sz : Nat) (p0 : Int32) (p1 : Int32) (ns : Nat) (hs : g 0 = nI ns) (hn : ns ≤ 4) : Met l yX7_fill wsX7_fill ({ frames := 3, cells := 0, slots := 0, locals := 65 }) (Pre G [.ref (a 0), .int p0, .int p1] (MC G a g M T Y) sz) (PI G (va_A (MC G a g M T Y) sz) (fun r (u : (Nat → Int32) × (Nat → Int32)) => f_X7_fill g M p0 p1 ns = (r, u)) (fun u : (Nat → Int32) × (Nat → Int32) => MC G a u.1 u.2 T Y)) 0 0 (va_A (MC G a g M T Y) sz) := by
  refine Met.walk (cc := cX7_fill) (maxL := 3) (ret := (some .int)) (Qc := fun A => PI G A (fun r (u : (Nat → Int32) × (Nat → Int32)) => f_X7_fill g M p0 p1 ns = (r, u)) (fun u : (Nat → Int32) × (Nat → Int32) => MC G a u.1 u.2 T Y)) (by decide) rfl (Nat.le_of_ble_eq_true rfl) ?_
  intro p e s m below meth c A H C0 _ hK hsz hP hD hA hS ls hl
  have hx := C0.1
  have hb := C0.2.1
  have hown : s.vm.findClass RX7 = some m.cls := C0.2.2.2.2.1
  have hml := C0.2.2.2.1
  have hts : ∀ w ∈ wsX7_fill, w.before [.ref (a 0), .int p0, .int p1].toArray s = true := C0.2.2.2.2.2.1
  have hl : lv_has ls 3 [(0, .ref (a 0)), (1, .int p0), (2, .int p1)] := hl
  refine lv_aload_n hx hb dX7_fill_0 rfl (lv_at hl 0 rfl) ?_
  refine lv_iconst (v := (nI 0)) hx hb dX7_fill_1 (by decide) ?_
  refine lv_bipush (v := (nI 6)) hx hb dX7_fill_2 (by decide) ?_
  refine gcall_V (run_V (As := [.int (nI 0), .int (nI 6)]) (rest := []) C0 hK hP hD (c_X7_copies l G a g M T Y H.size 0 6 (by omega) (by omega) (by omega)) (cwV 2 hts gX7_fill_X7_copies rfl rfl rfl cd_X7_copies ⟨Nat.le_of_ble_eq_true rfl, Nat.le_of_ble_eq_true rfl⟩) [0, 1, 2, 3] rfl rfl 0 (ci := 7) rfl rfl rfl rfl hl.1 rfl (Nat.le_of_ble_eq_true rfl) dX7_fill_4 ⟨Nat.le_of_ble_eq_true rfl, Nat.le_of_ble_eq_true rfl⟩) hP hD hS hA [0, 1, 2, 3] rfl rfl (fun _ => rfl) (fun u_1 H locs hw_1 hP hD hS => ?_)
  obtain ⟨M_c1, rfl⟩ : ∃ z, z = u_1 := ⟨_, rfl⟩
  simp only [f_X7_copies, Prod.mk.injEq] at hw_1
  obtain rfl := hw_1
  have hP : va_P G.1 vwCl (MC G a g (cpyM M 0 6 46) T Y) H := hP
  have hD : va_D A (MC G a g (cpyM M 0 6 46) T Y) := hD
  refine lv_aload_n hx hb dX7_fill_7 rfl (lv_at hl 0 rfl) ?_
  refine lv_aload_n hx hb dX7_fill_8 rfl (lv_at hl 0 rfl) ?_
  refine lv_bipush (v := (nI 6)) hx hb dX7_fill_9 (by decide) ?_
  refine lv_iload_n hx hb dX7_fill_11 rfl (lv_at hl 1 rfl) ?_
  refine lv_iload_n hx hb dX7_fill_12 rfl (lv_at hl 2 rfl) ?_
  refine gcall_I (run_V (As := [.int (nI 6), .int p0, .int p1]) (rest := [.ref (a 0)]) C0 hK hP hD (c_X7_fills l G a g (cpyM M 0 6 46) T Y H.size 6 p0 p1 (by omega)) (cwV 3 hts gX7_fill_X7_fills rfl rfl rfl cd_X7_fills ⟨Nat.le_of_ble_eq_true rfl, Nat.le_of_ble_eq_true rfl⟩) [0, 1, 2, 3] rfl rfl 0 (ci := 7) rfl rfl rfl rfl hl.1 rfl (Nat.le_of_ble_eq_true rfl) dX7_fill_13 ⟨Nat.le_of_ble_eq_true rfl, Nat.le_of_ble_eq_true rfl⟩) hP hD hS hA [0, 1, 2, 3] rfl rfl (fun _ => rfl) (fun r_2 u_2 H locs hw_2 hP hD hS => ?_)
  obtain ⟨M_c2, rfl⟩ : ∃ z, z = u_2 := ⟨_, rfl⟩
  have hP : va_P G.1 vwCl (MC G a g M_c2 T Y) H := hP
  have hD : va_D A (MC G a g M_c2 T Y) := hD
  refine gcall_I (run_V (As := [.int r_2]) (rest := []) C0 hK hP hD (c_X7_settles l G a g M_c2 T Y H.size r_2 ns hs hn) (cwV 1 hts gX7_fill_X7_settles rfl rfl rfl cd_X7_settles ⟨Nat.le_of_ble_eq_true rfl, Nat.le_of_ble_eq_true rfl⟩) [0, 1, 2, 3] rfl rfl 0 (ci := 7) rfl rfl rfl rfl hl.1 rfl (Nat.le_of_ble_eq_true rfl) dX7_fill_16 ⟨Nat.le_of_ble_eq_true rfl, Nat.le_of_ble_eq_true rfl⟩) hP hD hS hA [0, 1, 2, 3] rfl rfl (fun _ => rfl) (fun r_3 u_3 H locs hw_3 hP hD hS => ?_)
  obtain ⟨g_c3, M_c3⟩ := u_3
  have hP : va_P G.1 vwCl (MC G a g_c3 M_c3 T Y) H := hP
  have hD : va_D A (MC G a g_c3 M_c3 T Y) := hD
  exact end_I C0 hP hD hS (g_c3, M_c3) (by simp only [f_X7_fill, hw_2, hw_3]) rfl dX7_fill_19

def f_X7_setRation (g : (Nat → Int32)) (M : (Nat → Int32)) (p0 : Int32) (ns : Nat) : Int32 × (Nat → Int32) × (Nat → Int32) :=
  if (f_X7_in p0 (nI 0) (nI 200)) = 0 then
    ((-2), g, M)
  else
    if (M 11) = p0 then
      ((-5), g, M)
    else
      match f_X7_records g M ns with
      | (g_c4, M_c4) =>
        ((M_c4 11), g_c4, (upd M_c4 11 p0))
set_option maxRecDepth 20000 in
theorem k_X7_setRation_f7 : Cond.fieldLink RX7 7 "SteamRationsModel" "s" "[I" ∈ wsX7_setRation := by decide +kernel
set_option maxRecDepth 20000 in
theorem in_X7_setRation_RX7 : ∀ w ∈ u_ws RX7 TX7 11, w ∈ wsX7_setRation := by decide +kernel
theorem cd_X7_setRation : yX7_setRation.cls = RX7 ∧ yX7_setRation.cls ≠ "java/lang/invoke/MethodHandle" ∧ yX7_setRation.cls ≠ "java/lang/invoke/VarHandle" ∧ (parseMethodDescriptor yX7_setRation.desc).map (fun d => d.parameters.length) = some 1 := by decide +kernel
set_option maxHeartbeats 4000000 in
set_option maxRecDepth 100000 in
theorem c_X7_setRation (l : Launch) (G : GG) (a : Nat → Nat) (g : (Nat → Int32)) (M : (Nat → Int32)) (T : (Nat → Int32)) (Y : (Nat → Int32)) (sz : Nat) (p0 : Int32) (ns : Nat) (hs : g 0 = nI ns) (hn : ns ≤ 4) : Met l yX7_setRation wsX7_setRation ({ frames := 2, cells := 0, slots := 0, locals := 44 }) (Pre G [.ref (a 0), .int p0] (MC G a g M T Y) sz) (PI G (va_A (MC G a g M T Y) sz) (fun r (u : (Nat → Int32) × (Nat → Int32)) => f_X7_setRation g M p0 ns = (r, u)) (fun u : (Nat → Int32) × (Nat → Int32) => MC G a u.1 u.2 T Y)) 0 0 (va_A (MC G a g M T Y) sz) := by
  refine Met.walk (cc := cX7_setRation) (maxL := 3) (ret := (some .int)) (Qc := fun A => PI G A (fun r (u : (Nat → Int32) × (Nat → Int32)) => f_X7_setRation g M p0 ns = (r, u)) (fun u : (Nat → Int32) × (Nat → Int32) => MC G a u.1 u.2 T Y)) (by decide) rfl (Nat.le_of_ble_eq_true rfl) ?_
  intro p e s m below meth c A H C0 _ hK hsz hP hD hA hS ls hl
  have hx := C0.1
  have hb := C0.2.1
  have hown : s.vm.findClass RX7 = some m.cls := C0.2.2.2.2.1
  have hml := C0.2.2.2.1
  have hts : ∀ w ∈ wsX7_setRation, w.before [.ref (a 0), .int p0].toArray s = true := C0.2.2.2.2.2.1
  have hl : lv_has ls 3 [(0, .ref (a 0)), (1, .int p0)] := hl
  refine lv_iload_n hx hb dX7_setRation_0 rfl (lv_at hl 1 rfl) ?_
  refine lv_iconst (v := (nI 0)) hx hb dX7_setRation_1 (by decide) ?_
  refine lv_sipush (v := (nI 200)) hx hb dX7_setRation_2 (by decide) ?_
  refine gcall_I (run_S (As := [.int p0, .int (nI 0), .int (nI 200)]) (rest := []) C0 hK hP hD (c_X7_in l G   H.size p0 (nI 0) (nI 200)) (va_cwS 3 hts gX7_setRation_X7_in rfl rfl rfl cd2_X7_in ⟨Nat.le_of_ble_eq_true rfl, Nat.le_of_ble_eq_true rfl⟩) [] rfl rfl rfl hl.1 rfl (Nat.le_of_ble_eq_true rfl) dX7_setRation_5 ⟨Nat.le_of_ble_eq_true rfl, Nat.le_of_ble_eq_true rfl⟩) hP hD hS hA [] rfl rfl (fun _ => rfl) (fun r_1 _ H locs hw_1 hP hD hS => ?_)
  have hz_r_1 := hw_1.2
  have hw_1 := hw_1.1
  subst hw_1
  have hP : va_P G.1 vwCl (MC G a g M T Y) H := hP
  have hD : va_D A (MC G a g M T Y) := hD
  refine lv_if_ne (tgt := 14) hx hb dX7_setRation_8 (by decide) (fun c_2 => ?_) (fun c_2 => ?_)
  · refine lv_aload_n hx hb dX7_setRation_14 rfl (lv_at hl 0 rfl) ?_
    refine va_get (D := G.1) (ci := 7) (v := .ref (a 1)) (C := RX7) (T := TX7) (N := 11) hx hb hts in_X7_setRation_RX7 hown hK.1 hP 0 rfl rfl 0 (by decide) (hts _ k_X7_setRation_f7) (fun _ h9 => h9) rfl dX7_setRation_15 ?_
    refine lv_bipush (v := (nI 11)) hx hb dX7_setRation_18 (by decide) ?_
    refine n_iald (f := M) (j := 11) hx hb hK hP 1 rfl (by decide) (by decide) dX7_setRation_20 ?_
    refine lv_iload_n hx hb dX7_setRation_21 rfl (lv_at hl 1 rfl) ?_
    refine lv_icmp_ne (tgt := 28) hx hb dX7_setRation_22 (by decide) (fun c_3 => ?_) (fun c_3 => ?_)
    · refine lv_aload_n hx hb dX7_setRation_28 rfl (lv_at hl 0 rfl) ?_
      refine gcall_V (run_V (As := []) (rest := []) C0 hK hP hD (c_X7_records l G a g M T Y H.size ns hs hn) (cwV 0 hts gX7_setRation_X7_records rfl rfl rfl cd_X7_records ⟨Nat.le_of_ble_eq_true rfl, Nat.le_of_ble_eq_true rfl⟩) [0, 1, 2, 3] rfl rfl 0 (ci := 7) rfl rfl rfl rfl hl.1 rfl (Nat.le_of_ble_eq_true rfl) dX7_setRation_29 ⟨Nat.le_of_ble_eq_true rfl, Nat.le_of_ble_eq_true rfl⟩) hP hD hS hA [0, 1, 2, 3] rfl rfl (fun _ => rfl) (fun u_4 H locs hw_4 hP hD hS => ?_)
      obtain ⟨g_c4, M_c4⟩ := u_4
      have hP : va_P G.1 vwCl (MC G a g_c4 M_c4 T Y) H := hP
      have hD : va_D A (MC G a g_c4 M_c4 T Y) := hD
      refine lv_aload_n hx hb dX7_setRation_32 rfl (lv_at hl 0 rfl) ?_
      refine va_get (D := G.1) (ci := 7) (v := .ref (a 1)) (C := RX7) (T := TX7) (N := 11) hx hb hts in_X7_setRation_RX7 hown hK.1 hP 0 rfl rfl 0 (by decide) (hts _ k_X7_setRation_f7) (fun _ h9 => h9) rfl dX7_setRation_33 ?_
      refine lv_bipush (v := (nI 11)) hx hb dX7_setRation_36 (by decide) ?_
      refine n_iald (f := M_c4) (j := 11) hx hb hK hP 1 rfl (by decide) (by decide) dX7_setRation_38 ?_
      refine lv_istore_n (lv' := [(2, .int (M_c4 11)), (0, .ref (a 0)), (1, .int p0)]) hx hb dX7_setRation_39 rfl hl (by decide) rfl (fun ls hl => ?_)
      refine lv_aload_n hx hb dX7_setRation_40 rfl (lv_at hl 1 rfl) ?_
      refine va_get (D := G.1) (ci := 7) (v := .ref (a 1)) (C := RX7) (T := TX7) (N := 11) hx hb hts in_X7_setRation_RX7 hown hK.1 hP 0 rfl rfl 0 (by decide) (hts _ k_X7_setRation_f7) (fun _ h9 => h9) rfl dX7_setRation_41 ?_
      refine lv_bipush (v := (nI 11)) hx hb dX7_setRation_44 (by decide) ?_
      refine lv_iload_n hx hb dX7_setRation_46 rfl (lv_at hl 2 rfl) ?_
      refine n_iast (f := M_c4) (j := 11) (x := p0) hx hb hK hP hD hS 1 rfl (by decide) (by decide) dX7_setRation_47 (fun H locs hP hD hS => ?_)
      have hP : va_P G.1 vwCl (MC G a g_c4 (upd M_c4 11 p0) T Y) H := hP
      have hD : va_D A (MC G a g_c4 (upd M_c4 11 p0) T Y) := hD
      refine lv_iload_n hx hb dX7_setRation_48 rfl (lv_at hl 0 rfl) ?_
      exact end_I C0 hP hD hS (g_c4, (upd M_c4 11 p0)) (by simp only [f_X7_setRation, if_neg c_2, if_neg c_3, hw_4]) rfl dX7_setRation_49
    · refine lv_bipush (v := (-5)) hx hb dX7_setRation_25 (by decide) ?_
      exact end_I C0 hP hD hS (g, M) (by simp only [f_X7_setRation, if_neg c_2, if_pos c_3]) rfl dX7_setRation_27
  · refine lv_bipush (v := (-2)) hx hb dX7_setRation_11 (by decide) ?_
    exact end_I C0 hP hD hS (g, M) (by simp only [f_X7_setRation, if_pos c_2]) rfl dX7_setRation_13

def f_X7_takeOut (g : (Nat → Int32)) (M : (Nat → Int32)) (p0 : Int32) (ns : Nat) : Int32 × (Nat → Int32) × (Nat → Int32) :=
  if (f_X7_in p0 (nI 0) (nI 3)) = 0 then
    ((-1), g, M)
  else
    if 0 ≤ (M (13 + p0.toNatClampNeg)) then
      match f_X7_records g M ns with
      | (g_c4, M_c4) =>
        match f_X7_empties M_c4 0 p0.toNatClampNeg with
        | M_c5 =>
          ((M_c4 (17 + p0.toNatClampNeg)), g_c4, (upd M_c5 43 ((M_c5 43) + (nI 1))))
    else
      ((-4), g, M)
set_option maxRecDepth 20000 in
theorem k_X7_takeOut_f7 : Cond.fieldLink RX7 7 "SteamRationsModel" "s" "[I" ∈ wsX7_takeOut := by decide +kernel
set_option maxRecDepth 20000 in
theorem in_X7_takeOut_RX7 : ∀ w ∈ u_ws RX7 TX7 11, w ∈ wsX7_takeOut := by decide +kernel
theorem cd_X7_takeOut : yX7_takeOut.cls = RX7 ∧ yX7_takeOut.cls ≠ "java/lang/invoke/MethodHandle" ∧ yX7_takeOut.cls ≠ "java/lang/invoke/VarHandle" ∧ (parseMethodDescriptor yX7_takeOut.desc).map (fun d => d.parameters.length) = some 1 := by decide +kernel
set_option maxHeartbeats 4000000 in
set_option maxRecDepth 100000 in
theorem c_X7_takeOut (l : Launch) (G : GG) (a : Nat → Nat) (g : (Nat → Int32)) (M : (Nat → Int32)) (T : (Nat → Int32)) (Y : (Nat → Int32)) (sz : Nat) (p0 : Int32) (ns : Nat) (hs : g 0 = nI ns) (hn : ns ≤ 4) : Met l yX7_takeOut wsX7_takeOut ({ frames := 2, cells := 0, slots := 0, locals := 44 }) (Pre G [.ref (a 0), .int p0] (MC G a g M T Y) sz) (PI G (va_A (MC G a g M T Y) sz) (fun r (u : (Nat → Int32) × (Nat → Int32)) => f_X7_takeOut g M p0 ns = (r, u)) (fun u : (Nat → Int32) × (Nat → Int32) => MC G a u.1 u.2 T Y)) 0 0 (va_A (MC G a g M T Y) sz) := by
  refine Met.walk (cc := cX7_takeOut) (maxL := 3) (ret := (some .int)) (Qc := fun A => PI G A (fun r (u : (Nat → Int32) × (Nat → Int32)) => f_X7_takeOut g M p0 ns = (r, u)) (fun u : (Nat → Int32) × (Nat → Int32) => MC G a u.1 u.2 T Y)) (by decide) rfl (Nat.le_of_ble_eq_true rfl) ?_
  intro p e s m below meth c A H C0 _ hK hsz hP hD hA hS ls hl
  have hx := C0.1
  have hb := C0.2.1
  have hown : s.vm.findClass RX7 = some m.cls := C0.2.2.2.2.1
  have hml := C0.2.2.2.1
  have hts : ∀ w ∈ wsX7_takeOut, w.before [.ref (a 0), .int p0].toArray s = true := C0.2.2.2.2.2.1
  have hl : lv_has ls 3 [(0, .ref (a 0)), (1, .int p0)] := hl
  refine lv_iload_n hx hb dX7_takeOut_0 rfl (lv_at hl 1 rfl) ?_
  refine lv_iconst (v := (nI 0)) hx hb dX7_takeOut_1 (by decide) ?_
  refine lv_iconst (v := (nI 3)) hx hb dX7_takeOut_2 (by decide) ?_
  refine gcall_I (run_S (As := [.int p0, .int (nI 0), .int (nI 3)]) (rest := []) C0 hK hP hD (c_X7_in l G   H.size p0 (nI 0) (nI 3)) (va_cwS 3 hts gX7_takeOut_X7_in rfl rfl rfl cd2_X7_in ⟨Nat.le_of_ble_eq_true rfl, Nat.le_of_ble_eq_true rfl⟩) [] rfl rfl rfl hl.1 rfl (Nat.le_of_ble_eq_true rfl) dX7_takeOut_3 ⟨Nat.le_of_ble_eq_true rfl, Nat.le_of_ble_eq_true rfl⟩) hP hD hS hA [] rfl rfl (fun _ => rfl) (fun r_1 _ H locs hw_1 hP hD hS => ?_)
  have hz_r_1 := hw_1.2
  have hw_1 := hw_1.1
  subst hw_1
  have hP : va_P G.1 vwCl (MC G a g M T Y) H := hP
  have hD : va_D A (MC G a g M T Y) := hD
  refine lv_if_ne (tgt := 11) hx hb dX7_takeOut_6 (by decide) (fun c_2 => ?_) (fun c_2 => ?_)
  · have ej_2 : p0 = nI p0.toNatClampNeg := natOf (inNat0 c_2)
    have hj_2 : p0.toNatClampNeg ≤ 3 := inLe c_2 (by decide)
    have hl : lv_has ls 3 [(0, .ref (a 0)), (1, .int (nI p0.toNatClampNeg))] := by rw [← ej_2]; exact hl
    refine lv_aload_n hx hb dX7_takeOut_11 rfl (lv_at hl 0 rfl) ?_
    refine va_get (D := G.1) (ci := 7) (v := .ref (a 1)) (C := RX7) (T := TX7) (N := 11) hx hb hts in_X7_takeOut_RX7 hown hK.1 hP 0 rfl rfl 0 (by decide) (hts _ k_X7_takeOut_f7) (fun _ h9 => h9) rfl dX7_takeOut_12 ?_
    refine lv_bipush (v := (nI 13)) hx hb dX7_takeOut_15 (by decide) ?_
    refine lv_iload_n hx hb dX7_takeOut_17 rfl (lv_at hl 1 rfl) ?_
    refine n_iadd (i := 13) (j := p0.toNatClampNeg) hx hb dX7_takeOut_18 ?_
    refine n_iald (f := M) (j := 13 + p0.toNatClampNeg) hx hb hK hP 1 rfl (by omega) (by decide) dX7_takeOut_19 ?_
    refine lv_if_ge (tgt := 26) hx hb dX7_takeOut_20 (by decide) (fun c_3 => ?_) (fun c_3 => ?_)
    · refine lv_aload_n hx hb dX7_takeOut_26 rfl (lv_at hl 0 rfl) ?_
      refine gcall_V (run_V (As := []) (rest := []) C0 hK hP hD (c_X7_records l G a g M T Y H.size ns hs hn) (cwV 0 hts gX7_takeOut_X7_records rfl rfl rfl cd_X7_records ⟨Nat.le_of_ble_eq_true rfl, Nat.le_of_ble_eq_true rfl⟩) [0, 1, 2, 3] rfl rfl 0 (ci := 7) rfl rfl rfl rfl hl.1 rfl (Nat.le_of_ble_eq_true rfl) dX7_takeOut_27 ⟨Nat.le_of_ble_eq_true rfl, Nat.le_of_ble_eq_true rfl⟩) hP hD hS hA [0, 1, 2, 3] rfl rfl (fun _ => rfl) (fun u_4 H locs hw_4 hP hD hS => ?_)
      obtain ⟨g_c4, M_c4⟩ := u_4
      have hP : va_P G.1 vwCl (MC G a g_c4 M_c4 T Y) H := hP
      have hD : va_D A (MC G a g_c4 M_c4 T Y) := hD
      refine lv_aload_n hx hb dX7_takeOut_30 rfl (lv_at hl 0 rfl) ?_
      refine va_get (D := G.1) (ci := 7) (v := .ref (a 1)) (C := RX7) (T := TX7) (N := 11) hx hb hts in_X7_takeOut_RX7 hown hK.1 hP 0 rfl rfl 0 (by decide) (hts _ k_X7_takeOut_f7) (fun _ h9 => h9) rfl dX7_takeOut_31 ?_
      refine lv_bipush (v := (nI 17)) hx hb dX7_takeOut_34 (by decide) ?_
      refine lv_iload_n hx hb dX7_takeOut_36 rfl (lv_at hl 1 rfl) ?_
      refine n_iadd (i := 17) (j := p0.toNatClampNeg) hx hb dX7_takeOut_37 ?_
      refine n_iald (f := M_c4) (j := 17 + p0.toNatClampNeg) hx hb hK hP 1 rfl (by omega) (by decide) dX7_takeOut_38 ?_
      refine lv_istore_n (lv' := [(2, .int (M_c4 (17 + p0.toNatClampNeg))), (0, .ref (a 0)), (1, .int (nI p0.toNatClampNeg))]) hx hb dX7_takeOut_39 rfl hl (by decide) rfl (fun ls hl => ?_)
      refine lv_aload_n hx hb dX7_takeOut_40 rfl (lv_at hl 1 rfl) ?_
      refine lv_iconst (v := (nI 0)) hx hb dX7_takeOut_41 (by decide) ?_
      refine lv_iload_n hx hb dX7_takeOut_42 rfl (lv_at hl 2 rfl) ?_
      refine gcall_V (run_V (As := [.int (nI 0), .int (nI p0.toNatClampNeg)]) (rest := []) C0 hK hP hD (c_X7_empties l G a g_c4 M_c4 T Y H.size 0 p0.toNatClampNeg (by omega) (by omega)) (cwV 2 hts gX7_takeOut_X7_empties rfl rfl rfl cd_X7_empties ⟨Nat.le_of_ble_eq_true rfl, Nat.le_of_ble_eq_true rfl⟩) [0, 1, 2, 3] rfl rfl 0 (ci := 7) rfl rfl rfl rfl hl.1 rfl (Nat.le_of_ble_eq_true rfl) dX7_takeOut_43 ⟨Nat.le_of_ble_eq_true rfl, Nat.le_of_ble_eq_true rfl⟩) hP hD hS hA [0, 1, 2, 3] rfl rfl (fun _ => rfl) (fun u_5 H locs hw_5 hP hD hS => ?_)
      obtain ⟨M_c5, rfl⟩ : ∃ z, z = u_5 := ⟨_, rfl⟩
      have hP : va_P G.1 vwCl (MC G a g_c4 M_c5 T Y) H := hP
      have hD : va_D A (MC G a g_c4 M_c5 T Y) := hD
      refine lv_aload_n hx hb dX7_takeOut_46 rfl (lv_at hl 1 rfl) ?_
      refine va_get (D := G.1) (ci := 7) (v := .ref (a 1)) (C := RX7) (T := TX7) (N := 11) hx hb hts in_X7_takeOut_RX7 hown hK.1 hP 0 rfl rfl 0 (by decide) (hts _ k_X7_takeOut_f7) (fun _ h9 => h9) rfl dX7_takeOut_47 ?_
      refine lv_bipush (v := (nI 43)) hx hb dX7_takeOut_50 (by decide) ?_
      refine lv_dup2_11 hx hb dX7_takeOut_52 rfl rfl ?_
      refine n_iald (f := M_c5) (j := 43) hx hb hK hP 1 rfl (by decide) (by decide) dX7_takeOut_53 ?_
      refine lv_iconst (v := (nI 1)) hx hb dX7_takeOut_54 (by decide) ?_
      refine lv_iadd hx hb dX7_takeOut_55 ?_
      refine n_iast (f := M_c5) (j := 43) (x := ((M_c5 43) + (nI 1))) hx hb hK hP hD hS 1 rfl (by decide) (by decide) dX7_takeOut_56 (fun H locs hP hD hS => ?_)
      have hP : va_P G.1 vwCl (MC G a g_c4 (upd M_c5 43 ((M_c5 43) + (nI 1))) T Y) H := hP
      have hD : va_D A (MC G a g_c4 (upd M_c5 43 ((M_c5 43) + (nI 1))) T Y) := hD
      refine lv_iload_n hx hb dX7_takeOut_57 rfl (lv_at hl 0 rfl) ?_
      exact end_I C0 hP hD hS (g_c4, (upd M_c5 43 ((M_c5 43) + (nI 1)))) (by simp only [f_X7_takeOut, if_neg c_2, if_pos c_3, hw_4, hw_5]) rfl dX7_takeOut_58
    · refine lv_bipush (v := (-4)) hx hb dX7_takeOut_23 (by decide) ?_
      exact end_I C0 hP hD hS (g, M) (by simp only [f_X7_takeOut, if_neg c_2, if_neg c_3]) rfl dX7_takeOut_25
  · refine lv_iconst (v := (-1)) hx hb dX7_takeOut_9 (by decide) ?_
    exact end_I C0 hP hD hS (g, M) (by simp only [f_X7_takeOut, if_pos c_2]) rfl dX7_takeOut_10

def f_X7_stopped (g : (Nat → Int32)) (p0 : Int32) : Int32 :=
  if (f_X7_in p0 (nI 0) (nI 1)) = 0 then
    (-2)
  else
    if 0 ≤ (g 6) then
      if p0 = 0 then
        (g 6)
      else
        (g 7)
    else
      (-5)
set_option maxRecDepth 20000 in
theorem k_X7_stopped_f140 : Cond.fieldLink RX7 140 "SteamRationsModel" "stoppedBy" "I" ∈ wsX7_stopped := by decide +kernel
set_option maxRecDepth 20000 in
theorem k_X7_stopped_f20 : Cond.fieldLink RX7 20 "SteamRationsModel" "stoppedAt" "I" ∈ wsX7_stopped := by decide +kernel
set_option maxRecDepth 20000 in
theorem in_X7_stopped_RX7 : ∀ w ∈ u_ws RX7 TX7 11, w ∈ wsX7_stopped := by decide +kernel
theorem cd_X7_stopped : yX7_stopped.cls = RX7 ∧ yX7_stopped.cls ≠ "java/lang/invoke/MethodHandle" ∧ yX7_stopped.cls ≠ "java/lang/invoke/VarHandle" ∧ (parseMethodDescriptor yX7_stopped.desc).map (fun d => d.parameters.length) = some 1 := by decide +kernel
set_option maxHeartbeats 4000000 in
set_option maxRecDepth 100000 in
theorem c_X7_stopped (l : Launch) (G : GG) (a : Nat → Nat) (g : (Nat → Int32)) (M : (Nat → Int32)) (T : (Nat → Int32)) (Y : (Nat → Int32)) (sz : Nat) (p0 : Int32)  : Met l yX7_stopped wsX7_stopped ({ frames := 1, cells := 0, slots := 0, locals := 22 }) (Pre G [.ref (a 0), .int p0] (MC G a g M T Y) sz) (PI G (va_A (MC G a g M T Y) sz) (fun r (_ : Unit) => f_X7_stopped g p0 = r) (fun _ : Unit => MC G a g M T Y)) 0 0 (va_A (MC G a g M T Y) sz) := by
  refine Met.walk (cc := cX7_stopped) (maxL := 2) (ret := (some .int)) (Qc := fun A => PI G A (fun r (_ : Unit) => f_X7_stopped g p0 = r) (fun _ : Unit => MC G a g M T Y)) (by decide) rfl (Nat.le_of_ble_eq_true rfl) ?_
  intro p e s m below meth c A H C0 _ hK hsz hP hD hA hS ls hl
  have hx := C0.1
  have hb := C0.2.1
  have hown : s.vm.findClass RX7 = some m.cls := C0.2.2.2.2.1
  have hml := C0.2.2.2.1
  have hts : ∀ w ∈ wsX7_stopped, w.before [.ref (a 0), .int p0].toArray s = true := C0.2.2.2.2.2.1
  have hl : lv_has ls 2 [(0, .ref (a 0)), (1, .int p0)] := hl
  refine lv_iload_n hx hb dX7_stopped_0 rfl (lv_at hl 1 rfl) ?_
  refine lv_iconst (v := (nI 0)) hx hb dX7_stopped_1 (by decide) ?_
  refine lv_iconst (v := (nI 1)) hx hb dX7_stopped_2 (by decide) ?_
  refine gcall_I (run_S (As := [.int p0, .int (nI 0), .int (nI 1)]) (rest := []) C0 hK hP hD (c_X7_in l G   H.size p0 (nI 0) (nI 1)) (va_cwS 3 hts gX7_stopped_X7_in rfl rfl rfl cd2_X7_in ⟨Nat.le_of_ble_eq_true rfl, Nat.le_of_ble_eq_true rfl⟩) [] rfl rfl rfl hl.1 rfl (Nat.le_of_ble_eq_true rfl) dX7_stopped_3 ⟨Nat.le_of_ble_eq_true rfl, Nat.le_of_ble_eq_true rfl⟩) hP hD hS hA [] rfl rfl (fun _ => rfl) (fun r_1 _ H locs hw_1 hP hD hS => ?_)
  have hz_r_1 := hw_1.2
  have hw_1 := hw_1.1
  subst hw_1
  have hP : va_P G.1 vwCl (MC G a g M T Y) H := hP
  have hD : va_D A (MC G a g M T Y) := hD
  refine lv_if_ne (tgt := 12) hx hb dX7_stopped_6 (by decide) (fun c_2 => ?_) (fun c_2 => ?_)
  · refine lv_aload_n hx hb dX7_stopped_12 rfl (lv_at hl 0 rfl) ?_
    refine va_get (D := G.1) (ci := 7) (v := .int (g 6)) (C := RX7) (T := TX7) (N := 11) hx hb hts in_X7_stopped_RX7 hown hK.1 hP 0 rfl rfl 9 (by decide) (hts _ k_X7_stopped_f20) (fun _ h9 => h9) rfl dX7_stopped_13 ?_
    refine lv_if_ge (tgt := 24) hx hb dX7_stopped_16 (by decide) (fun c_3 => ?_) (fun c_3 => ?_)
    · refine lv_iload_n hx hb dX7_stopped_24 rfl (lv_at hl 1 rfl) ?_
      refine lv_if_ne (tgt := 35) hx hb dX7_stopped_25 (by decide) (fun c_4 => ?_) (fun c_4 => ?_)
      · refine lv_aload_n hx hb dX7_stopped_35 rfl (lv_at hl 0 rfl) ?_
        refine va_get (D := G.1) (ci := 7) (v := .int (g 7)) (C := RX7) (T := TX7) (N := 11) hx hb hts in_X7_stopped_RX7 hown hK.1 hP 0 rfl rfl 10 (by decide) (hts _ k_X7_stopped_f140) (fun _ h9 => h9) rfl dX7_stopped_36 ?_
        exact end_I C0 hP hD hS () (by simp only [f_X7_stopped, if_neg c_2, if_pos c_3, if_neg c_4]) rfl dX7_stopped_39
      · refine lv_aload_n hx hb dX7_stopped_28 rfl (lv_at hl 0 rfl) ?_
        refine va_get (D := G.1) (ci := 7) (v := .int (g 6)) (C := RX7) (T := TX7) (N := 11) hx hb hts in_X7_stopped_RX7 hown hK.1 hP 0 rfl rfl 9 (by decide) (hts _ k_X7_stopped_f20) (fun _ h9 => h9) rfl dX7_stopped_29 ?_
        refine lv_goto (tgt := 39) hx hb dX7_stopped_32 (by decide) ?_
        exact end_I C0 hP hD hS () (by simp only [f_X7_stopped, if_neg c_2, if_pos c_3, if_pos c_4]) rfl dX7_stopped_39
    · refine lv_bipush (v := (-5)) hx hb dX7_stopped_19 (by decide) ?_
      refine lv_goto (tgt := 39) hx hb dX7_stopped_21 (by decide) ?_
      exact end_I C0 hP hD hS () (by simp only [f_X7_stopped, if_neg c_2, if_neg c_3]) rfl dX7_stopped_39
  · refine lv_bipush (v := (-2)) hx hb dX7_stopped_9 (by decide) ?_
    exact end_I C0 hP hD hS () (by simp only [f_X7_stopped, if_pos c_2]) rfl dX7_stopped_11

def f_X7_type (g : (Nat → Int32)) (T : (Nat → Int32)) (p0 : Int32) : Int32 × (Nat → Int32) × (Nat → Int32) :=
  if (g 2) = (nI 80) then
    ((-3), g, T)
  else
    (((g 2) + (nI 1)), (upd g 2 ((g 2) + (nI 1))), (upd T ((g 2).toNatClampNeg) (vp_nar .char p0)))
set_option maxRecDepth 20000 in
theorem k_X7_type_f114 : Cond.fieldLink RX7 114 "SteamRationsModel" "typed" "I" ∈ wsX7_type := by decide +kernel
set_option maxRecDepth 20000 in
theorem k_X7_type_f13 : Cond.fieldLink RX7 13 "SteamRationsModel" "text" "[C" ∈ wsX7_type := by decide +kernel
set_option maxRecDepth 20000 in
theorem in_X7_type_RX7 : ∀ w ∈ u_ws RX7 TX7 11, w ∈ wsX7_type := by decide +kernel
theorem cd_X7_type : yX7_type.cls = RX7 ∧ yX7_type.cls ≠ "java/lang/invoke/MethodHandle" ∧ yX7_type.cls ≠ "java/lang/invoke/VarHandle" ∧ (parseMethodDescriptor yX7_type.desc).map (fun d => d.parameters.length) = some 1 := by decide +kernel
set_option maxHeartbeats 4000000 in
set_option maxRecDepth 100000 in
theorem c_X7_type (l : Launch) (G : GG) (a : Nat → Nat) (g : (Nat → Int32)) (M : (Nat → Int32)) (T : (Nat → Int32)) (Y : (Nat → Int32)) (sz : Nat) (p0 : Int32) (ty : Nat) (ht : g 2 = nI ty) (ht8 : ty ≤ 80) : Met l yX7_type wsX7_type ({ frames := 0, cells := 0, slots := 0, locals := 0 }) (Pre G [.ref (a 0), .int p0] (MC G a g M T Y) sz) (PI G (va_A (MC G a g M T Y) sz) (fun r (u : (Nat → Int32) × (Nat → Int32)) => f_X7_type g T p0 = (r, u)) (fun u : (Nat → Int32) × (Nat → Int32) => MC G a u.1 M u.2 Y)) 0 0 (va_A (MC G a g M T Y) sz) := by
  refine Met.walk (cc := cX7_type) (maxL := 2) (ret := (some .int)) (Qc := fun A => PI G A (fun r (u : (Nat → Int32) × (Nat → Int32)) => f_X7_type g T p0 = (r, u)) (fun u : (Nat → Int32) × (Nat → Int32) => MC G a u.1 M u.2 Y)) (by decide) rfl (Nat.le_of_ble_eq_true rfl) ?_
  intro p e s m below meth c A H C0 _ hK hsz hP hD hA hS ls hl
  have hx := C0.1
  have hb := C0.2.1
  have hown : s.vm.findClass RX7 = some m.cls := C0.2.2.2.2.1
  have hml := C0.2.2.2.1
  have hts : ∀ w ∈ wsX7_type, w.before [.ref (a 0), .int p0].toArray s = true := C0.2.2.2.2.2.1
  have hl : lv_has ls 2 [(0, .ref (a 0)), (1, .int p0)] := hl
  refine lv_aload_n hx hb dX7_type_0 rfl (lv_at hl 0 rfl) ?_
  refine va_get (D := G.1) (ci := 7) (v := .int (g 2)) (C := RX7) (T := TX7) (N := 11) hx hb hts in_X7_type_RX7 hown hK.1 hP 0 rfl rfl 4 (by decide) (hts _ k_X7_type_f114) (fun _ h9 => h9) rfl dX7_type_1 ?_
  refine lv_bipush (v := (nI 80)) hx hb dX7_type_4 (by decide) ?_
  refine lv_icmp_ne (tgt := 12) hx hb dX7_type_6 (by decide) (fun c_1 => ?_) (fun c_1 => ?_)
  · refine lv_aload_n hx hb dX7_type_12 rfl (lv_at hl 0 rfl) ?_
    refine va_get (D := G.1) (ci := 7) (v := .ref (a 2)) (C := RX7) (T := TX7) (N := 11) hx hb hts in_X7_type_RX7 hown hK.1 hP 0 rfl rfl 3 (by decide) (hts _ k_X7_type_f13) (fun _ h9 => h9) rfl dX7_type_13 ?_
    refine lv_aload_n hx hb dX7_type_16 rfl (lv_at hl 0 rfl) ?_
    refine va_get (D := G.1) (ci := 7) (v := .int (g 2)) (C := RX7) (T := TX7) (N := 11) hx hb hts in_X7_type_RX7 hown hK.1 hP 0 rfl rfl 4 (by decide) (hts _ k_X7_type_f114) (fun _ h9 => h9) rfl dX7_type_17 ?_
    refine lv_iload_n hx hb dX7_type_20 rfl (lv_at hl 1 rfl) ?_
    refine va_cast (f := T) (x := p0) hx hb hK.1 hP hD hS 2 1 rfl rfl (typeIn ht ht8 c_1) dX7_type_21 (fun H locs hP hD hS => ?_)
    have hP : va_P G.1 vwCl (MC G a g M (upd T ((g 2).toNatClampNeg) (vp_nar .char p0)) Y) H := hP
    have hD : va_D A (MC G a g M (upd T ((g 2).toNatClampNeg) (vp_nar .char p0)) Y) := hD
    refine lv_aload_n hx hb dX7_type_22 rfl (lv_at hl 0 rfl) ?_
    refine lv_dup hx hb dX7_type_23 rfl ?_
    refine va_get (D := G.1) (ci := 7) (v := .int (g 2)) (C := RX7) (T := TX7) (N := 11) hx hb hts in_X7_type_RX7 hown hK.1 hP 0 rfl rfl 4 (by decide) (hts _ k_X7_type_f114) (fun _ h9 => h9) rfl dX7_type_24 ?_
    refine lv_iconst (v := (nI 1)) hx hb dX7_type_27 (by decide) ?_
    refine lv_iadd hx hb dX7_type_28 ?_
    refine va_put (D := G.1) (ci := 7) (v := .int ((g 2) + (nI 1))) (ty := .int) (C := RX7) (T := TX7) (N := 11) hx hb hts in_X7_type_RX7 tyX7 tyX7_ok nmX7 hown hK.1 hP hD hS 0 rfl rfl 4 (by decide) (hts _ k_X7_type_f114) (fun _ h9 => h9) rfl (by decide +kernel) rfl rfl (Nat.le_of_ble_eq_true rfl) dX7_type_29 (fun H locs hP hD hS => ?_)
    have hP : va_P G.1 vwCl (MC G a (upd g 2 ((g 2) + (nI 1))) M (upd T ((g 2).toNatClampNeg) (vp_nar .char p0)) Y) H := hP
    have hD : va_D A (MC G a (upd g 2 ((g 2) + (nI 1))) M (upd T ((g 2).toNatClampNeg) (vp_nar .char p0)) Y) := hD
    refine lv_aload_n hx hb dX7_type_32 rfl (lv_at hl 0 rfl) ?_
    refine va_get (D := G.1) (ci := 7) (v := .int ((g 2) + (nI 1))) (C := RX7) (T := TX7) (N := 11) hx hb hts in_X7_type_RX7 hown hK.1 hP 0 rfl rfl 4 (by decide) (hts _ k_X7_type_f114) (fun _ h9 => h9) rfl dX7_type_33 ?_
    exact end_I C0 hP hD hS ((upd g 2 ((g 2) + (nI 1))), (upd T ((g 2).toNatClampNeg) (vp_nar .char p0))) (by simp only [f_X7_type, if_neg c_1]) rfl dX7_type_36
  · refine lv_bipush (v := (-3)) hx hb dX7_type_9 (by decide) ?_
    exact end_I C0 hP hD hS (g, T) (by simp only [f_X7_type, if_pos c_1]) rfl dX7_type_11

def f_X7_clearText (g : (Nat → Int32)) : Int32 × (Nat → Int32) :=
  ((g 2), (upd g 2 (nI 0)))
set_option maxRecDepth 20000 in
theorem k_X7_clearText_f114 : Cond.fieldLink RX7 114 "SteamRationsModel" "typed" "I" ∈ wsX7_clearText := by decide +kernel
set_option maxRecDepth 20000 in
theorem in_X7_clearText_RX7 : ∀ w ∈ u_ws RX7 TX7 11, w ∈ wsX7_clearText := by decide +kernel
theorem cd_X7_clearText : yX7_clearText.cls = RX7 ∧ yX7_clearText.cls ≠ "java/lang/invoke/MethodHandle" ∧ yX7_clearText.cls ≠ "java/lang/invoke/VarHandle" ∧ (parseMethodDescriptor yX7_clearText.desc).map (fun d => d.parameters.length) = some 0 := by decide +kernel
set_option maxHeartbeats 4000000 in
set_option maxRecDepth 100000 in
theorem c_X7_clearText (l : Launch) (G : GG) (a : Nat → Nat) (g : (Nat → Int32)) (M : (Nat → Int32)) (T : (Nat → Int32)) (Y : (Nat → Int32)) (sz : Nat)   : Met l yX7_clearText wsX7_clearText ({ frames := 0, cells := 0, slots := 0, locals := 0 }) (Pre G [.ref (a 0)] (MC G a g M T Y) sz) (PI G (va_A (MC G a g M T Y) sz) (fun r (u : (Nat → Int32)) => f_X7_clearText g = (r, u)) (fun u : (Nat → Int32) => MC G a u M T Y)) 0 0 (va_A (MC G a g M T Y) sz) := by
  refine Met.walk (cc := cX7_clearText) (maxL := 2) (ret := (some .int)) (Qc := fun A => PI G A (fun r (u : (Nat → Int32)) => f_X7_clearText g = (r, u)) (fun u : (Nat → Int32) => MC G a u M T Y)) (by decide) rfl (Nat.le_of_ble_eq_true rfl) ?_
  intro p e s m below meth c A H C0 _ hK hsz hP hD hA hS ls hl
  have hx := C0.1
  have hb := C0.2.1
  have hown : s.vm.findClass RX7 = some m.cls := C0.2.2.2.2.1
  have hml := C0.2.2.2.1
  have hts : ∀ w ∈ wsX7_clearText, w.before [.ref (a 0)].toArray s = true := C0.2.2.2.2.2.1
  have hl : lv_has ls 2 [(0, .ref (a 0))] := hl
  refine lv_aload_n hx hb dX7_clearText_0 rfl (lv_at hl 0 rfl) ?_
  refine va_get (D := G.1) (ci := 7) (v := .int (g 2)) (C := RX7) (T := TX7) (N := 11) hx hb hts in_X7_clearText_RX7 hown hK.1 hP 0 rfl rfl 4 (by decide) (hts _ k_X7_clearText_f114) (fun _ h9 => h9) rfl dX7_clearText_1 ?_
  refine lv_istore_n (lv' := [(1, .int (g 2)), (0, .ref (a 0))]) hx hb dX7_clearText_4 rfl hl (by decide) rfl (fun ls hl => ?_)
  refine lv_aload_n hx hb dX7_clearText_5 rfl (lv_at hl 1 rfl) ?_
  refine lv_iconst (v := (nI 0)) hx hb dX7_clearText_6 (by decide) ?_
  refine va_put (D := G.1) (ci := 7) (v := .int (nI 0)) (ty := .int) (C := RX7) (T := TX7) (N := 11) hx hb hts in_X7_clearText_RX7 tyX7 tyX7_ok nmX7 hown hK.1 hP hD hS 0 rfl rfl 4 (by decide) (hts _ k_X7_clearText_f114) (fun _ h9 => h9) rfl (by decide +kernel) rfl rfl (Nat.le_of_ble_eq_true rfl) dX7_clearText_7 (fun H locs hP hD hS => ?_)
  have hP : va_P G.1 vwCl (MC G a (upd g 2 (nI 0)) M T Y) H := hP
  have hD : va_D A (MC G a (upd g 2 (nI 0)) M T Y) := hD
  refine lv_iload_n hx hb dX7_clearText_10 rfl (lv_at hl 0 rfl) ?_
  exact end_I C0 hP hD hS (upd g 2 (nI 0)) (by simp only [f_X7_clearText]) rfl dX7_clearText_11

def f_X7_undo (g : (Nat → Int32)) (M : (Nat → Int32)) (ns : Nat) : Int32 × (Nat → Int32) × (Nat → Int32) :=
  if (g 0) = 0 then
    ((-5), g, M)
  else
    (((g 0) - (nI 1)), (upd g 0 ((g 0) - (nI 1))), (cpyM M ns 0 46))
set_option maxRecDepth 20000 in
theorem k_X7_undo_f24 : Cond.fieldLink RX7 24 "SteamRationsModel" "states" "I" ∈ wsX7_undo := by decide +kernel
set_option maxRecDepth 20000 in
theorem in_X7_undo_RX7 : ∀ w ∈ u_ws RX7 TX7 11, w ∈ wsX7_undo := by decide +kernel
theorem cd_X7_undo : yX7_undo.cls = RX7 ∧ yX7_undo.cls ≠ "java/lang/invoke/MethodHandle" ∧ yX7_undo.cls ≠ "java/lang/invoke/VarHandle" ∧ (parseMethodDescriptor yX7_undo.desc).map (fun d => d.parameters.length) = some 0 := by decide +kernel
set_option maxHeartbeats 4000000 in
set_option maxRecDepth 100000 in
theorem c_X7_undo (l : Launch) (G : GG) (a : Nat → Nat) (g : (Nat → Int32)) (M : (Nat → Int32)) (T : (Nat → Int32)) (Y : (Nat → Int32)) (sz : Nat) (ns : Nat) (hs : g 0 = nI ns) (hn : ns ≤ 4) : Met l yX7_undo wsX7_undo ({ frames := 1, cells := 0, slots := 0, locals := 23 }) (Pre G [.ref (a 0)] (MC G a g M T Y) sz) (PI G (va_A (MC G a g M T Y) sz) (fun r (u : (Nat → Int32) × (Nat → Int32)) => f_X7_undo g M ns = (r, u)) (fun u : (Nat → Int32) × (Nat → Int32) => MC G a u.1 u.2 T Y)) 0 0 (va_A (MC G a g M T Y) sz) := by
  refine Met.walk (cc := cX7_undo) (maxL := 1) (ret := (some .int)) (Qc := fun A => PI G A (fun r (u : (Nat → Int32) × (Nat → Int32)) => f_X7_undo g M ns = (r, u)) (fun u : (Nat → Int32) × (Nat → Int32) => MC G a u.1 u.2 T Y)) (by decide) rfl (Nat.le_of_ble_eq_true rfl) ?_
  intro p e s m below meth c A H C0 _ hK hsz hP hD hA hS ls hl
  have hx := C0.1
  have hb := C0.2.1
  have hown : s.vm.findClass RX7 = some m.cls := C0.2.2.2.2.1
  have hml := C0.2.2.2.1
  have hts : ∀ w ∈ wsX7_undo, w.before [.ref (a 0)].toArray s = true := C0.2.2.2.2.2.1
  have hl : lv_has ls 1 [(0, .ref (a 0))] := hl
  refine lv_aload_n hx hb dX7_undo_0 rfl (lv_at hl 0 rfl) ?_
  refine va_get (D := G.1) (ci := 7) (v := .int (g 0)) (C := RX7) (T := TX7) (N := 11) hx hb hts in_X7_undo_RX7 hown hK.1 hP 0 rfl rfl 1 (by decide) (hts _ k_X7_undo_f24) (fun _ h9 => h9) rfl dX7_undo_1 ?_
  refine lv_if_ne (tgt := 10) hx hb dX7_undo_4 (by decide) (fun c_1 => ?_) (fun c_1 => ?_)
  · refine lv_aload_n hx hb dX7_undo_10 rfl (lv_at hl 0 rfl) ?_
    refine lv_aload_n hx hb dX7_undo_11 rfl (lv_at hl 0 rfl) ?_
    refine va_get (D := G.1) (ci := 7) (v := .int (g 0)) (C := RX7) (T := TX7) (N := 11) hx hb hts in_X7_undo_RX7 hown hK.1 hP 0 rfl rfl 1 (by decide) (hts _ k_X7_undo_f24) (fun _ h9 => h9) rfl dX7_undo_12 ?_
    have ej_2 : (g 0) = nI ns := hs
    have hj_2 : ns ≠ 0 := (fun z => c_1 (by rw [hs, z]; rfl))
    refine W.eq (g2 := F0 m 15 ls ([.int (nI ns), .ref (a 0)])) (by rw [← ej_2]) ?_
    refine lv_iconst (v := (nI 0)) hx hb dX7_undo_15 (by decide) ?_
    refine gcall_V (run_V (As := [.int (nI ns), .int (nI 0)]) (rest := []) C0 hK hP hD (c_X7_copies l G a g M T Y H.size ns 0 (by omega) (by omega) (by omega)) (cwV 2 hts gX7_undo_X7_copies rfl rfl rfl cd_X7_copies ⟨Nat.le_of_ble_eq_true rfl, Nat.le_of_ble_eq_true rfl⟩) [0, 1, 2, 3] rfl rfl 0 (ci := 7) rfl rfl rfl rfl hl.1 rfl (Nat.le_of_ble_eq_true rfl) dX7_undo_16 ⟨Nat.le_of_ble_eq_true rfl, Nat.le_of_ble_eq_true rfl⟩) hP hD hS hA [0, 1, 2, 3] rfl rfl (fun _ => rfl) (fun u_2 H locs hw_2 hP hD hS => ?_)
    obtain ⟨M_c2, rfl⟩ : ∃ z, z = u_2 := ⟨_, rfl⟩
    simp only [f_X7_copies, Prod.mk.injEq] at hw_2
    obtain rfl := hw_2
    have hP : va_P G.1 vwCl (MC G a g (cpyM M ns 0 46) T Y) H := hP
    have hD : va_D A (MC G a g (cpyM M ns 0 46) T Y) := hD
    refine lv_aload_n hx hb dX7_undo_19 rfl (lv_at hl 0 rfl) ?_
    refine lv_dup hx hb dX7_undo_20 rfl ?_
    refine va_get (D := G.1) (ci := 7) (v := .int (g 0)) (C := RX7) (T := TX7) (N := 11) hx hb hts in_X7_undo_RX7 hown hK.1 hP 0 rfl rfl 1 (by decide) (hts _ k_X7_undo_f24) (fun _ h9 => h9) rfl dX7_undo_21 ?_
    refine lv_iconst (v := (nI 1)) hx hb dX7_undo_24 (by decide) ?_
    refine lv_isub hx hb dX7_undo_25 ?_
    refine va_put (D := G.1) (ci := 7) (v := .int ((g 0) - (nI 1))) (ty := .int) (C := RX7) (T := TX7) (N := 11) hx hb hts in_X7_undo_RX7 tyX7 tyX7_ok nmX7 hown hK.1 hP hD hS 0 rfl rfl 1 (by decide) (hts _ k_X7_undo_f24) (fun _ h9 => h9) rfl (by decide +kernel) rfl rfl (Nat.le_of_ble_eq_true rfl) dX7_undo_26 (fun H locs hP hD hS => ?_)
    have hP : va_P G.1 vwCl (MC G a (upd g 0 ((g 0) - (nI 1))) (cpyM M ns 0 46) T Y) H := hP
    have hD : va_D A (MC G a (upd g 0 ((g 0) - (nI 1))) (cpyM M ns 0 46) T Y) := hD
    refine lv_aload_n hx hb dX7_undo_29 rfl (lv_at hl 0 rfl) ?_
    refine va_get (D := G.1) (ci := 7) (v := .int ((g 0) - (nI 1))) (C := RX7) (T := TX7) (N := 11) hx hb hts in_X7_undo_RX7 hown hK.1 hP 0 rfl rfl 1 (by decide) (hts _ k_X7_undo_f24) (fun _ h9 => h9) rfl dX7_undo_30 ?_
    exact end_I C0 hP hD hS ((upd g 0 ((g 0) - (nI 1))), (cpyM M ns 0 46)) (by simp only [f_X7_undo, if_neg c_1]) rfl dX7_undo_33
  · refine lv_bipush (v := (-5)) hx hb dX7_undo_7 (by decide) ?_
    exact end_I C0 hP hD hS (g, M) (by simp only [f_X7_undo, if_pos c_1]) rfl dX7_undo_9

def f_X7_keep (g : (Nat → Int32)) (M : (Nat → Int32)) : Int32 × (Nat → Int32) × (Nat → Int32) :=
  (((cpyM M 0 5 46) 12), (upd g 1 (nI 1)), (cpyM M 0 5 46))
set_option maxRecDepth 20000 in
theorem k_X7_keep_f143 : Cond.fieldLink RX7 143 "SteamRationsModel" "isKept" "Z" ∈ wsX7_keep := by decide +kernel
set_option maxRecDepth 20000 in
theorem k_X7_keep_f7 : Cond.fieldLink RX7 7 "SteamRationsModel" "s" "[I" ∈ wsX7_keep := by decide +kernel
set_option maxRecDepth 20000 in
theorem in_X7_keep_RX7 : ∀ w ∈ u_ws RX7 TX7 11, w ∈ wsX7_keep := by decide +kernel
theorem cd_X7_keep : yX7_keep.cls = RX7 ∧ yX7_keep.cls ≠ "java/lang/invoke/MethodHandle" ∧ yX7_keep.cls ≠ "java/lang/invoke/VarHandle" ∧ (parseMethodDescriptor yX7_keep.desc).map (fun d => d.parameters.length) = some 0 := by decide +kernel
set_option maxHeartbeats 4000000 in
set_option maxRecDepth 100000 in
theorem c_X7_keep (l : Launch) (G : GG) (a : Nat → Nat) (g : (Nat → Int32)) (M : (Nat → Int32)) (T : (Nat → Int32)) (Y : (Nat → Int32)) (sz : Nat)   : Met l yX7_keep wsX7_keep ({ frames := 1, cells := 0, slots := 0, locals := 23 }) (Pre G [.ref (a 0)] (MC G a g M T Y) sz) (PI G (va_A (MC G a g M T Y) sz) (fun r (u : (Nat → Int32) × (Nat → Int32)) => f_X7_keep g M = (r, u)) (fun u : (Nat → Int32) × (Nat → Int32) => MC G a u.1 u.2 T Y)) 0 0 (va_A (MC G a g M T Y) sz) := by
  refine Met.walk (cc := cX7_keep) (maxL := 1) (ret := (some .int)) (Qc := fun A => PI G A (fun r (u : (Nat → Int32) × (Nat → Int32)) => f_X7_keep g M = (r, u)) (fun u : (Nat → Int32) × (Nat → Int32) => MC G a u.1 u.2 T Y)) (by decide) rfl (Nat.le_of_ble_eq_true rfl) ?_
  intro p e s m below meth c A H C0 _ hK hsz hP hD hA hS ls hl
  have hx := C0.1
  have hb := C0.2.1
  have hown : s.vm.findClass RX7 = some m.cls := C0.2.2.2.2.1
  have hml := C0.2.2.2.1
  have hts : ∀ w ∈ wsX7_keep, w.before [.ref (a 0)].toArray s = true := C0.2.2.2.2.2.1
  have hl : lv_has ls 1 [(0, .ref (a 0))] := hl
  refine lv_aload_n hx hb dX7_keep_0 rfl (lv_at hl 0 rfl) ?_
  refine lv_iconst (v := (nI 0)) hx hb dX7_keep_1 (by decide) ?_
  refine lv_iconst (v := (nI 5)) hx hb dX7_keep_2 (by decide) ?_
  refine gcall_V (run_V (As := [.int (nI 0), .int (nI 5)]) (rest := []) C0 hK hP hD (c_X7_copies l G a g M T Y H.size 0 5 (by omega) (by omega) (by omega)) (cwV 2 hts gX7_keep_X7_copies rfl rfl rfl cd_X7_copies ⟨Nat.le_of_ble_eq_true rfl, Nat.le_of_ble_eq_true rfl⟩) [0, 1, 2, 3] rfl rfl 0 (ci := 7) rfl rfl rfl rfl hl.1 rfl (Nat.le_of_ble_eq_true rfl) dX7_keep_3 ⟨Nat.le_of_ble_eq_true rfl, Nat.le_of_ble_eq_true rfl⟩) hP hD hS hA [0, 1, 2, 3] rfl rfl (fun _ => rfl) (fun u_1 H locs hw_1 hP hD hS => ?_)
  obtain ⟨M_c1, rfl⟩ : ∃ z, z = u_1 := ⟨_, rfl⟩
  simp only [f_X7_copies, Prod.mk.injEq] at hw_1
  obtain rfl := hw_1
  have hP : va_P G.1 vwCl (MC G a g (cpyM M 0 5 46) T Y) H := hP
  have hD : va_D A (MC G a g (cpyM M 0 5 46) T Y) := hD
  refine lv_aload_n hx hb dX7_keep_6 rfl (lv_at hl 0 rfl) ?_
  refine lv_iconst (v := (nI 1)) hx hb dX7_keep_7 (by decide) ?_
  refine va_put (D := G.1) (ci := 7) (v := .int (nI 1)) (ty := .boolean) (C := RX7) (T := TX7) (N := 11) hx hb hts in_X7_keep_RX7 tyX7 tyX7_ok nmX7 hown hK.1 hP hD hS 0 rfl rfl 2 (by decide) (hts _ k_X7_keep_f143) (fun _ h9 => h9) rfl (by decide +kernel) (by decide) rfl (Nat.le_of_ble_eq_true rfl) dX7_keep_8 (fun H locs hP hD hS => ?_)
  have hP : va_P G.1 vwCl (MC G a (upd g 1 (nI 1)) (cpyM M 0 5 46) T Y) H := hP
  have hD : va_D A (MC G a (upd g 1 (nI 1)) (cpyM M 0 5 46) T Y) := hD
  refine lv_aload_n hx hb dX7_keep_11 rfl (lv_at hl 0 rfl) ?_
  refine va_get (D := G.1) (ci := 7) (v := .ref (a 1)) (C := RX7) (T := TX7) (N := 11) hx hb hts in_X7_keep_RX7 hown hK.1 hP 0 rfl rfl 0 (by decide) (hts _ k_X7_keep_f7) (fun _ h9 => h9) rfl dX7_keep_12 ?_
  refine lv_bipush (v := (nI 12)) hx hb dX7_keep_15 (by decide) ?_
  refine n_iald (f := (cpyM M 0 5 46)) (j := 12) hx hb hK hP 1 rfl (by decide) (by decide) dX7_keep_17 ?_
  exact end_I C0 hP hD hS ((upd g 1 (nI 1)), (cpyM M 0 5 46)) (by simp only [f_X7_keep]) rfl dX7_keep_18

def f_X7_restore (g : (Nat → Int32)) (M : (Nat → Int32)) (ns : Nat) : Int32 × (Nat → Int32) × (Nat → Int32) :=
  if (g 1) = 0 then
    ((-5), g, M)
  else
    match f_X7_records g M ns with
    | (g_c2, M_c2) =>
      (((cpyM M_c2 5 0 46) 12), g_c2, (cpyM M_c2 5 0 46))
set_option maxRecDepth 20000 in
theorem k_X7_restore_f143 : Cond.fieldLink RX7 143 "SteamRationsModel" "isKept" "Z" ∈ wsX7_restore := by decide +kernel
set_option maxRecDepth 20000 in
theorem k_X7_restore_f7 : Cond.fieldLink RX7 7 "SteamRationsModel" "s" "[I" ∈ wsX7_restore := by decide +kernel
set_option maxRecDepth 20000 in
theorem in_X7_restore_RX7 : ∀ w ∈ u_ws RX7 TX7 11, w ∈ wsX7_restore := by decide +kernel
theorem cd_X7_restore : yX7_restore.cls = RX7 ∧ yX7_restore.cls ≠ "java/lang/invoke/MethodHandle" ∧ yX7_restore.cls ≠ "java/lang/invoke/VarHandle" ∧ (parseMethodDescriptor yX7_restore.desc).map (fun d => d.parameters.length) = some 0 := by decide +kernel
set_option maxHeartbeats 4000000 in
set_option maxRecDepth 100000 in
theorem c_X7_restore (l : Launch) (G : GG) (a : Nat → Nat) (g : (Nat → Int32)) (M : (Nat → Int32)) (T : (Nat → Int32)) (Y : (Nat → Int32)) (sz : Nat) (ns : Nat) (hs : g 0 = nI ns) (hn : ns ≤ 4) : Met l yX7_restore wsX7_restore ({ frames := 2, cells := 0, slots := 0, locals := 44 }) (Pre G [.ref (a 0)] (MC G a g M T Y) sz) (PI G (va_A (MC G a g M T Y) sz) (fun r (u : (Nat → Int32) × (Nat → Int32)) => f_X7_restore g M ns = (r, u)) (fun u : (Nat → Int32) × (Nat → Int32) => MC G a u.1 u.2 T Y)) 0 0 (va_A (MC G a g M T Y) sz) := by
  refine Met.walk (cc := cX7_restore) (maxL := 1) (ret := (some .int)) (Qc := fun A => PI G A (fun r (u : (Nat → Int32) × (Nat → Int32)) => f_X7_restore g M ns = (r, u)) (fun u : (Nat → Int32) × (Nat → Int32) => MC G a u.1 u.2 T Y)) (by decide) rfl (Nat.le_of_ble_eq_true rfl) ?_
  intro p e s m below meth c A H C0 _ hK hsz hP hD hA hS ls hl
  have hx := C0.1
  have hb := C0.2.1
  have hown : s.vm.findClass RX7 = some m.cls := C0.2.2.2.2.1
  have hml := C0.2.2.2.1
  have hts : ∀ w ∈ wsX7_restore, w.before [.ref (a 0)].toArray s = true := C0.2.2.2.2.2.1
  have hl : lv_has ls 1 [(0, .ref (a 0))] := hl
  refine lv_aload_n hx hb dX7_restore_0 rfl (lv_at hl 0 rfl) ?_
  refine va_get (D := G.1) (ci := 7) (v := .int (g 1)) (C := RX7) (T := TX7) (N := 11) hx hb hts in_X7_restore_RX7 hown hK.1 hP 0 rfl rfl 2 (by decide) (hts _ k_X7_restore_f143) (fun _ h9 => h9) rfl dX7_restore_1 ?_
  refine lv_if_ne (tgt := 10) hx hb dX7_restore_4 (by decide) (fun c_1 => ?_) (fun c_1 => ?_)
  · refine lv_aload_n hx hb dX7_restore_10 rfl (lv_at hl 0 rfl) ?_
    refine gcall_V (run_V (As := []) (rest := []) C0 hK hP hD (c_X7_records l G a g M T Y H.size ns hs hn) (cwV 0 hts gX7_restore_X7_records rfl rfl rfl cd_X7_records ⟨Nat.le_of_ble_eq_true rfl, Nat.le_of_ble_eq_true rfl⟩) [0, 1, 2, 3] rfl rfl 0 (ci := 7) rfl rfl rfl rfl hl.1 rfl (Nat.le_of_ble_eq_true rfl) dX7_restore_11 ⟨Nat.le_of_ble_eq_true rfl, Nat.le_of_ble_eq_true rfl⟩) hP hD hS hA [0, 1, 2, 3] rfl rfl (fun _ => rfl) (fun u_2 H locs hw_2 hP hD hS => ?_)
    obtain ⟨g_c2, M_c2⟩ := u_2
    have hP : va_P G.1 vwCl (MC G a g_c2 M_c2 T Y) H := hP
    have hD : va_D A (MC G a g_c2 M_c2 T Y) := hD
    refine lv_aload_n hx hb dX7_restore_14 rfl (lv_at hl 0 rfl) ?_
    refine lv_iconst (v := (nI 5)) hx hb dX7_restore_15 (by decide) ?_
    refine lv_iconst (v := (nI 0)) hx hb dX7_restore_16 (by decide) ?_
    refine gcall_V (run_V (As := [.int (nI 5), .int (nI 0)]) (rest := []) C0 hK hP hD (c_X7_copies l G a g_c2 M_c2 T Y H.size 5 0 (by omega) (by omega) (by omega)) (cwV 2 hts gX7_restore_X7_copies rfl rfl rfl cd_X7_copies ⟨Nat.le_of_ble_eq_true rfl, Nat.le_of_ble_eq_true rfl⟩) [0, 1, 2, 3] rfl rfl 0 (ci := 7) rfl rfl rfl rfl hl.1 rfl (Nat.le_of_ble_eq_true rfl) dX7_restore_17 ⟨Nat.le_of_ble_eq_true rfl, Nat.le_of_ble_eq_true rfl⟩) hP hD hS hA [0, 1, 2, 3] rfl rfl (fun _ => rfl) (fun u_3 H locs hw_3 hP hD hS => ?_)
    obtain ⟨M_c3, rfl⟩ : ∃ z, z = u_3 := ⟨_, rfl⟩
    simp only [f_X7_copies, Prod.mk.injEq] at hw_3
    obtain rfl := hw_3
    have hP : va_P G.1 vwCl (MC G a g_c2 (cpyM M_c2 5 0 46) T Y) H := hP
    have hD : va_D A (MC G a g_c2 (cpyM M_c2 5 0 46) T Y) := hD
    refine lv_aload_n hx hb dX7_restore_20 rfl (lv_at hl 0 rfl) ?_
    refine va_get (D := G.1) (ci := 7) (v := .ref (a 1)) (C := RX7) (T := TX7) (N := 11) hx hb hts in_X7_restore_RX7 hown hK.1 hP 0 rfl rfl 0 (by decide) (hts _ k_X7_restore_f7) (fun _ h9 => h9) rfl dX7_restore_21 ?_
    refine lv_bipush (v := (nI 12)) hx hb dX7_restore_24 (by decide) ?_
    refine n_iald (f := (cpyM M_c2 5 0 46)) (j := 12) hx hb hK hP 1 rfl (by decide) (by decide) dX7_restore_26 ?_
    exact end_I C0 hP hD hS (g_c2, (cpyM M_c2 5 0 46)) (by simp only [f_X7_restore, if_neg c_1, hw_2]) rfl dX7_restore_27
  · refine lv_bipush (v := (-5)) hx hb dX7_restore_7 (by decide) ?_
    exact end_I C0 hP hD hS (g, M) (by simp only [f_X7_restore, if_pos c_1]) rfl dX7_restore_9

def f_X7_boiler (M : (Nat → Int32)) (p0 : Int32) (p1 : Int32) : Int32 :=
  if (f_X7_in p0 (nI 0) (nI 1)) = 0 then
    (-1)
  else
    if (f_X7_in p1 (nI 0) (nI 4)) = 0 then
      (-2)
    else
      (M ((2 * p1.toNatClampNeg) + p0.toNatClampNeg))
set_option maxRecDepth 20000 in
theorem k_X7_boiler_f7 : Cond.fieldLink RX7 7 "SteamRationsModel" "s" "[I" ∈ wsX7_boiler := by decide +kernel
set_option maxRecDepth 20000 in
theorem in_X7_boiler_RX7 : ∀ w ∈ u_ws RX7 TX7 11, w ∈ wsX7_boiler := by decide +kernel
theorem cd_X7_boiler : yX7_boiler.cls = RX7 ∧ yX7_boiler.cls ≠ "java/lang/invoke/MethodHandle" ∧ yX7_boiler.cls ≠ "java/lang/invoke/VarHandle" ∧ (parseMethodDescriptor yX7_boiler.desc).map (fun d => d.parameters.length) = some 2 := by decide +kernel
set_option maxHeartbeats 4000000 in
set_option maxRecDepth 100000 in
theorem c_X7_boiler (l : Launch) (G : GG) (a : Nat → Nat) (g : (Nat → Int32)) (M : (Nat → Int32)) (T : (Nat → Int32)) (Y : (Nat → Int32)) (sz : Nat) (p0 : Int32) (p1 : Int32)  : Met l yX7_boiler wsX7_boiler ({ frames := 1, cells := 0, slots := 0, locals := 22 }) (Pre G [.ref (a 0), .int p0, .int p1] (MC G a g M T Y) sz) (PI G (va_A (MC G a g M T Y) sz) (fun r (_ : Unit) => f_X7_boiler M p0 p1 = r) (fun _ : Unit => MC G a g M T Y)) 0 0 (va_A (MC G a g M T Y) sz) := by
  refine Met.walk (cc := cX7_boiler) (maxL := 3) (ret := (some .int)) (Qc := fun A => PI G A (fun r (_ : Unit) => f_X7_boiler M p0 p1 = r) (fun _ : Unit => MC G a g M T Y)) (by decide) rfl (Nat.le_of_ble_eq_true rfl) ?_
  intro p e s m below meth c A H C0 _ hK hsz hP hD hA hS ls hl
  have hx := C0.1
  have hb := C0.2.1
  have hown : s.vm.findClass RX7 = some m.cls := C0.2.2.2.2.1
  have hml := C0.2.2.2.1
  have hts : ∀ w ∈ wsX7_boiler, w.before [.ref (a 0), .int p0, .int p1].toArray s = true := C0.2.2.2.2.2.1
  have hl : lv_has ls 3 [(0, .ref (a 0)), (1, .int p0), (2, .int p1)] := hl
  refine lv_iload_n hx hb dX7_boiler_0 rfl (lv_at hl 1 rfl) ?_
  refine lv_iconst (v := (nI 0)) hx hb dX7_boiler_1 (by decide) ?_
  refine lv_iconst (v := (nI 1)) hx hb dX7_boiler_2 (by decide) ?_
  refine gcall_I (run_S (As := [.int p0, .int (nI 0), .int (nI 1)]) (rest := []) C0 hK hP hD (c_X7_in l G   H.size p0 (nI 0) (nI 1)) (va_cwS 3 hts gX7_boiler_X7_in rfl rfl rfl cd2_X7_in ⟨Nat.le_of_ble_eq_true rfl, Nat.le_of_ble_eq_true rfl⟩) [] rfl rfl rfl hl.1 rfl (Nat.le_of_ble_eq_true rfl) dX7_boiler_3 ⟨Nat.le_of_ble_eq_true rfl, Nat.le_of_ble_eq_true rfl⟩) hP hD hS hA [] rfl rfl (fun _ => rfl) (fun r_1 _ H locs hw_1 hP hD hS => ?_)
  have hz_r_1 := hw_1.2
  have hw_1 := hw_1.1
  subst hw_1
  have hP : va_P G.1 vwCl (MC G a g M T Y) H := hP
  have hD : va_D A (MC G a g M T Y) := hD
  refine lv_if_ne (tgt := 11) hx hb dX7_boiler_6 (by decide) (fun c_2 => ?_) (fun c_2 => ?_)
  · refine lv_iload_n hx hb dX7_boiler_11 rfl (lv_at hl 2 rfl) ?_
    refine lv_iconst (v := (nI 0)) hx hb dX7_boiler_12 (by decide) ?_
    refine lv_iconst (v := (nI 4)) hx hb dX7_boiler_13 (by decide) ?_
    refine gcall_I (run_S (As := [.int p1, .int (nI 0), .int (nI 4)]) (rest := []) C0 hK hP hD (c_X7_in l G   H.size p1 (nI 0) (nI 4)) (va_cwS 3 hts gX7_boiler_X7_in rfl rfl rfl cd2_X7_in ⟨Nat.le_of_ble_eq_true rfl, Nat.le_of_ble_eq_true rfl⟩) [] rfl rfl rfl hl.1 rfl (Nat.le_of_ble_eq_true rfl) dX7_boiler_14 ⟨Nat.le_of_ble_eq_true rfl, Nat.le_of_ble_eq_true rfl⟩) hP hD hS hA [] rfl rfl (fun _ => rfl) (fun r_3 _ H locs hw_3 hP hD hS => ?_)
    have hz_r_3 := hw_3.2
    have hw_3 := hw_3.1
    subst hw_3
    have hP : va_P G.1 vwCl (MC G a g M T Y) H := hP
    have hD : va_D A (MC G a g M T Y) := hD
    refine lv_if_eq (tgt := 33) hx hb dX7_boiler_17 (by decide) (fun c_4 => ?_) (fun c_4 => ?_)
    · refine lv_bipush (v := (-2)) hx hb dX7_boiler_33 (by decide) ?_
      exact end_I C0 hP hD hS () (by simp only [f_X7_boiler, if_neg c_2, if_pos c_4]) rfl dX7_boiler_35
    · have ej_3 : p0 = nI p0.toNatClampNeg := natOf (inNat0 c_2)
      have hj_3 : p0.toNatClampNeg ≤ 1 := inLe c_2 (by decide)
      have hl : lv_has ls 3 [(0, .ref (a 0)), (1, .int (nI p0.toNatClampNeg)), (2, .int p1)] := by rw [← ej_3]; exact hl
      have ej_4 : p1 = nI p1.toNatClampNeg := natOf (inNat0 c_4)
      have hj_4 : p1.toNatClampNeg ≤ 4 := inLe c_4 (by decide)
      have hl : lv_has ls 3 [(0, .ref (a 0)), (1, .int (nI p0.toNatClampNeg)), (2, .int (nI p1.toNatClampNeg))] := by rw [← ej_4]; exact hl
      refine lv_aload_n hx hb dX7_boiler_20 rfl (lv_at hl 0 rfl) ?_
      refine va_get (D := G.1) (ci := 7) (v := .ref (a 1)) (C := RX7) (T := TX7) (N := 11) hx hb hts in_X7_boiler_RX7 hown hK.1 hP 0 rfl rfl 0 (by decide) (hts _ k_X7_boiler_f7) (fun _ h9 => h9) rfl dX7_boiler_21 ?_
      refine lv_iconst (v := (nI 2)) hx hb dX7_boiler_24 (by decide) ?_
      refine lv_iload_n hx hb dX7_boiler_25 rfl (lv_at hl 2 rfl) ?_
      refine n_imul (i := 2) (j := p1.toNatClampNeg) hx hb dX7_boiler_26 ?_
      refine lv_iload_n hx hb dX7_boiler_27 rfl (lv_at hl 1 rfl) ?_
      refine n_iadd (i := 2 * p1.toNatClampNeg) (j := p0.toNatClampNeg) hx hb dX7_boiler_28 ?_
      refine W.eq (g2 := F0 m 29 ls ([.int (nI ((2 * p1.toNatClampNeg) + p0.toNatClampNeg)), .ref (a 1)])) (by first | rfl | (simp only [F0]; congr 3; omega)) ?_
      refine n_iald (f := M) (j := (2 * p1.toNatClampNeg) + p0.toNatClampNeg) hx hb hK hP 1 rfl (by omega) (by decide) dX7_boiler_29 ?_
      refine lv_goto (tgt := 35) hx hb dX7_boiler_30 (by decide) ?_
      exact end_I C0 hP hD hS () (by simp only [f_X7_boiler, if_neg c_2, if_neg c_4]) rfl dX7_boiler_35
  · refine lv_iconst (v := (-1)) hx hb dX7_boiler_9 (by decide) ?_
    exact end_I C0 hP hD hS () (by simp only [f_X7_boiler, if_pos c_2]) rfl dX7_boiler_10

def f_X7_machine (M : (Nat → Int32)) (p0 : Int32) (p1 : Int32) : Int32 :=
  if (f_X7_in p0 (nI 0) (nI 3)) = 0 then
    (-1)
  else
    if (f_X7_in p1 (nI 0) (nI 2)) = 0 then
      (-2)
    else
      if 0 ≤ (M ((13 + (4 * p1.toNatClampNeg)) + p0.toNatClampNeg)) then
        (M ((13 + (4 * p1.toNatClampNeg)) + p0.toNatClampNeg))
      else
        (-5)
set_option maxRecDepth 20000 in
theorem k_X7_machine_f7 : Cond.fieldLink RX7 7 "SteamRationsModel" "s" "[I" ∈ wsX7_machine := by decide +kernel
set_option maxRecDepth 20000 in
theorem in_X7_machine_RX7 : ∀ w ∈ u_ws RX7 TX7 11, w ∈ wsX7_machine := by decide +kernel
theorem cd_X7_machine : yX7_machine.cls = RX7 ∧ yX7_machine.cls ≠ "java/lang/invoke/MethodHandle" ∧ yX7_machine.cls ≠ "java/lang/invoke/VarHandle" ∧ (parseMethodDescriptor yX7_machine.desc).map (fun d => d.parameters.length) = some 2 := by decide +kernel
set_option maxHeartbeats 4000000 in
set_option maxRecDepth 100000 in
theorem c_X7_machine (l : Launch) (G : GG) (a : Nat → Nat) (g : (Nat → Int32)) (M : (Nat → Int32)) (T : (Nat → Int32)) (Y : (Nat → Int32)) (sz : Nat) (p0 : Int32) (p1 : Int32)  : Met l yX7_machine wsX7_machine ({ frames := 1, cells := 0, slots := 0, locals := 22 }) (Pre G [.ref (a 0), .int p0, .int p1] (MC G a g M T Y) sz) (PI G (va_A (MC G a g M T Y) sz) (fun r (_ : Unit) => f_X7_machine M p0 p1 = r) (fun _ : Unit => MC G a g M T Y)) 0 0 (va_A (MC G a g M T Y) sz) := by
  refine Met.walk (cc := cX7_machine) (maxL := 4) (ret := (some .int)) (Qc := fun A => PI G A (fun r (_ : Unit) => f_X7_machine M p0 p1 = r) (fun _ : Unit => MC G a g M T Y)) (by decide) rfl (Nat.le_of_ble_eq_true rfl) ?_
  intro p e s m below meth c A H C0 _ hK hsz hP hD hA hS ls hl
  have hx := C0.1
  have hb := C0.2.1
  have hown : s.vm.findClass RX7 = some m.cls := C0.2.2.2.2.1
  have hml := C0.2.2.2.1
  have hts : ∀ w ∈ wsX7_machine, w.before [.ref (a 0), .int p0, .int p1].toArray s = true := C0.2.2.2.2.2.1
  have hl : lv_has ls 4 [(0, .ref (a 0)), (1, .int p0), (2, .int p1)] := hl
  refine lv_iload_n hx hb dX7_machine_0 rfl (lv_at hl 1 rfl) ?_
  refine lv_iconst (v := (nI 0)) hx hb dX7_machine_1 (by decide) ?_
  refine lv_iconst (v := (nI 3)) hx hb dX7_machine_2 (by decide) ?_
  refine gcall_I (run_S (As := [.int p0, .int (nI 0), .int (nI 3)]) (rest := []) C0 hK hP hD (c_X7_in l G   H.size p0 (nI 0) (nI 3)) (va_cwS 3 hts gX7_machine_X7_in rfl rfl rfl cd2_X7_in ⟨Nat.le_of_ble_eq_true rfl, Nat.le_of_ble_eq_true rfl⟩) [] rfl rfl rfl hl.1 rfl (Nat.le_of_ble_eq_true rfl) dX7_machine_3 ⟨Nat.le_of_ble_eq_true rfl, Nat.le_of_ble_eq_true rfl⟩) hP hD hS hA [] rfl rfl (fun _ => rfl) (fun r_1 _ H locs hw_1 hP hD hS => ?_)
  have hz_r_1 := hw_1.2
  have hw_1 := hw_1.1
  subst hw_1
  have hP : va_P G.1 vwCl (MC G a g M T Y) H := hP
  have hD : va_D A (MC G a g M T Y) := hD
  refine lv_if_ne (tgt := 11) hx hb dX7_machine_6 (by decide) (fun c_2 => ?_) (fun c_2 => ?_)
  · refine lv_iload_n hx hb dX7_machine_11 rfl (lv_at hl 2 rfl) ?_
    refine lv_iconst (v := (nI 0)) hx hb dX7_machine_12 (by decide) ?_
    refine lv_iconst (v := (nI 2)) hx hb dX7_machine_13 (by decide) ?_
    refine gcall_I (run_S (As := [.int p1, .int (nI 0), .int (nI 2)]) (rest := []) C0 hK hP hD (c_X7_in l G   H.size p1 (nI 0) (nI 2)) (va_cwS 3 hts gX7_machine_X7_in rfl rfl rfl cd2_X7_in ⟨Nat.le_of_ble_eq_true rfl, Nat.le_of_ble_eq_true rfl⟩) [] rfl rfl rfl hl.1 rfl (Nat.le_of_ble_eq_true rfl) dX7_machine_14 ⟨Nat.le_of_ble_eq_true rfl, Nat.le_of_ble_eq_true rfl⟩) hP hD hS hA [] rfl rfl (fun _ => rfl) (fun r_3 _ H locs hw_3 hP hD hS => ?_)
    have hz_r_3 := hw_3.2
    have hw_3 := hw_3.1
    subst hw_3
    have hP : va_P G.1 vwCl (MC G a g M T Y) H := hP
    have hD : va_D A (MC G a g M T Y) := hD
    refine lv_if_ne (tgt := 23) hx hb dX7_machine_17 (by decide) (fun c_4 => ?_) (fun c_4 => ?_)
    · have ej_3 : p0 = nI p0.toNatClampNeg := natOf (inNat0 c_2)
      have hj_3 : p0.toNatClampNeg ≤ 3 := inLe c_2 (by decide)
      have hl : lv_has ls 4 [(0, .ref (a 0)), (1, .int (nI p0.toNatClampNeg)), (2, .int p1)] := by rw [← ej_3]; exact hl
      have ej_4 : p1 = nI p1.toNatClampNeg := natOf (inNat0 c_4)
      have hj_4 : p1.toNatClampNeg ≤ 2 := inLe c_4 (by decide)
      have hl : lv_has ls 4 [(0, .ref (a 0)), (1, .int (nI p0.toNatClampNeg)), (2, .int (nI p1.toNatClampNeg))] := by rw [← ej_4]; exact hl
      refine lv_aload_n hx hb dX7_machine_23 rfl (lv_at hl 0 rfl) ?_
      refine va_get (D := G.1) (ci := 7) (v := .ref (a 1)) (C := RX7) (T := TX7) (N := 11) hx hb hts in_X7_machine_RX7 hown hK.1 hP 0 rfl rfl 0 (by decide) (hts _ k_X7_machine_f7) (fun _ h9 => h9) rfl dX7_machine_24 ?_
      refine lv_bipush (v := (nI 13)) hx hb dX7_machine_27 (by decide) ?_
      refine lv_iconst (v := (nI 4)) hx hb dX7_machine_29 (by decide) ?_
      refine lv_iload_n hx hb dX7_machine_30 rfl (lv_at hl 2 rfl) ?_
      refine n_imul (i := 4) (j := p1.toNatClampNeg) hx hb dX7_machine_31 ?_
      refine n_iadd (i := 13) (j := 4 * p1.toNatClampNeg) hx hb dX7_machine_32 ?_
      refine W.eq (g2 := F0 m 33 ls ([.int (nI (13 + (4 * p1.toNatClampNeg))), .ref (a 1)])) (by first | rfl | (simp only [F0]; congr 3; omega)) ?_
      refine lv_iload_n hx hb dX7_machine_33 rfl (lv_at hl 1 rfl) ?_
      refine n_iadd (i := 13 + (4 * p1.toNatClampNeg)) (j := p0.toNatClampNeg) hx hb dX7_machine_34 ?_
      refine W.eq (g2 := F0 m 35 ls ([.int (nI ((13 + (4 * p1.toNatClampNeg)) + p0.toNatClampNeg)), .ref (a 1)])) (by first | rfl | (simp only [F0]; congr 3; omega)) ?_
      refine n_iald (f := M) (j := (13 + (4 * p1.toNatClampNeg)) + p0.toNatClampNeg) hx hb hK hP 1 rfl (by omega) (by decide) dX7_machine_35 ?_
      refine lv_istore_n (lv' := [(3, .int (M ((13 + (4 * p1.toNatClampNeg)) + p0.toNatClampNeg))), (0, .ref (a 0)), (1, .int (nI p0.toNatClampNeg)), (2, .int (nI p1.toNatClampNeg))]) hx hb dX7_machine_36 rfl hl (by decide) rfl (fun ls hl => ?_)
      refine lv_iload_n hx hb dX7_machine_37 rfl (lv_at hl 0 rfl) ?_
      refine lv_if_ge (tgt := 46) hx hb dX7_machine_38 (by decide) (fun c_5 => ?_) (fun c_5 => ?_)
      · refine lv_iload_n hx hb dX7_machine_46 rfl (lv_at hl 0 rfl) ?_
        exact end_I C0 hP hD hS () (by simp only [f_X7_machine, if_neg c_2, if_neg c_4, if_pos c_5]) rfl dX7_machine_47
      · refine lv_bipush (v := (-5)) hx hb dX7_machine_41 (by decide) ?_
        refine lv_goto (tgt := 47) hx hb dX7_machine_43 (by decide) ?_
        exact end_I C0 hP hD hS () (by simp only [f_X7_machine, if_neg c_2, if_neg c_4, if_neg c_5]) rfl dX7_machine_47
    · refine lv_bipush (v := (-2)) hx hb dX7_machine_20 (by decide) ?_
      exact end_I C0 hP hD hS () (by simp only [f_X7_machine, if_neg c_2, if_pos c_4]) rfl dX7_machine_22
  · refine lv_iconst (v := (-1)) hx hb dX7_machine_9 (by decide) ?_
    exact end_I C0 hP hD hS () (by simp only [f_X7_machine, if_pos c_2]) rfl dX7_machine_10

def f_X7_line (M : (Nat → Int32)) (p0 : Int32) : Int32 :=
  if 0 ≤ p0 then
    if (M 25) ≤ p0 then
      (-5)
    else
      (M (26 + p0.toNatClampNeg))
  else
    (-2)
set_option maxRecDepth 20000 in
theorem k_X7_line_f7 : Cond.fieldLink RX7 7 "SteamRationsModel" "s" "[I" ∈ wsX7_line := by decide +kernel
set_option maxRecDepth 20000 in
theorem in_X7_line_RX7 : ∀ w ∈ u_ws RX7 TX7 11, w ∈ wsX7_line := by decide +kernel
theorem cd_X7_line : yX7_line.cls = RX7 ∧ yX7_line.cls ≠ "java/lang/invoke/MethodHandle" ∧ yX7_line.cls ≠ "java/lang/invoke/VarHandle" ∧ (parseMethodDescriptor yX7_line.desc).map (fun d => d.parameters.length) = some 1 := by decide +kernel
set_option maxHeartbeats 4000000 in
set_option maxRecDepth 100000 in
theorem c_X7_line (l : Launch) (G : GG) (a : Nat → Nat) (g : (Nat → Int32)) (M : (Nat → Int32)) (T : (Nat → Int32)) (Y : (Nat → Int32)) (sz : Nat) (p0 : Int32) (hm : M 25 ≤ nI 12) : Met l yX7_line wsX7_line ({ frames := 0, cells := 0, slots := 0, locals := 0 }) (Pre G [.ref (a 0), .int p0] (MC G a g M T Y) sz) (PI G (va_A (MC G a g M T Y) sz) (fun r (_ : Unit) => f_X7_line M p0 = r) (fun _ : Unit => MC G a g M T Y)) 0 0 (va_A (MC G a g M T Y) sz) := by
  refine Met.walk (cc := cX7_line) (maxL := 2) (ret := (some .int)) (Qc := fun A => PI G A (fun r (_ : Unit) => f_X7_line M p0 = r) (fun _ : Unit => MC G a g M T Y)) (by decide) rfl (Nat.le_of_ble_eq_true rfl) ?_
  intro p e s m below meth c A H C0 _ hK hsz hP hD hA hS ls hl
  have hx := C0.1
  have hb := C0.2.1
  have hown : s.vm.findClass RX7 = some m.cls := C0.2.2.2.2.1
  have hml := C0.2.2.2.1
  have hts : ∀ w ∈ wsX7_line, w.before [.ref (a 0), .int p0].toArray s = true := C0.2.2.2.2.2.1
  have hl : lv_has ls 2 [(0, .ref (a 0)), (1, .int p0)] := hl
  refine lv_iload_n hx hb dX7_line_0 rfl (lv_at hl 1 rfl) ?_
  refine lv_if_ge (tgt := 7) hx hb dX7_line_1 (by decide) (fun c_1 => ?_) (fun c_1 => ?_)
  · refine lv_iload_n hx hb dX7_line_7 rfl (lv_at hl 1 rfl) ?_
    refine lv_aload_n hx hb dX7_line_8 rfl (lv_at hl 0 rfl) ?_
    refine va_get (D := G.1) (ci := 7) (v := .ref (a 1)) (C := RX7) (T := TX7) (N := 11) hx hb hts in_X7_line_RX7 hown hK.1 hP 0 rfl rfl 0 (by decide) (hts _ k_X7_line_f7) (fun _ h9 => h9) rfl dX7_line_9 ?_
    refine lv_bipush (v := (nI 25)) hx hb dX7_line_12 (by decide) ?_
    refine n_iald (f := M) (j := 25) hx hb hK hP 1 rfl (by decide) (by decide) dX7_line_14 ?_
    refine lv_icmp_ge (tgt := 30) hx hb dX7_line_15 (by decide) (fun c_2 => ?_) (fun c_2 => ?_)
    · refine lv_bipush (v := (-5)) hx hb dX7_line_30 (by decide) ?_
      exact end_I C0 hP hD hS () (by simp only [f_X7_line, if_pos c_1, if_pos c_2]) rfl dX7_line_32
    · have ej_2 : p0 = nI p0.toNatClampNeg := natOf (nlt0 c_1)
      have hj_2 : p0.toNatClampNeg < 12 := natLt3 (nlt0 c_1) c_2 hm (by decide)
      have hl : lv_has ls 2 [(0, .ref (a 0)), (1, .int (nI p0.toNatClampNeg))] := by rw [← ej_2]; exact hl
      refine lv_aload_n hx hb dX7_line_18 rfl (lv_at hl 0 rfl) ?_
      refine va_get (D := G.1) (ci := 7) (v := .ref (a 1)) (C := RX7) (T := TX7) (N := 11) hx hb hts in_X7_line_RX7 hown hK.1 hP 0 rfl rfl 0 (by decide) (hts _ k_X7_line_f7) (fun _ h9 => h9) rfl dX7_line_19 ?_
      refine lv_bipush (v := (nI 26)) hx hb dX7_line_22 (by decide) ?_
      refine lv_iload_n hx hb dX7_line_24 rfl (lv_at hl 1 rfl) ?_
      refine n_iadd (i := 26) (j := p0.toNatClampNeg) hx hb dX7_line_25 ?_
      refine n_iald (f := M) (j := 26 + p0.toNatClampNeg) hx hb hK hP 1 rfl (by omega) (by decide) dX7_line_26 ?_
      refine lv_goto (tgt := 32) hx hb dX7_line_27 (by decide) ?_
      exact end_I C0 hP hD hS () (by simp only [f_X7_line, if_pos c_1, if_neg c_2]) rfl dX7_line_32
  · refine lv_bipush (v := (-2)) hx hb dX7_line_4 (by decide) ?_
    exact end_I C0 hP hD hS () (by simp only [f_X7_line, if_neg c_1]) rfl dX7_line_6

def f_X7_isDone (M : (Nat → Int32)) (b : Nat) : Int32 :=
  if (M (b + 25)) = 0 then
    if (f_X7_need M b) = 0 then
      (nI 1)
    else
      (nI 0)
  else
    (nI 0)
set_option maxRecDepth 20000 in
theorem k_X7_isDone_f7 : Cond.fieldLink RX7 7 "SteamRationsModel" "s" "[I" ∈ wsX7_isDone := by decide +kernel
set_option maxRecDepth 20000 in
theorem in_X7_isDone_RX7 : ∀ w ∈ u_ws RX7 TX7 11, w ∈ wsX7_isDone := by decide +kernel
theorem cd_X7_isDone : yX7_isDone.cls = RX7 ∧ yX7_isDone.cls ≠ "java/lang/invoke/MethodHandle" ∧ yX7_isDone.cls ≠ "java/lang/invoke/VarHandle" ∧ (parseMethodDescriptor yX7_isDone.desc).map (fun d => d.parameters.length) = some 1 := by decide +kernel
set_option maxHeartbeats 4000000 in
set_option maxRecDepth 100000 in
theorem c_X7_isDone (l : Launch) (G : GG) (a : Nat → Nat) (g : (Nat → Int32)) (M : (Nat → Int32)) (T : (Nat → Int32)) (Y : (Nat → Int32)) (sz : Nat) (b : Nat) (hb : b ≤ 322) : Met l yX7_isDone wsX7_isDone ({ frames := 1, cells := 0, slots := 0, locals := 23 }) (Pre G [.ref (a 0), .int (nI b)] (MC G a g M T Y) sz) (PI G (va_A (MC G a g M T Y) sz) (fun r (u : Unit) => f_X7_isDone M b = r ∧ (r = nI 0 ∨ r = nI 1)) (fun _ : Unit => MC G a g M T Y)) 0 0 (va_A (MC G a g M T Y) sz) := by
  refine Met.walk (cc := cX7_isDone) (maxL := 2) (ret := (some .boolean)) (Qc := fun A => PI G A (fun r (u : Unit) => f_X7_isDone M b = r ∧ (r = nI 0 ∨ r = nI 1)) (fun _ : Unit => MC G a g M T Y)) (by decide) rfl (Nat.le_of_ble_eq_true rfl) ?_
  intro p e s m below meth c A H C0 _ hK hsz hP hD hA hS ls hl
  have hx := C0.1
  have hb := C0.2.1
  have hown : s.vm.findClass RX7 = some m.cls := C0.2.2.2.2.1
  have hml := C0.2.2.2.1
  have hts : ∀ w ∈ wsX7_isDone, w.before [.ref (a 0), .int (nI b)].toArray s = true := C0.2.2.2.2.2.1
  have hl : lv_has ls 2 [(0, .ref (a 0)), (1, .int (nI b))] := hl
  refine lv_aload_n hx hb dX7_isDone_0 rfl (lv_at hl 0 rfl) ?_
  refine va_get (D := G.1) (ci := 7) (v := .ref (a 1)) (C := RX7) (T := TX7) (N := 11) hx hb hts in_X7_isDone_RX7 hown hK.1 hP 0 rfl rfl 0 (by decide) (hts _ k_X7_isDone_f7) (fun _ h9 => h9) rfl dX7_isDone_1 ?_
  refine lv_iload_n hx hb dX7_isDone_4 rfl (lv_at hl 1 rfl) ?_
  refine lv_bipush (v := (nI 25)) hx hb dX7_isDone_5 (by decide) ?_
  refine n_iadd (i := b) (j := 25) hx hb dX7_isDone_7 ?_
  refine n_iald (f := M) (j := b + 25) hx hb hK hP 1 rfl (by omega) (by decide) dX7_isDone_8 ?_
  refine lv_if_ne (tgt := 24) hx hb dX7_isDone_9 (by decide) (fun c_1 => ?_) (fun c_1 => ?_)
  · refine lv_iconst (v := (nI 0)) hx hb dX7_isDone_24 (by decide) ?_
    exact end_Z C0 (by decide) hP hD hS () ⟨(by simp only [f_X7_isDone, if_neg c_1]), by decide⟩ rfl dX7_isDone_25
  · refine lv_aload_n hx hb dX7_isDone_12 rfl (lv_at hl 0 rfl) ?_
    refine lv_iload_n hx hb dX7_isDone_13 rfl (lv_at hl 1 rfl) ?_
    refine gcall_I (run_V (As := [.int (nI b)]) (rest := []) C0 hK hP hD (c_X7_need l G a g M T Y H.size b (by omega)) (cwV 1 hts gX7_isDone_X7_need rfl rfl rfl cd_X7_need ⟨Nat.le_of_ble_eq_true rfl, Nat.le_of_ble_eq_true rfl⟩) [0, 1, 2, 3] rfl rfl 0 (ci := 7) rfl rfl rfl rfl hl.1 rfl (Nat.le_of_ble_eq_true rfl) dX7_isDone_14 ⟨Nat.le_of_ble_eq_true rfl, Nat.le_of_ble_eq_true rfl⟩) hP hD hS hA [0, 1, 2, 3] rfl rfl (fun _ => rfl) (fun r_2 _ H locs hw_2 hP hD hS => ?_)
    subst hw_2
    have hP : va_P G.1 vwCl (MC G a g M T Y) H := hP
    have hD : va_D A (MC G a g M T Y) := hD
    refine lv_if_ne (tgt := 24) hx hb dX7_isDone_17 (by decide) (fun c_3 => ?_) (fun c_3 => ?_)
    · refine lv_iconst (v := (nI 0)) hx hb dX7_isDone_24 (by decide) ?_
      exact end_Z C0 (by decide) hP hD hS () ⟨(by simp only [f_X7_isDone, if_pos c_1, if_neg c_3]), by decide⟩ rfl dX7_isDone_25
    · refine lv_iconst (v := (nI 1)) hx hb dX7_isDone_20 (by decide) ?_
      refine lv_goto (tgt := 25) hx hb dX7_isDone_21 (by decide) ?_
      exact end_Z C0 (by decide) hP hD hS () ⟨(by simp only [f_X7_isDone, if_pos c_1, if_pos c_3]), by decide⟩ rfl dX7_isDone_25

def f_X7_more (M : (Nat → Int32)) (i : Nat) : Int32 :=
  ((M (276 + i)) - (M i))
set_option maxRecDepth 20000 in
theorem k_X7_more_f7 : Cond.fieldLink RX7 7 "SteamRationsModel" "s" "[I" ∈ wsX7_more := by decide +kernel
set_option maxRecDepth 20000 in
theorem in_X7_more_RX7 : ∀ w ∈ u_ws RX7 TX7 11, w ∈ wsX7_more := by decide +kernel
theorem cd_X7_more : yX7_more.cls = RX7 ∧ yX7_more.cls ≠ "java/lang/invoke/MethodHandle" ∧ yX7_more.cls ≠ "java/lang/invoke/VarHandle" ∧ (parseMethodDescriptor yX7_more.desc).map (fun d => d.parameters.length) = some 1 := by decide +kernel
set_option maxHeartbeats 4000000 in
set_option maxRecDepth 100000 in
theorem c_X7_more (l : Launch) (G : GG) (a : Nat → Nat) (g : (Nat → Int32)) (M : (Nat → Int32)) (T : (Nat → Int32)) (Y : (Nat → Int32)) (sz : Nat) (i : Nat) (hi : i < 46) : Met l yX7_more wsX7_more ({ frames := 0, cells := 0, slots := 0, locals := 0 }) (Pre G [.ref (a 0), .int (nI i)] (MC G a g M T Y) sz) (PI G (va_A (MC G a g M T Y) sz) (fun r (_ : Unit) => f_X7_more M i = r) (fun _ : Unit => MC G a g M T Y)) 0 0 (va_A (MC G a g M T Y) sz) := by
  refine Met.walk (cc := cX7_more) (maxL := 2) (ret := (some .int)) (Qc := fun A => PI G A (fun r (_ : Unit) => f_X7_more M i = r) (fun _ : Unit => MC G a g M T Y)) (by decide) rfl (Nat.le_of_ble_eq_true rfl) ?_
  intro p e s m below meth c A H C0 _ hK hsz hP hD hA hS ls hl
  have hx := C0.1
  have hb := C0.2.1
  have hown : s.vm.findClass RX7 = some m.cls := C0.2.2.2.2.1
  have hml := C0.2.2.2.1
  have hts : ∀ w ∈ wsX7_more, w.before [.ref (a 0), .int (nI i)].toArray s = true := C0.2.2.2.2.2.1
  have hl : lv_has ls 2 [(0, .ref (a 0)), (1, .int (nI i))] := hl
  refine lv_aload_n hx hb dX7_more_0 rfl (lv_at hl 0 rfl) ?_
  refine va_get (D := G.1) (ci := 7) (v := .ref (a 1)) (C := RX7) (T := TX7) (N := 11) hx hb hts in_X7_more_RX7 hown hK.1 hP 0 rfl rfl 0 (by decide) (hts _ k_X7_more_f7) (fun _ h9 => h9) rfl dX7_more_1 ?_
  refine lv_sipush (v := (nI 276)) hx hb dX7_more_4 (by decide) ?_
  refine lv_iload_n hx hb dX7_more_7 rfl (lv_at hl 1 rfl) ?_
  refine n_iadd (i := 276) (j := i) hx hb dX7_more_8 ?_
  refine n_iald (f := M) (j := 276 + i) hx hb hK hP 1 rfl (by omega) (by decide) dX7_more_9 ?_
  refine lv_aload_n hx hb dX7_more_10 rfl (lv_at hl 0 rfl) ?_
  refine va_get (D := G.1) (ci := 7) (v := .ref (a 1)) (C := RX7) (T := TX7) (N := 11) hx hb hts in_X7_more_RX7 hown hK.1 hP 0 rfl rfl 0 (by decide) (hts _ k_X7_more_f7) (fun _ h9 => h9) rfl dX7_more_11 ?_
  refine lv_iload_n hx hb dX7_more_14 rfl (lv_at hl 1 rfl) ?_
  refine n_iald (f := M) (j := i) hx hb hK hP 1 rfl (by omega) (by decide) dX7_more_15 ?_
  refine lv_isub hx hb dX7_more_16 ?_
  exact end_I C0 hP hD hS () (by simp only [f_X7_more]) rfl dX7_more_17

def s_X7_loaded_4_4  (x : Int32) : Int32 :=
  x
def s_X7_loaded_4_3 (M : (Nat → Int32)) (x : Int32) : Int32 :=
  if 0 ≤ (M 16) then
    s_X7_loaded_4_4 (x + (nI 1))
  else
    s_X7_loaded_4_4 (x + (nI 0))
def s_X7_loaded_4_2 (M : (Nat → Int32)) (x : Int32) : Int32 :=
  if 0 ≤ (M 15) then
    s_X7_loaded_4_3 M (x + (nI 1))
  else
    s_X7_loaded_4_3 M (x + (nI 0))
def s_X7_loaded_4_1 (M : (Nat → Int32)) (x : Int32) : Int32 :=
  if 0 ≤ (M 14) then
    s_X7_loaded_4_2 M (x + (nI 1))
  else
    s_X7_loaded_4_2 M (x + (nI 0))
def s_X7_loaded_4_0 (M : (Nat → Int32)) (x : Int32) : Int32 :=
  if 0 ≤ (M 13) then
    s_X7_loaded_4_1 M (x + (nI 1))
  else
    s_X7_loaded_4_1 M (x + (nI 0))
def f_X7_loaded (M : (Nat → Int32)) : Int32 :=
  s_X7_loaded_4_0 M (nI 0)
set_option maxRecDepth 20000 in
theorem k_X7_loaded_f7 : Cond.fieldLink RX7 7 "SteamRationsModel" "s" "[I" ∈ wsX7_loaded := by decide +kernel
set_option maxRecDepth 20000 in
theorem in_X7_loaded_RX7 : ∀ w ∈ u_ws RX7 TX7 11, w ∈ wsX7_loaded := by decide +kernel
theorem cd_X7_loaded : yX7_loaded.cls = RX7 ∧ yX7_loaded.cls ≠ "java/lang/invoke/MethodHandle" ∧ yX7_loaded.cls ≠ "java/lang/invoke/VarHandle" ∧ (parseMethodDescriptor yX7_loaded.desc).map (fun d => d.parameters.length) = some 0 := by decide +kernel
set_option maxHeartbeats 4000000 in
set_option maxRecDepth 100000 in
theorem c_X7_loaded (l : Launch) (G : GG) (a : Nat → Nat) (g : (Nat → Int32)) (M : (Nat → Int32)) (T : (Nat → Int32)) (Y : (Nat → Int32)) (sz : Nat)   : Met l yX7_loaded wsX7_loaded ({ frames := 0, cells := 0, slots := 0, locals := 0 }) (Pre G [.ref (a 0)] (MC G a g M T Y) sz) (PI G (va_A (MC G a g M T Y) sz) (fun r (_ : Unit) => f_X7_loaded M = r) (fun _ : Unit => MC G a g M T Y)) 0 0 (va_A (MC G a g M T Y) sz) := by
  refine Met.walk (cc := cX7_loaded) (maxL := 3) (ret := (some .int)) (Qc := fun A => PI G A (fun r (_ : Unit) => f_X7_loaded M = r) (fun _ : Unit => MC G a g M T Y)) (by decide) rfl (Nat.le_of_ble_eq_true rfl) ?_
  intro p e s m below meth c A H C0 _ hK hsz hP hD hA hS ls hl
  have hx := C0.1
  have hb := C0.2.1
  have hown : s.vm.findClass RX7 = some m.cls := C0.2.2.2.2.1
  have hml := C0.2.2.2.1
  have hts : ∀ w ∈ wsX7_loaded, w.before [.ref (a 0)].toArray s = true := C0.2.2.2.2.2.1
  have hl : lv_has ls 3 [(0, .ref (a 0))] := hl
  have h_X7_loaded_4_4 : ∀ (x : Int32), f_X7_loaded M = s_X7_loaded_4_4 x → ∀ (H : Heap) (locs : List Loc) (ls : Array Slot), va_P G.1 vwCl (MC G a g M T Y) H → va_D A (MC G a g M T Y) → va_S A s.heap H locs → lv_has ls 3 [(2, .int (nI 4)), (1, .int x), (0, .ref (a 0))] → W p l e ({ frames := 0, cells := 0, slots := 0, locals := 0 }) s m ([.ref (a 0)] : List Value).toArray below meth c H locs 0 0 (MQ below (PI G A (fun r (_ : Unit) => f_X7_loaded M = r) (fun _ : Unit => MC G a g M T Y)) ([.ref (a 0)] : List Value).toArray s 0 0 A) (F0 m 4 ls []) := by
    intro x  hE H locs ls hP hD hS hl
    refine lv_iload_n hx hb dX7_loaded_4 rfl (lv_at hl 0 rfl) ?_
    refine lv_iconst (v := (nI 4)) hx hb dX7_loaded_5 (by decide) ?_
    refine lv_icmp_ge (tgt := 35) hx hb dX7_loaded_6 (by decide) (fun c_9 => ?_) (fun c_9 => absurd (by decide +kernel) c_9)
    refine lv_iload_n hx hb dX7_loaded_35 rfl (lv_at hl 1 rfl) ?_
    exact end_I C0 hP hD hS () (hE.trans (by simp only [s_X7_loaded_4_4])) rfl dX7_loaded_36
  have h_X7_loaded_4_3 : ∀ (x : Int32), f_X7_loaded M = s_X7_loaded_4_3 M x → ∀ (H : Heap) (locs : List Loc) (ls : Array Slot), va_P G.1 vwCl (MC G a g M T Y) H → va_D A (MC G a g M T Y) → va_S A s.heap H locs → lv_has ls 3 [(2, .int (nI 3)), (1, .int x), (0, .ref (a 0))] → W p l e ({ frames := 0, cells := 0, slots := 0, locals := 0 }) s m ([.ref (a 0)] : List Value).toArray below meth c H locs 0 0 (MQ below (PI G A (fun r (_ : Unit) => f_X7_loaded M = r) (fun _ : Unit => MC G a g M T Y)) ([.ref (a 0)] : List Value).toArray s 0 0 A) (F0 m 4 ls []) := by
    intro x  hE H locs ls hP hD hS hl
    refine lv_iload_n hx hb dX7_loaded_4 rfl (lv_at hl 0 rfl) ?_
    refine lv_iconst (v := (nI 4)) hx hb dX7_loaded_5 (by decide) ?_
    refine lv_icmp_ge (tgt := 35) hx hb dX7_loaded_6 (by decide) (fun c_7 => absurd c_7 (by decide +kernel)) (fun c_7 => ?_)
    refine lv_iload_n hx hb dX7_loaded_9 rfl (lv_at hl 1 rfl) ?_
    refine lv_aload_n hx hb dX7_loaded_10 rfl (lv_at hl 2 rfl) ?_
    refine va_get (D := G.1) (ci := 7) (v := .ref (a 1)) (C := RX7) (T := TX7) (N := 11) hx hb hts in_X7_loaded_RX7 hown hK.1 hP 0 rfl rfl 0 (by decide) (hts _ k_X7_loaded_f7) (fun _ h9 => h9) rfl dX7_loaded_11 ?_
    refine lv_bipush (v := (nI 13)) hx hb dX7_loaded_14 (by decide) ?_
    refine lv_iload_n hx hb dX7_loaded_16 rfl (lv_at hl 0 rfl) ?_
    refine n_iadd (i := 13) (j := 3) hx hb dX7_loaded_17 ?_
    refine W.eq (g2 := F0 m 18 ls ([.int (nI 16), .ref (a 1), .int x])) (by first | rfl | (simp only [F0]; congr 3; omega)) ?_
    refine n_iald (f := M) (j := 16) hx hb hK hP 1 rfl (by decide) (by decide) dX7_loaded_18 ?_
    refine lv_if_ge (tgt := 26) hx hb dX7_loaded_19 (by decide) (fun c_8 => ?_) (fun c_8 => ?_)
    · refine lv_iconst (v := (nI 1)) hx hb dX7_loaded_26 (by decide) ?_
      refine lv_iadd hx hb dX7_loaded_27 ?_
      refine lv_istore_n (lv' := [(1, .int (x + (nI 1))), (2, .int (nI 3)), (0, .ref (a 0))]) hx hb dX7_loaded_28 rfl hl (by decide) rfl (fun ls hl => ?_)
      refine lv_iinc (v := (nI 4)) (lv' := [(2, .int (nI 4)), (1, .int (x + (nI 1))), (0, .ref (a 0))]) hx hb dX7_loaded_29 hl (k := 1) rfl (inc1 3) (by decide) rfl (fun ls hl => ?_)
      refine lv_goto (tgt := 4) hx hb dX7_loaded_32 (by decide) ?_
      exact h_X7_loaded_4_4 (x + (nI 1))  (hE.trans (by simp only [s_X7_loaded_4_3, if_pos c_8])) _ _ _ hP hD hS (lv_sub hl [0, 1, 2] rfl)
    · refine lv_iconst (v := (nI 0)) hx hb dX7_loaded_22 (by decide) ?_
      refine lv_goto (tgt := 27) hx hb dX7_loaded_23 (by decide) ?_
      refine lv_iadd hx hb dX7_loaded_27 ?_
      refine lv_istore_n (lv' := [(1, .int (x + (nI 0))), (2, .int (nI 3)), (0, .ref (a 0))]) hx hb dX7_loaded_28 rfl hl (by decide) rfl (fun ls hl => ?_)
      refine lv_iinc (v := (nI 4)) (lv' := [(2, .int (nI 4)), (1, .int (x + (nI 0))), (0, .ref (a 0))]) hx hb dX7_loaded_29 hl (k := 1) rfl (inc1 3) (by decide) rfl (fun ls hl => ?_)
      refine lv_goto (tgt := 4) hx hb dX7_loaded_32 (by decide) ?_
      exact h_X7_loaded_4_4 (x + (nI 0))  (hE.trans (by simp only [s_X7_loaded_4_3, if_neg c_8])) _ _ _ hP hD hS (lv_sub hl [0, 1, 2] rfl)
  have h_X7_loaded_4_2 : ∀ (x : Int32), f_X7_loaded M = s_X7_loaded_4_2 M x → ∀ (H : Heap) (locs : List Loc) (ls : Array Slot), va_P G.1 vwCl (MC G a g M T Y) H → va_D A (MC G a g M T Y) → va_S A s.heap H locs → lv_has ls 3 [(2, .int (nI 2)), (1, .int x), (0, .ref (a 0))] → W p l e ({ frames := 0, cells := 0, slots := 0, locals := 0 }) s m ([.ref (a 0)] : List Value).toArray below meth c H locs 0 0 (MQ below (PI G A (fun r (_ : Unit) => f_X7_loaded M = r) (fun _ : Unit => MC G a g M T Y)) ([.ref (a 0)] : List Value).toArray s 0 0 A) (F0 m 4 ls []) := by
    intro x  hE H locs ls hP hD hS hl
    refine lv_iload_n hx hb dX7_loaded_4 rfl (lv_at hl 0 rfl) ?_
    refine lv_iconst (v := (nI 4)) hx hb dX7_loaded_5 (by decide) ?_
    refine lv_icmp_ge (tgt := 35) hx hb dX7_loaded_6 (by decide) (fun c_5 => absurd c_5 (by decide +kernel)) (fun c_5 => ?_)
    refine lv_iload_n hx hb dX7_loaded_9 rfl (lv_at hl 1 rfl) ?_
    refine lv_aload_n hx hb dX7_loaded_10 rfl (lv_at hl 2 rfl) ?_
    refine va_get (D := G.1) (ci := 7) (v := .ref (a 1)) (C := RX7) (T := TX7) (N := 11) hx hb hts in_X7_loaded_RX7 hown hK.1 hP 0 rfl rfl 0 (by decide) (hts _ k_X7_loaded_f7) (fun _ h9 => h9) rfl dX7_loaded_11 ?_
    refine lv_bipush (v := (nI 13)) hx hb dX7_loaded_14 (by decide) ?_
    refine lv_iload_n hx hb dX7_loaded_16 rfl (lv_at hl 0 rfl) ?_
    refine n_iadd (i := 13) (j := 2) hx hb dX7_loaded_17 ?_
    refine W.eq (g2 := F0 m 18 ls ([.int (nI 15), .ref (a 1), .int x])) (by first | rfl | (simp only [F0]; congr 3; omega)) ?_
    refine n_iald (f := M) (j := 15) hx hb hK hP 1 rfl (by decide) (by decide) dX7_loaded_18 ?_
    refine lv_if_ge (tgt := 26) hx hb dX7_loaded_19 (by decide) (fun c_6 => ?_) (fun c_6 => ?_)
    · refine lv_iconst (v := (nI 1)) hx hb dX7_loaded_26 (by decide) ?_
      refine lv_iadd hx hb dX7_loaded_27 ?_
      refine lv_istore_n (lv' := [(1, .int (x + (nI 1))), (2, .int (nI 2)), (0, .ref (a 0))]) hx hb dX7_loaded_28 rfl hl (by decide) rfl (fun ls hl => ?_)
      refine lv_iinc (v := (nI 3)) (lv' := [(2, .int (nI 3)), (1, .int (x + (nI 1))), (0, .ref (a 0))]) hx hb dX7_loaded_29 hl (k := 1) rfl (inc1 2) (by decide) rfl (fun ls hl => ?_)
      refine lv_goto (tgt := 4) hx hb dX7_loaded_32 (by decide) ?_
      exact h_X7_loaded_4_3 (x + (nI 1))  (hE.trans (by simp only [s_X7_loaded_4_2, if_pos c_6])) _ _ _ hP hD hS (lv_sub hl [0, 1, 2] rfl)
    · refine lv_iconst (v := (nI 0)) hx hb dX7_loaded_22 (by decide) ?_
      refine lv_goto (tgt := 27) hx hb dX7_loaded_23 (by decide) ?_
      refine lv_iadd hx hb dX7_loaded_27 ?_
      refine lv_istore_n (lv' := [(1, .int (x + (nI 0))), (2, .int (nI 2)), (0, .ref (a 0))]) hx hb dX7_loaded_28 rfl hl (by decide) rfl (fun ls hl => ?_)
      refine lv_iinc (v := (nI 3)) (lv' := [(2, .int (nI 3)), (1, .int (x + (nI 0))), (0, .ref (a 0))]) hx hb dX7_loaded_29 hl (k := 1) rfl (inc1 2) (by decide) rfl (fun ls hl => ?_)
      refine lv_goto (tgt := 4) hx hb dX7_loaded_32 (by decide) ?_
      exact h_X7_loaded_4_3 (x + (nI 0))  (hE.trans (by simp only [s_X7_loaded_4_2, if_neg c_6])) _ _ _ hP hD hS (lv_sub hl [0, 1, 2] rfl)
  have h_X7_loaded_4_1 : ∀ (x : Int32), f_X7_loaded M = s_X7_loaded_4_1 M x → ∀ (H : Heap) (locs : List Loc) (ls : Array Slot), va_P G.1 vwCl (MC G a g M T Y) H → va_D A (MC G a g M T Y) → va_S A s.heap H locs → lv_has ls 3 [(2, .int (nI 1)), (1, .int x), (0, .ref (a 0))] → W p l e ({ frames := 0, cells := 0, slots := 0, locals := 0 }) s m ([.ref (a 0)] : List Value).toArray below meth c H locs 0 0 (MQ below (PI G A (fun r (_ : Unit) => f_X7_loaded M = r) (fun _ : Unit => MC G a g M T Y)) ([.ref (a 0)] : List Value).toArray s 0 0 A) (F0 m 4 ls []) := by
    intro x  hE H locs ls hP hD hS hl
    refine lv_iload_n hx hb dX7_loaded_4 rfl (lv_at hl 0 rfl) ?_
    refine lv_iconst (v := (nI 4)) hx hb dX7_loaded_5 (by decide) ?_
    refine lv_icmp_ge (tgt := 35) hx hb dX7_loaded_6 (by decide) (fun c_3 => absurd c_3 (by decide +kernel)) (fun c_3 => ?_)
    refine lv_iload_n hx hb dX7_loaded_9 rfl (lv_at hl 1 rfl) ?_
    refine lv_aload_n hx hb dX7_loaded_10 rfl (lv_at hl 2 rfl) ?_
    refine va_get (D := G.1) (ci := 7) (v := .ref (a 1)) (C := RX7) (T := TX7) (N := 11) hx hb hts in_X7_loaded_RX7 hown hK.1 hP 0 rfl rfl 0 (by decide) (hts _ k_X7_loaded_f7) (fun _ h9 => h9) rfl dX7_loaded_11 ?_
    refine lv_bipush (v := (nI 13)) hx hb dX7_loaded_14 (by decide) ?_
    refine lv_iload_n hx hb dX7_loaded_16 rfl (lv_at hl 0 rfl) ?_
    refine n_iadd (i := 13) (j := 1) hx hb dX7_loaded_17 ?_
    refine W.eq (g2 := F0 m 18 ls ([.int (nI 14), .ref (a 1), .int x])) (by first | rfl | (simp only [F0]; congr 3; omega)) ?_
    refine n_iald (f := M) (j := 14) hx hb hK hP 1 rfl (by decide) (by decide) dX7_loaded_18 ?_
    refine lv_if_ge (tgt := 26) hx hb dX7_loaded_19 (by decide) (fun c_4 => ?_) (fun c_4 => ?_)
    · refine lv_iconst (v := (nI 1)) hx hb dX7_loaded_26 (by decide) ?_
      refine lv_iadd hx hb dX7_loaded_27 ?_
      refine lv_istore_n (lv' := [(1, .int (x + (nI 1))), (2, .int (nI 1)), (0, .ref (a 0))]) hx hb dX7_loaded_28 rfl hl (by decide) rfl (fun ls hl => ?_)
      refine lv_iinc (v := (nI 2)) (lv' := [(2, .int (nI 2)), (1, .int (x + (nI 1))), (0, .ref (a 0))]) hx hb dX7_loaded_29 hl (k := 1) rfl (inc1 1) (by decide) rfl (fun ls hl => ?_)
      refine lv_goto (tgt := 4) hx hb dX7_loaded_32 (by decide) ?_
      exact h_X7_loaded_4_2 (x + (nI 1))  (hE.trans (by simp only [s_X7_loaded_4_1, if_pos c_4])) _ _ _ hP hD hS (lv_sub hl [0, 1, 2] rfl)
    · refine lv_iconst (v := (nI 0)) hx hb dX7_loaded_22 (by decide) ?_
      refine lv_goto (tgt := 27) hx hb dX7_loaded_23 (by decide) ?_
      refine lv_iadd hx hb dX7_loaded_27 ?_
      refine lv_istore_n (lv' := [(1, .int (x + (nI 0))), (2, .int (nI 1)), (0, .ref (a 0))]) hx hb dX7_loaded_28 rfl hl (by decide) rfl (fun ls hl => ?_)
      refine lv_iinc (v := (nI 2)) (lv' := [(2, .int (nI 2)), (1, .int (x + (nI 0))), (0, .ref (a 0))]) hx hb dX7_loaded_29 hl (k := 1) rfl (inc1 1) (by decide) rfl (fun ls hl => ?_)
      refine lv_goto (tgt := 4) hx hb dX7_loaded_32 (by decide) ?_
      exact h_X7_loaded_4_2 (x + (nI 0))  (hE.trans (by simp only [s_X7_loaded_4_1, if_neg c_4])) _ _ _ hP hD hS (lv_sub hl [0, 1, 2] rfl)
  have h_X7_loaded_4_0 : ∀ (x : Int32), f_X7_loaded M = s_X7_loaded_4_0 M x → ∀ (H : Heap) (locs : List Loc) (ls : Array Slot), va_P G.1 vwCl (MC G a g M T Y) H → va_D A (MC G a g M T Y) → va_S A s.heap H locs → lv_has ls 3 [(2, .int (nI 0)), (1, .int x), (0, .ref (a 0))] → W p l e ({ frames := 0, cells := 0, slots := 0, locals := 0 }) s m ([.ref (a 0)] : List Value).toArray below meth c H locs 0 0 (MQ below (PI G A (fun r (_ : Unit) => f_X7_loaded M = r) (fun _ : Unit => MC G a g M T Y)) ([.ref (a 0)] : List Value).toArray s 0 0 A) (F0 m 4 ls []) := by
    intro x  hE H locs ls hP hD hS hl
    refine lv_iload_n hx hb dX7_loaded_4 rfl (lv_at hl 0 rfl) ?_
    refine lv_iconst (v := (nI 4)) hx hb dX7_loaded_5 (by decide) ?_
    refine lv_icmp_ge (tgt := 35) hx hb dX7_loaded_6 (by decide) (fun c_1 => absurd c_1 (by decide +kernel)) (fun c_1 => ?_)
    refine lv_iload_n hx hb dX7_loaded_9 rfl (lv_at hl 1 rfl) ?_
    refine lv_aload_n hx hb dX7_loaded_10 rfl (lv_at hl 2 rfl) ?_
    refine va_get (D := G.1) (ci := 7) (v := .ref (a 1)) (C := RX7) (T := TX7) (N := 11) hx hb hts in_X7_loaded_RX7 hown hK.1 hP 0 rfl rfl 0 (by decide) (hts _ k_X7_loaded_f7) (fun _ h9 => h9) rfl dX7_loaded_11 ?_
    refine lv_bipush (v := (nI 13)) hx hb dX7_loaded_14 (by decide) ?_
    refine lv_iload_n hx hb dX7_loaded_16 rfl (lv_at hl 0 rfl) ?_
    refine n_iadd (i := 13) (j := 0) hx hb dX7_loaded_17 ?_
    refine W.eq (g2 := F0 m 18 ls ([.int (nI 13), .ref (a 1), .int x])) (by first | rfl | (simp only [F0]; congr 3; omega)) ?_
    refine n_iald (f := M) (j := 13) hx hb hK hP 1 rfl (by decide) (by decide) dX7_loaded_18 ?_
    refine lv_if_ge (tgt := 26) hx hb dX7_loaded_19 (by decide) (fun c_2 => ?_) (fun c_2 => ?_)
    · refine lv_iconst (v := (nI 1)) hx hb dX7_loaded_26 (by decide) ?_
      refine lv_iadd hx hb dX7_loaded_27 ?_
      refine lv_istore_n (lv' := [(1, .int (x + (nI 1))), (2, .int (nI 0)), (0, .ref (a 0))]) hx hb dX7_loaded_28 rfl hl (by decide) rfl (fun ls hl => ?_)
      refine lv_iinc (v := (nI 1)) (lv' := [(2, .int (nI 1)), (1, .int (x + (nI 1))), (0, .ref (a 0))]) hx hb dX7_loaded_29 hl (k := 1) rfl (inc1 0) (by decide) rfl (fun ls hl => ?_)
      refine lv_goto (tgt := 4) hx hb dX7_loaded_32 (by decide) ?_
      exact h_X7_loaded_4_1 (x + (nI 1))  (hE.trans (by simp only [s_X7_loaded_4_0, if_pos c_2])) _ _ _ hP hD hS (lv_sub hl [0, 1, 2] rfl)
    · refine lv_iconst (v := (nI 0)) hx hb dX7_loaded_22 (by decide) ?_
      refine lv_goto (tgt := 27) hx hb dX7_loaded_23 (by decide) ?_
      refine lv_iadd hx hb dX7_loaded_27 ?_
      refine lv_istore_n (lv' := [(1, .int (x + (nI 0))), (2, .int (nI 0)), (0, .ref (a 0))]) hx hb dX7_loaded_28 rfl hl (by decide) rfl (fun ls hl => ?_)
      refine lv_iinc (v := (nI 1)) (lv' := [(2, .int (nI 1)), (1, .int (x + (nI 0))), (0, .ref (a 0))]) hx hb dX7_loaded_29 hl (k := 1) rfl (inc1 0) (by decide) rfl (fun ls hl => ?_)
      refine lv_goto (tgt := 4) hx hb dX7_loaded_32 (by decide) ?_
      exact h_X7_loaded_4_1 (x + (nI 0))  (hE.trans (by simp only [s_X7_loaded_4_0, if_neg c_2])) _ _ _ hP hD hS (lv_sub hl [0, 1, 2] rfl)
  refine lv_iconst (v := (nI 0)) hx hb dX7_loaded_0 (by decide) ?_
  refine lv_istore_n (lv' := [(1, .int (nI 0)), (0, .ref (a 0))]) hx hb dX7_loaded_1 rfl hl (by decide) rfl (fun ls hl => ?_)
  refine lv_iconst (v := (nI 0)) hx hb dX7_loaded_2 (by decide) ?_
  refine lv_istore_n (lv' := [(2, .int (nI 0)), (1, .int (nI 0)), (0, .ref (a 0))]) hx hb dX7_loaded_3 rfl hl (by decide) rfl (fun ls hl => ?_)
  exact h_X7_loaded_4_0 (nI 0)  (by simp only [f_X7_loaded]) _ _ _ hP hD hS (lv_sub hl [0, 1, 2] rfl)

def f_X7_count (g : (Nat → Int32)) (M : (Nat → Int32)) (p0 : Int32) : Int32 :=
  if p0 = nI 0 then
    (M 12)
  else
    if p0 = nI 1 then
      (M 10)
    else
      if p0 = nI 2 then
        (M 38)
      else
        if p0 = nI 3 then
          (M 39)
        else
          if p0 = nI 4 then
            (M 11)
          else
            if p0 = nI 5 then
              (f_X7_loaded M)
            else
              if p0 = nI 6 then
                (M 25)
              else
                if p0 = nI 7 then
                  (M 40)
                else
                  if p0 = nI 8 then
                    (M 41)
                  else
                    if p0 = nI 9 then
                      (M 42)
                    else
                      if p0 = nI 10 then
                        (M 43)
                      else
                        if p0 = nI 11 then
                          (M 44)
                        else
                          if p0 = nI 12 then
                            (f_X7_pressure M 0)
                          else
                            if p0 = nI 13 then
                              (M 45)
                            else
                              if p0 = nI 14 then
                                (g 0)
                              else
                                if p0 = nI 15 then
                                  (g 2)
                                else
                                  (-2)
set_option maxRecDepth 20000 in
theorem k_X7_count_f114 : Cond.fieldLink RX7 114 "SteamRationsModel" "typed" "I" ∈ wsX7_count := by decide +kernel
set_option maxRecDepth 20000 in
theorem k_X7_count_f24 : Cond.fieldLink RX7 24 "SteamRationsModel" "states" "I" ∈ wsX7_count := by decide +kernel
set_option maxRecDepth 20000 in
theorem k_X7_count_f7 : Cond.fieldLink RX7 7 "SteamRationsModel" "s" "[I" ∈ wsX7_count := by decide +kernel
set_option maxRecDepth 20000 in
theorem in_X7_count_RX7 : ∀ w ∈ u_ws RX7 TX7 11, w ∈ wsX7_count := by decide +kernel
theorem cd_X7_count : yX7_count.cls = RX7 ∧ yX7_count.cls ≠ "java/lang/invoke/MethodHandle" ∧ yX7_count.cls ≠ "java/lang/invoke/VarHandle" ∧ (parseMethodDescriptor yX7_count.desc).map (fun d => d.parameters.length) = some 1 := by decide +kernel
set_option maxHeartbeats 4000000 in
set_option maxRecDepth 100000 in
theorem c_X7_count (l : Launch) (G : GG) (a : Nat → Nat) (g : (Nat → Int32)) (M : (Nat → Int32)) (T : (Nat → Int32)) (Y : (Nat → Int32)) (sz : Nat) (p0 : Int32)  : Met l yX7_count wsX7_count ({ frames := 1, cells := 0, slots := 0, locals := 22 }) (Pre G [.ref (a 0), .int p0] (MC G a g M T Y) sz) (PI G (va_A (MC G a g M T Y) sz) (fun r (_ : Unit) => f_X7_count g M p0 = r) (fun _ : Unit => MC G a g M T Y)) 0 0 (va_A (MC G a g M T Y) sz) := by
  refine Met.walk (cc := cX7_count) (maxL := 2) (ret := (some .int)) (Qc := fun A => PI G A (fun r (_ : Unit) => f_X7_count g M p0 = r) (fun _ : Unit => MC G a g M T Y)) (by decide) rfl (Nat.le_of_ble_eq_true rfl) ?_
  intro p e s m below meth c A H C0 _ hK hsz hP hD hA hS ls hl
  have hx := C0.1
  have hb := C0.2.1
  have hown : s.vm.findClass RX7 = some m.cls := C0.2.2.2.2.1
  have hml := C0.2.2.2.1
  have hts : ∀ w ∈ wsX7_count, w.before [.ref (a 0), .int p0].toArray s = true := C0.2.2.2.2.2.1
  have hl : lv_has ls 2 [(0, .ref (a 0)), (1, .int p0)] := hl
  refine lv_iload_n hx hb dX7_count_0 rfl (lv_at hl 1 rfl) ?_
  by_cases c_1 : p0 = nI 0
  · refine lv_tableIn (tgt := 80) hx hb dX7_count_1 (by rw [c_1]; decide +kernel) (by rw [c_1]; decide +kernel) (by rw [c_1]; rfl) (by decide) ?_
    have hl : lv_has ls 2 [(0, .ref (a 0)), (1, .int (nI 0))] := by rw [← c_1]; exact hl
    refine lv_aload_n hx hb dX7_count_80 rfl (lv_at hl 0 rfl) ?_
    refine va_get (D := G.1) (ci := 7) (v := .ref (a 1)) (C := RX7) (T := TX7) (N := 11) hx hb hts in_X7_count_RX7 hown hK.1 hP 0 rfl rfl 0 (by decide) (hts _ k_X7_count_f7) (fun _ h9 => h9) rfl dX7_count_81 ?_
    refine lv_bipush (v := (nI 12)) hx hb dX7_count_84 (by decide) ?_
    refine n_iald (f := M) (j := 12) hx hb hK hP 1 rfl (by decide) (by decide) dX7_count_86 ?_
    exact end_I C0 hP hD hS () (by simp only [f_X7_count, if_pos c_1]) rfl dX7_count_87
  · by_cases c_2 : p0 = nI 1
    · refine lv_tableIn (tgt := 88) hx hb dX7_count_1 (by rw [c_2]; decide +kernel) (by rw [c_2]; decide +kernel) (by rw [c_2]; rfl) (by decide) ?_
      have hl : lv_has ls 2 [(0, .ref (a 0)), (1, .int (nI 1))] := by rw [← c_2]; exact hl
      refine lv_aload_n hx hb dX7_count_88 rfl (lv_at hl 0 rfl) ?_
      refine va_get (D := G.1) (ci := 7) (v := .ref (a 1)) (C := RX7) (T := TX7) (N := 11) hx hb hts in_X7_count_RX7 hown hK.1 hP 0 rfl rfl 0 (by decide) (hts _ k_X7_count_f7) (fun _ h9 => h9) rfl dX7_count_89 ?_
      refine lv_bipush (v := (nI 10)) hx hb dX7_count_92 (by decide) ?_
      refine n_iald (f := M) (j := 10) hx hb hK hP 1 rfl (by decide) (by decide) dX7_count_94 ?_
      exact end_I C0 hP hD hS () (by simp only [f_X7_count, if_neg c_1, if_pos c_2]) rfl dX7_count_95
    · by_cases c_3 : p0 = nI 2
      · refine lv_tableIn (tgt := 96) hx hb dX7_count_1 (by rw [c_3]; decide +kernel) (by rw [c_3]; decide +kernel) (by rw [c_3]; rfl) (by decide) ?_
        have hl : lv_has ls 2 [(0, .ref (a 0)), (1, .int (nI 2))] := by rw [← c_3]; exact hl
        refine lv_aload_n hx hb dX7_count_96 rfl (lv_at hl 0 rfl) ?_
        refine va_get (D := G.1) (ci := 7) (v := .ref (a 1)) (C := RX7) (T := TX7) (N := 11) hx hb hts in_X7_count_RX7 hown hK.1 hP 0 rfl rfl 0 (by decide) (hts _ k_X7_count_f7) (fun _ h9 => h9) rfl dX7_count_97 ?_
        refine lv_bipush (v := (nI 38)) hx hb dX7_count_100 (by decide) ?_
        refine n_iald (f := M) (j := 38) hx hb hK hP 1 rfl (by decide) (by decide) dX7_count_102 ?_
        exact end_I C0 hP hD hS () (by simp only [f_X7_count, if_neg c_1, if_neg c_2, if_pos c_3]) rfl dX7_count_103
      · by_cases c_4 : p0 = nI 3
        · refine lv_tableIn (tgt := 104) hx hb dX7_count_1 (by rw [c_4]; decide +kernel) (by rw [c_4]; decide +kernel) (by rw [c_4]; rfl) (by decide) ?_
          have hl : lv_has ls 2 [(0, .ref (a 0)), (1, .int (nI 3))] := by rw [← c_4]; exact hl
          refine lv_aload_n hx hb dX7_count_104 rfl (lv_at hl 0 rfl) ?_
          refine va_get (D := G.1) (ci := 7) (v := .ref (a 1)) (C := RX7) (T := TX7) (N := 11) hx hb hts in_X7_count_RX7 hown hK.1 hP 0 rfl rfl 0 (by decide) (hts _ k_X7_count_f7) (fun _ h9 => h9) rfl dX7_count_105 ?_
          refine lv_bipush (v := (nI 39)) hx hb dX7_count_108 (by decide) ?_
          refine n_iald (f := M) (j := 39) hx hb hK hP 1 rfl (by decide) (by decide) dX7_count_110 ?_
          exact end_I C0 hP hD hS () (by simp only [f_X7_count, if_neg c_1, if_neg c_2, if_neg c_3, if_pos c_4]) rfl dX7_count_111
        · by_cases c_5 : p0 = nI 4
          · refine lv_tableIn (tgt := 112) hx hb dX7_count_1 (by rw [c_5]; decide +kernel) (by rw [c_5]; decide +kernel) (by rw [c_5]; rfl) (by decide) ?_
            have hl : lv_has ls 2 [(0, .ref (a 0)), (1, .int (nI 4))] := by rw [← c_5]; exact hl
            refine lv_aload_n hx hb dX7_count_112 rfl (lv_at hl 0 rfl) ?_
            refine va_get (D := G.1) (ci := 7) (v := .ref (a 1)) (C := RX7) (T := TX7) (N := 11) hx hb hts in_X7_count_RX7 hown hK.1 hP 0 rfl rfl 0 (by decide) (hts _ k_X7_count_f7) (fun _ h9 => h9) rfl dX7_count_113 ?_
            refine lv_bipush (v := (nI 11)) hx hb dX7_count_116 (by decide) ?_
            refine n_iald (f := M) (j := 11) hx hb hK hP 1 rfl (by decide) (by decide) dX7_count_118 ?_
            exact end_I C0 hP hD hS () (by simp only [f_X7_count, if_neg c_1, if_neg c_2, if_neg c_3, if_neg c_4, if_pos c_5]) rfl dX7_count_119
          · by_cases c_6 : p0 = nI 5
            · refine lv_tableIn (tgt := 120) hx hb dX7_count_1 (by rw [c_6]; decide +kernel) (by rw [c_6]; decide +kernel) (by rw [c_6]; rfl) (by decide) ?_
              have hl : lv_has ls 2 [(0, .ref (a 0)), (1, .int (nI 5))] := by rw [← c_6]; exact hl
              refine lv_aload_n hx hb dX7_count_120 rfl (lv_at hl 0 rfl) ?_
              refine gcall_I (run_V (As := []) (rest := []) C0 hK hP hD (c_X7_loaded l G a g M T Y H.size ) (cwV 0 hts gX7_count_X7_loaded rfl rfl rfl cd_X7_loaded ⟨Nat.le_of_ble_eq_true rfl, Nat.le_of_ble_eq_true rfl⟩) [0, 1, 2, 3] rfl rfl 0 (ci := 7) rfl rfl rfl rfl hl.1 rfl (Nat.le_of_ble_eq_true rfl) dX7_count_121 ⟨Nat.le_of_ble_eq_true rfl, Nat.le_of_ble_eq_true rfl⟩) hP hD hS hA [0, 1, 2, 3] rfl rfl (fun _ => rfl) (fun r_7 _ H locs hw_7 hP hD hS => ?_)
              subst hw_7
              have hP : va_P G.1 vwCl (MC G a g M T Y) H := hP
              have hD : va_D A (MC G a g M T Y) := hD
              exact end_I C0 hP hD hS () (by simp only [f_X7_count, if_neg c_1, if_neg c_2, if_neg c_3, if_neg c_4, if_neg c_5, if_pos c_6]) rfl dX7_count_124
            · by_cases c_8 : p0 = nI 6
              · refine lv_tableIn (tgt := 125) hx hb dX7_count_1 (by rw [c_8]; decide +kernel) (by rw [c_8]; decide +kernel) (by rw [c_8]; rfl) (by decide) ?_
                have hl : lv_has ls 2 [(0, .ref (a 0)), (1, .int (nI 6))] := by rw [← c_8]; exact hl
                refine lv_aload_n hx hb dX7_count_125 rfl (lv_at hl 0 rfl) ?_
                refine va_get (D := G.1) (ci := 7) (v := .ref (a 1)) (C := RX7) (T := TX7) (N := 11) hx hb hts in_X7_count_RX7 hown hK.1 hP 0 rfl rfl 0 (by decide) (hts _ k_X7_count_f7) (fun _ h9 => h9) rfl dX7_count_126 ?_
                refine lv_bipush (v := (nI 25)) hx hb dX7_count_129 (by decide) ?_
                refine n_iald (f := M) (j := 25) hx hb hK hP 1 rfl (by decide) (by decide) dX7_count_131 ?_
                exact end_I C0 hP hD hS () (by simp only [f_X7_count, if_neg c_1, if_neg c_2, if_neg c_3, if_neg c_4, if_neg c_5, if_neg c_6, if_pos c_8]) rfl dX7_count_132
              · by_cases c_9 : p0 = nI 7
                · refine lv_tableIn (tgt := 133) hx hb dX7_count_1 (by rw [c_9]; decide +kernel) (by rw [c_9]; decide +kernel) (by rw [c_9]; rfl) (by decide) ?_
                  have hl : lv_has ls 2 [(0, .ref (a 0)), (1, .int (nI 7))] := by rw [← c_9]; exact hl
                  refine lv_aload_n hx hb dX7_count_133 rfl (lv_at hl 0 rfl) ?_
                  refine va_get (D := G.1) (ci := 7) (v := .ref (a 1)) (C := RX7) (T := TX7) (N := 11) hx hb hts in_X7_count_RX7 hown hK.1 hP 0 rfl rfl 0 (by decide) (hts _ k_X7_count_f7) (fun _ h9 => h9) rfl dX7_count_134 ?_
                  refine lv_bipush (v := (nI 40)) hx hb dX7_count_137 (by decide) ?_
                  refine lv_iload_n hx hb dX7_count_139 rfl (lv_at hl 1 rfl) ?_
                  refine n_iadd (i := 40) (j := 7) hx hb dX7_count_140 ?_
                  refine W.eq (g2 := F0 m 141 ls ([.int (nI 47), .ref (a 1)])) (by first | rfl | (simp only [F0]; congr 3; omega)) ?_
                  refine lv_bipush (v := (nI 7)) hx hb dX7_count_141 (by decide) ?_
                  refine n_isub (i := 47) (j := 7) hx hb (by decide) dX7_count_143 ?_
                  refine n_iald (f := M) (j := 40) hx hb hK hP 1 rfl (by decide) (by decide) dX7_count_144 ?_
                  exact end_I C0 hP hD hS () (by simp only [f_X7_count, if_neg c_1, if_neg c_2, if_neg c_3, if_neg c_4, if_neg c_5, if_neg c_6, if_neg c_8, if_pos c_9]) rfl dX7_count_145
                · by_cases c_10 : p0 = nI 8
                  · refine lv_tableIn (tgt := 133) hx hb dX7_count_1 (by rw [c_10]; decide +kernel) (by rw [c_10]; decide +kernel) (by rw [c_10]; rfl) (by decide) ?_
                    have hl : lv_has ls 2 [(0, .ref (a 0)), (1, .int (nI 8))] := by rw [← c_10]; exact hl
                    refine lv_aload_n hx hb dX7_count_133 rfl (lv_at hl 0 rfl) ?_
                    refine va_get (D := G.1) (ci := 7) (v := .ref (a 1)) (C := RX7) (T := TX7) (N := 11) hx hb hts in_X7_count_RX7 hown hK.1 hP 0 rfl rfl 0 (by decide) (hts _ k_X7_count_f7) (fun _ h9 => h9) rfl dX7_count_134 ?_
                    refine lv_bipush (v := (nI 40)) hx hb dX7_count_137 (by decide) ?_
                    refine lv_iload_n hx hb dX7_count_139 rfl (lv_at hl 1 rfl) ?_
                    refine n_iadd (i := 40) (j := 8) hx hb dX7_count_140 ?_
                    refine W.eq (g2 := F0 m 141 ls ([.int (nI 48), .ref (a 1)])) (by first | rfl | (simp only [F0]; congr 3; omega)) ?_
                    refine lv_bipush (v := (nI 7)) hx hb dX7_count_141 (by decide) ?_
                    refine n_isub (i := 48) (j := 7) hx hb (by decide) dX7_count_143 ?_
                    refine n_iald (f := M) (j := 41) hx hb hK hP 1 rfl (by decide) (by decide) dX7_count_144 ?_
                    exact end_I C0 hP hD hS () (by simp only [f_X7_count, if_neg c_1, if_neg c_2, if_neg c_3, if_neg c_4, if_neg c_5, if_neg c_6, if_neg c_8, if_neg c_9, if_pos c_10]) rfl dX7_count_145
                  · by_cases c_11 : p0 = nI 9
                    · refine lv_tableIn (tgt := 133) hx hb dX7_count_1 (by rw [c_11]; decide +kernel) (by rw [c_11]; decide +kernel) (by rw [c_11]; rfl) (by decide) ?_
                      have hl : lv_has ls 2 [(0, .ref (a 0)), (1, .int (nI 9))] := by rw [← c_11]; exact hl
                      refine lv_aload_n hx hb dX7_count_133 rfl (lv_at hl 0 rfl) ?_
                      refine va_get (D := G.1) (ci := 7) (v := .ref (a 1)) (C := RX7) (T := TX7) (N := 11) hx hb hts in_X7_count_RX7 hown hK.1 hP 0 rfl rfl 0 (by decide) (hts _ k_X7_count_f7) (fun _ h9 => h9) rfl dX7_count_134 ?_
                      refine lv_bipush (v := (nI 40)) hx hb dX7_count_137 (by decide) ?_
                      refine lv_iload_n hx hb dX7_count_139 rfl (lv_at hl 1 rfl) ?_
                      refine n_iadd (i := 40) (j := 9) hx hb dX7_count_140 ?_
                      refine W.eq (g2 := F0 m 141 ls ([.int (nI 49), .ref (a 1)])) (by first | rfl | (simp only [F0]; congr 3; omega)) ?_
                      refine lv_bipush (v := (nI 7)) hx hb dX7_count_141 (by decide) ?_
                      refine n_isub (i := 49) (j := 7) hx hb (by decide) dX7_count_143 ?_
                      refine n_iald (f := M) (j := 42) hx hb hK hP 1 rfl (by decide) (by decide) dX7_count_144 ?_
                      exact end_I C0 hP hD hS () (by simp only [f_X7_count, if_neg c_1, if_neg c_2, if_neg c_3, if_neg c_4, if_neg c_5, if_neg c_6, if_neg c_8, if_neg c_9, if_neg c_10, if_pos c_11]) rfl dX7_count_145
                    · by_cases c_12 : p0 = nI 10
                      · refine lv_tableIn (tgt := 133) hx hb dX7_count_1 (by rw [c_12]; decide +kernel) (by rw [c_12]; decide +kernel) (by rw [c_12]; rfl) (by decide) ?_
                        have hl : lv_has ls 2 [(0, .ref (a 0)), (1, .int (nI 10))] := by rw [← c_12]; exact hl
                        refine lv_aload_n hx hb dX7_count_133 rfl (lv_at hl 0 rfl) ?_
                        refine va_get (D := G.1) (ci := 7) (v := .ref (a 1)) (C := RX7) (T := TX7) (N := 11) hx hb hts in_X7_count_RX7 hown hK.1 hP 0 rfl rfl 0 (by decide) (hts _ k_X7_count_f7) (fun _ h9 => h9) rfl dX7_count_134 ?_
                        refine lv_bipush (v := (nI 40)) hx hb dX7_count_137 (by decide) ?_
                        refine lv_iload_n hx hb dX7_count_139 rfl (lv_at hl 1 rfl) ?_
                        refine n_iadd (i := 40) (j := 10) hx hb dX7_count_140 ?_
                        refine W.eq (g2 := F0 m 141 ls ([.int (nI 50), .ref (a 1)])) (by first | rfl | (simp only [F0]; congr 3; omega)) ?_
                        refine lv_bipush (v := (nI 7)) hx hb dX7_count_141 (by decide) ?_
                        refine n_isub (i := 50) (j := 7) hx hb (by decide) dX7_count_143 ?_
                        refine n_iald (f := M) (j := 43) hx hb hK hP 1 rfl (by decide) (by decide) dX7_count_144 ?_
                        exact end_I C0 hP hD hS () (by simp only [f_X7_count, if_neg c_1, if_neg c_2, if_neg c_3, if_neg c_4, if_neg c_5, if_neg c_6, if_neg c_8, if_neg c_9, if_neg c_10, if_neg c_11, if_pos c_12]) rfl dX7_count_145
                      · by_cases c_13 : p0 = nI 11
                        · refine lv_tableIn (tgt := 133) hx hb dX7_count_1 (by rw [c_13]; decide +kernel) (by rw [c_13]; decide +kernel) (by rw [c_13]; rfl) (by decide) ?_
                          have hl : lv_has ls 2 [(0, .ref (a 0)), (1, .int (nI 11))] := by rw [← c_13]; exact hl
                          refine lv_aload_n hx hb dX7_count_133 rfl (lv_at hl 0 rfl) ?_
                          refine va_get (D := G.1) (ci := 7) (v := .ref (a 1)) (C := RX7) (T := TX7) (N := 11) hx hb hts in_X7_count_RX7 hown hK.1 hP 0 rfl rfl 0 (by decide) (hts _ k_X7_count_f7) (fun _ h9 => h9) rfl dX7_count_134 ?_
                          refine lv_bipush (v := (nI 40)) hx hb dX7_count_137 (by decide) ?_
                          refine lv_iload_n hx hb dX7_count_139 rfl (lv_at hl 1 rfl) ?_
                          refine n_iadd (i := 40) (j := 11) hx hb dX7_count_140 ?_
                          refine W.eq (g2 := F0 m 141 ls ([.int (nI 51), .ref (a 1)])) (by first | rfl | (simp only [F0]; congr 3; omega)) ?_
                          refine lv_bipush (v := (nI 7)) hx hb dX7_count_141 (by decide) ?_
                          refine n_isub (i := 51) (j := 7) hx hb (by decide) dX7_count_143 ?_
                          refine n_iald (f := M) (j := 44) hx hb hK hP 1 rfl (by decide) (by decide) dX7_count_144 ?_
                          exact end_I C0 hP hD hS () (by simp only [f_X7_count, if_neg c_1, if_neg c_2, if_neg c_3, if_neg c_4, if_neg c_5, if_neg c_6, if_neg c_8, if_neg c_9, if_neg c_10, if_neg c_11, if_neg c_12, if_pos c_13]) rfl dX7_count_145
                        · by_cases c_14 : p0 = nI 12
                          · refine lv_tableIn (tgt := 146) hx hb dX7_count_1 (by rw [c_14]; decide +kernel) (by rw [c_14]; decide +kernel) (by rw [c_14]; rfl) (by decide) ?_
                            have hl : lv_has ls 2 [(0, .ref (a 0)), (1, .int (nI 12))] := by rw [← c_14]; exact hl
                            refine lv_aload_n hx hb dX7_count_146 rfl (lv_at hl 0 rfl) ?_
                            refine lv_iconst (v := (nI 0)) hx hb dX7_count_147 (by decide) ?_
                            refine gcall_I (run_V (As := [.int (nI 0)]) (rest := []) C0 hK hP hD (c_X7_pressure l G a g M T Y H.size 0 (by omega)) (cwV 1 hts gX7_count_X7_pressure rfl rfl rfl cd_X7_pressure ⟨Nat.le_of_ble_eq_true rfl, Nat.le_of_ble_eq_true rfl⟩) [0, 1, 2, 3] rfl rfl 0 (ci := 7) rfl rfl rfl rfl hl.1 rfl (Nat.le_of_ble_eq_true rfl) dX7_count_148 ⟨Nat.le_of_ble_eq_true rfl, Nat.le_of_ble_eq_true rfl⟩) hP hD hS hA [0, 1, 2, 3] rfl rfl (fun _ => rfl) (fun r_15 _ H locs hw_15 hP hD hS => ?_)
                            subst hw_15
                            have hP : va_P G.1 vwCl (MC G a g M T Y) H := hP
                            have hD : va_D A (MC G a g M T Y) := hD
                            exact end_I C0 hP hD hS () (by simp only [f_X7_count, if_neg c_1, if_neg c_2, if_neg c_3, if_neg c_4, if_neg c_5, if_neg c_6, if_neg c_8, if_neg c_9, if_neg c_10, if_neg c_11, if_neg c_12, if_neg c_13, if_pos c_14]) rfl dX7_count_151
                          · by_cases c_16 : p0 = nI 13
                            · refine lv_tableIn (tgt := 152) hx hb dX7_count_1 (by rw [c_16]; decide +kernel) (by rw [c_16]; decide +kernel) (by rw [c_16]; rfl) (by decide) ?_
                              have hl : lv_has ls 2 [(0, .ref (a 0)), (1, .int (nI 13))] := by rw [← c_16]; exact hl
                              refine lv_aload_n hx hb dX7_count_152 rfl (lv_at hl 0 rfl) ?_
                              refine va_get (D := G.1) (ci := 7) (v := .ref (a 1)) (C := RX7) (T := TX7) (N := 11) hx hb hts in_X7_count_RX7 hown hK.1 hP 0 rfl rfl 0 (by decide) (hts _ k_X7_count_f7) (fun _ h9 => h9) rfl dX7_count_153 ?_
                              refine lv_bipush (v := (nI 45)) hx hb dX7_count_156 (by decide) ?_
                              refine n_iald (f := M) (j := 45) hx hb hK hP 1 rfl (by decide) (by decide) dX7_count_158 ?_
                              exact end_I C0 hP hD hS () (by simp only [f_X7_count, if_neg c_1, if_neg c_2, if_neg c_3, if_neg c_4, if_neg c_5, if_neg c_6, if_neg c_8, if_neg c_9, if_neg c_10, if_neg c_11, if_neg c_12, if_neg c_13, if_neg c_14, if_pos c_16]) rfl dX7_count_159
                            · by_cases c_17 : p0 = nI 14
                              · refine lv_tableIn (tgt := 160) hx hb dX7_count_1 (by rw [c_17]; decide +kernel) (by rw [c_17]; decide +kernel) (by rw [c_17]; rfl) (by decide) ?_
                                have hl : lv_has ls 2 [(0, .ref (a 0)), (1, .int (nI 14))] := by rw [← c_17]; exact hl
                                refine lv_aload_n hx hb dX7_count_160 rfl (lv_at hl 0 rfl) ?_
                                refine va_get (D := G.1) (ci := 7) (v := .int (g 0)) (C := RX7) (T := TX7) (N := 11) hx hb hts in_X7_count_RX7 hown hK.1 hP 0 rfl rfl 1 (by decide) (hts _ k_X7_count_f24) (fun _ h9 => h9) rfl dX7_count_161 ?_
                                exact end_I C0 hP hD hS () (by simp only [f_X7_count, if_neg c_1, if_neg c_2, if_neg c_3, if_neg c_4, if_neg c_5, if_neg c_6, if_neg c_8, if_neg c_9, if_neg c_10, if_neg c_11, if_neg c_12, if_neg c_13, if_neg c_14, if_neg c_16, if_pos c_17]) rfl dX7_count_164
                              · by_cases c_18 : p0 = nI 15
                                · refine lv_tableIn (tgt := 165) hx hb dX7_count_1 (by rw [c_18]; decide +kernel) (by rw [c_18]; decide +kernel) (by rw [c_18]; rfl) (by decide) ?_
                                  have hl : lv_has ls 2 [(0, .ref (a 0)), (1, .int (nI 15))] := by rw [← c_18]; exact hl
                                  refine lv_aload_n hx hb dX7_count_165 rfl (lv_at hl 0 rfl) ?_
                                  refine va_get (D := G.1) (ci := 7) (v := .int (g 2)) (C := RX7) (T := TX7) (N := 11) hx hb hts in_X7_count_RX7 hown hK.1 hP 0 rfl rfl 4 (by decide) (hts _ k_X7_count_f114) (fun _ h9 => h9) rfl dX7_count_166 ?_
                                  exact end_I C0 hP hD hS () (by simp only [f_X7_count, if_neg c_1, if_neg c_2, if_neg c_3, if_neg c_4, if_neg c_5, if_neg c_6, if_neg c_8, if_neg c_9, if_neg c_10, if_neg c_11, if_neg c_12, if_neg c_13, if_neg c_14, if_neg c_16, if_neg c_17, if_pos c_18]) rfl dX7_count_169
                                · have z_c_1 := lv_neT c_1 (show (nI 0).toInt = 0 from by decide +kernel)
                                  have z_c_2 := lv_neT c_2 (show (nI 1).toInt = 1 from by decide +kernel)
                                  have z_c_3 := lv_neT c_3 (show (nI 2).toInt = 2 from by decide +kernel)
                                  have z_c_4 := lv_neT c_4 (show (nI 3).toInt = 3 from by decide +kernel)
                                  have z_c_5 := lv_neT c_5 (show (nI 4).toInt = 4 from by decide +kernel)
                                  have z_c_6 := lv_neT c_6 (show (nI 5).toInt = 5 from by decide +kernel)
                                  have z_c_8 := lv_neT c_8 (show (nI 6).toInt = 6 from by decide +kernel)
                                  have z_c_9 := lv_neT c_9 (show (nI 7).toInt = 7 from by decide +kernel)
                                  have z_c_10 := lv_neT c_10 (show (nI 8).toInt = 8 from by decide +kernel)
                                  have z_c_11 := lv_neT c_11 (show (nI 9).toInt = 9 from by decide +kernel)
                                  have z_c_12 := lv_neT c_12 (show (nI 10).toInt = 10 from by decide +kernel)
                                  have z_c_13 := lv_neT c_13 (show (nI 11).toInt = 11 from by decide +kernel)
                                  have z_c_14 := lv_neT c_14 (show (nI 12).toInt = 12 from by decide +kernel)
                                  have z_c_16 := lv_neT c_16 (show (nI 13).toInt = 13 from by decide +kernel)
                                  have z_c_17 := lv_neT c_17 (show (nI 14).toInt = 14 from by decide +kernel)
                                  have z_c_18 := lv_neT c_18 (show (nI 15).toInt = 15 from by decide +kernel)
                                  refine lv_tableOut (tgt := 170) hx hb dX7_count_1 (by omega) (by decide) ?_
                                  refine lv_bipush (v := (-2)) hx hb dX7_count_170 (by decide) ?_
                                  exact end_I C0 hP hD hS () (by simp only [f_X7_count, if_neg c_1, if_neg c_2, if_neg c_3, if_neg c_4, if_neg c_5, if_neg c_6, if_neg c_8, if_neg c_9, if_neg c_10, if_neg c_11, if_neg c_12, if_neg c_13, if_neg c_14, if_neg c_16, if_neg c_17, if_neg c_18]) rfl dX7_count_172
