def SlotOK (M : Nat → Int32) : Prop := ∃ v q, At M (46 * 6) v q ∧ IS v q
theorem does_keep {M Y M' : Nat → Int32} {i : Nat} {r : Int32} (h : SlotOK M) (hw : f_X7_does M Y i = (r, M')) : SlotOK M' := by
  obtain ⟨v, q, hA, hI⟩ := h
  have e : M' = (f_X7_does M Y i).2 := by rw [hw]
  rw [e]
  unfold f_X7_does
  by_cases c1 : Y (3 * i) = nI 102
  · rw [if_pos c1]
    have h := sets_at (x := 6) (p0 := Y (3 * i + 1)) (p1 := Y (3 * i + 2)) hA hI
    exact ⟨_, _, h.2.1, h.2.2.1⟩
  · rw [if_neg c1]
    by_cases c2 : Y (3 * i) = nI 108
    · rw [if_pos c2]
      have h := queues_at (x := 6) (p0 := Y (3 * i + 1)) hA hI
      exact ⟨_, _, h.2.1, h.2.2.1⟩
    · rw [if_neg c2]
      by_cases c3 : Y (3 * i) = nI 109
      · rw [if_pos c3]
        have h := starts_at (x := 6) (ov := v) (oq := q) (p0 := Y (3 * i + 1)) (p1 := Y (3 * i + 2)) (by omega) hA hI
        exact ⟨_, _, h.2.1, h.2.2.1⟩
      · rw [if_neg c3]
        by_cases c4 : Y (3 * i) = nI 119
        · rw [if_pos c4]
          have h := fills_at (x := 6) (p0 := Y (3 * i + 1)) (p1 := Y (3 * i + 2)) hA hI
          exact ⟨_, _, h.2.1, h.2.2.1⟩
        · rw [if_neg c4]
          have h := runs_at (x := 6) (ov := v) (oq := q) (p0 := Y (3 * i + 1)) (by omega) hA hI
          exact ⟨_, _, h.2.1, h.2.2.1⟩
theorem fault_neg {g T Y g' Y' : Nat → Int32} {r : Int32} {n : Nat} (h2 : g 2 = nI n) (hn : n ≤ 80) (hw : f_X7_fault g T Y = (r, g', Y')) (hr : r < 0) : g' 5 = nI (g' 5).toNatClampNeg ∧ (g' 5).toNatClampNeg ≤ 41 ∧ g' 0 = g 0 := by
  have h := fault_spec (T := T) (Y := Y) (tr := 0) (tg := 0) (tv := 0) h2 hn
  rw [hw] at h
  rcases h with ⟨q, r1, c, hq, -, g1, -⟩ | ⟨r1, hr1, -, -, g2, -⟩
  · exfalso
    have g1 : r = nI q := g1
    rw [g1] at hr
    exact nI_pos (by omega) hr
  · have g2 : g' = G3 g n (nI 1) (r1 + 1) := g2
    rw [g2]
    refine ⟨?_, ?_, rfl⟩
    · show nI (r1 + 1) = nI (nI (r1 + 1)).toNatClampNeg
      rw [nI_clamp (by omega)]
    · show (nI (r1 + 1)).toNatClampNeg ≤ 41
      rw [nI_clamp (by omega)]
      omega
theorem le_n80 {x : Int32} {n : Nat} (h2 : x = nI n) (hn : n ≤ 80) : x ≤ nI 80 := by
  rw [h2]
  exact (nI_leI (by omega) (by decide)).mpr hn

def s_X7_perform_23 (ns : Nat) : Nat → (Nat → Int32) → (Nat → Int32) → (Nat → Int32) → Nat → Int32 × (Nat → Int32) × (Nat → Int32) × (Nat → Int32)
  | 0, _, _, _, _ => (0, fun _ => 0, fun _ => 0, fun _ => 0)
  | n + 1, g_23, M_23, Y_23, i =>
    if (nI ((g_23 5).toNatClampNeg)) ≤ (nI i) then
      match f_X7_settles g_23 M_23 (g_23 5) ns with
      | (r_5, g_c5, M_c5) =>
        (r_5, g_c5, M_c5, Y_23)
    else
      match f_X7_does M_23 Y_23 i with
      | (r_6, M_c6) =>
        if 0 ≤ r_6 then
          s_X7_perform_23 ns n g_23 M_c6 Y_23 (i + 1)
        else
          if r_6 = (-5) then
            s_X7_perform_23 ns n g_23 M_c6 Y_23 (i + 1)
          else
            ((-4), (upd (upd g_23 6 (nI i)) 7 r_6), M_c6, Y_23)
def f_X7_perform (g : (Nat → Int32)) (M : (Nat → Int32)) (T : (Nat → Int32)) (Y : (Nat → Int32)) (ns : Nat) : Int32 × (Nat → Int32) × (Nat → Int32) × (Nat → Int32) :=
  match f_X7_fault g T Y with
  | (r_1, g_c1, Y_c1) =>
    if r_1 < 0 then
      s_X7_perform_23 ns 42 g_c1 (cpyM M 0 6 46) Y_c1 0
    else
      (((-100) - r_1), g_c1, M, Y_c1)
set_option maxRecDepth 20000 in
theorem k_X7_perform_f128 : Cond.fieldLink RX7 128 "SteamRationsModel" "commands" "I" ∈ wsX7_perform := by decide +kernel
set_option maxRecDepth 20000 in
theorem k_X7_perform_f140 : Cond.fieldLink RX7 140 "SteamRationsModel" "stoppedBy" "I" ∈ wsX7_perform := by decide +kernel
set_option maxRecDepth 20000 in
theorem k_X7_perform_f20 : Cond.fieldLink RX7 20 "SteamRationsModel" "stoppedAt" "I" ∈ wsX7_perform := by decide +kernel
set_option maxRecDepth 20000 in
theorem in_X7_perform_RX7 : ∀ w ∈ u_ws RX7 TX7 11, w ∈ wsX7_perform := by decide +kernel
theorem cd_X7_perform : yX7_perform.cls = RX7 ∧ yX7_perform.cls ≠ "java/lang/invoke/MethodHandle" ∧ yX7_perform.cls ≠ "java/lang/invoke/VarHandle" ∧ (parseMethodDescriptor yX7_perform.desc).map (fun d => d.parameters.length) = some 0 := by decide +kernel
set_option maxHeartbeats 4000000 in
set_option maxRecDepth 100000 in
theorem c_X7_perform (l : Launch) (G : GG) (a : Nat → Nat) (g : (Nat → Int32)) (M : (Nat → Int32)) (T : (Nat → Int32)) (Y : (Nat → Int32)) (sz : Nat) (ns : Nat) (ty : Nat) (v : (Nat → Int32)) (q : (Nat → Int32)) (hs : g 0 = nI ns) (hn : ns ≤ 4) (h2e : g 2 = nI ty) (hty : ty ≤ 80) (hAA : At M 0 v q) (hI : IS v q) : Met l yX7_perform wsX7_perform ({ frames := 8, cells := 0, slots := 0, locals := 190 }) (Pre G [.ref (a 0)] (MC G a g M T Y) sz) (PI G (va_A (MC G a g M T Y) sz) (fun r (u : (Nat → Int32) × (Nat → Int32) × (Nat → Int32)) => f_X7_perform g M T Y ns = (r, u)) (fun u : (Nat → Int32) × (Nat → Int32) × (Nat → Int32) => MC G a u.1 u.2.1 T u.2.2)) 0 0 (va_A (MC G a g M T Y) sz) := by
  refine Met.walk (cc := cX7_perform) (maxL := 4) (ret := (some .int)) (Qc := fun A => PI G A (fun r (u : (Nat → Int32) × (Nat → Int32) × (Nat → Int32)) => f_X7_perform g M T Y ns = (r, u)) (fun u : (Nat → Int32) × (Nat → Int32) × (Nat → Int32) => MC G a u.1 u.2.1 T u.2.2)) (by decide) rfl (Nat.le_of_ble_eq_true rfl) ?_
  intro p e s m below meth c A H C0 _ hK hsz hP hD hA hS ls hl
  have hx := C0.1
  have hb := C0.2.1
  have hown : s.vm.findClass RX7 = some m.cls := C0.2.2.2.2.1
  have hml := C0.2.2.2.1
  have hts : ∀ w ∈ wsX7_perform, w.before [.ref (a 0)].toArray s = true := C0.2.2.2.2.2.1
  have hl : lv_has ls 4 [(0, .ref (a 0))] := hl
  have h_X7_perform_23 : ∀ (n : Nat) (g_23 : (Nat → Int32)) (M_23 : (Nat → Int32)) (Y_23 : (Nat → Int32)) (i : Nat), (g_23 5).toNatClampNeg - i < n → (g_23 5 = nI (g_23 5).toNatClampNeg ∧ (g_23 5).toNatClampNeg ≤ 41) → (SlotOK M_23) → (i ≤ (g_23 5).toNatClampNeg) → (g_23 0 = nI ns) → f_X7_perform g M T Y ns = s_X7_perform_23 ns n g_23 M_23 Y_23 i → ∀ (H : Heap) (locs : List Loc) (ls : Array Slot), va_P G.1 vwCl (MC G a g_23 M_23 T Y_23) H → va_D A (MC G a g_23 M_23 T Y_23) → va_S A s.heap H locs → lv_has ls 4 [(2, .int (nI i)), (0, .ref (a 0))] → W p l e ({ frames := 8, cells := 0, slots := 0, locals := 190 }) s m ([.ref (a 0)] : List Value).toArray below meth c H locs 0 0 (MQ below (PI G A (fun r (u : (Nat → Int32) × (Nat → Int32) × (Nat → Int32)) => f_X7_perform g M T Y ns = (r, u)) (fun u : (Nat → Int32) × (Nat → Int32) × (Nat → Int32) => MC G a u.1 u.2.1 T u.2.2)) ([.ref (a 0)] : List Value).toArray s 0 0 A) (F0 m 23 ls []) := by
    intro n
    induction n with
    | zero =>
      intro g_23 M_23 Y_23 i hm
      exact absurd hm (Nat.not_lt_zero _)
    | succ n ih =>
      intro g_23 M_23 Y_23 i hm hCm hSl hi hns hE H locs ls hP hD hS hl
      refine lv_iload_n hx hb dX7_perform_23 rfl (lv_at hl 0 rfl) ?_
      refine lv_aload_n hx hb dX7_perform_24 rfl (lv_at hl 1 rfl) ?_
      refine va_get (D := G.1) (ci := 7) (v := .int (g_23 5)) (C := RX7) (T := TX7) (N := 11) hx hb hts in_X7_perform_RX7 hown hK.1 hP 0 rfl rfl 8 (by decide) (hts _ k_X7_perform_f128) (fun _ h9 => h9) rfl dX7_perform_25 ?_
      have ej_2 : (g_23 5) = nI ((g_23 5).toNatClampNeg) := hCm.1
      refine W.eq (g2 := F0 m 28 ls ([.int (nI ((g_23 5).toNatClampNeg)), .int (nI i)])) (by rw [← ej_2]) ?_
      refine lv_icmp_ge (tgt := 66) hx hb dX7_perform_28 (by decide) (fun c_4 => ?_) (fun c_4 => ?_)
      · have c_4n : ((g_23 5).toNatClampNeg) ≤ i := (nI_leI (by omega) (by omega)).mp c_4
        refine lv_aload_n hx hb dX7_perform_66 rfl (lv_at hl 1 rfl) ?_
        refine lv_aload_n hx hb dX7_perform_67 rfl (lv_at hl 1 rfl) ?_
        refine va_get (D := G.1) (ci := 7) (v := .int (g_23 5)) (C := RX7) (T := TX7) (N := 11) hx hb hts in_X7_perform_RX7 hown hK.1 hP 0 rfl rfl 8 (by decide) (hts _ k_X7_perform_f128) (fun _ h9 => h9) rfl dX7_perform_68 ?_
        refine gcall_I (run_V (As := [.int (g_23 5)]) (rest := []) C0 hK hP hD (c_X7_settles l G a g_23 M_23 T Y_23 H.size (g_23 5) ns hns hn) (cwV 1 hts gX7_perform_X7_settles rfl rfl rfl cd_X7_settles ⟨Nat.le_of_ble_eq_true rfl, Nat.le_of_ble_eq_true rfl⟩) [0, 1, 2, 3] rfl rfl 0 (ci := 7) rfl rfl rfl rfl hl.1 rfl (Nat.le_of_ble_eq_true rfl) dX7_perform_71 ⟨Nat.le_of_ble_eq_true rfl, Nat.le_of_ble_eq_true rfl⟩) hP hD hS hA [0, 1, 2, 3] rfl rfl (fun _ => rfl) (fun r_5 u_5 H locs hw_5 hP hD hS => ?_)
        obtain ⟨g_c5, M_c5⟩ := u_5
        have hP : va_P G.1 vwCl (MC G a g_c5 M_c5 T Y_23) H := hP
        have hD : va_D A (MC G a g_c5 M_c5 T Y_23) := hD
        exact end_I C0 hP hD hS (g_c5, M_c5, Y_23) (hE.trans (by simp only [s_X7_perform_23, if_pos c_4, hw_5])) rfl dX7_perform_74
      · have c_4n : ¬ (((g_23 5).toNatClampNeg) ≤ i) := fun z => c_4 ((nI_leI (by omega) (by omega)).mpr z)
        obtain ⟨v1, q1, hA1, hI1⟩ := hSl
        refine lv_aload_n hx hb dX7_perform_31 rfl (lv_at hl 1 rfl) ?_
        refine lv_iload_n hx hb dX7_perform_32 rfl (lv_at hl 0 rfl) ?_
        refine gcall_I (run_V (As := [.int (nI i)]) (rest := []) C0 hK hP hD (c_X7_does l G a g_23 M_23 T Y_23 H.size i v1 q1 (by omega) hA1 hI1.1) (cwV 1 hts gX7_perform_X7_does rfl rfl rfl cd_X7_does ⟨Nat.le_of_ble_eq_true rfl, Nat.le_of_ble_eq_true rfl⟩) [0, 1, 2, 3] rfl rfl 0 (ci := 7) rfl rfl rfl rfl hl.1 rfl (Nat.le_of_ble_eq_true rfl) dX7_perform_33 ⟨Nat.le_of_ble_eq_true rfl, Nat.le_of_ble_eq_true rfl⟩) hP hD hS hA [0, 1, 2, 3] rfl rfl (fun _ => rfl) (fun r_6 u_6 H locs hw_6 hP hD hS => ?_)
        obtain ⟨M_c6, rfl⟩ : ∃ z, z = u_6 := ⟨_, rfl⟩
        have hP : va_P G.1 vwCl (MC G a g_23 M_c6 T Y_23) H := hP
        have hD : va_D A (MC G a g_23 M_c6 T Y_23) := hD
        refine lv_istore_n (lv' := [(3, .int r_6), (2, .int (nI i)), (0, .ref (a 0))]) hx hb dX7_perform_36 rfl hl (by decide) rfl (fun ls hl => ?_)
        refine lv_iload_n hx hb dX7_perform_37 rfl (lv_at hl 0 rfl) ?_
        refine lv_if_ge (tgt := 60) hx hb dX7_perform_38 (by decide) (fun c_7 => ?_) (fun c_7 => ?_)
        · refine lv_iinc (v := (nI (i + 1))) (lv' := [(2, .int (nI (i + 1))), (3, .int r_6), (0, .ref (a 0))]) hx hb dX7_perform_60 hl (k := 1) rfl (inc1 i) (by decide) rfl (fun ls hl => ?_)
          refine lv_goto (tgt := 23) hx hb dX7_perform_63 (by decide) ?_
          exact ih g_23 M_c6 Y_23 (i + 1) (by omega) hCm (does_keep ⟨v1, q1, hA1, hI1⟩ hw_6) (by omega) hns (hE.trans (by simp only [s_X7_perform_23, if_neg c_4, hw_6, if_pos c_7])) _ _ _ hP hD hS (lv_sub hl [0, 2] rfl)
        · refine lv_iload_n hx hb dX7_perform_41 rfl (lv_at hl 0 rfl) ?_
          refine lv_bipush (v := (-5)) hx hb dX7_perform_42 (by decide) ?_
          refine lv_icmp_eq (tgt := 60) hx hb dX7_perform_44 (by decide) (fun c_8 => ?_) (fun c_8 => ?_)
          · refine lv_iinc (v := (nI (i + 1))) (lv' := [(2, .int (nI (i + 1))), (3, .int r_6), (0, .ref (a 0))]) hx hb dX7_perform_60 hl (k := 1) rfl (inc1 i) (by decide) rfl (fun ls hl => ?_)
            refine lv_goto (tgt := 23) hx hb dX7_perform_63 (by decide) ?_
            exact ih g_23 M_c6 Y_23 (i + 1) (by omega) hCm (does_keep ⟨v1, q1, hA1, hI1⟩ hw_6) (by omega) hns (hE.trans (by simp only [s_X7_perform_23, if_neg c_4, hw_6, if_neg c_7, if_pos c_8])) _ _ _ hP hD hS (lv_sub hl [0, 2] rfl)
          · refine lv_aload_n hx hb dX7_perform_47 rfl (lv_at hl 2 rfl) ?_
            refine lv_iload_n hx hb dX7_perform_48 rfl (lv_at hl 1 rfl) ?_
            refine va_put (D := G.1) (ci := 7) (v := .int (nI i)) (ty := .int) (C := RX7) (T := TX7) (N := 11) hx hb hts in_X7_perform_RX7 tyX7 tyX7_ok nmX7 hown hK.1 hP hD hS 0 rfl rfl 9 (by decide) (hts _ k_X7_perform_f20) (fun _ h9 => h9) rfl (by decide +kernel) rfl rfl (Nat.le_of_ble_eq_true rfl) dX7_perform_49 (fun H locs hP hD hS => ?_)
            have hP : va_P G.1 vwCl (MC G a (upd g_23 6 (nI i)) M_c6 T Y_23) H := hP
            have hD : va_D A (MC G a (upd g_23 6 (nI i)) M_c6 T Y_23) := hD
            refine lv_aload_n hx hb dX7_perform_52 rfl (lv_at hl 2 rfl) ?_
            refine lv_iload_n hx hb dX7_perform_53 rfl (lv_at hl 0 rfl) ?_
            refine va_put (D := G.1) (ci := 7) (v := .int r_6) (ty := .int) (C := RX7) (T := TX7) (N := 11) hx hb hts in_X7_perform_RX7 tyX7 tyX7_ok nmX7 hown hK.1 hP hD hS 0 rfl rfl 10 (by decide) (hts _ k_X7_perform_f140) (fun _ h9 => h9) rfl (by decide +kernel) rfl rfl (Nat.le_of_ble_eq_true rfl) dX7_perform_54 (fun H locs hP hD hS => ?_)
            have hP : va_P G.1 vwCl (MC G a (upd (upd g_23 6 (nI i)) 7 r_6) M_c6 T Y_23) H := hP
            have hD : va_D A (MC G a (upd (upd g_23 6 (nI i)) 7 r_6) M_c6 T Y_23) := hD
            refine lv_bipush (v := (-4)) hx hb dX7_perform_57 (by decide) ?_
            exact end_I C0 hP hD hS ((upd (upd g_23 6 (nI i)) 7 r_6), M_c6, Y_23) (hE.trans (by simp only [s_X7_perform_23, if_neg c_4, hw_6, if_neg c_7, if_neg c_8])) rfl dX7_perform_59
  refine lv_aload_n hx hb dX7_perform_0 rfl (lv_at hl 0 rfl) ?_
  refine gcall_I (run_V (As := []) (rest := []) C0 hK hP hD (c_X7_fault l G a g M T Y H.size  (le_n80 h2e hty)) (cwV 0 hts gX7_perform_X7_fault rfl rfl rfl cd_X7_fault ⟨Nat.le_of_ble_eq_true rfl, Nat.le_of_ble_eq_true rfl⟩) [0, 1, 2, 3] rfl rfl 0 (ci := 7) rfl rfl rfl rfl hl.1 rfl (Nat.le_of_ble_eq_true rfl) dX7_perform_1 ⟨Nat.le_of_ble_eq_true rfl, Nat.le_of_ble_eq_true rfl⟩) hP hD hS hA [0, 1, 2, 3] rfl rfl (fun _ => rfl) (fun r_1 u_1 H locs hw_1 hP hD hS => ?_)
  obtain ⟨g_c1, Y_c1⟩ := u_1
  have hP : va_P G.1 vwCl (MC G a g_c1 M T Y_c1) H := hP
  have hD : va_D A (MC G a g_c1 M T Y_c1) := hD
  refine lv_istore_n (lv' := [(1, .int r_1), (0, .ref (a 0))]) hx hb dX7_perform_4 rfl hl (by decide) rfl (fun ls hl => ?_)
  refine lv_iload_n hx hb dX7_perform_5 rfl (lv_at hl 0 rfl) ?_
  refine lv_if_lt (tgt := 14) hx hb dX7_perform_6 (by decide) (fun c_2 => ?_) (fun c_2 => ?_)
  · refine lv_aload_n hx hb dX7_perform_14 rfl (lv_at hl 1 rfl) ?_
    refine lv_iconst (v := (nI 0)) hx hb dX7_perform_15 (by decide) ?_
    refine lv_bipush (v := (nI 6)) hx hb dX7_perform_16 (by decide) ?_
    refine gcall_V (run_V (As := [.int (nI 0), .int (nI 6)]) (rest := []) C0 hK hP hD (c_X7_copies l G a g_c1 M T Y_c1 H.size 0 6 (by omega) (by omega) (by omega)) (cwV 2 hts gX7_perform_X7_copies rfl rfl rfl cd_X7_copies ⟨Nat.le_of_ble_eq_true rfl, Nat.le_of_ble_eq_true rfl⟩) [0, 1, 2, 3] rfl rfl 0 (ci := 7) rfl rfl rfl rfl hl.1 rfl (Nat.le_of_ble_eq_true rfl) dX7_perform_18 ⟨Nat.le_of_ble_eq_true rfl, Nat.le_of_ble_eq_true rfl⟩) hP hD hS hA [0, 1, 2, 3] rfl rfl (fun _ => rfl) (fun u_3 H locs hw_3 hP hD hS => ?_)
    obtain ⟨M_c3, rfl⟩ : ∃ z, z = u_3 := ⟨_, rfl⟩
    simp only [f_X7_copies, Prod.mk.injEq] at hw_3
    obtain rfl := hw_3
    have hP : va_P G.1 vwCl (MC G a g_c1 (cpyM M 0 6 46) T Y_c1) H := hP
    have hD : va_D A (MC G a g_c1 (cpyM M 0 6 46) T Y_c1) := hD
    refine lv_iconst (v := (nI 0)) hx hb dX7_perform_21 (by decide) ?_
    refine lv_istore_n (lv' := [(2, .int (nI 0)), (1, .int r_1), (0, .ref (a 0))]) hx hb dX7_perform_22 rfl hl (by decide) rfl (fun ls hl => ?_)
    exact h_X7_perform_23 42 g_c1 (cpyM M 0 6 46) Y_c1 0 (by have z := (fault_neg h2e hty hw_1 c_2).2.1; omega) ⟨(fault_neg h2e hty hw_1 c_2).1, (fault_neg h2e hty hw_1 c_2).2.1⟩ ⟨v, q, hAA.cpy06, hI⟩ (Nat.zero_le _) ((fault_neg h2e hty hw_1 c_2).2.2.trans hs) (by simp only [f_X7_perform, hw_1, if_pos c_2]) _ _ _ hP hD hS (lv_sub hl [0, 2] rfl)
  · refine lv_bipush (v := (-100)) hx hb dX7_perform_9 (by decide) ?_
    refine lv_iload_n hx hb dX7_perform_11 rfl (lv_at hl 0 rfl) ?_
    refine lv_isub hx hb dX7_perform_12 ?_
    exact end_I C0 hP hD hS (g_c1, M, Y_c1) (by simp only [f_X7_perform, hw_1, if_neg c_2]) rfl dX7_perform_13
