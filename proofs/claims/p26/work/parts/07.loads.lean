def s_X2_reasonAgainst_50 (p0 : Int32) : Nat → (Nat → Int32) → (Nat → Int32) → Nat → Int32 × (Nat → Int32) × (Nat → Int32)
  | 0, _, _, _ => (0, fun _ => 0, fun _ => 0)
  | n + 1, ov_50, oq_50, i =>
    if (f_X6_ticksOf p0) ≤ (nI i) then
      ((nI 0), ov_50, oq_50)
    else
      match f_X2_workTick ov_50 with
      | (r_11, v_c11) =>
        if r_11 = 0 then
          s_X2_reasonAgainst_50 p0 n v_c11 oq_50 (i + 1)
        else
          ((nI 3), v_c11, oq_50)
def f_X2_reasonAgainst (v : (Nat → Int32)) (q : (Nat → Int32)) (ov : (Nat → Int32)) (oq : (Nat → Int32)) (p0 : Int32) : Int32 × (Nat → Int32) × (Nat → Int32) :=
  if f_X2_lowestEmptyMachine (fun j => j) v = none then
    ((nI 1), ov, oq)
  else
    if (nI 10) ≤ (f_X2_allPressure v) then
      if (v 13) = (-5) then
        s_X2_reasonAgainst_50 p0 ((f_X6_ticksOf p0).toNatClampNeg + 1) (upd (upd (upd v 13 p0) 17 (f_X6_ticksOf p0)) 21 (nI 0)) q 0
      else
        if (v 14) = (-5) then
          s_X2_reasonAgainst_50 p0 ((f_X6_ticksOf p0).toNatClampNeg + 1) (upd (upd (upd v 14 p0) 18 (f_X6_ticksOf p0)) 22 (nI 0)) q 0
        else
          if (v 15) = (-5) then
            s_X2_reasonAgainst_50 p0 ((f_X6_ticksOf p0).toNatClampNeg + 1) (upd (upd (upd v 15 p0) 19 (f_X6_ticksOf p0)) 23 (nI 0)) q 0
          else
            if (v 16) = (-5) then
              s_X2_reasonAgainst_50 p0 ((f_X6_ticksOf p0).toNatClampNeg + 1) (upd (upd (upd v 16 p0) 20 (f_X6_ticksOf p0)) 24 (nI 0)) q 0
            else
              ((nI 1), v, q)
    else
      ((nI 2), ov, oq)
theorem cd_X2_reasonAgainst : yX2_reasonAgainst.cls = RX2 ∧ yX2_reasonAgainst.cls ≠ "java/lang/invoke/MethodHandle" ∧ yX2_reasonAgainst.cls ≠ "java/lang/invoke/VarHandle" ∧ (parseMethodDescriptor yX2_reasonAgainst.desc).map (fun d => d.parameters.length) = some 2 := by decide +kernel
set_option maxHeartbeats 4000000 in
set_option maxRecDepth 100000 in
theorem c_X2_reasonAgainst (l : Launch) (G : GG) (a : Nat → Nat) (b : Nat → Nat) (v : (Nat → Int32)) (q : (Nat → Int32)) (ov : (Nat → Int32)) (oq : (Nat → Int32)) (sz : Nat) (p0 : Int32)  : Met l yX2_reasonAgainst wsX2_reasonAgainst ({ frames := 3, cells := 0, slots := 0, locals := 87 }) (Pre G [.ref (a 0), .int p0, .ref (b 0)] (LC G a v q ++ LC G b ov oq) sz) (PI G (va_A (LC G a v q ++ LC G b ov oq) sz) (fun r (u : (Nat → Int32) × (Nat → Int32)) => f_X2_reasonAgainst v q ov oq p0 = (r, u)) (fun u : (Nat → Int32) × (Nat → Int32) => LC G a v q ++ LC G b u.1 u.2)) 0 0 (va_A (LC G a v q ++ LC G b ov oq) sz) := by
  refine Met.walk (cc := cX2_reasonAgainst) (maxL := 6) (ret := (some .int)) (Qc := fun A => PI G A (fun r (u : (Nat → Int32) × (Nat → Int32)) => f_X2_reasonAgainst v q ov oq p0 = (r, u)) (fun u : (Nat → Int32) × (Nat → Int32) => LC G a v q ++ LC G b u.1 u.2)) (by decide) rfl (Nat.le_of_ble_eq_true rfl) ?_
  intro p e s m below meth c A H C0 _ hK hsz hP hD hA hS ls hl
  have hx := C0.1
  have hb := C0.2.1
  have hown : s.vm.findClass RX2 = some m.cls := C0.2.2.2.2.1
  have hml := C0.2.2.2.1
  have hts : ∀ w ∈ wsX2_reasonAgainst, w.before [.ref (a 0), .int p0, .ref (b 0)].toArray s = true := C0.2.2.2.2.2.1
  have hl : lv_has ls 6 [(0, .ref (a 0)), (1, .int p0), (2, .ref (b 0))] := hl
  have hN := natBig (f_X6_ticksOf p0)
  have h_X2_reasonAgainst_50 : ∀ (n : Nat) (ov_50 : (Nat → Int32)) (oq_50 : (Nat → Int32)) (i : Nat), (f_X6_ticksOf p0).toNatClampNeg - i < n → (i ≤ (f_X6_ticksOf p0).toNatClampNeg) → f_X2_reasonAgainst v q ov oq p0 = s_X2_reasonAgainst_50 p0 n ov_50 oq_50 i → ∀ (H : Heap) (locs : List Loc) (ls : Array Slot), va_P G.1 vwCl (LC G a v q ++ LC G b ov_50 oq_50) H → va_D A (LC G a v q ++ LC G b ov_50 oq_50) → va_S A s.heap H locs → lv_has ls 6 [(5, .int (nI i)), (4, .int (f_X6_ticksOf p0)), (2, .ref (b 0))] → W p l e ({ frames := 3, cells := 0, slots := 0, locals := 87 }) s m ([.ref (a 0), .int p0, .ref (b 0)] : List Value).toArray below meth c H locs 0 0 (MQ below (PI G A (fun r (u : (Nat → Int32) × (Nat → Int32)) => f_X2_reasonAgainst v q ov oq p0 = (r, u)) (fun u : (Nat → Int32) × (Nat → Int32) => LC G a v q ++ LC G b u.1 u.2)) ([.ref (a 0), .int p0, .ref (b 0)] : List Value).toArray s 0 0 A) (F0 m 50 ls []) := by
    intro n
    induction n with
    | zero =>
      intro ov_50 oq_50 i hm
      exact absurd hm (Nat.not_lt_zero _)
    | succ n ih =>
      intro ov_50 oq_50 i hm hi hE H locs ls hP hD hS hl
      refine lv_iload hx hb dX2_reasonAgainst_50 (lv_at hl 0 rfl) ?_
      refine lv_iload hx hb dX2_reasonAgainst_52 (lv_at hl 1 rfl) ?_
      refine lv_icmp_ge (tgt := 72) hx hb dX2_reasonAgainst_54 (by decide) (fun c_10 => ?_) (fun c_10 => ?_)
      · refine lv_iconst (v := (nI 0)) hx hb dX2_reasonAgainst_72 (by decide) ?_
        exact end_I C0 hP hD hS (ov_50, oq_50) (hE.trans (by simp only [s_X2_reasonAgainst_50, if_pos c_10])) rfl dX2_reasonAgainst_73
      · have c_10g : i < (f_X6_ticksOf p0).toNatClampNeg := ltNat c_10 (by omega)
        refine lv_aload_n hx hb dX2_reasonAgainst_57 rfl (lv_at hl 2 rfl) ?_
        have hW : BW G A [LC G a v q, LC G b ov_50 oq_50] H := BW.of hP hD
        refine gcallB_I (bc := [LC G b ov_50 oq_50]) (runB_V (As := []) (rest := []) (bc := [LC G b ov_50 oq_50]) C0 hK hW (c_X2_workTick l G b ov_50 oq_50 H.size ) (cwV 0 hts gX2_reasonAgainst_X2_workTick rfl rfl rfl cd_X2_workTick ⟨Nat.le_of_ble_eq_true rfl, Nat.le_of_ble_eq_true rfl⟩) [1] rfl rfl rfl 1 0 rfl (ci := 2) rfl rfl rfl rfl hl.1 rfl (Nat.le_of_ble_eq_true rfl) dX2_reasonAgainst_58 ⟨Nat.le_of_ble_eq_true rfl, Nat.le_of_ble_eq_true rfl⟩) hW hS hA [1] rfl rfl rfl (fun u => [LC G b u oq_50]) (fun _ => rfl) (fun _ => rfl) (fun r_11 u_11 H locs hw_11 hW hS => ?_)
        obtain ⟨hP, hD⟩ := hW.flat
        obtain ⟨v_c11, rfl⟩ : ∃ z, z = u_11 := ⟨_, rfl⟩
        have hz_r_11 := hw_11.2
        have hw_11 := hw_11.1
        have hP : va_P G.1 vwCl (LC G a v q ++ LC G b v_c11 oq_50) H := hP
        have hD : va_D A (LC G a v q ++ LC G b v_c11 oq_50) := hD
        refine lv_if_eq (tgt := 66) hx hb dX2_reasonAgainst_61 (by decide) (fun c_12 => ?_) (fun c_12 => ?_)
        · refine lv_iinc (v := (nI (i + 1))) (lv' := [(5, .int (nI (i + 1))), (4, .int (f_X6_ticksOf p0)), (2, .ref (b 0))]) hx hb dX2_reasonAgainst_66 hl (k := 0) rfl (inc1 i) (by decide) rfl (fun ls hl => ?_)
          refine lv_goto (tgt := 50) hx hb dX2_reasonAgainst_69 (by decide) ?_
          exact ih v_c11 oq_50 (i + 1) (by omega) (by omega) (hE.trans (by simp only [s_X2_reasonAgainst_50, if_neg c_10, hw_11, if_pos c_12])) _ _ _ hP hD hS (lv_sub hl [0, 1, 2] rfl)
        · refine lv_iconst (v := (nI 3)) hx hb dX2_reasonAgainst_64 (by decide) ?_
          exact end_I C0 hP hD hS (v_c11, oq_50) (hE.trans (by simp only [s_X2_reasonAgainst_50, if_neg c_10, hw_11, if_neg c_12])) rfl dX2_reasonAgainst_65
  refine lv_aload_n hx hb dX2_reasonAgainst_0 rfl (lv_at hl 0 rfl) ?_
  have hW : BW G A [LC G a v q, LC G b ov oq] H := BW.of hP hD
  refine gcallB_Q (bc := [LC G a v q]) (runB_V (As := []) (rest := []) (bc := [LC G a v q]) C0 hK hW (c_X2_lowestEmptyMachine l G a v q H.size ) (cwV 0 hts gX2_reasonAgainst_X2_lowestEmptyMachine rfl rfl rfl cd_X2_lowestEmptyMachine ⟨Nat.le_of_ble_eq_true rfl, Nat.le_of_ble_eq_true rfl⟩) [0] rfl rfl rfl 0 0 rfl (ci := 2) rfl rfl rfl rfl hl.1 rfl (Nat.le_of_ble_eq_true rfl) dX2_reasonAgainst_1 ⟨Nat.le_of_ble_eq_true rfl, Nat.le_of_ble_eq_true rfl⟩) hW hS hA [0] rfl rfl rfl (fun _ => [LC G a v q]) (fun _ => rfl) (fun _ => rfl) (fun r_1 _ H locs hw_1 hW hS => ?_)
  obtain ⟨hP, hD⟩ := hW.flat
  subst hw_1
  have hP : va_P G.1 vwCl (LC G a v q ++ LC G b ov oq) H := hP
  have hD : va_D A (LC G a v q ++ LC G b ov oq) := hD
  by_cases c_2 : f_X2_lowestEmptyMachine (fun j => j) v = none
  · rw [f_X2_lowestEmptyMachine_any c_2]
    refine W.eq (g2 := F0 m 4 ls ([.null])) rfl ?_
    refine lv_ifnonnullN hx hb dX2_reasonAgainst_4 ?_
    refine lv_iconst (v := (nI 1)) hx hb dX2_reasonAgainst_7 (by decide) ?_
    exact end_I C0 hP hD hS (ov, oq) (by simp only [f_X2_reasonAgainst, if_pos c_2]) rfl dX2_reasonAgainst_8
  · obtain ⟨y_2, hy_2⟩ := Option.ne_none_iff_exists'.mp (fun z : f_X2_lowestEmptyMachine a v = none => c_2 (f_X2_lowestEmptyMachine_any z))
    rw [hy_2]
    refine W.eq (g2 := F0 m 4 ls ([.ref y_2])) rfl ?_
    refine lv_ifnonnull (tgt := 9) hx hb dX2_reasonAgainst_4 (by decide) ?_
    refine lv_aload_n hx hb dX2_reasonAgainst_9 rfl (lv_at hl 0 rfl) ?_
    have hW : BW G A [LC G a v q, LC G b ov oq] H := BW.of hP hD
    refine gcallB_I (bc := [LC G a v q]) (runB_V (As := []) (rest := []) (bc := [LC G a v q]) C0 hK hW (c_X2_allPressure l G a v q H.size ) (cwV 0 hts gX2_reasonAgainst_X2_allPressure rfl rfl rfl cd_X2_allPressure ⟨Nat.le_of_ble_eq_true rfl, Nat.le_of_ble_eq_true rfl⟩) [0] rfl rfl rfl 0 0 rfl (ci := 2) rfl rfl rfl rfl hl.1 rfl (Nat.le_of_ble_eq_true rfl) dX2_reasonAgainst_10 ⟨Nat.le_of_ble_eq_true rfl, Nat.le_of_ble_eq_true rfl⟩) hW hS hA [0] rfl rfl rfl (fun _ => [LC G a v q]) (fun _ => rfl) (fun _ => rfl) (fun r_3 _ H locs hw_3 hW hS => ?_)
    obtain ⟨hP, hD⟩ := hW.flat
    subst hw_3
    have hP : va_P G.1 vwCl (LC G a v q ++ LC G b ov oq) H := hP
    have hD : va_D A (LC G a v q ++ LC G b ov oq) := hD
    refine lv_bipush (v := (nI 10)) hx hb dX2_reasonAgainst_13 (by decide) ?_
    refine lv_icmp_ge (tgt := 20) hx hb dX2_reasonAgainst_15 (by decide) (fun c_4 => ?_) (fun c_4 => ?_)
    · refine lv_aload_n hx hb dX2_reasonAgainst_20 rfl (lv_at hl 2 rfl) ?_
      refine lv_aload_n hx hb dX2_reasonAgainst_21 rfl (lv_at hl 0 rfl) ?_
      have hW : BW G A [LC G a v q, LC G b ov oq] H := BW.of hP hD
      refine gcallB_V (bc := [LC G b ov oq, LC G a v q]) (runB_V (As := [.ref (a 0)]) (rest := []) (bc := [LC G b ov oq, LC G a v q]) C0 hK hW (c_X2_copyFrom l G b a ov oq v q H.size ) (cwV 1 hts gX2_reasonAgainst_X2_copyFrom rfl rfl rfl cd_X2_copyFrom ⟨Nat.le_of_ble_eq_true rfl, Nat.le_of_ble_eq_true rfl⟩) [1, 0] rfl rfl rfl 1 0 rfl (ci := 2) rfl rfl rfl rfl hl.1 rfl (Nat.le_of_ble_eq_true rfl) dX2_reasonAgainst_22 ⟨Nat.le_of_ble_eq_true rfl, Nat.le_of_ble_eq_true rfl⟩) hW hS hA [1, 0] rfl rfl rfl (fun u => [LC G b u.1 u.2, LC G a v q]) (fun _ => rfl) (fun _ => rfl) (fun u_5 H locs hw_5 hW hS => ?_)
      obtain ⟨hP, hD⟩ := hW.flat
      obtain ⟨v_c5, q_c5⟩ := u_5
      simp only [f_X2_copyFrom, Prod.mk.injEq] at hw_5
      obtain ⟨rfl, rfl⟩ := hw_5
      have hP : va_P G.1 vwCl (LC G a v q ++ LC G b v q) H := hP
      have hD : va_D A (LC G a v q ++ LC G b v q) := hD
      refine lv_aload_n hx hb dX2_reasonAgainst_25 rfl (lv_at hl 2 rfl) ?_
      have hW : BW G A [LC G a v q, LC G b v q] H := BW.of hP hD
      refine gcallB_Q (bc := [LC G b v q]) (runB_V (As := []) (rest := []) (bc := [LC G b v q]) C0 hK hW (c_X2_lowestEmptyMachine l G b v q H.size ) (cwV 0 hts gX2_reasonAgainst_X2_lowestEmptyMachine rfl rfl rfl cd_X2_lowestEmptyMachine ⟨Nat.le_of_ble_eq_true rfl, Nat.le_of_ble_eq_true rfl⟩) [1] rfl rfl rfl 1 0 rfl (ci := 2) rfl rfl rfl rfl hl.1 rfl (Nat.le_of_ble_eq_true rfl) dX2_reasonAgainst_26 ⟨Nat.le_of_ble_eq_true rfl, Nat.le_of_ble_eq_true rfl⟩) hW hS hA [1] rfl rfl rfl (fun _ => [LC G b v q]) (fun _ => rfl) (fun _ => rfl) (fun r_6 _ H locs hw_6 hW hS => ?_)
      obtain ⟨hP, hD⟩ := hW.flat
      subst hw_6
      have hP : va_P G.1 vwCl (LC G a v q ++ LC G b v q) H := hP
      have hD : va_D A (LC G a v q ++ LC G b v q) := hD
      by_cases c_7 : (v 13) = (-5)
      · rw [show f_X2_lowestEmptyMachine b v = some (b 5) from by (simp only [f_X2_lowestEmptyMachine, f_X3_isEmpty, if_pos c_7, low0, low1, if_true, if_false])]
        refine W.eq (g2 := F0 m 29 ls ([.ref (b 5)])) rfl ?_
        refine lv_astore_n (lv' := [(3, .ref (b 5)), (0, .ref (a 0)), (1, .int p0), (2, .ref (b 0))]) hx hb dX2_reasonAgainst_29 rfl hl (by decide) rfl (fun ls hl => ?_)
        refine lv_aload_n hx hb dX2_reasonAgainst_30 rfl (lv_at hl 0 rfl) ?_
        refine lv_ifnonnull (tgt := 36) hx hb dX2_reasonAgainst_31 (by decide) ?_
        refine lv_aload_n hx hb dX2_reasonAgainst_36 rfl (lv_at hl 0 rfl) ?_
        refine lv_iload_n hx hb dX2_reasonAgainst_37 rfl (lv_at hl 2 rfl) ?_
        refine gcall_V (run_V (As := [.int p0]) (rest := []) C0 hK hP hD (c_X3_put l G (b 5) (v 13) (v 17) (v 21) H.size p0) (cwV 1 hts gX2_reasonAgainst_X3_put rfl rfl rfl cd_X3_put ⟨Nat.le_of_ble_eq_true rfl, Nat.le_of_ble_eq_true rfl⟩) [16] rfl rfl 16 (ci := 3) rfl rfl rfl rfl hl.1 rfl (Nat.le_of_ble_eq_true rfl) dX2_reasonAgainst_38 ⟨Nat.le_of_ble_eq_true rfl, Nat.le_of_ble_eq_true rfl⟩) hP hD hS hA [16] rfl rfl (fun _ => rfl) (fun u_8 H locs hw_8 hP hD hS => ?_)
        obtain ⟨mk_c8, mt_c8, mw_c8⟩ := u_8
        simp only [f_X3_put, Prod.mk.injEq] at hw_8
        obtain ⟨rfl, rfl, rfl⟩ := hw_8
        have hP : va_P G.1 vwCl (LC G a v q ++ LC G b (upd (upd (upd v 13 p0) 17 (f_X6_ticksOf p0)) 21 (nI 0)) q) H := hP
        have hD : va_D A (LC G a v q ++ LC G b (upd (upd (upd v 13 p0) 17 (f_X6_ticksOf p0)) 21 (nI 0)) q) := hD
        refine lv_iload_n hx hb dX2_reasonAgainst_41 rfl (lv_at hl 2 rfl) ?_
        refine gcall_I (run_SN (As := [.int p0]) (rest := []) C0 hK hP hD (c_X6_ticksOf l G   H.size p0) (va_cnB 1 hts gX2_reasonAgainst_X6_ticksOf_n155 rfl rfl rfl hK.2.2.2.1 (hts _ (by decide +kernel)) cd2_X6_ticksOf ⟨Nat.le_of_ble_eq_true rfl, Nat.le_of_ble_eq_true rfl⟩) (hts _ (by decide +kernel)) [] rfl rfl rfl hl.1 rfl (Nat.le_of_ble_eq_true rfl) dX2_reasonAgainst_42 ⟨Nat.le_of_ble_eq_true rfl, Nat.le_of_ble_eq_true rfl⟩) hP hD hS hA [] rfl rfl (fun _ => rfl) (fun r_9 _ H locs hw_9 hP hD hS => ?_)
        subst hw_9
        have hP : va_P G.1 vwCl (LC G a v q ++ LC G b (upd (upd (upd v 13 p0) 17 (f_X6_ticksOf p0)) 21 (nI 0)) q) H := hP
        have hD : va_D A (LC G a v q ++ LC G b (upd (upd (upd v 13 p0) 17 (f_X6_ticksOf p0)) 21 (nI 0)) q) := hD
        refine lv_istore (lv' := [(4, .int (f_X6_ticksOf p0)), (3, .ref (b 5)), (0, .ref (a 0)), (1, .int p0), (2, .ref (b 0))]) hx hb dX2_reasonAgainst_45 hl (by decide) rfl (fun ls hl => ?_)
        refine lv_iconst (v := (nI 0)) hx hb dX2_reasonAgainst_47 (by decide) ?_
        refine lv_istore (lv' := [(5, .int (nI 0)), (4, .int (f_X6_ticksOf p0)), (3, .ref (b 5)), (0, .ref (a 0)), (1, .int p0), (2, .ref (b 0))]) hx hb dX2_reasonAgainst_48 hl (by decide) rfl (fun ls hl => ?_)
        exact h_X2_reasonAgainst_50 ((f_X6_ticksOf p0).toNatClampNeg + 1) (upd (upd (upd v 13 p0) 17 (f_X6_ticksOf p0)) 21 (nI 0)) q 0 (by omega) (by omega) (by simp only [f_X2_reasonAgainst, if_neg c_2, if_pos c_4, if_pos c_7]) _ _ _ hP hD hS (lv_sub hl [0, 1, 5] rfl)
      · by_cases c_13 : (v 14) = (-5)
        · rw [show f_X2_lowestEmptyMachine b v = some (b 6) from by (simp only [f_X2_lowestEmptyMachine, f_X3_isEmpty, if_neg c_7, if_pos c_13, low0, low1, if_true, if_false])]
          refine W.eq (g2 := F0 m 29 ls ([.ref (b 6)])) rfl ?_
          refine lv_astore_n (lv' := [(3, .ref (b 6)), (0, .ref (a 0)), (1, .int p0), (2, .ref (b 0))]) hx hb dX2_reasonAgainst_29 rfl hl (by decide) rfl (fun ls hl => ?_)
          refine lv_aload_n hx hb dX2_reasonAgainst_30 rfl (lv_at hl 0 rfl) ?_
          refine lv_ifnonnull (tgt := 36) hx hb dX2_reasonAgainst_31 (by decide) ?_
          refine lv_aload_n hx hb dX2_reasonAgainst_36 rfl (lv_at hl 0 rfl) ?_
          refine lv_iload_n hx hb dX2_reasonAgainst_37 rfl (lv_at hl 2 rfl) ?_
          refine gcall_V (run_V (As := [.int p0]) (rest := []) C0 hK hP hD (c_X3_put l G (b 6) (v 14) (v 18) (v 22) H.size p0) (cwV 1 hts gX2_reasonAgainst_X3_put rfl rfl rfl cd_X3_put ⟨Nat.le_of_ble_eq_true rfl, Nat.le_of_ble_eq_true rfl⟩) [17] rfl rfl 17 (ci := 3) rfl rfl rfl rfl hl.1 rfl (Nat.le_of_ble_eq_true rfl) dX2_reasonAgainst_38 ⟨Nat.le_of_ble_eq_true rfl, Nat.le_of_ble_eq_true rfl⟩) hP hD hS hA [17] rfl rfl (fun _ => rfl) (fun u_14 H locs hw_14 hP hD hS => ?_)
          obtain ⟨mk_c14, mt_c14, mw_c14⟩ := u_14
          simp only [f_X3_put, Prod.mk.injEq] at hw_14
          obtain ⟨rfl, rfl, rfl⟩ := hw_14
          have hP : va_P G.1 vwCl (LC G a v q ++ LC G b (upd (upd (upd v 14 p0) 18 (f_X6_ticksOf p0)) 22 (nI 0)) q) H := hP
          have hD : va_D A (LC G a v q ++ LC G b (upd (upd (upd v 14 p0) 18 (f_X6_ticksOf p0)) 22 (nI 0)) q) := hD
          refine lv_iload_n hx hb dX2_reasonAgainst_41 rfl (lv_at hl 2 rfl) ?_
          refine gcall_I (run_SN (As := [.int p0]) (rest := []) C0 hK hP hD (c_X6_ticksOf l G   H.size p0) (va_cnB 1 hts gX2_reasonAgainst_X6_ticksOf_n155 rfl rfl rfl hK.2.2.2.1 (hts _ (by decide +kernel)) cd2_X6_ticksOf ⟨Nat.le_of_ble_eq_true rfl, Nat.le_of_ble_eq_true rfl⟩) (hts _ (by decide +kernel)) [] rfl rfl rfl hl.1 rfl (Nat.le_of_ble_eq_true rfl) dX2_reasonAgainst_42 ⟨Nat.le_of_ble_eq_true rfl, Nat.le_of_ble_eq_true rfl⟩) hP hD hS hA [] rfl rfl (fun _ => rfl) (fun r_15 _ H locs hw_15 hP hD hS => ?_)
          subst hw_15
          have hP : va_P G.1 vwCl (LC G a v q ++ LC G b (upd (upd (upd v 14 p0) 18 (f_X6_ticksOf p0)) 22 (nI 0)) q) H := hP
          have hD : va_D A (LC G a v q ++ LC G b (upd (upd (upd v 14 p0) 18 (f_X6_ticksOf p0)) 22 (nI 0)) q) := hD
          refine lv_istore (lv' := [(4, .int (f_X6_ticksOf p0)), (3, .ref (b 6)), (0, .ref (a 0)), (1, .int p0), (2, .ref (b 0))]) hx hb dX2_reasonAgainst_45 hl (by decide) rfl (fun ls hl => ?_)
          refine lv_iconst (v := (nI 0)) hx hb dX2_reasonAgainst_47 (by decide) ?_
          refine lv_istore (lv' := [(5, .int (nI 0)), (4, .int (f_X6_ticksOf p0)), (3, .ref (b 6)), (0, .ref (a 0)), (1, .int p0), (2, .ref (b 0))]) hx hb dX2_reasonAgainst_48 hl (by decide) rfl (fun ls hl => ?_)
          exact h_X2_reasonAgainst_50 ((f_X6_ticksOf p0).toNatClampNeg + 1) (upd (upd (upd v 14 p0) 18 (f_X6_ticksOf p0)) 22 (nI 0)) q 0 (by omega) (by omega) (by simp only [f_X2_reasonAgainst, if_neg c_2, if_pos c_4, if_neg c_7, if_pos c_13]) _ _ _ hP hD hS (lv_sub hl [0, 1, 5] rfl)
        · by_cases c_16 : (v 15) = (-5)
          · rw [show f_X2_lowestEmptyMachine b v = some (b 7) from by (simp only [f_X2_lowestEmptyMachine, f_X3_isEmpty, if_neg c_7, if_neg c_13, if_pos c_16, low0, low1, if_true, if_false])]
            refine W.eq (g2 := F0 m 29 ls ([.ref (b 7)])) rfl ?_
            refine lv_astore_n (lv' := [(3, .ref (b 7)), (0, .ref (a 0)), (1, .int p0), (2, .ref (b 0))]) hx hb dX2_reasonAgainst_29 rfl hl (by decide) rfl (fun ls hl => ?_)
            refine lv_aload_n hx hb dX2_reasonAgainst_30 rfl (lv_at hl 0 rfl) ?_
            refine lv_ifnonnull (tgt := 36) hx hb dX2_reasonAgainst_31 (by decide) ?_
            refine lv_aload_n hx hb dX2_reasonAgainst_36 rfl (lv_at hl 0 rfl) ?_
            refine lv_iload_n hx hb dX2_reasonAgainst_37 rfl (lv_at hl 2 rfl) ?_
            refine gcall_V (run_V (As := [.int p0]) (rest := []) C0 hK hP hD (c_X3_put l G (b 7) (v 15) (v 19) (v 23) H.size p0) (cwV 1 hts gX2_reasonAgainst_X3_put rfl rfl rfl cd_X3_put ⟨Nat.le_of_ble_eq_true rfl, Nat.le_of_ble_eq_true rfl⟩) [18] rfl rfl 18 (ci := 3) rfl rfl rfl rfl hl.1 rfl (Nat.le_of_ble_eq_true rfl) dX2_reasonAgainst_38 ⟨Nat.le_of_ble_eq_true rfl, Nat.le_of_ble_eq_true rfl⟩) hP hD hS hA [18] rfl rfl (fun _ => rfl) (fun u_17 H locs hw_17 hP hD hS => ?_)
            obtain ⟨mk_c17, mt_c17, mw_c17⟩ := u_17
            simp only [f_X3_put, Prod.mk.injEq] at hw_17
            obtain ⟨rfl, rfl, rfl⟩ := hw_17
            have hP : va_P G.1 vwCl (LC G a v q ++ LC G b (upd (upd (upd v 15 p0) 19 (f_X6_ticksOf p0)) 23 (nI 0)) q) H := hP
            have hD : va_D A (LC G a v q ++ LC G b (upd (upd (upd v 15 p0) 19 (f_X6_ticksOf p0)) 23 (nI 0)) q) := hD
            refine lv_iload_n hx hb dX2_reasonAgainst_41 rfl (lv_at hl 2 rfl) ?_
            refine gcall_I (run_SN (As := [.int p0]) (rest := []) C0 hK hP hD (c_X6_ticksOf l G   H.size p0) (va_cnB 1 hts gX2_reasonAgainst_X6_ticksOf_n155 rfl rfl rfl hK.2.2.2.1 (hts _ (by decide +kernel)) cd2_X6_ticksOf ⟨Nat.le_of_ble_eq_true rfl, Nat.le_of_ble_eq_true rfl⟩) (hts _ (by decide +kernel)) [] rfl rfl rfl hl.1 rfl (Nat.le_of_ble_eq_true rfl) dX2_reasonAgainst_42 ⟨Nat.le_of_ble_eq_true rfl, Nat.le_of_ble_eq_true rfl⟩) hP hD hS hA [] rfl rfl (fun _ => rfl) (fun r_18 _ H locs hw_18 hP hD hS => ?_)
            subst hw_18
            have hP : va_P G.1 vwCl (LC G a v q ++ LC G b (upd (upd (upd v 15 p0) 19 (f_X6_ticksOf p0)) 23 (nI 0)) q) H := hP
            have hD : va_D A (LC G a v q ++ LC G b (upd (upd (upd v 15 p0) 19 (f_X6_ticksOf p0)) 23 (nI 0)) q) := hD
            refine lv_istore (lv' := [(4, .int (f_X6_ticksOf p0)), (3, .ref (b 7)), (0, .ref (a 0)), (1, .int p0), (2, .ref (b 0))]) hx hb dX2_reasonAgainst_45 hl (by decide) rfl (fun ls hl => ?_)
            refine lv_iconst (v := (nI 0)) hx hb dX2_reasonAgainst_47 (by decide) ?_
            refine lv_istore (lv' := [(5, .int (nI 0)), (4, .int (f_X6_ticksOf p0)), (3, .ref (b 7)), (0, .ref (a 0)), (1, .int p0), (2, .ref (b 0))]) hx hb dX2_reasonAgainst_48 hl (by decide) rfl (fun ls hl => ?_)
            exact h_X2_reasonAgainst_50 ((f_X6_ticksOf p0).toNatClampNeg + 1) (upd (upd (upd v 15 p0) 19 (f_X6_ticksOf p0)) 23 (nI 0)) q 0 (by omega) (by omega) (by simp only [f_X2_reasonAgainst, if_neg c_2, if_pos c_4, if_neg c_7, if_neg c_13, if_pos c_16]) _ _ _ hP hD hS (lv_sub hl [0, 1, 5] rfl)
          · by_cases c_19 : (v 16) = (-5)
            · rw [show f_X2_lowestEmptyMachine b v = some (b 8) from by (simp only [f_X2_lowestEmptyMachine, f_X3_isEmpty, if_neg c_7, if_neg c_13, if_neg c_16, if_pos c_19, low0, low1, if_true, if_false])]
              refine W.eq (g2 := F0 m 29 ls ([.ref (b 8)])) rfl ?_
              refine lv_astore_n (lv' := [(3, .ref (b 8)), (0, .ref (a 0)), (1, .int p0), (2, .ref (b 0))]) hx hb dX2_reasonAgainst_29 rfl hl (by decide) rfl (fun ls hl => ?_)
              refine lv_aload_n hx hb dX2_reasonAgainst_30 rfl (lv_at hl 0 rfl) ?_
              refine lv_ifnonnull (tgt := 36) hx hb dX2_reasonAgainst_31 (by decide) ?_
              refine lv_aload_n hx hb dX2_reasonAgainst_36 rfl (lv_at hl 0 rfl) ?_
              refine lv_iload_n hx hb dX2_reasonAgainst_37 rfl (lv_at hl 2 rfl) ?_
              refine gcall_V (run_V (As := [.int p0]) (rest := []) C0 hK hP hD (c_X3_put l G (b 8) (v 16) (v 20) (v 24) H.size p0) (cwV 1 hts gX2_reasonAgainst_X3_put rfl rfl rfl cd_X3_put ⟨Nat.le_of_ble_eq_true rfl, Nat.le_of_ble_eq_true rfl⟩) [19] rfl rfl 19 (ci := 3) rfl rfl rfl rfl hl.1 rfl (Nat.le_of_ble_eq_true rfl) dX2_reasonAgainst_38 ⟨Nat.le_of_ble_eq_true rfl, Nat.le_of_ble_eq_true rfl⟩) hP hD hS hA [19] rfl rfl (fun _ => rfl) (fun u_20 H locs hw_20 hP hD hS => ?_)
              obtain ⟨mk_c20, mt_c20, mw_c20⟩ := u_20
              simp only [f_X3_put, Prod.mk.injEq] at hw_20
              obtain ⟨rfl, rfl, rfl⟩ := hw_20
              have hP : va_P G.1 vwCl (LC G a v q ++ LC G b (upd (upd (upd v 16 p0) 20 (f_X6_ticksOf p0)) 24 (nI 0)) q) H := hP
              have hD : va_D A (LC G a v q ++ LC G b (upd (upd (upd v 16 p0) 20 (f_X6_ticksOf p0)) 24 (nI 0)) q) := hD
              refine lv_iload_n hx hb dX2_reasonAgainst_41 rfl (lv_at hl 2 rfl) ?_
              refine gcall_I (run_SN (As := [.int p0]) (rest := []) C0 hK hP hD (c_X6_ticksOf l G   H.size p0) (va_cnB 1 hts gX2_reasonAgainst_X6_ticksOf_n155 rfl rfl rfl hK.2.2.2.1 (hts _ (by decide +kernel)) cd2_X6_ticksOf ⟨Nat.le_of_ble_eq_true rfl, Nat.le_of_ble_eq_true rfl⟩) (hts _ (by decide +kernel)) [] rfl rfl rfl hl.1 rfl (Nat.le_of_ble_eq_true rfl) dX2_reasonAgainst_42 ⟨Nat.le_of_ble_eq_true rfl, Nat.le_of_ble_eq_true rfl⟩) hP hD hS hA [] rfl rfl (fun _ => rfl) (fun r_21 _ H locs hw_21 hP hD hS => ?_)
              subst hw_21
              have hP : va_P G.1 vwCl (LC G a v q ++ LC G b (upd (upd (upd v 16 p0) 20 (f_X6_ticksOf p0)) 24 (nI 0)) q) H := hP
              have hD : va_D A (LC G a v q ++ LC G b (upd (upd (upd v 16 p0) 20 (f_X6_ticksOf p0)) 24 (nI 0)) q) := hD
              refine lv_istore (lv' := [(4, .int (f_X6_ticksOf p0)), (3, .ref (b 8)), (0, .ref (a 0)), (1, .int p0), (2, .ref (b 0))]) hx hb dX2_reasonAgainst_45 hl (by decide) rfl (fun ls hl => ?_)
              refine lv_iconst (v := (nI 0)) hx hb dX2_reasonAgainst_47 (by decide) ?_
              refine lv_istore (lv' := [(5, .int (nI 0)), (4, .int (f_X6_ticksOf p0)), (3, .ref (b 8)), (0, .ref (a 0)), (1, .int p0), (2, .ref (b 0))]) hx hb dX2_reasonAgainst_48 hl (by decide) rfl (fun ls hl => ?_)
              exact h_X2_reasonAgainst_50 ((f_X6_ticksOf p0).toNatClampNeg + 1) (upd (upd (upd v 16 p0) 20 (f_X6_ticksOf p0)) 24 (nI 0)) q 0 (by omega) (by omega) (by simp only [f_X2_reasonAgainst, if_neg c_2, if_pos c_4, if_neg c_7, if_neg c_13, if_neg c_16, if_pos c_19]) _ _ _ hP hD hS (lv_sub hl [0, 1, 5] rfl)
            · rw [show f_X2_lowestEmptyMachine b v = none from by (simp only [f_X2_lowestEmptyMachine, f_X3_isEmpty, if_neg c_7, if_neg c_13, if_neg c_16, if_neg c_19, low0, low1, if_true, if_false])]
              refine W.eq (g2 := F0 m 29 ls ([.null])) rfl ?_
              refine lv_astore_nN (lv' := [(3, .null), (0, .ref (a 0)), (1, .int p0), (2, .ref (b 0))]) hx hb dX2_reasonAgainst_29 rfl hl (by decide) rfl (fun ls hl => ?_)
              refine lv_aload_nN hx hb dX2_reasonAgainst_30 rfl (lv_at hl 0 rfl) ?_
              refine lv_ifnonnullN hx hb dX2_reasonAgainst_31 ?_
              refine lv_iconst (v := (nI 1)) hx hb dX2_reasonAgainst_34 (by decide) ?_
              exact end_I C0 hP hD hS (v, q) (by simp only [f_X2_reasonAgainst, if_neg c_2, if_pos c_4, if_neg c_7, if_neg c_13, if_neg c_16, if_neg c_19]) rfl dX2_reasonAgainst_35
    · refine lv_iconst (v := (nI 2)) hx hb dX2_reasonAgainst_18 (by decide) ?_
      exact end_I C0 hP hD hS (ov, oq) (by simp only [f_X2_reasonAgainst, if_neg c_2, if_neg c_4]) rfl dX2_reasonAgainst_19

def f_X2_startLoad (v : (Nat → Int32)) (q : (Nat → Int32)) (ov : (Nat → Int32)) (oq : (Nat → Int32)) (p0 : Int32) (p1 : Int32) : Int32 × (Nat → Int32) × (Nat → Int32) × (Nat → Int32) :=
  if p0 = nI 0 then
    if (f_X6_isWithin p1 (nI 0) (nI 2)) = 0 then
      ((-1), v, ov, oq)
    else
      if (f_X3_isEmpty (v 13)) = 0 then
        (((-10) - (nI 1)), v, ov, oq)
      else
        match f_X2_reasonAgainst v q ov oq p1 with
        | (r_8, ov_c8, oq_c8) =>
          if r_8 = 0 then
            ((f_X6_ticksOf p1), (upd (upd (upd (upd v 13 p1) 17 (f_X6_ticksOf p1)) 21 (nI 0)) 40 ((v 40) + (nI 1))), ov_c8, oq_c8)
          else
            (((-10) - r_8), v, ov_c8, oq_c8)
  else
    if p0 = nI 1 then
      if (f_X6_isWithin p1 (nI 0) (nI 2)) = 0 then
        ((-1), v, ov, oq)
      else
        if (f_X3_isEmpty (v 14)) = 0 then
          (((-10) - (nI 1)), v, ov, oq)
        else
          match f_X2_reasonAgainst v q ov oq p1 with
          | (r_17, ov_c17, oq_c17) =>
            if r_17 = 0 then
              ((f_X6_ticksOf p1), (upd (upd (upd (upd v 14 p1) 18 (f_X6_ticksOf p1)) 22 (nI 0)) 40 ((v 40) + (nI 1))), ov_c17, oq_c17)
            else
              (((-10) - r_17), v, ov_c17, oq_c17)
    else
      if p0 = nI 2 then
        if (f_X6_isWithin p1 (nI 0) (nI 2)) = 0 then
          ((-1), v, ov, oq)
        else
          if (f_X3_isEmpty (v 15)) = 0 then
            (((-10) - (nI 1)), v, ov, oq)
          else
            match f_X2_reasonAgainst v q ov oq p1 with
            | (r_26, ov_c26, oq_c26) =>
              if r_26 = 0 then
                ((f_X6_ticksOf p1), (upd (upd (upd (upd v 15 p1) 19 (f_X6_ticksOf p1)) 23 (nI 0)) 40 ((v 40) + (nI 1))), ov_c26, oq_c26)
              else
                (((-10) - r_26), v, ov_c26, oq_c26)
      else
        if p0 = nI 3 then
          if (f_X6_isWithin p1 (nI 0) (nI 2)) = 0 then
            ((-1), v, ov, oq)
          else
            if (f_X3_isEmpty (v 16)) = 0 then
              (((-10) - (nI 1)), v, ov, oq)
            else
              match f_X2_reasonAgainst v q ov oq p1 with
              | (r_35, ov_c35, oq_c35) =>
                if r_35 = 0 then
                  ((f_X6_ticksOf p1), (upd (upd (upd (upd v 16 p1) 20 (f_X6_ticksOf p1)) 24 (nI 0)) 40 ((v 40) + (nI 1))), ov_c35, oq_c35)
                else
                  (((-10) - r_35), v, ov_c35, oq_c35)
        else
          ((-1), v, ov, oq)
set_option maxRecDepth 20000 in
theorem k_X2_startLoad_f125 : Cond.fieldLink RX2 125 "SteamRations$Machine" "left" "I" ∈ wsX2_startLoad := by decide +kernel
set_option maxRecDepth 20000 in
theorem k_X2_startLoad_f64 : Cond.fieldLink RX2 64 "SteamRations$Laundry" "started" "I" ∈ wsX2_startLoad := by decide +kernel
set_option maxRecDepth 20000 in
theorem in_X2_startLoad_RX2 : ∀ w ∈ u_ws RX2 TX2 14, w ∈ wsX2_startLoad := by decide +kernel
set_option maxRecDepth 20000 in
theorem in_X2_startLoad_RX3 : ∀ w ∈ u_ws RX3 TX3 3, w ∈ wsX2_startLoad := by decide +kernel
theorem cd_X2_startLoad : yX2_startLoad.cls = RX2 ∧ yX2_startLoad.cls ≠ "java/lang/invoke/MethodHandle" ∧ yX2_startLoad.cls ≠ "java/lang/invoke/VarHandle" ∧ (parseMethodDescriptor yX2_startLoad.desc).map (fun d => d.parameters.length) = some 3 := by decide +kernel
set_option maxHeartbeats 4000000 in
set_option maxRecDepth 100000 in
theorem c_X2_startLoad (l : Launch) (G : GG) (a : Nat → Nat) (b : Nat → Nat) (v : (Nat → Int32)) (q : (Nat → Int32)) (ov : (Nat → Int32)) (oq : (Nat → Int32)) (sz : Nat) (p0 : Int32) (p1 : Int32)  : Met l yX2_startLoad wsX2_startLoad ({ frames := 4, cells := 0, slots := 0, locals := 112 }) (Pre G [.ref (a 0), .int p0, .int p1, .ref (b 0)] (LC G a v q ++ LC G b ov oq) sz) (PI G (va_A (LC G a v q ++ LC G b ov oq) sz) (fun r (u : (Nat → Int32) × (Nat → Int32) × (Nat → Int32)) => f_X2_startLoad v q ov oq p0 p1 = (r, u)) (fun u : (Nat → Int32) × (Nat → Int32) × (Nat → Int32) => LC G a u.1 q ++ LC G b u.2.1 u.2.2)) 0 0 (va_A (LC G a v q ++ LC G b ov oq) sz) := by
  refine Met.walk (cc := cX2_startLoad) (maxL := 6) (ret := (some .int)) (Qc := fun A => PI G A (fun r (u : (Nat → Int32) × (Nat → Int32) × (Nat → Int32)) => f_X2_startLoad v q ov oq p0 p1 = (r, u)) (fun u : (Nat → Int32) × (Nat → Int32) × (Nat → Int32) => LC G a u.1 q ++ LC G b u.2.1 u.2.2)) (by decide) rfl (Nat.le_of_ble_eq_true rfl) ?_
  intro p e s m below meth c A H C0 _ hK hsz hP hD hA hS ls hl
  have hx := C0.1
  have hb := C0.2.1
  have hown : s.vm.findClass RX2 = some m.cls := C0.2.2.2.2.1
  have hml := C0.2.2.2.1
  have hts : ∀ w ∈ wsX2_startLoad, w.before [.ref (a 0), .int p0, .int p1, .ref (b 0)].toArray s = true := C0.2.2.2.2.2.1
  have hl : lv_has ls 6 [(0, .ref (a 0)), (1, .int p0), (2, .int p1), (3, .ref (b 0))] := hl
  refine lv_aload_n hx hb dX2_startLoad_0 rfl (lv_at hl 0 rfl) ?_
  refine lv_iload_n hx hb dX2_startLoad_1 rfl (lv_at hl 1 rfl) ?_
  have hW : BW G A [LC G a v q, LC G b ov oq] H := BW.of hP hD
  refine gcallB_Q (bc := [LC G a v q]) (runB_V (As := [.int p0]) (rest := []) (bc := [LC G a v q]) C0 hK hW (c_X2_machineAt l G a v q H.size p0) (cwV 1 hts gX2_startLoad_X2_machineAt rfl rfl rfl cd_X2_machineAt ⟨Nat.le_of_ble_eq_true rfl, Nat.le_of_ble_eq_true rfl⟩) [0] rfl rfl rfl 0 0 rfl (ci := 2) rfl rfl rfl rfl hl.1 rfl (Nat.le_of_ble_eq_true rfl) dX2_startLoad_2 ⟨Nat.le_of_ble_eq_true rfl, Nat.le_of_ble_eq_true rfl⟩) hW hS hA [0] rfl rfl rfl (fun _ => [LC G a v q]) (fun _ => rfl) (fun _ => rfl) (fun r_1 _ H locs hw_1 hW hS => ?_)
  obtain ⟨hP, hD⟩ := hW.flat
  subst hw_1
  have hP : va_P G.1 vwCl (LC G a v q ++ LC G b ov oq) H := hP
  have hD : va_D A (LC G a v q ++ LC G b ov oq) := hD
  by_cases c_2 : p0 = nI 0
  · rw [show f_X2_machineAt a p0 = some (a 5) from by (rw [c_2]; rfl)]
    refine W.eq (g2 := F0 m 5 ls ([.ref (a 5)])) rfl ?_
    refine lv_astore (lv' := [(4, .ref (a 5)), (0, .ref (a 0)), (1, .int p0), (2, .int p1), (3, .ref (b 0))]) hx hb dX2_startLoad_5 hl (by decide) rfl (fun ls hl => ?_)
    refine lv_aload hx hb dX2_startLoad_7 (lv_at hl 0 rfl) ?_
    refine lv_ifnull hx hb dX2_startLoad_9 ?_
    refine lv_iload_n hx hb dX2_startLoad_12 rfl (lv_at hl 3 rfl) ?_
    refine lv_iconst (v := (nI 0)) hx hb dX2_startLoad_13 (by decide) ?_
    refine lv_iconst (v := (nI 2)) hx hb dX2_startLoad_14 (by decide) ?_
    refine gcall_I (run_SN (As := [.int p1, .int (nI 0), .int (nI 2)]) (rest := []) C0 hK hP hD (c_X6_isWithin l G   H.size p1 (nI 0) (nI 2)) (va_cnB 3 hts gX2_startLoad_X6_isWithin_n100 rfl rfl rfl hK.2.1 (hts _ (by decide +kernel)) cd2_X6_isWithin ⟨Nat.le_of_ble_eq_true rfl, Nat.le_of_ble_eq_true rfl⟩) (hts _ (by decide +kernel)) [] rfl rfl rfl hl.1 rfl (Nat.le_of_ble_eq_true rfl) dX2_startLoad_15 ⟨Nat.le_of_ble_eq_true rfl, Nat.le_of_ble_eq_true rfl⟩) hP hD hS hA [] rfl rfl (fun _ => rfl) (fun r_3 _ H locs hw_3 hP hD hS => ?_)
    have hz_r_3 := hw_3.2
    have hw_3 := hw_3.1
    subst hw_3
    have hP : va_P G.1 vwCl (LC G a v q ++ LC G b ov oq) H := hP
    have hD : va_D A (LC G a v q ++ LC G b ov oq) := hD
    refine lv_if_ne (tgt := 23) hx hb dX2_startLoad_18 (by decide) (fun c_4 => ?_) (fun c_4 => ?_)
    · refine lv_aload hx hb dX2_startLoad_23 (lv_at hl 0 rfl) ?_
      refine gcall_I (run_V (As := []) (rest := []) C0 hK hP hD (c_X3_isEmpty l G (a 5) (v 13) (v 17) (v 21) H.size ) (cwV 0 hts gX2_startLoad_X3_isEmpty rfl rfl rfl cd_X3_isEmpty ⟨Nat.le_of_ble_eq_true rfl, Nat.le_of_ble_eq_true rfl⟩) [5] rfl rfl 5 (ci := 3) rfl rfl rfl rfl hl.1 rfl (Nat.le_of_ble_eq_true rfl) dX2_startLoad_25 ⟨Nat.le_of_ble_eq_true rfl, Nat.le_of_ble_eq_true rfl⟩) hP hD hS hA [5] rfl rfl (fun _ => rfl) (fun r_5 _ H locs hw_5 hP hD hS => ?_)
      have hz_r_5 := hw_5.2
      have hw_5 := hw_5.1
      subst hw_5
      have hP : va_P G.1 vwCl (LC G a v q ++ LC G b ov oq) H := hP
      have hD : va_D A (LC G a v q ++ LC G b ov oq) := hD
      refine lv_if_eq (tgt := 40) hx hb dX2_startLoad_28 (by decide) (fun c_6 => ?_) (fun c_6 => ?_)
      · refine lv_iconst (v := (nI 1)) hx hb dX2_startLoad_40 (by decide) ?_
        refine lv_istore (lv' := [(5, .int (nI 1)), (4, .ref (a 5)), (0, .ref (a 0)), (1, .int p0), (2, .int p1), (3, .ref (b 0))]) hx hb dX2_startLoad_41 hl (by decide) rfl (fun ls hl => ?_)
        refine lv_iload hx hb dX2_startLoad_43 (lv_at hl 0 rfl) ?_
        refine lv_if_eq (tgt := 54) hx hb dX2_startLoad_45 (by decide) (fun c_7 => absurd c_7 (by decide +kernel)) (fun c_7 => ?_)
        refine lv_bipush (v := (-10)) hx hb dX2_startLoad_48 (by decide) ?_
        refine lv_iload hx hb dX2_startLoad_50 (lv_at hl 0 rfl) ?_
        refine lv_isub hx hb dX2_startLoad_52 ?_
        exact end_I C0 hP hD hS (v, ov, oq) (by simp only [f_X2_startLoad, if_pos c_2, if_neg c_4, if_pos c_6]) rfl dX2_startLoad_53
      · refine lv_aload_n hx hb dX2_startLoad_31 rfl (lv_at hl 1 rfl) ?_
        refine lv_iload_n hx hb dX2_startLoad_32 rfl (lv_at hl 3 rfl) ?_
        refine lv_aload_n hx hb dX2_startLoad_33 rfl (lv_at hl 4 rfl) ?_
        have hW : BW G A [LC G a v q, LC G b ov oq] H := BW.of hP hD
        refine gcallB_I (bc := [LC G a v q, LC G b ov oq]) (runB_V (As := [.int p1, .ref (b 0)]) (rest := []) (bc := [LC G a v q, LC G b ov oq]) C0 hK hW (c_X2_reasonAgainst l G a b v q ov oq H.size p1) (cwV 2 hts gX2_startLoad_X2_reasonAgainst rfl rfl rfl cd_X2_reasonAgainst ⟨Nat.le_of_ble_eq_true rfl, Nat.le_of_ble_eq_true rfl⟩) [0, 1] rfl rfl rfl 0 0 rfl (ci := 2) rfl rfl rfl rfl hl.1 rfl (Nat.le_of_ble_eq_true rfl) dX2_startLoad_34 ⟨Nat.le_of_ble_eq_true rfl, Nat.le_of_ble_eq_true rfl⟩) hW hS hA [0, 1] rfl rfl rfl (fun u => [LC G a v q, LC G b u.1 u.2]) (fun _ => rfl) (fun _ => rfl) (fun r_8 u_8 H locs hw_8 hW hS => ?_)
        obtain ⟨hP, hD⟩ := hW.flat
        obtain ⟨ov_c8, oq_c8⟩ := u_8
        have hP : va_P G.1 vwCl (LC G a v q ++ LC G b ov_c8 oq_c8) H := hP
        have hD : va_D A (LC G a v q ++ LC G b ov_c8 oq_c8) := hD
        refine lv_goto (tgt := 41) hx hb dX2_startLoad_37 (by decide) ?_
        refine lv_istore (lv' := [(5, .int r_8), (4, .ref (a 5)), (0, .ref (a 0)), (1, .int p0), (2, .int p1), (3, .ref (b 0))]) hx hb dX2_startLoad_41 hl (by decide) rfl (fun ls hl => ?_)
        refine lv_iload hx hb dX2_startLoad_43 (lv_at hl 0 rfl) ?_
        refine lv_if_eq (tgt := 54) hx hb dX2_startLoad_45 (by decide) (fun c_9 => ?_) (fun c_9 => ?_)
        · refine lv_aload hx hb dX2_startLoad_54 (lv_at hl 1 rfl) ?_
          refine lv_iload_n hx hb dX2_startLoad_56 rfl (lv_at hl 4 rfl) ?_
          refine gcall_V (run_V (As := [.int p1]) (rest := []) C0 hK hP hD (c_X3_put l G (a 5) (v 13) (v 17) (v 21) H.size p1) (cwV 1 hts gX2_startLoad_X3_put rfl rfl rfl cd_X3_put ⟨Nat.le_of_ble_eq_true rfl, Nat.le_of_ble_eq_true rfl⟩) [5] rfl rfl 5 (ci := 3) rfl rfl rfl rfl hl.1 rfl (Nat.le_of_ble_eq_true rfl) dX2_startLoad_57 ⟨Nat.le_of_ble_eq_true rfl, Nat.le_of_ble_eq_true rfl⟩) hP hD hS hA [5] rfl rfl (fun _ => rfl) (fun u_10 H locs hw_10 hP hD hS => ?_)
          obtain ⟨mk_c10, mt_c10, mw_c10⟩ := u_10
          simp only [f_X3_put, Prod.mk.injEq] at hw_10
          obtain ⟨rfl, rfl, rfl⟩ := hw_10
          have hP : va_P G.1 vwCl (LC G a (upd (upd (upd v 13 p1) 17 (f_X6_ticksOf p1)) 21 (nI 0)) q ++ LC G b ov_c8 oq_c8) H := hP
          have hD : va_D A (LC G a (upd (upd (upd v 13 p1) 17 (f_X6_ticksOf p1)) 21 (nI 0)) q ++ LC G b ov_c8 oq_c8) := hD
          refine lv_aload_n hx hb dX2_startLoad_60 rfl (lv_at hl 2 rfl) ?_
          refine lv_dup hx hb dX2_startLoad_61 rfl ?_
          refine va_get (D := G.1) (ci := 2) (v := .int (v 40)) (C := RX2) (T := TX2) (N := 14) hx hb hts in_X2_startLoad_RX2 hown hK.1 hP 0 rfl rfl 10 (by decide) (hts _ k_X2_startLoad_f64) (fun _ h9 => h9) rfl dX2_startLoad_62 ?_
          refine lv_iconst (v := (nI 1)) hx hb dX2_startLoad_65 (by decide) ?_
          refine lv_iadd hx hb dX2_startLoad_66 ?_
          refine va_put (D := G.1) (ci := 2) (v := .int ((v 40) + (nI 1))) (ty := .int) (C := RX2) (T := TX2) (N := 14) hx hb hts in_X2_startLoad_RX2 tyX2 tyX2_ok nmX2 hown hK.1 hP hD hS 0 rfl rfl 10 (by decide) (hts _ k_X2_startLoad_f64) (fun _ h9 => h9) rfl (by decide +kernel) rfl rfl (Nat.le_of_ble_eq_true rfl) dX2_startLoad_67 (fun H locs hP hD hS => ?_)
          have hP : va_P G.1 vwCl (LC G a (upd (upd (upd (upd v 13 p1) 17 (f_X6_ticksOf p1)) 21 (nI 0)) 40 ((v 40) + (nI 1))) q ++ LC G b ov_c8 oq_c8) H := hP
          have hD : va_D A (LC G a (upd (upd (upd (upd v 13 p1) 17 (f_X6_ticksOf p1)) 21 (nI 0)) 40 ((v 40) + (nI 1))) q ++ LC G b ov_c8 oq_c8) := hD
          refine lv_aload hx hb dX2_startLoad_70 (lv_at hl 1 rfl) ?_
          refine va_get (D := G.1) (ci := 3) (v := .int (f_X6_ticksOf p1)) (C := RX3) (T := TX3) (N := 3) hx hb hts in_X2_startLoad_RX3 hown hK.1 hP 5 rfl rfl 1 (by decide) (hts _ k_X2_startLoad_f125) (fun _ h9 => h9) rfl dX2_startLoad_72 ?_
          exact end_I C0 hP hD hS ((upd (upd (upd (upd v 13 p1) 17 (f_X6_ticksOf p1)) 21 (nI 0)) 40 ((v 40) + (nI 1))), ov_c8, oq_c8) (by simp only [f_X2_startLoad, if_pos c_2, if_neg c_4, if_neg c_6, hw_8, if_pos c_9]) rfl dX2_startLoad_75
        · refine lv_bipush (v := (-10)) hx hb dX2_startLoad_48 (by decide) ?_
          refine lv_iload hx hb dX2_startLoad_50 (lv_at hl 0 rfl) ?_
          refine lv_isub hx hb dX2_startLoad_52 ?_
          exact end_I C0 hP hD hS (v, ov_c8, oq_c8) (by simp only [f_X2_startLoad, if_pos c_2, if_neg c_4, if_neg c_6, hw_8, if_neg c_9]) rfl dX2_startLoad_53
    · refine lv_iconst (v := (-1)) hx hb dX2_startLoad_21 (by decide) ?_
      exact end_I C0 hP hD hS (v, ov, oq) (by simp only [f_X2_startLoad, if_pos c_2, if_pos c_4]) rfl dX2_startLoad_22
  · by_cases c_11 : p0 = nI 1
    · rw [show f_X2_machineAt a p0 = some (a 6) from by (rw [c_11]; rfl)]
      refine W.eq (g2 := F0 m 5 ls ([.ref (a 6)])) rfl ?_
      refine lv_astore (lv' := [(4, .ref (a 6)), (0, .ref (a 0)), (1, .int p0), (2, .int p1), (3, .ref (b 0))]) hx hb dX2_startLoad_5 hl (by decide) rfl (fun ls hl => ?_)
      refine lv_aload hx hb dX2_startLoad_7 (lv_at hl 0 rfl) ?_
      refine lv_ifnull hx hb dX2_startLoad_9 ?_
      refine lv_iload_n hx hb dX2_startLoad_12 rfl (lv_at hl 3 rfl) ?_
      refine lv_iconst (v := (nI 0)) hx hb dX2_startLoad_13 (by decide) ?_
      refine lv_iconst (v := (nI 2)) hx hb dX2_startLoad_14 (by decide) ?_
      refine gcall_I (run_SN (As := [.int p1, .int (nI 0), .int (nI 2)]) (rest := []) C0 hK hP hD (c_X6_isWithin l G   H.size p1 (nI 0) (nI 2)) (va_cnB 3 hts gX2_startLoad_X6_isWithin_n100 rfl rfl rfl hK.2.1 (hts _ (by decide +kernel)) cd2_X6_isWithin ⟨Nat.le_of_ble_eq_true rfl, Nat.le_of_ble_eq_true rfl⟩) (hts _ (by decide +kernel)) [] rfl rfl rfl hl.1 rfl (Nat.le_of_ble_eq_true rfl) dX2_startLoad_15 ⟨Nat.le_of_ble_eq_true rfl, Nat.le_of_ble_eq_true rfl⟩) hP hD hS hA [] rfl rfl (fun _ => rfl) (fun r_12 _ H locs hw_12 hP hD hS => ?_)
      have hz_r_12 := hw_12.2
      have hw_12 := hw_12.1
      subst hw_12
      have hP : va_P G.1 vwCl (LC G a v q ++ LC G b ov oq) H := hP
      have hD : va_D A (LC G a v q ++ LC G b ov oq) := hD
      refine lv_if_ne (tgt := 23) hx hb dX2_startLoad_18 (by decide) (fun c_13 => ?_) (fun c_13 => ?_)
      · refine lv_aload hx hb dX2_startLoad_23 (lv_at hl 0 rfl) ?_
        refine gcall_I (run_V (As := []) (rest := []) C0 hK hP hD (c_X3_isEmpty l G (a 6) (v 14) (v 18) (v 22) H.size ) (cwV 0 hts gX2_startLoad_X3_isEmpty rfl rfl rfl cd_X3_isEmpty ⟨Nat.le_of_ble_eq_true rfl, Nat.le_of_ble_eq_true rfl⟩) [6] rfl rfl 6 (ci := 3) rfl rfl rfl rfl hl.1 rfl (Nat.le_of_ble_eq_true rfl) dX2_startLoad_25 ⟨Nat.le_of_ble_eq_true rfl, Nat.le_of_ble_eq_true rfl⟩) hP hD hS hA [6] rfl rfl (fun _ => rfl) (fun r_14 _ H locs hw_14 hP hD hS => ?_)
        have hz_r_14 := hw_14.2
        have hw_14 := hw_14.1
        subst hw_14
        have hP : va_P G.1 vwCl (LC G a v q ++ LC G b ov oq) H := hP
        have hD : va_D A (LC G a v q ++ LC G b ov oq) := hD
        refine lv_if_eq (tgt := 40) hx hb dX2_startLoad_28 (by decide) (fun c_15 => ?_) (fun c_15 => ?_)
        · refine lv_iconst (v := (nI 1)) hx hb dX2_startLoad_40 (by decide) ?_
          refine lv_istore (lv' := [(5, .int (nI 1)), (4, .ref (a 6)), (0, .ref (a 0)), (1, .int p0), (2, .int p1), (3, .ref (b 0))]) hx hb dX2_startLoad_41 hl (by decide) rfl (fun ls hl => ?_)
          refine lv_iload hx hb dX2_startLoad_43 (lv_at hl 0 rfl) ?_
          refine lv_if_eq (tgt := 54) hx hb dX2_startLoad_45 (by decide) (fun c_16 => absurd c_16 (by decide +kernel)) (fun c_16 => ?_)
          refine lv_bipush (v := (-10)) hx hb dX2_startLoad_48 (by decide) ?_
          refine lv_iload hx hb dX2_startLoad_50 (lv_at hl 0 rfl) ?_
          refine lv_isub hx hb dX2_startLoad_52 ?_
          exact end_I C0 hP hD hS (v, ov, oq) (by simp only [f_X2_startLoad, if_neg c_2, if_pos c_11, if_neg c_13, if_pos c_15]) rfl dX2_startLoad_53
        · refine lv_aload_n hx hb dX2_startLoad_31 rfl (lv_at hl 1 rfl) ?_
          refine lv_iload_n hx hb dX2_startLoad_32 rfl (lv_at hl 3 rfl) ?_
          refine lv_aload_n hx hb dX2_startLoad_33 rfl (lv_at hl 4 rfl) ?_
          have hW : BW G A [LC G a v q, LC G b ov oq] H := BW.of hP hD
          refine gcallB_I (bc := [LC G a v q, LC G b ov oq]) (runB_V (As := [.int p1, .ref (b 0)]) (rest := []) (bc := [LC G a v q, LC G b ov oq]) C0 hK hW (c_X2_reasonAgainst l G a b v q ov oq H.size p1) (cwV 2 hts gX2_startLoad_X2_reasonAgainst rfl rfl rfl cd_X2_reasonAgainst ⟨Nat.le_of_ble_eq_true rfl, Nat.le_of_ble_eq_true rfl⟩) [0, 1] rfl rfl rfl 0 0 rfl (ci := 2) rfl rfl rfl rfl hl.1 rfl (Nat.le_of_ble_eq_true rfl) dX2_startLoad_34 ⟨Nat.le_of_ble_eq_true rfl, Nat.le_of_ble_eq_true rfl⟩) hW hS hA [0, 1] rfl rfl rfl (fun u => [LC G a v q, LC G b u.1 u.2]) (fun _ => rfl) (fun _ => rfl) (fun r_17 u_17 H locs hw_17 hW hS => ?_)
          obtain ⟨hP, hD⟩ := hW.flat
          obtain ⟨ov_c17, oq_c17⟩ := u_17
          have hP : va_P G.1 vwCl (LC G a v q ++ LC G b ov_c17 oq_c17) H := hP
          have hD : va_D A (LC G a v q ++ LC G b ov_c17 oq_c17) := hD
          refine lv_goto (tgt := 41) hx hb dX2_startLoad_37 (by decide) ?_
          refine lv_istore (lv' := [(5, .int r_17), (4, .ref (a 6)), (0, .ref (a 0)), (1, .int p0), (2, .int p1), (3, .ref (b 0))]) hx hb dX2_startLoad_41 hl (by decide) rfl (fun ls hl => ?_)
          refine lv_iload hx hb dX2_startLoad_43 (lv_at hl 0 rfl) ?_
          refine lv_if_eq (tgt := 54) hx hb dX2_startLoad_45 (by decide) (fun c_18 => ?_) (fun c_18 => ?_)
          · refine lv_aload hx hb dX2_startLoad_54 (lv_at hl 1 rfl) ?_
            refine lv_iload_n hx hb dX2_startLoad_56 rfl (lv_at hl 4 rfl) ?_
            refine gcall_V (run_V (As := [.int p1]) (rest := []) C0 hK hP hD (c_X3_put l G (a 6) (v 14) (v 18) (v 22) H.size p1) (cwV 1 hts gX2_startLoad_X3_put rfl rfl rfl cd_X3_put ⟨Nat.le_of_ble_eq_true rfl, Nat.le_of_ble_eq_true rfl⟩) [6] rfl rfl 6 (ci := 3) rfl rfl rfl rfl hl.1 rfl (Nat.le_of_ble_eq_true rfl) dX2_startLoad_57 ⟨Nat.le_of_ble_eq_true rfl, Nat.le_of_ble_eq_true rfl⟩) hP hD hS hA [6] rfl rfl (fun _ => rfl) (fun u_19 H locs hw_19 hP hD hS => ?_)
            obtain ⟨mk_c19, mt_c19, mw_c19⟩ := u_19
            simp only [f_X3_put, Prod.mk.injEq] at hw_19
            obtain ⟨rfl, rfl, rfl⟩ := hw_19
            have hP : va_P G.1 vwCl (LC G a (upd (upd (upd v 14 p1) 18 (f_X6_ticksOf p1)) 22 (nI 0)) q ++ LC G b ov_c17 oq_c17) H := hP
            have hD : va_D A (LC G a (upd (upd (upd v 14 p1) 18 (f_X6_ticksOf p1)) 22 (nI 0)) q ++ LC G b ov_c17 oq_c17) := hD
            refine lv_aload_n hx hb dX2_startLoad_60 rfl (lv_at hl 2 rfl) ?_
            refine lv_dup hx hb dX2_startLoad_61 rfl ?_
            refine va_get (D := G.1) (ci := 2) (v := .int (v 40)) (C := RX2) (T := TX2) (N := 14) hx hb hts in_X2_startLoad_RX2 hown hK.1 hP 0 rfl rfl 10 (by decide) (hts _ k_X2_startLoad_f64) (fun _ h9 => h9) rfl dX2_startLoad_62 ?_
            refine lv_iconst (v := (nI 1)) hx hb dX2_startLoad_65 (by decide) ?_
            refine lv_iadd hx hb dX2_startLoad_66 ?_
            refine va_put (D := G.1) (ci := 2) (v := .int ((v 40) + (nI 1))) (ty := .int) (C := RX2) (T := TX2) (N := 14) hx hb hts in_X2_startLoad_RX2 tyX2 tyX2_ok nmX2 hown hK.1 hP hD hS 0 rfl rfl 10 (by decide) (hts _ k_X2_startLoad_f64) (fun _ h9 => h9) rfl (by decide +kernel) rfl rfl (Nat.le_of_ble_eq_true rfl) dX2_startLoad_67 (fun H locs hP hD hS => ?_)
            have hP : va_P G.1 vwCl (LC G a (upd (upd (upd (upd v 14 p1) 18 (f_X6_ticksOf p1)) 22 (nI 0)) 40 ((v 40) + (nI 1))) q ++ LC G b ov_c17 oq_c17) H := hP
            have hD : va_D A (LC G a (upd (upd (upd (upd v 14 p1) 18 (f_X6_ticksOf p1)) 22 (nI 0)) 40 ((v 40) + (nI 1))) q ++ LC G b ov_c17 oq_c17) := hD
            refine lv_aload hx hb dX2_startLoad_70 (lv_at hl 1 rfl) ?_
            refine va_get (D := G.1) (ci := 3) (v := .int (f_X6_ticksOf p1)) (C := RX3) (T := TX3) (N := 3) hx hb hts in_X2_startLoad_RX3 hown hK.1 hP 6 rfl rfl 1 (by decide) (hts _ k_X2_startLoad_f125) (fun _ h9 => h9) rfl dX2_startLoad_72 ?_
            exact end_I C0 hP hD hS ((upd (upd (upd (upd v 14 p1) 18 (f_X6_ticksOf p1)) 22 (nI 0)) 40 ((v 40) + (nI 1))), ov_c17, oq_c17) (by simp only [f_X2_startLoad, if_neg c_2, if_pos c_11, if_neg c_13, if_neg c_15, hw_17, if_pos c_18]) rfl dX2_startLoad_75
          · refine lv_bipush (v := (-10)) hx hb dX2_startLoad_48 (by decide) ?_
            refine lv_iload hx hb dX2_startLoad_50 (lv_at hl 0 rfl) ?_
            refine lv_isub hx hb dX2_startLoad_52 ?_
            exact end_I C0 hP hD hS (v, ov_c17, oq_c17) (by simp only [f_X2_startLoad, if_neg c_2, if_pos c_11, if_neg c_13, if_neg c_15, hw_17, if_neg c_18]) rfl dX2_startLoad_53
      · refine lv_iconst (v := (-1)) hx hb dX2_startLoad_21 (by decide) ?_
        exact end_I C0 hP hD hS (v, ov, oq) (by simp only [f_X2_startLoad, if_neg c_2, if_pos c_11, if_pos c_13]) rfl dX2_startLoad_22
    · by_cases c_20 : p0 = nI 2
      · rw [show f_X2_machineAt a p0 = some (a 7) from by (rw [c_20]; rfl)]
        refine W.eq (g2 := F0 m 5 ls ([.ref (a 7)])) rfl ?_
        refine lv_astore (lv' := [(4, .ref (a 7)), (0, .ref (a 0)), (1, .int p0), (2, .int p1), (3, .ref (b 0))]) hx hb dX2_startLoad_5 hl (by decide) rfl (fun ls hl => ?_)
        refine lv_aload hx hb dX2_startLoad_7 (lv_at hl 0 rfl) ?_
        refine lv_ifnull hx hb dX2_startLoad_9 ?_
        refine lv_iload_n hx hb dX2_startLoad_12 rfl (lv_at hl 3 rfl) ?_
        refine lv_iconst (v := (nI 0)) hx hb dX2_startLoad_13 (by decide) ?_
        refine lv_iconst (v := (nI 2)) hx hb dX2_startLoad_14 (by decide) ?_
        refine gcall_I (run_SN (As := [.int p1, .int (nI 0), .int (nI 2)]) (rest := []) C0 hK hP hD (c_X6_isWithin l G   H.size p1 (nI 0) (nI 2)) (va_cnB 3 hts gX2_startLoad_X6_isWithin_n100 rfl rfl rfl hK.2.1 (hts _ (by decide +kernel)) cd2_X6_isWithin ⟨Nat.le_of_ble_eq_true rfl, Nat.le_of_ble_eq_true rfl⟩) (hts _ (by decide +kernel)) [] rfl rfl rfl hl.1 rfl (Nat.le_of_ble_eq_true rfl) dX2_startLoad_15 ⟨Nat.le_of_ble_eq_true rfl, Nat.le_of_ble_eq_true rfl⟩) hP hD hS hA [] rfl rfl (fun _ => rfl) (fun r_21 _ H locs hw_21 hP hD hS => ?_)
        have hz_r_21 := hw_21.2
        have hw_21 := hw_21.1
        subst hw_21
        have hP : va_P G.1 vwCl (LC G a v q ++ LC G b ov oq) H := hP
        have hD : va_D A (LC G a v q ++ LC G b ov oq) := hD
        refine lv_if_ne (tgt := 23) hx hb dX2_startLoad_18 (by decide) (fun c_22 => ?_) (fun c_22 => ?_)
        · refine lv_aload hx hb dX2_startLoad_23 (lv_at hl 0 rfl) ?_
          refine gcall_I (run_V (As := []) (rest := []) C0 hK hP hD (c_X3_isEmpty l G (a 7) (v 15) (v 19) (v 23) H.size ) (cwV 0 hts gX2_startLoad_X3_isEmpty rfl rfl rfl cd_X3_isEmpty ⟨Nat.le_of_ble_eq_true rfl, Nat.le_of_ble_eq_true rfl⟩) [7] rfl rfl 7 (ci := 3) rfl rfl rfl rfl hl.1 rfl (Nat.le_of_ble_eq_true rfl) dX2_startLoad_25 ⟨Nat.le_of_ble_eq_true rfl, Nat.le_of_ble_eq_true rfl⟩) hP hD hS hA [7] rfl rfl (fun _ => rfl) (fun r_23 _ H locs hw_23 hP hD hS => ?_)
          have hz_r_23 := hw_23.2
          have hw_23 := hw_23.1
          subst hw_23
          have hP : va_P G.1 vwCl (LC G a v q ++ LC G b ov oq) H := hP
          have hD : va_D A (LC G a v q ++ LC G b ov oq) := hD
          refine lv_if_eq (tgt := 40) hx hb dX2_startLoad_28 (by decide) (fun c_24 => ?_) (fun c_24 => ?_)
          · refine lv_iconst (v := (nI 1)) hx hb dX2_startLoad_40 (by decide) ?_
            refine lv_istore (lv' := [(5, .int (nI 1)), (4, .ref (a 7)), (0, .ref (a 0)), (1, .int p0), (2, .int p1), (3, .ref (b 0))]) hx hb dX2_startLoad_41 hl (by decide) rfl (fun ls hl => ?_)
            refine lv_iload hx hb dX2_startLoad_43 (lv_at hl 0 rfl) ?_
            refine lv_if_eq (tgt := 54) hx hb dX2_startLoad_45 (by decide) (fun c_25 => absurd c_25 (by decide +kernel)) (fun c_25 => ?_)
            refine lv_bipush (v := (-10)) hx hb dX2_startLoad_48 (by decide) ?_
            refine lv_iload hx hb dX2_startLoad_50 (lv_at hl 0 rfl) ?_
            refine lv_isub hx hb dX2_startLoad_52 ?_
            exact end_I C0 hP hD hS (v, ov, oq) (by simp only [f_X2_startLoad, if_neg c_2, if_neg c_11, if_pos c_20, if_neg c_22, if_pos c_24]) rfl dX2_startLoad_53
          · refine lv_aload_n hx hb dX2_startLoad_31 rfl (lv_at hl 1 rfl) ?_
            refine lv_iload_n hx hb dX2_startLoad_32 rfl (lv_at hl 3 rfl) ?_
            refine lv_aload_n hx hb dX2_startLoad_33 rfl (lv_at hl 4 rfl) ?_
            have hW : BW G A [LC G a v q, LC G b ov oq] H := BW.of hP hD
            refine gcallB_I (bc := [LC G a v q, LC G b ov oq]) (runB_V (As := [.int p1, .ref (b 0)]) (rest := []) (bc := [LC G a v q, LC G b ov oq]) C0 hK hW (c_X2_reasonAgainst l G a b v q ov oq H.size p1) (cwV 2 hts gX2_startLoad_X2_reasonAgainst rfl rfl rfl cd_X2_reasonAgainst ⟨Nat.le_of_ble_eq_true rfl, Nat.le_of_ble_eq_true rfl⟩) [0, 1] rfl rfl rfl 0 0 rfl (ci := 2) rfl rfl rfl rfl hl.1 rfl (Nat.le_of_ble_eq_true rfl) dX2_startLoad_34 ⟨Nat.le_of_ble_eq_true rfl, Nat.le_of_ble_eq_true rfl⟩) hW hS hA [0, 1] rfl rfl rfl (fun u => [LC G a v q, LC G b u.1 u.2]) (fun _ => rfl) (fun _ => rfl) (fun r_26 u_26 H locs hw_26 hW hS => ?_)
            obtain ⟨hP, hD⟩ := hW.flat
            obtain ⟨ov_c26, oq_c26⟩ := u_26
            have hP : va_P G.1 vwCl (LC G a v q ++ LC G b ov_c26 oq_c26) H := hP
            have hD : va_D A (LC G a v q ++ LC G b ov_c26 oq_c26) := hD
            refine lv_goto (tgt := 41) hx hb dX2_startLoad_37 (by decide) ?_
            refine lv_istore (lv' := [(5, .int r_26), (4, .ref (a 7)), (0, .ref (a 0)), (1, .int p0), (2, .int p1), (3, .ref (b 0))]) hx hb dX2_startLoad_41 hl (by decide) rfl (fun ls hl => ?_)
            refine lv_iload hx hb dX2_startLoad_43 (lv_at hl 0 rfl) ?_
            refine lv_if_eq (tgt := 54) hx hb dX2_startLoad_45 (by decide) (fun c_27 => ?_) (fun c_27 => ?_)
            · refine lv_aload hx hb dX2_startLoad_54 (lv_at hl 1 rfl) ?_
              refine lv_iload_n hx hb dX2_startLoad_56 rfl (lv_at hl 4 rfl) ?_
              refine gcall_V (run_V (As := [.int p1]) (rest := []) C0 hK hP hD (c_X3_put l G (a 7) (v 15) (v 19) (v 23) H.size p1) (cwV 1 hts gX2_startLoad_X3_put rfl rfl rfl cd_X3_put ⟨Nat.le_of_ble_eq_true rfl, Nat.le_of_ble_eq_true rfl⟩) [7] rfl rfl 7 (ci := 3) rfl rfl rfl rfl hl.1 rfl (Nat.le_of_ble_eq_true rfl) dX2_startLoad_57 ⟨Nat.le_of_ble_eq_true rfl, Nat.le_of_ble_eq_true rfl⟩) hP hD hS hA [7] rfl rfl (fun _ => rfl) (fun u_28 H locs hw_28 hP hD hS => ?_)
              obtain ⟨mk_c28, mt_c28, mw_c28⟩ := u_28
              simp only [f_X3_put, Prod.mk.injEq] at hw_28
              obtain ⟨rfl, rfl, rfl⟩ := hw_28
              have hP : va_P G.1 vwCl (LC G a (upd (upd (upd v 15 p1) 19 (f_X6_ticksOf p1)) 23 (nI 0)) q ++ LC G b ov_c26 oq_c26) H := hP
              have hD : va_D A (LC G a (upd (upd (upd v 15 p1) 19 (f_X6_ticksOf p1)) 23 (nI 0)) q ++ LC G b ov_c26 oq_c26) := hD
              refine lv_aload_n hx hb dX2_startLoad_60 rfl (lv_at hl 2 rfl) ?_
              refine lv_dup hx hb dX2_startLoad_61 rfl ?_
              refine va_get (D := G.1) (ci := 2) (v := .int (v 40)) (C := RX2) (T := TX2) (N := 14) hx hb hts in_X2_startLoad_RX2 hown hK.1 hP 0 rfl rfl 10 (by decide) (hts _ k_X2_startLoad_f64) (fun _ h9 => h9) rfl dX2_startLoad_62 ?_
              refine lv_iconst (v := (nI 1)) hx hb dX2_startLoad_65 (by decide) ?_
              refine lv_iadd hx hb dX2_startLoad_66 ?_
              refine va_put (D := G.1) (ci := 2) (v := .int ((v 40) + (nI 1))) (ty := .int) (C := RX2) (T := TX2) (N := 14) hx hb hts in_X2_startLoad_RX2 tyX2 tyX2_ok nmX2 hown hK.1 hP hD hS 0 rfl rfl 10 (by decide) (hts _ k_X2_startLoad_f64) (fun _ h9 => h9) rfl (by decide +kernel) rfl rfl (Nat.le_of_ble_eq_true rfl) dX2_startLoad_67 (fun H locs hP hD hS => ?_)
              have hP : va_P G.1 vwCl (LC G a (upd (upd (upd (upd v 15 p1) 19 (f_X6_ticksOf p1)) 23 (nI 0)) 40 ((v 40) + (nI 1))) q ++ LC G b ov_c26 oq_c26) H := hP
              have hD : va_D A (LC G a (upd (upd (upd (upd v 15 p1) 19 (f_X6_ticksOf p1)) 23 (nI 0)) 40 ((v 40) + (nI 1))) q ++ LC G b ov_c26 oq_c26) := hD
              refine lv_aload hx hb dX2_startLoad_70 (lv_at hl 1 rfl) ?_
              refine va_get (D := G.1) (ci := 3) (v := .int (f_X6_ticksOf p1)) (C := RX3) (T := TX3) (N := 3) hx hb hts in_X2_startLoad_RX3 hown hK.1 hP 7 rfl rfl 1 (by decide) (hts _ k_X2_startLoad_f125) (fun _ h9 => h9) rfl dX2_startLoad_72 ?_
              exact end_I C0 hP hD hS ((upd (upd (upd (upd v 15 p1) 19 (f_X6_ticksOf p1)) 23 (nI 0)) 40 ((v 40) + (nI 1))), ov_c26, oq_c26) (by simp only [f_X2_startLoad, if_neg c_2, if_neg c_11, if_pos c_20, if_neg c_22, if_neg c_24, hw_26, if_pos c_27]) rfl dX2_startLoad_75
            · refine lv_bipush (v := (-10)) hx hb dX2_startLoad_48 (by decide) ?_
              refine lv_iload hx hb dX2_startLoad_50 (lv_at hl 0 rfl) ?_
              refine lv_isub hx hb dX2_startLoad_52 ?_
              exact end_I C0 hP hD hS (v, ov_c26, oq_c26) (by simp only [f_X2_startLoad, if_neg c_2, if_neg c_11, if_pos c_20, if_neg c_22, if_neg c_24, hw_26, if_neg c_27]) rfl dX2_startLoad_53
        · refine lv_iconst (v := (-1)) hx hb dX2_startLoad_21 (by decide) ?_
          exact end_I C0 hP hD hS (v, ov, oq) (by simp only [f_X2_startLoad, if_neg c_2, if_neg c_11, if_pos c_20, if_pos c_22]) rfl dX2_startLoad_22
      · by_cases c_29 : p0 = nI 3
        · rw [show f_X2_machineAt a p0 = some (a 8) from by (rw [c_29]; rfl)]
          refine W.eq (g2 := F0 m 5 ls ([.ref (a 8)])) rfl ?_
          refine lv_astore (lv' := [(4, .ref (a 8)), (0, .ref (a 0)), (1, .int p0), (2, .int p1), (3, .ref (b 0))]) hx hb dX2_startLoad_5 hl (by decide) rfl (fun ls hl => ?_)
          refine lv_aload hx hb dX2_startLoad_7 (lv_at hl 0 rfl) ?_
          refine lv_ifnull hx hb dX2_startLoad_9 ?_
          refine lv_iload_n hx hb dX2_startLoad_12 rfl (lv_at hl 3 rfl) ?_
          refine lv_iconst (v := (nI 0)) hx hb dX2_startLoad_13 (by decide) ?_
          refine lv_iconst (v := (nI 2)) hx hb dX2_startLoad_14 (by decide) ?_
          refine gcall_I (run_SN (As := [.int p1, .int (nI 0), .int (nI 2)]) (rest := []) C0 hK hP hD (c_X6_isWithin l G   H.size p1 (nI 0) (nI 2)) (va_cnB 3 hts gX2_startLoad_X6_isWithin_n100 rfl rfl rfl hK.2.1 (hts _ (by decide +kernel)) cd2_X6_isWithin ⟨Nat.le_of_ble_eq_true rfl, Nat.le_of_ble_eq_true rfl⟩) (hts _ (by decide +kernel)) [] rfl rfl rfl hl.1 rfl (Nat.le_of_ble_eq_true rfl) dX2_startLoad_15 ⟨Nat.le_of_ble_eq_true rfl, Nat.le_of_ble_eq_true rfl⟩) hP hD hS hA [] rfl rfl (fun _ => rfl) (fun r_30 _ H locs hw_30 hP hD hS => ?_)
          have hz_r_30 := hw_30.2
          have hw_30 := hw_30.1
          subst hw_30
          have hP : va_P G.1 vwCl (LC G a v q ++ LC G b ov oq) H := hP
          have hD : va_D A (LC G a v q ++ LC G b ov oq) := hD
          refine lv_if_ne (tgt := 23) hx hb dX2_startLoad_18 (by decide) (fun c_31 => ?_) (fun c_31 => ?_)
          · refine lv_aload hx hb dX2_startLoad_23 (lv_at hl 0 rfl) ?_
            refine gcall_I (run_V (As := []) (rest := []) C0 hK hP hD (c_X3_isEmpty l G (a 8) (v 16) (v 20) (v 24) H.size ) (cwV 0 hts gX2_startLoad_X3_isEmpty rfl rfl rfl cd_X3_isEmpty ⟨Nat.le_of_ble_eq_true rfl, Nat.le_of_ble_eq_true rfl⟩) [8] rfl rfl 8 (ci := 3) rfl rfl rfl rfl hl.1 rfl (Nat.le_of_ble_eq_true rfl) dX2_startLoad_25 ⟨Nat.le_of_ble_eq_true rfl, Nat.le_of_ble_eq_true rfl⟩) hP hD hS hA [8] rfl rfl (fun _ => rfl) (fun r_32 _ H locs hw_32 hP hD hS => ?_)
            have hz_r_32 := hw_32.2
            have hw_32 := hw_32.1
            subst hw_32
            have hP : va_P G.1 vwCl (LC G a v q ++ LC G b ov oq) H := hP
            have hD : va_D A (LC G a v q ++ LC G b ov oq) := hD
            refine lv_if_eq (tgt := 40) hx hb dX2_startLoad_28 (by decide) (fun c_33 => ?_) (fun c_33 => ?_)
            · refine lv_iconst (v := (nI 1)) hx hb dX2_startLoad_40 (by decide) ?_
              refine lv_istore (lv' := [(5, .int (nI 1)), (4, .ref (a 8)), (0, .ref (a 0)), (1, .int p0), (2, .int p1), (3, .ref (b 0))]) hx hb dX2_startLoad_41 hl (by decide) rfl (fun ls hl => ?_)
              refine lv_iload hx hb dX2_startLoad_43 (lv_at hl 0 rfl) ?_
              refine lv_if_eq (tgt := 54) hx hb dX2_startLoad_45 (by decide) (fun c_34 => absurd c_34 (by decide +kernel)) (fun c_34 => ?_)
              refine lv_bipush (v := (-10)) hx hb dX2_startLoad_48 (by decide) ?_
              refine lv_iload hx hb dX2_startLoad_50 (lv_at hl 0 rfl) ?_
              refine lv_isub hx hb dX2_startLoad_52 ?_
              exact end_I C0 hP hD hS (v, ov, oq) (by simp only [f_X2_startLoad, if_neg c_2, if_neg c_11, if_neg c_20, if_pos c_29, if_neg c_31, if_pos c_33]) rfl dX2_startLoad_53
            · refine lv_aload_n hx hb dX2_startLoad_31 rfl (lv_at hl 1 rfl) ?_
              refine lv_iload_n hx hb dX2_startLoad_32 rfl (lv_at hl 3 rfl) ?_
              refine lv_aload_n hx hb dX2_startLoad_33 rfl (lv_at hl 4 rfl) ?_
              have hW : BW G A [LC G a v q, LC G b ov oq] H := BW.of hP hD
              refine gcallB_I (bc := [LC G a v q, LC G b ov oq]) (runB_V (As := [.int p1, .ref (b 0)]) (rest := []) (bc := [LC G a v q, LC G b ov oq]) C0 hK hW (c_X2_reasonAgainst l G a b v q ov oq H.size p1) (cwV 2 hts gX2_startLoad_X2_reasonAgainst rfl rfl rfl cd_X2_reasonAgainst ⟨Nat.le_of_ble_eq_true rfl, Nat.le_of_ble_eq_true rfl⟩) [0, 1] rfl rfl rfl 0 0 rfl (ci := 2) rfl rfl rfl rfl hl.1 rfl (Nat.le_of_ble_eq_true rfl) dX2_startLoad_34 ⟨Nat.le_of_ble_eq_true rfl, Nat.le_of_ble_eq_true rfl⟩) hW hS hA [0, 1] rfl rfl rfl (fun u => [LC G a v q, LC G b u.1 u.2]) (fun _ => rfl) (fun _ => rfl) (fun r_35 u_35 H locs hw_35 hW hS => ?_)
              obtain ⟨hP, hD⟩ := hW.flat
              obtain ⟨ov_c35, oq_c35⟩ := u_35
              have hP : va_P G.1 vwCl (LC G a v q ++ LC G b ov_c35 oq_c35) H := hP
              have hD : va_D A (LC G a v q ++ LC G b ov_c35 oq_c35) := hD
              refine lv_goto (tgt := 41) hx hb dX2_startLoad_37 (by decide) ?_
              refine lv_istore (lv' := [(5, .int r_35), (4, .ref (a 8)), (0, .ref (a 0)), (1, .int p0), (2, .int p1), (3, .ref (b 0))]) hx hb dX2_startLoad_41 hl (by decide) rfl (fun ls hl => ?_)
              refine lv_iload hx hb dX2_startLoad_43 (lv_at hl 0 rfl) ?_
              refine lv_if_eq (tgt := 54) hx hb dX2_startLoad_45 (by decide) (fun c_36 => ?_) (fun c_36 => ?_)
              · refine lv_aload hx hb dX2_startLoad_54 (lv_at hl 1 rfl) ?_
                refine lv_iload_n hx hb dX2_startLoad_56 rfl (lv_at hl 4 rfl) ?_
                refine gcall_V (run_V (As := [.int p1]) (rest := []) C0 hK hP hD (c_X3_put l G (a 8) (v 16) (v 20) (v 24) H.size p1) (cwV 1 hts gX2_startLoad_X3_put rfl rfl rfl cd_X3_put ⟨Nat.le_of_ble_eq_true rfl, Nat.le_of_ble_eq_true rfl⟩) [8] rfl rfl 8 (ci := 3) rfl rfl rfl rfl hl.1 rfl (Nat.le_of_ble_eq_true rfl) dX2_startLoad_57 ⟨Nat.le_of_ble_eq_true rfl, Nat.le_of_ble_eq_true rfl⟩) hP hD hS hA [8] rfl rfl (fun _ => rfl) (fun u_37 H locs hw_37 hP hD hS => ?_)
                obtain ⟨mk_c37, mt_c37, mw_c37⟩ := u_37
                simp only [f_X3_put, Prod.mk.injEq] at hw_37
                obtain ⟨rfl, rfl, rfl⟩ := hw_37
                have hP : va_P G.1 vwCl (LC G a (upd (upd (upd v 16 p1) 20 (f_X6_ticksOf p1)) 24 (nI 0)) q ++ LC G b ov_c35 oq_c35) H := hP
                have hD : va_D A (LC G a (upd (upd (upd v 16 p1) 20 (f_X6_ticksOf p1)) 24 (nI 0)) q ++ LC G b ov_c35 oq_c35) := hD
                refine lv_aload_n hx hb dX2_startLoad_60 rfl (lv_at hl 2 rfl) ?_
                refine lv_dup hx hb dX2_startLoad_61 rfl ?_
                refine va_get (D := G.1) (ci := 2) (v := .int (v 40)) (C := RX2) (T := TX2) (N := 14) hx hb hts in_X2_startLoad_RX2 hown hK.1 hP 0 rfl rfl 10 (by decide) (hts _ k_X2_startLoad_f64) (fun _ h9 => h9) rfl dX2_startLoad_62 ?_
                refine lv_iconst (v := (nI 1)) hx hb dX2_startLoad_65 (by decide) ?_
                refine lv_iadd hx hb dX2_startLoad_66 ?_
                refine va_put (D := G.1) (ci := 2) (v := .int ((v 40) + (nI 1))) (ty := .int) (C := RX2) (T := TX2) (N := 14) hx hb hts in_X2_startLoad_RX2 tyX2 tyX2_ok nmX2 hown hK.1 hP hD hS 0 rfl rfl 10 (by decide) (hts _ k_X2_startLoad_f64) (fun _ h9 => h9) rfl (by decide +kernel) rfl rfl (Nat.le_of_ble_eq_true rfl) dX2_startLoad_67 (fun H locs hP hD hS => ?_)
                have hP : va_P G.1 vwCl (LC G a (upd (upd (upd (upd v 16 p1) 20 (f_X6_ticksOf p1)) 24 (nI 0)) 40 ((v 40) + (nI 1))) q ++ LC G b ov_c35 oq_c35) H := hP
                have hD : va_D A (LC G a (upd (upd (upd (upd v 16 p1) 20 (f_X6_ticksOf p1)) 24 (nI 0)) 40 ((v 40) + (nI 1))) q ++ LC G b ov_c35 oq_c35) := hD
                refine lv_aload hx hb dX2_startLoad_70 (lv_at hl 1 rfl) ?_
                refine va_get (D := G.1) (ci := 3) (v := .int (f_X6_ticksOf p1)) (C := RX3) (T := TX3) (N := 3) hx hb hts in_X2_startLoad_RX3 hown hK.1 hP 8 rfl rfl 1 (by decide) (hts _ k_X2_startLoad_f125) (fun _ h9 => h9) rfl dX2_startLoad_72 ?_
                exact end_I C0 hP hD hS ((upd (upd (upd (upd v 16 p1) 20 (f_X6_ticksOf p1)) 24 (nI 0)) 40 ((v 40) + (nI 1))), ov_c35, oq_c35) (by simp only [f_X2_startLoad, if_neg c_2, if_neg c_11, if_neg c_20, if_pos c_29, if_neg c_31, if_neg c_33, hw_35, if_pos c_36]) rfl dX2_startLoad_75
              · refine lv_bipush (v := (-10)) hx hb dX2_startLoad_48 (by decide) ?_
                refine lv_iload hx hb dX2_startLoad_50 (lv_at hl 0 rfl) ?_
                refine lv_isub hx hb dX2_startLoad_52 ?_
                exact end_I C0 hP hD hS (v, ov_c35, oq_c35) (by simp only [f_X2_startLoad, if_neg c_2, if_neg c_11, if_neg c_20, if_pos c_29, if_neg c_31, if_neg c_33, hw_35, if_neg c_36]) rfl dX2_startLoad_53
          · refine lv_iconst (v := (-1)) hx hb dX2_startLoad_21 (by decide) ?_
            exact end_I C0 hP hD hS (v, ov, oq) (by simp only [f_X2_startLoad, if_neg c_2, if_neg c_11, if_neg c_20, if_pos c_29, if_pos c_31]) rfl dX2_startLoad_22
        · rw [show f_X2_machineAt a p0 = none from by (exact f_X2_machineAt_none c_2 c_11 c_20 c_29)]
          refine W.eq (g2 := F0 m 5 ls ([.null])) rfl ?_
          refine lv_astoreN (lv' := [(4, .null), (0, .ref (a 0)), (1, .int p0), (2, .int p1), (3, .ref (b 0))]) hx hb dX2_startLoad_5 hl (by decide) rfl (fun ls hl => ?_)
          refine lv_aloadN hx hb dX2_startLoad_7 (lv_at hl 0 rfl) ?_
          refine lv_ifnullN (tgt := 21) hx hb dX2_startLoad_9 (by decide) ?_
          refine lv_iconst (v := (-1)) hx hb dX2_startLoad_21 (by decide) ?_
          exact end_I C0 hP hD hS (v, ov, oq) (by simp only [f_X2_startLoad, if_neg c_2, if_neg c_11, if_neg c_20, if_neg c_29]) rfl dX2_startLoad_22

def f_X2_passTick (v : (Nat → Int32)) (q : (Nat → Int32)) (ov : (Nat → Int32)) (oq : (Nat → Int32)) : (Nat → Int32) × (Nat → Int32) × (Nat → Int32) × (Nat → Int32) :=
  match f_X2_workTick v with
  | (r_1, v_c1) =>
    if (f_X5_kindAt (v_c1 25) q (nI 0)) = (-5) then
      (v_c1, q, ov, oq)
    else
      match f_X2_reasonAgainst v_c1 q ov oq (f_X5_kindAt (v_c1 25) q (nI 0)) with
      | (r_4, ov_c4, oq_c4) =>
        if r_4 = 0 then
          if (v_c1 13) = (-5) then
            match f_X5_remove (v_c1 25) q (nI 0) with
            | (r_8, ln_c8, q_c8) =>
              ((upd (upd (upd (upd (upd v_c1 25 ln_c8) 13 (f_X5_kindAt (v_c1 25) q (nI 0))) 17 (f_X6_ticksOf (f_X5_kindAt (v_c1 25) q (nI 0)))) 21 (nI 0)) 40 ((v_c1 40) + (nI 1))), q_c8, ov_c4, oq_c4)
          else
            if (v_c1 14) = (-5) then
              match f_X5_remove (v_c1 25) q (nI 0) with
              | (r_11, ln_c11, q_c11) =>
                ((upd (upd (upd (upd (upd v_c1 25 ln_c11) 14 (f_X5_kindAt (v_c1 25) q (nI 0))) 18 (f_X6_ticksOf (f_X5_kindAt (v_c1 25) q (nI 0)))) 22 (nI 0)) 40 ((v_c1 40) + (nI 1))), q_c11, ov_c4, oq_c4)
            else
              if (v_c1 15) = (-5) then
                match f_X5_remove (v_c1 25) q (nI 0) with
                | (r_14, ln_c14, q_c14) =>
                  ((upd (upd (upd (upd (upd v_c1 25 ln_c14) 15 (f_X5_kindAt (v_c1 25) q (nI 0))) 19 (f_X6_ticksOf (f_X5_kindAt (v_c1 25) q (nI 0)))) 23 (nI 0)) 40 ((v_c1 40) + (nI 1))), q_c14, ov_c4, oq_c4)
              else
                if (v_c1 16) = (-5) then
                  match f_X5_remove (v_c1 25) q (nI 0) with
                  | (r_17, ln_c17, q_c17) =>
                    ((upd (upd (upd (upd (upd v_c1 25 ln_c17) 16 (f_X5_kindAt (v_c1 25) q (nI 0))) 20 (f_X6_ticksOf (f_X5_kindAt (v_c1 25) q (nI 0)))) 24 (nI 0)) 40 ((v_c1 40) + (nI 1))), q_c17, ov_c4, oq_c4)
                else
                  (v_c1, q, ov_c4, oq_c4)
        else
          (v_c1, q, ov_c4, oq_c4)
set_option maxRecDepth 20000 in
theorem k_X2_passTick_f28 : Cond.fieldLink RX2 28 "SteamRations$Laundry" "waiting" "LSteamRations$WaitingLine;" ∈ wsX2_passTick := by decide +kernel
set_option maxRecDepth 20000 in
theorem k_X2_passTick_f64 : Cond.fieldLink RX2 64 "SteamRations$Laundry" "started" "I" ∈ wsX2_passTick := by decide +kernel
set_option maxRecDepth 20000 in
theorem in_X2_passTick_RX2 : ∀ w ∈ u_ws RX2 TX2 14, w ∈ wsX2_passTick := by decide +kernel
theorem cd_X2_passTick : yX2_passTick.cls = RX2 ∧ yX2_passTick.cls ≠ "java/lang/invoke/MethodHandle" ∧ yX2_passTick.cls ≠ "java/lang/invoke/VarHandle" ∧ (parseMethodDescriptor yX2_passTick.desc).map (fun d => d.parameters.length) = some 1 := by decide +kernel
set_option maxHeartbeats 4000000 in
set_option maxRecDepth 100000 in
theorem c_X2_passTick (l : Launch) (G : GG) (a : Nat → Nat) (b : Nat → Nat) (v : (Nat → Int32)) (q : (Nat → Int32)) (ov : (Nat → Int32)) (oq : (Nat → Int32)) (sz : Nat)   : Met l yX2_passTick wsX2_passTick ({ frames := 4, cells := 0, slots := 0, locals := 112 }) (Pre G [.ref (a 0), .ref (b 0)] (LC G a v q ++ LC G b ov oq) sz) (PV G (va_A (LC G a v q ++ LC G b ov oq) sz) (fun u : (Nat → Int32) × (Nat → Int32) × (Nat → Int32) × (Nat → Int32) => f_X2_passTick v q ov oq = u) (fun u : (Nat → Int32) × (Nat → Int32) × (Nat → Int32) × (Nat → Int32) => LC G a u.1 u.2.1 ++ LC G b u.2.2.1 u.2.2.2)) 0 0 (va_A (LC G a v q ++ LC G b ov oq) sz) := by
  refine Met.walk (cc := cX2_passTick) (maxL := 4) (ret := none) (Qc := fun A => PV G A (fun u : (Nat → Int32) × (Nat → Int32) × (Nat → Int32) × (Nat → Int32) => f_X2_passTick v q ov oq = u) (fun u : (Nat → Int32) × (Nat → Int32) × (Nat → Int32) × (Nat → Int32) => LC G a u.1 u.2.1 ++ LC G b u.2.2.1 u.2.2.2)) (by decide) rfl (Nat.le_of_ble_eq_true rfl) ?_
  intro p e s m below meth c A H C0 _ hK hsz hP hD hA hS ls hl
  have hx := C0.1
  have hb := C0.2.1
  have hown : s.vm.findClass RX2 = some m.cls := C0.2.2.2.2.1
  have hml := C0.2.2.2.1
  have hts : ∀ w ∈ wsX2_passTick, w.before [.ref (a 0), .ref (b 0)].toArray s = true := C0.2.2.2.2.2.1
  have hl : lv_has ls 4 [(0, .ref (a 0)), (1, .ref (b 0))] := hl
  refine lv_aload_n hx hb dX2_passTick_0 rfl (lv_at hl 0 rfl) ?_
  have hW : BW G A [LC G a v q, LC G b ov oq] H := BW.of hP hD
  refine gcallB_I (bc := [LC G a v q]) (runB_V (As := []) (rest := []) (bc := [LC G a v q]) C0 hK hW (c_X2_workTick l G a v q H.size ) (cwV 0 hts gX2_passTick_X2_workTick rfl rfl rfl cd_X2_workTick ⟨Nat.le_of_ble_eq_true rfl, Nat.le_of_ble_eq_true rfl⟩) [0] rfl rfl rfl 0 0 rfl (ci := 2) rfl rfl rfl rfl hl.1 rfl (Nat.le_of_ble_eq_true rfl) dX2_passTick_1 ⟨Nat.le_of_ble_eq_true rfl, Nat.le_of_ble_eq_true rfl⟩) hW hS hA [0] rfl rfl rfl (fun u => [LC G a u q]) (fun _ => rfl) (fun _ => rfl) (fun r_1 u_1 H locs hw_1 hW hS => ?_)
  obtain ⟨hP, hD⟩ := hW.flat
  obtain ⟨v_c1, rfl⟩ : ∃ z, z = u_1 := ⟨_, rfl⟩
  have hz_r_1 := hw_1.2
  have hw_1 := hw_1.1
  have hP : va_P G.1 vwCl (LC G a v_c1 q ++ LC G b ov oq) H := hP
  have hD : va_D A (LC G a v_c1 q ++ LC G b ov oq) := hD
  refine lv_pop hx hb dX2_passTick_4 rfl ?_
  refine lv_aload_n hx hb dX2_passTick_5 rfl (lv_at hl 0 rfl) ?_
  refine va_get (D := G.1) (ci := 2) (v := .ref (a 9)) (C := RX2) (T := TX2) (N := 14) hx hb hts in_X2_passTick_RX2 hown hK.1 hP 0 rfl rfl 2 (by decide) (hts _ k_X2_passTick_f28) (fun _ h9 => h9) rfl dX2_passTick_6 ?_
  refine lv_iconst (v := (nI 0)) hx hb dX2_passTick_9 (by decide) ?_
  refine gcall_I (run_V (As := [.int (nI 0)]) (rest := []) C0 hK hP hD (c_X5_kindAt l G (a 9) (a 10) (v_c1 25) q H.size (nI 0)) (cwV 1 hts gX2_passTick_X5_kindAt rfl rfl rfl cd_X5_kindAt ⟨Nat.le_of_ble_eq_true rfl, Nat.le_of_ble_eq_true rfl⟩) [9, 10] rfl rfl 9 (ci := 5) rfl rfl rfl rfl hl.1 rfl (Nat.le_of_ble_eq_true rfl) dX2_passTick_10 ⟨Nat.le_of_ble_eq_true rfl, Nat.le_of_ble_eq_true rfl⟩) hP hD hS hA [9, 10] rfl rfl (fun _ => rfl) (fun r_2 _ H locs hw_2 hP hD hS => ?_)
  subst hw_2
  have hP : va_P G.1 vwCl (LC G a v_c1 q ++ LC G b ov oq) H := hP
  have hD : va_D A (LC G a v_c1 q ++ LC G b ov oq) := hD
  refine lv_istore_n (lv' := [(2, .int (f_X5_kindAt (v_c1 25) q (nI 0))), (0, .ref (a 0)), (1, .ref (b 0))]) hx hb dX2_passTick_13 rfl hl (by decide) rfl (fun ls hl => ?_)
  refine lv_iload_n hx hb dX2_passTick_14 rfl (lv_at hl 0 rfl) ?_
  refine lv_bipush (v := (-5)) hx hb dX2_passTick_15 (by decide) ?_
  refine lv_icmp_eq (tgt := 29) hx hb dX2_passTick_17 (by decide) (fun c_3 => ?_) (fun c_3 => ?_)
  · exact end_V C0 hP hD hS (v_c1, q, ov, oq) (by simp only [f_X2_passTick, hw_1, if_pos c_3]) rfl dX2_passTick_29
  · refine lv_aload_n hx hb dX2_passTick_20 rfl (lv_at hl 1 rfl) ?_
    refine lv_iload_n hx hb dX2_passTick_21 rfl (lv_at hl 0 rfl) ?_
    refine lv_aload_n hx hb dX2_passTick_22 rfl (lv_at hl 2 rfl) ?_
    have hW : BW G A [LC G a v_c1 q, LC G b ov oq] H := BW.of hP hD
    refine gcallB_I (bc := [LC G a v_c1 q, LC G b ov oq]) (runB_V (As := [.int (f_X5_kindAt (v_c1 25) q (nI 0)), .ref (b 0)]) (rest := []) (bc := [LC G a v_c1 q, LC G b ov oq]) C0 hK hW (c_X2_reasonAgainst l G a b v_c1 q ov oq H.size (f_X5_kindAt (v_c1 25) q (nI 0))) (cwV 2 hts gX2_passTick_X2_reasonAgainst rfl rfl rfl cd_X2_reasonAgainst ⟨Nat.le_of_ble_eq_true rfl, Nat.le_of_ble_eq_true rfl⟩) [0, 1] rfl rfl rfl 0 0 rfl (ci := 2) rfl rfl rfl rfl hl.1 rfl (Nat.le_of_ble_eq_true rfl) dX2_passTick_23 ⟨Nat.le_of_ble_eq_true rfl, Nat.le_of_ble_eq_true rfl⟩) hW hS hA [0, 1] rfl rfl rfl (fun u => [LC G a v_c1 q, LC G b u.1 u.2]) (fun _ => rfl) (fun _ => rfl) (fun r_4 u_4 H locs hw_4 hW hS => ?_)
    obtain ⟨hP, hD⟩ := hW.flat
    obtain ⟨ov_c4, oq_c4⟩ := u_4
    have hP : va_P G.1 vwCl (LC G a v_c1 q ++ LC G b ov_c4 oq_c4) H := hP
    have hD : va_D A (LC G a v_c1 q ++ LC G b ov_c4 oq_c4) := hD
    refine lv_if_eq (tgt := 30) hx hb dX2_passTick_26 (by decide) (fun c_5 => ?_) (fun c_5 => ?_)
    · refine lv_aload_n hx hb dX2_passTick_30 rfl (lv_at hl 1 rfl) ?_
      have hW : BW G A [LC G a v_c1 q, LC G b ov_c4 oq_c4] H := BW.of hP hD
      refine gcallB_Q (bc := [LC G a v_c1 q]) (runB_V (As := []) (rest := []) (bc := [LC G a v_c1 q]) C0 hK hW (c_X2_lowestEmptyMachine l G a v_c1 q H.size ) (cwV 0 hts gX2_passTick_X2_lowestEmptyMachine rfl rfl rfl cd_X2_lowestEmptyMachine ⟨Nat.le_of_ble_eq_true rfl, Nat.le_of_ble_eq_true rfl⟩) [0] rfl rfl rfl 0 0 rfl (ci := 2) rfl rfl rfl rfl hl.1 rfl (Nat.le_of_ble_eq_true rfl) dX2_passTick_31 ⟨Nat.le_of_ble_eq_true rfl, Nat.le_of_ble_eq_true rfl⟩) hW hS hA [0] rfl rfl rfl (fun _ => [LC G a v_c1 q]) (fun _ => rfl) (fun _ => rfl) (fun r_6 _ H locs hw_6 hW hS => ?_)
      obtain ⟨hP, hD⟩ := hW.flat
      subst hw_6
      have hP : va_P G.1 vwCl (LC G a v_c1 q ++ LC G b ov_c4 oq_c4) H := hP
      have hD : va_D A (LC G a v_c1 q ++ LC G b ov_c4 oq_c4) := hD
      by_cases c_7 : (v_c1 13) = (-5)
      · rw [show f_X2_lowestEmptyMachine a v_c1 = some (a 5) from by (simp only [f_X2_lowestEmptyMachine, f_X3_isEmpty, if_pos c_7, low0, low1, if_true, if_false])]
        refine W.eq (g2 := F0 m 34 ls ([.ref (a 5)])) rfl ?_
        refine lv_astore_n (lv' := [(3, .ref (a 5)), (2, .int (f_X5_kindAt (v_c1 25) q (nI 0))), (0, .ref (a 0)), (1, .ref (b 0))]) hx hb dX2_passTick_34 rfl hl (by decide) rfl (fun ls hl => ?_)
        refine lv_aload_n hx hb dX2_passTick_35 rfl (lv_at hl 0 rfl) ?_
        refine lv_ifnull hx hb dX2_passTick_36 ?_
        refine lv_aload_n hx hb dX2_passTick_39 rfl (lv_at hl 2 rfl) ?_
        refine va_get (D := G.1) (ci := 2) (v := .ref (a 9)) (C := RX2) (T := TX2) (N := 14) hx hb hts in_X2_passTick_RX2 hown hK.1 hP 0 rfl rfl 2 (by decide) (hts _ k_X2_passTick_f28) (fun _ h9 => h9) rfl dX2_passTick_40 ?_
        refine lv_iconst (v := (nI 0)) hx hb dX2_passTick_43 (by decide) ?_
        refine gcall_I (run_V (As := [.int (nI 0)]) (rest := []) C0 hK hP hD (c_X5_remove l G (a 9) (a 10) (v_c1 25) q H.size (nI 0)) (cwV 1 hts gX2_passTick_X5_remove rfl rfl rfl cd_X5_remove ⟨Nat.le_of_ble_eq_true rfl, Nat.le_of_ble_eq_true rfl⟩) [9, 10] rfl rfl 9 (ci := 5) rfl rfl rfl rfl hl.1 rfl (Nat.le_of_ble_eq_true rfl) dX2_passTick_44 ⟨Nat.le_of_ble_eq_true rfl, Nat.le_of_ble_eq_true rfl⟩) hP hD hS hA [9, 10] rfl rfl (fun _ => rfl) (fun r_8 u_8 H locs hw_8 hP hD hS => ?_)
        obtain ⟨ln_c8, q_c8⟩ := u_8
        have hP : va_P G.1 vwCl (LC G a (upd v_c1 25 ln_c8) q_c8 ++ LC G b ov_c4 oq_c4) H := hP
        have hD : va_D A (LC G a (upd v_c1 25 ln_c8) q_c8 ++ LC G b ov_c4 oq_c4) := hD
        refine lv_pop hx hb dX2_passTick_47 rfl ?_
        refine lv_aload_n hx hb dX2_passTick_48 rfl (lv_at hl 0 rfl) ?_
        refine lv_iload_n hx hb dX2_passTick_49 rfl (lv_at hl 1 rfl) ?_
        refine gcall_V (run_V (As := [.int (f_X5_kindAt (v_c1 25) q (nI 0))]) (rest := []) C0 hK hP hD (c_X3_put l G (a 5) (v_c1 13) (v_c1 17) (v_c1 21) H.size (f_X5_kindAt (v_c1 25) q (nI 0))) (cwV 1 hts gX2_passTick_X3_put rfl rfl rfl cd_X3_put ⟨Nat.le_of_ble_eq_true rfl, Nat.le_of_ble_eq_true rfl⟩) [5] rfl rfl 5 (ci := 3) rfl rfl rfl rfl hl.1 rfl (Nat.le_of_ble_eq_true rfl) dX2_passTick_50 ⟨Nat.le_of_ble_eq_true rfl, Nat.le_of_ble_eq_true rfl⟩) hP hD hS hA [5] rfl rfl (fun _ => rfl) (fun u_9 H locs hw_9 hP hD hS => ?_)
        obtain ⟨mk_c9, mt_c9, mw_c9⟩ := u_9
        simp only [f_X3_put, Prod.mk.injEq] at hw_9
        obtain ⟨rfl, rfl, rfl⟩ := hw_9
        have hP : va_P G.1 vwCl (LC G a (upd (upd (upd (upd v_c1 25 ln_c8) 13 (f_X5_kindAt (v_c1 25) q (nI 0))) 17 (f_X6_ticksOf (f_X5_kindAt (v_c1 25) q (nI 0)))) 21 (nI 0)) q_c8 ++ LC G b ov_c4 oq_c4) H := hP
        have hD : va_D A (LC G a (upd (upd (upd (upd v_c1 25 ln_c8) 13 (f_X5_kindAt (v_c1 25) q (nI 0))) 17 (f_X6_ticksOf (f_X5_kindAt (v_c1 25) q (nI 0)))) 21 (nI 0)) q_c8 ++ LC G b ov_c4 oq_c4) := hD
        refine lv_aload_n hx hb dX2_passTick_53 rfl (lv_at hl 2 rfl) ?_
        refine lv_dup hx hb dX2_passTick_54 rfl ?_
        refine va_get (D := G.1) (ci := 2) (v := .int (v_c1 40)) (C := RX2) (T := TX2) (N := 14) hx hb hts in_X2_passTick_RX2 hown hK.1 hP 0 rfl rfl 10 (by decide) (hts _ k_X2_passTick_f64) (fun _ h9 => h9) rfl dX2_passTick_55 ?_
        refine lv_iconst (v := (nI 1)) hx hb dX2_passTick_58 (by decide) ?_
        refine lv_iadd hx hb dX2_passTick_59 ?_
        refine va_put (D := G.1) (ci := 2) (v := .int ((v_c1 40) + (nI 1))) (ty := .int) (C := RX2) (T := TX2) (N := 14) hx hb hts in_X2_passTick_RX2 tyX2 tyX2_ok nmX2 hown hK.1 hP hD hS 0 rfl rfl 10 (by decide) (hts _ k_X2_passTick_f64) (fun _ h9 => h9) rfl (by decide +kernel) rfl rfl (Nat.le_of_ble_eq_true rfl) dX2_passTick_60 (fun H locs hP hD hS => ?_)
        have hP : va_P G.1 vwCl (LC G a (upd (upd (upd (upd (upd v_c1 25 ln_c8) 13 (f_X5_kindAt (v_c1 25) q (nI 0))) 17 (f_X6_ticksOf (f_X5_kindAt (v_c1 25) q (nI 0)))) 21 (nI 0)) 40 ((v_c1 40) + (nI 1))) q_c8 ++ LC G b ov_c4 oq_c4) H := hP
        have hD : va_D A (LC G a (upd (upd (upd (upd (upd v_c1 25 ln_c8) 13 (f_X5_kindAt (v_c1 25) q (nI 0))) 17 (f_X6_ticksOf (f_X5_kindAt (v_c1 25) q (nI 0)))) 21 (nI 0)) 40 ((v_c1 40) + (nI 1))) q_c8 ++ LC G b ov_c4 oq_c4) := hD
        exact end_V C0 hP hD hS ((upd (upd (upd (upd (upd v_c1 25 ln_c8) 13 (f_X5_kindAt (v_c1 25) q (nI 0))) 17 (f_X6_ticksOf (f_X5_kindAt (v_c1 25) q (nI 0)))) 21 (nI 0)) 40 ((v_c1 40) + (nI 1))), q_c8, ov_c4, oq_c4) (by simp only [f_X2_passTick, hw_1, if_neg c_3, hw_4, if_pos c_5, if_pos c_7, hw_8]) rfl dX2_passTick_63
      · by_cases c_10 : (v_c1 14) = (-5)
        · rw [show f_X2_lowestEmptyMachine a v_c1 = some (a 6) from by (simp only [f_X2_lowestEmptyMachine, f_X3_isEmpty, if_neg c_7, if_pos c_10, low0, low1, if_true, if_false])]
          refine W.eq (g2 := F0 m 34 ls ([.ref (a 6)])) rfl ?_
          refine lv_astore_n (lv' := [(3, .ref (a 6)), (2, .int (f_X5_kindAt (v_c1 25) q (nI 0))), (0, .ref (a 0)), (1, .ref (b 0))]) hx hb dX2_passTick_34 rfl hl (by decide) rfl (fun ls hl => ?_)
          refine lv_aload_n hx hb dX2_passTick_35 rfl (lv_at hl 0 rfl) ?_
          refine lv_ifnull hx hb dX2_passTick_36 ?_
          refine lv_aload_n hx hb dX2_passTick_39 rfl (lv_at hl 2 rfl) ?_
          refine va_get (D := G.1) (ci := 2) (v := .ref (a 9)) (C := RX2) (T := TX2) (N := 14) hx hb hts in_X2_passTick_RX2 hown hK.1 hP 0 rfl rfl 2 (by decide) (hts _ k_X2_passTick_f28) (fun _ h9 => h9) rfl dX2_passTick_40 ?_
          refine lv_iconst (v := (nI 0)) hx hb dX2_passTick_43 (by decide) ?_
          refine gcall_I (run_V (As := [.int (nI 0)]) (rest := []) C0 hK hP hD (c_X5_remove l G (a 9) (a 10) (v_c1 25) q H.size (nI 0)) (cwV 1 hts gX2_passTick_X5_remove rfl rfl rfl cd_X5_remove ⟨Nat.le_of_ble_eq_true rfl, Nat.le_of_ble_eq_true rfl⟩) [9, 10] rfl rfl 9 (ci := 5) rfl rfl rfl rfl hl.1 rfl (Nat.le_of_ble_eq_true rfl) dX2_passTick_44 ⟨Nat.le_of_ble_eq_true rfl, Nat.le_of_ble_eq_true rfl⟩) hP hD hS hA [9, 10] rfl rfl (fun _ => rfl) (fun r_11 u_11 H locs hw_11 hP hD hS => ?_)
          obtain ⟨ln_c11, q_c11⟩ := u_11
          have hP : va_P G.1 vwCl (LC G a (upd v_c1 25 ln_c11) q_c11 ++ LC G b ov_c4 oq_c4) H := hP
          have hD : va_D A (LC G a (upd v_c1 25 ln_c11) q_c11 ++ LC G b ov_c4 oq_c4) := hD
          refine lv_pop hx hb dX2_passTick_47 rfl ?_
          refine lv_aload_n hx hb dX2_passTick_48 rfl (lv_at hl 0 rfl) ?_
          refine lv_iload_n hx hb dX2_passTick_49 rfl (lv_at hl 1 rfl) ?_
          refine gcall_V (run_V (As := [.int (f_X5_kindAt (v_c1 25) q (nI 0))]) (rest := []) C0 hK hP hD (c_X3_put l G (a 6) (v_c1 14) (v_c1 18) (v_c1 22) H.size (f_X5_kindAt (v_c1 25) q (nI 0))) (cwV 1 hts gX2_passTick_X3_put rfl rfl rfl cd_X3_put ⟨Nat.le_of_ble_eq_true rfl, Nat.le_of_ble_eq_true rfl⟩) [6] rfl rfl 6 (ci := 3) rfl rfl rfl rfl hl.1 rfl (Nat.le_of_ble_eq_true rfl) dX2_passTick_50 ⟨Nat.le_of_ble_eq_true rfl, Nat.le_of_ble_eq_true rfl⟩) hP hD hS hA [6] rfl rfl (fun _ => rfl) (fun u_12 H locs hw_12 hP hD hS => ?_)
          obtain ⟨mk_c12, mt_c12, mw_c12⟩ := u_12
          simp only [f_X3_put, Prod.mk.injEq] at hw_12
          obtain ⟨rfl, rfl, rfl⟩ := hw_12
          have hP : va_P G.1 vwCl (LC G a (upd (upd (upd (upd v_c1 25 ln_c11) 14 (f_X5_kindAt (v_c1 25) q (nI 0))) 18 (f_X6_ticksOf (f_X5_kindAt (v_c1 25) q (nI 0)))) 22 (nI 0)) q_c11 ++ LC G b ov_c4 oq_c4) H := hP
          have hD : va_D A (LC G a (upd (upd (upd (upd v_c1 25 ln_c11) 14 (f_X5_kindAt (v_c1 25) q (nI 0))) 18 (f_X6_ticksOf (f_X5_kindAt (v_c1 25) q (nI 0)))) 22 (nI 0)) q_c11 ++ LC G b ov_c4 oq_c4) := hD
          refine lv_aload_n hx hb dX2_passTick_53 rfl (lv_at hl 2 rfl) ?_
          refine lv_dup hx hb dX2_passTick_54 rfl ?_
          refine va_get (D := G.1) (ci := 2) (v := .int (v_c1 40)) (C := RX2) (T := TX2) (N := 14) hx hb hts in_X2_passTick_RX2 hown hK.1 hP 0 rfl rfl 10 (by decide) (hts _ k_X2_passTick_f64) (fun _ h9 => h9) rfl dX2_passTick_55 ?_
          refine lv_iconst (v := (nI 1)) hx hb dX2_passTick_58 (by decide) ?_
          refine lv_iadd hx hb dX2_passTick_59 ?_
          refine va_put (D := G.1) (ci := 2) (v := .int ((v_c1 40) + (nI 1))) (ty := .int) (C := RX2) (T := TX2) (N := 14) hx hb hts in_X2_passTick_RX2 tyX2 tyX2_ok nmX2 hown hK.1 hP hD hS 0 rfl rfl 10 (by decide) (hts _ k_X2_passTick_f64) (fun _ h9 => h9) rfl (by decide +kernel) rfl rfl (Nat.le_of_ble_eq_true rfl) dX2_passTick_60 (fun H locs hP hD hS => ?_)
          have hP : va_P G.1 vwCl (LC G a (upd (upd (upd (upd (upd v_c1 25 ln_c11) 14 (f_X5_kindAt (v_c1 25) q (nI 0))) 18 (f_X6_ticksOf (f_X5_kindAt (v_c1 25) q (nI 0)))) 22 (nI 0)) 40 ((v_c1 40) + (nI 1))) q_c11 ++ LC G b ov_c4 oq_c4) H := hP
          have hD : va_D A (LC G a (upd (upd (upd (upd (upd v_c1 25 ln_c11) 14 (f_X5_kindAt (v_c1 25) q (nI 0))) 18 (f_X6_ticksOf (f_X5_kindAt (v_c1 25) q (nI 0)))) 22 (nI 0)) 40 ((v_c1 40) + (nI 1))) q_c11 ++ LC G b ov_c4 oq_c4) := hD
          exact end_V C0 hP hD hS ((upd (upd (upd (upd (upd v_c1 25 ln_c11) 14 (f_X5_kindAt (v_c1 25) q (nI 0))) 18 (f_X6_ticksOf (f_X5_kindAt (v_c1 25) q (nI 0)))) 22 (nI 0)) 40 ((v_c1 40) + (nI 1))), q_c11, ov_c4, oq_c4) (by simp only [f_X2_passTick, hw_1, if_neg c_3, hw_4, if_pos c_5, if_neg c_7, if_pos c_10, hw_11]) rfl dX2_passTick_63
        · by_cases c_13 : (v_c1 15) = (-5)
          · rw [show f_X2_lowestEmptyMachine a v_c1 = some (a 7) from by (simp only [f_X2_lowestEmptyMachine, f_X3_isEmpty, if_neg c_7, if_neg c_10, if_pos c_13, low0, low1, if_true, if_false])]
            refine W.eq (g2 := F0 m 34 ls ([.ref (a 7)])) rfl ?_
            refine lv_astore_n (lv' := [(3, .ref (a 7)), (2, .int (f_X5_kindAt (v_c1 25) q (nI 0))), (0, .ref (a 0)), (1, .ref (b 0))]) hx hb dX2_passTick_34 rfl hl (by decide) rfl (fun ls hl => ?_)
            refine lv_aload_n hx hb dX2_passTick_35 rfl (lv_at hl 0 rfl) ?_
            refine lv_ifnull hx hb dX2_passTick_36 ?_
            refine lv_aload_n hx hb dX2_passTick_39 rfl (lv_at hl 2 rfl) ?_
            refine va_get (D := G.1) (ci := 2) (v := .ref (a 9)) (C := RX2) (T := TX2) (N := 14) hx hb hts in_X2_passTick_RX2 hown hK.1 hP 0 rfl rfl 2 (by decide) (hts _ k_X2_passTick_f28) (fun _ h9 => h9) rfl dX2_passTick_40 ?_
            refine lv_iconst (v := (nI 0)) hx hb dX2_passTick_43 (by decide) ?_
            refine gcall_I (run_V (As := [.int (nI 0)]) (rest := []) C0 hK hP hD (c_X5_remove l G (a 9) (a 10) (v_c1 25) q H.size (nI 0)) (cwV 1 hts gX2_passTick_X5_remove rfl rfl rfl cd_X5_remove ⟨Nat.le_of_ble_eq_true rfl, Nat.le_of_ble_eq_true rfl⟩) [9, 10] rfl rfl 9 (ci := 5) rfl rfl rfl rfl hl.1 rfl (Nat.le_of_ble_eq_true rfl) dX2_passTick_44 ⟨Nat.le_of_ble_eq_true rfl, Nat.le_of_ble_eq_true rfl⟩) hP hD hS hA [9, 10] rfl rfl (fun _ => rfl) (fun r_14 u_14 H locs hw_14 hP hD hS => ?_)
            obtain ⟨ln_c14, q_c14⟩ := u_14
            have hP : va_P G.1 vwCl (LC G a (upd v_c1 25 ln_c14) q_c14 ++ LC G b ov_c4 oq_c4) H := hP
            have hD : va_D A (LC G a (upd v_c1 25 ln_c14) q_c14 ++ LC G b ov_c4 oq_c4) := hD
            refine lv_pop hx hb dX2_passTick_47 rfl ?_
            refine lv_aload_n hx hb dX2_passTick_48 rfl (lv_at hl 0 rfl) ?_
            refine lv_iload_n hx hb dX2_passTick_49 rfl (lv_at hl 1 rfl) ?_
            refine gcall_V (run_V (As := [.int (f_X5_kindAt (v_c1 25) q (nI 0))]) (rest := []) C0 hK hP hD (c_X3_put l G (a 7) (v_c1 15) (v_c1 19) (v_c1 23) H.size (f_X5_kindAt (v_c1 25) q (nI 0))) (cwV 1 hts gX2_passTick_X3_put rfl rfl rfl cd_X3_put ⟨Nat.le_of_ble_eq_true rfl, Nat.le_of_ble_eq_true rfl⟩) [7] rfl rfl 7 (ci := 3) rfl rfl rfl rfl hl.1 rfl (Nat.le_of_ble_eq_true rfl) dX2_passTick_50 ⟨Nat.le_of_ble_eq_true rfl, Nat.le_of_ble_eq_true rfl⟩) hP hD hS hA [7] rfl rfl (fun _ => rfl) (fun u_15 H locs hw_15 hP hD hS => ?_)
            obtain ⟨mk_c15, mt_c15, mw_c15⟩ := u_15
            simp only [f_X3_put, Prod.mk.injEq] at hw_15
            obtain ⟨rfl, rfl, rfl⟩ := hw_15
            have hP : va_P G.1 vwCl (LC G a (upd (upd (upd (upd v_c1 25 ln_c14) 15 (f_X5_kindAt (v_c1 25) q (nI 0))) 19 (f_X6_ticksOf (f_X5_kindAt (v_c1 25) q (nI 0)))) 23 (nI 0)) q_c14 ++ LC G b ov_c4 oq_c4) H := hP
            have hD : va_D A (LC G a (upd (upd (upd (upd v_c1 25 ln_c14) 15 (f_X5_kindAt (v_c1 25) q (nI 0))) 19 (f_X6_ticksOf (f_X5_kindAt (v_c1 25) q (nI 0)))) 23 (nI 0)) q_c14 ++ LC G b ov_c4 oq_c4) := hD
            refine lv_aload_n hx hb dX2_passTick_53 rfl (lv_at hl 2 rfl) ?_
            refine lv_dup hx hb dX2_passTick_54 rfl ?_
            refine va_get (D := G.1) (ci := 2) (v := .int (v_c1 40)) (C := RX2) (T := TX2) (N := 14) hx hb hts in_X2_passTick_RX2 hown hK.1 hP 0 rfl rfl 10 (by decide) (hts _ k_X2_passTick_f64) (fun _ h9 => h9) rfl dX2_passTick_55 ?_
            refine lv_iconst (v := (nI 1)) hx hb dX2_passTick_58 (by decide) ?_
            refine lv_iadd hx hb dX2_passTick_59 ?_
            refine va_put (D := G.1) (ci := 2) (v := .int ((v_c1 40) + (nI 1))) (ty := .int) (C := RX2) (T := TX2) (N := 14) hx hb hts in_X2_passTick_RX2 tyX2 tyX2_ok nmX2 hown hK.1 hP hD hS 0 rfl rfl 10 (by decide) (hts _ k_X2_passTick_f64) (fun _ h9 => h9) rfl (by decide +kernel) rfl rfl (Nat.le_of_ble_eq_true rfl) dX2_passTick_60 (fun H locs hP hD hS => ?_)
            have hP : va_P G.1 vwCl (LC G a (upd (upd (upd (upd (upd v_c1 25 ln_c14) 15 (f_X5_kindAt (v_c1 25) q (nI 0))) 19 (f_X6_ticksOf (f_X5_kindAt (v_c1 25) q (nI 0)))) 23 (nI 0)) 40 ((v_c1 40) + (nI 1))) q_c14 ++ LC G b ov_c4 oq_c4) H := hP
            have hD : va_D A (LC G a (upd (upd (upd (upd (upd v_c1 25 ln_c14) 15 (f_X5_kindAt (v_c1 25) q (nI 0))) 19 (f_X6_ticksOf (f_X5_kindAt (v_c1 25) q (nI 0)))) 23 (nI 0)) 40 ((v_c1 40) + (nI 1))) q_c14 ++ LC G b ov_c4 oq_c4) := hD
            exact end_V C0 hP hD hS ((upd (upd (upd (upd (upd v_c1 25 ln_c14) 15 (f_X5_kindAt (v_c1 25) q (nI 0))) 19 (f_X6_ticksOf (f_X5_kindAt (v_c1 25) q (nI 0)))) 23 (nI 0)) 40 ((v_c1 40) + (nI 1))), q_c14, ov_c4, oq_c4) (by simp only [f_X2_passTick, hw_1, if_neg c_3, hw_4, if_pos c_5, if_neg c_7, if_neg c_10, if_pos c_13, hw_14]) rfl dX2_passTick_63
          · by_cases c_16 : (v_c1 16) = (-5)
            · rw [show f_X2_lowestEmptyMachine a v_c1 = some (a 8) from by (simp only [f_X2_lowestEmptyMachine, f_X3_isEmpty, if_neg c_7, if_neg c_10, if_neg c_13, if_pos c_16, low0, low1, if_true, if_false])]
              refine W.eq (g2 := F0 m 34 ls ([.ref (a 8)])) rfl ?_
              refine lv_astore_n (lv' := [(3, .ref (a 8)), (2, .int (f_X5_kindAt (v_c1 25) q (nI 0))), (0, .ref (a 0)), (1, .ref (b 0))]) hx hb dX2_passTick_34 rfl hl (by decide) rfl (fun ls hl => ?_)
              refine lv_aload_n hx hb dX2_passTick_35 rfl (lv_at hl 0 rfl) ?_
              refine lv_ifnull hx hb dX2_passTick_36 ?_
              refine lv_aload_n hx hb dX2_passTick_39 rfl (lv_at hl 2 rfl) ?_
              refine va_get (D := G.1) (ci := 2) (v := .ref (a 9)) (C := RX2) (T := TX2) (N := 14) hx hb hts in_X2_passTick_RX2 hown hK.1 hP 0 rfl rfl 2 (by decide) (hts _ k_X2_passTick_f28) (fun _ h9 => h9) rfl dX2_passTick_40 ?_
              refine lv_iconst (v := (nI 0)) hx hb dX2_passTick_43 (by decide) ?_
              refine gcall_I (run_V (As := [.int (nI 0)]) (rest := []) C0 hK hP hD (c_X5_remove l G (a 9) (a 10) (v_c1 25) q H.size (nI 0)) (cwV 1 hts gX2_passTick_X5_remove rfl rfl rfl cd_X5_remove ⟨Nat.le_of_ble_eq_true rfl, Nat.le_of_ble_eq_true rfl⟩) [9, 10] rfl rfl 9 (ci := 5) rfl rfl rfl rfl hl.1 rfl (Nat.le_of_ble_eq_true rfl) dX2_passTick_44 ⟨Nat.le_of_ble_eq_true rfl, Nat.le_of_ble_eq_true rfl⟩) hP hD hS hA [9, 10] rfl rfl (fun _ => rfl) (fun r_17 u_17 H locs hw_17 hP hD hS => ?_)
              obtain ⟨ln_c17, q_c17⟩ := u_17
              have hP : va_P G.1 vwCl (LC G a (upd v_c1 25 ln_c17) q_c17 ++ LC G b ov_c4 oq_c4) H := hP
              have hD : va_D A (LC G a (upd v_c1 25 ln_c17) q_c17 ++ LC G b ov_c4 oq_c4) := hD
              refine lv_pop hx hb dX2_passTick_47 rfl ?_
              refine lv_aload_n hx hb dX2_passTick_48 rfl (lv_at hl 0 rfl) ?_
              refine lv_iload_n hx hb dX2_passTick_49 rfl (lv_at hl 1 rfl) ?_
              refine gcall_V (run_V (As := [.int (f_X5_kindAt (v_c1 25) q (nI 0))]) (rest := []) C0 hK hP hD (c_X3_put l G (a 8) (v_c1 16) (v_c1 20) (v_c1 24) H.size (f_X5_kindAt (v_c1 25) q (nI 0))) (cwV 1 hts gX2_passTick_X3_put rfl rfl rfl cd_X3_put ⟨Nat.le_of_ble_eq_true rfl, Nat.le_of_ble_eq_true rfl⟩) [8] rfl rfl 8 (ci := 3) rfl rfl rfl rfl hl.1 rfl (Nat.le_of_ble_eq_true rfl) dX2_passTick_50 ⟨Nat.le_of_ble_eq_true rfl, Nat.le_of_ble_eq_true rfl⟩) hP hD hS hA [8] rfl rfl (fun _ => rfl) (fun u_18 H locs hw_18 hP hD hS => ?_)
              obtain ⟨mk_c18, mt_c18, mw_c18⟩ := u_18
              simp only [f_X3_put, Prod.mk.injEq] at hw_18
              obtain ⟨rfl, rfl, rfl⟩ := hw_18
              have hP : va_P G.1 vwCl (LC G a (upd (upd (upd (upd v_c1 25 ln_c17) 16 (f_X5_kindAt (v_c1 25) q (nI 0))) 20 (f_X6_ticksOf (f_X5_kindAt (v_c1 25) q (nI 0)))) 24 (nI 0)) q_c17 ++ LC G b ov_c4 oq_c4) H := hP
              have hD : va_D A (LC G a (upd (upd (upd (upd v_c1 25 ln_c17) 16 (f_X5_kindAt (v_c1 25) q (nI 0))) 20 (f_X6_ticksOf (f_X5_kindAt (v_c1 25) q (nI 0)))) 24 (nI 0)) q_c17 ++ LC G b ov_c4 oq_c4) := hD
              refine lv_aload_n hx hb dX2_passTick_53 rfl (lv_at hl 2 rfl) ?_
              refine lv_dup hx hb dX2_passTick_54 rfl ?_
              refine va_get (D := G.1) (ci := 2) (v := .int (v_c1 40)) (C := RX2) (T := TX2) (N := 14) hx hb hts in_X2_passTick_RX2 hown hK.1 hP 0 rfl rfl 10 (by decide) (hts _ k_X2_passTick_f64) (fun _ h9 => h9) rfl dX2_passTick_55 ?_
              refine lv_iconst (v := (nI 1)) hx hb dX2_passTick_58 (by decide) ?_
              refine lv_iadd hx hb dX2_passTick_59 ?_
              refine va_put (D := G.1) (ci := 2) (v := .int ((v_c1 40) + (nI 1))) (ty := .int) (C := RX2) (T := TX2) (N := 14) hx hb hts in_X2_passTick_RX2 tyX2 tyX2_ok nmX2 hown hK.1 hP hD hS 0 rfl rfl 10 (by decide) (hts _ k_X2_passTick_f64) (fun _ h9 => h9) rfl (by decide +kernel) rfl rfl (Nat.le_of_ble_eq_true rfl) dX2_passTick_60 (fun H locs hP hD hS => ?_)
              have hP : va_P G.1 vwCl (LC G a (upd (upd (upd (upd (upd v_c1 25 ln_c17) 16 (f_X5_kindAt (v_c1 25) q (nI 0))) 20 (f_X6_ticksOf (f_X5_kindAt (v_c1 25) q (nI 0)))) 24 (nI 0)) 40 ((v_c1 40) + (nI 1))) q_c17 ++ LC G b ov_c4 oq_c4) H := hP
              have hD : va_D A (LC G a (upd (upd (upd (upd (upd v_c1 25 ln_c17) 16 (f_X5_kindAt (v_c1 25) q (nI 0))) 20 (f_X6_ticksOf (f_X5_kindAt (v_c1 25) q (nI 0)))) 24 (nI 0)) 40 ((v_c1 40) + (nI 1))) q_c17 ++ LC G b ov_c4 oq_c4) := hD
              exact end_V C0 hP hD hS ((upd (upd (upd (upd (upd v_c1 25 ln_c17) 16 (f_X5_kindAt (v_c1 25) q (nI 0))) 20 (f_X6_ticksOf (f_X5_kindAt (v_c1 25) q (nI 0)))) 24 (nI 0)) 40 ((v_c1 40) + (nI 1))), q_c17, ov_c4, oq_c4) (by simp only [f_X2_passTick, hw_1, if_neg c_3, hw_4, if_pos c_5, if_neg c_7, if_neg c_10, if_neg c_13, if_pos c_16, hw_17]) rfl dX2_passTick_63
            · rw [show f_X2_lowestEmptyMachine a v_c1 = none from by (simp only [f_X2_lowestEmptyMachine, f_X3_isEmpty, if_neg c_7, if_neg c_10, if_neg c_13, if_neg c_16, low0, low1, if_true, if_false])]
              refine W.eq (g2 := F0 m 34 ls ([.null])) rfl ?_
              refine lv_astore_nN (lv' := [(3, .null), (2, .int (f_X5_kindAt (v_c1 25) q (nI 0))), (0, .ref (a 0)), (1, .ref (b 0))]) hx hb dX2_passTick_34 rfl hl (by decide) rfl (fun ls hl => ?_)
              refine lv_aload_nN hx hb dX2_passTick_35 rfl (lv_at hl 0 rfl) ?_
              refine lv_ifnullN (tgt := 63) hx hb dX2_passTick_36 (by decide) ?_
              exact end_V C0 hP hD hS (v_c1, q, ov_c4, oq_c4) (by simp only [f_X2_passTick, hw_1, if_neg c_3, hw_4, if_pos c_5, if_neg c_7, if_neg c_10, if_neg c_13, if_neg c_16]) rfl dX2_passTick_63
    · exact end_V C0 hP hD hS (v_c1, q, ov_c4, oq_c4) (by simp only [f_X2_passTick, hw_1, if_neg c_3, hw_4, if_neg c_5]) rfl dX2_passTick_29

def s_X2_letPass_36 (p0 : Int32) : Nat → (Nat → Int32) → (Nat → Int32) → (Nat → Int32) → (Nat → Int32) → Int32 → Nat → Int32 × (Nat → Int32) × (Nat → Int32) × (Nat → Int32) × (Nat → Int32)
  | 0, _, _, _, _, _, _ => (0, fun _ => 0, fun _ => 0, fun _ => 0, fun _ => 0)
  | n + 1, v_36, q_36, ov_36, oq_36, x, i =>
    if p0 ≤ (nI i) then
      (((v_36 41) - x), v_36, q_36, ov_36, oq_36)
    else
      match f_X2_passTick v_36 q_36 ov_36 oq_36 with
      | (v_c5, q_c5, ov_c5, oq_c5) =>
        s_X2_letPass_36 p0 n v_c5 q_c5 ov_c5 oq_c5 x (i + 1)
def f_X2_letPass (v : (Nat → Int32)) (q : (Nat → Int32)) (ov : (Nat → Int32)) (oq : (Nat → Int32)) (p0 : Int32) : Int32 × (Nat → Int32) × (Nat → Int32) × (Nat → Int32) × (Nat → Int32) :=
  if (f_X6_isWithin p0 (nI 1) (nI 200)) = 0 then
    ((-2), v, q, ov, oq)
  else
    if ((v 12) + p0) ≤ (nI 99999) then
      s_X2_letPass_36 p0 (p0.toNatClampNeg + 1) v q ov oq (v 41) 0
    else
      ((-3), v, q, ov, oq)
set_option maxRecDepth 20000 in
theorem k_X2_letPass_c138 : Cond.constant RX2 138 (99999) ∈ wsX2_letPass := by decide +kernel
set_option maxRecDepth 20000 in
theorem k_X2_letPass_f49 : Cond.fieldLink RX2 49 "SteamRations$Laundry" "ticks" "I" ∈ wsX2_letPass := by decide +kernel
set_option maxRecDepth 20000 in
theorem k_X2_letPass_f52 : Cond.fieldLink RX2 52 "SteamRations$Laundry" "washed" "I" ∈ wsX2_letPass := by decide +kernel
set_option maxRecDepth 20000 in
theorem in_X2_letPass_RX2 : ∀ w ∈ u_ws RX2 TX2 14, w ∈ wsX2_letPass := by decide +kernel
theorem cd_X2_letPass : yX2_letPass.cls = RX2 ∧ yX2_letPass.cls ≠ "java/lang/invoke/MethodHandle" ∧ yX2_letPass.cls ≠ "java/lang/invoke/VarHandle" ∧ (parseMethodDescriptor yX2_letPass.desc).map (fun d => d.parameters.length) = some 2 := by decide +kernel
set_option maxHeartbeats 4000000 in
set_option maxRecDepth 100000 in
theorem c_X2_letPass (l : Launch) (G : GG) (a : Nat → Nat) (b : Nat → Nat) (v : (Nat → Int32)) (q : (Nat → Int32)) (ov : (Nat → Int32)) (oq : (Nat → Int32)) (sz : Nat) (p0 : Int32)  : Met l yX2_letPass wsX2_letPass ({ frames := 5, cells := 0, slots := 0, locals := 135 }) (Pre G [.ref (a 0), .int p0, .ref (b 0)] (LC G a v q ++ LC G b ov oq) sz) (PI G (va_A (LC G a v q ++ LC G b ov oq) sz) (fun r (u : (Nat → Int32) × (Nat → Int32) × (Nat → Int32) × (Nat → Int32)) => f_X2_letPass v q ov oq p0 = (r, u)) (fun u : (Nat → Int32) × (Nat → Int32) × (Nat → Int32) × (Nat → Int32) => LC G a u.1 u.2.1 ++ LC G b u.2.2.1 u.2.2.2)) 0 0 (va_A (LC G a v q ++ LC G b ov oq) sz) := by
  refine Met.walk (cc := cX2_letPass) (maxL := 5) (ret := (some .int)) (Qc := fun A => PI G A (fun r (u : (Nat → Int32) × (Nat → Int32) × (Nat → Int32) × (Nat → Int32)) => f_X2_letPass v q ov oq p0 = (r, u)) (fun u : (Nat → Int32) × (Nat → Int32) × (Nat → Int32) × (Nat → Int32) => LC G a u.1 u.2.1 ++ LC G b u.2.2.1 u.2.2.2)) (by decide) rfl (Nat.le_of_ble_eq_true rfl) ?_
  intro p e s m below meth c A H C0 _ hK hsz hP hD hA hS ls hl
  have hx := C0.1
  have hb := C0.2.1
  have hown : s.vm.findClass RX2 = some m.cls := C0.2.2.2.2.1
  have hml := C0.2.2.2.1
  have hts : ∀ w ∈ wsX2_letPass, w.before [.ref (a 0), .int p0, .ref (b 0)].toArray s = true := C0.2.2.2.2.2.1
  have hl : lv_has ls 5 [(0, .ref (a 0)), (1, .int p0), (2, .ref (b 0))] := hl
  have hN := natBig p0
  have h_X2_letPass_36 : ∀ (n : Nat) (v_36 : (Nat → Int32)) (q_36 : (Nat → Int32)) (ov_36 : (Nat → Int32)) (oq_36 : (Nat → Int32)) (x : Int32) (i : Nat), p0.toNatClampNeg - i < n → (i ≤ p0.toNatClampNeg) → f_X2_letPass v q ov oq p0 = s_X2_letPass_36 p0 n v_36 q_36 ov_36 oq_36 x i → ∀ (H : Heap) (locs : List Loc) (ls : Array Slot), va_P G.1 vwCl (LC G a v_36 q_36 ++ LC G b ov_36 oq_36) H → va_D A (LC G a v_36 q_36 ++ LC G b ov_36 oq_36) → va_S A s.heap H locs → lv_has ls 5 [(4, .int (nI i)), (3, .int x), (0, .ref (a 0)), (1, .int p0), (2, .ref (b 0))] → W p l e ({ frames := 5, cells := 0, slots := 0, locals := 135 }) s m ([.ref (a 0), .int p0, .ref (b 0)] : List Value).toArray below meth c H locs 0 0 (MQ below (PI G A (fun r (u : (Nat → Int32) × (Nat → Int32) × (Nat → Int32) × (Nat → Int32)) => f_X2_letPass v q ov oq p0 = (r, u)) (fun u : (Nat → Int32) × (Nat → Int32) × (Nat → Int32) × (Nat → Int32) => LC G a u.1 u.2.1 ++ LC G b u.2.2.1 u.2.2.2)) ([.ref (a 0), .int p0, .ref (b 0)] : List Value).toArray s 0 0 A) (F0 m 36 ls []) := by
    intro n
    induction n with
    | zero =>
      intro v_36 q_36 ov_36 oq_36 x i hm
      exact absurd hm (Nat.not_lt_zero _)
    | succ n ih =>
      intro v_36 q_36 ov_36 oq_36 x i hm hi hE H locs ls hP hD hS hl
      refine lv_iload hx hb dX2_letPass_36 (lv_at hl 0 rfl) ?_
      refine lv_iload_n hx hb dX2_letPass_38 rfl (lv_at hl 3 rfl) ?_
      refine lv_icmp_ge (tgt := 53) hx hb dX2_letPass_39 (by decide) (fun c_4 => ?_) (fun c_4 => ?_)
      · refine lv_aload_n hx hb dX2_letPass_53 rfl (lv_at hl 2 rfl) ?_
        refine va_get (D := G.1) (ci := 2) (v := .int (v_36 41)) (C := RX2) (T := TX2) (N := 14) hx hb hts in_X2_letPass_RX2 hown hK.1 hP 0 rfl rfl 4 (by decide) (hts _ k_X2_letPass_f52) (fun _ h9 => h9) rfl dX2_letPass_54 ?_
        refine lv_iload_n hx hb dX2_letPass_57 rfl (lv_at hl 1 rfl) ?_
        refine lv_isub hx hb dX2_letPass_58 ?_
        exact end_I C0 hP hD hS (v_36, q_36, ov_36, oq_36) (hE.trans (by simp only [s_X2_letPass_36, if_pos c_4])) rfl dX2_letPass_59
      · have c_4g : i < p0.toNatClampNeg := ltNat c_4 (by omega)
        refine lv_aload_n hx hb dX2_letPass_42 rfl (lv_at hl 2 rfl) ?_
        refine lv_aload_n hx hb dX2_letPass_43 rfl (lv_at hl 4 rfl) ?_
        have hW : BW G A [LC G a v_36 q_36, LC G b ov_36 oq_36] H := BW.of hP hD
        refine gcallB_V (bc := [LC G a v_36 q_36, LC G b ov_36 oq_36]) (runB_V (As := [.ref (b 0)]) (rest := []) (bc := [LC G a v_36 q_36, LC G b ov_36 oq_36]) C0 hK hW (c_X2_passTick l G a b v_36 q_36 ov_36 oq_36 H.size ) (cwV 1 hts gX2_letPass_X2_passTick rfl rfl rfl cd_X2_passTick ⟨Nat.le_of_ble_eq_true rfl, Nat.le_of_ble_eq_true rfl⟩) [0, 1] rfl rfl rfl 0 0 rfl (ci := 2) rfl rfl rfl rfl hl.1 rfl (Nat.le_of_ble_eq_true rfl) dX2_letPass_44 ⟨Nat.le_of_ble_eq_true rfl, Nat.le_of_ble_eq_true rfl⟩) hW hS hA [0, 1] rfl rfl rfl (fun u => [LC G a u.1 u.2.1, LC G b u.2.2.1 u.2.2.2]) (fun _ => rfl) (fun _ => rfl) (fun u_5 H locs hw_5 hW hS => ?_)
        obtain ⟨hP, hD⟩ := hW.flat
        obtain ⟨v_c5, q_c5, ov_c5, oq_c5⟩ := u_5
        have hP : va_P G.1 vwCl (LC G a v_c5 q_c5 ++ LC G b ov_c5 oq_c5) H := hP
        have hD : va_D A (LC G a v_c5 q_c5 ++ LC G b ov_c5 oq_c5) := hD
        refine lv_iinc (v := (nI (i + 1))) (lv' := [(4, .int (nI (i + 1))), (3, .int x), (0, .ref (a 0)), (1, .int p0), (2, .ref (b 0))]) hx hb dX2_letPass_47 hl (k := 0) rfl (inc1 i) (by decide) rfl (fun ls hl => ?_)
        refine lv_goto (tgt := 36) hx hb dX2_letPass_50 (by decide) ?_
        exact ih v_c5 q_c5 ov_c5 oq_c5 x (i + 1) (by omega) (by omega) (hE.trans (by simp only [s_X2_letPass_36, if_neg c_4, hw_5])) _ _ _ hP hD hS (lv_sub hl [0, 1, 2, 3, 4] rfl)
  refine lv_iload_n hx hb dX2_letPass_0 rfl (lv_at hl 1 rfl) ?_
  refine lv_iconst (v := (nI 1)) hx hb dX2_letPass_1 (by decide) ?_
  refine lv_sipush (v := (nI 200)) hx hb dX2_letPass_2 (by decide) ?_
  refine gcall_I (run_SN (As := [.int p0, .int (nI 1), .int (nI 200)]) (rest := []) C0 hK hP hD (c_X6_isWithin l G   H.size p0 (nI 1) (nI 200)) (va_cnB 3 hts gX2_letPass_X6_isWithin_n100 rfl rfl rfl hK.2.1 (hts _ (by decide +kernel)) cd2_X6_isWithin ⟨Nat.le_of_ble_eq_true rfl, Nat.le_of_ble_eq_true rfl⟩) (hts _ (by decide +kernel)) [] rfl rfl rfl hl.1 rfl (Nat.le_of_ble_eq_true rfl) dX2_letPass_5 ⟨Nat.le_of_ble_eq_true rfl, Nat.le_of_ble_eq_true rfl⟩) hP hD hS hA [] rfl rfl (fun _ => rfl) (fun r_1 _ H locs hw_1 hP hD hS => ?_)
  have hz_r_1 := hw_1.2
  have hw_1 := hw_1.1
  subst hw_1
  have hP : va_P G.1 vwCl (LC G a v q ++ LC G b ov oq) H := hP
  have hD : va_D A (LC G a v q ++ LC G b ov oq) := hD
  refine lv_if_ne (tgt := 14) hx hb dX2_letPass_8 (by decide) (fun c_2 => ?_) (fun c_2 => ?_)
  · refine lv_aload_n hx hb dX2_letPass_14 rfl (lv_at hl 0 rfl) ?_
    refine va_get (D := G.1) (ci := 2) (v := .int (v 12)) (C := RX2) (T := TX2) (N := 14) hx hb hts in_X2_letPass_RX2 hown hK.1 hP 0 rfl rfl 3 (by decide) (hts _ k_X2_letPass_f49) (fun _ h9 => h9) rfl dX2_letPass_15 ?_
    refine lv_iload_n hx hb dX2_letPass_18 rfl (lv_at hl 1 rfl) ?_
    refine lv_iadd hx hb dX2_letPass_19 ?_
    refine lv_ldc (v := (nI 99999)) hx hb hown (hts _ k_X2_letPass_c138) dX2_letPass_20 ?_
    refine lv_icmp_le (tgt := 28) hx hb dX2_letPass_22 (by decide) (fun c_3 => ?_) (fun c_3 => ?_)
    · refine lv_aload_n hx hb dX2_letPass_28 rfl (lv_at hl 0 rfl) ?_
      refine va_get (D := G.1) (ci := 2) (v := .int (v 41)) (C := RX2) (T := TX2) (N := 14) hx hb hts in_X2_letPass_RX2 hown hK.1 hP 0 rfl rfl 4 (by decide) (hts _ k_X2_letPass_f52) (fun _ h9 => h9) rfl dX2_letPass_29 ?_
      refine lv_istore_n (lv' := [(3, .int (v 41)), (0, .ref (a 0)), (1, .int p0), (2, .ref (b 0))]) hx hb dX2_letPass_32 rfl hl (by decide) rfl (fun ls hl => ?_)
      refine lv_iconst (v := (nI 0)) hx hb dX2_letPass_33 (by decide) ?_
      refine lv_istore (lv' := [(4, .int (nI 0)), (3, .int (v 41)), (0, .ref (a 0)), (1, .int p0), (2, .ref (b 0))]) hx hb dX2_letPass_34 hl (by decide) rfl (fun ls hl => ?_)
      exact h_X2_letPass_36 (p0.toNatClampNeg + 1) v q ov oq (v 41) 0 (by omega) (by omega) (by simp only [f_X2_letPass, if_neg c_2, if_pos c_3]) _ _ _ hP hD hS (lv_sub hl [0, 1, 2, 3, 4] rfl)
    · refine lv_bipush (v := (-3)) hx hb dX2_letPass_25 (by decide) ?_
      exact end_I C0 hP hD hS (v, q, ov, oq) (by simp only [f_X2_letPass, if_neg c_2, if_neg c_3]) rfl dX2_letPass_27
  · refine lv_bipush (v := (-2)) hx hb dX2_letPass_11 (by decide) ?_
    exact end_I C0 hP hD hS (v, q, ov, oq) (by simp only [f_X2_letPass, if_pos c_2]) rfl dX2_letPass_13
