/-! hangs: accounts and ranges -/
abbrev RH : Room := { frames := 6, cells := 0, slots := 0, locals := 160 }
def KW (p : Program) (l : Launch) (e : Env) (R : Room) (s : State) (m : MethodId) (args : Array Value) (below : List Frame) (meth : Method) (c : Code) (cells slots : Nat) (Q : State → Prop) (A : Nat → Prop) (G : GG) (d : AD) (nv nq : Nat → Int32) (hn : Nat) (vs qs : Nat → Nat → Int32) (nL pc : Nat) (lv : List (Nat × Value)) (st : List Value) : Prop := ∀ (H : Heap) (locs : List Loc) (ls : Array Slot), WD G A d nv nq hn vs qs H → va_S A s.heap H locs → lv_has ls nL lv → W p l e R s m args below meth c H locs cells slots Q (F0 m pc ls st)
theorem mach0 {nv : Nat → Int32} {i : Nat} (hi : i < 4) : f_X6_machine nv (nI i) (nI 0) = nv (13 + i) := mach hi (by omega)
theorem mach1 {nv : Nat → Int32} {i : Nat} (hi : i < 4) : f_X6_machine nv (nI i) (nI 1) = nv (17 + i) := by
  rw [mach hi (by omega), show 13 + i + 4 * 1 = 17 + i by omega]
theorem mach2 {nv : Nat → Int32} {i : Nat} (hi : i < 4) : f_X6_machine nv (nI i) (nI 2) = nv (21 + i) := by
  rw [mach hi (by omega), show 13 + i + 4 * 2 = 21 + i by omega]
theorem eqsub {a b c : Int32} (h : a + b = c) : a = c - b := by
  rw [← h, Int32.add_sub_cancel]
theorem line_k {nv nq : Nat → Int32} {n k : Nat} (h : nv 25 = nI n) (hn : n ≤ 12) (hk : k < n) : f_X6_line nv nq (nI k) = nq k := by
  unfold f_X6_line
  rw [if_pos (nI_ge0 (by omega)), h, kind_p hn hk]
theorem line_o {nv nq : Nat → Int32} {n : Nat} (h : nv 25 = nI n) (hn : n ≤ 12) : f_X6_line nv nq (nI n) = -5 := by
  unfold f_X6_line
  rw [if_pos (nI_ge0 (by omega)), h, kind_out hn (Nat.le_refl _) (by omega)]
theorem K3_0 {x : Int32} (h : K3 x) : ¬ x < 0 := by
  rcases h with rfl | rfl | rfl <;> decide
theorem K3_3 {x : Int32} (h : K3 x) : ¬ nI 3 ≤ x := by
  rcases h with rfl | rfl | rfl <;> decide
theorem ap_e {v : Nat → Int32} : f_X2_allPressure v = v 4 + v 5 := by
  unfold f_X2_allPressure
  rw [nI0, Int32.zero_add]
theorem BO2 {t : Int} {v : Nat → Int32} {b : Nat} (h : Iv t v) (hb : b < 2) : BO t (v b) (v (2 + b)) (v (4 + b)) (v (6 + b)) (v (8 + b)) := by
  rcases (show b = 0 ∨ b = 1 by omega) with rfl | rfl
  · exact h.1.1
  · exact h.1.2
theorem boil0 {nv : Nat → Int32} {b : Nat} (hb : b < 2) : f_X6_boiler nv (nI b) (nI 0) = nv (b) := by
  rw [boil hb (by omega), show b + 2 * 0 = b by omega]
theorem boil1 {nv : Nat → Int32} {b : Nat} (hb : b < 2) : f_X6_boiler nv (nI b) (nI 1) = nv (2 + b) := by
  rw [boil hb (by omega), show b + 2 * 1 = 2 + b by omega]
theorem boil2 {nv : Nat → Int32} {b : Nat} (hb : b < 2) : f_X6_boiler nv (nI b) (nI 2) = nv (4 + b) := by
  rw [boil hb (by omega), show b + 2 * 2 = 4 + b by omega]
theorem boil3 {nv : Nat → Int32} {b : Nat} (hb : b < 2) : f_X6_boiler nv (nI b) (nI 3) = nv (6 + b) := by
  rw [boil hb (by omega), show b + 2 * 3 = 6 + b by omega]
theorem boil4 {nv : Nat → Int32} {b : Nat} (hb : b < 2) : f_X6_boiler nv (nI b) (nI 4) = nv (8 + b) := by
  rw [boil hb (by omega), show b + 2 * 4 = 8 + b by omega]
set_option maxHeartbeats 4000000 in
theorem hg_A {p : Program} {l : Launch} {e : Env} {s : State} {m : MethodId} {args : Array Value} {below : List Frame} {meth : Method} {c : Code} {Q : State → Prop} {A : Nat → Prop} {G : GG} {d : AD} {nv nq : Nat → Int32} {hn : Nat} {vs qs : Nat → Nat → Int32} {t : Int} (X : Cx p s m args meth c cL_hangs 7 wsB RL (some .boolean)) (hK : KN G s) (hA : ∀ q : Nat, s.heap.size ≤ q → A q) (hI : Iv t nv) (ht : t ≤ 100000) (kk : KW p l e RH s m args below meth c 0 0 Q A G d nv nq hn vs qs 7 51 [(0, .ref d.1), (1, .int (nI 0)), (2, .int (nI 1)), (3, .int (nI 0))] []) : KW p l e RH s m args below meth c 0 0 Q A G d nv nq hn vs qs 7 0 [(0, .ref d.1)] [] := by
  have hx := X.1
  have hb : c.code = cL_hangs := X.2.1
  intro H locs ls hW hS hl
  obtain ⟨-, -, ⟨⟨hc, -⟩, he⟩, -⟩ := hI
  refine lv_iconst (v := nI 0) hx hb dL_hangs_0 (by decide) ?_
  refine lv_istore_n (lv' := [(1, .int (nI 0)), (0, .ref d.1)]) hx hb dL_hangs_1 rfl hl (by decide) rfl (fun ls hl => ?_)
  refine lv_aload_n hx hb dL_hangs_2 rfl (lv_at hl 1 rfl) ?_
  refine lv_iconst (v := nI 1) hx hb dL_hangs_3 (by decide) ?_
  refine k_count (rest := []) X hK hA hW hS hl.1 (Nat.le_of_ble_eq_true rfl) ⟨Nat.le_of_ble_eq_true rfl, Nat.le_of_ble_eq_true rfl⟩ ⟨Nat.le_of_ble_eq_true rfl, Nat.le_of_ble_eq_true rfl⟩ dL_hangs_4 (fun H locs hW hS => ?_)
  rw [cnt1]
  refine lv_bipush (v := nI 50) hx hb dL_hangs_7 (by decide) ?_
  refine lv_aload_n hx hb dL_hangs_9 rfl (lv_at hl 1 rfl) ?_
  refine lv_iconst (v := nI 3) hx hb dL_hangs_10 (by decide) ?_
  refine k_count (rest := [.int (nI 50), .int (nv 10)]) X hK hA hW hS hl.1 (Nat.le_of_ble_eq_true rfl) ⟨Nat.le_of_ble_eq_true rfl, Nat.le_of_ble_eq_true rfl⟩ ⟨Nat.le_of_ble_eq_true rfl, Nat.le_of_ble_eq_true rfl⟩ dL_hangs_11 (fun H locs hW hS => ?_)
  rw [cnt3]
  refine lv_iadd hx hb dL_hangs_14 ?_
  refine lv_aload_n hx hb dL_hangs_15 rfl (lv_at hl 1 rfl) ?_
  refine lv_iconst (v := nI 2) hx hb dL_hangs_16 (by decide) ?_
  refine k_count (rest := [.int ((nI 50) + (nv 39)), .int (nv 10)]) X hK hA hW hS hl.1 (Nat.le_of_ble_eq_true rfl) ⟨Nat.le_of_ble_eq_true rfl, Nat.le_of_ble_eq_true rfl⟩ ⟨Nat.le_of_ble_eq_true rfl, Nat.le_of_ble_eq_true rfl⟩ dL_hangs_17 (fun H locs hW hS => ?_)
  rw [cnt2]
  refine lv_isub hx hb dL_hangs_20 ?_
  refine lv_icmp_ne (tgt := 47) hx hb dL_hangs_21 (by decide) (fun z => False.elim (z (eqsub he))) (fun _ => ?_)
  refine lv_aload_n hx hb dL_hangs_24 rfl (lv_at hl 1 rfl) ?_
  refine lv_iconst (v := nI 1) hx hb dL_hangs_25 (by decide) ?_
  refine k_count (rest := []) X hK hA hW hS hl.1 (Nat.le_of_ble_eq_true rfl) ⟨Nat.le_of_ble_eq_true rfl, Nat.le_of_ble_eq_true rfl⟩ ⟨Nat.le_of_ble_eq_true rfl, Nat.le_of_ble_eq_true rfl⟩ dL_hangs_26 (fun H locs hW hS => ?_)
  rw [cnt1]
  refine lv_if_lt (tgt := 47) hx hb dL_hangs_29 (by decide) (fun z => False.elim (by
      rw [tT, t0] at z
      omega)) (fun _ => ?_)
  refine lv_aload_n hx hb dL_hangs_32 rfl (lv_at hl 1 rfl) ?_
  refine lv_iconst (v := nI 1) hx hb dL_hangs_33 (by decide) ?_
  refine k_count (rest := []) X hK hA hW hS hl.1 (Nat.le_of_ble_eq_true rfl) ⟨Nat.le_of_ble_eq_true rfl, Nat.le_of_ble_eq_true rfl⟩ ⟨Nat.le_of_ble_eq_true rfl, Nat.le_of_ble_eq_true rfl⟩ dL_hangs_34 (fun H locs hW hS => ?_)
  rw [cnt1]
  refine lv_sipush (v := nI 999) hx hb dL_hangs_37 (by decide) ?_
  refine lv_icmp_gt (tgt := 47) hx hb dL_hangs_40 (by decide) (fun z => False.elim (by
      rw [tT, tn999] at z
      omega)) (fun _ => ?_)
  refine lv_iconst (v := nI 1) hx hb dL_hangs_43 (by decide) ?_
  refine lv_goto (tgt := 48) hx hb dL_hangs_44 (by decide) ?_
  refine lv_istore_n (lv' := [(2, .int (nI 1)), (1, .int (nI 0)), (0, .ref d.1)]) hx hb dL_hangs_48 rfl hl (by decide) rfl (fun ls hl => ?_)
  refine lv_iconst (v := nI 0) hx hb dL_hangs_49 (by decide) ?_
  refine lv_istore_n (lv' := [(3, .int (nI 0)), (2, .int (nI 1)), (1, .int (nI 0)), (0, .ref d.1)]) hx hb dL_hangs_50 rfl hl (by decide) rfl (fun ls hl => ?_)
  exact kk H locs ls hW hS (lv_sub hl [3, 2, 1, 0] rfl)
set_option maxHeartbeats 4000000 in
theorem hg_m {p : Program} {l : Launch} {e : Env} {s : State} {m : MethodId} {args : Array Value} {below : List Frame} {meth : Method} {c : Code} {Q : State → Prop} {A : Nat → Prop} {G : GG} {d : AD} {nv nq : Nat → Int32} {hn : Nat} {vs qs : Nat → Nat → Int32} {t : Int} {a i : Nat} (X : Cx p s m args meth c cL_hangs 7 wsB RL (some .boolean)) (hK : KN G s) (hA : ∀ q : Nat, s.heap.size ≤ q → A q) (hI : Iv t nv) (hi : i < 4) (kk : KW p l e RH s m args below meth c 0 0 Q A G d nv nq hn vs qs 7 51 [(0, .ref d.1), (1, .int (nI (a + ld (nv (13 + i))))), (2, .int (nI 1)), (3, .int (nI (i + 1)))] []) : KW p l e RH s m args below meth c 0 0 Q A G d nv nq hn vs qs 7 51 [(0, .ref d.1), (1, .int (nI a)), (2, .int (nI 1)), (3, .int (nI i))] [] := by
  have hx := X.1
  have hb : c.code = cL_hangs := X.2.1
  intro H locs ls hW hS hl
  refine lv_iload_n hx hb dL_hangs_51 rfl (lv_at hl 3 rfl) ?_
  refine lv_iconst (v := nI 4) hx hb dL_hangs_52 (by decide) ?_
  refine lv_icmp_ge (tgt := 190) hx hb dL_hangs_53 (by decide) (fun z => False.elim (by
      rw [nI_leI (by omega) (by omega)] at z
      omega)) (fun _ => ?_)
  refine lv_iload_n hx hb dL_hangs_56 rfl (lv_at hl 2 rfl) ?_
  refine lv_if_eq (tgt := 190) hx hb dL_hangs_57 (by decide) (fun z => False.elim ((show ¬ nI 1 = 0 by decide) z)) (fun _ => ?_)
  refine lv_aload_n hx hb dL_hangs_60 rfl (lv_at hl 0 rfl) ?_
  refine lv_iload_n hx hb dL_hangs_61 rfl (lv_at hl 3 rfl) ?_
  refine lv_iconst (v := nI 0) hx hb dL_hangs_62 (by decide) ?_
  refine k_machine (rest := []) X hK hA hW hS hl.1 (Nat.le_of_ble_eq_true rfl) ⟨Nat.le_of_ble_eq_true rfl, Nat.le_of_ble_eq_true rfl⟩ ⟨Nat.le_of_ble_eq_true rfl, Nat.le_of_ble_eq_true rfl⟩ dL_hangs_63 (fun H locs hW hS => ?_)
  rw [mach0 hi]
  refine lv_istore (lv' := [(4, .int (nv (13 + i))), (0, .ref d.1), (1, .int (nI a)), (2, .int (nI 1)), (3, .int (nI i))]) hx hb dL_hangs_66 hl (by decide) rfl (fun ls hl => ?_)
  refine lv_aload_n hx hb dL_hangs_68 rfl (lv_at hl 1 rfl) ?_
  refine lv_iload_n hx hb dL_hangs_69 rfl (lv_at hl 4 rfl) ?_
  refine lv_iconst (v := nI 1) hx hb dL_hangs_70 (by decide) ?_
  refine k_machine (rest := []) X hK hA hW hS hl.1 (Nat.le_of_ble_eq_true rfl) ⟨Nat.le_of_ble_eq_true rfl, Nat.le_of_ble_eq_true rfl⟩ ⟨Nat.le_of_ble_eq_true rfl, Nat.le_of_ble_eq_true rfl⟩ dL_hangs_71 (fun H locs hW hS => ?_)
  rw [mach1 hi]
  refine lv_istore (lv' := [(5, .int (nv (17 + i))), (4, .int (nv (13 + i))), (0, .ref d.1), (1, .int (nI a)), (2, .int (nI 1)), (3, .int (nI i))]) hx hb dL_hangs_74 hl (by decide) rfl (fun ls hl => ?_)
  rcases hI.2.1.at hi with ⟨e1, e2, e3⟩ | ⟨hk3, ⟨l1, l2⟩, ⟨w1, w2⟩⟩
  · skip
    have ea : nI a + nI 0 = nI (a + ld (nv (13 + i))) := by rw [e1, ld_5, nI_add]
    refine lv_iload hx hb dL_hangs_76 (lv_at hl 1 rfl) ?_
    refine lv_if_ne (tgt := 85) hx hb dL_hangs_78 (by decide) (fun _ => ?_) (fun z => False.elim (by
      rw [e1] at z
      exact absurd z (by decide)))
    refine lv_iload hx hb dL_hangs_85 (lv_at hl 1 rfl) ?_
    refine lv_iconst (v := nI 1) hx hb dL_hangs_87 (by decide) ?_
    refine lv_icmp_ne (tgt := 96) hx hb dL_hangs_88 (by decide) (fun _ => ?_) (fun z => False.elim (by
      rw [e1] at z
      exact absurd z (by decide)))
    refine lv_bipush (v := nI 9) hx hb dL_hangs_96 (by decide) ?_
    refine lv_istore (lv' := [(6, .int (nI 9)), (5, .int (nv (17 + i))), (4, .int (nv (13 + i))), (0, .ref d.1), (1, .int (nI a)), (2, .int (nI 1)), (3, .int (nI i))]) hx hb dL_hangs_98 hl (by decide) rfl (fun ls hl => ?_)
    refine lv_iload_n hx hb dL_hangs_100 rfl (lv_at hl 4 rfl) ?_
    refine lv_iload hx hb dL_hangs_101 (lv_at hl 2 rfl) ?_
    refine lv_if_lt (tgt := 110) hx hb dL_hangs_103 (by decide) (fun _ => ?_) (fun z => False.elim (by
      rw [e1] at z
      exact z (by decide)))
    refine lv_iconst (v := nI 0) hx hb dL_hangs_110 (by decide) ?_
    refine lv_iadd hx hb dL_hangs_111 ?_
    rw [ea]
    refine lv_istore_n (lv' := [(1, .int (nI (a + ld (nv (13 + i))))), (6, .int (nI 9)), (5, .int (nv (17 + i))), (4, .int (nv (13 + i))), (0, .ref d.1), (2, .int (nI 1)), (3, .int (nI i))]) hx hb dL_hangs_112 rfl hl (by decide) rfl (fun ls hl => ?_)
    refine lv_iload hx hb dL_hangs_113 (lv_at hl 3 rfl) ?_
    refine lv_if_ge (tgt := 147) hx hb dL_hangs_115 (by decide) (fun z => False.elim (by
      rw [e1] at z
      exact absurd z (by decide))) (fun _ => ?_)
    refine lv_iload hx hb dL_hangs_118 (lv_at hl 3 rfl) ?_
    refine lv_bipush (v := (-5)) hx hb dL_hangs_120 (by decide) ?_
    refine lv_icmp_ne (tgt := 143) hx hb dL_hangs_122 (by decide) (fun z => False.elim (z e1)) (fun _ => ?_)
    refine lv_iload hx hb dL_hangs_125 (lv_at hl 2 rfl) ?_
    refine lv_if_ne (tgt := 143) hx hb dL_hangs_127 (by decide) (fun z => False.elim (z (e2.trans nI0))) (fun _ => ?_)
    refine lv_aload_n hx hb dL_hangs_130 rfl (lv_at hl 4 rfl) ?_
    refine lv_iload_n hx hb dL_hangs_131 rfl (lv_at hl 6 rfl) ?_
    refine lv_iconst (v := nI 2) hx hb dL_hangs_132 (by decide) ?_
    refine k_machine (rest := []) X hK hA hW hS hl.1 (Nat.le_of_ble_eq_true rfl) ⟨Nat.le_of_ble_eq_true rfl, Nat.le_of_ble_eq_true rfl⟩ ⟨Nat.le_of_ble_eq_true rfl, Nat.le_of_ble_eq_true rfl⟩ dL_hangs_133 (fun H locs hW hS => ?_)
    rw [mach2 hi]
    refine lv_if_ne (tgt := 143) hx hb dL_hangs_136 (by decide) (fun z => False.elim (z (e3.trans nI0))) (fun _ => ?_)
    refine lv_iconst (v := nI 1) hx hb dL_hangs_139 (by decide) ?_
    refine lv_goto (tgt := 183) hx hb dL_hangs_140 (by decide) ?_
    refine lv_istore_n (lv' := [(2, .int (nI 1)), (1, .int (nI (a + ld (nv (13 + i))))), (6, .int (nI 9)), (5, .int (nv (17 + i))), (4, .int (nv (13 + i))), (0, .ref d.1), (3, .int (nI i))]) hx hb dL_hangs_183 rfl hl (by decide) rfl (fun ls hl => ?_)
    refine lv_iinc (v := nI (i + 1)) (lv' := [(3, .int (nI (i + 1))), (2, .int (nI 1)), (1, .int (nI (a + ld (nv (13 + i))))), (6, .int (nI 9)), (5, .int (nv (17 + i))), (4, .int (nv (13 + i))), (0, .ref d.1)]) hx hb dL_hangs_184 hl (k := 6) rfl (inc1 i) (by decide) rfl (fun ls hl => ?_)
    refine lv_goto (tgt := 51) hx hb dL_hangs_187 (by decide) ?_
    exact kk H locs ls hW hS (lv_sub hl [6, 2, 1, 0] rfl)
  · have ld1 : ld (nv (13 + i)) = 1 := ld_k (kd3 hk3)
    have ea : nI a + nI 1 = nI (a + ld (nv (13 + i))) := by rw [ld1, nI_add]
    rcases hk3 with k | k | k
    · have l3 : (nv (17 + i)).toInt ≤ 4 := by
        rw [k] at l2
        exact Int.le_trans l2 (by decide)
      refine lv_iload hx hb dL_hangs_76 (lv_at hl 1 rfl) ?_
      refine lv_if_ne (tgt := 85) hx hb dL_hangs_78 (by decide) (fun z => False.elim (z k)) (fun _ => ?_)
      refine lv_iconst (v := nI 4) hx hb dL_hangs_81 (by decide) ?_
      refine lv_goto (tgt := 98) hx hb dL_hangs_82 (by decide) ?_
      refine lv_istore (lv' := [(6, .int (nI 4)), (5, .int (nv (17 + i))), (4, .int (nv (13 + i))), (0, .ref d.1), (1, .int (nI a)), (2, .int (nI 1)), (3, .int (nI i))]) hx hb dL_hangs_98 hl (by decide) rfl (fun ls hl => ?_)
      refine lv_iload_n hx hb dL_hangs_100 rfl (lv_at hl 4 rfl) ?_
      refine lv_iload hx hb dL_hangs_101 (lv_at hl 2 rfl) ?_
      refine lv_if_lt (tgt := 110) hx hb dL_hangs_103 (by decide) (fun z => False.elim (by
        rw [k] at z
        exact absurd z (by decide))) (fun _ => ?_)
      refine lv_iconst (v := nI 1) hx hb dL_hangs_106 (by decide) ?_
      refine lv_goto (tgt := 111) hx hb dL_hangs_107 (by decide) ?_
      refine lv_iadd hx hb dL_hangs_111 ?_
      rw [ea]
      refine lv_istore_n (lv' := [(1, .int (nI (a + ld (nv (13 + i))))), (6, .int (nI 4)), (5, .int (nv (17 + i))), (4, .int (nv (13 + i))), (0, .ref d.1), (2, .int (nI 1)), (3, .int (nI i))]) hx hb dL_hangs_112 rfl hl (by decide) rfl (fun ls hl => ?_)
      refine lv_iload hx hb dL_hangs_113 (lv_at hl 3 rfl) ?_
      refine lv_if_ge (tgt := 147) hx hb dL_hangs_115 (by decide) (fun _ => ?_) (fun z => False.elim (by
        rw [k] at z
        exact z (by decide)))
      refine lv_iload hx hb dL_hangs_147 (lv_at hl 2 rfl) ?_
      refine lv_if_le (tgt := 182) hx hb dL_hangs_149 (by decide) (fun z => False.elim (by
        rw [tL, t0] at z
        omega)) (fun _ => ?_)
      refine lv_iload hx hb dL_hangs_152 (lv_at hl 2 rfl) ?_
      refine lv_iload hx hb dL_hangs_154 (lv_at hl 1 rfl) ?_
      refine lv_icmp_gt (tgt := 182) hx hb dL_hangs_156 (by decide) (fun z => False.elim (by
        rw [tT, nI_toInt (by omega)] at z
        omega)) (fun _ => ?_)
      refine lv_aload_n hx hb dL_hangs_159 rfl (lv_at hl 4 rfl) ?_
      refine lv_iload_n hx hb dL_hangs_160 rfl (lv_at hl 6 rfl) ?_
      refine lv_iconst (v := nI 2) hx hb dL_hangs_161 (by decide) ?_
      refine k_machine (rest := []) X hK hA hW hS hl.1 (Nat.le_of_ble_eq_true rfl) ⟨Nat.le_of_ble_eq_true rfl, Nat.le_of_ble_eq_true rfl⟩ ⟨Nat.le_of_ble_eq_true rfl, Nat.le_of_ble_eq_true rfl⟩ dL_hangs_162 (fun H locs hW hS => ?_)
      rw [mach2 hi]
      refine lv_if_lt (tgt := 182) hx hb dL_hangs_165 (by decide) (fun z => False.elim (by
        rw [tT, t0] at z
        omega)) (fun _ => ?_)
      refine lv_aload_n hx hb dL_hangs_168 rfl (lv_at hl 4 rfl) ?_
      refine lv_iload_n hx hb dL_hangs_169 rfl (lv_at hl 6 rfl) ?_
      refine lv_iconst (v := nI 2) hx hb dL_hangs_170 (by decide) ?_
      refine k_machine (rest := []) X hK hA hW hS hl.1 (Nat.le_of_ble_eq_true rfl) ⟨Nat.le_of_ble_eq_true rfl, Nat.le_of_ble_eq_true rfl⟩ ⟨Nat.le_of_ble_eq_true rfl, Nat.le_of_ble_eq_true rfl⟩ dL_hangs_171 (fun H locs hW hS => ?_)
      rw [mach2 hi]
      refine lv_iconst (v := nI 3) hx hb dL_hangs_174 (by decide) ?_
      refine lv_icmp_ge (tgt := 182) hx hb dL_hangs_175 (by decide) (fun z => False.elim (by
        rw [tL, tn3] at z
        omega)) (fun _ => ?_)
      refine lv_iconst (v := nI 1) hx hb dL_hangs_178 (by decide) ?_
      refine lv_goto (tgt := 183) hx hb dL_hangs_179 (by decide) ?_
      refine lv_istore_n (lv' := [(2, .int (nI 1)), (1, .int (nI (a + ld (nv (13 + i))))), (6, .int (nI 4)), (5, .int (nv (17 + i))), (4, .int (nv (13 + i))), (0, .ref d.1), (3, .int (nI i))]) hx hb dL_hangs_183 rfl hl (by decide) rfl (fun ls hl => ?_)
      refine lv_iinc (v := nI (i + 1)) (lv' := [(3, .int (nI (i + 1))), (2, .int (nI 1)), (1, .int (nI (a + ld (nv (13 + i))))), (6, .int (nI 4)), (5, .int (nv (17 + i))), (4, .int (nv (13 + i))), (0, .ref d.1)]) hx hb dL_hangs_184 hl (k := 6) rfl (inc1 i) (by decide) rfl (fun ls hl => ?_)
      refine lv_goto (tgt := 51) hx hb dL_hangs_187 (by decide) ?_
      exact kk H locs ls hW hS (lv_sub hl [6, 2, 1, 0] rfl)
    · have l3 : (nv (17 + i)).toInt ≤ 6 := by
        rw [k] at l2
        exact Int.le_trans l2 (by decide)
      refine lv_iload hx hb dL_hangs_76 (lv_at hl 1 rfl) ?_
      refine lv_if_ne (tgt := 85) hx hb dL_hangs_78 (by decide) (fun _ => ?_) (fun z => False.elim (by
        rw [k] at z
        exact absurd z (by decide)))
      refine lv_iload hx hb dL_hangs_85 (lv_at hl 1 rfl) ?_
      refine lv_iconst (v := nI 1) hx hb dL_hangs_87 (by decide) ?_
      refine lv_icmp_ne (tgt := 96) hx hb dL_hangs_88 (by decide) (fun z => False.elim (z (k.trans (by decide)))) (fun _ => ?_)
      refine lv_bipush (v := nI 6) hx hb dL_hangs_91 (by decide) ?_
      refine lv_goto (tgt := 98) hx hb dL_hangs_93 (by decide) ?_
      refine lv_istore (lv' := [(6, .int (nI 6)), (5, .int (nv (17 + i))), (4, .int (nv (13 + i))), (0, .ref d.1), (1, .int (nI a)), (2, .int (nI 1)), (3, .int (nI i))]) hx hb dL_hangs_98 hl (by decide) rfl (fun ls hl => ?_)
      refine lv_iload_n hx hb dL_hangs_100 rfl (lv_at hl 4 rfl) ?_
      refine lv_iload hx hb dL_hangs_101 (lv_at hl 2 rfl) ?_
      refine lv_if_lt (tgt := 110) hx hb dL_hangs_103 (by decide) (fun z => False.elim (by
        rw [k] at z
        exact absurd z (by decide))) (fun _ => ?_)
      refine lv_iconst (v := nI 1) hx hb dL_hangs_106 (by decide) ?_
      refine lv_goto (tgt := 111) hx hb dL_hangs_107 (by decide) ?_
      refine lv_iadd hx hb dL_hangs_111 ?_
      rw [ea]
      refine lv_istore_n (lv' := [(1, .int (nI (a + ld (nv (13 + i))))), (6, .int (nI 6)), (5, .int (nv (17 + i))), (4, .int (nv (13 + i))), (0, .ref d.1), (2, .int (nI 1)), (3, .int (nI i))]) hx hb dL_hangs_112 rfl hl (by decide) rfl (fun ls hl => ?_)
      refine lv_iload hx hb dL_hangs_113 (lv_at hl 3 rfl) ?_
      refine lv_if_ge (tgt := 147) hx hb dL_hangs_115 (by decide) (fun _ => ?_) (fun z => False.elim (by
        rw [k] at z
        exact z (by decide)))
      refine lv_iload hx hb dL_hangs_147 (lv_at hl 2 rfl) ?_
      refine lv_if_le (tgt := 182) hx hb dL_hangs_149 (by decide) (fun z => False.elim (by
        rw [tL, t0] at z
        omega)) (fun _ => ?_)
      refine lv_iload hx hb dL_hangs_152 (lv_at hl 2 rfl) ?_
      refine lv_iload hx hb dL_hangs_154 (lv_at hl 1 rfl) ?_
      refine lv_icmp_gt (tgt := 182) hx hb dL_hangs_156 (by decide) (fun z => False.elim (by
        rw [tT, nI_toInt (by omega)] at z
        omega)) (fun _ => ?_)
      refine lv_aload_n hx hb dL_hangs_159 rfl (lv_at hl 4 rfl) ?_
      refine lv_iload_n hx hb dL_hangs_160 rfl (lv_at hl 6 rfl) ?_
      refine lv_iconst (v := nI 2) hx hb dL_hangs_161 (by decide) ?_
      refine k_machine (rest := []) X hK hA hW hS hl.1 (Nat.le_of_ble_eq_true rfl) ⟨Nat.le_of_ble_eq_true rfl, Nat.le_of_ble_eq_true rfl⟩ ⟨Nat.le_of_ble_eq_true rfl, Nat.le_of_ble_eq_true rfl⟩ dL_hangs_162 (fun H locs hW hS => ?_)
      rw [mach2 hi]
      refine lv_if_lt (tgt := 182) hx hb dL_hangs_165 (by decide) (fun z => False.elim (by
        rw [tT, t0] at z
        omega)) (fun _ => ?_)
      refine lv_aload_n hx hb dL_hangs_168 rfl (lv_at hl 4 rfl) ?_
      refine lv_iload_n hx hb dL_hangs_169 rfl (lv_at hl 6 rfl) ?_
      refine lv_iconst (v := nI 2) hx hb dL_hangs_170 (by decide) ?_
      refine k_machine (rest := []) X hK hA hW hS hl.1 (Nat.le_of_ble_eq_true rfl) ⟨Nat.le_of_ble_eq_true rfl, Nat.le_of_ble_eq_true rfl⟩ ⟨Nat.le_of_ble_eq_true rfl, Nat.le_of_ble_eq_true rfl⟩ dL_hangs_171 (fun H locs hW hS => ?_)
      rw [mach2 hi]
      refine lv_iconst (v := nI 3) hx hb dL_hangs_174 (by decide) ?_
      refine lv_icmp_ge (tgt := 182) hx hb dL_hangs_175 (by decide) (fun z => False.elim (by
        rw [tL, tn3] at z
        omega)) (fun _ => ?_)
      refine lv_iconst (v := nI 1) hx hb dL_hangs_178 (by decide) ?_
      refine lv_goto (tgt := 183) hx hb dL_hangs_179 (by decide) ?_
      refine lv_istore_n (lv' := [(2, .int (nI 1)), (1, .int (nI (a + ld (nv (13 + i))))), (6, .int (nI 6)), (5, .int (nv (17 + i))), (4, .int (nv (13 + i))), (0, .ref d.1), (3, .int (nI i))]) hx hb dL_hangs_183 rfl hl (by decide) rfl (fun ls hl => ?_)
      refine lv_iinc (v := nI (i + 1)) (lv' := [(3, .int (nI (i + 1))), (2, .int (nI 1)), (1, .int (nI (a + ld (nv (13 + i))))), (6, .int (nI 6)), (5, .int (nv (17 + i))), (4, .int (nv (13 + i))), (0, .ref d.1)]) hx hb dL_hangs_184 hl (k := 6) rfl (inc1 i) (by decide) rfl (fun ls hl => ?_)
      refine lv_goto (tgt := 51) hx hb dL_hangs_187 (by decide) ?_
      exact kk H locs ls hW hS (lv_sub hl [6, 2, 1, 0] rfl)
    · have l3 : (nv (17 + i)).toInt ≤ 9 := by
        rw [k] at l2
        exact Int.le_trans l2 (by decide)
      refine lv_iload hx hb dL_hangs_76 (lv_at hl 1 rfl) ?_
      refine lv_if_ne (tgt := 85) hx hb dL_hangs_78 (by decide) (fun _ => ?_) (fun z => False.elim (by
        rw [k] at z
        exact absurd z (by decide)))
      refine lv_iload hx hb dL_hangs_85 (lv_at hl 1 rfl) ?_
      refine lv_iconst (v := nI 1) hx hb dL_hangs_87 (by decide) ?_
      refine lv_icmp_ne (tgt := 96) hx hb dL_hangs_88 (by decide) (fun _ => ?_) (fun z => False.elim (by
        rw [k] at z
        exact absurd z (by decide)))
      refine lv_bipush (v := nI 9) hx hb dL_hangs_96 (by decide) ?_
      refine lv_istore (lv' := [(6, .int (nI 9)), (5, .int (nv (17 + i))), (4, .int (nv (13 + i))), (0, .ref d.1), (1, .int (nI a)), (2, .int (nI 1)), (3, .int (nI i))]) hx hb dL_hangs_98 hl (by decide) rfl (fun ls hl => ?_)
      refine lv_iload_n hx hb dL_hangs_100 rfl (lv_at hl 4 rfl) ?_
      refine lv_iload hx hb dL_hangs_101 (lv_at hl 2 rfl) ?_
      refine lv_if_lt (tgt := 110) hx hb dL_hangs_103 (by decide) (fun z => False.elim (by
        rw [k] at z
        exact absurd z (by decide))) (fun _ => ?_)
      refine lv_iconst (v := nI 1) hx hb dL_hangs_106 (by decide) ?_
      refine lv_goto (tgt := 111) hx hb dL_hangs_107 (by decide) ?_
      refine lv_iadd hx hb dL_hangs_111 ?_
      rw [ea]
      refine lv_istore_n (lv' := [(1, .int (nI (a + ld (nv (13 + i))))), (6, .int (nI 9)), (5, .int (nv (17 + i))), (4, .int (nv (13 + i))), (0, .ref d.1), (2, .int (nI 1)), (3, .int (nI i))]) hx hb dL_hangs_112 rfl hl (by decide) rfl (fun ls hl => ?_)
      refine lv_iload hx hb dL_hangs_113 (lv_at hl 3 rfl) ?_
      refine lv_if_ge (tgt := 147) hx hb dL_hangs_115 (by decide) (fun _ => ?_) (fun z => False.elim (by
        rw [k] at z
        exact z (by decide)))
      refine lv_iload hx hb dL_hangs_147 (lv_at hl 2 rfl) ?_
      refine lv_if_le (tgt := 182) hx hb dL_hangs_149 (by decide) (fun z => False.elim (by
        rw [tL, t0] at z
        omega)) (fun _ => ?_)
      refine lv_iload hx hb dL_hangs_152 (lv_at hl 2 rfl) ?_
      refine lv_iload hx hb dL_hangs_154 (lv_at hl 1 rfl) ?_
      refine lv_icmp_gt (tgt := 182) hx hb dL_hangs_156 (by decide) (fun z => False.elim (by
        rw [tT, nI_toInt (by omega)] at z
        omega)) (fun _ => ?_)
      refine lv_aload_n hx hb dL_hangs_159 rfl (lv_at hl 4 rfl) ?_
      refine lv_iload_n hx hb dL_hangs_160 rfl (lv_at hl 6 rfl) ?_
      refine lv_iconst (v := nI 2) hx hb dL_hangs_161 (by decide) ?_
      refine k_machine (rest := []) X hK hA hW hS hl.1 (Nat.le_of_ble_eq_true rfl) ⟨Nat.le_of_ble_eq_true rfl, Nat.le_of_ble_eq_true rfl⟩ ⟨Nat.le_of_ble_eq_true rfl, Nat.le_of_ble_eq_true rfl⟩ dL_hangs_162 (fun H locs hW hS => ?_)
      rw [mach2 hi]
      refine lv_if_lt (tgt := 182) hx hb dL_hangs_165 (by decide) (fun z => False.elim (by
        rw [tT, t0] at z
        omega)) (fun _ => ?_)
      refine lv_aload_n hx hb dL_hangs_168 rfl (lv_at hl 4 rfl) ?_
      refine lv_iload_n hx hb dL_hangs_169 rfl (lv_at hl 6 rfl) ?_
      refine lv_iconst (v := nI 2) hx hb dL_hangs_170 (by decide) ?_
      refine k_machine (rest := []) X hK hA hW hS hl.1 (Nat.le_of_ble_eq_true rfl) ⟨Nat.le_of_ble_eq_true rfl, Nat.le_of_ble_eq_true rfl⟩ ⟨Nat.le_of_ble_eq_true rfl, Nat.le_of_ble_eq_true rfl⟩ dL_hangs_171 (fun H locs hW hS => ?_)
      rw [mach2 hi]
      refine lv_iconst (v := nI 3) hx hb dL_hangs_174 (by decide) ?_
      refine lv_icmp_ge (tgt := 182) hx hb dL_hangs_175 (by decide) (fun z => False.elim (by
        rw [tL, tn3] at z
        omega)) (fun _ => ?_)
      refine lv_iconst (v := nI 1) hx hb dL_hangs_178 (by decide) ?_
      refine lv_goto (tgt := 183) hx hb dL_hangs_179 (by decide) ?_
      refine lv_istore_n (lv' := [(2, .int (nI 1)), (1, .int (nI (a + ld (nv (13 + i))))), (6, .int (nI 9)), (5, .int (nv (17 + i))), (4, .int (nv (13 + i))), (0, .ref d.1), (3, .int (nI i))]) hx hb dL_hangs_183 rfl hl (by decide) rfl (fun ls hl => ?_)
      refine lv_iinc (v := nI (i + 1)) (lv' := [(3, .int (nI (i + 1))), (2, .int (nI 1)), (1, .int (nI (a + ld (nv (13 + i))))), (6, .int (nI 9)), (5, .int (nv (17 + i))), (4, .int (nv (13 + i))), (0, .ref d.1)]) hx hb dL_hangs_184 hl (k := 6) rfl (inc1 i) (by decide) rfl (fun ls hl => ?_)
      refine lv_goto (tgt := 51) hx hb dL_hangs_187 (by decide) ?_
      exact kk H locs ls hW hS (lv_sub hl [6, 2, 1, 0] rfl)
set_option maxHeartbeats 4000000 in
theorem hg_m4 {p : Program} {l : Launch} {e : Env} {s : State} {m : MethodId} {args : Array Value} {below : List Frame} {meth : Method} {c : Code} {Q : State → Prop} {A : Nat → Prop} {G : GG} {d : AD} {nv nq : Nat → Int32} {hn : Nat} {vs qs : Nat → Nat → Int32} {a : Nat} (X : Cx p s m args meth c cL_hangs 7 wsB RL (some .boolean)) (hK : KN G s) (hA : ∀ q : Nat, s.heap.size ≤ q → A q)  (kk : KW p l e RH s m args below meth c 0 0 Q A G d nv nq hn vs qs 7 192 [(0, .ref d.1), (1, .int (nI a)), (2, .int (nI 1)), (3, .int (nI 0))] []) : KW p l e RH s m args below meth c 0 0 Q A G d nv nq hn vs qs 7 51 [(0, .ref d.1), (1, .int (nI a)), (2, .int (nI 1)), (3, .int (nI 4))] [] := by
  have hx := X.1
  have hb : c.code = cL_hangs := X.2.1
  intro H locs ls hW hS hl
  refine lv_iload_n hx hb dL_hangs_51 rfl (lv_at hl 3 rfl) ?_
  refine lv_iconst (v := nI 4) hx hb dL_hangs_52 (by decide) ?_
  refine lv_icmp_ge (tgt := 190) hx hb dL_hangs_53 (by decide) (fun _ => ?_) (fun z => False.elim (z (Int32.le_refl _)))
  refine lv_iconst (v := nI 0) hx hb dL_hangs_190 (by decide) ?_
  refine lv_istore_n (lv' := [(3, .int (nI 0)), (0, .ref d.1), (1, .int (nI a)), (2, .int (nI 1))]) hx hb dL_hangs_191 rfl hl (by decide) rfl (fun ls hl => ?_)
  exact kk H locs ls hW hS (lv_sub hl [1, 2, 3, 0] rfl)
set_option maxHeartbeats 4000000 in
theorem hg_b {p : Program} {l : Launch} {e : Env} {s : State} {m : MethodId} {args : Array Value} {below : List Frame} {meth : Method} {c : Code} {Q : State → Prop} {A : Nat → Prop} {G : GG} {d : AD} {nv nq : Nat → Int32} {hn : Nat} {vs qs : Nat → Nat → Int32} {t : Int} {a b : Nat} (X : Cx p s m args meth c cL_hangs 7 wsB RL (some .boolean)) (hK : KN G s) (hA : ∀ q : Nat, s.heap.size ≤ q → A q) (hI : Iv t nv) (hb2 : b < 2) (kk : KW p l e RH s m args below meth c 0 0 Q A G d nv nq hn vs qs 7 192 [(0, .ref d.1), (1, .int (nI a)), (2, .int (nI 1)), (3, .int (nI (b + 1)))] []) : KW p l e RH s m args below meth c 0 0 Q A G d nv nq hn vs qs 7 192 [(0, .ref d.1), (1, .int (nI a)), (2, .int (nI 1)), (3, .int (nI b))] [] := by
  have hx := X.1
  have hb : c.code = cL_hangs := X.2.1
  intro H locs ls hW hS hl
  obtain ⟨g0, g1, g2, g3, g4, g5⟩ := BO2 hI hb2
  refine lv_iload_n hx hb dL_hangs_192 rfl (lv_at hl 3 rfl) ?_
  refine lv_iconst (v := nI 2) hx hb dL_hangs_193 (by decide) ?_
  refine lv_icmp_ge (tgt := 320) hx hb dL_hangs_194 (by decide) (fun z => False.elim (by
      rw [nI_leI (by omega) (by omega)] at z
      omega)) (fun _ => ?_)
  refine lv_iload_n hx hb dL_hangs_197 rfl (lv_at hl 2 rfl) ?_
  refine lv_if_eq (tgt := 320) hx hb dL_hangs_198 (by decide) (fun z => False.elim ((show ¬ nI 1 = 0 by decide) z)) (fun _ => ?_)
  refine lv_aload_n hx hb dL_hangs_201 rfl (lv_at hl 0 rfl) ?_
  refine lv_iload_n hx hb dL_hangs_202 rfl (lv_at hl 3 rfl) ?_
  refine lv_iconst (v := nI 0) hx hb dL_hangs_203 (by decide) ?_
  refine k_boiler (rest := []) X hK hA hW hS hl.1 (Nat.le_of_ble_eq_true rfl) ⟨Nat.le_of_ble_eq_true rfl, Nat.le_of_ble_eq_true rfl⟩ ⟨Nat.le_of_ble_eq_true rfl, Nat.le_of_ble_eq_true rfl⟩ dL_hangs_204 (fun H locs hW hS => ?_)
  rw [boil0 hb2]
  refine lv_if_lt (tgt := 312) hx hb dL_hangs_207 (by decide) (fun z => False.elim (by
      rw [tT, t0] at z
      omega)) (fun _ => ?_)
  refine lv_aload_n hx hb dL_hangs_210 rfl (lv_at hl 0 rfl) ?_
  refine lv_iload_n hx hb dL_hangs_211 rfl (lv_at hl 3 rfl) ?_
  refine lv_iconst (v := nI 0) hx hb dL_hangs_212 (by decide) ?_
  refine k_boiler (rest := []) X hK hA hW hS hl.1 (Nat.le_of_ble_eq_true rfl) ⟨Nat.le_of_ble_eq_true rfl, Nat.le_of_ble_eq_true rfl⟩ ⟨Nat.le_of_ble_eq_true rfl, Nat.le_of_ble_eq_true rfl⟩ dL_hangs_213 (fun H locs hW hS => ?_)
  rw [boil0 hb2]
  refine lv_iconst (v := nI 5) hx hb dL_hangs_216 (by decide) ?_
  refine lv_icmp_gt (tgt := 312) hx hb dL_hangs_217 (by decide) (fun z => False.elim (by
      rw [tT, nI_toInt (by omega)] at z
      omega)) (fun _ => ?_)
  refine lv_aload_n hx hb dL_hangs_220 rfl (lv_at hl 0 rfl) ?_
  refine lv_iload_n hx hb dL_hangs_221 rfl (lv_at hl 3 rfl) ?_
  refine lv_iconst (v := nI 1) hx hb dL_hangs_222 (by decide) ?_
  refine k_boiler (rest := []) X hK hA hW hS hl.1 (Nat.le_of_ble_eq_true rfl) ⟨Nat.le_of_ble_eq_true rfl, Nat.le_of_ble_eq_true rfl⟩ ⟨Nat.le_of_ble_eq_true rfl, Nat.le_of_ble_eq_true rfl⟩ dL_hangs_223 (fun H locs hW hS => ?_)
  rw [boil1 hb2]
  refine lv_if_lt (tgt := 312) hx hb dL_hangs_226 (by decide) (fun z => False.elim (by
      rw [tT, t0] at z
      omega)) (fun _ => ?_)
  refine lv_aload_n hx hb dL_hangs_229 rfl (lv_at hl 0 rfl) ?_
  refine lv_iload_n hx hb dL_hangs_230 rfl (lv_at hl 3 rfl) ?_
  refine lv_iconst (v := nI 1) hx hb dL_hangs_231 (by decide) ?_
  refine k_boiler (rest := []) X hK hA hW hS hl.1 (Nat.le_of_ble_eq_true rfl) ⟨Nat.le_of_ble_eq_true rfl, Nat.le_of_ble_eq_true rfl⟩ ⟨Nat.le_of_ble_eq_true rfl, Nat.le_of_ble_eq_true rfl⟩ dL_hangs_232 (fun H locs hW hS => ?_)
  rw [boil1 hb2]
  refine lv_sipush (v := nI 200) hx hb dL_hangs_235 (by decide) ?_
  refine lv_icmp_gt (tgt := 312) hx hb dL_hangs_238 (by decide) (fun z => False.elim (by
      rw [tT, nI_toInt (by omega)] at z
      omega)) (fun _ => ?_)
  refine lv_aload_n hx hb dL_hangs_241 rfl (lv_at hl 0 rfl) ?_
  refine lv_iload_n hx hb dL_hangs_242 rfl (lv_at hl 3 rfl) ?_
  refine lv_iconst (v := nI 2) hx hb dL_hangs_243 (by decide) ?_
  refine k_boiler (rest := []) X hK hA hW hS hl.1 (Nat.le_of_ble_eq_true rfl) ⟨Nat.le_of_ble_eq_true rfl, Nat.le_of_ble_eq_true rfl⟩ ⟨Nat.le_of_ble_eq_true rfl, Nat.le_of_ble_eq_true rfl⟩ dL_hangs_244 (fun H locs hW hS => ?_)
  rw [boil2 hb2]
  refine lv_if_lt (tgt := 312) hx hb dL_hangs_247 (by decide) (fun z => False.elim (by
      rw [tT, t0] at z
      omega)) (fun _ => ?_)
  refine lv_aload_n hx hb dL_hangs_250 rfl (lv_at hl 0 rfl) ?_
  refine lv_iload_n hx hb dL_hangs_251 rfl (lv_at hl 3 rfl) ?_
  refine lv_iconst (v := nI 2) hx hb dL_hangs_252 (by decide) ?_
  refine k_boiler (rest := []) X hK hA hW hS hl.1 (Nat.le_of_ble_eq_true rfl) ⟨Nat.le_of_ble_eq_true rfl, Nat.le_of_ble_eq_true rfl⟩ ⟨Nat.le_of_ble_eq_true rfl, Nat.le_of_ble_eq_true rfl⟩ dL_hangs_253 (fun H locs hW hS => ?_)
  rw [boil2 hb2]
  refine lv_bipush (v := nI 70) hx hb dL_hangs_256 (by decide) ?_
  refine lv_icmp_gt (tgt := 312) hx hb dL_hangs_258 (by decide) (fun z => False.elim (by
      rw [tT, nI_toInt (by omega)] at z
      omega)) (fun _ => ?_)
  refine lv_aload_n hx hb dL_hangs_261 rfl (lv_at hl 0 rfl) ?_
  refine lv_iload_n hx hb dL_hangs_262 rfl (lv_at hl 3 rfl) ?_
  refine lv_iconst (v := nI 3) hx hb dL_hangs_263 (by decide) ?_
  refine k_boiler (rest := []) X hK hA hW hS hl.1 (Nat.le_of_ble_eq_true rfl) ⟨Nat.le_of_ble_eq_true rfl, Nat.le_of_ble_eq_true rfl⟩ ⟨Nat.le_of_ble_eq_true rfl, Nat.le_of_ble_eq_true rfl⟩ dL_hangs_264 (fun H locs hW hS => ?_)
  rw [boil3 hb2]
  refine lv_if_lt (tgt := 312) hx hb dL_hangs_267 (by decide) (fun z => False.elim (by
      rw [tT, t0] at z
      omega)) (fun _ => ?_)
  refine lv_aload_n hx hb dL_hangs_270 rfl (lv_at hl 0 rfl) ?_
  refine lv_iload_n hx hb dL_hangs_271 rfl (lv_at hl 3 rfl) ?_
  refine lv_iconst (v := nI 3) hx hb dL_hangs_272 (by decide) ?_
  refine k_boiler (rest := []) X hK hA hW hS hl.1 (Nat.le_of_ble_eq_true rfl) ⟨Nat.le_of_ble_eq_true rfl, Nat.le_of_ble_eq_true rfl⟩ ⟨Nat.le_of_ble_eq_true rfl, Nat.le_of_ble_eq_true rfl⟩ dL_hangs_273 (fun H locs hW hS => ?_)
  rw [boil3 hb2]
  refine lv_bipush (v := nI 10) hx hb dL_hangs_276 (by decide) ?_
  refine lv_icmp_gt (tgt := 312) hx hb dL_hangs_278 (by decide) (fun z => False.elim (by
      rw [tT, nI_toInt (by omega)] at z
      omega)) (fun _ => ?_)
  refine lv_aload_n hx hb dL_hangs_281 rfl (lv_at hl 0 rfl) ?_
  refine lv_iload_n hx hb dL_hangs_282 rfl (lv_at hl 3 rfl) ?_
  refine lv_iconst (v := nI 3) hx hb dL_hangs_283 (by decide) ?_
  refine k_boiler (rest := []) X hK hA hW hS hl.1 (Nat.le_of_ble_eq_true rfl) ⟨Nat.le_of_ble_eq_true rfl, Nat.le_of_ble_eq_true rfl⟩ ⟨Nat.le_of_ble_eq_true rfl, Nat.le_of_ble_eq_true rfl⟩ dL_hangs_284 (fun H locs hW hS => ?_)
  rw [boil3 hb2]
  by_cases hl0 : nv (6 + b) = 0
  · skip
    refine lv_if_eq (tgt := 308) hx hb dL_hangs_287 (by decide) (fun _ => ?_) (fun z => False.elim (z hl0))
    refine lv_iconst (v := nI 1) hx hb dL_hangs_308 (by decide) ?_
    refine lv_goto (tgt := 313) hx hb dL_hangs_309 (by decide) ?_
    refine lv_istore_n (lv' := [(2, .int (nI 1)), (0, .ref d.1), (1, .int (nI a)), (3, .int (nI b))]) hx hb dL_hangs_313 rfl hl (by decide) rfl (fun ls hl => ?_)
    refine lv_iinc (v := nI (b + 1)) (lv' := [(3, .int (nI (b + 1))), (2, .int (nI 1)), (0, .ref d.1), (1, .int (nI a))]) hx hb dL_hangs_314 hl (k := 3) rfl (inc1 b) (by decide) rfl (fun ls hl => ?_)
    refine lv_goto (tgt := 192) hx hb dL_hangs_317 (by decide) ?_
    exact kk H locs ls hW hS (lv_sub hl [2, 3, 1, 0] rfl)
  · have hq : (nv b).toInt = 0 ∧ 1 ≤ (nv (8 + b)).toInt := by
      rcases g5 with g5 | g5
      · exact absurd (tE.mpr (g5.trans t0.symm)) hl0
      · exact g5
    refine lv_if_eq (tgt := 308) hx hb dL_hangs_287 (by decide) (fun z => False.elim (hl0 z)) (fun _ => ?_)
    refine lv_aload_n hx hb dL_hangs_290 rfl (lv_at hl 0 rfl) ?_
    refine lv_iload_n hx hb dL_hangs_291 rfl (lv_at hl 3 rfl) ?_
    refine lv_iconst (v := nI 0) hx hb dL_hangs_292 (by decide) ?_
    refine k_boiler (rest := []) X hK hA hW hS hl.1 (Nat.le_of_ble_eq_true rfl) ⟨Nat.le_of_ble_eq_true rfl, Nat.le_of_ble_eq_true rfl⟩ ⟨Nat.le_of_ble_eq_true rfl, Nat.le_of_ble_eq_true rfl⟩ dL_hangs_293 (fun H locs hW hS => ?_)
    rw [boil0 hb2]
    refine lv_if_ne (tgt := 312) hx hb dL_hangs_296 (by decide) (fun z => False.elim (z (tE.mpr (hq.1.trans t0.symm)))) (fun _ => ?_)
    refine lv_aload_n hx hb dL_hangs_299 rfl (lv_at hl 0 rfl) ?_
    refine lv_iload_n hx hb dL_hangs_300 rfl (lv_at hl 3 rfl) ?_
    refine lv_iconst (v := nI 4) hx hb dL_hangs_301 (by decide) ?_
    refine k_boiler (rest := []) X hK hA hW hS hl.1 (Nat.le_of_ble_eq_true rfl) ⟨Nat.le_of_ble_eq_true rfl, Nat.le_of_ble_eq_true rfl⟩ ⟨Nat.le_of_ble_eq_true rfl, Nat.le_of_ble_eq_true rfl⟩ dL_hangs_302 (fun H locs hW hS => ?_)
    rw [boil4 hb2]
    refine lv_if_le (tgt := 312) hx hb dL_hangs_305 (by decide) (fun z => False.elim (by
      rw [tL, t0] at z
      omega)) (fun _ => ?_)
    refine lv_iconst (v := nI 1) hx hb dL_hangs_308 (by decide) ?_
    refine lv_goto (tgt := 313) hx hb dL_hangs_309 (by decide) ?_
    refine lv_istore_n (lv' := [(2, .int (nI 1)), (0, .ref d.1), (1, .int (nI a)), (3, .int (nI b))]) hx hb dL_hangs_313 rfl hl (by decide) rfl (fun ls hl => ?_)
    refine lv_iinc (v := nI (b + 1)) (lv' := [(3, .int (nI (b + 1))), (2, .int (nI 1)), (0, .ref d.1), (1, .int (nI a))]) hx hb dL_hangs_314 hl (k := 3) rfl (inc1 b) (by decide) rfl (fun ls hl => ?_)
    refine lv_goto (tgt := 192) hx hb dL_hangs_317 (by decide) ?_
    exact kk H locs ls hW hS (lv_sub hl [2, 3, 1, 0] rfl)
set_option maxHeartbeats 4000000 in
theorem hg_b2 {p : Program} {l : Launch} {e : Env} {s : State} {m : MethodId} {args : Array Value} {below : List Frame} {meth : Method} {c : Code} {Q : State → Prop} {A : Nat → Prop} {G : GG} {d : AD} {nv nq : Nat → Int32} {hn : Nat} {vs qs : Nat → Nat → Int32} {a n : Nat} (X : Cx p s m args meth c cL_hangs 7 wsB RL (some .boolean)) (hK : KN G s) (hA : ∀ q : Nat, s.heap.size ≤ q → A q) (h25 : nv 25 = nI n) (kk : KW p l e RH s m args below meth c 0 0 Q A G d nv nq hn vs qs 7 330 [(0, .ref d.1), (1, .int (nI a)), (2, .int (nI 1)), (3, .int (nI n)), (4, .int (nI 0))] []) : KW p l e RH s m args below meth c 0 0 Q A G d nv nq hn vs qs 7 192 [(0, .ref d.1), (1, .int (nI a)), (2, .int (nI 1)), (3, .int (nI 2))] [] := by
  have hx := X.1
  have hb : c.code = cL_hangs := X.2.1
  intro H locs ls hW hS hl
  refine lv_iload_n hx hb dL_hangs_192 rfl (lv_at hl 3 rfl) ?_
  refine lv_iconst (v := nI 2) hx hb dL_hangs_193 (by decide) ?_
  refine lv_icmp_ge (tgt := 320) hx hb dL_hangs_194 (by decide) (fun _ => ?_) (fun z => False.elim (z (Int32.le_refl _)))
  refine lv_aload_n hx hb dL_hangs_320 rfl (lv_at hl 0 rfl) ?_
  refine lv_bipush (v := nI 6) hx hb dL_hangs_321 (by decide) ?_
  refine k_count (rest := []) X hK hA hW hS hl.1 (Nat.le_of_ble_eq_true rfl) ⟨Nat.le_of_ble_eq_true rfl, Nat.le_of_ble_eq_true rfl⟩ ⟨Nat.le_of_ble_eq_true rfl, Nat.le_of_ble_eq_true rfl⟩ dL_hangs_323 (fun H locs hW hS => ?_)
  rw [cnt6, h25]
  refine lv_istore_n (lv' := [(3, .int (nI n)), (0, .ref d.1), (1, .int (nI a)), (2, .int (nI 1))]) hx hb dL_hangs_326 rfl hl (by decide) rfl (fun ls hl => ?_)
  refine lv_iconst (v := nI 0) hx hb dL_hangs_327 (by decide) ?_
  refine lv_istore (lv' := [(4, .int (nI 0)), (3, .int (nI n)), (0, .ref d.1), (1, .int (nI a)), (2, .int (nI 1))]) hx hb dL_hangs_328 hl (by decide) rfl (fun ls hl => ?_)
  exact kk H locs ls hW hS (lv_sub hl [2, 3, 4, 1, 0] rfl)
set_option maxHeartbeats 4000000 in
theorem hg_l {p : Program} {l : Launch} {e : Env} {s : State} {m : MethodId} {args : Array Value} {below : List Frame} {meth : Method} {c : Code} {Q : State → Prop} {A : Nat → Prop} {G : GG} {d : AD} {nv nq : Nat → Int32} {hn : Nat} {vs qs : Nat → Nat → Int32} {a n k : Nat} (X : Cx p s m args meth c cL_hangs 7 wsB RL (some .boolean)) (hK : KN G s) (hA : ∀ q : Nat, s.heap.size ≤ q → A q) (h25 : nv 25 = nI n) (hnn : n ≤ 12) (hq : ∀ j, j < n → K3 (nq j)) (hk : k < n) (kk : KW p l e RH s m args below meth c 0 0 Q A G d nv nq hn vs qs 7 330 [(0, .ref d.1), (1, .int (nI a)), (2, .int (nI 1)), (3, .int (nI n)), (4, .int (nI (k + 1)))] []) : KW p l e RH s m args below meth c 0 0 Q A G d nv nq hn vs qs 7 330 [(0, .ref d.1), (1, .int (nI a)), (2, .int (nI 1)), (3, .int (nI n)), (4, .int (nI k))] [] := by
  have hx := X.1
  have hb : c.code = cL_hangs := X.2.1
  intro H locs ls hW hS hl
  refine lv_iload hx hb dL_hangs_330 (lv_at hl 4 rfl) ?_
  refine lv_iload_n hx hb dL_hangs_332 rfl (lv_at hl 3 rfl) ?_
  refine lv_icmp_ge (tgt := 371) hx hb dL_hangs_333 (by decide) (fun z => False.elim (by
      rw [nI_leI (by omega) (by omega)] at z
      omega)) (fun _ => ?_)
  refine lv_iload_n hx hb dL_hangs_336 rfl (lv_at hl 2 rfl) ?_
  refine lv_if_eq (tgt := 371) hx hb dL_hangs_337 (by decide) (fun z => False.elim ((show ¬ nI 1 = 0 by decide) z)) (fun _ => ?_)
  refine lv_aload_n hx hb dL_hangs_340 rfl (lv_at hl 0 rfl) ?_
  refine lv_iload hx hb dL_hangs_341 (lv_at hl 4 rfl) ?_
  refine k_line (rest := []) X hK hA hW hS hl.1 (Nat.le_of_ble_eq_true rfl) ⟨Nat.le_of_ble_eq_true rfl, Nat.le_of_ble_eq_true rfl⟩ ⟨Nat.le_of_ble_eq_true rfl, Nat.le_of_ble_eq_true rfl⟩ dL_hangs_343 (fun H locs hW hS => ?_)
  rw [line_k h25 hnn hk]
  refine lv_if_lt (tgt := 363) hx hb dL_hangs_346 (by decide) (fun z => False.elim (K3_0 (hq k hk) z)) (fun _ => ?_)
  refine lv_aload_n hx hb dL_hangs_349 rfl (lv_at hl 0 rfl) ?_
  refine lv_iload hx hb dL_hangs_350 (lv_at hl 4 rfl) ?_
  refine k_line (rest := []) X hK hA hW hS hl.1 (Nat.le_of_ble_eq_true rfl) ⟨Nat.le_of_ble_eq_true rfl, Nat.le_of_ble_eq_true rfl⟩ ⟨Nat.le_of_ble_eq_true rfl, Nat.le_of_ble_eq_true rfl⟩ dL_hangs_352 (fun H locs hW hS => ?_)
  rw [line_k h25 hnn hk]
  refine lv_iconst (v := nI 3) hx hb dL_hangs_355 (by decide) ?_
  refine lv_icmp_ge (tgt := 363) hx hb dL_hangs_356 (by decide) (fun z => False.elim (K3_3 (hq k hk) z)) (fun _ => ?_)
  refine lv_iconst (v := nI 1) hx hb dL_hangs_359 (by decide) ?_
  refine lv_goto (tgt := 364) hx hb dL_hangs_360 (by decide) ?_
  refine lv_istore_n (lv' := [(2, .int (nI 1)), (0, .ref d.1), (1, .int (nI a)), (3, .int (nI n)), (4, .int (nI k))]) hx hb dL_hangs_364 rfl hl (by decide) rfl (fun ls hl => ?_)
  refine lv_iinc (v := nI (k + 1)) (lv' := [(4, .int (nI (k + 1))), (2, .int (nI 1)), (0, .ref d.1), (1, .int (nI a)), (3, .int (nI n))]) hx hb dL_hangs_365 hl (k := 4) rfl (inc1 k) (by decide) rfl (fun ls hl => ?_)
  refine lv_goto (tgt := 330) hx hb dL_hangs_368 (by decide) ?_
  exact kk H locs ls hW hS (lv_sub hl [2, 3, 1, 4, 0] rfl)
theorem hg_L {p : Program} {l : Launch} {e : Env} {s : State} {m : MethodId} {args : Array Value} {below : List Frame} {meth : Method} {c : Code} {Q : State → Prop} {A : Nat → Prop} {G : GG} {d : AD} {nv nq : Nat → Int32} {hn : Nat} {vs qs : Nat → Nat → Int32} {a n : Nat} (X : Cx p s m args meth c cL_hangs 7 wsB RL (some .boolean)) (hK : KN G s) (hA : ∀ q : Nat, s.heap.size ≤ q → A q) (h25 : nv 25 = nI n) (hnn : n ≤ 12) (hq : ∀ j, j < n → K3 (nq j)) (kk : KW p l e RH s m args below meth c 0 0 Q A G d nv nq hn vs qs 7 330 [(0, .ref d.1), (1, .int (nI a)), (2, .int (nI 1)), (3, .int (nI n)), (4, .int (nI n))] []) : ∀ (f k : Nat), k + f = n → KW p l e RH s m args below meth c 0 0 Q A G d nv nq hn vs qs 7 330 [(0, .ref d.1), (1, .int (nI a)), (2, .int (nI 1)), (3, .int (nI n)), (4, .int (nI k))] []
  | 0, k, h => by
    have h : k = n := h
    subst h
    exact kk
  | f + 1, k, h => hg_l X hK hA h25 hnn hq (by omega) (hg_L X hK hA h25 hnn hq kk f (k + 1) (by omega))
set_option maxHeartbeats 4000000 in
theorem hg_E {p : Program} {l : Launch} {e : Env} {s : State} {m : MethodId} {args : Array Value} {below : List Frame} {meth : Method} {c : Code} {Q : State → Prop} {A : Nat → Prop} {G : GG} {d : AD} {nv nq : Nat → Int32} {hn : Nat} {vs qs : Nat → Nat → Int32} {t : Int} {n : Nat} (X : Cx p s m args meth c cL_hangs 7 wsB RL (some .boolean)) (hK : KN G s) (hA : ∀ q : Nat, s.heap.size ≤ q → A q) (hI : Iv t nv) (ht : t ≤ 100000) (h25 : nv 25 = nI n) (hnn : n ≤ 12) (kk : KW p l e RH s m args below meth c 0 0 Q A G d nv nq hn vs qs 7 491 [(0, .ref d.1), (1, .int (nI (lds nv))), (2, .int (nI 1)), (3, .int (nI n)), (4, .int (nI 0))] []) : KW p l e RH s m args below meth c 0 0 Q A G d nv nq hn vs qs 7 330 [(0, .ref d.1), (1, .int (nI (lds nv))), (2, .int (nI 1)), (3, .int (nI n)), (4, .int (nI n))] [] := by
  have hx := X.1
  have hb : c.code = cL_hangs := X.2.1
  intro H locs ls hW hS hl
  obtain ⟨-, -, -, hSA, ⟨⟨w1, w2⟩, w3, w4⟩, -, -, -⟩ := hI
  have m3 : (nI 3 * nv 41).toInt = 3 * (nv 41).toInt := by rw [tM (by rw [tn3]; omega) (by rw [tn3]; omega), tn3]
  have m9 : (nI 9 * nv 41).toInt = 9 * (nv 41).toInt := by rw [tM (by rw [show (nI 9).toInt = 9 by decide]; omega) (by rw [show (nI 9).toInt = 9 by decide]; omega), show (nI 9).toInt = 9 by decide]
  refine lv_iload hx hb dL_hangs_330 (lv_at hl 4 rfl) ?_
  refine lv_iload_n hx hb dL_hangs_332 rfl (lv_at hl 3 rfl) ?_
  refine lv_icmp_ge (tgt := 371) hx hb dL_hangs_333 (by decide) (fun _ => ?_) (fun z => False.elim (z (Int32.le_refl _)))
  refine lv_iload_n hx hb dL_hangs_371 rfl (lv_at hl 2 rfl) ?_
  refine lv_if_eq (tgt := 486) hx hb dL_hangs_372 (by decide) (fun z => False.elim ((show ¬ nI 1 = 0 by decide) z)) (fun _ => ?_)
  refine lv_aload_n hx hb dL_hangs_375 rfl (lv_at hl 0 rfl) ?_
  refine lv_iload_n hx hb dL_hangs_376 rfl (lv_at hl 3 rfl) ?_
  refine k_line (rest := []) X hK hA hW hS hl.1 (Nat.le_of_ble_eq_true rfl) ⟨Nat.le_of_ble_eq_true rfl, Nat.le_of_ble_eq_true rfl⟩ ⟨Nat.le_of_ble_eq_true rfl, Nat.le_of_ble_eq_true rfl⟩ dL_hangs_377 (fun H locs hW hS => ?_)
  rw [line_o h25 hnn]
  refine lv_bipush (v := (-5)) hx hb dL_hangs_380 (by decide) ?_
  refine lv_icmp_ne (tgt := 486) hx hb dL_hangs_382 (by decide) (fun z => False.elim (z rfl)) (fun _ => ?_)
  refine lv_iload_n hx hb dL_hangs_385 rfl (lv_at hl 1 rfl) ?_
  refine lv_aload_n hx hb dL_hangs_386 rfl (lv_at hl 0 rfl) ?_
  refine lv_iconst (v := nI 5) hx hb dL_hangs_387 (by decide) ?_
  refine k_count (rest := [.int (nI (lds nv))]) X hK hA hW hS hl.1 (Nat.le_of_ble_eq_true rfl) ⟨Nat.le_of_ble_eq_true rfl, Nat.le_of_ble_eq_true rfl⟩ ⟨Nat.le_of_ble_eq_true rfl, Nat.le_of_ble_eq_true rfl⟩ dL_hangs_388 (fun H locs hW hS => ?_)
  rw [cnt5]
  refine lv_icmp_ne (tgt := 486) hx hb dL_hangs_391 (by decide) (fun z => False.elim (z rfl)) (fun _ => ?_)
  refine lv_aload_n hx hb dL_hangs_394 rfl (lv_at hl 0 rfl) ?_
  refine lv_bipush (v := nI 7) hx hb dL_hangs_395 (by decide) ?_
  refine k_count (rest := []) X hK hA hW hS hl.1 (Nat.le_of_ble_eq_true rfl) ⟨Nat.le_of_ble_eq_true rfl, Nat.le_of_ble_eq_true rfl⟩ ⟨Nat.le_of_ble_eq_true rfl, Nat.le_of_ble_eq_true rfl⟩ dL_hangs_397 (fun H locs hW hS => ?_)
  rw [cnt7]
  refine lv_aload_n hx hb dL_hangs_400 rfl (lv_at hl 0 rfl) ?_
  refine lv_bipush (v := nI 8) hx hb dL_hangs_401 (by decide) ?_
  refine k_count (rest := [.int (nv 40)]) X hK hA hW hS hl.1 (Nat.le_of_ble_eq_true rfl) ⟨Nat.le_of_ble_eq_true rfl, Nat.le_of_ble_eq_true rfl⟩ ⟨Nat.le_of_ble_eq_true rfl, Nat.le_of_ble_eq_true rfl⟩ dL_hangs_403 (fun H locs hW hS => ?_)
  rw [cnt8]
  refine lv_aload_n hx hb dL_hangs_406 rfl (lv_at hl 0 rfl) ?_
  refine lv_bipush (v := nI 9) hx hb dL_hangs_407 (by decide) ?_
  refine k_count (rest := [.int (nv 41), .int (nv 40)]) X hK hA hW hS hl.1 (Nat.le_of_ble_eq_true rfl) ⟨Nat.le_of_ble_eq_true rfl, Nat.le_of_ble_eq_true rfl⟩ ⟨Nat.le_of_ble_eq_true rfl, Nat.le_of_ble_eq_true rfl⟩ dL_hangs_409 (fun H locs hW hS => ?_)
  rw [cnt9]
  refine lv_iadd hx hb dL_hangs_412 ?_
  refine lv_aload_n hx hb dL_hangs_413 rfl (lv_at hl 0 rfl) ?_
  refine lv_bipush (v := nI 10) hx hb dL_hangs_414 (by decide) ?_
  refine k_count (rest := [.int ((nv 41) + (nv 42)), .int (nv 40)]) X hK hA hW hS hl.1 (Nat.le_of_ble_eq_true rfl) ⟨Nat.le_of_ble_eq_true rfl, Nat.le_of_ble_eq_true rfl⟩ ⟨Nat.le_of_ble_eq_true rfl, Nat.le_of_ble_eq_true rfl⟩ dL_hangs_416 (fun H locs hW hS => ?_)
  rw [cnt10]
  refine lv_iadd hx hb dL_hangs_419 ?_
  refine lv_iload_n hx hb dL_hangs_420 rfl (lv_at hl 1 rfl) ?_
  refine lv_iadd hx hb dL_hangs_421 ?_
  refine lv_icmp_ne (tgt := 486) hx hb dL_hangs_422 (by decide) (fun z => False.elim (z hSA)) (fun _ => ?_)
  refine lv_aload_n hx hb dL_hangs_425 rfl (lv_at hl 0 rfl) ?_
  refine lv_bipush (v := nI 12) hx hb dL_hangs_426 (by decide) ?_
  refine k_count (rest := []) X hK hA hW hS hl.1 (Nat.le_of_ble_eq_true rfl) ⟨Nat.le_of_ble_eq_true rfl, Nat.le_of_ble_eq_true rfl⟩ ⟨Nat.le_of_ble_eq_true rfl, Nat.le_of_ble_eq_true rfl⟩ dL_hangs_428 (fun H locs hW hS => ?_)
  rw [cnt12]
  refine lv_aload_n hx hb dL_hangs_431 rfl (lv_at hl 0 rfl) ?_
  refine lv_iconst (v := nI 0) hx hb dL_hangs_432 (by decide) ?_
  refine lv_iconst (v := nI 2) hx hb dL_hangs_433 (by decide) ?_
  refine k_boiler (rest := [.int (f_X2_allPressure nv)]) X hK hA hW hS hl.1 (Nat.le_of_ble_eq_true rfl) ⟨Nat.le_of_ble_eq_true rfl, Nat.le_of_ble_eq_true rfl⟩ ⟨Nat.le_of_ble_eq_true rfl, Nat.le_of_ble_eq_true rfl⟩ dL_hangs_434 (fun H locs hW hS => ?_)
  rw [boil2 (b := 0) (by omega)]
  refine lv_aload_n hx hb dL_hangs_437 rfl (lv_at hl 0 rfl) ?_
  refine lv_iconst (v := nI 1) hx hb dL_hangs_438 (by decide) ?_
  refine lv_iconst (v := nI 2) hx hb dL_hangs_439 (by decide) ?_
  refine k_boiler (rest := [.int (nv 4), .int (f_X2_allPressure nv)]) X hK hA hW hS hl.1 (Nat.le_of_ble_eq_true rfl) ⟨Nat.le_of_ble_eq_true rfl, Nat.le_of_ble_eq_true rfl⟩ ⟨Nat.le_of_ble_eq_true rfl, Nat.le_of_ble_eq_true rfl⟩ dL_hangs_440 (fun H locs hW hS => ?_)
  rw [boil2 (b := 1) (by omega)]
  refine lv_iadd hx hb dL_hangs_443 ?_
  refine lv_icmp_ne (tgt := 486) hx hb dL_hangs_444 (by decide) (fun z => False.elim (z ap_e)) (fun _ => ?_)
  refine lv_aload_n hx hb dL_hangs_447 rfl (lv_at hl 0 rfl) ?_
  refine lv_bipush (v := nI 11) hx hb dL_hangs_448 (by decide) ?_
  refine k_count (rest := []) X hK hA hW hS hl.1 (Nat.le_of_ble_eq_true rfl) ⟨Nat.le_of_ble_eq_true rfl, Nat.le_of_ble_eq_true rfl⟩ ⟨Nat.le_of_ble_eq_true rfl, Nat.le_of_ble_eq_true rfl⟩ dL_hangs_450 (fun H locs hW hS => ?_)
  rw [cnt11]
  refine lv_iconst (v := nI 3) hx hb dL_hangs_453 (by decide) ?_
  refine lv_aload_n hx hb dL_hangs_454 rfl (lv_at hl 0 rfl) ?_
  refine lv_bipush (v := nI 8) hx hb dL_hangs_455 (by decide) ?_
  refine k_count (rest := [.int (nI 3), .int (nv 44)]) X hK hA hW hS hl.1 (Nat.le_of_ble_eq_true rfl) ⟨Nat.le_of_ble_eq_true rfl, Nat.le_of_ble_eq_true rfl⟩ ⟨Nat.le_of_ble_eq_true rfl, Nat.le_of_ble_eq_true rfl⟩ dL_hangs_457 (fun H locs hW hS => ?_)
  rw [cnt8]
  refine lv_imul hx hb dL_hangs_460 ?_
  refine lv_icmp_lt (tgt := 486) hx hb dL_hangs_461 (by decide) (fun z => False.elim (by
      rw [tT, m3] at z
      omega)) (fun _ => ?_)
  refine lv_aload_n hx hb dL_hangs_464 rfl (lv_at hl 0 rfl) ?_
  refine lv_bipush (v := nI 11) hx hb dL_hangs_465 (by decide) ?_
  refine k_count (rest := []) X hK hA hW hS hl.1 (Nat.le_of_ble_eq_true rfl) ⟨Nat.le_of_ble_eq_true rfl, Nat.le_of_ble_eq_true rfl⟩ ⟨Nat.le_of_ble_eq_true rfl, Nat.le_of_ble_eq_true rfl⟩ dL_hangs_467 (fun H locs hW hS => ?_)
  rw [cnt11]
  refine lv_bipush (v := nI 9) hx hb dL_hangs_470 (by decide) ?_
  refine lv_aload_n hx hb dL_hangs_472 rfl (lv_at hl 0 rfl) ?_
  refine lv_bipush (v := nI 8) hx hb dL_hangs_473 (by decide) ?_
  refine k_count (rest := [.int (nI 9), .int (nv 44)]) X hK hA hW hS hl.1 (Nat.le_of_ble_eq_true rfl) ⟨Nat.le_of_ble_eq_true rfl, Nat.le_of_ble_eq_true rfl⟩ ⟨Nat.le_of_ble_eq_true rfl, Nat.le_of_ble_eq_true rfl⟩ dL_hangs_475 (fun H locs hW hS => ?_)
  rw [cnt8]
  refine lv_imul hx hb dL_hangs_478 ?_
  refine lv_icmp_gt (tgt := 486) hx hb dL_hangs_479 (by decide) (fun z => False.elim (by
      rw [tT, m9] at z
      omega)) (fun _ => ?_)
  refine lv_iconst (v := nI 1) hx hb dL_hangs_482 (by decide) ?_
  refine lv_goto (tgt := 487) hx hb dL_hangs_483 (by decide) ?_
  refine lv_istore_n (lv' := [(2, .int (nI 1)), (0, .ref d.1), (1, .int (nI (lds nv))), (3, .int (nI n)), (4, .int (nI n))]) hx hb dL_hangs_487 rfl hl (by decide) rfl (fun ls hl => ?_)
  refine lv_iconst (v := nI 0) hx hb dL_hangs_488 (by decide) ?_
  refine lv_istore (lv' := [(4, .int (nI 0)), (2, .int (nI 1)), (0, .ref d.1), (1, .int (nI (lds nv))), (3, .int (nI n))]) hx hb dL_hangs_489 hl (by decide) rfl (fun ls hl => ?_)
  exact kk H locs ls hW hS (lv_sub hl [2, 3, 1, 4, 0] rfl)
set_option maxHeartbeats 4000000 in
theorem hg_r {p : Program} {l : Launch} {e : Env} {s : State} {m : MethodId} {args : Array Value} {below : List Frame} {meth : Method} {c : Code} {Q : State → Prop} {A : Nat → Prop} {G : GG} {d : AD} {nv nq : Nat → Int32} {hn : Nat} {vs qs : Nat → Nat → Int32} {n k : Nat} (X : Cx p s m args meth c cL_hangs 7 wsB RL (some .boolean)) (hK : KN G s) (hA : ∀ q : Nat, s.heap.size ≤ q → A q) (hk : k < 3) (kk : KW p l e RH s m args below meth c 0 0 Q A G d nv nq hn vs qs 7 491 [(0, .ref d.1), (1, .int (nI (lds nv))), (2, .int (nI 1)), (3, .int (nI n)), (4, .int (nI (k + 1)))] []) : KW p l e RH s m args below meth c 0 0 Q A G d nv nq hn vs qs 7 491 [(0, .ref d.1), (1, .int (nI (lds nv))), (2, .int (nI 1)), (3, .int (nI n)), (4, .int (nI k))] [] := by
  have hx := X.1
  have hb : c.code = cL_hangs := X.2.1
  intro H locs ls hW hS hl
  refine lv_iload hx hb dL_hangs_491 (lv_at hl 4 rfl) ?_
  refine lv_iconst (v := nI 3) hx hb dL_hangs_493 (by decide) ?_
  refine lv_icmp_ge (tgt := 586) hx hb dL_hangs_494 (by decide) (fun z => False.elim (by
      rw [nI_leI (by omega) (by omega)] at z
      omega)) (fun _ => ?_)
  refine lv_iload_n hx hb dL_hangs_497 rfl (lv_at hl 2 rfl) ?_
  refine lv_if_eq (tgt := 586) hx hb dL_hangs_498 (by decide) (fun z => False.elim ((show ¬ nI 1 = 0 by decide) z)) (fun _ => ?_)
  refine lv_aload_n hx hb dL_hangs_501 rfl (lv_at hl 0 rfl) ?_
  refine lv_iload hx hb dL_hangs_502 (lv_at hl 4 rfl) ?_
  refine k_reason (rest := []) X hK hA hW hS hl.1 (Nat.le_of_ble_eq_true rfl) ⟨Nat.le_of_ble_eq_true rfl, Nat.le_of_ble_eq_true rfl⟩ ⟨Nat.le_of_ble_eq_true rfl, Nat.le_of_ble_eq_true rfl⟩ dL_hangs_504 (fun yv yq H locs hW hS => ?_)
  rw [re_ok hk]
  refine lv_istore (lv' := [(5, .int (RS nv nq (nI k))), (0, .ref d.1), (1, .int (nI (lds nv))), (2, .int (nI 1)), (3, .int (nI n)), (4, .int (nI k))]) hx hb dL_hangs_507 hl (by decide) rfl (fun ls hl => ?_)
  have l4 : lds nv ≤ 4 := by
    unfold lds
    have g0 := ld_le (nv 13)
    have g1 := ld_le (nv 14)
    have g2 := ld_le (nv 15)
    have g3 := ld_le (nv 16)
    omega
  have key : (lds nv = 4 ∧ RS nv nq (nI k) = nI 1) ∨ (¬ lds nv = 4 ∧ ¬ nI 10 ≤ f_X2_allPressure nv ∧ RS nv nq (nI k) = nI 2) ∨ (¬ lds nv = 4 ∧ nI 10 ≤ f_X2_allPressure nv ∧ (RS nv nq (nI k) = nI 0 ∨ RS nv nq (nI k) = nI 3)) := by
    by_cases c1 : lds nv = 4
    · exact Or.inl ⟨c1, rs_full (K3_n hk) c1⟩
    · by_cases c2 : nI 10 ≤ f_X2_allPressure nv
      · exact Or.inr (Or.inr ⟨c1, c2, rs_rest (K3_n hk) c1 c2⟩)
      · exact Or.inr (Or.inl ⟨c1, c2, rs_low (K3_n hk) c1 c2⟩)
  rcases key with ⟨c1, er⟩ | ⟨c1, c2, er⟩ | ⟨c1, c2, er | er⟩
  · have nr : ∀ x : Nat, x ≤ 3 → RS nv nq (nI k) = nI x → x = 1 := fun x hx4 hz => (nI_eq (by omega) (by omega)).mp (hz.symm.trans er)
    have ne : ¬ lds nv = 4 → ¬ nI (lds nv) = nI 4 := fun h z => h ((nI_eq (by omega) (by omega)).mp z)
    refine lv_iload hx hb dL_hangs_509 (lv_at hl 0 rfl) ?_
    refine lv_iconst (v := nI 1) hx hb dL_hangs_511 (by decide) ?_
    refine lv_icmp_ne (tgt := 519) hx hb dL_hangs_512 (by decide) (fun z => False.elim (z er)) (fun _ => ?_)
    refine lv_iconst (v := nI 1) hx hb dL_hangs_515 (by decide) ?_
    refine lv_goto (tgt := 520) hx hb dL_hangs_516 (by decide) ?_
    refine lv_iload_n hx hb dL_hangs_520 rfl (lv_at hl 2 rfl) ?_
    refine lv_iconst (v := nI 4) hx hb dL_hangs_521 (by decide) ?_
    refine lv_icmp_ne (tgt := 529) hx hb dL_hangs_522 (by decide) (fun z => False.elim (z (congrArg nI c1))) (fun _ => ?_)
    refine lv_iconst (v := nI 1) hx hb dL_hangs_525 (by decide) ?_
    refine lv_goto (tgt := 530) hx hb dL_hangs_526 (by decide) ?_
    refine lv_icmp_ne (tgt := 578) hx hb dL_hangs_530 (by decide) (fun z => False.elim (z rfl)) (fun _ => ?_)
    refine lv_iload_n hx hb dL_hangs_533 rfl (lv_at hl 2 rfl) ?_
    refine lv_iconst (v := nI 4) hx hb dL_hangs_534 (by decide) ?_
    refine lv_icmp_eq (tgt := 568) hx hb dL_hangs_535 (by decide) (fun _ => ?_) (fun z => False.elim (z (congrArg nI c1)))
    refine lv_iload hx hb dL_hangs_568 (lv_at hl 0 rfl) ?_
    refine lv_iconst (v := nI 3) hx hb dL_hangs_570 (by decide) ?_
    refine lv_icmp_gt (tgt := 578) hx hb dL_hangs_571 (by decide) (fun z => False.elim (by
      rw [er] at z
      exact absurd z (by decide))) (fun _ => ?_)
    refine lv_iconst (v := nI 1) hx hb dL_hangs_574 (by decide) ?_
    refine lv_goto (tgt := 579) hx hb dL_hangs_575 (by decide) ?_
    refine lv_istore_n (lv' := [(2, .int (nI 1)), (5, .int (RS nv nq (nI k))), (0, .ref d.1), (1, .int (nI (lds nv))), (3, .int (nI n)), (4, .int (nI k))]) hx hb dL_hangs_579 rfl hl (by decide) rfl (fun ls hl => ?_)
    refine lv_iinc (v := nI (k + 1)) (lv' := [(4, .int (nI (k + 1))), (2, .int (nI 1)), (5, .int (RS nv nq (nI k))), (0, .ref d.1), (1, .int (nI (lds nv))), (3, .int (nI n))]) hx hb dL_hangs_580 hl (k := 5) rfl (inc1 k) (by decide) rfl (fun ls hl => ?_)
    refine lv_goto (tgt := 491) hx hb dL_hangs_583 (by decide) ?_
    exact kk H locs ls hW hS (lv_sub hl [3, 4, 1, 5, 0] rfl)
  · have nr : ∀ x : Nat, x ≤ 3 → RS nv nq (nI k) = nI x → x = 2 := fun x hx4 hz => (nI_eq (by omega) (by omega)).mp (hz.symm.trans er)
    have ne : ¬ lds nv = 4 → ¬ nI (lds nv) = nI 4 := fun h z => h ((nI_eq (by omega) (by omega)).mp z)
    refine lv_iload hx hb dL_hangs_509 (lv_at hl 0 rfl) ?_
    refine lv_iconst (v := nI 1) hx hb dL_hangs_511 (by decide) ?_
    refine lv_icmp_ne (tgt := 519) hx hb dL_hangs_512 (by decide) (fun _ => ?_) (fun z => False.elim (absurd (nr 1 (by omega) z) (by omega)))
    refine lv_iconst (v := nI 0) hx hb dL_hangs_519 (by decide) ?_
    refine lv_iload_n hx hb dL_hangs_520 rfl (lv_at hl 2 rfl) ?_
    refine lv_iconst (v := nI 4) hx hb dL_hangs_521 (by decide) ?_
    refine lv_icmp_ne (tgt := 529) hx hb dL_hangs_522 (by decide) (fun _ => ?_) (fun z => False.elim (ne c1 z))
    refine lv_iconst (v := nI 0) hx hb dL_hangs_529 (by decide) ?_
    refine lv_icmp_ne (tgt := 578) hx hb dL_hangs_530 (by decide) (fun z => False.elim (z rfl)) (fun _ => ?_)
    refine lv_iload_n hx hb dL_hangs_533 rfl (lv_at hl 2 rfl) ?_
    refine lv_iconst (v := nI 4) hx hb dL_hangs_534 (by decide) ?_
    refine lv_icmp_eq (tgt := 568) hx hb dL_hangs_535 (by decide) (fun z => False.elim (ne c1 z)) (fun _ => ?_)
    refine lv_iload hx hb dL_hangs_538 (lv_at hl 0 rfl) ?_
    refine lv_iconst (v := nI 2) hx hb dL_hangs_540 (by decide) ?_
    refine lv_icmp_ne (tgt := 548) hx hb dL_hangs_541 (by decide) (fun z => False.elim (z er)) (fun _ => ?_)
    refine lv_iconst (v := nI 1) hx hb dL_hangs_544 (by decide) ?_
    refine lv_goto (tgt := 549) hx hb dL_hangs_545 (by decide) ?_
    refine lv_aload_n hx hb dL_hangs_549 rfl (lv_at hl 1 rfl) ?_
    refine lv_bipush (v := nI 12) hx hb dL_hangs_550 (by decide) ?_
    refine k_count (rest := [.int (nI 1)]) X hK hA hW hS hl.1 (Nat.le_of_ble_eq_true rfl) ⟨Nat.le_of_ble_eq_true rfl, Nat.le_of_ble_eq_true rfl⟩ ⟨Nat.le_of_ble_eq_true rfl, Nat.le_of_ble_eq_true rfl⟩ dL_hangs_552 (fun H locs hW hS => ?_)
    rw [cnt12]
    refine lv_bipush (v := nI 10) hx hb dL_hangs_555 (by decide) ?_
    refine lv_icmp_ge (tgt := 564) hx hb dL_hangs_557 (by decide) (fun z => False.elim (c2 z)) (fun _ => ?_)
    refine lv_iconst (v := nI 1) hx hb dL_hangs_560 (by decide) ?_
    refine lv_goto (tgt := 565) hx hb dL_hangs_561 (by decide) ?_
    refine lv_icmp_ne (tgt := 578) hx hb dL_hangs_565 (by decide) (fun z => False.elim (z rfl)) (fun _ => ?_)
    refine lv_iload hx hb dL_hangs_568 (lv_at hl 0 rfl) ?_
    refine lv_iconst (v := nI 3) hx hb dL_hangs_570 (by decide) ?_
    refine lv_icmp_gt (tgt := 578) hx hb dL_hangs_571 (by decide) (fun z => False.elim (by
      rw [er] at z
      exact absurd z (by decide))) (fun _ => ?_)
    refine lv_iconst (v := nI 1) hx hb dL_hangs_574 (by decide) ?_
    refine lv_goto (tgt := 579) hx hb dL_hangs_575 (by decide) ?_
    refine lv_istore_n (lv' := [(2, .int (nI 1)), (5, .int (RS nv nq (nI k))), (0, .ref d.1), (1, .int (nI (lds nv))), (3, .int (nI n)), (4, .int (nI k))]) hx hb dL_hangs_579 rfl hl (by decide) rfl (fun ls hl => ?_)
    refine lv_iinc (v := nI (k + 1)) (lv' := [(4, .int (nI (k + 1))), (2, .int (nI 1)), (5, .int (RS nv nq (nI k))), (0, .ref d.1), (1, .int (nI (lds nv))), (3, .int (nI n))]) hx hb dL_hangs_580 hl (k := 5) rfl (inc1 k) (by decide) rfl (fun ls hl => ?_)
    refine lv_goto (tgt := 491) hx hb dL_hangs_583 (by decide) ?_
    exact kk H locs ls hW hS (lv_sub hl [3, 4, 1, 5, 0] rfl)
  · have nr : ∀ x : Nat, x ≤ 3 → RS nv nq (nI k) = nI x → x = 0 := fun x hx4 hz => (nI_eq (by omega) (by omega)).mp (hz.symm.trans er)
    have ne : ¬ lds nv = 4 → ¬ nI (lds nv) = nI 4 := fun h z => h ((nI_eq (by omega) (by omega)).mp z)
    refine lv_iload hx hb dL_hangs_509 (lv_at hl 0 rfl) ?_
    refine lv_iconst (v := nI 1) hx hb dL_hangs_511 (by decide) ?_
    refine lv_icmp_ne (tgt := 519) hx hb dL_hangs_512 (by decide) (fun _ => ?_) (fun z => False.elim (absurd (nr 1 (by omega) z) (by omega)))
    refine lv_iconst (v := nI 0) hx hb dL_hangs_519 (by decide) ?_
    refine lv_iload_n hx hb dL_hangs_520 rfl (lv_at hl 2 rfl) ?_
    refine lv_iconst (v := nI 4) hx hb dL_hangs_521 (by decide) ?_
    refine lv_icmp_ne (tgt := 529) hx hb dL_hangs_522 (by decide) (fun _ => ?_) (fun z => False.elim (ne c1 z))
    refine lv_iconst (v := nI 0) hx hb dL_hangs_529 (by decide) ?_
    refine lv_icmp_ne (tgt := 578) hx hb dL_hangs_530 (by decide) (fun z => False.elim (z rfl)) (fun _ => ?_)
    refine lv_iload_n hx hb dL_hangs_533 rfl (lv_at hl 2 rfl) ?_
    refine lv_iconst (v := nI 4) hx hb dL_hangs_534 (by decide) ?_
    refine lv_icmp_eq (tgt := 568) hx hb dL_hangs_535 (by decide) (fun z => False.elim (ne c1 z)) (fun _ => ?_)
    refine lv_iload hx hb dL_hangs_538 (lv_at hl 0 rfl) ?_
    refine lv_iconst (v := nI 2) hx hb dL_hangs_540 (by decide) ?_
    refine lv_icmp_ne (tgt := 548) hx hb dL_hangs_541 (by decide) (fun _ => ?_) (fun z => False.elim (absurd (nr 2 (by omega) z) (by omega)))
    refine lv_iconst (v := nI 0) hx hb dL_hangs_548 (by decide) ?_
    refine lv_aload_n hx hb dL_hangs_549 rfl (lv_at hl 1 rfl) ?_
    refine lv_bipush (v := nI 12) hx hb dL_hangs_550 (by decide) ?_
    refine k_count (rest := [.int (nI 0)]) X hK hA hW hS hl.1 (Nat.le_of_ble_eq_true rfl) ⟨Nat.le_of_ble_eq_true rfl, Nat.le_of_ble_eq_true rfl⟩ ⟨Nat.le_of_ble_eq_true rfl, Nat.le_of_ble_eq_true rfl⟩ dL_hangs_552 (fun H locs hW hS => ?_)
    rw [cnt12]
    refine lv_bipush (v := nI 10) hx hb dL_hangs_555 (by decide) ?_
    refine lv_icmp_ge (tgt := 564) hx hb dL_hangs_557 (by decide) (fun _ => ?_) (fun z => False.elim (z c2))
    refine lv_iconst (v := nI 0) hx hb dL_hangs_564 (by decide) ?_
    refine lv_icmp_ne (tgt := 578) hx hb dL_hangs_565 (by decide) (fun z => False.elim (z rfl)) (fun _ => ?_)
    refine lv_iload hx hb dL_hangs_568 (lv_at hl 0 rfl) ?_
    refine lv_iconst (v := nI 3) hx hb dL_hangs_570 (by decide) ?_
    refine lv_icmp_gt (tgt := 578) hx hb dL_hangs_571 (by decide) (fun z => False.elim (by
      rw [er] at z
      exact absurd z (by decide))) (fun _ => ?_)
    refine lv_iconst (v := nI 1) hx hb dL_hangs_574 (by decide) ?_
    refine lv_goto (tgt := 579) hx hb dL_hangs_575 (by decide) ?_
    refine lv_istore_n (lv' := [(2, .int (nI 1)), (5, .int (RS nv nq (nI k))), (0, .ref d.1), (1, .int (nI (lds nv))), (3, .int (nI n)), (4, .int (nI k))]) hx hb dL_hangs_579 rfl hl (by decide) rfl (fun ls hl => ?_)
    refine lv_iinc (v := nI (k + 1)) (lv' := [(4, .int (nI (k + 1))), (2, .int (nI 1)), (5, .int (RS nv nq (nI k))), (0, .ref d.1), (1, .int (nI (lds nv))), (3, .int (nI n))]) hx hb dL_hangs_580 hl (k := 5) rfl (inc1 k) (by decide) rfl (fun ls hl => ?_)
    refine lv_goto (tgt := 491) hx hb dL_hangs_583 (by decide) ?_
    exact kk H locs ls hW hS (lv_sub hl [3, 4, 1, 5, 0] rfl)
  · have nr : ∀ x : Nat, x ≤ 3 → RS nv nq (nI k) = nI x → x = 3 := fun x hx4 hz => (nI_eq (by omega) (by omega)).mp (hz.symm.trans er)
    have ne : ¬ lds nv = 4 → ¬ nI (lds nv) = nI 4 := fun h z => h ((nI_eq (by omega) (by omega)).mp z)
    refine lv_iload hx hb dL_hangs_509 (lv_at hl 0 rfl) ?_
    refine lv_iconst (v := nI 1) hx hb dL_hangs_511 (by decide) ?_
    refine lv_icmp_ne (tgt := 519) hx hb dL_hangs_512 (by decide) (fun _ => ?_) (fun z => False.elim (absurd (nr 1 (by omega) z) (by omega)))
    refine lv_iconst (v := nI 0) hx hb dL_hangs_519 (by decide) ?_
    refine lv_iload_n hx hb dL_hangs_520 rfl (lv_at hl 2 rfl) ?_
    refine lv_iconst (v := nI 4) hx hb dL_hangs_521 (by decide) ?_
    refine lv_icmp_ne (tgt := 529) hx hb dL_hangs_522 (by decide) (fun _ => ?_) (fun z => False.elim (ne c1 z))
    refine lv_iconst (v := nI 0) hx hb dL_hangs_529 (by decide) ?_
    refine lv_icmp_ne (tgt := 578) hx hb dL_hangs_530 (by decide) (fun z => False.elim (z rfl)) (fun _ => ?_)
    refine lv_iload_n hx hb dL_hangs_533 rfl (lv_at hl 2 rfl) ?_
    refine lv_iconst (v := nI 4) hx hb dL_hangs_534 (by decide) ?_
    refine lv_icmp_eq (tgt := 568) hx hb dL_hangs_535 (by decide) (fun z => False.elim (ne c1 z)) (fun _ => ?_)
    refine lv_iload hx hb dL_hangs_538 (lv_at hl 0 rfl) ?_
    refine lv_iconst (v := nI 2) hx hb dL_hangs_540 (by decide) ?_
    refine lv_icmp_ne (tgt := 548) hx hb dL_hangs_541 (by decide) (fun _ => ?_) (fun z => False.elim (absurd (nr 2 (by omega) z) (by omega)))
    refine lv_iconst (v := nI 0) hx hb dL_hangs_548 (by decide) ?_
    refine lv_aload_n hx hb dL_hangs_549 rfl (lv_at hl 1 rfl) ?_
    refine lv_bipush (v := nI 12) hx hb dL_hangs_550 (by decide) ?_
    refine k_count (rest := [.int (nI 0)]) X hK hA hW hS hl.1 (Nat.le_of_ble_eq_true rfl) ⟨Nat.le_of_ble_eq_true rfl, Nat.le_of_ble_eq_true rfl⟩ ⟨Nat.le_of_ble_eq_true rfl, Nat.le_of_ble_eq_true rfl⟩ dL_hangs_552 (fun H locs hW hS => ?_)
    rw [cnt12]
    refine lv_bipush (v := nI 10) hx hb dL_hangs_555 (by decide) ?_
    refine lv_icmp_ge (tgt := 564) hx hb dL_hangs_557 (by decide) (fun _ => ?_) (fun z => False.elim (z c2))
    refine lv_iconst (v := nI 0) hx hb dL_hangs_564 (by decide) ?_
    refine lv_icmp_ne (tgt := 578) hx hb dL_hangs_565 (by decide) (fun z => False.elim (z rfl)) (fun _ => ?_)
    refine lv_iload hx hb dL_hangs_568 (lv_at hl 0 rfl) ?_
    refine lv_iconst (v := nI 3) hx hb dL_hangs_570 (by decide) ?_
    refine lv_icmp_gt (tgt := 578) hx hb dL_hangs_571 (by decide) (fun z => False.elim (by
      rw [er] at z
      exact absurd z (by decide))) (fun _ => ?_)
    refine lv_iconst (v := nI 1) hx hb dL_hangs_574 (by decide) ?_
    refine lv_goto (tgt := 579) hx hb dL_hangs_575 (by decide) ?_
    refine lv_istore_n (lv' := [(2, .int (nI 1)), (5, .int (RS nv nq (nI k))), (0, .ref d.1), (1, .int (nI (lds nv))), (3, .int (nI n)), (4, .int (nI k))]) hx hb dL_hangs_579 rfl hl (by decide) rfl (fun ls hl => ?_)
    refine lv_iinc (v := nI (k + 1)) (lv' := [(4, .int (nI (k + 1))), (2, .int (nI 1)), (5, .int (RS nv nq (nI k))), (0, .ref d.1), (1, .int (nI (lds nv))), (3, .int (nI n))]) hx hb dL_hangs_580 hl (k := 5) rfl (inc1 k) (by decide) rfl (fun ls hl => ?_)
    refine lv_goto (tgt := 491) hx hb dL_hangs_583 (by decide) ?_
    exact kk H locs ls hW hS (lv_sub hl [3, 4, 1, 5, 0] rfl)
set_option maxHeartbeats 4000000 in
theorem hg_G {p : Program} {l : Launch} {e : Env} {s : State} {m : MethodId} {args : Array Value} {below : List Frame} {meth : Method} {c : Code} {Q : State → Prop} {A : Nat → Prop} {G : GG} {d : AD} {nv nq : Nat → Int32} {hn : Nat} {vs qs : Nat → Nat → Int32} {n : Nat} (X : Cx p s m args meth c cL_hangs 7 wsB RL (some .boolean)) (hK : KN G s) (hA : ∀ q : Nat, s.heap.size ≤ q → A q) (h25 : nv 25 = nI n) (hnn : n ≤ 12) (kk : KW p l e RH s m args below meth c 0 0 Q A G d nv nq hn vs qs 7 635 [] [.int (nI 1)]) : KW p l e RH s m args below meth c 0 0 Q A G d nv nq hn vs qs 7 491 [(0, .ref d.1), (1, .int (nI (lds nv))), (2, .int (nI 1)), (3, .int (nI n)), (4, .int (nI 3))] [] := by
  have hx := X.1
  have hb : c.code = cL_hangs := X.2.1
  intro H locs ls hW hS hl
  refine lv_iload hx hb dL_hangs_491 (lv_at hl 4 rfl) ?_
  refine lv_iconst (v := nI 3) hx hb dL_hangs_493 (by decide) ?_
  refine lv_icmp_ge (tgt := 586) hx hb dL_hangs_494 (by decide) (fun _ => ?_) (fun z => False.elim (z (Int32.le_refl _)))
  refine lv_iload_n hx hb dL_hangs_586 rfl (lv_at hl 2 rfl) ?_
  refine lv_if_eq (tgt := 597) hx hb dL_hangs_587 (by decide) (fun z => False.elim ((show ¬ nI 1 = 0 by decide) z)) (fun _ => ?_)
  refine lv_aload_n hx hb dL_hangs_590 rfl (lv_at hl 0 rfl) ?_
  refine k_doneIn (rest := []) X hK hA hW hS hl.1 (Nat.le_of_ble_eq_true rfl) ⟨Nat.le_of_ble_eq_true rfl, Nat.le_of_ble_eq_true rfl⟩ ⟨Nat.le_of_ble_eq_true rfl, Nat.le_of_ble_eq_true rfl⟩ dL_hangs_591 (fun yv yq H locs hW hS => ?_)
  refine lv_goto (tgt := 598) hx hb dL_hangs_594 (by decide) ?_
  refine lv_istore (lv' := [(4, .int ((f_X6_doneIn nv nq yv yq).1)), (0, .ref d.1), (1, .int (nI (lds nv))), (2, .int (nI 1)), (3, .int (nI n))]) hx hb dL_hangs_598 hl (by decide) rfl (fun ls hl => ?_)
  refine lv_iload_n hx hb dL_hangs_600 rfl (lv_at hl 3 rfl) ?_
  refine lv_if_eq (tgt := 634) hx hb dL_hangs_601 (by decide) (fun z => False.elim ((show ¬ nI 1 = 0 by decide) z)) (fun _ => ?_)
  have hd := dn_ok (v := nv) (q := nq) (a := yv) (b := yq)
  rw [h25, show f_X2_loadsInMachines nv = nI (lds nv) from loads_sum nv] at hd
  have l4 : lds nv ≤ 4 := by
    unfold lds
    have g0 := ld_le (nv 13)
    have g1 := ld_le (nv 14)
    have g2 := ld_le (nv 15)
    have g3 := ld_le (nv 16)
    omega
  by_cases c1 : (f_X6_doneIn nv nq yv yq).1 = 0
  · obtain ⟨z1, z2⟩ := hd.mp c1
    refine lv_iload hx hb dL_hangs_604 (lv_at hl 0 rfl) ?_
    refine lv_if_ne (tgt := 613) hx hb dL_hangs_606 (by decide) (fun z => False.elim (z c1)) (fun _ => ?_)
    refine lv_iconst (v := nI 1) hx hb dL_hangs_609 (by decide) ?_
    refine lv_goto (tgt := 614) hx hb dL_hangs_610 (by decide) ?_
    refine lv_iload_n hx hb dL_hangs_614 rfl (lv_at hl 2 rfl) ?_
    refine lv_if_ne (tgt := 626) hx hb dL_hangs_615 (by decide) (fun z => False.elim (z z2)) (fun _ => ?_)
    refine lv_iload_n hx hb dL_hangs_618 rfl (lv_at hl 4 rfl) ?_
    refine lv_if_ne (tgt := 626) hx hb dL_hangs_619 (by decide) (fun z => False.elim (z z1)) (fun _ => ?_)
    refine lv_iconst (v := nI 1) hx hb dL_hangs_622 (by decide) ?_
    refine lv_goto (tgt := 627) hx hb dL_hangs_623 (by decide) ?_
    refine lv_icmp_ne (tgt := 634) hx hb dL_hangs_627 (by decide) (fun z => False.elim (z rfl)) (fun _ => ?_)
    refine lv_iconst (v := nI 1) hx hb dL_hangs_630 (by decide) ?_
    refine lv_goto (tgt := 635) hx hb dL_hangs_631 (by decide) ?_
    exact kk H locs ls hW hS (lv_sub hl [] rfl)
  · skip
    refine lv_iload hx hb dL_hangs_604 (lv_at hl 0 rfl) ?_
    refine lv_if_ne (tgt := 613) hx hb dL_hangs_606 (by decide) (fun _ => ?_) (fun z => False.elim (c1 z))
    refine lv_iconst (v := nI 0) hx hb dL_hangs_613 (by decide) ?_
    by_cases c2 : nI (lds nv) = 0
    · have c3 : ¬ nI n = 0 := fun z => c1 (hd.mpr ⟨z, c2⟩)
      refine lv_iload_n hx hb dL_hangs_614 rfl (lv_at hl 2 rfl) ?_
      refine lv_if_ne (tgt := 626) hx hb dL_hangs_615 (by decide) (fun z => False.elim (z c2)) (fun _ => ?_)
      refine lv_iload_n hx hb dL_hangs_618 rfl (lv_at hl 4 rfl) ?_
      refine lv_if_ne (tgt := 626) hx hb dL_hangs_619 (by decide) (fun _ => ?_) (fun z => False.elim (c3 z))
      refine lv_iconst (v := nI 0) hx hb dL_hangs_626 (by decide) ?_
      refine lv_icmp_ne (tgt := 634) hx hb dL_hangs_627 (by decide) (fun z => False.elim (z rfl)) (fun _ => ?_)
      refine lv_iconst (v := nI 1) hx hb dL_hangs_630 (by decide) ?_
      refine lv_goto (tgt := 635) hx hb dL_hangs_631 (by decide) ?_
      exact kk H locs ls hW hS (lv_sub hl [] rfl)
    · skip
      refine lv_iload_n hx hb dL_hangs_614 rfl (lv_at hl 2 rfl) ?_
      refine lv_if_ne (tgt := 626) hx hb dL_hangs_615 (by decide) (fun _ => ?_) (fun z => False.elim (c2 z))
      refine lv_iconst (v := nI 0) hx hb dL_hangs_626 (by decide) ?_
      refine lv_icmp_ne (tgt := 634) hx hb dL_hangs_627 (by decide) (fun z => False.elim (z rfl)) (fun _ => ?_)
      refine lv_iconst (v := nI 1) hx hb dL_hangs_630 (by decide) ?_
      refine lv_goto (tgt := 635) hx hb dL_hangs_631 (by decide) ?_
      exact kk H locs ls hW hS (lv_sub hl [] rfl)
theorem hg_all {p : Program} {l : Launch} {e : Env} {s : State} {m : MethodId} {args : Array Value} {below : List Frame} {meth : Method} {c : Code} {Q : State → Prop} {A : Nat → Prop} {G : GG} {d : AD} {nv nq : Nat → Int32} {hn : Nat} {vs qs : Nat → Nat → Int32} {t : Int} (X : Cx p s m args meth c cL_hangs 7 wsB RL (some .boolean)) (hK : KN G s) (hA : ∀ q : Nat, s.heap.size ≤ q → A q) (hI : Iv t nv) (ht : t ≤ 100000) (hL : Li nv nq) (kk : KW p l e RH s m args below meth c 0 0 Q A G d nv nq hn vs qs 7 635 [] [.int (nI 1)]) : KW p l e RH s m args below meth c 0 0 Q A G d nv nq hn vs qs 7 0 [(0, .ref d.1)] [] := by
  obtain ⟨n, n12, h25, hq⟩ := hL
  have hI0 := hI
  have g := hg_G X hK hA h25 n12 kk
  have r0 := hg_r X hK hA (n := n) (k := 0) (by omega) (hg_r X hK hA (k := 1) (by omega) (hg_r X hK hA (k := 2) (by omega) g))
  have e := hg_E X hK hA hI0 ht h25 n12 r0
  have b := hg_b X hK hA hI0 (b := 0) (by omega) (hg_b X hK hA hI0 (b := 1) (by omega) (hg_b2 X hK hA h25 (hg_L X hK hA h25 n12 hq e n 0 (by omega))))
  have es : 0 + ld (nv (13 + 0)) + ld (nv (13 + 1)) + ld (nv (13 + 2)) + ld (nv (13 + 3)) = lds nv := by
    unfold lds
    rw [Nat.zero_add]
  rw [← es] at b
  exact hg_A X hK hA hI0 ht (hg_m X hK hA hI0 (i := 0) (by omega) (hg_m X hK hA hI0 (i := 1) (by omega) (hg_m X hK hA hI0 (i := 2) (by omega) (hg_m X hK hA hI0 (i := 3) (by omega) (hg_m4 X hK hA b)))))
theorem c_hangs (l : Launch) (G : GG) (d : AD) (nv nq : Nat → Int32) (hn : Nat) (vs qs : Nat → Nat → Int32) (x : SX) (sz : Nat) {t : Int} (hI : Iv t nv) (ht : t ≤ 100000) (hL : Li nv nq) : Met l yL_hangs wsL_hangs RH (Pre G [.ref d.1] (FLl (WSt G d nv nq hn vs qs x)) sz) (PI G (va_A (FLl (WSt G d nv nq hn vs qs x)) sz) (fun r (_ : SX) => r = nI 1) (fun x' => FLl (WSt G d nv nq hn vs qs x'))) 0 0 (va_A (FLl (WSt G d nv nq hn vs qs x)) sz) := by
  refine Met.walk (cc := cL_hangs) (maxL := 7) (ret := some .boolean) (Qc := fun A => PI G A (fun r (_ : SX) => r = nI 1) (fun x' => FLl (WSt G d nv nq hn vs qs x'))) (by decide) rfl (Nat.le_of_ble_eq_true rfl) ?_
  intro p e s m below meth c A H C0 hnm hK hsz hP hD hA hS ls hl
  have X : Cx p s m [.ref d.1].toArray meth c cL_hangs 7 wsB RL (some .boolean) := ⟨C0.1, C0.2.1, C0.2.2.1, C0.2.2.2.1, C0.2.2.2.2.1, fun w hw => C0.2.2.2.2.2.1 w (List.mem_cons_of_mem _ hw), C0.2.2.2.2.2.2⟩
  refine hg_all X hK hA hI ht hL ?_ H [] ls ⟨x, BW.of hP hD⟩ hS hl
  intro H1 locs1 ls1 hW1 hS1 hl1
  obtain ⟨x1, hW1⟩ := hW1
  obtain ⟨hP1, hD1⟩ := hW1.flat
  exact end_Z X (by decide) hP1 hD1 hS1 x1 rfl rfl dL_hangs_635
