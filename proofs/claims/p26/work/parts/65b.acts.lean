/-! acts: one act by a cell's number; cell -/
abbrev RA : Room := { frames := 7, cells := 0, slots := 0, locals := 190 }
def mny (j : Nat) : Nat := 1 + j / 16 % (if j / 16 / 256 % 3 = 0 then 60 else 8)
theorem mny_le (j : Nat) : 1 ≤ mny j ∧ mny j ≤ 60 := by
  unfold mny
  by_cases c : j / 16 / 256 % 3 = 0
  · rw [if_pos c]
    omega
  · rw [if_neg c]
    omega
/-- what an act by the number j does -/
def AP (j : Nat) (t : Int) (nv nq : Nat → Int32) (hn : Nat) (r : Int32) (nv' nq' : Nat → Int32) (hn' : Nat) : Prop := (r < 0 → nv' = nv ∧ nq' = nq ∧ hn' = hn) ∧ (¬ r < 0 → hn' = (if hn = 4 then 4 else hn + 1)) ∧ hn' ≤ 4 ∧ (j % 16 < 12 → Iv t nv' ∧ Li nv' nq') ∧ (5 ≤ j % 16 → j % 16 < 8 → ¬ nv (13 + j / 16 % 4) = -5 → r = -11) ∧ (12 ≤ j % 16 → ¬ r < 0 ∧ nv' = (NN (mny j) nv nq).1 ∧ nq' = (NN (mny j) nv nq).2 ∧ r = nv' 41 - nv 41)
theorem AP.of {j : Nat} {t : Int} {nv nq nv' nq' : Nat → Int32} {hn hn' : Nat} {r : Int32} {vs' qs' : Nat → Nat → Int32} (h1 : AK t nv nq r nv' nq') (h2 : HR r hn nv nq hn' vs' qs') (h3 : 5 ≤ j % 16 → j % 16 < 8 → ¬ nv (13 + j / 16 % 4) = -5 → r = -11) (h4 : j % 16 < 12) : AP j t nv nq hn r nv' nq' hn' :=
  ⟨fun z => ⟨(h1.1 z).1, (h1.1 z).2, h2.1 z⟩, fun z => (h2.2.1 z).1, h2.2.2, fun _ => h1.2, h3, fun z => absurd z (by omega)⟩
set_option maxHeartbeats 4000000 in
theorem ac_fire {p : Program} {l : Launch} {e : Env} {s : State} {m : MethodId} {args : Array Value} {below : List Frame} {meth : Method} {c : Code} {Q : State → Prop} {A : Nat → Prop} {G : GG} {d : AD} {nv nq : Nat → Int32} {hn : Nat} {vs qs : Nat → Nat → Int32} {j : Nat} {t : Int} (X : Cx p s m args meth c cL_acts 3 wsB RL (some .int)) (hK : KN G s) (hA : ∀ q : Nat, s.heap.size ≤ q → A q) (hj : j < 2147483648) (h4 : hn ≤ 4) (hI : Iv t nv) (hL : Li nv nq) (hk : j % 16 < 3) (kE : ∀ (pc : Nat) (r : Int32) (nv' nq' : Nat → Int32) (hn' : Nat) (vs' qs' : Nat → Nat → Int32), decode cL_acts pc = .ok (.ireturn, 1) → AP j t nv nq hn r nv' nq' hn' → KW p l e RA s m args below meth c 0 0 Q A G d nv' nq' hn' vs' qs' 3 pc [] [.int r]) : KW p l e RA s m args below meth c 0 0 Q A G d nv nq hn vs qs 3 72 [(2, .int (nI (j / 16))), (0, .ref d.1), (1, .int (nI j))] [] := by
  have hx := X.1
  have hb : c.code = cL_acts := X.2.1
  intro H locs ls hW hS hl
  refine lv_aload_n hx hb dL_acts_72 rfl (lv_at hl 1 rfl) ?_
  refine lv_iload_n hx hb dL_acts_73 rfl (lv_at hl 0 rfl) ?_
  refine lv_iconst (v := nI 2) hx hb dL_acts_74 (by decide) ?_
  refine lv_irem hx hb dL_acts_75 (by decide) ?_
  rw [pk_rem (a := (j / 16)) (d := 2) (by omega) (by omega) (by omega)]
  refine lv_iload_n hx hb dL_acts_76 rfl (lv_at hl 0 rfl) ?_
  refine lv_iconst (v := nI 2) hx hb dL_acts_77 (by decide) ?_
  refine lv_idiv hx hb dL_acts_78 (by decide) ?_
  rw [pk_div (a := (j / 16)) (d := 2) (by omega) (by omega) (by omega)]
  refine lv_bipush (v := nI 6) hx hb dL_acts_79 (by decide) ?_
  refine lv_irem hx hb dL_acts_81 (by decide) ?_
  rw [pk_rem (a := ((j / 16) / 2)) (d := 6) (by omega) (by omega) (by omega)]
  refine k_setFire (rest := []) X hK hA hW hS h4 hl.1 (Nat.le_of_ble_eq_true rfl) ⟨Nat.le_of_ble_eq_true rfl, Nat.le_of_ble_eq_true rfl⟩ ⟨Nat.le_of_ble_eq_true rfl, Nat.le_of_ble_eq_true rfl⟩ dL_acts_82 (fun hn' vs' qs' H locs hr hW hS => ?_)
  exact kE 85 _ _ _ _ _ _ dL_acts_85 (AP.of (cf_ok hI hL) hr (fun h1 h2 => absurd h1 (by omega)) (by omega)) H locs ls hW hS (lv_sub hl [] rfl)
set_option maxHeartbeats 4000000 in
theorem ac_fill {p : Program} {l : Launch} {e : Env} {s : State} {m : MethodId} {args : Array Value} {below : List Frame} {meth : Method} {c : Code} {Q : State → Prop} {A : Nat → Prop} {G : GG} {d : AD} {nv nq : Nat → Int32} {hn : Nat} {vs qs : Nat → Nat → Int32} {j : Nat} {t : Int} (X : Cx p s m args meth c cL_acts 3 wsB RL (some .int)) (hK : KN G s) (hA : ∀ q : Nat, s.heap.size ≤ q → A q) (hj : j < 2147483648) (h4 : hn ≤ 4) (hI : Iv t nv) (hL : Li nv nq) (hk : j % 16 = 3) (kE : ∀ (pc : Nat) (r : Int32) (nv' nq' : Nat → Int32) (hn' : Nat) (vs' qs' : Nat → Nat → Int32), decode cL_acts pc = .ok (.ireturn, 1) → AP j t nv nq hn r nv' nq' hn' → KW p l e RA s m args below meth c 0 0 Q A G d nv' nq' hn' vs' qs' 3 pc [] [.int r]) : KW p l e RA s m args below meth c 0 0 Q A G d nv nq hn vs qs 3 86 [(2, .int (nI (j / 16))), (0, .ref d.1), (1, .int (nI j))] [] := by
  have hx := X.1
  have hb : c.code = cL_acts := X.2.1
  intro H locs ls hW hS hl
  refine lv_aload_n hx hb dL_acts_86 rfl (lv_at hl 1 rfl) ?_
  refine lv_iload_n hx hb dL_acts_87 rfl (lv_at hl 0 rfl) ?_
  refine lv_iconst (v := nI 2) hx hb dL_acts_88 (by decide) ?_
  refine lv_irem hx hb dL_acts_89 (by decide) ?_
  rw [pk_rem (a := (j / 16)) (d := 2) (by omega) (by omega) (by omega)]
  refine lv_iconst (v := nI 1) hx hb dL_acts_90 (by decide) ?_
  refine lv_iload_n hx hb dL_acts_91 rfl (lv_at hl 0 rfl) ?_
  refine lv_iconst (v := nI 2) hx hb dL_acts_92 (by decide) ?_
  refine lv_idiv hx hb dL_acts_93 (by decide) ?_
  rw [pk_div (a := (j / 16)) (d := 2) (by omega) (by omega) (by omega)]
  refine lv_bipush (v := nI 80) hx hb dL_acts_94 (by decide) ?_
  refine lv_irem hx hb dL_acts_96 (by decide) ?_
  rw [pk_rem (a := ((j / 16) / 2)) (d := 80) (by omega) (by omega) (by omega)]
  refine lv_iadd hx hb dL_acts_97 ?_
  refine k_fill (rest := []) X hK hA hW hS h4 hl.1 (Nat.le_of_ble_eq_true rfl) ⟨Nat.le_of_ble_eq_true rfl, Nat.le_of_ble_eq_true rfl⟩ ⟨Nat.le_of_ble_eq_true rfl, Nat.le_of_ble_eq_true rfl⟩ dL_acts_98 (fun hn' vs' qs' H locs hr hW hS => ?_)
  exact kE 101 _ _ _ _ _ _ dL_acts_101 (AP.of (lw_ok hI hL) hr (fun h1 h2 => absurd h1 (by omega)) (by omega)) H locs ls hW hS (lv_sub hl [] rfl)
set_option maxHeartbeats 4000000 in
theorem ac_rat {p : Program} {l : Launch} {e : Env} {s : State} {m : MethodId} {args : Array Value} {below : List Frame} {meth : Method} {c : Code} {Q : State → Prop} {A : Nat → Prop} {G : GG} {d : AD} {nv nq : Nat → Int32} {hn : Nat} {vs qs : Nat → Nat → Int32} {j : Nat} {t : Int} (X : Cx p s m args meth c cL_acts 3 wsB RL (some .int)) (hK : KN G s) (hA : ∀ q : Nat, s.heap.size ≤ q → A q) (hj : j < 2147483648) (h4 : hn ≤ 4) (hI : Iv t nv) (hL : Li nv nq) (hk : j % 16 = 4) (kE : ∀ (pc : Nat) (r : Int32) (nv' nq' : Nat → Int32) (hn' : Nat) (vs' qs' : Nat → Nat → Int32), decode cL_acts pc = .ok (.ireturn, 1) → AP j t nv nq hn r nv' nq' hn' → KW p l e RA s m args below meth c 0 0 Q A G d nv' nq' hn' vs' qs' 3 pc [] [.int r]) : KW p l e RA s m args below meth c 0 0 Q A G d nv nq hn vs qs 3 102 [(2, .int (nI (j / 16))), (0, .ref d.1), (1, .int (nI j))] [] := by
  have hx := X.1
  have hb : c.code = cL_acts := X.2.1
  intro H locs ls hW hS hl
  refine lv_aload_n hx hb dL_acts_102 rfl (lv_at hl 1 rfl) ?_
  refine lv_iload_n hx hb dL_acts_103 rfl (lv_at hl 0 rfl) ?_
  refine lv_sipush (v := nI 201) hx hb dL_acts_104 (by decide) ?_
  refine lv_irem hx hb dL_acts_107 (by decide) ?_
  rw [pk_rem (a := (j / 16)) (d := 201) (by omega) (by omega) (by omega)]
  refine k_setRation (rest := []) X hK hA hW hS h4 hl.1 (Nat.le_of_ble_eq_true rfl) ⟨Nat.le_of_ble_eq_true rfl, Nat.le_of_ble_eq_true rfl⟩ ⟨Nat.le_of_ble_eq_true rfl, Nat.le_of_ble_eq_true rfl⟩ dL_acts_108 (fun hn' vs' qs' H locs hr hW hS => ?_)
  exact kE 111 _ _ _ _ _ _ dL_acts_111 (AP.of (cr_ok hI hL) hr (fun h1 h2 => absurd h1 (by omega)) (by omega)) H locs ls hW hS (lv_sub hl [] rfl)
set_option maxHeartbeats 4000000 in
theorem ac_start {p : Program} {l : Launch} {e : Env} {s : State} {m : MethodId} {args : Array Value} {below : List Frame} {meth : Method} {c : Code} {Q : State → Prop} {A : Nat → Prop} {G : GG} {d : AD} {nv nq : Nat → Int32} {hn : Nat} {vs qs : Nat → Nat → Int32} {j : Nat} {t : Int} (X : Cx p s m args meth c cL_acts 3 wsB RL (some .int)) (hK : KN G s) (hA : ∀ q : Nat, s.heap.size ≤ q → A q) (hj : j < 2147483648) (h4 : hn ≤ 4) (hI : Iv t nv) (hL : Li nv nq) (hk : 5 ≤ j % 16 ∧ j % 16 < 8) (kE : ∀ (pc : Nat) (r : Int32) (nv' nq' : Nat → Int32) (hn' : Nat) (vs' qs' : Nat → Nat → Int32), decode cL_acts pc = .ok (.ireturn, 1) → AP j t nv nq hn r nv' nq' hn' → KW p l e RA s m args below meth c 0 0 Q A G d nv' nq' hn' vs' qs' 3 pc [] [.int r]) : KW p l e RA s m args below meth c 0 0 Q A G d nv nq hn vs qs 3 112 [(2, .int (nI (j / 16))), (0, .ref d.1), (1, .int (nI j))] [] := by
  have hx := X.1
  have hb : c.code = cL_acts := X.2.1
  intro H locs ls hW hS hl
  refine lv_aload_n hx hb dL_acts_112 rfl (lv_at hl 1 rfl) ?_
  refine lv_iload_n hx hb dL_acts_113 rfl (lv_at hl 0 rfl) ?_
  refine lv_iconst (v := nI 4) hx hb dL_acts_114 (by decide) ?_
  refine lv_irem hx hb dL_acts_115 (by decide) ?_
  rw [pk_rem (a := (j / 16)) (d := 4) (by omega) (by omega) (by omega)]
  refine lv_iload_n hx hb dL_acts_116 rfl (lv_at hl 0 rfl) ?_
  refine lv_iconst (v := nI 4) hx hb dL_acts_117 (by decide) ?_
  refine lv_idiv hx hb dL_acts_118 (by decide) ?_
  rw [pk_div (a := (j / 16)) (d := 4) (by omega) (by omega) (by omega)]
  refine lv_iconst (v := nI 3) hx hb dL_acts_119 (by decide) ?_
  refine lv_irem hx hb dL_acts_120 (by decide) ?_
  rw [pk_rem (a := ((j / 16) / 4)) (d := 3) (by omega) (by omega) (by omega)]
  refine k_start (rest := []) X hK hA hW hS h4 hl.1 (Nat.le_of_ble_eq_true rfl) ⟨Nat.le_of_ble_eq_true rfl, Nat.le_of_ble_eq_true rfl⟩ ⟨Nat.le_of_ble_eq_true rfl, Nat.le_of_ble_eq_true rfl⟩ dL_acts_121 (fun yv yq hn' vs' qs' H locs hr hW hS => ?_)
  exact kE 124 _ _ _ _ _ _ dL_acts_124 (AP.of (sl_ok hI hL (by omega)) hr (fun _ _ h => sl_full (by omega) (by omega) h) (by omega)) H locs ls hW hS (lv_sub hl [] rfl)
set_option maxHeartbeats 4000000 in
theorem ac_queue {p : Program} {l : Launch} {e : Env} {s : State} {m : MethodId} {args : Array Value} {below : List Frame} {meth : Method} {c : Code} {Q : State → Prop} {A : Nat → Prop} {G : GG} {d : AD} {nv nq : Nat → Int32} {hn : Nat} {vs qs : Nat → Nat → Int32} {j : Nat} {t : Int} (X : Cx p s m args meth c cL_acts 3 wsB RL (some .int)) (hK : KN G s) (hA : ∀ q : Nat, s.heap.size ≤ q → A q) (hj : j < 2147483648) (h4 : hn ≤ 4) (hI : Iv t nv) (hL : Li nv nq) (hk : 8 ≤ j % 16 ∧ j % 16 < 11) (kE : ∀ (pc : Nat) (r : Int32) (nv' nq' : Nat → Int32) (hn' : Nat) (vs' qs' : Nat → Nat → Int32), decode cL_acts pc = .ok (.ireturn, 1) → AP j t nv nq hn r nv' nq' hn' → KW p l e RA s m args below meth c 0 0 Q A G d nv' nq' hn' vs' qs' 3 pc [] [.int r]) : KW p l e RA s m args below meth c 0 0 Q A G d nv nq hn vs qs 3 125 [(2, .int (nI (j / 16))), (0, .ref d.1), (1, .int (nI j))] [] := by
  have hx := X.1
  have hb : c.code = cL_acts := X.2.1
  intro H locs ls hW hS hl
  refine lv_aload_n hx hb dL_acts_125 rfl (lv_at hl 1 rfl) ?_
  refine lv_iload_n hx hb dL_acts_126 rfl (lv_at hl 0 rfl) ?_
  refine lv_iconst (v := nI 3) hx hb dL_acts_127 (by decide) ?_
  refine lv_irem hx hb dL_acts_128 (by decide) ?_
  rw [pk_rem (a := (j / 16)) (d := 3) (by omega) (by omega) (by omega)]
  refine k_queue (rest := []) X hK hA hW hS h4 hl.1 (Nat.le_of_ble_eq_true rfl) ⟨Nat.le_of_ble_eq_true rfl, Nat.le_of_ble_eq_true rfl⟩ ⟨Nat.le_of_ble_eq_true rfl, Nat.le_of_ble_eq_true rfl⟩ dL_acts_129 (fun hn' vs' qs' H locs hr hW hS => ?_)
  exact kE 132 _ _ _ _ _ _ dL_acts_132 (AP.of (al_ok hI hL) hr (fun h1 h2 => absurd h2 (by omega)) (by omega)) H locs ls hW hS (lv_sub hl [] rfl)
set_option maxHeartbeats 4000000 in
theorem ac_out {p : Program} {l : Launch} {e : Env} {s : State} {m : MethodId} {args : Array Value} {below : List Frame} {meth : Method} {c : Code} {Q : State → Prop} {A : Nat → Prop} {G : GG} {d : AD} {nv nq : Nat → Int32} {hn : Nat} {vs qs : Nat → Nat → Int32} {j : Nat} {t : Int} (X : Cx p s m args meth c cL_acts 3 wsB RL (some .int)) (hK : KN G s) (hA : ∀ q : Nat, s.heap.size ≤ q → A q) (hj : j < 2147483648) (h4 : hn ≤ 4) (hI : Iv t nv) (hL : Li nv nq) (hk : j % 16 = 11) (kE : ∀ (pc : Nat) (r : Int32) (nv' nq' : Nat → Int32) (hn' : Nat) (vs' qs' : Nat → Nat → Int32), decode cL_acts pc = .ok (.ireturn, 1) → AP j t nv nq hn r nv' nq' hn' → KW p l e RA s m args below meth c 0 0 Q A G d nv' nq' hn' vs' qs' 3 pc [] [.int r]) : KW p l e RA s m args below meth c 0 0 Q A G d nv nq hn vs qs 3 133 [(2, .int (nI (j / 16))), (0, .ref d.1), (1, .int (nI j))] [] := by
  have hx := X.1
  have hb : c.code = cL_acts := X.2.1
  intro H locs ls hW hS hl
  refine lv_iload_n hx hb dL_acts_133 rfl (lv_at hl 0 rfl) ?_
  refine lv_iconst (v := nI 2) hx hb dL_acts_134 (by decide) ?_
  refine lv_irem hx hb dL_acts_135 (by decide) ?_
  rw [pk_rem (a := (j / 16)) (d := 2) (by omega) (by omega) (by omega)]
  by_cases cz : j / 16 % 2 = 0
  · have ez : nI (j / 16 % 2) = 0 := by rw [cz]; rfl
    refine lv_if_ne (tgt := 151) hx hb dL_acts_136 (by decide) (fun z => False.elim (z ez)) (fun _ => ?_)
    refine lv_aload_n hx hb dL_acts_139 rfl (lv_at hl 1 rfl) ?_
    refine lv_iload_n hx hb dL_acts_140 rfl (lv_at hl 0 rfl) ?_
    refine lv_iconst (v := nI 2) hx hb dL_acts_141 (by decide) ?_
    refine lv_idiv hx hb dL_acts_142 (by decide) ?_
    rw [pk_div (a := (j / 16)) (d := 2) (by omega) (by omega) (by omega)]
    refine lv_iconst (v := nI 4) hx hb dL_acts_143 (by decide) ?_
    refine lv_irem hx hb dL_acts_144 (by decide) ?_
    rw [pk_rem (a := ((j / 16) / 2)) (d := 4) (by omega) (by omega) (by omega)]
    refine k_unqueue (rest := []) X hK hA hW hS h4 hl.1 (Nat.le_of_ble_eq_true rfl) ⟨Nat.le_of_ble_eq_true rfl, Nat.le_of_ble_eq_true rfl⟩ ⟨Nat.le_of_ble_eq_true rfl, Nat.le_of_ble_eq_true rfl⟩ dL_acts_145 (fun hn' vs' qs' H locs hr hW hS => ?_)
    refine lv_goto (tgt := 160) hx hb dL_acts_148 (by decide) ?_
    exact kE 160 _ _ _ _ _ _ dL_acts_160 (AP.of (rl_ok hI hL (by omega)) hr (fun h1 h2 => absurd h2 (by omega)) (by omega)) H locs ls hW hS (lv_sub hl [] rfl)
  · have ez : ¬ nI (j / 16 % 2) = 0 := fun z => cz ((nI_eq (b := 0) (by omega) (by omega)).mp z)
    refine lv_if_ne (tgt := 151) hx hb dL_acts_136 (by decide) (fun _ => ?_) (fun z => False.elim (ez z))
    refine lv_aload_n hx hb dL_acts_151 rfl (lv_at hl 1 rfl) ?_
    refine lv_iload_n hx hb dL_acts_152 rfl (lv_at hl 0 rfl) ?_
    refine lv_iconst (v := nI 2) hx hb dL_acts_153 (by decide) ?_
    refine lv_idiv hx hb dL_acts_154 (by decide) ?_
    rw [pk_div (a := (j / 16)) (d := 2) (by omega) (by omega) (by omega)]
    refine lv_iconst (v := nI 4) hx hb dL_acts_155 (by decide) ?_
    refine lv_irem hx hb dL_acts_156 (by decide) ?_
    rw [pk_rem (a := ((j / 16) / 2)) (d := 4) (by omega) (by omega) (by omega)]
    refine k_takeOut (rest := []) X hK hA hW hS h4 hl.1 (Nat.le_of_ble_eq_true rfl) ⟨Nat.le_of_ble_eq_true rfl, Nat.le_of_ble_eq_true rfl⟩ ⟨Nat.le_of_ble_eq_true rfl, Nat.le_of_ble_eq_true rfl⟩ dL_acts_157 (fun hn' vs' qs' H locs hr hW hS => ?_)
    exact kE 160 _ _ _ _ _ _ dL_acts_160 (AP.of (ul_ok hI hL (by omega)) hr (fun h1 h2 => absurd h2 (by omega)) (by omega)) H locs ls hW hS (lv_sub hl [] rfl)
set_option maxHeartbeats 4000000 in
theorem ac_run {p : Program} {l : Launch} {e : Env} {s : State} {m : MethodId} {args : Array Value} {below : List Frame} {meth : Method} {c : Code} {Q : State → Prop} {A : Nat → Prop} {G : GG} {d : AD} {nv nq : Nat → Int32} {hn : Nat} {vs qs : Nat → Nat → Int32} {j : Nat} {t : Int} (X : Cx p s m args meth c cL_acts 3 wsB RL (some .int)) (hK : KN G s) (hA : ∀ q : Nat, s.heap.size ≤ q → A q) (hj : j < 2147483648) (h4 : hn ≤ 4) (hI : Iv t nv) (hL : Li nv nq) (ht : t ≤ 90000) (hk : 12 ≤ j % 16) (kE : ∀ (pc : Nat) (r : Int32) (nv' nq' : Nat → Int32) (hn' : Nat) (vs' qs' : Nat → Nat → Int32), decode cL_acts pc = .ok (.ireturn, 1) → AP j t nv nq hn r nv' nq' hn' → KW p l e RA s m args below meth c 0 0 Q A G d nv' nq' hn' vs' qs' 3 pc [] [.int r]) : KW p l e RA s m args below meth c 0 0 Q A G d nv nq hn vs qs 3 161 [(2, .int (nI (j / 16))), (0, .ref d.1), (1, .int (nI j))] [] := by
  have hx := X.1
  have hb : c.code = cL_acts := X.2.1
  intro H locs ls hW hS hl
  have hm := mny_le j
  refine lv_aload_n hx hb dL_acts_161 rfl (lv_at hl 1 rfl) ?_
  refine lv_iconst (v := nI 1) hx hb dL_acts_162 (by decide) ?_
  refine lv_iload_n hx hb dL_acts_163 rfl (lv_at hl 0 rfl) ?_
  refine lv_iload_n hx hb dL_acts_164 rfl (lv_at hl 0 rfl) ?_
  refine lv_sipush (v := nI 256) hx hb dL_acts_165 (by decide) ?_
  refine lv_idiv hx hb dL_acts_168 (by decide) ?_
  rw [pk_div (a := (j / 16)) (d := 256) (by omega) (by omega) (by omega)]
  refine lv_iconst (v := nI 3) hx hb dL_acts_169 (by decide) ?_
  refine lv_irem hx hb dL_acts_170 (by decide) ?_
  rw [pk_rem (a := ((j / 16) / 256)) (d := 3) (by omega) (by omega) (by omega)]
  by_cases cz : j / 16 / 256 % 3 = 0
  · have ez : nI (j / 16 / 256 % 3) = 0 := by rw [cz]; rfl
    refine lv_if_ne (tgt := 179) hx hb dL_acts_171 (by decide) (fun z => False.elim (z ez)) (fun _ => ?_)
    refine lv_bipush (v := nI 60) hx hb dL_acts_174 (by decide) ?_
    refine lv_goto (tgt := 181) hx hb dL_acts_176 (by decide) ?_
    refine lv_irem hx hb dL_acts_181 (by decide) ?_
    rw [pk_rem (a := (j / 16)) (d := 60) (by omega) (by omega) (by omega)]
    refine lv_iadd hx hb dL_acts_182 ?_
    rw [nI_add, show 1 + j / 16 % 60 = mny j by unfold mny; rw [if_pos cz]]
    refine k_run (rest := []) X hK hA hW hS h4 hl.1 (Nat.le_of_ble_eq_true rfl) ⟨Nat.le_of_ble_eq_true rfl, Nat.le_of_ble_eq_true rfl⟩ ⟨Nat.le_of_ble_eq_true rfl, Nat.le_of_ble_eq_true rfl⟩ dL_acts_183 (fun yv yq hn' vs' qs' H locs hr hW hS => ?_)
    obtain ⟨a, b, dd, hd, e1, e2⟩ := lp_ok (q := nq) (ov := yv) (oq := yq) hI hm.1 (by omega) (show t + (mny j : Int) ≤ 99999 by omega)
    rw [e1] at hr hW ⊢
    have nn : ¬ nI dd < 0 := nI_pos (by omega)
    exact kE 186 _ _ _ _ _ _ dL_acts_186 ⟨fun z => absurd z nn, fun z => (hr.2.1 z).1, hr.2.2, fun z => absurd z (by omega), fun _ z => absurd z (by omega), fun _ => ⟨nn, rfl, rfl, by rw [e2, sub_self_add]⟩⟩ H locs ls hW hS (lv_sub hl [] rfl)
  · have ez : ¬ nI (j / 16 / 256 % 3) = 0 := fun z => cz ((nI_eq (b := 0) (by omega) (by omega)).mp z)
    refine lv_if_ne (tgt := 179) hx hb dL_acts_171 (by decide) (fun _ => ?_) (fun z => False.elim (ez z))
    refine lv_bipush (v := nI 8) hx hb dL_acts_179 (by decide) ?_
    refine lv_irem hx hb dL_acts_181 (by decide) ?_
    rw [pk_rem (a := (j / 16)) (d := 8) (by omega) (by omega) (by omega)]
    refine lv_iadd hx hb dL_acts_182 ?_
    rw [nI_add, show 1 + j / 16 % 8 = mny j by unfold mny; rw [if_neg cz]]
    refine k_run (rest := []) X hK hA hW hS h4 hl.1 (Nat.le_of_ble_eq_true rfl) ⟨Nat.le_of_ble_eq_true rfl, Nat.le_of_ble_eq_true rfl⟩ ⟨Nat.le_of_ble_eq_true rfl, Nat.le_of_ble_eq_true rfl⟩ dL_acts_183 (fun yv yq hn' vs' qs' H locs hr hW hS => ?_)
    obtain ⟨a, b, dd, hd, e1, e2⟩ := lp_ok (q := nq) (ov := yv) (oq := yq) hI hm.1 (by omega) (show t + (mny j : Int) ≤ 99999 by omega)
    rw [e1] at hr hW ⊢
    have nn : ¬ nI dd < 0 := nI_pos (by omega)
    exact kE 186 _ _ _ _ _ _ dL_acts_186 ⟨fun z => absurd z nn, fun z => (hr.2.1 z).1, hr.2.2, fun z => absurd z (by omega), fun _ z => absurd z (by omega), fun _ => ⟨nn, rfl, rfl, by rw [e2, sub_self_add]⟩⟩ H locs ls hW hS (lv_sub hl [] rfl)
set_option maxHeartbeats 4000000 in
theorem ac_all {p : Program} {l : Launch} {e : Env} {s : State} {m : MethodId} {args : Array Value} {below : List Frame} {meth : Method} {c : Code} {Q : State → Prop} {A : Nat → Prop} {G : GG} {d : AD} {nv nq : Nat → Int32} {hn : Nat} {vs qs : Nat → Nat → Int32} {j : Nat} {t : Int} (X : Cx p s m args meth c cL_acts 3 wsB RL (some .int)) (hK : KN G s) (hA : ∀ q : Nat, s.heap.size ≤ q → A q) (hj : j < 2147483648) (h4 : hn ≤ 4) (hI : Iv t nv) (hL : Li nv nq) (ht : t ≤ 90000) (kE : ∀ (pc : Nat) (r : Int32) (nv' nq' : Nat → Int32) (hn' : Nat) (vs' qs' : Nat → Nat → Int32), decode cL_acts pc = .ok (.ireturn, 1) → AP j t nv nq hn r nv' nq' hn' → KW p l e RA s m args below meth c 0 0 Q A G d nv' nq' hn' vs' qs' 3 pc [] [.int r]) : KW p l e RA s m args below meth c 0 0 Q A G d nv nq hn vs qs 3 0 [(0, .ref d.1), (1, .int (nI j))] [] := by
  have hx := X.1
  have hb : c.code = cL_acts := X.2.1
  intro H locs ls hW hS hl
  refine lv_iload_n hx hb dL_acts_0 rfl (lv_at hl 1 rfl) ?_
  refine lv_bipush (v := nI 16) hx hb dL_acts_1 (by decide) ?_
  refine lv_idiv hx hb dL_acts_3 (by decide) ?_
  rw [pk_div (a := j) (d := 16) (by omega) (by omega) (by omega)]
  refine lv_istore_n (lv' := [(2, .int (nI (j / 16))), (0, .ref d.1), (1, .int (nI j))]) hx hb dL_acts_4 rfl hl (by decide) rfl (fun ls hl => ?_)
  refine lv_iload_n hx hb dL_acts_5 rfl (lv_at hl 2 rfl) ?_
  refine lv_bipush (v := nI 16) hx hb dL_acts_6 (by decide) ?_
  refine lv_irem hx hb dL_acts_8 (by decide) ?_
  rw [pk_rem (a := j) (d := 16) (by omega) (by omega) (by omega)]
  by_cases cT : j % 16 < 12
  · have hs : j % 16 = 0 ∨ j % 16 = 1 ∨ j % 16 = 2 ∨ j % 16 = 3 ∨ j % 16 = 4 ∨ j % 16 = 5 ∨ j % 16 = 6 ∨ j % 16 = 7 ∨ j % 16 = 8 ∨ j % 16 = 9 ∨ j % 16 = 10 ∨ j % 16 = 11 := by omega
    rcases hs with hk | hk | hk | hk | hk | hk | hk | hk | hk | hk | hk | hk
    · have K := ac_fire (p := p) (l := l) (e := e) (below := below) (Q := Q) (vs := vs) (qs := qs) X hK hA hj h4 hI hL (by omega) kE
      rw [hk]
      refine lv_tableIn (off := 63) (tgt := 72) hx hb dL_acts_9 (by decide) (by decide) (by decide) (by decide) ?_
      exact K H locs ls hW hS hl
    · have K := ac_fire (p := p) (l := l) (e := e) (below := below) (Q := Q) (vs := vs) (qs := qs) X hK hA hj h4 hI hL (by omega) kE
      rw [hk]
      refine lv_tableIn (off := 63) (tgt := 72) hx hb dL_acts_9 (by decide) (by decide) (by decide) (by decide) ?_
      exact K H locs ls hW hS hl
    · have K := ac_fire (p := p) (l := l) (e := e) (below := below) (Q := Q) (vs := vs) (qs := qs) X hK hA hj h4 hI hL (by omega) kE
      rw [hk]
      refine lv_tableIn (off := 63) (tgt := 72) hx hb dL_acts_9 (by decide) (by decide) (by decide) (by decide) ?_
      exact K H locs ls hW hS hl
    · have K := ac_fill (p := p) (l := l) (e := e) (below := below) (Q := Q) (vs := vs) (qs := qs) X hK hA hj h4 hI hL hk kE
      rw [hk]
      refine lv_tableIn (off := 77) (tgt := 86) hx hb dL_acts_9 (by decide) (by decide) (by decide) (by decide) ?_
      exact K H locs ls hW hS hl
    · have K := ac_rat (p := p) (l := l) (e := e) (below := below) (Q := Q) (vs := vs) (qs := qs) X hK hA hj h4 hI hL hk kE
      rw [hk]
      refine lv_tableIn (off := 93) (tgt := 102) hx hb dL_acts_9 (by decide) (by decide) (by decide) (by decide) ?_
      exact K H locs ls hW hS hl
    · have K := ac_start (p := p) (l := l) (e := e) (below := below) (Q := Q) (vs := vs) (qs := qs) X hK hA hj h4 hI hL (by omega) kE
      rw [hk]
      refine lv_tableIn (off := 103) (tgt := 112) hx hb dL_acts_9 (by decide) (by decide) (by decide) (by decide) ?_
      exact K H locs ls hW hS hl
    · have K := ac_start (p := p) (l := l) (e := e) (below := below) (Q := Q) (vs := vs) (qs := qs) X hK hA hj h4 hI hL (by omega) kE
      rw [hk]
      refine lv_tableIn (off := 103) (tgt := 112) hx hb dL_acts_9 (by decide) (by decide) (by decide) (by decide) ?_
      exact K H locs ls hW hS hl
    · have K := ac_start (p := p) (l := l) (e := e) (below := below) (Q := Q) (vs := vs) (qs := qs) X hK hA hj h4 hI hL (by omega) kE
      rw [hk]
      refine lv_tableIn (off := 103) (tgt := 112) hx hb dL_acts_9 (by decide) (by decide) (by decide) (by decide) ?_
      exact K H locs ls hW hS hl
    · have K := ac_queue (p := p) (l := l) (e := e) (below := below) (Q := Q) (vs := vs) (qs := qs) X hK hA hj h4 hI hL (by omega) kE
      rw [hk]
      refine lv_tableIn (off := 116) (tgt := 125) hx hb dL_acts_9 (by decide) (by decide) (by decide) (by decide) ?_
      exact K H locs ls hW hS hl
    · have K := ac_queue (p := p) (l := l) (e := e) (below := below) (Q := Q) (vs := vs) (qs := qs) X hK hA hj h4 hI hL (by omega) kE
      rw [hk]
      refine lv_tableIn (off := 116) (tgt := 125) hx hb dL_acts_9 (by decide) (by decide) (by decide) (by decide) ?_
      exact K H locs ls hW hS hl
    · have K := ac_queue (p := p) (l := l) (e := e) (below := below) (Q := Q) (vs := vs) (qs := qs) X hK hA hj h4 hI hL (by omega) kE
      rw [hk]
      refine lv_tableIn (off := 116) (tgt := 125) hx hb dL_acts_9 (by decide) (by decide) (by decide) (by decide) ?_
      exact K H locs ls hW hS hl
    · have K := ac_out (p := p) (l := l) (e := e) (below := below) (Q := Q) (vs := vs) (qs := qs) X hK hA hj h4 hI hL hk kE
      rw [hk]
      refine lv_tableIn (off := 124) (tgt := 133) hx hb dL_acts_9 (by decide) (by decide) (by decide) (by decide) ?_
      exact K H locs ls hW hS hl
  · refine lv_tableOut (tgt := 161) hx hb dL_acts_9 (Or.inr (by rw [nI_toInt (by omega)]; omega)) (by decide) ?_
    exact ac_run X hK hA hj h4 hI hL ht (by omega) kE H locs ls hW hS hl
abbrev SU : Type := (Nat → Int32) × (Nat → Int32) × Nat × (Nat → Nat → Int32) × (Nat → Nat → Int32) × SX
theorem c_acts (l : Launch) (G : GG) (d : AD) (nv nq : Nat → Int32) (hn : Nat) (vs qs : Nat → Nat → Int32) (x : SX) (sz : Nat) {j : Nat} {t : Int} (hj : j < 2147483648) (h4 : hn ≤ 4) (hI : Iv t nv) (hL : Li nv nq) (ht : t ≤ 90000) : Met l yL_acts wsL_acts RA (Pre G [.ref d.1, .int (nI j)] (FLl (WSt G d nv nq hn vs qs x)) sz) (PI G (va_A (FLl (WSt G d nv nq hn vs qs x)) sz) (fun r (u : SU) => AP j t nv nq hn r u.1 u.2.1 u.2.2.1) (fun u : SU => FLl (WSt G d u.1 u.2.1 u.2.2.1 u.2.2.2.1 u.2.2.2.2.1 u.2.2.2.2.2))) 0 0 (va_A (FLl (WSt G d nv nq hn vs qs x)) sz) := by
  refine Met.walk (cc := cL_acts) (maxL := 3) (ret := some .int) (Qc := fun A => PI G A (fun r (u : SU) => AP j t nv nq hn r u.1 u.2.1 u.2.2.1) (fun u : SU => FLl (WSt G d u.1 u.2.1 u.2.2.1 u.2.2.2.1 u.2.2.2.2.1 u.2.2.2.2.2))) (by decide) rfl (Nat.le_of_ble_eq_true rfl) ?_
  intro p e s m below meth c A H C0 hnm hK hsz hP hD hA hS ls hl
  have X : Cx p s m [.ref d.1, .int (nI j)].toArray meth c cL_acts 3 wsB RL (some .int) := ⟨C0.1, C0.2.1, C0.2.2.1, C0.2.2.2.1, C0.2.2.2.2.1, fun w hw => C0.2.2.2.2.2.1 w (List.mem_cons_of_mem _ hw), C0.2.2.2.2.2.2⟩
  refine ac_all X hK hA hj h4 hI hL ht ?_ H [] ls ⟨x, BW.of hP hD⟩ hS hl
  intro pc r nv' nq' hn' vs' qs' hdg hap H1 locs1 ls1 hW1 hS1 hl1
  obtain ⟨x1, hW1⟩ := hW1
  obtain ⟨hP1, hD1⟩ := hW1.flat
  exact end_I X hP1 hD1 hS1 (nv', nq', hn', vs', qs', x1) hap rfl hdg
theorem c_cell (l : Launch) (b L i : Nat) (xs : Nat → Int32) (hL : L ≤ 260) (hi : i ≤ 100) : Met l yL_cell wsL_cell ({ frames := 0, cells := 0, slots := 0, locals := 0 }) (va_Pc [.ref b, .int (nI i)] (fun U => va_X b L xs U U.heap ∧ b < U.heap.size)) (va_Qi (fun r (_ : Unit) => ∃ j : Nat, j < 2147483648 ∧ r = nI j) (fun _ _ => True) (fun _ => False)) 0 0 (fun _ => False) := by
  refine Met.ofW (cc := cL_cell) (maxL := 2) (ret := some .int) (by decide) rfl ?_
  intro p e s m args below meth c s₁ B hml hv
  obtain ⟨rfl, hX, hbl⟩ := hv
  have hts := atoms_spec (ws := wsL_cell) B.pre
  have hx := B.exec
  have hb : c.code = cL_cell := B.bytes
  have hr := B.returns
  have hown : s.vm.findClass RL = some m.cls := findClass_of_methodNamed B.named
  have hlocks := B.notSynchronized
  have hl := lv_entry ([.ref b, .int (nI i)]) (n := 2) (Nat.le_of_ble_eq_true rfl)
  rw [lg_entry_eq]
  generalize (lg_sl ([.ref b, .int (nI i)]) ++ List.replicate (2 - (lg_sl ([.ref b, .int (nI i)])).length) Slot.unset).toArray = ls at hl ⊢
  have hl : lv_has ls 2 [(0, .ref b), (1, .int (nI i))] := hl
  have hS : va_S (fun _ => False) s.heap s.heap [] := va_S.rf
  have fin : ∀ y : Int32, W p l e ({ frames := 0, cells := 0, slots := 0, locals := 0 }) s m [.ref b, .int (nI i)].toArray below meth c s.heap [] 0 0 (MQ below (va_Qi (fun r (_ : Unit) => ∃ j : Nat, j < 2147483648 ∧ r = nI j) (fun _ _ => True) (fun _ => False)) [.ref b, .int (nI i)].toArray s 0 0 (fun _ => False)) (F0 m 24 ls [.int y]) := by
    intro y
    refine lv_ldc (v := 2147483647) hx hb hown (hts (.constant RL 8 2147483647) (by simp [wsL_cell])) dL_cell_24 ?_
    refine lv_iand hx hb dL_cell_26 ?_
    obtain ⟨j, hj, ej⟩ := pk_andE y (m := 2147483647) 31 (by decide)
    rw [ej]
    exact W.iret hx hb hr (fun t ht hW => ⟨⟨nI j, (), rfl, ⟨j, by omega, rfl⟩, trivial⟩, hS.F ht⟩) hS.2.2 dL_cell_27
  refine lv_iload_n hx hb dL_cell_0 rfl (lv_at hl 1 rfl) ?_
  refine lv_aload_n hx hb dL_cell_1 rfl (lv_at hl 0 rfl) ?_
  refine va_slen hx hb hX hbl (fun z => z) hS dL_cell_2 ?_
  refine lv_icmp_ge (tgt := 12) hx hb dL_cell_3 (by decide) (fun z => ?_) (fun z => ?_)
  · refine lv_ldc (v := 41611) hx hb hown (hts (.constant RL 7 41611) (by simp [wsL_cell])) dL_cell_12 ?_
    refine lv_iload_n hx hb dL_cell_14 rfl (lv_at hl 1 rfl) ?_
    refine lv_sipush (v := nI 4096) hx hb dL_cell_15 (by decide) ?_
    refine lv_irem hx hb dL_cell_18 (by decide) ?_
    refine lv_imul hx hb dL_cell_19 ?_
    refine lv_sipush (v := nI 223) hx hb dL_cell_20 (by decide) ?_
    refine lv_iadd hx hb dL_cell_23 ?_
    exact fin _
  · have hlt : i < L := by
      have hz : ¬ nI L ≤ nI i := z
      rw [nI_leI (by omega) (by omega)] at hz
      omega
    refine lv_aload_n hx hb dL_cell_6 rfl (lv_at hl 0 rfl) ?_
    refine lv_iload_n hx hb dL_cell_7 rfl (lv_at hl 1 rfl) ?_
    refine va_sld hx hb hX hbl (fun z => z) hS (vp_in_nI hlt (by omega)) dL_cell_8 ?_
    refine lv_goto (tgt := 24) hx hb dL_cell_9 (by decide) ?_
    exact fin _
