/-! the constructors -/
def AOs (U : State) : Prop := va_AO "SteamRations$Boiler" U ∧ va_AO "SteamRations$Machine" U ∧ va_AO "SteamRations$Laundry" U
def KA (G : GG) (U : State) : Prop := KN G U ∧ AOs U
theorem KA.warm {G : GG} {s U : State} (hW : s.WarmedH U.vm) (h : KA G s) : KA G U := ⟨h.1.warm hW, va_AO.moved hW.alike h.2.1, va_AO.moved hW.alike h.2.2.1, va_AO.moved hW.alike h.2.2.2⟩
theorem KA.same {G : GG} {u U : State} (e : u.vm = U.vm) (h : KA G u) : KA G U := ⟨h.1.same e, va_AO.moved (by rw [e]; exact Vm.Alike.refl _) h.2.1, va_AO.moved (by rw [e]; exact Vm.Alike.refl _) h.2.2.1, va_AO.moved (by rw [e]; exact Vm.Alike.refl _) h.2.2.2⟩
def PreA (G : GG) (av : List Value) (ws : va_W) (sz : Nat) : Array Value → State → Prop := va_Pc av (fun U => U.heap.size = sz ∧ va_P G.1 vwCl ws U.heap ∧ KA G U ∧ va_D (fun _ => True) ws)
theorem PreA.blind {G : GG} {av : List Value} {ws : va_W} {sz : Nat} : FrameBlind (PreA G av ws sz) := by
  intro a U g mk q
  obtain ⟨q0, q1, qP, qK, qD⟩ := q
  exact ⟨q0, q1, qP, KA.same (u := U) (U := U.calling g mk a) rfl qK, qD⟩
theorem Met.walkA {l : Launch} {y : MethodName} {wsy ws' : List Cond} {rm : Room} {G : GG} {av : List Value} {ws : va_W} {sz : Nat} {cc : ByteArray} {maxL : Nat} {ret : Option FieldType} {mc ms : Nat} {Qc : (Nat → Prop) → Array Value → State → Outcome → State → Prop}
    (hy : plainName y.cls = true) (hw : wsy = Cond.code y cc maxL ret :: ws') (hlen : (lg_sl av).length ≤ maxL)
    (body : ∀ (p : Program) (e : Env) (s : State) (m : MethodId) (below : List Frame) (meth : Method) (c : Code) (A : Nat → Prop) (H : Heap), Cx p s m av.toArray meth c cc maxL wsy y.cls ret → (y.name = "<init>" → meth.name = "<init>") → KA G s → s.heap.size = sz → va_P G.1 vwCl ws H → va_D A ws → (∀ q : Nat, s.heap.size ≤ q → A q) → va_S A s.heap H [] → ∀ ls : Array Slot, lv_has ls maxL (lv_args 0 av) →
      W p l e rm s m av.toArray below meth c H [] 0 0 (MQ below (Qc A) av.toArray s mc ms A) (F0 m 0 ls [])) : Met l y wsy rm (PreA G av ws sz) (Qc (va_A ws sz)) mc ms (va_A ws sz) := by
  refine Met.ofW (cc := cc) (maxL := maxL) (ret := ret) hy hw ?_
  intro p e s m args below meth c s₁ B hml hv
  obtain ⟨rfl, hsz, hP, hK, hD0⟩ := hv
  have hts := atoms_spec (ws := wsy) B.pre
  have hD : va_D (va_A ws sz) ws := hD0.self (sz := sz)
  have hA : ∀ q : Nat, s.heap.size ≤ q → va_A ws sz q := fun q h => Or.inr (by rw [← hsz]; exact h)
  have hl := lv_entry av (n := maxL) hlen
  rw [lg_entry_eq]
  exact body p e s m below meth c (va_A ws sz) s.heap ⟨B.exec, B.bytes, B.returns, hml, findClass_of_methodNamed B.named, hts, B.notSynchronized⟩ (fun e1 => (name_of_methodNamed B.named B.method).1.trans e1) hK hsz hP hD hA va_S.rf _ hl
theorem BW.preA {G : GG} {A : Nat → Prop} {bs bc : List va_W} {H : Heap} {s : State} {av : List Value} {wc : va_W} (hK : KA G s) (hW : BW G A bs H) (isB : List Nat) (hC : isB.map (fun i => bs[i]?) = bc.map some) (hn : va_nd isB = true) (hwc : wc = FLl bc) : ∀ U : State, U.heap = H → s.WarmedH U.vm → PreA G av wc H.size av.toArray U := by
  subst hwc
  obtain ⟨h1, h2⟩ := (hW.sub isB hC hn).flat
  exact fun U hU hW => ⟨rfl, by rw [hU], by rw [hU]; exact h1, hK.warm hW, h2.weaken (fun _ _ _ _ => trivial)⟩
section OWN4
variable {p : Program} {l : Launch} {e : Env} {R : Room} {s : State} {m : MethodId} {args : Array Value} {below : List Frame} {meth : Method} {c : Code} {H : Heap} {locs : List Loc} {cells slots : Nat}
variable {pc : Nat} {ls : Array Slot} {rest st0 : List Value} {A : Nat → Prop} {mc ms : Nat} {G : GG} {bs bc : List va_W} {wc : va_W}
theorem runB_I {y : MethodName} {bytes cc : ByteArray} {maxL nL n index : Nat} {ret0 : Option FieldType} {wsy : List Cond} {rm : Room} {Qc : Array Value → State → Outcome → State → Prop} {Ts : List Cond} {own : String} {b : Addr} {As : List Value}
    (X : Cx p s m args meth c cc nL Ts own ret0) (hK : KA G s) (hW : BW G A bs H) (hM : Met l y wsy rm (PreA G (.ref b :: As) wc H.size) Qc mc ms (va_A wc H.size)) (cw : CallB R s args own index y bytes maxL none wsy rm mc ms n ∧ y.name = "<init>" ∧ (Cond.instanceMethod y).before args s = true) (isB : List Nat) (hC : isB.map (fun i => bs[i]?) = bc.map some) (hn : va_nd isB = true) (hwc : wc = FLl bc)
    (hAs : As.length = n) (hsize : ls.size = nL) (hst : st0 = As.reverse ++ .ref b :: rest) (hR : (rest.map fun v => v.category).sum ≤ 8) (hdg : decode cc pc = .ok (.invokespecial index, 3)) (hf : cells + mc ≤ R.cells ∧ slots + ms ≤ R.slots) :
    va_Run p l e R s m args below meth c H locs cells slots mc ms (F0 m pc ls st0) rest (Qc (Value.ref b :: As).toArray) (va_A wc H.size) :=
  va_runI (g := F0 m pc ls st0) ⟨X.1, X.2.1, X.2.2.2.1, X.2.2.2.2.1, X.2.2.2.2.2.1⟩ hM cw ⟨PreA.blind, BW.preA hK hW isB hC hn hwc⟩ rfl hAs hsize hst (lv_room (ls := ls) (pc := pc) (m := m) hR) hdg hf
end OWN4
theorem ra_name {U : State} {cA : ClassId} {ty : FieldType} (h : va_RA U cA ty) : U.vm.findClass ("[" ++ ty.toString) = some cA := by
  cases ty with
  | object C =>
    obtain ⟨_, _, -, -, -, h4⟩ := h
    exact h4
  | _ => exact h
theorem ty_uni {G : GG} {s : State} {cA : ClassId} {ty : FieldType} (hK : va_K G.1 vwCl (TYG G ++ [(cA, ty)]) s) (k : Nat) (ht : (TYG G ++ [(cA, ty)])[k]? = some (G.2 k, ty)) : cA = G.2 k := by
  have h1 := ra_name (hK.2 k _ ht).2
  have h2 := ra_name (hK.2 5 (cA, ty) rfl).2
  exact Option.some.inj (h2.symm.trans h1)
theorem at4 {n : Nat} (h : n < 4) : n = 0 ∨ n = 1 ∨ n = 2 ∨ n = 3 := by omega
def ad11 (x0 x1 x2 x3 x4 x5 x6 x7 x8 x9 x10 : Nat) : Nat → Nat
  | 0 => x0
  | 1 => x1
  | 2 => x2
  | 3 => x3
  | 4 => x4
  | 5 => x5
  | 6 => x6
  | 7 => x7
  | 8 => x8
  | 9 => x9
  | _ => x10
def xs4 (a b c d : Nat → Nat) : Nat → Nat → Nat
  | 0 => a
  | 1 => b
  | 2 => c
  | _ => d
def vI : Nat → Int32
  | 2 => nI 100
  | 3 => nI 100
  | 10 => nI 50
  | 11 => nI 40
  | 13 => -5
  | 14 => -5
  | 15 => -5
  | 16 => -5
  | _ => 0
def qI : Nat → Int32 := fun _ => 0
def gI : Nat → Int32
  | 6 => -1
  | _ => 0
def mI : Nat → Int32 := upd (upd (upd (upd (upd (upd (upd (upd qI 2 (nI 100)) 3 (nI 100)) 10 (nI 50)) 11 (nI 40)) 13 (-1)) 14 (-1)) 15 (-1)) 16 (-1)
theorem bref_0 (a b : Nat) (f : Nat → Nat) (h2 : f 2 = a) (h3 : f 3 = b) : ∀ j, j < 2 → va_up (va_up (fun _ => none) 0 (some a)) 1 (some b) j = bref f j := by
  intro j hj
  subst h2 h3
  have h : j = 0 ∨ j = 1 := by omega
  rcases h with rfl | rfl <;> rfl
theorem mref_0 (a b c d : Nat) (f : Nat → Nat) (h5 : f 5 = a) (h6 : f 6 = b) (h7 : f 7 = c) (h8 : f 8 = d) : ∀ j, j < 4 → va_up (va_up (va_up (va_up (fun _ => none) 0 (some a)) 1 (some b)) 2 (some c)) 3 (some d) j = mref f j := by
  intro j hj
  subst h5 h6 h7 h8
  rcases at4 hj with rfl | rfl | rfl | rfl <;> rfl
theorem rf4_0n (a b c d : Nat) : ∀ j, j < 4 → va_up (va_up (va_up (va_up (fun _ => none) 0 (some a)) 1 (some b)) 2 (some c)) 3 (some d) j = rf4 a b c d j := by
  intro j hj
  rcases at4 hj with rfl | rfl | rfl | rfl <;> rfl

theorem def_X0 : ∀ j, j < 5 → defaultValue (tyX0 j) = vp_V [.int 0, .int 0, .int 0, .int 0, .int 0] j := by
  intro j hj
  rcases (show j = 0 ∨ j = 1 ∨ j = 2 ∨ j = 3 ∨ j = 4 by omega) with rfl | rfl | rfl | rfl | rfl <;> rfl
theorem def_X1 : ∀ j, j < 2 → defaultValue (tyX1 j) = vp_V [.null, .int 0] j := by
  intro j hj
  rcases (show j = 0 ∨ j = 1 by omega) with rfl | rfl <;> rfl
theorem def_X2 : ∀ j, j < 14 → defaultValue (tyX2 j) = vp_V [.null, .null, .null, .int 0, .int 0, .int 0, .int 0, .int 0, .int 0, .int 0, .int 0, .int 0, .int 0, .int 0] j := by
  intro j hj
  rcases (show j = 0 ∨ j = 1 ∨ j = 2 ∨ j = 3 ∨ j = 4 ∨ j = 5 ∨ j = 6 ∨ j = 7 ∨ j = 8 ∨ j = 9 ∨ j = 10 ∨ j = 11 ∨ j = 12 ∨ j = 13 by omega) with rfl | rfl | rfl | rfl | rfl | rfl | rfl | rfl | rfl | rfl | rfl | rfl | rfl | rfl <;> rfl
theorem def_X3 : ∀ j, j < 3 → defaultValue (tyX3 j) = vp_V [.int 0, .int 0, .int 0] j := by
  intro j hj
  rcases (show j = 0 ∨ j = 1 ∨ j = 2 by omega) with rfl | rfl | rfl <;> rfl
theorem def_X4 : ∀ j, j < 6 → defaultValue (tyX4 j) = vp_V [.null, .int 0, .int 0, .int 0, .int 0, .int 0] j := by
  intro j hj
  rcases (show j = 0 ∨ j = 1 ∨ j = 2 ∨ j = 3 ∨ j = 4 ∨ j = 5 by omega) with rfl | rfl | rfl | rfl | rfl | rfl <;> rfl
theorem def_X5 : ∀ j, j < 2 → defaultValue (tyX5 j) = vp_V [.null, .int 0] j := by
  intro j hj
  rcases (show j = 0 ∨ j = 1 by omega) with rfl | rfl <;> rfl
set_option maxRecDepth 20000 in
theorem in_X0_init_RX0 : ∀ w ∈ u_ws RX0 TX0 5, w ∈ wsX0_init := by decide +kernel
set_option maxHeartbeats 8000000 in
set_option maxRecDepth 100000 in
theorem c_X0_init (l : Launch) (G : GG) (h : Nat) (sz : Nat) : Met l yX0_init wsX0_init ({ frames := 1, cells := 0, slots := 0, locals := 12 }) (PreA G [.ref h] ([(h, .inr (0, [.int 0, .int 0, .int 0, .int 0, .int 0]))]) sz) (PV G (va_A ([(h, .inr (0, [.int 0, .int 0, .int 0, .int 0, .int 0]))]) sz) (fun _ : Unit => True : Unit → Prop) (fun _ => BL h 0 (nI 100) 0 0 0)) 0 0 (va_A ([(h, .inr (0, [.int 0, .int 0, .int 0, .int 0, .int 0]))]) sz) := by
  refine Met.walkA (cc := cX0_init) (maxL := 1) (ret := none) (Qc := fun A => PV G A (fun _ : Unit => True : Unit → Prop) (fun _ => BL h 0 (nI 100) 0 0 0)) (by decide) rfl (Nat.le_of_ble_eq_true rfl) ?_
  intro p e s m below meth c A H C0 hI0 hK hsz hP hD hA hS ls hl
  have hx := C0.1
  have hb := C0.2.1
  have hown : s.vm.findClass RX0 = some m.cls := C0.2.2.2.2.1
  have hml := C0.2.2.2.1
  have hin : meth.name = "<init>" := hI0 rfl
  have hts : ∀ w ∈ wsX0_init, w.before ([.ref h] : List Value).toArray s = true := C0.2.2.2.2.2.1
  have hl : lv_has ls 1 [(0, .ref h)] := hl
  have hP : va_P G.1 vwCl ([(h, .inr (0, [.int 0, .int 0, .int 0, .int 0, .int 0]))]) H := hP
  have hD : va_D A ([(h, .inr (0, [.int 0, .int 0, .int 0, .int 0, .int 0]))]) := hD
  refine lv_aload_n hx hb dX0_init_0 rfl (lv_at hl 0 rfl) ?_
  refine W.objInit hx hb hown (hts (.methodLink RX0 3 objectInit) (by decide +kernel)) (hts (.instanceMethod objectInit) (by decide +kernel)) (hts _ (List.mem_of_getElem? (i := 3) rfl)) rfl (by rw [hml]; exact hl.1) rfl dX0_init_1 (Nat.le_of_ble_eq_true rfl) (Nat.le_of_ble_eq_true rfl) ?_
  refine W.eq (g2 := F0 m 4 ls ([])) rfl ?_
  refine lv_aload_n hx hb dX0_init_4 rfl (lv_at hl 0 rfl) ?_
  refine lv_bipush (v := (nI 100)) hx hb dX0_init_5 (by decide) ?_
  refine va_put (D := G.1) (ci := 0) (v := .int (nI 100)) (ty := tyX0 1) (C := RX0) (T := TX0) (N := 5) hx hb hts in_X0_init_RX0 tyX0 tyX0_ok nmX0 hown hK.1.1 hP hD hS 0 rfl rfl 1 (by decide) (hts (.fieldLink RX0 9 "SteamRations$Boiler" "water" "I") (by decide +kernel)) (fun _ h9 => h9) rfl (tyX0_ok 1 (by decide)) rfl rfl (Nat.le_of_ble_eq_true rfl) dX0_init_7 (fun H locs hP hD hS => ?_)
  have hP : va_P G.1 vwCl ([(h, .inr (0, [.int 0, .int (nI 100), .int 0, .int 0, .int 0]))]) H := hP
  have hD : va_D A ([(h, .inr (0, [.int 0, .int (nI 100), .int 0, .int 0, .int 0]))]) := hD
  have hP : va_P G.1 vwCl (BL h 0 (nI 100) 0 0 0) H := hP.sub [0] rfl
  have hD : va_D A (BL h 0 (nI 100) 0 0 0) := hD.sub [0] (by decide) rfl
  exact end_V C0 hP hD hS (()) (trivial) rfl dX0_init_10
set_option maxRecDepth 20000 in
theorem in_X3_init_RX3 : ∀ w ∈ u_ws RX3 TX3 3, w ∈ wsX3_init := by decide +kernel
set_option maxHeartbeats 8000000 in
set_option maxRecDepth 100000 in
theorem c_X3_init (l : Launch) (G : GG) (h : Nat) (sz : Nat) : Met l yX3_init wsX3_init ({ frames := 1, cells := 0, slots := 0, locals := 12 }) (PreA G [.ref h] ([(h, .inr (3, [.int 0, .int 0, .int 0]))]) sz) (PV G (va_A ([(h, .inr (3, [.int 0, .int 0, .int 0]))]) sz) (fun _ : Unit => True : Unit → Prop) (fun _ => MA h (-5) 0 0)) 0 0 (va_A ([(h, .inr (3, [.int 0, .int 0, .int 0]))]) sz) := by
  refine Met.walkA (cc := cX3_init) (maxL := 1) (ret := none) (Qc := fun A => PV G A (fun _ : Unit => True : Unit → Prop) (fun _ => MA h (-5) 0 0)) (by decide) rfl (Nat.le_of_ble_eq_true rfl) ?_
  intro p e s m below meth c A H C0 hI0 hK hsz hP hD hA hS ls hl
  have hx := C0.1
  have hb := C0.2.1
  have hown : s.vm.findClass RX3 = some m.cls := C0.2.2.2.2.1
  have hml := C0.2.2.2.1
  have hin : meth.name = "<init>" := hI0 rfl
  have hts : ∀ w ∈ wsX3_init, w.before ([.ref h] : List Value).toArray s = true := C0.2.2.2.2.2.1
  have hl : lv_has ls 1 [(0, .ref h)] := hl
  have hP : va_P G.1 vwCl ([(h, .inr (3, [.int 0, .int 0, .int 0]))]) H := hP
  have hD : va_D A ([(h, .inr (3, [.int 0, .int 0, .int 0]))]) := hD
  refine lv_aload_n hx hb dX3_init_0 rfl (lv_at hl 0 rfl) ?_
  refine W.objInit hx hb hown (hts (.methodLink RX3 3 objectInit) (by decide +kernel)) (hts (.instanceMethod objectInit) (by decide +kernel)) (hts _ (List.mem_of_getElem? (i := 3) rfl)) rfl (by rw [hml]; exact hl.1) rfl dX3_init_1 (Nat.le_of_ble_eq_true rfl) (Nat.le_of_ble_eq_true rfl) ?_
  refine W.eq (g2 := F0 m 4 ls ([])) rfl ?_
  refine lv_aload_n hx hb dX3_init_4 rfl (lv_at hl 0 rfl) ?_
  refine lv_bipush (v := (-5)) hx hb dX3_init_5 (by decide) ?_
  refine va_put (D := G.1) (ci := 3) (v := .int (-5)) (ty := tyX3 0) (C := RX3) (T := TX3) (N := 3) hx hb hts in_X3_init_RX3 tyX3 tyX3_ok nmX3 hown hK.1.1 hP hD hS 0 rfl rfl 0 (by decide) (hts (.fieldLink RX3 9 "SteamRations$Machine" "kind" "I") (by decide +kernel)) (fun _ h9 => h9) rfl (tyX3_ok 0 (by decide)) rfl rfl (Nat.le_of_ble_eq_true rfl) dX3_init_7 (fun H locs hP hD hS => ?_)
  have hP : va_P G.1 vwCl ([(h, .inr (3, [.int (-5), .int 0, .int 0]))]) H := hP
  have hD : va_D A ([(h, .inr (3, [.int (-5), .int 0, .int 0]))]) := hD
  have hP : va_P G.1 vwCl (MA h (-5) 0 0) H := hP.sub [0] rfl
  have hD : va_D A (MA h (-5) 0 0) := hD.sub [0] (by decide) rfl
  exact end_V C0 hP hD hS (()) (trivial) rfl dX3_init_10
set_option maxRecDepth 20000 in
theorem in_X5_init_RX5 : ∀ w ∈ u_ws RX5 TX5 2, w ∈ wsX5_init := by decide +kernel
set_option maxHeartbeats 8000000 in
set_option maxRecDepth 100000 in
theorem c_X5_init (l : Launch) (G : GG) (h : Nat) (sz : Nat) : Met l yX5_init wsX5_init ({ frames := 1, cells := 1, slots := 12, locals := 12 }) (PreA G [.ref h] ([(h, .inr (5, [.null, .int 0]))]) sz) (PV G (va_A ([(h, .inr (5, [.null, .int 0]))]) sz) (fun _ : Nat => True : Nat → Prop) (fun k => LN G h k 0 qI)) 1 12 (va_A ([(h, .inr (5, [.null, .int 0]))]) sz) := by
  refine Met.walkA (cc := cX5_init) (maxL := 1) (ret := none) (Qc := fun A => PV G A (fun _ : Nat => True : Nat → Prop) (fun k => LN G h k 0 qI)) (by decide) rfl (Nat.le_of_ble_eq_true rfl) ?_
  intro p e s m below meth c A H C0 hI0 hK hsz hP hD hA hS ls hl
  have hx := C0.1
  have hb := C0.2.1
  have hown : s.vm.findClass RX5 = some m.cls := C0.2.2.2.2.1
  have hml := C0.2.2.2.1
  have hin : meth.name = "<init>" := hI0 rfl
  have hts : ∀ w ∈ wsX5_init, w.before ([.ref h] : List Value).toArray s = true := C0.2.2.2.2.2.1
  have hl : lv_has ls 1 [(0, .ref h)] := hl
  have hP : va_P G.1 vwCl ([(h, .inr (5, [.null, .int 0]))]) H := hP
  have hD : va_D A ([(h, .inr (5, [.null, .int 0]))]) := hD
  refine lv_aload_n hx hb dX5_init_0 rfl (lv_at hl 0 rfl) ?_
  refine W.objInit hx hb hown (hts (.methodLink RX5 3 objectInit) (by decide +kernel)) (hts (.instanceMethod objectInit) (by decide +kernel)) (hts _ (List.mem_of_getElem? (i := 3) rfl)) rfl (by rw [hml]; exact hl.1) rfl dX5_init_1 (Nat.le_of_ble_eq_true rfl) (Nat.le_of_ble_eq_true rfl) ?_
  refine W.eq (g2 := F0 m 4 ls ([])) rfl ?_
  refine lv_aload_n hx hb dX5_init_4 rfl (lv_at hl 0 rfl) ?_
  refine lv_bipush (v := (nI 12)) hx hb dX5_init_5 (by decide) ?_
  refine va_newa (D := G.1) (atype := .int) (ty := .int) (n := nI 12) (N' := 12) (a0 := (12, .inl qI)) hx hb (hts (.arrayClass .int) (by decide +kernel)) rfl hK.1.1 hP hD hS hA (fun cA => by rw [vp_cell_i]; rfl) (nI_pos (by decide)) (nI_clamp (by decide)) (Nat.le_of_ble_eq_true rfl) (Nat.le_of_ble_eq_true rfl) (Nat.le_of_ble_eq_true rfl) dX5_init_7 (fun q7 cA H hKx hP hD hS => ?_)
  have eA := ty_uni hKx 0 rfl
  subst eA
  have hP : va_P G.1 vwCl ([(h, .inr (5, [.null, .int 0]))] ++ [(q7, .inl (G.2 0, 12, .inl qI))]) H := hP
  have hD : va_D A ([(h, .inr (5, [.null, .int 0]))] ++ [(q7, .inl (G.2 0, 12, .inl qI))]) := hD
  refine W.widen (k := 1) (n := 12) (by omega) (by omega) ?_
  refine va_putF (D := G.1) (ci := 5) (v := .ref q7) (ty := tyX5 0) (C := RX5) (T := TX5) (N := 2) hx hb hts in_X5_init_RX5 tyX5 tyX5_ok nmX5 hown hK.1.1 hP hD hS 0 rfl rfl 0 (by decide) (hts (.fieldLink RX5 9 "SteamRations$WaitingLine" "kinds" "[I") (by decide +kernel)) (fun _ h9 => h9) rfl hin rfl (tyX5_ok 0 (by decide)) rfl rfl (Nat.le_of_ble_eq_true rfl) dX5_init_9 (fun H locs hP hD hS => ?_)
  have hP : va_P G.1 vwCl ([(h, .inr (5, [.ref q7, .int 0]))] ++ [(q7, .inl (G.2 0, 12, .inl qI))]) H := hP
  have hD : va_D A ([(h, .inr (5, [.ref q7, .int 0]))] ++ [(q7, .inl (G.2 0, 12, .inl qI))]) := hD
  have hP : va_P G.1 vwCl (LN G h q7 0 qI) H := hP.sub [0, 1] rfl
  have hD : va_D A (LN G h q7 0 qI) := hD.sub [0, 1] (by decide) rfl
  exact end_V C0 hP hD hS (q7) (trivial) rfl dX5_init_12
set_option maxRecDepth 20000 in
theorem in_X4_init_RX4 : ∀ w ∈ u_ws RX4 TX4 6, w ∈ wsX4_init := by decide +kernel
set_option maxHeartbeats 8000000 in
set_option maxRecDepth 100000 in
theorem c_X4_init (l : Launch) (G : GG) (h : Nat) (sz : Nat) : Met l yX4_init wsX4_init ({ frames := 1, cells := 1, slots := 80, locals := 12 }) (PreA G [.ref h] ([(h, .inr (4, [.null, .int 0, .int 0, .int 0, .int 0, .int 0]))]) sz) (PV G (va_A ([(h, .inr (4, [.null, .int 0, .int 0, .int 0, .int 0, .int 0]))]) sz) (fun _ : Nat => True : Nat → Prop) (fun k => OT G h k 0 0 0 0 0 qI)) 1 80 (va_A ([(h, .inr (4, [.null, .int 0, .int 0, .int 0, .int 0, .int 0]))]) sz) := by
  refine Met.walkA (cc := cX4_init) (maxL := 1) (ret := none) (Qc := fun A => PV G A (fun _ : Nat => True : Nat → Prop) (fun k => OT G h k 0 0 0 0 0 qI)) (by decide) rfl (Nat.le_of_ble_eq_true rfl) ?_
  intro p e s m below meth c A H C0 hI0 hK hsz hP hD hA hS ls hl
  have hx := C0.1
  have hb := C0.2.1
  have hown : s.vm.findClass RX4 = some m.cls := C0.2.2.2.2.1
  have hml := C0.2.2.2.1
  have hin : meth.name = "<init>" := hI0 rfl
  have hts : ∀ w ∈ wsX4_init, w.before ([.ref h] : List Value).toArray s = true := C0.2.2.2.2.2.1
  have hl : lv_has ls 1 [(0, .ref h)] := hl
  have hP : va_P G.1 vwCl ([(h, .inr (4, [.null, .int 0, .int 0, .int 0, .int 0, .int 0]))]) H := hP
  have hD : va_D A ([(h, .inr (4, [.null, .int 0, .int 0, .int 0, .int 0, .int 0]))]) := hD
  refine lv_aload_n hx hb dX4_init_0 rfl (lv_at hl 0 rfl) ?_
  refine W.objInit hx hb hown (hts (.methodLink RX4 3 objectInit) (by decide +kernel)) (hts (.instanceMethod objectInit) (by decide +kernel)) (hts _ (List.mem_of_getElem? (i := 3) rfl)) rfl (by rw [hml]; exact hl.1) rfl dX4_init_1 (Nat.le_of_ble_eq_true rfl) (Nat.le_of_ble_eq_true rfl) ?_
  refine W.eq (g2 := F0 m 4 ls ([])) rfl ?_
  refine lv_aload_n hx hb dX4_init_4 rfl (lv_at hl 0 rfl) ?_
  refine lv_bipush (v := (nI 80)) hx hb dX4_init_5 (by decide) ?_
  refine va_newa (D := G.1) (atype := .char) (ty := .char) (n := nI 80) (N' := 80) (a0 := (80, .inl qI)) hx hb (hts (.arrayClass .char) (by decide +kernel)) rfl hK.1.1 hP hD hS hA (fun cA => by rw [vp_cell_i]; rfl) (nI_pos (by decide)) (nI_clamp (by decide)) (Nat.le_of_ble_eq_true rfl) (Nat.le_of_ble_eq_true rfl) (Nat.le_of_ble_eq_true rfl) dX4_init_7 (fun q7 cA H hKx hP hD hS => ?_)
  have eA := ty_uni hKx 1 rfl
  subst eA
  have hP : va_P G.1 vwCl ([(h, .inr (4, [.null, .int 0, .int 0, .int 0, .int 0, .int 0]))] ++ [(q7, .inl (G.2 1, 80, .inl qI))]) H := hP
  have hD : va_D A ([(h, .inr (4, [.null, .int 0, .int 0, .int 0, .int 0, .int 0]))] ++ [(q7, .inl (G.2 1, 80, .inl qI))]) := hD
  refine W.widen (k := 1) (n := 80) (by omega) (by omega) ?_
  refine va_putF (D := G.1) (ci := 4) (v := .ref q7) (ty := tyX4 0) (C := RX4) (T := TX4) (N := 6) hx hb hts in_X4_init_RX4 tyX4 tyX4_ok nmX4 hown hK.1.1 hP hD hS 0 rfl rfl 0 (by decide) (hts (.fieldLink RX4 9 "SteamRations$OrderText" "characters" "[C") (by decide +kernel)) (fun _ h9 => h9) rfl hin rfl (tyX4_ok 0 (by decide)) rfl rfl (Nat.le_of_ble_eq_true rfl) dX4_init_9 (fun H locs hP hD hS => ?_)
  have hP : va_P G.1 vwCl ([(h, .inr (4, [.ref q7, .int 0, .int 0, .int 0, .int 0, .int 0]))] ++ [(q7, .inl (G.2 1, 80, .inl qI))]) H := hP
  have hD : va_D A ([(h, .inr (4, [.ref q7, .int 0, .int 0, .int 0, .int 0, .int 0]))] ++ [(q7, .inl (G.2 1, 80, .inl qI))]) := hD
  have hP : va_P G.1 vwCl (OT G h q7 0 0 0 0 0 qI) H := hP.sub [0, 1] rfl
  have hD : va_D A (OT G h q7 0 0 0 0 0 qI) := hD.sub [0, 1] (by decide) rfl
  exact end_V C0 hP hD hS (q7) (trivial) rfl dX4_init_12
set_option maxRecDepth 20000 in
theorem in_X2_init_RX0 : ∀ w ∈ u_ws RX0 TX0 5, w ∈ wsX2_init := by decide +kernel
set_option maxRecDepth 20000 in
theorem in_X2_init_RX2 : ∀ w ∈ u_ws RX2 TX2 14, w ∈ wsX2_init := by decide +kernel
set_option maxRecDepth 20000 in
theorem in_X2_init_RX3 : ∀ w ∈ u_ws RX3 TX3 3, w ∈ wsX2_init := by decide +kernel
set_option maxRecDepth 20000 in
theorem in_X2_init_RX5 : ∀ w ∈ u_ws RX5 TX5 2, w ∈ wsX2_init := by decide +kernel
set_option maxHeartbeats 8000000 in
set_option maxRecDepth 100000 in
theorem c_X2_init (l : Launch) (G : GG) (h : Nat) (sz : Nat) : Met l yX2_init wsX2_init ({ frames := 2, cells := 10, slots := 42, locals := 32 }) (PreA G [.ref h] ([(h, .inr (2, [.null, .null, .null, .int 0, .int 0, .int 0, .int 0, .int 0, .int 0, .int 0, .int 0, .int 0, .int 0, .int 0]))]) sz) (PV G (va_A ([(h, .inr (2, [.null, .null, .null, .int 0, .int 0, .int 0, .int 0, .int 0, .int 0, .int 0, .int 0, .int 0, .int 0, .int 0]))]) sz) (fun a : Nat → Nat => a 0 = h : (Nat → Nat) → Prop) (fun a => LC G a vI qI)) 10 42 (va_A ([(h, .inr (2, [.null, .null, .null, .int 0, .int 0, .int 0, .int 0, .int 0, .int 0, .int 0, .int 0, .int 0, .int 0, .int 0]))]) sz) := by
  refine Met.walkA (cc := cX2_init) (maxL := 1) (ret := none) (Qc := fun A => PV G A (fun a : Nat → Nat => a 0 = h : (Nat → Nat) → Prop) (fun a => LC G a vI qI)) (by decide) rfl (Nat.le_of_ble_eq_true rfl) ?_
  intro p e s m below meth c A H C0 hI0 hK hsz hP hD hA hS ls hl
  have hx := C0.1
  have hb := C0.2.1
  have hown : s.vm.findClass RX2 = some m.cls := C0.2.2.2.2.1
  have hml := C0.2.2.2.1
  have hin : meth.name = "<init>" := hI0 rfl
  have hts : ∀ w ∈ wsX2_init, w.before ([.ref h] : List Value).toArray s = true := C0.2.2.2.2.2.1
  have hl : lv_has ls 1 [(0, .ref h)] := hl
  have hP : va_P G.1 vwCl ([(h, .inr (2, [.null, .null, .null, .int 0, .int 0, .int 0, .int 0, .int 0, .int 0, .int 0, .int 0, .int 0, .int 0, .int 0]))]) H := hP
  have hD : va_D A ([(h, .inr (2, [.null, .null, .null, .int 0, .int 0, .int 0, .int 0, .int 0, .int 0, .int 0, .int 0, .int 0, .int 0, .int 0]))]) := hD
  refine lv_aload_n hx hb dX2_init_0 rfl (lv_at hl 0 rfl) ?_
  refine W.objInit hx hb hown (hts (.methodLink RX2 3 objectInit) (by decide +kernel)) (hts (.instanceMethod objectInit) (by decide +kernel)) (hts _ (List.mem_of_getElem? (i := 3) rfl)) rfl (by rw [hml]; exact hl.1) rfl dX2_init_1 (Nat.le_of_ble_eq_true rfl) (Nat.le_of_ble_eq_true rfl) ?_
  refine W.eq (g2 := F0 m 4 ls ([])) rfl ?_
  refine lv_aload_n hx hb dX2_init_4 rfl (lv_at hl 0 rfl) ?_
  refine lv_iconst (v := (nI 2)) hx hb dX2_init_5 (by decide) ?_
  refine va_newq (D := G.1) (n := nI 2) (N' := 2) hx hb hown (hts (.classLink RX2 9 RX0) (by decide +kernel)) hK.2.1 hK.1.1 hP hD hS hA (nI_pos (by decide)) (nI_clamp (by decide)) (Nat.le_of_ble_eq_true rfl) (Nat.le_of_ble_eq_true rfl) (Nat.le_of_ble_eq_true rfl) dX2_init_6 (fun q6 cA H hKx hP hD hS => ?_)
  have eA := ty_uni hKx 2 rfl
  subst eA
  have hP : va_P G.1 vwCl ([(h, .inr (2, [.null, .null, .null, .int 0, .int 0, .int 0, .int 0, .int 0, .int 0, .int 0, .int 0, .int 0, .int 0, .int 0]))] ++ [(q6, .inl (G.2 2, 2, .inr (.inr (.inr (.inr (fun _ => none))))))]) H := hP
  have hD : va_D A ([(h, .inr (2, [.null, .null, .null, .int 0, .int 0, .int 0, .int 0, .int 0, .int 0, .int 0, .int 0, .int 0, .int 0, .int 0]))] ++ [(q6, .inl (G.2 2, 2, .inr (.inr (.inr (.inr (fun _ => none))))))]) := hD
  refine W.widen (k := 1) (n := 2) (by omega) (by omega) ?_
  refine lv_dup hx hb dX2_init_9 rfl ?_
  refine lv_iconst (v := (nI 0)) hx hb dX2_init_10 (by decide) ?_
  refine va_new (D := G.1) (ci := 0) (fs := [.int 0, .int 0, .int 0, .int 0, .int 0]) (C := RX0) (T := TX0) (N := 5) hx hb hts in_X2_init_RX0 tyX0 tyX0_ok hown (hts (.classLink RX2 9 RX0) (by decide +kernel)) (hts (.instantiable RX0 5) (by decide +kernel)) (hts (.initialized RX0) (by decide +kernel)) hK.1.1 hP hD hS hA rfl (fun j hj => def_X0 j hj) (Nat.le_of_ble_eq_true rfl) (Nat.le_of_ble_eq_true rfl) dX2_init_11 (fun q11 H hP hD hS => ?_)
  have hP : va_P G.1 vwCl ([(h, .inr (2, [.null, .null, .null, .int 0, .int 0, .int 0, .int 0, .int 0, .int 0, .int 0, .int 0, .int 0, .int 0, .int 0]))] ++ [(q6, .inl (G.2 2, 2, .inr (.inr (.inr (.inr (fun _ => none))))))] ++ [(q11, .inr (0, [.int 0, .int 0, .int 0, .int 0, .int 0]))]) H := hP
  have hD : va_D A ([(h, .inr (2, [.null, .null, .null, .int 0, .int 0, .int 0, .int 0, .int 0, .int 0, .int 0, .int 0, .int 0, .int 0, .int 0]))] ++ [(q6, .inl (G.2 2, 2, .inr (.inr (.inr (.inr (fun _ => none))))))] ++ [(q11, .inr (0, [.int 0, .int 0, .int 0, .int 0, .int 0]))]) := hD
  refine W.widen (k := 2) (n := 7) (by omega) (by omega) ?_
  refine lv_dup hx hb dX2_init_14 rfl ?_
  have hW : BW G A [[(h, .inr (2, [.null, .null, .null, .int 0, .int 0, .int 0, .int 0, .int 0, .int 0, .int 0, .int 0, .int 0, .int 0, .int 0]))], [(q6, .inl (G.2 2, 2, .inr (.inr (.inr (.inr (fun _ => none))))))], [(q11, .inr (0, [.int 0, .int 0, .int 0, .int 0, .int 0]))]] H := BW.of hP hD
  refine gcallB_V (bc := [[(q11, .inr (0, [.int 0, .int 0, .int 0, .int 0, .int 0]))]]) (runB_I (As := []) (rest := [.ref q11, .int (nI 0), .ref q6, .ref q6, .ref h]) (bc := [[(q11, .inr (0, [.int 0, .int 0, .int 0, .int 0, .int 0]))]]) C0 hK hW (c_X0_init l G q11 H.size) (cwI 0 hts gX2_init_X0_init rfl rfl rfl (hts (.initialized RX0) (by decide +kernel)) (hts (.methodLink RX2 11 yX0_init) (by decide +kernel)) (hts (.instanceMethod yX0_init) (by decide +kernel)) rfl (by decide +kernel) ⟨Nat.le_of_ble_eq_true rfl, Nat.le_of_ble_eq_true rfl⟩) [2] rfl rfl rfl rfl hl.1 rfl (Nat.le_of_ble_eq_true rfl) dX2_init_15 ⟨Nat.le_of_ble_eq_true rfl, Nat.le_of_ble_eq_true rfl⟩) hW hS hA [2] rfl rfl rfl (fun _ => [BL q11 0 (nI 100) 0 0 0]) (fun _ => rfl) (fun _ => rfl) (fun u1 H locs hw1 hW hS => ?_)
  obtain ⟨hP, hD⟩ := hW.flat
  have hP : va_P G.1 vwCl ([(h, .inr (2, [.null, .null, .null, .int 0, .int 0, .int 0, .int 0, .int 0, .int 0, .int 0, .int 0, .int 0, .int 0, .int 0]))] ++ [(q6, .inl (G.2 2, 2, .inr (.inr (.inr (.inr (fun _ => none))))))] ++ BL q11 0 (nI 100) 0 0 0) H := hP
  have hD : va_D A ([(h, .inr (2, [.null, .null, .null, .int 0, .int 0, .int 0, .int 0, .int 0, .int 0, .int 0, .int 0, .int 0, .int 0, .int 0]))] ++ [(q6, .inl (G.2 2, 2, .inr (.inr (.inr (.inr (fun _ => none))))))] ++ BL q11 0 (nI 100) 0 0 0) := hD
  refine W.widen (k := 2) (n := 7) (by omega) (by omega) ?_
  refine n_aast (j := 0) (ci := 0) hx hb hK.1 hP hD hS 1 2 2 rfl rfl rfl rfl (by decide) (by decide) dX2_init_18 (fun H locs hP hD hS => ?_)
  have hP : va_P G.1 vwCl ([(h, .inr (2, [.null, .null, .null, .int 0, .int 0, .int 0, .int 0, .int 0, .int 0, .int 0, .int 0, .int 0, .int 0, .int 0]))] ++ [(q6, .inl (G.2 2, 2, .inr (.inr (.inr (.inr (va_up (fun _ => none) 0 (some q11)))))))] ++ BL q11 0 (nI 100) 0 0 0) H := hP
  have hD : va_D A ([(h, .inr (2, [.null, .null, .null, .int 0, .int 0, .int 0, .int 0, .int 0, .int 0, .int 0, .int 0, .int 0, .int 0, .int 0]))] ++ [(q6, .inl (G.2 2, 2, .inr (.inr (.inr (.inr (va_up (fun _ => none) 0 (some q11)))))))] ++ BL q11 0 (nI 100) 0 0 0) := hD
  refine lv_dup hx hb dX2_init_19 rfl ?_
  refine lv_iconst (v := (nI 1)) hx hb dX2_init_20 (by decide) ?_
  refine va_new (D := G.1) (ci := 0) (fs := [.int 0, .int 0, .int 0, .int 0, .int 0]) (C := RX0) (T := TX0) (N := 5) hx hb hts in_X2_init_RX0 tyX0 tyX0_ok hown (hts (.classLink RX2 9 RX0) (by decide +kernel)) (hts (.instantiable RX0 5) (by decide +kernel)) (hts (.initialized RX0) (by decide +kernel)) hK.1.1 hP hD hS hA rfl (fun j hj => def_X0 j hj) (Nat.le_of_ble_eq_true rfl) (Nat.le_of_ble_eq_true rfl) dX2_init_21 (fun q21 H hP hD hS => ?_)
  have hP : va_P G.1 vwCl ([(h, .inr (2, [.null, .null, .null, .int 0, .int 0, .int 0, .int 0, .int 0, .int 0, .int 0, .int 0, .int 0, .int 0, .int 0]))] ++ [(q6, .inl (G.2 2, 2, .inr (.inr (.inr (.inr (va_up (fun _ => none) 0 (some q11)))))))] ++ BL q11 0 (nI 100) 0 0 0 ++ [(q21, .inr (0, [.int 0, .int 0, .int 0, .int 0, .int 0]))]) H := hP
  have hD : va_D A ([(h, .inr (2, [.null, .null, .null, .int 0, .int 0, .int 0, .int 0, .int 0, .int 0, .int 0, .int 0, .int 0, .int 0, .int 0]))] ++ [(q6, .inl (G.2 2, 2, .inr (.inr (.inr (.inr (va_up (fun _ => none) 0 (some q11)))))))] ++ BL q11 0 (nI 100) 0 0 0 ++ [(q21, .inr (0, [.int 0, .int 0, .int 0, .int 0, .int 0]))]) := hD
  refine W.widen (k := 3) (n := 12) (by omega) (by omega) ?_
  refine lv_dup hx hb dX2_init_24 rfl ?_
  have hW : BW G A [[(h, .inr (2, [.null, .null, .null, .int 0, .int 0, .int 0, .int 0, .int 0, .int 0, .int 0, .int 0, .int 0, .int 0, .int 0]))], [(q6, .inl (G.2 2, 2, .inr (.inr (.inr (.inr (va_up (fun _ => none) 0 (some q11)))))))], BL q11 0 (nI 100) 0 0 0, [(q21, .inr (0, [.int 0, .int 0, .int 0, .int 0, .int 0]))]] H := BW.of hP hD
  refine gcallB_V (bc := [[(q21, .inr (0, [.int 0, .int 0, .int 0, .int 0, .int 0]))]]) (runB_I (As := []) (rest := [.ref q21, .int (nI 1), .ref q6, .ref q6, .ref h]) (bc := [[(q21, .inr (0, [.int 0, .int 0, .int 0, .int 0, .int 0]))]]) C0 hK hW (c_X0_init l G q21 H.size) (cwI 0 hts gX2_init_X0_init rfl rfl rfl (hts (.initialized RX0) (by decide +kernel)) (hts (.methodLink RX2 11 yX0_init) (by decide +kernel)) (hts (.instanceMethod yX0_init) (by decide +kernel)) rfl (by decide +kernel) ⟨Nat.le_of_ble_eq_true rfl, Nat.le_of_ble_eq_true rfl⟩) [3] rfl rfl rfl rfl hl.1 rfl (Nat.le_of_ble_eq_true rfl) dX2_init_25 ⟨Nat.le_of_ble_eq_true rfl, Nat.le_of_ble_eq_true rfl⟩) hW hS hA [3] rfl rfl rfl (fun _ => [BL q21 0 (nI 100) 0 0 0]) (fun _ => rfl) (fun _ => rfl) (fun u2 H locs hw2 hW hS => ?_)
  obtain ⟨hP, hD⟩ := hW.flat
  have hP : va_P G.1 vwCl ([(h, .inr (2, [.null, .null, .null, .int 0, .int 0, .int 0, .int 0, .int 0, .int 0, .int 0, .int 0, .int 0, .int 0, .int 0]))] ++ [(q6, .inl (G.2 2, 2, .inr (.inr (.inr (.inr (va_up (fun _ => none) 0 (some q11)))))))] ++ BL q11 0 (nI 100) 0 0 0 ++ BL q21 0 (nI 100) 0 0 0) H := hP
  have hD : va_D A ([(h, .inr (2, [.null, .null, .null, .int 0, .int 0, .int 0, .int 0, .int 0, .int 0, .int 0, .int 0, .int 0, .int 0, .int 0]))] ++ [(q6, .inl (G.2 2, 2, .inr (.inr (.inr (.inr (va_up (fun _ => none) 0 (some q11)))))))] ++ BL q11 0 (nI 100) 0 0 0 ++ BL q21 0 (nI 100) 0 0 0) := hD
  refine W.widen (k := 3) (n := 12) (by omega) (by omega) ?_
  refine n_aast (j := 1) (ci := 0) hx hb hK.1 hP hD hS 1 2 3 rfl rfl rfl rfl (by decide) (by decide) dX2_init_28 (fun H locs hP hD hS => ?_)
  have hP : va_P G.1 vwCl ([(h, .inr (2, [.null, .null, .null, .int 0, .int 0, .int 0, .int 0, .int 0, .int 0, .int 0, .int 0, .int 0, .int 0, .int 0]))] ++ [(q6, .inl (G.2 2, 2, .inr (.inr (.inr (.inr (va_up (va_up (fun _ => none) 0 (some q11)) 1 (some q21)))))))] ++ BL q11 0 (nI 100) 0 0 0 ++ BL q21 0 (nI 100) 0 0 0) H := hP
  have hD : va_D A ([(h, .inr (2, [.null, .null, .null, .int 0, .int 0, .int 0, .int 0, .int 0, .int 0, .int 0, .int 0, .int 0, .int 0, .int 0]))] ++ [(q6, .inl (G.2 2, 2, .inr (.inr (.inr (.inr (va_up (va_up (fun _ => none) 0 (some q11)) 1 (some q21)))))))] ++ BL q11 0 (nI 100) 0 0 0 ++ BL q21 0 (nI 100) 0 0 0) := hD
  refine va_putF (D := G.1) (ci := 2) (v := .ref q6) (ty := tyX2 0) (C := RX2) (T := TX2) (N := 14) hx hb hts in_X2_init_RX2 tyX2 tyX2_ok nmX2 hown hK.1.1 hP hD hS 0 rfl rfl 0 (by decide) (hts (.fieldLink RX2 12 "SteamRations$Laundry" "boilers" "[LSteamRations$Boiler;") (by decide +kernel)) (fun _ h9 => h9) rfl hin rfl (tyX2_ok 0 (by decide)) rfl rfl (Nat.le_of_ble_eq_true rfl) dX2_init_29 (fun H locs hP hD hS => ?_)
  have hP : va_P G.1 vwCl ([(h, .inr (2, [.ref q6, .null, .null, .int 0, .int 0, .int 0, .int 0, .int 0, .int 0, .int 0, .int 0, .int 0, .int 0, .int 0]))] ++ [(q6, .inl (G.2 2, 2, .inr (.inr (.inr (.inr (va_up (va_up (fun _ => none) 0 (some q11)) 1 (some q21)))))))] ++ BL q11 0 (nI 100) 0 0 0 ++ BL q21 0 (nI 100) 0 0 0) H := hP
  have hD : va_D A ([(h, .inr (2, [.ref q6, .null, .null, .int 0, .int 0, .int 0, .int 0, .int 0, .int 0, .int 0, .int 0, .int 0, .int 0, .int 0]))] ++ [(q6, .inl (G.2 2, 2, .inr (.inr (.inr (.inr (va_up (va_up (fun _ => none) 0 (some q11)) 1 (some q21)))))))] ++ BL q11 0 (nI 100) 0 0 0 ++ BL q21 0 (nI 100) 0 0 0) := hD
  refine lv_aload_n hx hb dX2_init_32 rfl (lv_at hl 0 rfl) ?_
  refine lv_iconst (v := (nI 4)) hx hb dX2_init_33 (by decide) ?_
  refine va_newq (D := G.1) (n := nI 4) (N' := 4) hx hb hown (hts (.classLink RX2 18 RX3) (by decide +kernel)) hK.2.2.1 hK.1.1 hP hD hS hA (nI_pos (by decide)) (nI_clamp (by decide)) (Nat.le_of_ble_eq_true rfl) (Nat.le_of_ble_eq_true rfl) (Nat.le_of_ble_eq_true rfl) dX2_init_34 (fun q34 cA H hKx hP hD hS => ?_)
  have eA := ty_uni hKx 3 rfl
  subst eA
  have hP : va_P G.1 vwCl ([(h, .inr (2, [.ref q6, .null, .null, .int 0, .int 0, .int 0, .int 0, .int 0, .int 0, .int 0, .int 0, .int 0, .int 0, .int 0]))] ++ [(q6, .inl (G.2 2, 2, .inr (.inr (.inr (.inr (va_up (va_up (fun _ => none) 0 (some q11)) 1 (some q21)))))))] ++ BL q11 0 (nI 100) 0 0 0 ++ BL q21 0 (nI 100) 0 0 0 ++ [(q34, .inl (G.2 3, 4, .inr (.inr (.inr (.inr (fun _ => none))))))]) H := hP
  have hD : va_D A ([(h, .inr (2, [.ref q6, .null, .null, .int 0, .int 0, .int 0, .int 0, .int 0, .int 0, .int 0, .int 0, .int 0, .int 0, .int 0]))] ++ [(q6, .inl (G.2 2, 2, .inr (.inr (.inr (.inr (va_up (va_up (fun _ => none) 0 (some q11)) 1 (some q21)))))))] ++ BL q11 0 (nI 100) 0 0 0 ++ BL q21 0 (nI 100) 0 0 0 ++ [(q34, .inl (G.2 3, 4, .inr (.inr (.inr (.inr (fun _ => none))))))]) := hD
  refine W.widen (k := 4) (n := 16) (by omega) (by omega) ?_
  refine lv_dup hx hb dX2_init_37 rfl ?_
  refine lv_iconst (v := (nI 0)) hx hb dX2_init_38 (by decide) ?_
  refine va_new (D := G.1) (ci := 3) (fs := [.int 0, .int 0, .int 0]) (C := RX3) (T := TX3) (N := 3) hx hb hts in_X2_init_RX3 tyX3 tyX3_ok hown (hts (.classLink RX2 18 RX3) (by decide +kernel)) (hts (.instantiable RX3 3) (by decide +kernel)) (hts (.initialized RX3) (by decide +kernel)) hK.1.1 hP hD hS hA rfl (fun j hj => def_X3 j hj) (Nat.le_of_ble_eq_true rfl) (Nat.le_of_ble_eq_true rfl) dX2_init_39 (fun q39 H hP hD hS => ?_)
  have hP : va_P G.1 vwCl ([(h, .inr (2, [.ref q6, .null, .null, .int 0, .int 0, .int 0, .int 0, .int 0, .int 0, .int 0, .int 0, .int 0, .int 0, .int 0]))] ++ [(q6, .inl (G.2 2, 2, .inr (.inr (.inr (.inr (va_up (va_up (fun _ => none) 0 (some q11)) 1 (some q21)))))))] ++ BL q11 0 (nI 100) 0 0 0 ++ BL q21 0 (nI 100) 0 0 0 ++ [(q34, .inl (G.2 3, 4, .inr (.inr (.inr (.inr (fun _ => none))))))] ++ [(q39, .inr (3, [.int 0, .int 0, .int 0]))]) H := hP
  have hD : va_D A ([(h, .inr (2, [.ref q6, .null, .null, .int 0, .int 0, .int 0, .int 0, .int 0, .int 0, .int 0, .int 0, .int 0, .int 0, .int 0]))] ++ [(q6, .inl (G.2 2, 2, .inr (.inr (.inr (.inr (va_up (va_up (fun _ => none) 0 (some q11)) 1 (some q21)))))))] ++ BL q11 0 (nI 100) 0 0 0 ++ BL q21 0 (nI 100) 0 0 0 ++ [(q34, .inl (G.2 3, 4, .inr (.inr (.inr (.inr (fun _ => none))))))] ++ [(q39, .inr (3, [.int 0, .int 0, .int 0]))]) := hD
  refine W.widen (k := 5) (n := 19) (by omega) (by omega) ?_
  refine lv_dup hx hb dX2_init_42 rfl ?_
  have hW : BW G A [[(h, .inr (2, [.ref q6, .null, .null, .int 0, .int 0, .int 0, .int 0, .int 0, .int 0, .int 0, .int 0, .int 0, .int 0, .int 0]))], [(q6, .inl (G.2 2, 2, .inr (.inr (.inr (.inr (va_up (va_up (fun _ => none) 0 (some q11)) 1 (some q21)))))))], BL q11 0 (nI 100) 0 0 0, BL q21 0 (nI 100) 0 0 0, [(q34, .inl (G.2 3, 4, .inr (.inr (.inr (.inr (fun _ => none))))))], [(q39, .inr (3, [.int 0, .int 0, .int 0]))]] H := BW.of hP hD
  refine gcallB_V (bc := [[(q39, .inr (3, [.int 0, .int 0, .int 0]))]]) (runB_I (As := []) (rest := [.ref q39, .int (nI 0), .ref q34, .ref q34, .ref h]) (bc := [[(q39, .inr (3, [.int 0, .int 0, .int 0]))]]) C0 hK hW (c_X3_init l G q39 H.size) (cwI 0 hts gX2_init_X3_init rfl rfl rfl (hts (.initialized RX3) (by decide +kernel)) (hts (.methodLink RX2 20 yX3_init) (by decide +kernel)) (hts (.instanceMethod yX3_init) (by decide +kernel)) rfl (by decide +kernel) ⟨Nat.le_of_ble_eq_true rfl, Nat.le_of_ble_eq_true rfl⟩) [5] rfl rfl rfl rfl hl.1 rfl (Nat.le_of_ble_eq_true rfl) dX2_init_43 ⟨Nat.le_of_ble_eq_true rfl, Nat.le_of_ble_eq_true rfl⟩) hW hS hA [5] rfl rfl rfl (fun _ => [MA q39 (-5) 0 0]) (fun _ => rfl) (fun _ => rfl) (fun u3 H locs hw3 hW hS => ?_)
  obtain ⟨hP, hD⟩ := hW.flat
  have hP : va_P G.1 vwCl ([(h, .inr (2, [.ref q6, .null, .null, .int 0, .int 0, .int 0, .int 0, .int 0, .int 0, .int 0, .int 0, .int 0, .int 0, .int 0]))] ++ [(q6, .inl (G.2 2, 2, .inr (.inr (.inr (.inr (va_up (va_up (fun _ => none) 0 (some q11)) 1 (some q21)))))))] ++ BL q11 0 (nI 100) 0 0 0 ++ BL q21 0 (nI 100) 0 0 0 ++ [(q34, .inl (G.2 3, 4, .inr (.inr (.inr (.inr (fun _ => none))))))] ++ MA q39 (-5) 0 0) H := hP
  have hD : va_D A ([(h, .inr (2, [.ref q6, .null, .null, .int 0, .int 0, .int 0, .int 0, .int 0, .int 0, .int 0, .int 0, .int 0, .int 0, .int 0]))] ++ [(q6, .inl (G.2 2, 2, .inr (.inr (.inr (.inr (va_up (va_up (fun _ => none) 0 (some q11)) 1 (some q21)))))))] ++ BL q11 0 (nI 100) 0 0 0 ++ BL q21 0 (nI 100) 0 0 0 ++ [(q34, .inl (G.2 3, 4, .inr (.inr (.inr (.inr (fun _ => none))))))] ++ MA q39 (-5) 0 0) := hD
  refine W.widen (k := 5) (n := 19) (by omega) (by omega) ?_
  refine n_aast (j := 0) (ci := 3) hx hb hK.1 hP hD hS 4 3 5 rfl rfl rfl rfl (by decide) (by decide) dX2_init_46 (fun H locs hP hD hS => ?_)
  have hP : va_P G.1 vwCl ([(h, .inr (2, [.ref q6, .null, .null, .int 0, .int 0, .int 0, .int 0, .int 0, .int 0, .int 0, .int 0, .int 0, .int 0, .int 0]))] ++ [(q6, .inl (G.2 2, 2, .inr (.inr (.inr (.inr (va_up (va_up (fun _ => none) 0 (some q11)) 1 (some q21)))))))] ++ BL q11 0 (nI 100) 0 0 0 ++ BL q21 0 (nI 100) 0 0 0 ++ [(q34, .inl (G.2 3, 4, .inr (.inr (.inr (.inr (va_up (fun _ => none) 0 (some q39)))))))] ++ MA q39 (-5) 0 0) H := hP
  have hD : va_D A ([(h, .inr (2, [.ref q6, .null, .null, .int 0, .int 0, .int 0, .int 0, .int 0, .int 0, .int 0, .int 0, .int 0, .int 0, .int 0]))] ++ [(q6, .inl (G.2 2, 2, .inr (.inr (.inr (.inr (va_up (va_up (fun _ => none) 0 (some q11)) 1 (some q21)))))))] ++ BL q11 0 (nI 100) 0 0 0 ++ BL q21 0 (nI 100) 0 0 0 ++ [(q34, .inl (G.2 3, 4, .inr (.inr (.inr (.inr (va_up (fun _ => none) 0 (some q39)))))))] ++ MA q39 (-5) 0 0) := hD
  refine lv_dup hx hb dX2_init_47 rfl ?_
  refine lv_iconst (v := (nI 1)) hx hb dX2_init_48 (by decide) ?_
  refine va_new (D := G.1) (ci := 3) (fs := [.int 0, .int 0, .int 0]) (C := RX3) (T := TX3) (N := 3) hx hb hts in_X2_init_RX3 tyX3 tyX3_ok hown (hts (.classLink RX2 18 RX3) (by decide +kernel)) (hts (.instantiable RX3 3) (by decide +kernel)) (hts (.initialized RX3) (by decide +kernel)) hK.1.1 hP hD hS hA rfl (fun j hj => def_X3 j hj) (Nat.le_of_ble_eq_true rfl) (Nat.le_of_ble_eq_true rfl) dX2_init_49 (fun q49 H hP hD hS => ?_)
  have hP : va_P G.1 vwCl ([(h, .inr (2, [.ref q6, .null, .null, .int 0, .int 0, .int 0, .int 0, .int 0, .int 0, .int 0, .int 0, .int 0, .int 0, .int 0]))] ++ [(q6, .inl (G.2 2, 2, .inr (.inr (.inr (.inr (va_up (va_up (fun _ => none) 0 (some q11)) 1 (some q21)))))))] ++ BL q11 0 (nI 100) 0 0 0 ++ BL q21 0 (nI 100) 0 0 0 ++ [(q34, .inl (G.2 3, 4, .inr (.inr (.inr (.inr (va_up (fun _ => none) 0 (some q39)))))))] ++ MA q39 (-5) 0 0 ++ [(q49, .inr (3, [.int 0, .int 0, .int 0]))]) H := hP
  have hD : va_D A ([(h, .inr (2, [.ref q6, .null, .null, .int 0, .int 0, .int 0, .int 0, .int 0, .int 0, .int 0, .int 0, .int 0, .int 0, .int 0]))] ++ [(q6, .inl (G.2 2, 2, .inr (.inr (.inr (.inr (va_up (va_up (fun _ => none) 0 (some q11)) 1 (some q21)))))))] ++ BL q11 0 (nI 100) 0 0 0 ++ BL q21 0 (nI 100) 0 0 0 ++ [(q34, .inl (G.2 3, 4, .inr (.inr (.inr (.inr (va_up (fun _ => none) 0 (some q39)))))))] ++ MA q39 (-5) 0 0 ++ [(q49, .inr (3, [.int 0, .int 0, .int 0]))]) := hD
  refine W.widen (k := 6) (n := 22) (by omega) (by omega) ?_
  refine lv_dup hx hb dX2_init_52 rfl ?_
  have hW : BW G A [[(h, .inr (2, [.ref q6, .null, .null, .int 0, .int 0, .int 0, .int 0, .int 0, .int 0, .int 0, .int 0, .int 0, .int 0, .int 0]))], [(q6, .inl (G.2 2, 2, .inr (.inr (.inr (.inr (va_up (va_up (fun _ => none) 0 (some q11)) 1 (some q21)))))))], BL q11 0 (nI 100) 0 0 0, BL q21 0 (nI 100) 0 0 0, [(q34, .inl (G.2 3, 4, .inr (.inr (.inr (.inr (va_up (fun _ => none) 0 (some q39)))))))], MA q39 (-5) 0 0, [(q49, .inr (3, [.int 0, .int 0, .int 0]))]] H := BW.of hP hD
  refine gcallB_V (bc := [[(q49, .inr (3, [.int 0, .int 0, .int 0]))]]) (runB_I (As := []) (rest := [.ref q49, .int (nI 1), .ref q34, .ref q34, .ref h]) (bc := [[(q49, .inr (3, [.int 0, .int 0, .int 0]))]]) C0 hK hW (c_X3_init l G q49 H.size) (cwI 0 hts gX2_init_X3_init rfl rfl rfl (hts (.initialized RX3) (by decide +kernel)) (hts (.methodLink RX2 20 yX3_init) (by decide +kernel)) (hts (.instanceMethod yX3_init) (by decide +kernel)) rfl (by decide +kernel) ⟨Nat.le_of_ble_eq_true rfl, Nat.le_of_ble_eq_true rfl⟩) [6] rfl rfl rfl rfl hl.1 rfl (Nat.le_of_ble_eq_true rfl) dX2_init_53 ⟨Nat.le_of_ble_eq_true rfl, Nat.le_of_ble_eq_true rfl⟩) hW hS hA [6] rfl rfl rfl (fun _ => [MA q49 (-5) 0 0]) (fun _ => rfl) (fun _ => rfl) (fun u4 H locs hw4 hW hS => ?_)
  obtain ⟨hP, hD⟩ := hW.flat
  have hP : va_P G.1 vwCl ([(h, .inr (2, [.ref q6, .null, .null, .int 0, .int 0, .int 0, .int 0, .int 0, .int 0, .int 0, .int 0, .int 0, .int 0, .int 0]))] ++ [(q6, .inl (G.2 2, 2, .inr (.inr (.inr (.inr (va_up (va_up (fun _ => none) 0 (some q11)) 1 (some q21)))))))] ++ BL q11 0 (nI 100) 0 0 0 ++ BL q21 0 (nI 100) 0 0 0 ++ [(q34, .inl (G.2 3, 4, .inr (.inr (.inr (.inr (va_up (fun _ => none) 0 (some q39)))))))] ++ MA q39 (-5) 0 0 ++ MA q49 (-5) 0 0) H := hP
  have hD : va_D A ([(h, .inr (2, [.ref q6, .null, .null, .int 0, .int 0, .int 0, .int 0, .int 0, .int 0, .int 0, .int 0, .int 0, .int 0, .int 0]))] ++ [(q6, .inl (G.2 2, 2, .inr (.inr (.inr (.inr (va_up (va_up (fun _ => none) 0 (some q11)) 1 (some q21)))))))] ++ BL q11 0 (nI 100) 0 0 0 ++ BL q21 0 (nI 100) 0 0 0 ++ [(q34, .inl (G.2 3, 4, .inr (.inr (.inr (.inr (va_up (fun _ => none) 0 (some q39)))))))] ++ MA q39 (-5) 0 0 ++ MA q49 (-5) 0 0) := hD
  refine W.widen (k := 6) (n := 22) (by omega) (by omega) ?_
  refine n_aast (j := 1) (ci := 3) hx hb hK.1 hP hD hS 4 3 6 rfl rfl rfl rfl (by decide) (by decide) dX2_init_56 (fun H locs hP hD hS => ?_)
  have hP : va_P G.1 vwCl ([(h, .inr (2, [.ref q6, .null, .null, .int 0, .int 0, .int 0, .int 0, .int 0, .int 0, .int 0, .int 0, .int 0, .int 0, .int 0]))] ++ [(q6, .inl (G.2 2, 2, .inr (.inr (.inr (.inr (va_up (va_up (fun _ => none) 0 (some q11)) 1 (some q21)))))))] ++ BL q11 0 (nI 100) 0 0 0 ++ BL q21 0 (nI 100) 0 0 0 ++ [(q34, .inl (G.2 3, 4, .inr (.inr (.inr (.inr (va_up (va_up (fun _ => none) 0 (some q39)) 1 (some q49)))))))] ++ MA q39 (-5) 0 0 ++ MA q49 (-5) 0 0) H := hP
  have hD : va_D A ([(h, .inr (2, [.ref q6, .null, .null, .int 0, .int 0, .int 0, .int 0, .int 0, .int 0, .int 0, .int 0, .int 0, .int 0, .int 0]))] ++ [(q6, .inl (G.2 2, 2, .inr (.inr (.inr (.inr (va_up (va_up (fun _ => none) 0 (some q11)) 1 (some q21)))))))] ++ BL q11 0 (nI 100) 0 0 0 ++ BL q21 0 (nI 100) 0 0 0 ++ [(q34, .inl (G.2 3, 4, .inr (.inr (.inr (.inr (va_up (va_up (fun _ => none) 0 (some q39)) 1 (some q49)))))))] ++ MA q39 (-5) 0 0 ++ MA q49 (-5) 0 0) := hD
  refine lv_dup hx hb dX2_init_57 rfl ?_
  refine lv_iconst (v := (nI 2)) hx hb dX2_init_58 (by decide) ?_
  refine va_new (D := G.1) (ci := 3) (fs := [.int 0, .int 0, .int 0]) (C := RX3) (T := TX3) (N := 3) hx hb hts in_X2_init_RX3 tyX3 tyX3_ok hown (hts (.classLink RX2 18 RX3) (by decide +kernel)) (hts (.instantiable RX3 3) (by decide +kernel)) (hts (.initialized RX3) (by decide +kernel)) hK.1.1 hP hD hS hA rfl (fun j hj => def_X3 j hj) (Nat.le_of_ble_eq_true rfl) (Nat.le_of_ble_eq_true rfl) dX2_init_59 (fun q59 H hP hD hS => ?_)
  have hP : va_P G.1 vwCl ([(h, .inr (2, [.ref q6, .null, .null, .int 0, .int 0, .int 0, .int 0, .int 0, .int 0, .int 0, .int 0, .int 0, .int 0, .int 0]))] ++ [(q6, .inl (G.2 2, 2, .inr (.inr (.inr (.inr (va_up (va_up (fun _ => none) 0 (some q11)) 1 (some q21)))))))] ++ BL q11 0 (nI 100) 0 0 0 ++ BL q21 0 (nI 100) 0 0 0 ++ [(q34, .inl (G.2 3, 4, .inr (.inr (.inr (.inr (va_up (va_up (fun _ => none) 0 (some q39)) 1 (some q49)))))))] ++ MA q39 (-5) 0 0 ++ MA q49 (-5) 0 0 ++ [(q59, .inr (3, [.int 0, .int 0, .int 0]))]) H := hP
  have hD : va_D A ([(h, .inr (2, [.ref q6, .null, .null, .int 0, .int 0, .int 0, .int 0, .int 0, .int 0, .int 0, .int 0, .int 0, .int 0, .int 0]))] ++ [(q6, .inl (G.2 2, 2, .inr (.inr (.inr (.inr (va_up (va_up (fun _ => none) 0 (some q11)) 1 (some q21)))))))] ++ BL q11 0 (nI 100) 0 0 0 ++ BL q21 0 (nI 100) 0 0 0 ++ [(q34, .inl (G.2 3, 4, .inr (.inr (.inr (.inr (va_up (va_up (fun _ => none) 0 (some q39)) 1 (some q49)))))))] ++ MA q39 (-5) 0 0 ++ MA q49 (-5) 0 0 ++ [(q59, .inr (3, [.int 0, .int 0, .int 0]))]) := hD
  refine W.widen (k := 7) (n := 25) (by omega) (by omega) ?_
  refine lv_dup hx hb dX2_init_62 rfl ?_
  have hW : BW G A [[(h, .inr (2, [.ref q6, .null, .null, .int 0, .int 0, .int 0, .int 0, .int 0, .int 0, .int 0, .int 0, .int 0, .int 0, .int 0]))], [(q6, .inl (G.2 2, 2, .inr (.inr (.inr (.inr (va_up (va_up (fun _ => none) 0 (some q11)) 1 (some q21)))))))], BL q11 0 (nI 100) 0 0 0, BL q21 0 (nI 100) 0 0 0, [(q34, .inl (G.2 3, 4, .inr (.inr (.inr (.inr (va_up (va_up (fun _ => none) 0 (some q39)) 1 (some q49)))))))], MA q39 (-5) 0 0, MA q49 (-5) 0 0, [(q59, .inr (3, [.int 0, .int 0, .int 0]))]] H := BW.of hP hD
  refine gcallB_V (bc := [[(q59, .inr (3, [.int 0, .int 0, .int 0]))]]) (runB_I (As := []) (rest := [.ref q59, .int (nI 2), .ref q34, .ref q34, .ref h]) (bc := [[(q59, .inr (3, [.int 0, .int 0, .int 0]))]]) C0 hK hW (c_X3_init l G q59 H.size) (cwI 0 hts gX2_init_X3_init rfl rfl rfl (hts (.initialized RX3) (by decide +kernel)) (hts (.methodLink RX2 20 yX3_init) (by decide +kernel)) (hts (.instanceMethod yX3_init) (by decide +kernel)) rfl (by decide +kernel) ⟨Nat.le_of_ble_eq_true rfl, Nat.le_of_ble_eq_true rfl⟩) [7] rfl rfl rfl rfl hl.1 rfl (Nat.le_of_ble_eq_true rfl) dX2_init_63 ⟨Nat.le_of_ble_eq_true rfl, Nat.le_of_ble_eq_true rfl⟩) hW hS hA [7] rfl rfl rfl (fun _ => [MA q59 (-5) 0 0]) (fun _ => rfl) (fun _ => rfl) (fun u5 H locs hw5 hW hS => ?_)
  obtain ⟨hP, hD⟩ := hW.flat
  have hP : va_P G.1 vwCl ([(h, .inr (2, [.ref q6, .null, .null, .int 0, .int 0, .int 0, .int 0, .int 0, .int 0, .int 0, .int 0, .int 0, .int 0, .int 0]))] ++ [(q6, .inl (G.2 2, 2, .inr (.inr (.inr (.inr (va_up (va_up (fun _ => none) 0 (some q11)) 1 (some q21)))))))] ++ BL q11 0 (nI 100) 0 0 0 ++ BL q21 0 (nI 100) 0 0 0 ++ [(q34, .inl (G.2 3, 4, .inr (.inr (.inr (.inr (va_up (va_up (fun _ => none) 0 (some q39)) 1 (some q49)))))))] ++ MA q39 (-5) 0 0 ++ MA q49 (-5) 0 0 ++ MA q59 (-5) 0 0) H := hP
  have hD : va_D A ([(h, .inr (2, [.ref q6, .null, .null, .int 0, .int 0, .int 0, .int 0, .int 0, .int 0, .int 0, .int 0, .int 0, .int 0, .int 0]))] ++ [(q6, .inl (G.2 2, 2, .inr (.inr (.inr (.inr (va_up (va_up (fun _ => none) 0 (some q11)) 1 (some q21)))))))] ++ BL q11 0 (nI 100) 0 0 0 ++ BL q21 0 (nI 100) 0 0 0 ++ [(q34, .inl (G.2 3, 4, .inr (.inr (.inr (.inr (va_up (va_up (fun _ => none) 0 (some q39)) 1 (some q49)))))))] ++ MA q39 (-5) 0 0 ++ MA q49 (-5) 0 0 ++ MA q59 (-5) 0 0) := hD
  refine W.widen (k := 7) (n := 25) (by omega) (by omega) ?_
  refine n_aast (j := 2) (ci := 3) hx hb hK.1 hP hD hS 4 3 7 rfl rfl rfl rfl (by decide) (by decide) dX2_init_66 (fun H locs hP hD hS => ?_)
  have hP : va_P G.1 vwCl ([(h, .inr (2, [.ref q6, .null, .null, .int 0, .int 0, .int 0, .int 0, .int 0, .int 0, .int 0, .int 0, .int 0, .int 0, .int 0]))] ++ [(q6, .inl (G.2 2, 2, .inr (.inr (.inr (.inr (va_up (va_up (fun _ => none) 0 (some q11)) 1 (some q21)))))))] ++ BL q11 0 (nI 100) 0 0 0 ++ BL q21 0 (nI 100) 0 0 0 ++ [(q34, .inl (G.2 3, 4, .inr (.inr (.inr (.inr (va_up (va_up (va_up (fun _ => none) 0 (some q39)) 1 (some q49)) 2 (some q59)))))))] ++ MA q39 (-5) 0 0 ++ MA q49 (-5) 0 0 ++ MA q59 (-5) 0 0) H := hP
  have hD : va_D A ([(h, .inr (2, [.ref q6, .null, .null, .int 0, .int 0, .int 0, .int 0, .int 0, .int 0, .int 0, .int 0, .int 0, .int 0, .int 0]))] ++ [(q6, .inl (G.2 2, 2, .inr (.inr (.inr (.inr (va_up (va_up (fun _ => none) 0 (some q11)) 1 (some q21)))))))] ++ BL q11 0 (nI 100) 0 0 0 ++ BL q21 0 (nI 100) 0 0 0 ++ [(q34, .inl (G.2 3, 4, .inr (.inr (.inr (.inr (va_up (va_up (va_up (fun _ => none) 0 (some q39)) 1 (some q49)) 2 (some q59)))))))] ++ MA q39 (-5) 0 0 ++ MA q49 (-5) 0 0 ++ MA q59 (-5) 0 0) := hD
  refine lv_dup hx hb dX2_init_67 rfl ?_
  refine lv_iconst (v := (nI 3)) hx hb dX2_init_68 (by decide) ?_
  refine va_new (D := G.1) (ci := 3) (fs := [.int 0, .int 0, .int 0]) (C := RX3) (T := TX3) (N := 3) hx hb hts in_X2_init_RX3 tyX3 tyX3_ok hown (hts (.classLink RX2 18 RX3) (by decide +kernel)) (hts (.instantiable RX3 3) (by decide +kernel)) (hts (.initialized RX3) (by decide +kernel)) hK.1.1 hP hD hS hA rfl (fun j hj => def_X3 j hj) (Nat.le_of_ble_eq_true rfl) (Nat.le_of_ble_eq_true rfl) dX2_init_69 (fun q69 H hP hD hS => ?_)
  have hP : va_P G.1 vwCl ([(h, .inr (2, [.ref q6, .null, .null, .int 0, .int 0, .int 0, .int 0, .int 0, .int 0, .int 0, .int 0, .int 0, .int 0, .int 0]))] ++ [(q6, .inl (G.2 2, 2, .inr (.inr (.inr (.inr (va_up (va_up (fun _ => none) 0 (some q11)) 1 (some q21)))))))] ++ BL q11 0 (nI 100) 0 0 0 ++ BL q21 0 (nI 100) 0 0 0 ++ [(q34, .inl (G.2 3, 4, .inr (.inr (.inr (.inr (va_up (va_up (va_up (fun _ => none) 0 (some q39)) 1 (some q49)) 2 (some q59)))))))] ++ MA q39 (-5) 0 0 ++ MA q49 (-5) 0 0 ++ MA q59 (-5) 0 0 ++ [(q69, .inr (3, [.int 0, .int 0, .int 0]))]) H := hP
  have hD : va_D A ([(h, .inr (2, [.ref q6, .null, .null, .int 0, .int 0, .int 0, .int 0, .int 0, .int 0, .int 0, .int 0, .int 0, .int 0, .int 0]))] ++ [(q6, .inl (G.2 2, 2, .inr (.inr (.inr (.inr (va_up (va_up (fun _ => none) 0 (some q11)) 1 (some q21)))))))] ++ BL q11 0 (nI 100) 0 0 0 ++ BL q21 0 (nI 100) 0 0 0 ++ [(q34, .inl (G.2 3, 4, .inr (.inr (.inr (.inr (va_up (va_up (va_up (fun _ => none) 0 (some q39)) 1 (some q49)) 2 (some q59)))))))] ++ MA q39 (-5) 0 0 ++ MA q49 (-5) 0 0 ++ MA q59 (-5) 0 0 ++ [(q69, .inr (3, [.int 0, .int 0, .int 0]))]) := hD
  refine W.widen (k := 8) (n := 28) (by omega) (by omega) ?_
  refine lv_dup hx hb dX2_init_72 rfl ?_
  have hW : BW G A [[(h, .inr (2, [.ref q6, .null, .null, .int 0, .int 0, .int 0, .int 0, .int 0, .int 0, .int 0, .int 0, .int 0, .int 0, .int 0]))], [(q6, .inl (G.2 2, 2, .inr (.inr (.inr (.inr (va_up (va_up (fun _ => none) 0 (some q11)) 1 (some q21)))))))], BL q11 0 (nI 100) 0 0 0, BL q21 0 (nI 100) 0 0 0, [(q34, .inl (G.2 3, 4, .inr (.inr (.inr (.inr (va_up (va_up (va_up (fun _ => none) 0 (some q39)) 1 (some q49)) 2 (some q59)))))))], MA q39 (-5) 0 0, MA q49 (-5) 0 0, MA q59 (-5) 0 0, [(q69, .inr (3, [.int 0, .int 0, .int 0]))]] H := BW.of hP hD
  refine gcallB_V (bc := [[(q69, .inr (3, [.int 0, .int 0, .int 0]))]]) (runB_I (As := []) (rest := [.ref q69, .int (nI 3), .ref q34, .ref q34, .ref h]) (bc := [[(q69, .inr (3, [.int 0, .int 0, .int 0]))]]) C0 hK hW (c_X3_init l G q69 H.size) (cwI 0 hts gX2_init_X3_init rfl rfl rfl (hts (.initialized RX3) (by decide +kernel)) (hts (.methodLink RX2 20 yX3_init) (by decide +kernel)) (hts (.instanceMethod yX3_init) (by decide +kernel)) rfl (by decide +kernel) ⟨Nat.le_of_ble_eq_true rfl, Nat.le_of_ble_eq_true rfl⟩) [8] rfl rfl rfl rfl hl.1 rfl (Nat.le_of_ble_eq_true rfl) dX2_init_73 ⟨Nat.le_of_ble_eq_true rfl, Nat.le_of_ble_eq_true rfl⟩) hW hS hA [8] rfl rfl rfl (fun _ => [MA q69 (-5) 0 0]) (fun _ => rfl) (fun _ => rfl) (fun u6 H locs hw6 hW hS => ?_)
  obtain ⟨hP, hD⟩ := hW.flat
  have hP : va_P G.1 vwCl ([(h, .inr (2, [.ref q6, .null, .null, .int 0, .int 0, .int 0, .int 0, .int 0, .int 0, .int 0, .int 0, .int 0, .int 0, .int 0]))] ++ [(q6, .inl (G.2 2, 2, .inr (.inr (.inr (.inr (va_up (va_up (fun _ => none) 0 (some q11)) 1 (some q21)))))))] ++ BL q11 0 (nI 100) 0 0 0 ++ BL q21 0 (nI 100) 0 0 0 ++ [(q34, .inl (G.2 3, 4, .inr (.inr (.inr (.inr (va_up (va_up (va_up (fun _ => none) 0 (some q39)) 1 (some q49)) 2 (some q59)))))))] ++ MA q39 (-5) 0 0 ++ MA q49 (-5) 0 0 ++ MA q59 (-5) 0 0 ++ MA q69 (-5) 0 0) H := hP
  have hD : va_D A ([(h, .inr (2, [.ref q6, .null, .null, .int 0, .int 0, .int 0, .int 0, .int 0, .int 0, .int 0, .int 0, .int 0, .int 0, .int 0]))] ++ [(q6, .inl (G.2 2, 2, .inr (.inr (.inr (.inr (va_up (va_up (fun _ => none) 0 (some q11)) 1 (some q21)))))))] ++ BL q11 0 (nI 100) 0 0 0 ++ BL q21 0 (nI 100) 0 0 0 ++ [(q34, .inl (G.2 3, 4, .inr (.inr (.inr (.inr (va_up (va_up (va_up (fun _ => none) 0 (some q39)) 1 (some q49)) 2 (some q59)))))))] ++ MA q39 (-5) 0 0 ++ MA q49 (-5) 0 0 ++ MA q59 (-5) 0 0 ++ MA q69 (-5) 0 0) := hD
  refine W.widen (k := 8) (n := 28) (by omega) (by omega) ?_
  refine n_aast (j := 3) (ci := 3) hx hb hK.1 hP hD hS 4 3 8 rfl rfl rfl rfl (by decide) (by decide) dX2_init_76 (fun H locs hP hD hS => ?_)
  have hP : va_P G.1 vwCl ([(h, .inr (2, [.ref q6, .null, .null, .int 0, .int 0, .int 0, .int 0, .int 0, .int 0, .int 0, .int 0, .int 0, .int 0, .int 0]))] ++ [(q6, .inl (G.2 2, 2, .inr (.inr (.inr (.inr (va_up (va_up (fun _ => none) 0 (some q11)) 1 (some q21)))))))] ++ BL q11 0 (nI 100) 0 0 0 ++ BL q21 0 (nI 100) 0 0 0 ++ [(q34, .inl (G.2 3, 4, .inr (.inr (.inr (.inr (va_up (va_up (va_up (va_up (fun _ => none) 0 (some q39)) 1 (some q49)) 2 (some q59)) 3 (some q69)))))))] ++ MA q39 (-5) 0 0 ++ MA q49 (-5) 0 0 ++ MA q59 (-5) 0 0 ++ MA q69 (-5) 0 0) H := hP
  have hD : va_D A ([(h, .inr (2, [.ref q6, .null, .null, .int 0, .int 0, .int 0, .int 0, .int 0, .int 0, .int 0, .int 0, .int 0, .int 0, .int 0]))] ++ [(q6, .inl (G.2 2, 2, .inr (.inr (.inr (.inr (va_up (va_up (fun _ => none) 0 (some q11)) 1 (some q21)))))))] ++ BL q11 0 (nI 100) 0 0 0 ++ BL q21 0 (nI 100) 0 0 0 ++ [(q34, .inl (G.2 3, 4, .inr (.inr (.inr (.inr (va_up (va_up (va_up (va_up (fun _ => none) 0 (some q39)) 1 (some q49)) 2 (some q59)) 3 (some q69)))))))] ++ MA q39 (-5) 0 0 ++ MA q49 (-5) 0 0 ++ MA q59 (-5) 0 0 ++ MA q69 (-5) 0 0) := hD
  refine va_putF (D := G.1) (ci := 2) (v := .ref q34) (ty := tyX2 1) (C := RX2) (T := TX2) (N := 14) hx hb hts in_X2_init_RX2 tyX2 tyX2_ok nmX2 hown hK.1.1 hP hD hS 0 rfl rfl 1 (by decide) (hts (.fieldLink RX2 21 "SteamRations$Laundry" "machines" "[LSteamRations$Machine;") (by decide +kernel)) (fun _ h9 => h9) rfl hin rfl (tyX2_ok 1 (by decide)) rfl rfl (Nat.le_of_ble_eq_true rfl) dX2_init_77 (fun H locs hP hD hS => ?_)
  have hP : va_P G.1 vwCl ([(h, .inr (2, [.ref q6, .ref q34, .null, .int 0, .int 0, .int 0, .int 0, .int 0, .int 0, .int 0, .int 0, .int 0, .int 0, .int 0]))] ++ [(q6, .inl (G.2 2, 2, .inr (.inr (.inr (.inr (va_up (va_up (fun _ => none) 0 (some q11)) 1 (some q21)))))))] ++ BL q11 0 (nI 100) 0 0 0 ++ BL q21 0 (nI 100) 0 0 0 ++ [(q34, .inl (G.2 3, 4, .inr (.inr (.inr (.inr (va_up (va_up (va_up (va_up (fun _ => none) 0 (some q39)) 1 (some q49)) 2 (some q59)) 3 (some q69)))))))] ++ MA q39 (-5) 0 0 ++ MA q49 (-5) 0 0 ++ MA q59 (-5) 0 0 ++ MA q69 (-5) 0 0) H := hP
  have hD : va_D A ([(h, .inr (2, [.ref q6, .ref q34, .null, .int 0, .int 0, .int 0, .int 0, .int 0, .int 0, .int 0, .int 0, .int 0, .int 0, .int 0]))] ++ [(q6, .inl (G.2 2, 2, .inr (.inr (.inr (.inr (va_up (va_up (fun _ => none) 0 (some q11)) 1 (some q21)))))))] ++ BL q11 0 (nI 100) 0 0 0 ++ BL q21 0 (nI 100) 0 0 0 ++ [(q34, .inl (G.2 3, 4, .inr (.inr (.inr (.inr (va_up (va_up (va_up (va_up (fun _ => none) 0 (some q39)) 1 (some q49)) 2 (some q59)) 3 (some q69)))))))] ++ MA q39 (-5) 0 0 ++ MA q49 (-5) 0 0 ++ MA q59 (-5) 0 0 ++ MA q69 (-5) 0 0) := hD
  refine lv_aload_n hx hb dX2_init_80 rfl (lv_at hl 0 rfl) ?_
  refine va_new (D := G.1) (ci := 5) (fs := [.null, .int 0]) (C := RX5) (T := TX5) (N := 2) hx hb hts in_X2_init_RX5 tyX5 tyX5_ok hown (hts (.classLink RX2 25 RX5) (by decide +kernel)) (hts (.instantiable RX5 2) (by decide +kernel)) (hts (.initialized RX5) (by decide +kernel)) hK.1.1 hP hD hS hA rfl (fun j hj => def_X5 j hj) (Nat.le_of_ble_eq_true rfl) (Nat.le_of_ble_eq_true rfl) dX2_init_81 (fun q81 H hP hD hS => ?_)
  have hP : va_P G.1 vwCl ([(h, .inr (2, [.ref q6, .ref q34, .null, .int 0, .int 0, .int 0, .int 0, .int 0, .int 0, .int 0, .int 0, .int 0, .int 0, .int 0]))] ++ [(q6, .inl (G.2 2, 2, .inr (.inr (.inr (.inr (va_up (va_up (fun _ => none) 0 (some q11)) 1 (some q21)))))))] ++ BL q11 0 (nI 100) 0 0 0 ++ BL q21 0 (nI 100) 0 0 0 ++ [(q34, .inl (G.2 3, 4, .inr (.inr (.inr (.inr (va_up (va_up (va_up (va_up (fun _ => none) 0 (some q39)) 1 (some q49)) 2 (some q59)) 3 (some q69)))))))] ++ MA q39 (-5) 0 0 ++ MA q49 (-5) 0 0 ++ MA q59 (-5) 0 0 ++ MA q69 (-5) 0 0 ++ [(q81, .inr (5, [.null, .int 0]))]) H := hP
  have hD : va_D A ([(h, .inr (2, [.ref q6, .ref q34, .null, .int 0, .int 0, .int 0, .int 0, .int 0, .int 0, .int 0, .int 0, .int 0, .int 0, .int 0]))] ++ [(q6, .inl (G.2 2, 2, .inr (.inr (.inr (.inr (va_up (va_up (fun _ => none) 0 (some q11)) 1 (some q21)))))))] ++ BL q11 0 (nI 100) 0 0 0 ++ BL q21 0 (nI 100) 0 0 0 ++ [(q34, .inl (G.2 3, 4, .inr (.inr (.inr (.inr (va_up (va_up (va_up (va_up (fun _ => none) 0 (some q39)) 1 (some q49)) 2 (some q59)) 3 (some q69)))))))] ++ MA q39 (-5) 0 0 ++ MA q49 (-5) 0 0 ++ MA q59 (-5) 0 0 ++ MA q69 (-5) 0 0 ++ [(q81, .inr (5, [.null, .int 0]))]) := hD
  refine W.widen (k := 9) (n := 30) (by omega) (by omega) ?_
  refine lv_dup hx hb dX2_init_84 rfl ?_
  have hW : BW G A [[(h, .inr (2, [.ref q6, .ref q34, .null, .int 0, .int 0, .int 0, .int 0, .int 0, .int 0, .int 0, .int 0, .int 0, .int 0, .int 0]))], [(q6, .inl (G.2 2, 2, .inr (.inr (.inr (.inr (va_up (va_up (fun _ => none) 0 (some q11)) 1 (some q21)))))))], BL q11 0 (nI 100) 0 0 0, BL q21 0 (nI 100) 0 0 0, [(q34, .inl (G.2 3, 4, .inr (.inr (.inr (.inr (va_up (va_up (va_up (va_up (fun _ => none) 0 (some q39)) 1 (some q49)) 2 (some q59)) 3 (some q69)))))))], MA q39 (-5) 0 0, MA q49 (-5) 0 0, MA q59 (-5) 0 0, MA q69 (-5) 0 0, [(q81, .inr (5, [.null, .int 0]))]] H := BW.of hP hD
  refine gcallB_V (bc := [[(q81, .inr (5, [.null, .int 0]))]]) (runB_I (As := []) (rest := [.ref q81, .ref h]) (bc := [[(q81, .inr (5, [.null, .int 0]))]]) C0 hK hW (c_X5_init l G q81 H.size) (cwI 0 hts gX2_init_X5_init rfl rfl rfl (hts (.initialized RX5) (by decide +kernel)) (hts (.methodLink RX2 27 yX5_init) (by decide +kernel)) (hts (.instanceMethod yX5_init) (by decide +kernel)) rfl (by decide +kernel) ⟨Nat.le_of_ble_eq_true rfl, Nat.le_of_ble_eq_true rfl⟩) [9] rfl rfl rfl rfl hl.1 rfl (Nat.le_of_ble_eq_true rfl) dX2_init_85 ⟨Nat.le_of_ble_eq_true rfl, Nat.le_of_ble_eq_true rfl⟩) hW hS hA [9] rfl rfl rfl (fun u => [LN G q81 u 0 qI]) (fun _ => rfl) (fun _ => rfl) (fun u7 H locs hw7 hW hS => ?_)
  obtain ⟨hP, hD⟩ := hW.flat
  have hP : va_P G.1 vwCl ([(h, .inr (2, [.ref q6, .ref q34, .null, .int 0, .int 0, .int 0, .int 0, .int 0, .int 0, .int 0, .int 0, .int 0, .int 0, .int 0]))] ++ [(q6, .inl (G.2 2, 2, .inr (.inr (.inr (.inr (va_up (va_up (fun _ => none) 0 (some q11)) 1 (some q21)))))))] ++ BL q11 0 (nI 100) 0 0 0 ++ BL q21 0 (nI 100) 0 0 0 ++ [(q34, .inl (G.2 3, 4, .inr (.inr (.inr (.inr (va_up (va_up (va_up (va_up (fun _ => none) 0 (some q39)) 1 (some q49)) 2 (some q59)) 3 (some q69)))))))] ++ MA q39 (-5) 0 0 ++ MA q49 (-5) 0 0 ++ MA q59 (-5) 0 0 ++ MA q69 (-5) 0 0 ++ LN G q81 u7 0 qI) H := hP
  have hD : va_D A ([(h, .inr (2, [.ref q6, .ref q34, .null, .int 0, .int 0, .int 0, .int 0, .int 0, .int 0, .int 0, .int 0, .int 0, .int 0, .int 0]))] ++ [(q6, .inl (G.2 2, 2, .inr (.inr (.inr (.inr (va_up (va_up (fun _ => none) 0 (some q11)) 1 (some q21)))))))] ++ BL q11 0 (nI 100) 0 0 0 ++ BL q21 0 (nI 100) 0 0 0 ++ [(q34, .inl (G.2 3, 4, .inr (.inr (.inr (.inr (va_up (va_up (va_up (va_up (fun _ => none) 0 (some q39)) 1 (some q49)) 2 (some q59)) 3 (some q69)))))))] ++ MA q39 (-5) 0 0 ++ MA q49 (-5) 0 0 ++ MA q59 (-5) 0 0 ++ MA q69 (-5) 0 0 ++ LN G q81 u7 0 qI) := hD
  refine W.widen (k := 10) (n := 42) (by omega) (by omega) ?_
  refine va_putF (D := G.1) (ci := 2) (v := .ref q81) (ty := tyX2 2) (C := RX2) (T := TX2) (N := 14) hx hb hts in_X2_init_RX2 tyX2 tyX2_ok nmX2 hown hK.1.1 hP hD hS 0 rfl rfl 2 (by decide) (hts (.fieldLink RX2 28 "SteamRations$Laundry" "waiting" "LSteamRations$WaitingLine;") (by decide +kernel)) (fun _ h9 => h9) rfl hin rfl (tyX2_ok 2 (by decide)) rfl rfl (Nat.le_of_ble_eq_true rfl) dX2_init_88 (fun H locs hP hD hS => ?_)
  have hP : va_P G.1 vwCl ([(h, .inr (2, [.ref q6, .ref q34, .ref q81, .int 0, .int 0, .int 0, .int 0, .int 0, .int 0, .int 0, .int 0, .int 0, .int 0, .int 0]))] ++ [(q6, .inl (G.2 2, 2, .inr (.inr (.inr (.inr (va_up (va_up (fun _ => none) 0 (some q11)) 1 (some q21)))))))] ++ BL q11 0 (nI 100) 0 0 0 ++ BL q21 0 (nI 100) 0 0 0 ++ [(q34, .inl (G.2 3, 4, .inr (.inr (.inr (.inr (va_up (va_up (va_up (va_up (fun _ => none) 0 (some q39)) 1 (some q49)) 2 (some q59)) 3 (some q69)))))))] ++ MA q39 (-5) 0 0 ++ MA q49 (-5) 0 0 ++ MA q59 (-5) 0 0 ++ MA q69 (-5) 0 0 ++ LN G q81 u7 0 qI) H := hP
  have hD : va_D A ([(h, .inr (2, [.ref q6, .ref q34, .ref q81, .int 0, .int 0, .int 0, .int 0, .int 0, .int 0, .int 0, .int 0, .int 0, .int 0, .int 0]))] ++ [(q6, .inl (G.2 2, 2, .inr (.inr (.inr (.inr (va_up (va_up (fun _ => none) 0 (some q11)) 1 (some q21)))))))] ++ BL q11 0 (nI 100) 0 0 0 ++ BL q21 0 (nI 100) 0 0 0 ++ [(q34, .inl (G.2 3, 4, .inr (.inr (.inr (.inr (va_up (va_up (va_up (va_up (fun _ => none) 0 (some q39)) 1 (some q49)) 2 (some q59)) 3 (some q69)))))))] ++ MA q39 (-5) 0 0 ++ MA q49 (-5) 0 0 ++ MA q59 (-5) 0 0 ++ MA q69 (-5) 0 0 ++ LN G q81 u7 0 qI) := hD
  refine lv_aload_n hx hb dX2_init_91 rfl (lv_at hl 0 rfl) ?_
  refine lv_bipush (v := (nI 50)) hx hb dX2_init_92 (by decide) ?_
  refine va_put (D := G.1) (ci := 2) (v := .int (nI 50)) (ty := tyX2 7) (C := RX2) (T := TX2) (N := 14) hx hb hts in_X2_init_RX2 tyX2 tyX2_ok nmX2 hown hK.1.1 hP hD hS 0 rfl rfl 7 (by decide) (hts (.fieldLink RX2 32 "SteamRations$Laundry" "coal" "I") (by decide +kernel)) (fun _ h9 => h9) rfl (tyX2_ok 7 (by decide)) rfl rfl (Nat.le_of_ble_eq_true rfl) dX2_init_94 (fun H locs hP hD hS => ?_)
  have hP : va_P G.1 vwCl ([(h, .inr (2, [.ref q6, .ref q34, .ref q81, .int 0, .int 0, .int 0, .int 0, .int (nI 50), .int 0, .int 0, .int 0, .int 0, .int 0, .int 0]))] ++ [(q6, .inl (G.2 2, 2, .inr (.inr (.inr (.inr (va_up (va_up (fun _ => none) 0 (some q11)) 1 (some q21)))))))] ++ BL q11 0 (nI 100) 0 0 0 ++ BL q21 0 (nI 100) 0 0 0 ++ [(q34, .inl (G.2 3, 4, .inr (.inr (.inr (.inr (va_up (va_up (va_up (va_up (fun _ => none) 0 (some q39)) 1 (some q49)) 2 (some q59)) 3 (some q69)))))))] ++ MA q39 (-5) 0 0 ++ MA q49 (-5) 0 0 ++ MA q59 (-5) 0 0 ++ MA q69 (-5) 0 0 ++ LN G q81 u7 0 qI) H := hP
  have hD : va_D A ([(h, .inr (2, [.ref q6, .ref q34, .ref q81, .int 0, .int 0, .int 0, .int 0, .int (nI 50), .int 0, .int 0, .int 0, .int 0, .int 0, .int 0]))] ++ [(q6, .inl (G.2 2, 2, .inr (.inr (.inr (.inr (va_up (va_up (fun _ => none) 0 (some q11)) 1 (some q21)))))))] ++ BL q11 0 (nI 100) 0 0 0 ++ BL q21 0 (nI 100) 0 0 0 ++ [(q34, .inl (G.2 3, 4, .inr (.inr (.inr (.inr (va_up (va_up (va_up (va_up (fun _ => none) 0 (some q39)) 1 (some q49)) 2 (some q59)) 3 (some q69)))))))] ++ MA q39 (-5) 0 0 ++ MA q49 (-5) 0 0 ++ MA q59 (-5) 0 0 ++ MA q69 (-5) 0 0 ++ LN G q81 u7 0 qI) := hD
  refine lv_aload_n hx hb dX2_init_97 rfl (lv_at hl 0 rfl) ?_
  refine lv_bipush (v := (nI 40)) hx hb dX2_init_98 (by decide) ?_
  refine va_put (D := G.1) (ci := 2) (v := .int (nI 40)) (ty := tyX2 8) (C := RX2) (T := TX2) (N := 14) hx hb hts in_X2_init_RX2 tyX2 tyX2_ok nmX2 hown hK.1.1 hP hD hS 0 rfl rfl 8 (by decide) (hts (.fieldLink RX2 36 "SteamRations$Laundry" "ration" "I") (by decide +kernel)) (fun _ h9 => h9) rfl (tyX2_ok 8 (by decide)) rfl rfl (Nat.le_of_ble_eq_true rfl) dX2_init_100 (fun H locs hP hD hS => ?_)
  have hP : va_P G.1 vwCl ([(h, .inr (2, [.ref q6, .ref q34, .ref q81, .int 0, .int 0, .int 0, .int 0, .int (nI 50), .int (nI 40), .int 0, .int 0, .int 0, .int 0, .int 0]))] ++ [(q6, .inl (G.2 2, 2, .inr (.inr (.inr (.inr (va_up (va_up (fun _ => none) 0 (some q11)) 1 (some q21)))))))] ++ BL q11 0 (nI 100) 0 0 0 ++ BL q21 0 (nI 100) 0 0 0 ++ [(q34, .inl (G.2 3, 4, .inr (.inr (.inr (.inr (va_up (va_up (va_up (va_up (fun _ => none) 0 (some q39)) 1 (some q49)) 2 (some q59)) 3 (some q69)))))))] ++ MA q39 (-5) 0 0 ++ MA q49 (-5) 0 0 ++ MA q59 (-5) 0 0 ++ MA q69 (-5) 0 0 ++ LN G q81 u7 0 qI) H := hP
  have hD : va_D A ([(h, .inr (2, [.ref q6, .ref q34, .ref q81, .int 0, .int 0, .int 0, .int 0, .int (nI 50), .int (nI 40), .int 0, .int 0, .int 0, .int 0, .int 0]))] ++ [(q6, .inl (G.2 2, 2, .inr (.inr (.inr (.inr (va_up (va_up (fun _ => none) 0 (some q11)) 1 (some q21)))))))] ++ BL q11 0 (nI 100) 0 0 0 ++ BL q21 0 (nI 100) 0 0 0 ++ [(q34, .inl (G.2 3, 4, .inr (.inr (.inr (.inr (va_up (va_up (va_up (va_up (fun _ => none) 0 (some q39)) 1 (some q49)) 2 (some q59)) 3 (some q69)))))))] ++ MA q39 (-5) 0 0 ++ MA q49 (-5) 0 0 ++ MA q59 (-5) 0 0 ++ MA q69 (-5) 0 0 ++ LN G q81 u7 0 qI) := hD
  have hP : va_P G.1 vwCl ([(h, .inr (2, [.ref q6, .ref q34, .ref q81, .int 0, .int 0, .int 0, .int 0, .int (nI 50), .int (nI 40), .int 0, .int 0, .int 0, .int 0, .int 0]))] ++ [(q6, .inl (G.2 2, 2, .inr (.inr (.inr (.inr (bref (ad11 h q6 q11 q21 q34 q39 q49 q59 q69 q81 u7)))))))] ++ BL q11 0 (nI 100) 0 0 0 ++ BL q21 0 (nI 100) 0 0 0 ++ [(q34, .inl (G.2 3, 4, .inr (.inr (.inr (.inr (va_up (va_up (va_up (va_up (fun _ => none) 0 (some q39)) 1 (some q49)) 2 (some q59)) 3 (some q69)))))))] ++ MA q39 (-5) 0 0 ++ MA q49 (-5) 0 0 ++ MA q59 (-5) 0 0 ++ MA q69 (-5) 0 0 ++ LN G q81 u7 0 qI) H := va_P_arrq (k := 1) (bref_0 q11 q21 (ad11 h q6 q11 q21 q34 q39 q49 q59 q69 q81 u7) rfl rfl) hP rfl rfl
  have hD : va_D A ([(h, .inr (2, [.ref q6, .ref q34, .ref q81, .int 0, .int 0, .int 0, .int 0, .int (nI 50), .int (nI 40), .int 0, .int 0, .int 0, .int 0, .int 0]))] ++ [(q6, .inl (G.2 2, 2, .inr (.inr (.inr (.inr (bref (ad11 h q6 q11 q21 q34 q39 q49 q59 q69 q81 u7)))))))] ++ BL q11 0 (nI 100) 0 0 0 ++ BL q21 0 (nI 100) 0 0 0 ++ [(q34, .inl (G.2 3, 4, .inr (.inr (.inr (.inr (va_up (va_up (va_up (va_up (fun _ => none) 0 (some q39)) 1 (some q49)) 2 (some q59)) 3 (some q69)))))))] ++ MA q39 (-5) 0 0 ++ MA q49 (-5) 0 0 ++ MA q59 (-5) 0 0 ++ MA q69 (-5) 0 0 ++ LN G q81 u7 0 qI) := va_D_arr (k := 1) hD rfl rfl
  have hP : va_P G.1 vwCl ([(h, .inr (2, [.ref q6, .ref q34, .ref q81, .int 0, .int 0, .int 0, .int 0, .int (nI 50), .int (nI 40), .int 0, .int 0, .int 0, .int 0, .int 0]))] ++ [(q6, .inl (G.2 2, 2, .inr (.inr (.inr (.inr (bref (ad11 h q6 q11 q21 q34 q39 q49 q59 q69 q81 u7)))))))] ++ BL q11 0 (nI 100) 0 0 0 ++ BL q21 0 (nI 100) 0 0 0 ++ [(q34, .inl (G.2 3, 4, .inr (.inr (.inr (.inr (mref (ad11 h q6 q11 q21 q34 q39 q49 q59 q69 q81 u7)))))))] ++ MA q39 (-5) 0 0 ++ MA q49 (-5) 0 0 ++ MA q59 (-5) 0 0 ++ MA q69 (-5) 0 0 ++ LN G q81 u7 0 qI) H := va_P_arrq (k := 4) (mref_0 q39 q49 q59 q69 (ad11 h q6 q11 q21 q34 q39 q49 q59 q69 q81 u7) rfl rfl rfl rfl) hP rfl rfl
  have hD : va_D A ([(h, .inr (2, [.ref q6, .ref q34, .ref q81, .int 0, .int 0, .int 0, .int 0, .int (nI 50), .int (nI 40), .int 0, .int 0, .int 0, .int 0, .int 0]))] ++ [(q6, .inl (G.2 2, 2, .inr (.inr (.inr (.inr (bref (ad11 h q6 q11 q21 q34 q39 q49 q59 q69 q81 u7)))))))] ++ BL q11 0 (nI 100) 0 0 0 ++ BL q21 0 (nI 100) 0 0 0 ++ [(q34, .inl (G.2 3, 4, .inr (.inr (.inr (.inr (mref (ad11 h q6 q11 q21 q34 q39 q49 q59 q69 q81 u7)))))))] ++ MA q39 (-5) 0 0 ++ MA q49 (-5) 0 0 ++ MA q59 (-5) 0 0 ++ MA q69 (-5) 0 0 ++ LN G q81 u7 0 qI) := va_D_arr (k := 4) hD rfl rfl
  have hP : va_P G.1 vwCl (LC G (ad11 h q6 q11 q21 q34 q39 q49 q59 q69 q81 u7) vI qI) H := hP.sub [0, 1, 2, 3, 4, 5, 6, 7, 8, 9, 10] rfl
  have hD : va_D A (LC G (ad11 h q6 q11 q21 q34 q39 q49 q59 q69 q81 u7) vI qI) := hD.sub [0, 1, 2, 3, 4, 5, 6, 7, 8, 9, 10] (by decide) rfl
  exact end_V C0 hP hD hS ((ad11 h q6 q11 q21 q34 q39 q49 q59 q69 q81 u7)) (rfl) rfl dX2_init_103
set_option maxRecDepth 20000 in
theorem in_X1_init_RX2 : ∀ w ∈ u_ws RX2 TX2 14, w ∈ wsX1_init := by decide +kernel
set_option maxRecDepth 20000 in
theorem in_X1_init_RX1 : ∀ w ∈ u_ws RX1 TX1 2, w ∈ wsX1_init := by decide +kernel
set_option maxHeartbeats 8000000 in
set_option maxRecDepth 100000 in
theorem c_X1_init (l : Launch) (G : GG) (h : Nat) (sz : Nat) : Met l yX1_init wsX1_init ({ frames := 3, cells := 45, slots := 228, locals := 52 }) (PreA G [.ref h] ([(h, .inr (1, [.null, .int 0]))]) sz) (PV G (va_A ([(h, .inr (1, [.null, .int 0]))]) sz) (fun _ : Nat × (Nat → Nat → Nat) => True : (Nat × (Nat → Nat → Nat)) → Prop) (fun u => HB G h u.1 0 u.2 (fun _ => vI) (fun _ => qI))) 45 228 (va_A ([(h, .inr (1, [.null, .int 0]))]) sz) := by
  refine Met.walkA (cc := cX1_init) (maxL := 1) (ret := none) (Qc := fun A => PV G A (fun _ : Nat × (Nat → Nat → Nat) => True : (Nat × (Nat → Nat → Nat)) → Prop) (fun u => HB G h u.1 0 u.2 (fun _ => vI) (fun _ => qI))) (by decide) rfl (Nat.le_of_ble_eq_true rfl) ?_
  intro p e s m below meth c A H C0 hI0 hK hsz hP hD hA hS ls hl
  have hx := C0.1
  have hb := C0.2.1
  have hown : s.vm.findClass RX1 = some m.cls := C0.2.2.2.2.1
  have hml := C0.2.2.2.1
  have hin : meth.name = "<init>" := hI0 rfl
  have hts : ∀ w ∈ wsX1_init, w.before ([.ref h] : List Value).toArray s = true := C0.2.2.2.2.2.1
  have hl : lv_has ls 1 [(0, .ref h)] := hl
  have hP : va_P G.1 vwCl ([(h, .inr (1, [.null, .int 0]))]) H := hP
  have hD : va_D A ([(h, .inr (1, [.null, .int 0]))]) := hD
  refine lv_aload_n hx hb dX1_init_0 rfl (lv_at hl 0 rfl) ?_
  refine W.objInit hx hb hown (hts (.methodLink RX1 3 objectInit) (by decide +kernel)) (hts (.instanceMethod objectInit) (by decide +kernel)) (hts _ (List.mem_of_getElem? (i := 3) rfl)) rfl (by rw [hml]; exact hl.1) rfl dX1_init_1 (Nat.le_of_ble_eq_true rfl) (Nat.le_of_ble_eq_true rfl) ?_
  refine W.eq (g2 := F0 m 4 ls ([])) rfl ?_
  refine lv_aload_n hx hb dX1_init_4 rfl (lv_at hl 0 rfl) ?_
  refine lv_iconst (v := (nI 4)) hx hb dX1_init_5 (by decide) ?_
  refine va_newq (D := G.1) (n := nI 4) (N' := 4) hx hb hown (hts (.classLink RX1 9 RX2) (by decide +kernel)) hK.2.2.2 hK.1.1 hP hD hS hA (nI_pos (by decide)) (nI_clamp (by decide)) (Nat.le_of_ble_eq_true rfl) (Nat.le_of_ble_eq_true rfl) (Nat.le_of_ble_eq_true rfl) dX1_init_6 (fun q6 cA H hKx hP hD hS => ?_)
  have eA := ty_uni hKx 4 rfl
  subst eA
  have hP : va_P G.1 vwCl ([(h, .inr (1, [.null, .int 0]))] ++ [(q6, .inl (G.2 4, 4, .inr (.inr (.inr (.inr (fun _ => none))))))]) H := hP
  have hD : va_D A ([(h, .inr (1, [.null, .int 0]))] ++ [(q6, .inl (G.2 4, 4, .inr (.inr (.inr (.inr (fun _ => none))))))]) := hD
  refine W.widen (k := 1) (n := 4) (by omega) (by omega) ?_
  refine lv_dup hx hb dX1_init_9 rfl ?_
  refine lv_iconst (v := (nI 0)) hx hb dX1_init_10 (by decide) ?_
  refine va_new (D := G.1) (ci := 2) (fs := [.null, .null, .null, .int 0, .int 0, .int 0, .int 0, .int 0, .int 0, .int 0, .int 0, .int 0, .int 0, .int 0]) (C := RX2) (T := TX2) (N := 14) hx hb hts in_X1_init_RX2 tyX2 tyX2_ok hown (hts (.classLink RX1 9 RX2) (by decide +kernel)) (hts (.instantiable RX2 14) (by decide +kernel)) (hts (.initialized RX2) (by decide +kernel)) hK.1.1 hP hD hS hA rfl (fun j hj => def_X2 j hj) (Nat.le_of_ble_eq_true rfl) (Nat.le_of_ble_eq_true rfl) dX1_init_11 (fun q11 H hP hD hS => ?_)
  have hP : va_P G.1 vwCl ([(h, .inr (1, [.null, .int 0]))] ++ [(q6, .inl (G.2 4, 4, .inr (.inr (.inr (.inr (fun _ => none))))))] ++ [(q11, .inr (2, [.null, .null, .null, .int 0, .int 0, .int 0, .int 0, .int 0, .int 0, .int 0, .int 0, .int 0, .int 0, .int 0]))]) H := hP
  have hD : va_D A ([(h, .inr (1, [.null, .int 0]))] ++ [(q6, .inl (G.2 4, 4, .inr (.inr (.inr (.inr (fun _ => none))))))] ++ [(q11, .inr (2, [.null, .null, .null, .int 0, .int 0, .int 0, .int 0, .int 0, .int 0, .int 0, .int 0, .int 0, .int 0, .int 0]))]) := hD
  refine W.widen (k := 2) (n := 18) (by omega) (by omega) ?_
  refine lv_dup hx hb dX1_init_14 rfl ?_
  have hW : BW G A [[(h, .inr (1, [.null, .int 0]))], [(q6, .inl (G.2 4, 4, .inr (.inr (.inr (.inr (fun _ => none))))))], [(q11, .inr (2, [.null, .null, .null, .int 0, .int 0, .int 0, .int 0, .int 0, .int 0, .int 0, .int 0, .int 0, .int 0, .int 0]))]] H := BW.of hP hD
  refine gcallB_V (bc := [[(q11, .inr (2, [.null, .null, .null, .int 0, .int 0, .int 0, .int 0, .int 0, .int 0, .int 0, .int 0, .int 0, .int 0, .int 0]))]]) (runB_I (As := []) (rest := [.ref q11, .int (nI 0), .ref q6, .ref q6, .ref h]) (bc := [[(q11, .inr (2, [.null, .null, .null, .int 0, .int 0, .int 0, .int 0, .int 0, .int 0, .int 0, .int 0, .int 0, .int 0, .int 0]))]]) C0 hK hW (c_X2_init l G q11 H.size) (cwI 0 hts gX1_init_X2_init rfl rfl rfl (hts (.initialized RX2) (by decide +kernel)) (hts (.methodLink RX1 11 yX2_init) (by decide +kernel)) (hts (.instanceMethod yX2_init) (by decide +kernel)) rfl (by decide +kernel) ⟨Nat.le_of_ble_eq_true rfl, Nat.le_of_ble_eq_true rfl⟩) [2] rfl rfl rfl rfl hl.1 rfl (Nat.le_of_ble_eq_true rfl) dX1_init_15 ⟨Nat.le_of_ble_eq_true rfl, Nat.le_of_ble_eq_true rfl⟩) hW hS hA [2] rfl rfl rfl (fun u => [LC G u vI qI]) (fun _ => rfl) (fun _ => rfl) (fun u1 H locs hw1 hW hS => ?_)
  obtain ⟨hP, hD⟩ := hW.flat
  have hw1 : u1 0 = q11 := hw1
  subst hw1
  refine W.eq (g2 := F0 m 18 ls ([.ref (u1 0), .int (nI 0), .ref q6, .ref q6, .ref h])) rfl ?_
  have hP : va_P G.1 vwCl ([(h, .inr (1, [.null, .int 0]))] ++ [(q6, .inl (G.2 4, 4, .inr (.inr (.inr (.inr (fun _ => none))))))] ++ LC G u1 vI qI) H := hP
  have hD : va_D A ([(h, .inr (1, [.null, .int 0]))] ++ [(q6, .inl (G.2 4, 4, .inr (.inr (.inr (.inr (fun _ => none))))))] ++ LC G u1 vI qI) := hD
  refine W.widen (k := 12) (n := 60) (by omega) (by omega) ?_
  refine n_aast (j := 0) (ci := 2) hx hb hK.1 hP hD hS 1 4 2 rfl rfl rfl rfl (by decide) (by decide) dX1_init_18 (fun H locs hP hD hS => ?_)
  have hP : va_P G.1 vwCl ([(h, .inr (1, [.null, .int 0]))] ++ [(q6, .inl (G.2 4, 4, .inr (.inr (.inr (.inr (va_up (fun _ => none) 0 (some (u1 0))))))))] ++ LC G u1 vI qI) H := hP
  have hD : va_D A ([(h, .inr (1, [.null, .int 0]))] ++ [(q6, .inl (G.2 4, 4, .inr (.inr (.inr (.inr (va_up (fun _ => none) 0 (some (u1 0))))))))] ++ LC G u1 vI qI) := hD
  refine lv_dup hx hb dX1_init_19 rfl ?_
  refine lv_iconst (v := (nI 1)) hx hb dX1_init_20 (by decide) ?_
  refine va_new (D := G.1) (ci := 2) (fs := [.null, .null, .null, .int 0, .int 0, .int 0, .int 0, .int 0, .int 0, .int 0, .int 0, .int 0, .int 0, .int 0]) (C := RX2) (T := TX2) (N := 14) hx hb hts in_X1_init_RX2 tyX2 tyX2_ok hown (hts (.classLink RX1 9 RX2) (by decide +kernel)) (hts (.instantiable RX2 14) (by decide +kernel)) (hts (.initialized RX2) (by decide +kernel)) hK.1.1 hP hD hS hA rfl (fun j hj => def_X2 j hj) (Nat.le_of_ble_eq_true rfl) (Nat.le_of_ble_eq_true rfl) dX1_init_21 (fun q21 H hP hD hS => ?_)
  have hP : va_P G.1 vwCl ([(h, .inr (1, [.null, .int 0]))] ++ [(q6, .inl (G.2 4, 4, .inr (.inr (.inr (.inr (va_up (fun _ => none) 0 (some (u1 0))))))))] ++ LC G u1 vI qI ++ [(q21, .inr (2, [.null, .null, .null, .int 0, .int 0, .int 0, .int 0, .int 0, .int 0, .int 0, .int 0, .int 0, .int 0, .int 0]))]) H := hP
  have hD : va_D A ([(h, .inr (1, [.null, .int 0]))] ++ [(q6, .inl (G.2 4, 4, .inr (.inr (.inr (.inr (va_up (fun _ => none) 0 (some (u1 0))))))))] ++ LC G u1 vI qI ++ [(q21, .inr (2, [.null, .null, .null, .int 0, .int 0, .int 0, .int 0, .int 0, .int 0, .int 0, .int 0, .int 0, .int 0, .int 0]))]) := hD
  refine W.widen (k := 13) (n := 74) (by omega) (by omega) ?_
  refine lv_dup hx hb dX1_init_24 rfl ?_
  have hW : BW G A [[(h, .inr (1, [.null, .int 0]))], [(q6, .inl (G.2 4, 4, .inr (.inr (.inr (.inr (va_up (fun _ => none) 0 (some (u1 0))))))))], LC G u1 vI qI, [(q21, .inr (2, [.null, .null, .null, .int 0, .int 0, .int 0, .int 0, .int 0, .int 0, .int 0, .int 0, .int 0, .int 0, .int 0]))]] H := BW.of hP hD
  refine gcallB_V (bc := [[(q21, .inr (2, [.null, .null, .null, .int 0, .int 0, .int 0, .int 0, .int 0, .int 0, .int 0, .int 0, .int 0, .int 0, .int 0]))]]) (runB_I (As := []) (rest := [.ref q21, .int (nI 1), .ref q6, .ref q6, .ref h]) (bc := [[(q21, .inr (2, [.null, .null, .null, .int 0, .int 0, .int 0, .int 0, .int 0, .int 0, .int 0, .int 0, .int 0, .int 0, .int 0]))]]) C0 hK hW (c_X2_init l G q21 H.size) (cwI 0 hts gX1_init_X2_init rfl rfl rfl (hts (.initialized RX2) (by decide +kernel)) (hts (.methodLink RX1 11 yX2_init) (by decide +kernel)) (hts (.instanceMethod yX2_init) (by decide +kernel)) rfl (by decide +kernel) ⟨Nat.le_of_ble_eq_true rfl, Nat.le_of_ble_eq_true rfl⟩) [3] rfl rfl rfl rfl hl.1 rfl (Nat.le_of_ble_eq_true rfl) dX1_init_25 ⟨Nat.le_of_ble_eq_true rfl, Nat.le_of_ble_eq_true rfl⟩) hW hS hA [3] rfl rfl rfl (fun u => [LC G u vI qI]) (fun _ => rfl) (fun _ => rfl) (fun u2 H locs hw2 hW hS => ?_)
  obtain ⟨hP, hD⟩ := hW.flat
  have hw2 : u2 0 = q21 := hw2
  subst hw2
  refine W.eq (g2 := F0 m 28 ls ([.ref (u2 0), .int (nI 1), .ref q6, .ref q6, .ref h])) rfl ?_
  have hP : va_P G.1 vwCl ([(h, .inr (1, [.null, .int 0]))] ++ [(q6, .inl (G.2 4, 4, .inr (.inr (.inr (.inr (va_up (fun _ => none) 0 (some (u1 0))))))))] ++ LC G u1 vI qI ++ LC G u2 vI qI) H := hP
  have hD : va_D A ([(h, .inr (1, [.null, .int 0]))] ++ [(q6, .inl (G.2 4, 4, .inr (.inr (.inr (.inr (va_up (fun _ => none) 0 (some (u1 0))))))))] ++ LC G u1 vI qI ++ LC G u2 vI qI) := hD
  refine W.widen (k := 23) (n := 116) (by omega) (by omega) ?_
  refine n_aast (j := 1) (ci := 2) hx hb hK.1 hP hD hS 1 4 13 rfl rfl rfl rfl (by decide) (by decide) dX1_init_28 (fun H locs hP hD hS => ?_)
  have hP : va_P G.1 vwCl ([(h, .inr (1, [.null, .int 0]))] ++ [(q6, .inl (G.2 4, 4, .inr (.inr (.inr (.inr (va_up (va_up (fun _ => none) 0 (some (u1 0))) 1 (some (u2 0))))))))] ++ LC G u1 vI qI ++ LC G u2 vI qI) H := hP
  have hD : va_D A ([(h, .inr (1, [.null, .int 0]))] ++ [(q6, .inl (G.2 4, 4, .inr (.inr (.inr (.inr (va_up (va_up (fun _ => none) 0 (some (u1 0))) 1 (some (u2 0))))))))] ++ LC G u1 vI qI ++ LC G u2 vI qI) := hD
  refine lv_dup hx hb dX1_init_29 rfl ?_
  refine lv_iconst (v := (nI 2)) hx hb dX1_init_30 (by decide) ?_
  refine va_new (D := G.1) (ci := 2) (fs := [.null, .null, .null, .int 0, .int 0, .int 0, .int 0, .int 0, .int 0, .int 0, .int 0, .int 0, .int 0, .int 0]) (C := RX2) (T := TX2) (N := 14) hx hb hts in_X1_init_RX2 tyX2 tyX2_ok hown (hts (.classLink RX1 9 RX2) (by decide +kernel)) (hts (.instantiable RX2 14) (by decide +kernel)) (hts (.initialized RX2) (by decide +kernel)) hK.1.1 hP hD hS hA rfl (fun j hj => def_X2 j hj) (Nat.le_of_ble_eq_true rfl) (Nat.le_of_ble_eq_true rfl) dX1_init_31 (fun q31 H hP hD hS => ?_)
  have hP : va_P G.1 vwCl ([(h, .inr (1, [.null, .int 0]))] ++ [(q6, .inl (G.2 4, 4, .inr (.inr (.inr (.inr (va_up (va_up (fun _ => none) 0 (some (u1 0))) 1 (some (u2 0))))))))] ++ LC G u1 vI qI ++ LC G u2 vI qI ++ [(q31, .inr (2, [.null, .null, .null, .int 0, .int 0, .int 0, .int 0, .int 0, .int 0, .int 0, .int 0, .int 0, .int 0, .int 0]))]) H := hP
  have hD : va_D A ([(h, .inr (1, [.null, .int 0]))] ++ [(q6, .inl (G.2 4, 4, .inr (.inr (.inr (.inr (va_up (va_up (fun _ => none) 0 (some (u1 0))) 1 (some (u2 0))))))))] ++ LC G u1 vI qI ++ LC G u2 vI qI ++ [(q31, .inr (2, [.null, .null, .null, .int 0, .int 0, .int 0, .int 0, .int 0, .int 0, .int 0, .int 0, .int 0, .int 0, .int 0]))]) := hD
  refine W.widen (k := 24) (n := 130) (by omega) (by omega) ?_
  refine lv_dup hx hb dX1_init_34 rfl ?_
  have hW : BW G A [[(h, .inr (1, [.null, .int 0]))], [(q6, .inl (G.2 4, 4, .inr (.inr (.inr (.inr (va_up (va_up (fun _ => none) 0 (some (u1 0))) 1 (some (u2 0))))))))], LC G u1 vI qI, LC G u2 vI qI, [(q31, .inr (2, [.null, .null, .null, .int 0, .int 0, .int 0, .int 0, .int 0, .int 0, .int 0, .int 0, .int 0, .int 0, .int 0]))]] H := BW.of hP hD
  refine gcallB_V (bc := [[(q31, .inr (2, [.null, .null, .null, .int 0, .int 0, .int 0, .int 0, .int 0, .int 0, .int 0, .int 0, .int 0, .int 0, .int 0]))]]) (runB_I (As := []) (rest := [.ref q31, .int (nI 2), .ref q6, .ref q6, .ref h]) (bc := [[(q31, .inr (2, [.null, .null, .null, .int 0, .int 0, .int 0, .int 0, .int 0, .int 0, .int 0, .int 0, .int 0, .int 0, .int 0]))]]) C0 hK hW (c_X2_init l G q31 H.size) (cwI 0 hts gX1_init_X2_init rfl rfl rfl (hts (.initialized RX2) (by decide +kernel)) (hts (.methodLink RX1 11 yX2_init) (by decide +kernel)) (hts (.instanceMethod yX2_init) (by decide +kernel)) rfl (by decide +kernel) ⟨Nat.le_of_ble_eq_true rfl, Nat.le_of_ble_eq_true rfl⟩) [4] rfl rfl rfl rfl hl.1 rfl (Nat.le_of_ble_eq_true rfl) dX1_init_35 ⟨Nat.le_of_ble_eq_true rfl, Nat.le_of_ble_eq_true rfl⟩) hW hS hA [4] rfl rfl rfl (fun u => [LC G u vI qI]) (fun _ => rfl) (fun _ => rfl) (fun u3 H locs hw3 hW hS => ?_)
  obtain ⟨hP, hD⟩ := hW.flat
  have hw3 : u3 0 = q31 := hw3
  subst hw3
  refine W.eq (g2 := F0 m 38 ls ([.ref (u3 0), .int (nI 2), .ref q6, .ref q6, .ref h])) rfl ?_
  have hP : va_P G.1 vwCl ([(h, .inr (1, [.null, .int 0]))] ++ [(q6, .inl (G.2 4, 4, .inr (.inr (.inr (.inr (va_up (va_up (fun _ => none) 0 (some (u1 0))) 1 (some (u2 0))))))))] ++ LC G u1 vI qI ++ LC G u2 vI qI ++ LC G u3 vI qI) H := hP
  have hD : va_D A ([(h, .inr (1, [.null, .int 0]))] ++ [(q6, .inl (G.2 4, 4, .inr (.inr (.inr (.inr (va_up (va_up (fun _ => none) 0 (some (u1 0))) 1 (some (u2 0))))))))] ++ LC G u1 vI qI ++ LC G u2 vI qI ++ LC G u3 vI qI) := hD
  refine W.widen (k := 34) (n := 172) (by omega) (by omega) ?_
  refine n_aast (j := 2) (ci := 2) hx hb hK.1 hP hD hS 1 4 24 rfl rfl rfl rfl (by decide) (by decide) dX1_init_38 (fun H locs hP hD hS => ?_)
  have hP : va_P G.1 vwCl ([(h, .inr (1, [.null, .int 0]))] ++ [(q6, .inl (G.2 4, 4, .inr (.inr (.inr (.inr (va_up (va_up (va_up (fun _ => none) 0 (some (u1 0))) 1 (some (u2 0))) 2 (some (u3 0))))))))] ++ LC G u1 vI qI ++ LC G u2 vI qI ++ LC G u3 vI qI) H := hP
  have hD : va_D A ([(h, .inr (1, [.null, .int 0]))] ++ [(q6, .inl (G.2 4, 4, .inr (.inr (.inr (.inr (va_up (va_up (va_up (fun _ => none) 0 (some (u1 0))) 1 (some (u2 0))) 2 (some (u3 0))))))))] ++ LC G u1 vI qI ++ LC G u2 vI qI ++ LC G u3 vI qI) := hD
  refine lv_dup hx hb dX1_init_39 rfl ?_
  refine lv_iconst (v := (nI 3)) hx hb dX1_init_40 (by decide) ?_
  refine va_new (D := G.1) (ci := 2) (fs := [.null, .null, .null, .int 0, .int 0, .int 0, .int 0, .int 0, .int 0, .int 0, .int 0, .int 0, .int 0, .int 0]) (C := RX2) (T := TX2) (N := 14) hx hb hts in_X1_init_RX2 tyX2 tyX2_ok hown (hts (.classLink RX1 9 RX2) (by decide +kernel)) (hts (.instantiable RX2 14) (by decide +kernel)) (hts (.initialized RX2) (by decide +kernel)) hK.1.1 hP hD hS hA rfl (fun j hj => def_X2 j hj) (Nat.le_of_ble_eq_true rfl) (Nat.le_of_ble_eq_true rfl) dX1_init_41 (fun q41 H hP hD hS => ?_)
  have hP : va_P G.1 vwCl ([(h, .inr (1, [.null, .int 0]))] ++ [(q6, .inl (G.2 4, 4, .inr (.inr (.inr (.inr (va_up (va_up (va_up (fun _ => none) 0 (some (u1 0))) 1 (some (u2 0))) 2 (some (u3 0))))))))] ++ LC G u1 vI qI ++ LC G u2 vI qI ++ LC G u3 vI qI ++ [(q41, .inr (2, [.null, .null, .null, .int 0, .int 0, .int 0, .int 0, .int 0, .int 0, .int 0, .int 0, .int 0, .int 0, .int 0]))]) H := hP
  have hD : va_D A ([(h, .inr (1, [.null, .int 0]))] ++ [(q6, .inl (G.2 4, 4, .inr (.inr (.inr (.inr (va_up (va_up (va_up (fun _ => none) 0 (some (u1 0))) 1 (some (u2 0))) 2 (some (u3 0))))))))] ++ LC G u1 vI qI ++ LC G u2 vI qI ++ LC G u3 vI qI ++ [(q41, .inr (2, [.null, .null, .null, .int 0, .int 0, .int 0, .int 0, .int 0, .int 0, .int 0, .int 0, .int 0, .int 0, .int 0]))]) := hD
  refine W.widen (k := 35) (n := 186) (by omega) (by omega) ?_
  refine lv_dup hx hb dX1_init_44 rfl ?_
  have hW : BW G A [[(h, .inr (1, [.null, .int 0]))], [(q6, .inl (G.2 4, 4, .inr (.inr (.inr (.inr (va_up (va_up (va_up (fun _ => none) 0 (some (u1 0))) 1 (some (u2 0))) 2 (some (u3 0))))))))], LC G u1 vI qI, LC G u2 vI qI, LC G u3 vI qI, [(q41, .inr (2, [.null, .null, .null, .int 0, .int 0, .int 0, .int 0, .int 0, .int 0, .int 0, .int 0, .int 0, .int 0, .int 0]))]] H := BW.of hP hD
  refine gcallB_V (bc := [[(q41, .inr (2, [.null, .null, .null, .int 0, .int 0, .int 0, .int 0, .int 0, .int 0, .int 0, .int 0, .int 0, .int 0, .int 0]))]]) (runB_I (As := []) (rest := [.ref q41, .int (nI 3), .ref q6, .ref q6, .ref h]) (bc := [[(q41, .inr (2, [.null, .null, .null, .int 0, .int 0, .int 0, .int 0, .int 0, .int 0, .int 0, .int 0, .int 0, .int 0, .int 0]))]]) C0 hK hW (c_X2_init l G q41 H.size) (cwI 0 hts gX1_init_X2_init rfl rfl rfl (hts (.initialized RX2) (by decide +kernel)) (hts (.methodLink RX1 11 yX2_init) (by decide +kernel)) (hts (.instanceMethod yX2_init) (by decide +kernel)) rfl (by decide +kernel) ⟨Nat.le_of_ble_eq_true rfl, Nat.le_of_ble_eq_true rfl⟩) [5] rfl rfl rfl rfl hl.1 rfl (Nat.le_of_ble_eq_true rfl) dX1_init_45 ⟨Nat.le_of_ble_eq_true rfl, Nat.le_of_ble_eq_true rfl⟩) hW hS hA [5] rfl rfl rfl (fun u => [LC G u vI qI]) (fun _ => rfl) (fun _ => rfl) (fun u4 H locs hw4 hW hS => ?_)
  obtain ⟨hP, hD⟩ := hW.flat
  have hw4 : u4 0 = q41 := hw4
  subst hw4
  refine W.eq (g2 := F0 m 48 ls ([.ref (u4 0), .int (nI 3), .ref q6, .ref q6, .ref h])) rfl ?_
  have hP : va_P G.1 vwCl ([(h, .inr (1, [.null, .int 0]))] ++ [(q6, .inl (G.2 4, 4, .inr (.inr (.inr (.inr (va_up (va_up (va_up (fun _ => none) 0 (some (u1 0))) 1 (some (u2 0))) 2 (some (u3 0))))))))] ++ LC G u1 vI qI ++ LC G u2 vI qI ++ LC G u3 vI qI ++ LC G u4 vI qI) H := hP
  have hD : va_D A ([(h, .inr (1, [.null, .int 0]))] ++ [(q6, .inl (G.2 4, 4, .inr (.inr (.inr (.inr (va_up (va_up (va_up (fun _ => none) 0 (some (u1 0))) 1 (some (u2 0))) 2 (some (u3 0))))))))] ++ LC G u1 vI qI ++ LC G u2 vI qI ++ LC G u3 vI qI ++ LC G u4 vI qI) := hD
  refine W.widen (k := 45) (n := 228) (by omega) (by omega) ?_
  refine n_aast (j := 3) (ci := 2) hx hb hK.1 hP hD hS 1 4 35 rfl rfl rfl rfl (by decide) (by decide) dX1_init_48 (fun H locs hP hD hS => ?_)
  have hP : va_P G.1 vwCl ([(h, .inr (1, [.null, .int 0]))] ++ [(q6, .inl (G.2 4, 4, .inr (.inr (.inr (.inr (va_up (va_up (va_up (va_up (fun _ => none) 0 (some (u1 0))) 1 (some (u2 0))) 2 (some (u3 0))) 3 (some (u4 0))))))))] ++ LC G u1 vI qI ++ LC G u2 vI qI ++ LC G u3 vI qI ++ LC G u4 vI qI) H := hP
  have hD : va_D A ([(h, .inr (1, [.null, .int 0]))] ++ [(q6, .inl (G.2 4, 4, .inr (.inr (.inr (.inr (va_up (va_up (va_up (va_up (fun _ => none) 0 (some (u1 0))) 1 (some (u2 0))) 2 (some (u3 0))) 3 (some (u4 0))))))))] ++ LC G u1 vI qI ++ LC G u2 vI qI ++ LC G u3 vI qI ++ LC G u4 vI qI) := hD
  refine va_putF (D := G.1) (ci := 1) (v := .ref q6) (ty := tyX1 0) (C := RX1) (T := TX1) (N := 2) hx hb hts in_X1_init_RX1 tyX1 tyX1_ok nmX1 hown hK.1.1 hP hD hS 0 rfl rfl 0 (by decide) (hts (.fieldLink RX1 12 "SteamRations$History" "states" "[LSteamRations$Laundry;") (by decide +kernel)) (fun _ h9 => h9) rfl hin rfl (tyX1_ok 0 (by decide)) rfl rfl (Nat.le_of_ble_eq_true rfl) dX1_init_49 (fun H locs hP hD hS => ?_)
  have hP : va_P G.1 vwCl ([(h, .inr (1, [.ref q6, .int 0]))] ++ [(q6, .inl (G.2 4, 4, .inr (.inr (.inr (.inr (va_up (va_up (va_up (va_up (fun _ => none) 0 (some (u1 0))) 1 (some (u2 0))) 2 (some (u3 0))) 3 (some (u4 0))))))))] ++ LC G u1 vI qI ++ LC G u2 vI qI ++ LC G u3 vI qI ++ LC G u4 vI qI) H := hP
  have hD : va_D A ([(h, .inr (1, [.ref q6, .int 0]))] ++ [(q6, .inl (G.2 4, 4, .inr (.inr (.inr (.inr (va_up (va_up (va_up (va_up (fun _ => none) 0 (some (u1 0))) 1 (some (u2 0))) 2 (some (u3 0))) 3 (some (u4 0))))))))] ++ LC G u1 vI qI ++ LC G u2 vI qI ++ LC G u3 vI qI ++ LC G u4 vI qI) := hD
  have hP : va_P G.1 vwCl ([(h, .inr (1, [.ref q6, .int 0]))] ++ [(q6, .inl (G.2 4, 4, .inr (.inr (.inr (.inr (rf4 (u1 0) (u2 0) (u3 0) (u4 0)))))))] ++ LC G u1 vI qI ++ LC G u2 vI qI ++ LC G u3 vI qI ++ LC G u4 vI qI) H := va_P_arrq (k := 1) (rf4_0n _ _ _ _) hP rfl rfl
  have hD : va_D A ([(h, .inr (1, [.ref q6, .int 0]))] ++ [(q6, .inl (G.2 4, 4, .inr (.inr (.inr (.inr (rf4 (u1 0) (u2 0) (u3 0) (u4 0)))))))] ++ LC G u1 vI qI ++ LC G u2 vI qI ++ LC G u3 vI qI ++ LC G u4 vI qI) := va_D_arr (k := 1) hD rfl rfl
  have hP : va_P G.1 vwCl (HB G h q6 0 (xs4 u1 u2 u3 u4) (fun _ => vI) (fun _ => qI)) H := hP.sub [0, 1, 2, 3, 4, 5, 6, 7, 8, 9, 10, 11, 12, 13, 14, 15, 16, 17, 18, 19, 20, 21, 22, 23, 24, 25, 26, 27, 28, 29, 30, 31, 32, 33, 34, 35, 36, 37, 38, 39, 40, 41, 42, 43, 44, 45] rfl
  have hD : va_D A (HB G h q6 0 (xs4 u1 u2 u3 u4) (fun _ => vI) (fun _ => qI)) := hD.sub [0, 1, 2, 3, 4, 5, 6, 7, 8, 9, 10, 11, 12, 13, 14, 15, 16, 17, 18, 19, 20, 21, 22, 23, 24, 25, 26, 27, 28, 29, 30, 31, 32, 33, 34, 35, 36, 37, 38, 39, 40, 41, 42, 43, 44, 45] (by decide) rfl
  exact end_V C0 hP hD hS ((q6, (xs4 u1 u2 u3 u4))) (trivial) rfl dX1_init_52
set_option maxRecDepth 20000 in
theorem in_X6_init_RX2 : ∀ w ∈ u_ws RX2 TX2 14, w ∈ wsX6_init := by decide +kernel
set_option maxRecDepth 20000 in
theorem in_X6_init_RX6 : ∀ w ∈ u_ws RX6 TX6 10, w ∈ wsX6_init := by decide +kernel
set_option maxRecDepth 20000 in
theorem in_X6_init_RX1 : ∀ w ∈ u_ws RX1 TX1 2, w ∈ wsX6_init := by decide +kernel
set_option maxRecDepth 20000 in
theorem in_X6_init_RX4 : ∀ w ∈ u_ws RX4 TX4 6, w ∈ wsX6_init := by decide +kernel
set_option maxHeartbeats 8000000 in
set_option maxRecDepth 100000 in
theorem c_X6_init (l : Launch) (G : GG) (h : Nat) (sz : Nat) : Met l yX6_init wsX6_init ({ frames := 4, cells := 103, slots := 596, locals := 72 }) (PreA G [.ref h] ([(h, .inr (6, [.null, .null, .null, .null, .null, .null, .null, .int 0, .int 0, .int 0]))]) sz) (PV G (va_A ([(h, .inr (6, [.null, .null, .null, .null, .null, .null, .null, .int 0, .int 0, .int 0]))]) sz) (fun _ : (Nat → Nat) × (Nat → Nat) × (Nat → Nat) × (Nat → Nat) × (Nat → Nat) × Nat × (Nat × (Nat → Nat → Nat)) × Nat × Nat => True : ((Nat → Nat) × (Nat → Nat) × (Nat → Nat) × (Nat → Nat) × (Nat → Nat) × Nat × (Nat × (Nat → Nat → Nat)) × Nat × Nat) → Prop) (fun u => SC h u.1 u.2.1 u.2.2.1 u.2.2.2.1 u.2.2.2.2.1 u.2.2.2.2.2.1 u.2.2.2.2.2.2.2.1 0 (-5) (-5) ++ LC G u.1 vI qI ++ LC G u.2.1 vI qI ++ LC G u.2.2.1 vI qI ++ LC G u.2.2.2.1 vI qI ++ LC G u.2.2.2.2.1 vI qI ++ HB G u.2.2.2.2.2.1 u.2.2.2.2.2.2.1.1 0 u.2.2.2.2.2.2.1.2 (fun _ => vI) (fun _ => qI) ++ OT G u.2.2.2.2.2.2.2.1 u.2.2.2.2.2.2.2.2 0 0 0 0 0 qI)) 103 596 (va_A ([(h, .inr (6, [.null, .null, .null, .null, .null, .null, .null, .int 0, .int 0, .int 0]))]) sz) := by
  refine Met.walkA (cc := cX6_init) (maxL := 1) (ret := none) (Qc := fun A => PV G A (fun _ : (Nat → Nat) × (Nat → Nat) × (Nat → Nat) × (Nat → Nat) × (Nat → Nat) × Nat × (Nat × (Nat → Nat → Nat)) × Nat × Nat => True : ((Nat → Nat) × (Nat → Nat) × (Nat → Nat) × (Nat → Nat) × (Nat → Nat) × Nat × (Nat × (Nat → Nat → Nat)) × Nat × Nat) → Prop) (fun u => SC h u.1 u.2.1 u.2.2.1 u.2.2.2.1 u.2.2.2.2.1 u.2.2.2.2.2.1 u.2.2.2.2.2.2.2.1 0 (-5) (-5) ++ LC G u.1 vI qI ++ LC G u.2.1 vI qI ++ LC G u.2.2.1 vI qI ++ LC G u.2.2.2.1 vI qI ++ LC G u.2.2.2.2.1 vI qI ++ HB G u.2.2.2.2.2.1 u.2.2.2.2.2.2.1.1 0 u.2.2.2.2.2.2.1.2 (fun _ => vI) (fun _ => qI) ++ OT G u.2.2.2.2.2.2.2.1 u.2.2.2.2.2.2.2.2 0 0 0 0 0 qI)) (by decide) rfl (Nat.le_of_ble_eq_true rfl) ?_
  intro p e s m below meth c A H C0 hI0 hK hsz hP hD hA hS ls hl
  have hx := C0.1
  have hb := C0.2.1
  have hown : s.vm.findClass RX6 = some m.cls := C0.2.2.2.2.1
  have hml := C0.2.2.2.1
  have hin : meth.name = "<init>" := hI0 rfl
  have hts : ∀ w ∈ wsX6_init, w.before ([.ref h] : List Value).toArray s = true := C0.2.2.2.2.2.1
  have hl : lv_has ls 1 [(0, .ref h)] := hl
  have hP : va_P G.1 vwCl ([(h, .inr (6, [.null, .null, .null, .null, .null, .null, .null, .int 0, .int 0, .int 0]))]) H := hP
  have hD : va_D A ([(h, .inr (6, [.null, .null, .null, .null, .null, .null, .null, .int 0, .int 0, .int 0]))]) := hD
  refine lv_aload_n hx hb dX6_init_0 rfl (lv_at hl 0 rfl) ?_
  refine W.objInit hx hb hown (hts (.methodLink RX6 1 objectInit) (by decide +kernel)) (hts (.instanceMethod objectInit) (by decide +kernel)) (hts _ (List.mem_of_getElem? (i := 3) rfl)) rfl (by rw [hml]; exact hl.1) rfl dX6_init_1 (Nat.le_of_ble_eq_true rfl) (Nat.le_of_ble_eq_true rfl) ?_
  refine W.eq (g2 := F0 m 4 ls ([])) rfl ?_
  refine lv_aload_n hx hb dX6_init_4 rfl (lv_at hl 0 rfl) ?_
  refine va_new (D := G.1) (ci := 2) (fs := [.null, .null, .null, .int 0, .int 0, .int 0, .int 0, .int 0, .int 0, .int 0, .int 0, .int 0, .int 0, .int 0]) (C := RX2) (T := TX2) (N := 14) hx hb hts in_X6_init_RX2 tyX2 tyX2_ok hown (hts (.classLink RX6 7 RX2) (by decide +kernel)) (hts (.instantiable RX2 14) (by decide +kernel)) (hts (.initialized RX2) (by decide +kernel)) hK.1.1 hP hD hS hA rfl (fun j hj => def_X2 j hj) (Nat.le_of_ble_eq_true rfl) (Nat.le_of_ble_eq_true rfl) dX6_init_5 (fun q5 H hP hD hS => ?_)
  have hP : va_P G.1 vwCl ([(h, .inr (6, [.null, .null, .null, .null, .null, .null, .null, .int 0, .int 0, .int 0]))] ++ [(q5, .inr (2, [.null, .null, .null, .int 0, .int 0, .int 0, .int 0, .int 0, .int 0, .int 0, .int 0, .int 0, .int 0, .int 0]))]) H := hP
  have hD : va_D A ([(h, .inr (6, [.null, .null, .null, .null, .null, .null, .null, .int 0, .int 0, .int 0]))] ++ [(q5, .inr (2, [.null, .null, .null, .int 0, .int 0, .int 0, .int 0, .int 0, .int 0, .int 0, .int 0, .int 0, .int 0, .int 0]))]) := hD
  refine W.widen (k := 1) (n := 14) (by omega) (by omega) ?_
  refine lv_dup hx hb dX6_init_8 rfl ?_
  have hW : BW G A [[(h, .inr (6, [.null, .null, .null, .null, .null, .null, .null, .int 0, .int 0, .int 0]))], [(q5, .inr (2, [.null, .null, .null, .int 0, .int 0, .int 0, .int 0, .int 0, .int 0, .int 0, .int 0, .int 0, .int 0, .int 0]))]] H := BW.of hP hD
  refine gcallB_V (bc := [[(q5, .inr (2, [.null, .null, .null, .int 0, .int 0, .int 0, .int 0, .int 0, .int 0, .int 0, .int 0, .int 0, .int 0, .int 0]))]]) (runB_I (As := []) (rest := [.ref q5, .ref h]) (bc := [[(q5, .inr (2, [.null, .null, .null, .int 0, .int 0, .int 0, .int 0, .int 0, .int 0, .int 0, .int 0, .int 0, .int 0, .int 0]))]]) C0 hK hW (c_X2_init l G q5 H.size) (cwI 0 hts gX6_init_X2_init rfl rfl rfl (hts (.initialized RX2) (by decide +kernel)) (hts (.methodLink RX6 9 yX2_init) (by decide +kernel)) (hts (.instanceMethod yX2_init) (by decide +kernel)) rfl (by decide +kernel) ⟨Nat.le_of_ble_eq_true rfl, Nat.le_of_ble_eq_true rfl⟩) [1] rfl rfl rfl rfl hl.1 rfl (Nat.le_of_ble_eq_true rfl) dX6_init_9 ⟨Nat.le_of_ble_eq_true rfl, Nat.le_of_ble_eq_true rfl⟩) hW hS hA [1] rfl rfl rfl (fun u => [LC G u vI qI]) (fun _ => rfl) (fun _ => rfl) (fun u1 H locs hw1 hW hS => ?_)
  obtain ⟨hP, hD⟩ := hW.flat
  have hw1 : u1 0 = q5 := hw1
  subst hw1
  refine W.eq (g2 := F0 m 12 ls ([.ref (u1 0), .ref h])) rfl ?_
  have hP : va_P G.1 vwCl ([(h, .inr (6, [.null, .null, .null, .null, .null, .null, .null, .int 0, .int 0, .int 0]))] ++ LC G u1 vI qI) H := hP
  have hD : va_D A ([(h, .inr (6, [.null, .null, .null, .null, .null, .null, .null, .int 0, .int 0, .int 0]))] ++ LC G u1 vI qI) := hD
  refine W.widen (k := 11) (n := 56) (by omega) (by omega) ?_
  refine va_putF (D := G.1) (ci := 6) (v := .ref (u1 0)) (ty := tyX6 0) (C := RX6) (T := TX6) (N := 10) hx hb hts in_X6_init_RX6 tyX6 tyX6_ok nmX6 hown hK.1.1 hP hD hS 0 rfl rfl 0 (by decide) (hts (.fieldLink RX6 10 "SteamRations" "now" "LSteamRations$Laundry;") (by decide +kernel)) (fun _ h9 => h9) rfl hin rfl (tyX6_ok 0 (by decide)) rfl rfl (Nat.le_of_ble_eq_true rfl) dX6_init_12 (fun H locs hP hD hS => ?_)
  have hP : va_P G.1 vwCl ([(h, .inr (6, [.ref (u1 0), .null, .null, .null, .null, .null, .null, .int 0, .int 0, .int 0]))] ++ LC G u1 vI qI) H := hP
  have hD : va_D A ([(h, .inr (6, [.ref (u1 0), .null, .null, .null, .null, .null, .null, .int 0, .int 0, .int 0]))] ++ LC G u1 vI qI) := hD
  refine lv_aload_n hx hb dX6_init_15 rfl (lv_at hl 0 rfl) ?_
  refine va_new (D := G.1) (ci := 2) (fs := [.null, .null, .null, .int 0, .int 0, .int 0, .int 0, .int 0, .int 0, .int 0, .int 0, .int 0, .int 0, .int 0]) (C := RX2) (T := TX2) (N := 14) hx hb hts in_X6_init_RX2 tyX2 tyX2_ok hown (hts (.classLink RX6 7 RX2) (by decide +kernel)) (hts (.instantiable RX2 14) (by decide +kernel)) (hts (.initialized RX2) (by decide +kernel)) hK.1.1 hP hD hS hA rfl (fun j hj => def_X2 j hj) (Nat.le_of_ble_eq_true rfl) (Nat.le_of_ble_eq_true rfl) dX6_init_16 (fun q16 H hP hD hS => ?_)
  have hP : va_P G.1 vwCl ([(h, .inr (6, [.ref (u1 0), .null, .null, .null, .null, .null, .null, .int 0, .int 0, .int 0]))] ++ LC G u1 vI qI ++ [(q16, .inr (2, [.null, .null, .null, .int 0, .int 0, .int 0, .int 0, .int 0, .int 0, .int 0, .int 0, .int 0, .int 0, .int 0]))]) H := hP
  have hD : va_D A ([(h, .inr (6, [.ref (u1 0), .null, .null, .null, .null, .null, .null, .int 0, .int 0, .int 0]))] ++ LC G u1 vI qI ++ [(q16, .inr (2, [.null, .null, .null, .int 0, .int 0, .int 0, .int 0, .int 0, .int 0, .int 0, .int 0, .int 0, .int 0, .int 0]))]) := hD
  refine W.widen (k := 12) (n := 70) (by omega) (by omega) ?_
  refine lv_dup hx hb dX6_init_19 rfl ?_
  have hW : BW G A [[(h, .inr (6, [.ref (u1 0), .null, .null, .null, .null, .null, .null, .int 0, .int 0, .int 0]))], LC G u1 vI qI, [(q16, .inr (2, [.null, .null, .null, .int 0, .int 0, .int 0, .int 0, .int 0, .int 0, .int 0, .int 0, .int 0, .int 0, .int 0]))]] H := BW.of hP hD
  refine gcallB_V (bc := [[(q16, .inr (2, [.null, .null, .null, .int 0, .int 0, .int 0, .int 0, .int 0, .int 0, .int 0, .int 0, .int 0, .int 0, .int 0]))]]) (runB_I (As := []) (rest := [.ref q16, .ref h]) (bc := [[(q16, .inr (2, [.null, .null, .null, .int 0, .int 0, .int 0, .int 0, .int 0, .int 0, .int 0, .int 0, .int 0, .int 0, .int 0]))]]) C0 hK hW (c_X2_init l G q16 H.size) (cwI 0 hts gX6_init_X2_init rfl rfl rfl (hts (.initialized RX2) (by decide +kernel)) (hts (.methodLink RX6 9 yX2_init) (by decide +kernel)) (hts (.instanceMethod yX2_init) (by decide +kernel)) rfl (by decide +kernel) ⟨Nat.le_of_ble_eq_true rfl, Nat.le_of_ble_eq_true rfl⟩) [2] rfl rfl rfl rfl hl.1 rfl (Nat.le_of_ble_eq_true rfl) dX6_init_20 ⟨Nat.le_of_ble_eq_true rfl, Nat.le_of_ble_eq_true rfl⟩) hW hS hA [2] rfl rfl rfl (fun u => [LC G u vI qI]) (fun _ => rfl) (fun _ => rfl) (fun u2 H locs hw2 hW hS => ?_)
  obtain ⟨hP, hD⟩ := hW.flat
  have hw2 : u2 0 = q16 := hw2
  subst hw2
  refine W.eq (g2 := F0 m 23 ls ([.ref (u2 0), .ref h])) rfl ?_
  have hP : va_P G.1 vwCl ([(h, .inr (6, [.ref (u1 0), .null, .null, .null, .null, .null, .null, .int 0, .int 0, .int 0]))] ++ LC G u1 vI qI ++ LC G u2 vI qI) H := hP
  have hD : va_D A ([(h, .inr (6, [.ref (u1 0), .null, .null, .null, .null, .null, .null, .int 0, .int 0, .int 0]))] ++ LC G u1 vI qI ++ LC G u2 vI qI) := hD
  refine W.widen (k := 22) (n := 112) (by omega) (by omega) ?_
  refine va_putF (D := G.1) (ci := 6) (v := .ref (u2 0)) (ty := tyX6 1) (C := RX6) (T := TX6) (N := 10) hx hb hts in_X6_init_RX6 tyX6 tyX6_ok nmX6 hown hK.1.1 hP hD hS 0 rfl rfl 1 (by decide) (hts (.fieldLink RX6 16 "SteamRations" "before" "LSteamRations$Laundry;") (by decide +kernel)) (fun _ h9 => h9) rfl hin rfl (tyX6_ok 1 (by decide)) rfl rfl (Nat.le_of_ble_eq_true rfl) dX6_init_23 (fun H locs hP hD hS => ?_)
  have hP : va_P G.1 vwCl ([(h, .inr (6, [.ref (u1 0), .ref (u2 0), .null, .null, .null, .null, .null, .int 0, .int 0, .int 0]))] ++ LC G u1 vI qI ++ LC G u2 vI qI) H := hP
  have hD : va_D A ([(h, .inr (6, [.ref (u1 0), .ref (u2 0), .null, .null, .null, .null, .null, .int 0, .int 0, .int 0]))] ++ LC G u1 vI qI ++ LC G u2 vI qI) := hD
  refine lv_aload_n hx hb dX6_init_26 rfl (lv_at hl 0 rfl) ?_
  refine va_new (D := G.1) (ci := 2) (fs := [.null, .null, .null, .int 0, .int 0, .int 0, .int 0, .int 0, .int 0, .int 0, .int 0, .int 0, .int 0, .int 0]) (C := RX2) (T := TX2) (N := 14) hx hb hts in_X6_init_RX2 tyX2 tyX2_ok hown (hts (.classLink RX6 7 RX2) (by decide +kernel)) (hts (.instantiable RX2 14) (by decide +kernel)) (hts (.initialized RX2) (by decide +kernel)) hK.1.1 hP hD hS hA rfl (fun j hj => def_X2 j hj) (Nat.le_of_ble_eq_true rfl) (Nat.le_of_ble_eq_true rfl) dX6_init_27 (fun q27 H hP hD hS => ?_)
  have hP : va_P G.1 vwCl ([(h, .inr (6, [.ref (u1 0), .ref (u2 0), .null, .null, .null, .null, .null, .int 0, .int 0, .int 0]))] ++ LC G u1 vI qI ++ LC G u2 vI qI ++ [(q27, .inr (2, [.null, .null, .null, .int 0, .int 0, .int 0, .int 0, .int 0, .int 0, .int 0, .int 0, .int 0, .int 0, .int 0]))]) H := hP
  have hD : va_D A ([(h, .inr (6, [.ref (u1 0), .ref (u2 0), .null, .null, .null, .null, .null, .int 0, .int 0, .int 0]))] ++ LC G u1 vI qI ++ LC G u2 vI qI ++ [(q27, .inr (2, [.null, .null, .null, .int 0, .int 0, .int 0, .int 0, .int 0, .int 0, .int 0, .int 0, .int 0, .int 0, .int 0]))]) := hD
  refine W.widen (k := 23) (n := 126) (by omega) (by omega) ?_
  refine lv_dup hx hb dX6_init_30 rfl ?_
  have hW : BW G A [[(h, .inr (6, [.ref (u1 0), .ref (u2 0), .null, .null, .null, .null, .null, .int 0, .int 0, .int 0]))], LC G u1 vI qI, LC G u2 vI qI, [(q27, .inr (2, [.null, .null, .null, .int 0, .int 0, .int 0, .int 0, .int 0, .int 0, .int 0, .int 0, .int 0, .int 0, .int 0]))]] H := BW.of hP hD
  refine gcallB_V (bc := [[(q27, .inr (2, [.null, .null, .null, .int 0, .int 0, .int 0, .int 0, .int 0, .int 0, .int 0, .int 0, .int 0, .int 0, .int 0]))]]) (runB_I (As := []) (rest := [.ref q27, .ref h]) (bc := [[(q27, .inr (2, [.null, .null, .null, .int 0, .int 0, .int 0, .int 0, .int 0, .int 0, .int 0, .int 0, .int 0, .int 0, .int 0]))]]) C0 hK hW (c_X2_init l G q27 H.size) (cwI 0 hts gX6_init_X2_init rfl rfl rfl (hts (.initialized RX2) (by decide +kernel)) (hts (.methodLink RX6 9 yX2_init) (by decide +kernel)) (hts (.instanceMethod yX2_init) (by decide +kernel)) rfl (by decide +kernel) ⟨Nat.le_of_ble_eq_true rfl, Nat.le_of_ble_eq_true rfl⟩) [3] rfl rfl rfl rfl hl.1 rfl (Nat.le_of_ble_eq_true rfl) dX6_init_31 ⟨Nat.le_of_ble_eq_true rfl, Nat.le_of_ble_eq_true rfl⟩) hW hS hA [3] rfl rfl rfl (fun u => [LC G u vI qI]) (fun _ => rfl) (fun _ => rfl) (fun u3 H locs hw3 hW hS => ?_)
  obtain ⟨hP, hD⟩ := hW.flat
  have hw3 : u3 0 = q27 := hw3
  subst hw3
  refine W.eq (g2 := F0 m 34 ls ([.ref (u3 0), .ref h])) rfl ?_
  have hP : va_P G.1 vwCl ([(h, .inr (6, [.ref (u1 0), .ref (u2 0), .null, .null, .null, .null, .null, .int 0, .int 0, .int 0]))] ++ LC G u1 vI qI ++ LC G u2 vI qI ++ LC G u3 vI qI) H := hP
  have hD : va_D A ([(h, .inr (6, [.ref (u1 0), .ref (u2 0), .null, .null, .null, .null, .null, .int 0, .int 0, .int 0]))] ++ LC G u1 vI qI ++ LC G u2 vI qI ++ LC G u3 vI qI) := hD
  refine W.widen (k := 33) (n := 168) (by omega) (by omega) ?_
  refine va_putF (D := G.1) (ci := 6) (v := .ref (u3 0)) (ty := tyX6 2) (C := RX6) (T := TX6) (N := 10) hx hb hts in_X6_init_RX6 tyX6 tyX6_ok nmX6 hown hK.1.1 hP hD hS 0 rfl rfl 2 (by decide) (hts (.fieldLink RX6 19 "SteamRations" "ahead" "LSteamRations$Laundry;") (by decide +kernel)) (fun _ h9 => h9) rfl hin rfl (tyX6_ok 2 (by decide)) rfl rfl (Nat.le_of_ble_eq_true rfl) dX6_init_34 (fun H locs hP hD hS => ?_)
  have hP : va_P G.1 vwCl ([(h, .inr (6, [.ref (u1 0), .ref (u2 0), .ref (u3 0), .null, .null, .null, .null, .int 0, .int 0, .int 0]))] ++ LC G u1 vI qI ++ LC G u2 vI qI ++ LC G u3 vI qI) H := hP
  have hD : va_D A ([(h, .inr (6, [.ref (u1 0), .ref (u2 0), .ref (u3 0), .null, .null, .null, .null, .int 0, .int 0, .int 0]))] ++ LC G u1 vI qI ++ LC G u2 vI qI ++ LC G u3 vI qI) := hD
  refine lv_aload_n hx hb dX6_init_37 rfl (lv_at hl 0 rfl) ?_
  refine va_new (D := G.1) (ci := 2) (fs := [.null, .null, .null, .int 0, .int 0, .int 0, .int 0, .int 0, .int 0, .int 0, .int 0, .int 0, .int 0, .int 0]) (C := RX2) (T := TX2) (N := 14) hx hb hts in_X6_init_RX2 tyX2 tyX2_ok hown (hts (.classLink RX6 7 RX2) (by decide +kernel)) (hts (.instantiable RX2 14) (by decide +kernel)) (hts (.initialized RX2) (by decide +kernel)) hK.1.1 hP hD hS hA rfl (fun j hj => def_X2 j hj) (Nat.le_of_ble_eq_true rfl) (Nat.le_of_ble_eq_true rfl) dX6_init_38 (fun q38 H hP hD hS => ?_)
  have hP : va_P G.1 vwCl ([(h, .inr (6, [.ref (u1 0), .ref (u2 0), .ref (u3 0), .null, .null, .null, .null, .int 0, .int 0, .int 0]))] ++ LC G u1 vI qI ++ LC G u2 vI qI ++ LC G u3 vI qI ++ [(q38, .inr (2, [.null, .null, .null, .int 0, .int 0, .int 0, .int 0, .int 0, .int 0, .int 0, .int 0, .int 0, .int 0, .int 0]))]) H := hP
  have hD : va_D A ([(h, .inr (6, [.ref (u1 0), .ref (u2 0), .ref (u3 0), .null, .null, .null, .null, .int 0, .int 0, .int 0]))] ++ LC G u1 vI qI ++ LC G u2 vI qI ++ LC G u3 vI qI ++ [(q38, .inr (2, [.null, .null, .null, .int 0, .int 0, .int 0, .int 0, .int 0, .int 0, .int 0, .int 0, .int 0, .int 0, .int 0]))]) := hD
  refine W.widen (k := 34) (n := 182) (by omega) (by omega) ?_
  refine lv_dup hx hb dX6_init_41 rfl ?_
  have hW : BW G A [[(h, .inr (6, [.ref (u1 0), .ref (u2 0), .ref (u3 0), .null, .null, .null, .null, .int 0, .int 0, .int 0]))], LC G u1 vI qI, LC G u2 vI qI, LC G u3 vI qI, [(q38, .inr (2, [.null, .null, .null, .int 0, .int 0, .int 0, .int 0, .int 0, .int 0, .int 0, .int 0, .int 0, .int 0, .int 0]))]] H := BW.of hP hD
  refine gcallB_V (bc := [[(q38, .inr (2, [.null, .null, .null, .int 0, .int 0, .int 0, .int 0, .int 0, .int 0, .int 0, .int 0, .int 0, .int 0, .int 0]))]]) (runB_I (As := []) (rest := [.ref q38, .ref h]) (bc := [[(q38, .inr (2, [.null, .null, .null, .int 0, .int 0, .int 0, .int 0, .int 0, .int 0, .int 0, .int 0, .int 0, .int 0, .int 0]))]]) C0 hK hW (c_X2_init l G q38 H.size) (cwI 0 hts gX6_init_X2_init rfl rfl rfl (hts (.initialized RX2) (by decide +kernel)) (hts (.methodLink RX6 9 yX2_init) (by decide +kernel)) (hts (.instanceMethod yX2_init) (by decide +kernel)) rfl (by decide +kernel) ⟨Nat.le_of_ble_eq_true rfl, Nat.le_of_ble_eq_true rfl⟩) [4] rfl rfl rfl rfl hl.1 rfl (Nat.le_of_ble_eq_true rfl) dX6_init_42 ⟨Nat.le_of_ble_eq_true rfl, Nat.le_of_ble_eq_true rfl⟩) hW hS hA [4] rfl rfl rfl (fun u => [LC G u vI qI]) (fun _ => rfl) (fun _ => rfl) (fun u4 H locs hw4 hW hS => ?_)
  obtain ⟨hP, hD⟩ := hW.flat
  have hw4 : u4 0 = q38 := hw4
  subst hw4
  refine W.eq (g2 := F0 m 45 ls ([.ref (u4 0), .ref h])) rfl ?_
  have hP : va_P G.1 vwCl ([(h, .inr (6, [.ref (u1 0), .ref (u2 0), .ref (u3 0), .null, .null, .null, .null, .int 0, .int 0, .int 0]))] ++ LC G u1 vI qI ++ LC G u2 vI qI ++ LC G u3 vI qI ++ LC G u4 vI qI) H := hP
  have hD : va_D A ([(h, .inr (6, [.ref (u1 0), .ref (u2 0), .ref (u3 0), .null, .null, .null, .null, .int 0, .int 0, .int 0]))] ++ LC G u1 vI qI ++ LC G u2 vI qI ++ LC G u3 vI qI ++ LC G u4 vI qI) := hD
  refine W.widen (k := 44) (n := 224) (by omega) (by omega) ?_
  refine va_putF (D := G.1) (ci := 6) (v := .ref (u4 0)) (ty := tyX6 3) (C := RX6) (T := TX6) (N := 10) hx hb hts in_X6_init_RX6 tyX6 tyX6_ok nmX6 hown hK.1.1 hP hD hS 0 rfl rfl 3 (by decide) (hts (.fieldLink RX6 22 "SteamRations" "trial" "LSteamRations$Laundry;") (by decide +kernel)) (fun _ h9 => h9) rfl hin rfl (tyX6_ok 3 (by decide)) rfl rfl (Nat.le_of_ble_eq_true rfl) dX6_init_45 (fun H locs hP hD hS => ?_)
  have hP : va_P G.1 vwCl ([(h, .inr (6, [.ref (u1 0), .ref (u2 0), .ref (u3 0), .ref (u4 0), .null, .null, .null, .int 0, .int 0, .int 0]))] ++ LC G u1 vI qI ++ LC G u2 vI qI ++ LC G u3 vI qI ++ LC G u4 vI qI) H := hP
  have hD : va_D A ([(h, .inr (6, [.ref (u1 0), .ref (u2 0), .ref (u3 0), .ref (u4 0), .null, .null, .null, .int 0, .int 0, .int 0]))] ++ LC G u1 vI qI ++ LC G u2 vI qI ++ LC G u3 vI qI ++ LC G u4 vI qI) := hD
  refine lv_aload_n hx hb dX6_init_48 rfl (lv_at hl 0 rfl) ?_
  refine va_new (D := G.1) (ci := 2) (fs := [.null, .null, .null, .int 0, .int 0, .int 0, .int 0, .int 0, .int 0, .int 0, .int 0, .int 0, .int 0, .int 0]) (C := RX2) (T := TX2) (N := 14) hx hb hts in_X6_init_RX2 tyX2 tyX2_ok hown (hts (.classLink RX6 7 RX2) (by decide +kernel)) (hts (.instantiable RX2 14) (by decide +kernel)) (hts (.initialized RX2) (by decide +kernel)) hK.1.1 hP hD hS hA rfl (fun j hj => def_X2 j hj) (Nat.le_of_ble_eq_true rfl) (Nat.le_of_ble_eq_true rfl) dX6_init_49 (fun q49 H hP hD hS => ?_)
  have hP : va_P G.1 vwCl ([(h, .inr (6, [.ref (u1 0), .ref (u2 0), .ref (u3 0), .ref (u4 0), .null, .null, .null, .int 0, .int 0, .int 0]))] ++ LC G u1 vI qI ++ LC G u2 vI qI ++ LC G u3 vI qI ++ LC G u4 vI qI ++ [(q49, .inr (2, [.null, .null, .null, .int 0, .int 0, .int 0, .int 0, .int 0, .int 0, .int 0, .int 0, .int 0, .int 0, .int 0]))]) H := hP
  have hD : va_D A ([(h, .inr (6, [.ref (u1 0), .ref (u2 0), .ref (u3 0), .ref (u4 0), .null, .null, .null, .int 0, .int 0, .int 0]))] ++ LC G u1 vI qI ++ LC G u2 vI qI ++ LC G u3 vI qI ++ LC G u4 vI qI ++ [(q49, .inr (2, [.null, .null, .null, .int 0, .int 0, .int 0, .int 0, .int 0, .int 0, .int 0, .int 0, .int 0, .int 0, .int 0]))]) := hD
  refine W.widen (k := 45) (n := 238) (by omega) (by omega) ?_
  refine lv_dup hx hb dX6_init_52 rfl ?_
  have hW : BW G A [[(h, .inr (6, [.ref (u1 0), .ref (u2 0), .ref (u3 0), .ref (u4 0), .null, .null, .null, .int 0, .int 0, .int 0]))], LC G u1 vI qI, LC G u2 vI qI, LC G u3 vI qI, LC G u4 vI qI, [(q49, .inr (2, [.null, .null, .null, .int 0, .int 0, .int 0, .int 0, .int 0, .int 0, .int 0, .int 0, .int 0, .int 0, .int 0]))]] H := BW.of hP hD
  refine gcallB_V (bc := [[(q49, .inr (2, [.null, .null, .null, .int 0, .int 0, .int 0, .int 0, .int 0, .int 0, .int 0, .int 0, .int 0, .int 0, .int 0]))]]) (runB_I (As := []) (rest := [.ref q49, .ref h]) (bc := [[(q49, .inr (2, [.null, .null, .null, .int 0, .int 0, .int 0, .int 0, .int 0, .int 0, .int 0, .int 0, .int 0, .int 0, .int 0]))]]) C0 hK hW (c_X2_init l G q49 H.size) (cwI 0 hts gX6_init_X2_init rfl rfl rfl (hts (.initialized RX2) (by decide +kernel)) (hts (.methodLink RX6 9 yX2_init) (by decide +kernel)) (hts (.instanceMethod yX2_init) (by decide +kernel)) rfl (by decide +kernel) ⟨Nat.le_of_ble_eq_true rfl, Nat.le_of_ble_eq_true rfl⟩) [5] rfl rfl rfl rfl hl.1 rfl (Nat.le_of_ble_eq_true rfl) dX6_init_53 ⟨Nat.le_of_ble_eq_true rfl, Nat.le_of_ble_eq_true rfl⟩) hW hS hA [5] rfl rfl rfl (fun u => [LC G u vI qI]) (fun _ => rfl) (fun _ => rfl) (fun u5 H locs hw5 hW hS => ?_)
  obtain ⟨hP, hD⟩ := hW.flat
  have hw5 : u5 0 = q49 := hw5
  subst hw5
  refine W.eq (g2 := F0 m 56 ls ([.ref (u5 0), .ref h])) rfl ?_
  have hP : va_P G.1 vwCl ([(h, .inr (6, [.ref (u1 0), .ref (u2 0), .ref (u3 0), .ref (u4 0), .null, .null, .null, .int 0, .int 0, .int 0]))] ++ LC G u1 vI qI ++ LC G u2 vI qI ++ LC G u3 vI qI ++ LC G u4 vI qI ++ LC G u5 vI qI) H := hP
  have hD : va_D A ([(h, .inr (6, [.ref (u1 0), .ref (u2 0), .ref (u3 0), .ref (u4 0), .null, .null, .null, .int 0, .int 0, .int 0]))] ++ LC G u1 vI qI ++ LC G u2 vI qI ++ LC G u3 vI qI ++ LC G u4 vI qI ++ LC G u5 vI qI) := hD
  refine W.widen (k := 55) (n := 280) (by omega) (by omega) ?_
  refine va_putF (D := G.1) (ci := 6) (v := .ref (u5 0)) (ty := tyX6 4) (C := RX6) (T := TX6) (N := 10) hx hb hts in_X6_init_RX6 tyX6 tyX6_ok nmX6 hown hK.1.1 hP hD hS 0 rfl rfl 4 (by decide) (hts (.fieldLink RX6 25 "SteamRations" "snapshot" "LSteamRations$Laundry;") (by decide +kernel)) (fun _ h9 => h9) rfl hin rfl (tyX6_ok 4 (by decide)) rfl rfl (Nat.le_of_ble_eq_true rfl) dX6_init_56 (fun H locs hP hD hS => ?_)
  have hP : va_P G.1 vwCl ([(h, .inr (6, [.ref (u1 0), .ref (u2 0), .ref (u3 0), .ref (u4 0), .ref (u5 0), .null, .null, .int 0, .int 0, .int 0]))] ++ LC G u1 vI qI ++ LC G u2 vI qI ++ LC G u3 vI qI ++ LC G u4 vI qI ++ LC G u5 vI qI) H := hP
  have hD : va_D A ([(h, .inr (6, [.ref (u1 0), .ref (u2 0), .ref (u3 0), .ref (u4 0), .ref (u5 0), .null, .null, .int 0, .int 0, .int 0]))] ++ LC G u1 vI qI ++ LC G u2 vI qI ++ LC G u3 vI qI ++ LC G u4 vI qI ++ LC G u5 vI qI) := hD
  refine lv_aload_n hx hb dX6_init_59 rfl (lv_at hl 0 rfl) ?_
  refine va_new (D := G.1) (ci := 1) (fs := [.null, .int 0]) (C := RX1) (T := TX1) (N := 2) hx hb hts in_X6_init_RX1 tyX1 tyX1_ok hown (hts (.classLink RX6 28 RX1) (by decide +kernel)) (hts (.instantiable RX1 2) (by decide +kernel)) (hts (.initialized RX1) (by decide +kernel)) hK.1.1 hP hD hS hA rfl (fun j hj => def_X1 j hj) (Nat.le_of_ble_eq_true rfl) (Nat.le_of_ble_eq_true rfl) dX6_init_60 (fun q60 H hP hD hS => ?_)
  have hP : va_P G.1 vwCl ([(h, .inr (6, [.ref (u1 0), .ref (u2 0), .ref (u3 0), .ref (u4 0), .ref (u5 0), .null, .null, .int 0, .int 0, .int 0]))] ++ LC G u1 vI qI ++ LC G u2 vI qI ++ LC G u3 vI qI ++ LC G u4 vI qI ++ LC G u5 vI qI ++ [(q60, .inr (1, [.null, .int 0]))]) H := hP
  have hD : va_D A ([(h, .inr (6, [.ref (u1 0), .ref (u2 0), .ref (u3 0), .ref (u4 0), .ref (u5 0), .null, .null, .int 0, .int 0, .int 0]))] ++ LC G u1 vI qI ++ LC G u2 vI qI ++ LC G u3 vI qI ++ LC G u4 vI qI ++ LC G u5 vI qI ++ [(q60, .inr (1, [.null, .int 0]))]) := hD
  refine W.widen (k := 56) (n := 282) (by omega) (by omega) ?_
  refine lv_dup hx hb dX6_init_63 rfl ?_
  have hW : BW G A [[(h, .inr (6, [.ref (u1 0), .ref (u2 0), .ref (u3 0), .ref (u4 0), .ref (u5 0), .null, .null, .int 0, .int 0, .int 0]))], LC G u1 vI qI, LC G u2 vI qI, LC G u3 vI qI, LC G u4 vI qI, LC G u5 vI qI, [(q60, .inr (1, [.null, .int 0]))]] H := BW.of hP hD
  refine gcallB_V (bc := [[(q60, .inr (1, [.null, .int 0]))]]) (runB_I (As := []) (rest := [.ref q60, .ref h]) (bc := [[(q60, .inr (1, [.null, .int 0]))]]) C0 hK hW (c_X1_init l G q60 H.size) (cwI 0 hts gX6_init_X1_init rfl rfl rfl (hts (.initialized RX1) (by decide +kernel)) (hts (.methodLink RX6 30 yX1_init) (by decide +kernel)) (hts (.instanceMethod yX1_init) (by decide +kernel)) rfl (by decide +kernel) ⟨Nat.le_of_ble_eq_true rfl, Nat.le_of_ble_eq_true rfl⟩) [6] rfl rfl rfl rfl hl.1 rfl (Nat.le_of_ble_eq_true rfl) dX6_init_64 ⟨Nat.le_of_ble_eq_true rfl, Nat.le_of_ble_eq_true rfl⟩) hW hS hA [6] rfl rfl rfl (fun u => [HB G q60 u.1 0 u.2 (fun _ => vI) (fun _ => qI)]) (fun _ => rfl) (fun _ => rfl) (fun u6 H locs hw6 hW hS => ?_)
  obtain ⟨hP, hD⟩ := hW.flat
  have hP : va_P G.1 vwCl ([(h, .inr (6, [.ref (u1 0), .ref (u2 0), .ref (u3 0), .ref (u4 0), .ref (u5 0), .null, .null, .int 0, .int 0, .int 0]))] ++ LC G u1 vI qI ++ LC G u2 vI qI ++ LC G u3 vI qI ++ LC G u4 vI qI ++ LC G u5 vI qI ++ HB G q60 u6.1 0 u6.2 (fun _ => vI) (fun _ => qI)) H := hP
  have hD : va_D A ([(h, .inr (6, [.ref (u1 0), .ref (u2 0), .ref (u3 0), .ref (u4 0), .ref (u5 0), .null, .null, .int 0, .int 0, .int 0]))] ++ LC G u1 vI qI ++ LC G u2 vI qI ++ LC G u3 vI qI ++ LC G u4 vI qI ++ LC G u5 vI qI ++ HB G q60 u6.1 0 u6.2 (fun _ => vI) (fun _ => qI)) := hD
  refine W.widen (k := 101) (n := 510) (by omega) (by omega) ?_
  refine va_putF (D := G.1) (ci := 6) (v := .ref q60) (ty := tyX6 5) (C := RX6) (T := TX6) (N := 10) hx hb hts in_X6_init_RX6 tyX6 tyX6_ok nmX6 hown hK.1.1 hP hD hS 0 rfl rfl 5 (by decide) (hts (.fieldLink RX6 31 "SteamRations" "history" "LSteamRations$History;") (by decide +kernel)) (fun _ h9 => h9) rfl hin rfl (tyX6_ok 5 (by decide)) rfl rfl (Nat.le_of_ble_eq_true rfl) dX6_init_67 (fun H locs hP hD hS => ?_)
  have hP : va_P G.1 vwCl ([(h, .inr (6, [.ref (u1 0), .ref (u2 0), .ref (u3 0), .ref (u4 0), .ref (u5 0), .ref q60, .null, .int 0, .int 0, .int 0]))] ++ LC G u1 vI qI ++ LC G u2 vI qI ++ LC G u3 vI qI ++ LC G u4 vI qI ++ LC G u5 vI qI ++ HB G q60 u6.1 0 u6.2 (fun _ => vI) (fun _ => qI)) H := hP
  have hD : va_D A ([(h, .inr (6, [.ref (u1 0), .ref (u2 0), .ref (u3 0), .ref (u4 0), .ref (u5 0), .ref q60, .null, .int 0, .int 0, .int 0]))] ++ LC G u1 vI qI ++ LC G u2 vI qI ++ LC G u3 vI qI ++ LC G u4 vI qI ++ LC G u5 vI qI ++ HB G q60 u6.1 0 u6.2 (fun _ => vI) (fun _ => qI)) := hD
  refine lv_aload_n hx hb dX6_init_70 rfl (lv_at hl 0 rfl) ?_
  refine va_new (D := G.1) (ci := 4) (fs := [.null, .int 0, .int 0, .int 0, .int 0, .int 0]) (C := RX4) (T := TX4) (N := 6) hx hb hts in_X6_init_RX4 tyX4 tyX4_ok hown (hts (.classLink RX6 35 RX4) (by decide +kernel)) (hts (.instantiable RX4 6) (by decide +kernel)) (hts (.initialized RX4) (by decide +kernel)) hK.1.1 hP hD hS hA rfl (fun j hj => def_X4 j hj) (Nat.le_of_ble_eq_true rfl) (Nat.le_of_ble_eq_true rfl) dX6_init_71 (fun q71 H hP hD hS => ?_)
  have hP : va_P G.1 vwCl ([(h, .inr (6, [.ref (u1 0), .ref (u2 0), .ref (u3 0), .ref (u4 0), .ref (u5 0), .ref q60, .null, .int 0, .int 0, .int 0]))] ++ LC G u1 vI qI ++ LC G u2 vI qI ++ LC G u3 vI qI ++ LC G u4 vI qI ++ LC G u5 vI qI ++ HB G q60 u6.1 0 u6.2 (fun _ => vI) (fun _ => qI) ++ [(q71, .inr (4, [.null, .int 0, .int 0, .int 0, .int 0, .int 0]))]) H := hP
  have hD : va_D A ([(h, .inr (6, [.ref (u1 0), .ref (u2 0), .ref (u3 0), .ref (u4 0), .ref (u5 0), .ref q60, .null, .int 0, .int 0, .int 0]))] ++ LC G u1 vI qI ++ LC G u2 vI qI ++ LC G u3 vI qI ++ LC G u4 vI qI ++ LC G u5 vI qI ++ HB G q60 u6.1 0 u6.2 (fun _ => vI) (fun _ => qI) ++ [(q71, .inr (4, [.null, .int 0, .int 0, .int 0, .int 0, .int 0]))]) := hD
  refine W.widen (k := 102) (n := 516) (by omega) (by omega) ?_
  refine lv_dup hx hb dX6_init_74 rfl ?_
  have hW : BW G A [[(h, .inr (6, [.ref (u1 0), .ref (u2 0), .ref (u3 0), .ref (u4 0), .ref (u5 0), .ref q60, .null, .int 0, .int 0, .int 0]))], LC G u1 vI qI, LC G u2 vI qI, LC G u3 vI qI, LC G u4 vI qI, LC G u5 vI qI, HB G q60 u6.1 0 u6.2 (fun _ => vI) (fun _ => qI), [(q71, .inr (4, [.null, .int 0, .int 0, .int 0, .int 0, .int 0]))]] H := BW.of hP hD
  refine gcallB_V (bc := [[(q71, .inr (4, [.null, .int 0, .int 0, .int 0, .int 0, .int 0]))]]) (runB_I (As := []) (rest := [.ref q71, .ref h]) (bc := [[(q71, .inr (4, [.null, .int 0, .int 0, .int 0, .int 0, .int 0]))]]) C0 hK hW (c_X4_init l G q71 H.size) (cwI 0 hts gX6_init_X4_init rfl rfl rfl (hts (.initialized RX4) (by decide +kernel)) (hts (.methodLink RX6 37 yX4_init) (by decide +kernel)) (hts (.instanceMethod yX4_init) (by decide +kernel)) rfl (by decide +kernel) ⟨Nat.le_of_ble_eq_true rfl, Nat.le_of_ble_eq_true rfl⟩) [7] rfl rfl rfl rfl hl.1 rfl (Nat.le_of_ble_eq_true rfl) dX6_init_75 ⟨Nat.le_of_ble_eq_true rfl, Nat.le_of_ble_eq_true rfl⟩) hW hS hA [7] rfl rfl rfl (fun u => [OT G q71 u 0 0 0 0 0 qI]) (fun _ => rfl) (fun _ => rfl) (fun u7 H locs hw7 hW hS => ?_)
  obtain ⟨hP, hD⟩ := hW.flat
  have hP : va_P G.1 vwCl ([(h, .inr (6, [.ref (u1 0), .ref (u2 0), .ref (u3 0), .ref (u4 0), .ref (u5 0), .ref q60, .null, .int 0, .int 0, .int 0]))] ++ LC G u1 vI qI ++ LC G u2 vI qI ++ LC G u3 vI qI ++ LC G u4 vI qI ++ LC G u5 vI qI ++ HB G q60 u6.1 0 u6.2 (fun _ => vI) (fun _ => qI) ++ OT G q71 u7 0 0 0 0 0 qI) H := hP
  have hD : va_D A ([(h, .inr (6, [.ref (u1 0), .ref (u2 0), .ref (u3 0), .ref (u4 0), .ref (u5 0), .ref q60, .null, .int 0, .int 0, .int 0]))] ++ LC G u1 vI qI ++ LC G u2 vI qI ++ LC G u3 vI qI ++ LC G u4 vI qI ++ LC G u5 vI qI ++ HB G q60 u6.1 0 u6.2 (fun _ => vI) (fun _ => qI) ++ OT G q71 u7 0 0 0 0 0 qI) := hD
  refine W.widen (k := 103) (n := 596) (by omega) (by omega) ?_
  refine va_putF (D := G.1) (ci := 6) (v := .ref q71) (ty := tyX6 6) (C := RX6) (T := TX6) (N := 10) hx hb hts in_X6_init_RX6 tyX6 tyX6_ok nmX6 hown hK.1.1 hP hD hS 0 rfl rfl 6 (by decide) (hts (.fieldLink RX6 38 "SteamRations" "text" "LSteamRations$OrderText;") (by decide +kernel)) (fun _ h9 => h9) rfl hin rfl (tyX6_ok 6 (by decide)) rfl rfl (Nat.le_of_ble_eq_true rfl) dX6_init_78 (fun H locs hP hD hS => ?_)
  have hP : va_P G.1 vwCl ([(h, .inr (6, [.ref (u1 0), .ref (u2 0), .ref (u3 0), .ref (u4 0), .ref (u5 0), .ref q60, .ref q71, .int 0, .int 0, .int 0]))] ++ LC G u1 vI qI ++ LC G u2 vI qI ++ LC G u3 vI qI ++ LC G u4 vI qI ++ LC G u5 vI qI ++ HB G q60 u6.1 0 u6.2 (fun _ => vI) (fun _ => qI) ++ OT G q71 u7 0 0 0 0 0 qI) H := hP
  have hD : va_D A ([(h, .inr (6, [.ref (u1 0), .ref (u2 0), .ref (u3 0), .ref (u4 0), .ref (u5 0), .ref q60, .ref q71, .int 0, .int 0, .int 0]))] ++ LC G u1 vI qI ++ LC G u2 vI qI ++ LC G u3 vI qI ++ LC G u4 vI qI ++ LC G u5 vI qI ++ HB G q60 u6.1 0 u6.2 (fun _ => vI) (fun _ => qI) ++ OT G q71 u7 0 0 0 0 0 qI) := hD
  refine lv_aload_n hx hb dX6_init_81 rfl (lv_at hl 0 rfl) ?_
  refine lv_iconst (v := (nI 0)) hx hb dX6_init_82 (by decide) ?_
  refine va_put (D := G.1) (ci := 6) (v := .int (nI 0)) (ty := tyX6 7) (C := RX6) (T := TX6) (N := 10) hx hb hts in_X6_init_RX6 tyX6 tyX6_ok nmX6 hown hK.1.1 hP hD hS 0 rfl rfl 7 (by decide) (hts (.fieldLink RX6 42 "SteamRations" "hasSnapshot" "Z") (by decide +kernel)) (fun _ h9 => h9) rfl (tyX6_ok 7 (by decide)) (by decide) rfl (Nat.le_of_ble_eq_true rfl) dX6_init_83 (fun H locs hP hD hS => ?_)
  have hP : va_P G.1 vwCl ([(h, .inr (6, [.ref (u1 0), .ref (u2 0), .ref (u3 0), .ref (u4 0), .ref (u5 0), .ref q60, .ref q71, .int (nI 0), .int 0, .int 0]))] ++ LC G u1 vI qI ++ LC G u2 vI qI ++ LC G u3 vI qI ++ LC G u4 vI qI ++ LC G u5 vI qI ++ HB G q60 u6.1 0 u6.2 (fun _ => vI) (fun _ => qI) ++ OT G q71 u7 0 0 0 0 0 qI) H := hP
  have hD : va_D A ([(h, .inr (6, [.ref (u1 0), .ref (u2 0), .ref (u3 0), .ref (u4 0), .ref (u5 0), .ref q60, .ref q71, .int (nI 0), .int 0, .int 0]))] ++ LC G u1 vI qI ++ LC G u2 vI qI ++ LC G u3 vI qI ++ LC G u4 vI qI ++ LC G u5 vI qI ++ HB G q60 u6.1 0 u6.2 (fun _ => vI) (fun _ => qI) ++ OT G q71 u7 0 0 0 0 0 qI) := hD
  refine lv_aload_n hx hb dX6_init_86 rfl (lv_at hl 0 rfl) ?_
  refine lv_bipush (v := (-5)) hx hb dX6_init_87 (by decide) ?_
  refine va_put (D := G.1) (ci := 6) (v := .int (-5)) (ty := tyX6 8) (C := RX6) (T := TX6) (N := 10) hx hb hts in_X6_init_RX6 tyX6 tyX6_ok nmX6 hown hK.1.1 hP hD hS 0 rfl rfl 8 (by decide) (hts (.fieldLink RX6 46 "SteamRations" "stopNumber" "I") (by decide +kernel)) (fun _ h9 => h9) rfl (tyX6_ok 8 (by decide)) rfl rfl (Nat.le_of_ble_eq_true rfl) dX6_init_89 (fun H locs hP hD hS => ?_)
  have hP : va_P G.1 vwCl ([(h, .inr (6, [.ref (u1 0), .ref (u2 0), .ref (u3 0), .ref (u4 0), .ref (u5 0), .ref q60, .ref q71, .int (nI 0), .int (-5), .int 0]))] ++ LC G u1 vI qI ++ LC G u2 vI qI ++ LC G u3 vI qI ++ LC G u4 vI qI ++ LC G u5 vI qI ++ HB G q60 u6.1 0 u6.2 (fun _ => vI) (fun _ => qI) ++ OT G q71 u7 0 0 0 0 0 qI) H := hP
  have hD : va_D A ([(h, .inr (6, [.ref (u1 0), .ref (u2 0), .ref (u3 0), .ref (u4 0), .ref (u5 0), .ref q60, .ref q71, .int (nI 0), .int (-5), .int 0]))] ++ LC G u1 vI qI ++ LC G u2 vI qI ++ LC G u3 vI qI ++ LC G u4 vI qI ++ LC G u5 vI qI ++ HB G q60 u6.1 0 u6.2 (fun _ => vI) (fun _ => qI) ++ OT G q71 u7 0 0 0 0 0 qI) := hD
  refine lv_aload_n hx hb dX6_init_92 rfl (lv_at hl 0 rfl) ?_
  refine lv_bipush (v := (-5)) hx hb dX6_init_93 (by decide) ?_
  refine va_put (D := G.1) (ci := 6) (v := .int (-5)) (ty := tyX6 9) (C := RX6) (T := TX6) (N := 10) hx hb hts in_X6_init_RX6 tyX6 tyX6_ok nmX6 hown hK.1.1 hP hD hS 0 rfl rfl 9 (by decide) (hts (.fieldLink RX6 50 "SteamRations" "stopError" "I") (by decide +kernel)) (fun _ h9 => h9) rfl (tyX6_ok 9 (by decide)) rfl rfl (Nat.le_of_ble_eq_true rfl) dX6_init_95 (fun H locs hP hD hS => ?_)
  have hP : va_P G.1 vwCl ([(h, .inr (6, [.ref (u1 0), .ref (u2 0), .ref (u3 0), .ref (u4 0), .ref (u5 0), .ref q60, .ref q71, .int (nI 0), .int (-5), .int (-5)]))] ++ LC G u1 vI qI ++ LC G u2 vI qI ++ LC G u3 vI qI ++ LC G u4 vI qI ++ LC G u5 vI qI ++ HB G q60 u6.1 0 u6.2 (fun _ => vI) (fun _ => qI) ++ OT G q71 u7 0 0 0 0 0 qI) H := hP
  have hD : va_D A ([(h, .inr (6, [.ref (u1 0), .ref (u2 0), .ref (u3 0), .ref (u4 0), .ref (u5 0), .ref q60, .ref q71, .int (nI 0), .int (-5), .int (-5)]))] ++ LC G u1 vI qI ++ LC G u2 vI qI ++ LC G u3 vI qI ++ LC G u4 vI qI ++ LC G u5 vI qI ++ HB G q60 u6.1 0 u6.2 (fun _ => vI) (fun _ => qI) ++ OT G q71 u7 0 0 0 0 0 qI) := hD
  have hP : va_P G.1 vwCl (SC h u1 u2 u3 u4 u5 q60 q71 0 (-5) (-5) ++ LC G u1 vI qI ++ LC G u2 vI qI ++ LC G u3 vI qI ++ LC G u4 vI qI ++ LC G u5 vI qI ++ HB G q60 u6.1 0 u6.2 (fun _ => vI) (fun _ => qI) ++ OT G q71 u7 0 0 0 0 0 qI) H := hP.sub [0, 1, 2, 3, 4, 5, 6, 7, 8, 9, 10, 11, 12, 13, 14, 15, 16, 17, 18, 19, 20, 21, 22, 23, 24, 25, 26, 27, 28, 29, 30, 31, 32, 33, 34, 35, 36, 37, 38, 39, 40, 41, 42, 43, 44, 45, 46, 47, 48, 49, 50, 51, 52, 53, 54, 55, 56, 57, 58, 59, 60, 61, 62, 63, 64, 65, 66, 67, 68, 69, 70, 71, 72, 73, 74, 75, 76, 77, 78, 79, 80, 81, 82, 83, 84, 85, 86, 87, 88, 89, 90, 91, 92, 93, 94, 95, 96, 97, 98, 99, 100, 101, 102, 103] rfl
  have hD : va_D A (SC h u1 u2 u3 u4 u5 q60 q71 0 (-5) (-5) ++ LC G u1 vI qI ++ LC G u2 vI qI ++ LC G u3 vI qI ++ LC G u4 vI qI ++ LC G u5 vI qI ++ HB G q60 u6.1 0 u6.2 (fun _ => vI) (fun _ => qI) ++ OT G q71 u7 0 0 0 0 0 qI) := hD.sub [0, 1, 2, 3, 4, 5, 6, 7, 8, 9, 10, 11, 12, 13, 14, 15, 16, 17, 18, 19, 20, 21, 22, 23, 24, 25, 26, 27, 28, 29, 30, 31, 32, 33, 34, 35, 36, 37, 38, 39, 40, 41, 42, 43, 44, 45, 46, 47, 48, 49, 50, 51, 52, 53, 54, 55, 56, 57, 58, 59, 60, 61, 62, 63, 64, 65, 66, 67, 68, 69, 70, 71, 72, 73, 74, 75, 76, 77, 78, 79, 80, 81, 82, 83, 84, 85, 86, 87, 88, 89, 90, 91, 92, 93, 94, 95, 96, 97, 98, 99, 100, 101, 102, 103] (by decide) rfl
  exact end_V C0 hP hD hS ((u1, u2, u3, u4, u5, q60, u6, q71, u7)) (trivial) rfl dX6_init_98