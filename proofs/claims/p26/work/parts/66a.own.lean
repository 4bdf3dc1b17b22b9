/-! THE CLAIM OUT OF ONE WALK OF THE LAW'S BODY (the head of the kit's skeleton) -/
def R_law : String := "SteamRationsLaw"
def lw_P (b : Addr) (xs : List Int32) (args : Array Value) (s : State) : Prop := args = #[.ref b] ∧ s.IntsAt b xs ∧ xs.length ≤ 260 ∧ (Jvm.Cond.and given_1 narrow_1).before args s = true
def lw_Q (_ : Array Value) (s : State) (o : Outcome) (t : State) : Prop := o = .returned (some (.int 1)) ∧ Framed s o t [] 104 606
def lw_Z (below : List Frame) (a : Array Value) (s : State) : State → Prop := fun t => ∃ o, t.status = .running ∧ Ended t below o ∧ lw_Q a s o t
/-- the law's own end, with 1 on the stack, nothing written that was there before, its room as the claim has it -/
theorem lw_ret {p : Program} {l : Launch} {e : Env} {s : State} {m : MethodId} {below : List Frame} {meth : Method} {c : Code} {b : Nat} (hx : p.tables.exec = Jvm.exec) (hb : c.code = code) (hr : meth.sig.returnType = ret) (hlocks : meth.locks = false) {pc : Nat} {H : Heap} {ls : Array Slot} (hdg : decode code pc = .ok (.ireturn, 1)) : W p l e room_1 s m #[Value.ref b] below meth c H [] 104 606 (lw_Z below #[Value.ref b] s) (F0 m pc ls [.int 1]) := by
  intro T hT X
  obtain ⟨fs, hret, hrun, hended, hW, hframe⟩ := X.leave (v := some (.int 1)) (hlocks := hlocks) (fun h => by rw [hr] at h; cases h)
  have hmeth' : T.vm.method? m = some meth := X.method'
  refine ⟨T.setFrames fs, ?_, .returned (some (.int 1)), hrun, hended, rfl, ⟨_, rfl⟩, hW, hframe⟩
  jvm_step X.here [X.here.top, hx, hb, hdg, hmeth', hr, ret, narrow_b1]
  (try refine ⟨rfl, ?_⟩); (try refine ⟨rfl, ?_⟩)
  first | (intro acts; rw [hret _ acts rfl rfl rfl]) | rw [hret _ _ rfl rfl rfl]
  exact Steps.refl _
/-- what holds at the law's entry: the machine, the code, the tables' words (any of lw_tbl by 'hts w (by decide +kernel)'), the script of L ints xs at the cell b, what the Statement gives of the start (any of its parts by flat_of_before) -/
def lw_At (p : Program) (s : State) (m : MethodId) (meth : Method) (c : Code) (b L : Nat) (xs : Nat → Int32) : Prop :=
  p.tables.exec = Jvm.exec ∧ c.code = code ∧ meth.sig.returnType = ret ∧ c.maxLocals = 19 ∧ s.vm.findClass R_law = some m.cls ∧ (∀ w ∈ lw_tbl, w.before #[Value.ref b] s = true) ∧ va_X b L xs s s.heap ∧ b < s.heap.size ∧ meth.locks = false ∧ (Jvm.Cond.and given_1 narrow_1).before #[Value.ref b] s = true
/-! the law's calls of its own methods -/
def A0 (s : State) : Nat → Prop := fun q => s.heap.size ≤ q
theorem BW.same {G : GG} {A : Nat → Prop} {bs : List va_W} {H H1 : Heap} (h : BW G A bs H) (hk : ∀ q : Nat, q < H.size → H1[q]? = H[q]?) : BW G A bs H1 :=
  ⟨fun i B hi => ⟨va_P_mem.mpr fun q hq => (va_P_mem.mp (h.1 i B hi).1 q hq).kept (hk q.1 (va_P_mem.mp (h.1 i B hi).1 q hq).lt), (h.1 i B hi).2⟩, h.2⟩
section OWN4
variable {p : Program} {l : Launch} {e : Env} {R : Room} {s : State} {m : MethodId} {args : Array Value} {below : List Frame} {meth : Method} {c : Code} {H : Heap} {locs : List Loc} {cells slots : Nat} {Q : State → Prop}
variable {pc : Nat} {ls : Array Slot} {rest st0 : List Value} {a : Array Value} {A : Nat → Prop} {H0 : Heap} {mc ms : Nat} {G : GG} {bs bc : List va_W} {wc : va_W}
theorem runB_S {y : MethodName} {bytes cc : ByteArray} {maxL nL n index : Nat} {ret ret0 : Option FieldType} {wsy : List Cond} {rm : Room} {Qc : Array Value → State → Outcome → State → Prop} {Ts : List Cond} {own : String} {As : List Value}
    (X : Cx p s m args meth c cc nL Ts own ret0) (hK : KN G s) (hW : BW G A bs H) (hM : Met l y wsy rm (Pre G As wc H.size) Qc mc ms (va_A wc H.size)) (cw : CallB R s args own index y bytes maxL ret wsy rm mc ms n ∧ (Cond.static y).before args s = true) (isB : List Nat) (hC : isB.map (fun i => bs[i]?) = bc.map some) (hn : va_nd isB = true) (hwc : wc = FLl bc)
    (hAs : As.length = n) (hsize : ls.size = nL) (hst : st0 = As.reverse ++ rest) (hR : (rest.map fun v => v.category).sum ≤ 8) (hdg : decode cc pc = .ok (.invokestatic index, 3)) (hf : cells + mc ≤ R.cells ∧ slots + ms ≤ R.slots) :
    va_Run p l e R s m args below meth c H locs cells slots mc ms (F0 m pc ls st0) rest (Qc As.toArray) (va_A wc H.size) :=
  va_runS (g := F0 m pc ls st0) ⟨X.1, X.2.1, X.2.2.2.1, X.2.2.2.2.1, X.2.2.2.2.2.1⟩ hM cw ⟨Pre.blind, BW.pre hK hW isB hC hn hwc⟩ rfl hAs hsize hst (lv_room (ls := ls) (pc := pc) (m := m) hR) hdg hf
end OWN4
section OWN5
variable {p : Program} {l : Launch} {e : Env} {s : State} {m : MethodId} {below : List Frame} {meth : Method} {c : Code} {H : Heap} {locs : List Loc} {Q : State → Prop} {b L : Nat} {xs : Nat → Int32}
variable {pc : Nat} {ls : Array Slot} {rest : List Value} {G : GG} {d : AD} {nv nq : Nat → Int32} {hn : Nat} {vs qs : Nat → Nat → Int32} {t : Int}
theorem k_hangs (C0 : lw_At p s m meth c b L xs) (X : Cx p s m #[Value.ref b] meth c cL_law 19 wsB RL ret) (hK : KN G s) (hA : ∀ q : Nat, s.heap.size ≤ q → (A0 s) q) (hI : Iv t nv) (ht : t ≤ 100000) (hL : Li nv nq) (hW : WD G (A0 s) d nv nq hn vs qs H) (hS : va_S (A0 s) s.heap H locs) (hsize : ls.size = 19) (hR : (rest.map fun v => v.category).sum ≤ 8) (hdg : decode cL_law pc = .ok (.invokestatic 83, 3))
    (kk : ∀ (H1 : Heap) (locs1 : List Loc), WD G (A0 s) d nv nq hn vs qs H1 → va_S (A0 s) s.heap H1 locs1 → W p l e room_1 s m #[Value.ref b] below meth c H1 locs1 104 606 Q (F0 m (pc + 3) ls (.int (nI 1) :: rest))) : W p l e room_1 s m #[Value.ref b] below meth c H locs 104 606 Q (F0 m pc ls (.ref d.1 :: rest)) := by
  obtain ⟨x, hW⟩ := hW
  refine gcallB_I (bc := WSt G d nv nq hn vs qs x) (runB_S (As := [.ref d.1]) (rest := rest) (bc := WSt G d nv nq hn vs qs x) X hK hW (c_hangs l G d nv nq hn vs qs x H.size hI ht hL) (va_cwS 1 C0.2.2.2.2.2.1 gtHangs rfl rfl rfl cdL_hangs ⟨Nat.le_of_ble_eq_true rfl, Nat.le_of_ble_eq_true rfl⟩) [0, 1, 2, 3, 4, 5, 6, 7] rfl rfl rfl rfl hsize rfl hR hdg ⟨Nat.le_of_ble_eq_true rfl, Nat.le_of_ble_eq_true rfl⟩) hW hS hA [0, 1, 2, 3, 4, 5, 6, 7] rfl rfl rfl (fun x' => WSt G d nv nq hn vs qs x') (fun _ => rfl) (fun _ => rfl) (fun r x1 H1 locs1 hw hW1 hS1 => ?_)
  have hw : r = nI 1 := hw
  subst hw
  exact kk H1 locs1 ⟨x1, hW1⟩ hS1
theorem k_acts {j : Nat} (C0 : lw_At p s m meth c b L xs) (X : Cx p s m #[Value.ref b] meth c cL_law 19 wsB RL ret) (hK : KN G s) (hA : ∀ q : Nat, s.heap.size ≤ q → (A0 s) q) (hj : j < 2147483648) (h4 : hn ≤ 4) (hI : Iv t nv) (hL : Li nv nq) (ht : t ≤ 90000) (hW : WD G (A0 s) d nv nq hn vs qs H) (hS : va_S (A0 s) s.heap H locs) (hsize : ls.size = 19) (hR : (rest.map fun v => v.category).sum ≤ 8) (hdg : decode cL_law pc = .ok (.invokestatic 79, 3))
    (kk : ∀ (r : Int32) (nv' nq' : Nat → Int32) (hn' : Nat) (vs' qs' : Nat → Nat → Int32) (H1 : Heap) (locs1 : List Loc), AP j t nv nq hn r nv' nq' hn' → WD G (A0 s) d nv' nq' hn' vs' qs' H1 → va_S (A0 s) s.heap H1 locs1 → W p l e room_1 s m #[Value.ref b] below meth c H1 locs1 104 606 Q (F0 m (pc + 3) ls (.int r :: rest))) : W p l e room_1 s m #[Value.ref b] below meth c H locs 104 606 Q (F0 m pc ls (.int (nI j) :: .ref d.1 :: rest)) := by
  obtain ⟨x, hW⟩ := hW
  refine gcallB_I (bc := WSt G d nv nq hn vs qs x) (runB_S (As := [.ref d.1, .int (nI j)]) (rest := rest) (bc := WSt G d nv nq hn vs qs x) X hK hW (c_acts l G d nv nq hn vs qs x H.size hj h4 hI hL ht) (va_cwS 2 C0.2.2.2.2.2.1 gtActs rfl rfl rfl cdL_acts ⟨Nat.le_of_ble_eq_true rfl, Nat.le_of_ble_eq_true rfl⟩) [0, 1, 2, 3, 4, 5, 6, 7] rfl rfl rfl rfl hsize rfl hR hdg ⟨Nat.le_of_ble_eq_true rfl, Nat.le_of_ble_eq_true rfl⟩) hW hS hA [0, 1, 2, 3, 4, 5, 6, 7] rfl rfl rfl (fun u : SU => WSt G d u.1 u.2.1 u.2.2.1 u.2.2.2.1 u.2.2.2.2.1 u.2.2.2.2.2) (fun _ => rfl) (fun _ => rfl) (fun r u H1 locs1 hw hW1 hS1 => ?_)
  exact kk r u.1 u.2.1 u.2.2.1 u.2.2.2.1 u.2.2.2.2.1 H1 locs1 hw ⟨u.2.2.2.2.2, hW1⟩ hS1
theorem k_cell {i : Nat} (C0 : lw_At p s m meth c b L xs) (X : Cx p s m #[Value.ref b] meth c cL_law 19 wsB RL ret) (hLn : L ≤ 260) (hi : i ≤ 100) (hW : WD G (A0 s) d nv nq hn vs qs H) (hS : va_S (A0 s) s.heap H locs) (hsize : ls.size = 19) (hR : (rest.map fun v => v.category).sum ≤ 8) (hdg : decode cL_law pc = .ok (.invokestatic 69, 3))
    (kk : ∀ (j : Nat) (H1 : Heap) (locs1 : List Loc), j < 2147483648 → WD G (A0 s) d nv nq hn vs qs H1 → va_S (A0 s) s.heap H1 locs1 → W p l e room_1 s m #[Value.ref b] below meth c H1 locs1 104 606 Q (F0 m (pc + 3) ls (.int (nI j) :: rest))) : W p l e room_1 s m #[Value.ref b] below meth c H locs 104 606 Q (F0 m pc ls (.int (nI i) :: .ref b :: rest)) := by
  obtain ⟨x, hW⟩ := hW
  obtain ⟨-, -, -, -, -, hts0, hX, hbl, -, -⟩ := id C0
  have hbA : ¬ (A0 s) b := Nat.not_le.mpr hbl
  have hr : va_Run p l e room_1 s m #[Value.ref b] below meth c H locs 104 606 0 0 (F0 m pc ls (.int (nI i) :: .ref b :: rest)) rest (va_Qi (fun r (_ : Unit) => ∃ j : Nat, j < 2147483648 ∧ r = nI j) (fun _ _ => True) (fun _ => False) [.ref b, .int (nI i)].toArray) (fun _ => False) :=
    va_runS (g := F0 m pc ls (.int (nI i) :: .ref b :: rest)) (As := [.ref b, .int (nI i)]) ⟨X.1, X.2.1, X.2.2.2.1, X.2.2.2.2.1, X.2.2.2.2.2.1⟩ (c_cell l b L i xs hLn hi) (va_cwS 2 hts0 gtCell rfl rfl rfl cdL_cell ⟨Nat.le_of_ble_eq_true rfl, Nat.le_of_ble_eq_true rfl⟩)
      ⟨fun a U g mk q => ⟨q.1, va_X.moved (u := U) (U := U.calling g mk a) (Vm.Alike.refl _) q.2.1, q.2.2⟩, fun U hU hWm => ⟨rfl, by rw [hU]; exact va_X.moved hWm.alike (hX.kept (hS.2.1 b hbl hbA)), by rw [hU]; exact Nat.lt_of_lt_of_le hbl hS.1⟩⟩ rfl rfl hsize rfl (lv_room (ls := ls) (pc := pc) (m := m) hR) hdg ⟨Nat.le_of_ble_eq_true rfl, Nat.le_of_ble_eq_true rfl⟩
  refine va_calli hr hS (fun q _ h => h.elim) (fun q h => h.elim) (fun r u t1 H1 locs1 ht _ hw hB _ hk1 hS1 => ?_)
  obtain ⟨j, hj, ej⟩ := hw
  rw [ej]
  exact kk j H1 locs1 hj ⟨x, hW.same (fun q hq => hk1 q hq (fun z => z))⟩ hS1
end OWN5
