/-! own rows: worlds with a fixed list of array types, calls that put the callee's cells back in place -/
abbrev GG : Type := va_G × (Nat → Nat)
abbrev TYG (G : GG) : List (ClassId × FieldType) := [(G.2 0, .int), (G.2 1, .char), (G.2 2, .object "SteamRations$Boiler"), (G.2 3, .object "SteamRations$Machine"), (G.2 4, .object "SteamRations$Laundry")]
def NWs (U : State) : Prop := va_Nw (.methodLinkNest RX2 100 yX6_isWithin RX6) U ∧ va_Nw (.methodLinkNest RX3 21 yX6_ticksOf RX6) U ∧ va_Nw (.methodLinkNest RX2 155 yX6_ticksOf RX6) U ∧ va_Nw (.methodLinkNest RX2 188 yX6_steamOf RX6) U ∧ va_Nw (.methodLinkNest RX2 191 yX6_worthOf RX6) U ∧ va_Nw (.methodLinkNest RX4 57 yX6_isWithin RX6) U
theorem NWs.warm {s U : State} (hW : s.WarmedH U.vm) (h : NWs s) : NWs U := ⟨h.1.warmM hW, h.2.1.warmM hW, h.2.2.1.warmM hW, h.2.2.2.1.warmM hW, h.2.2.2.2.1.warmM hW, h.2.2.2.2.2.warmM hW⟩
theorem NWs.same {u U : State} (e : u.vm = U.vm) (h : NWs u) : NWs U := ⟨h.1.same rfl e, h.2.1.same rfl e, h.2.2.1.same rfl e, h.2.2.2.1.same rfl e, h.2.2.2.2.1.same rfl e, h.2.2.2.2.2.same rfl e⟩
def KN (G : GG) (U : State) : Prop := va_K G.1 vwCl (TYG G) U ∧ NWs U
theorem KN.warm {G : GG} {s U : State} (hW : s.WarmedH U.vm) (h : KN G s) : KN G U := ⟨va_K.moved hW.alike h.1, h.2.warm hW⟩
theorem KN.same {G : GG} {u U : State} (e : u.vm = U.vm) (h : KN G u) : KN G U := ⟨va_K.moved (by rw [e]; exact Vm.Alike.refl _) h.1, h.2.same e⟩
/-- a method's start: its words apart, the cells ws, at heap size sz -/
def Pre (G : GG) (av : List Value) (ws : va_W) (sz : Nat) : Array Value → State → Prop := va_Pc av (fun U => U.heap.size = sz ∧ va_P G.1 vwCl ws U.heap ∧ KN G U ∧ va_D (fun _ => True) ws)
def PI (G : GG) (A : Nat → Prop) {S : Type} (post : Int32 → S → Prop) (cs : S → va_W) : Array Value → State → Outcome → State → Prop := va_Qi post (fun u t => va_P G.1 vwCl (cs u) t.heap ∧ va_D A (cs u)) A
def PV (G : GG) (A : Nat → Prop) {S : Type} (post : S → Prop) (cs : S → va_W) : Array Value → State → Outcome → State → Prop := va_Qv post (fun u t => va_P G.1 vwCl (cs u) t.heap ∧ va_D A (cs u)) A
def PQ (G : GG) (A : Nat → Prop) {S : Type} (post : Option Nat → S → Prop) (cs : S → va_W) : Array Value → State → Outcome → State → Prop := va_Qq post (fun u t => va_P G.1 vwCl (cs u) t.heap ∧ va_D A (cs u)) A
theorem Pre.blind {G : GG} {av : List Value} {ws : va_W} {sz : Nat} : FrameBlind (Pre G av ws sz) := by
  intro a U g mk q
  obtain ⟨q0, q1, qP, qK, qD⟩ := q
  exact ⟨q0, q1, qP, KN.same (u := U) (U := U.calling g mk a) rfl qK, qD⟩
/-- what a method's walk stands on -/
def Cx (p : Program) (s : State) (m : MethodId) (args : Array Value) (meth : Method) (c : Code) (cc : ByteArray) (nL : Nat) (Ts : List Cond) (own : String) (ret : Option FieldType) : Prop :=
  p.tables.exec = Jvm.exec ∧ c.code = cc ∧ meth.sig.returnType = ret ∧ c.maxLocals = nL ∧ s.vm.findClass own = some m.cls ∧ (∀ w ∈ Ts, w.before args s = true) ∧ meth.locks = false
theorem Met.walk {l : Launch} {y : MethodName} {wsy ws' : List Cond} {rm : Room} {G : GG} {av : List Value} {ws : va_W} {sz : Nat} {cc : ByteArray} {maxL : Nat} {ret : Option FieldType} {mc ms : Nat} {Qc : (Nat → Prop) → Array Value → State → Outcome → State → Prop}
    (hy : plainName y.cls = true) (hw : wsy = Cond.code y cc maxL ret :: ws') (hlen : (lg_sl av).length ≤ maxL)
    (body : ∀ (p : Program) (e : Env) (s : State) (m : MethodId) (below : List Frame) (meth : Method) (c : Code) (A : Nat → Prop) (H : Heap), Cx p s m av.toArray meth c cc maxL wsy y.cls ret → (y.name = "<init>" → meth.name = "<init>") → KN G s → s.heap.size = sz → va_P G.1 vwCl ws H → va_D A ws → (∀ q : Nat, s.heap.size ≤ q → A q) → va_S A s.heap H [] → ∀ ls : Array Slot, lv_has ls maxL (lv_args 0 av) →
      W p l e rm s m av.toArray below meth c H [] 0 0 (MQ below (Qc A) av.toArray s mc ms A) (F0 m 0 ls [])) : Met l y wsy rm (Pre G av ws sz) (Qc (va_A ws sz)) mc ms (va_A ws sz) := by
  refine Met.ofW (cc := cc) (maxL := maxL) (ret := ret) hy hw ?_
  intro p e s m args below meth c s₁ B hml hv
  obtain ⟨rfl, hsz, hP, hK, hD0⟩ := hv
  have hts := atoms_spec (ws := wsy) B.pre
  have hD : va_D (va_A ws sz) ws := hD0.self (sz := sz)
  have hA : ∀ q : Nat, s.heap.size ≤ q → va_A ws sz q := fun q h => Or.inr (by rw [← hsz]; exact h)
  have hl := lv_entry av (n := maxL) hlen
  rw [lg_entry_eq]
  exact body p e s m below meth c (va_A ws sz) s.heap ⟨B.exec, B.bytes, B.returns, hml, findClass_of_methodNamed B.named, hts, B.notSynchronized⟩ (fun e1 => (name_of_methodNamed B.named B.method).1.trans e1) hK hsz hP hD hA va_S.rf _ hl
/-- cells put back at their places -/
def putb : va_W → List Nat → va_W → va_W
  | ws, [], _ => ws
  | ws, _ :: _, [] => ws
  | ws, i :: is, x :: xs => putb (ws.set i x) is xs
theorem putb_spec : ∀ (is : List Nat) (w1 ws : va_W), is.length = w1.length → va_nd is = true → (∀ i ∈ is, i < ws.length) → ∀ (k : Nat) (q : Nat × va_E), (putb ws is w1)[k]? = some q → (∃ j : Nat, is[j]? = some k ∧ w1[j]? = some q) ∨ (k ∉ is ∧ ws[k]? = some q)
  | [], w1, ws, _, _, _, k, q, h => Or.inr ⟨List.not_mem_nil, by simpa [putb] using h⟩
  | i :: is, [], ws, hl, _, _, k, q, h => by simp at hl
  | i :: is, x :: xs, ws, hl, hn, hr, k, q, h => by
    simp only [va_nd, Bool.and_eq_true, decide_eq_true_eq] at hn
    have h2 := putb_spec is xs (ws.set i x) (by simpa using hl) hn.2 (fun j hj => by rw [List.length_set]; exact hr j (List.mem_cons_of_mem _ hj)) k q h
    rcases h2 with ⟨j, h3, h4⟩ | ⟨h3, h4⟩
    · exact Or.inl ⟨j + 1, by simpa using h3, by simpa using h4⟩
    · by_cases hk : k = i
      · subst hk
        rw [List.getElem?_set_self (hr k List.mem_cons_self)] at h4
        exact Or.inl ⟨0, rfl, by simpa using h4⟩
      · rw [List.getElem?_set_ne (Ne.symm hk)] at h4
        exact Or.inr ⟨fun z => (List.mem_cons.mp z).elim hk h3, h4⟩
theorem va_back {A0 : Nat → Prop} {D : va_G} {cl : List vw_C} {ws wc w1 : va_W} {H H1 : Heap} (hP : va_P D cl ws H) (hD : va_D A0 ws) (isC : List Nat) (hC : isC.map (fun i => ws[i]?) = wc.map some) (hn : va_nd isC = true) (hlen : isC.length = w1.length)
    (hk : ∀ q : Nat, q < H.size → ¬ va_A wc H.size q → H1[q]? = H[q]?) (hF : ∀ q, va_A wc H.size q → A0 q) (hP1 : va_P D cl w1 H1) (hD1 : va_D (va_A wc H.size) w1) : va_P D cl (putb ws isC w1) H1 ∧ va_D A0 (putb ws isC w1) := by
  have hr : ∀ i ∈ isC, i < ws.length := by
    intro i hi
    obtain ⟨j, hj⟩ := List.getElem?_of_mem hi
    have h1 : (isC.map (fun i => ws[i]?))[j]? = some (ws[i]?) := by rw [List.getElem?_map, hj]; rfl
    rw [hC, List.getElem?_map] at h1
    cases hw : wc[j]? with
    | none => rw [hw] at h1; cases h1
    | some q =>
      rw [hw] at h1
      exact (List.getElem?_eq_some_iff.mp (Option.some.inj h1).symm).1
  have key := putb_spec isC w1 ws hlen hn hr
  have apart : ∀ (k : Nat) (q : Nat × va_E), k ∉ isC → ws[k]? = some q → q.1 < H.size ∧ ¬ va_A wc H.size q.1 := by
    intro k q hk2 hq
    have hl := (hP k q hq).lt
    refine ⟨hl, fun h => ?_⟩
    rcases h with ⟨k2, e, h⟩ | h
    · have h1 : (isC.map (fun i => ws[i]?))[k2]? = some (some (q.1, e)) := by rw [hC, List.getElem?_map, h]; rfl
      rw [List.getElem?_map] at h1
      cases hi : isC[k2]? with
      | none => rw [hi] at h1; cases h1
      | some j =>
        rw [hi] at h1
        have h4 : ws[j]? = some (q.1, e) := Option.some.inj h1
        have hij := hD.1 k j q (q.1, e) hq h4 rfl
        subst hij
        exact hk2 (List.mem_of_getElem? hi)
    · omega
  refine ⟨fun k q hq => ?_, fun i j x y hi hj hxy => ?_, fun k q hq => ?_⟩
  · rcases key k q hq with ⟨j, -, h2⟩ | ⟨h1, h2⟩
    · exact hP1 j q h2
    · obtain ⟨g1, g2⟩ := apart k q h1 h2
      exact (hP k q h2).kept (hk q.1 g1 g2)
  · rcases key i x hi with ⟨i1, a1, a2⟩ | ⟨a1, a2⟩ <;> rcases key j y hj with ⟨j1, b1, b2⟩ | ⟨b1, b2⟩
    · have e1 := hD1.1 i1 j1 x y a2 b2 hxy
      subst e1
      exact Option.some.inj (a1.symm.trans b1)
    · exact absurd (by rw [← hxy]; exact hD1.2 i1 x a2) (apart j y b1 b2).2
    · exact absurd (by rw [hxy]; exact hD1.2 j1 y b2) (apart i x a1 a2).2
    · exact hD.1 i j x y a2 b2 hxy
  · rcases key k q hq with ⟨j, -, h2⟩ | ⟨-, h2⟩
    · exact hF _ (hD1.2 j q h2)
    · exact hD.2 k q h2
theorem pre_ok {G : GG} {s : State} {H : Heap} {A : Nat → Prop} {wc : va_W} {av : List Value} (hK : KN G s) (hPc : va_P G.1 vwCl wc H) (hDc : va_D A wc) : ∀ U : State, U.heap = H → s.WarmedH U.vm → Pre G av wc H.size av.toArray U :=
  fun U hU hW => ⟨rfl, by rw [hU], by rw [hU]; exact hPc, hK.warm hW, hDc.weaken (fun _ _ _ _ => trivial)⟩
theorem sub_of {ws wc : va_W} {isC : List Nat} (h : isC.map (fun i => ws[i]?) = wc.map some) : isC.filterMap (fun i => ws[i]?) = wc := by
  have h1 : (isC.map (fun i => ws[i]?)).filterMap id = (wc.map some).filterMap id := by rw [h]
  rw [List.filterMap_map, List.filterMap_map] at h1
  simpa using h1
section OWN
variable {p : Program} {l : Launch} {e : Env} {R : Room} {s : State} {m : MethodId} {args : Array Value} {below : List Frame} {meth : Method} {c : Code} {H : Heap} {locs : List Loc} {cells slots : Nat} {Q : State → Prop}
variable {pc : Nat} {ls : Array Slot} {rest st0 : List Value} {a : Array Value} {A : Nat → Prop} {H0 : Heap} {mc ms : Nat} {G : GG} {ws wc : va_W}
theorem gcall_I {S : Type} {post : Int32 → S → Prop} {cs : S → va_W} (hr : va_Run p l e R s m args below meth c H locs cells slots mc ms (F0 m pc ls st0) rest (PI G (va_A wc H.size) post cs a) (va_A wc H.size)) (hP : va_P G.1 vwCl ws H) (hD : va_D A ws) (hS : va_S A H0 H locs) (hA : ∀ q, H0.size ≤ q → A q) (isC : List Nat) (hC : isC.map (fun i => ws[i]?) = wc.map some) (hn : va_nd isC = true) (hlen : ∀ u, isC.length = (cs u).length)
    (kk : ∀ (r : Int32) (u : S) (H1 : Heap) (locs1 : List Loc), post r u → va_P G.1 vwCl (putb ws isC (cs u)) H1 → va_D A (putb ws isC (cs u)) → va_S A H0 H1 locs1 → W p l e R s m args below meth c H1 locs1 (cells + mc) (slots + ms) Q (F0 m (pc + 3) ls (.int r :: rest))) : W p l e R s m args below meth c H locs cells slots Q (F0 m pc ls st0) := by
  have hF := va_free hD hS hA isC hC
  refine va_calli hr hS (fun q _ h => hF q h) hF (fun r u t H1 locs1 ht _ hw hB _ hk1 hS1 => ?_)
  obtain ⟨hP1, hD1⟩ := hB
  rw [ht] at hP1
  obtain ⟨g1, g2⟩ := va_back hP hD isC hC hn (hlen u) hk1 hF hP1 hD1
  exact kk r u H1 locs1 hw g1 g2 hS1
theorem gcall_V {S : Type} {post : S → Prop} {cs : S → va_W} (hr : va_Run p l e R s m args below meth c H locs cells slots mc ms (F0 m pc ls st0) rest (PV G (va_A wc H.size) post cs a) (va_A wc H.size)) (hP : va_P G.1 vwCl ws H) (hD : va_D A ws) (hS : va_S A H0 H locs) (hA : ∀ q, H0.size ≤ q → A q) (isC : List Nat) (hC : isC.map (fun i => ws[i]?) = wc.map some) (hn : va_nd isC = true) (hlen : ∀ u, isC.length = (cs u).length)
    (kk : ∀ (u : S) (H1 : Heap) (locs1 : List Loc), post u → va_P G.1 vwCl (putb ws isC (cs u)) H1 → va_D A (putb ws isC (cs u)) → va_S A H0 H1 locs1 → W p l e R s m args below meth c H1 locs1 (cells + mc) (slots + ms) Q (F0 m (pc + 3) ls rest)) : W p l e R s m args below meth c H locs cells slots Q (F0 m pc ls st0) := by
  have hF := va_free hD hS hA isC hC
  refine va_callv hr hS (fun q _ h => hF q h) hF (fun u t H1 locs1 ht _ hw hB _ hk1 hS1 => ?_)
  obtain ⟨hP1, hD1⟩ := hB
  rw [ht] at hP1
  obtain ⟨g1, g2⟩ := va_back hP hD isC hC hn (hlen u) hk1 hF hP1 hD1
  exact kk u H1 locs1 hw g1 g2 hS1
theorem gcall_Q {S : Type} {post : Option Nat → S → Prop} {cs : S → va_W} (hr : va_Run p l e R s m args below meth c H locs cells slots mc ms (F0 m pc ls st0) rest (PQ G (va_A wc H.size) post cs a) (va_A wc H.size)) (hP : va_P G.1 vwCl ws H) (hD : va_D A ws) (hS : va_S A H0 H locs) (hA : ∀ q, H0.size ≤ q → A q) (isC : List Nat) (hC : isC.map (fun i => ws[i]?) = wc.map some) (hn : va_nd isC = true) (hlen : ∀ u, isC.length = (cs u).length)
    (kk : ∀ (r : Option Nat) (u : S) (H1 : Heap) (locs1 : List Loc), post r u → va_P G.1 vwCl (putb ws isC (cs u)) H1 → va_D A (putb ws isC (cs u)) → va_S A H0 H1 locs1 → W p l e R s m args below meth c H1 locs1 (cells + mc) (slots + ms) Q (F0 m (pc + 3) ls (va_rf r :: rest))) : W p l e R s m args below meth c H locs cells slots Q (F0 m pc ls st0) := by
  have hF := va_free hD hS hA isC hC
  refine va_callq hr hS (fun q _ h => hF q h) hF (fun r u t H1 locs1 ht _ hw hB _ hk1 hS1 => ?_)
  obtain ⟨hP1, hD1⟩ := hB
  rw [ht] at hP1
  obtain ⟨g1, g2⟩ := va_back hP hD isC hC hn (hlen u) hk1 hF hP1 hD1
  exact kk r u H1 locs1 hw g1 g2 hS1
/-- the three ways to start a method: on an object, as a static one, as a static one of the nest -/
theorem run_V {y : MethodName} {bytes cc : ByteArray} {maxL nL n index : Nat} {ret ret0 : Option FieldType} {wsy : List Cond} {rm : Room} {Qc : Array Value → State → Outcome → State → Prop} {Ts : List Cond} {own Cn : String} {b : Addr} {As : List Value}
    (X : Cx p s m args meth c cc nL Ts own ret0) (hK : KN G s) (hP : va_P G.1 vwCl ws H) (hD : va_D A ws) (hM : Met l y wsy rm (Pre G (.ref b :: As) wc H.size) Qc mc ms (va_A wc H.size)) (cw : CallW R s args own Cn index y bytes maxL ret wsy rm mc ms n) (isC : List Nat) (hC : isC.map (fun i => ws[i]?) = wc.map some) (hn : va_nd isC = true)
    (q0 : Nat) {ci : Nat} {q : vw_C} {fs : List Value} (he : ws[q0]? = some (b, .inr (ci, fs))) (hc : vwCl[ci]? = some q) (hq : q.1 = Cn) (hAs : As.length = n) (hsize : ls.size = nL) (hst : st0 = As.reverse ++ .ref b :: rest) (hW : (rest.map fun v => v.category).sum ≤ 8) (hdg : decode cc pc = .ok (.invokevirtual index, 3)) (hf : cells + mc ≤ R.cells ∧ slots + ms ≤ R.slots) :
    va_Run p l e R s m args below meth c H locs cells slots mc ms (F0 m pc ls st0) rest (Qc (Value.ref b :: As).toArray) (va_A wc H.size) := by
  subst hq
  exact va_runV (g := F0 m pc ls st0) ⟨X.1, X.2.1, X.2.2.2.1, X.2.2.2.2.1, X.2.2.2.2.2.1⟩ hM cw ⟨Pre.blind, va_recv hK.1 hP hc he, pre_ok hK (hP.sub isC (sub_of hC)) (hD.sub isC hn hC)⟩ rfl hAs hsize hst (lv_room (ls := ls) (pc := pc) (m := m) hW) hdg hf
theorem run_S {y : MethodName} {bytes cc : ByteArray} {maxL nL n index : Nat} {ret ret0 : Option FieldType} {wsy : List Cond} {rm : Room} {Qc : Array Value → State → Outcome → State → Prop} {Ts : List Cond} {own : String} {As : List Value}
    (X : Cx p s m args meth c cc nL Ts own ret0) (hK : KN G s) (hP : va_P G.1 vwCl ws H) (hD : va_D A ws) (hM : Met l y wsy rm (Pre G As wc H.size) Qc mc ms (va_A wc H.size)) (cw : CallB R s args own index y bytes maxL ret wsy rm mc ms n ∧ (Cond.static y).before args s = true) (isC : List Nat) (hC : isC.map (fun i => ws[i]?) = wc.map some) (hn : va_nd isC = true)
    (hAs : As.length = n) (hsize : ls.size = nL) (hst : st0 = As.reverse ++ rest) (hW : (rest.map fun v => v.category).sum ≤ 8) (hdg : decode cc pc = .ok (.invokestatic index, 3)) (hf : cells + mc ≤ R.cells ∧ slots + ms ≤ R.slots) :
    va_Run p l e R s m args below meth c H locs cells slots mc ms (F0 m pc ls st0) rest (Qc As.toArray) (va_A wc H.size) :=
  va_runS (g := F0 m pc ls st0) ⟨X.1, X.2.1, X.2.2.2.1, X.2.2.2.2.1, X.2.2.2.2.2.1⟩ hM cw ⟨Pre.blind, pre_ok hK (hP.sub isC (sub_of hC)) (hD.sub isC hn hC)⟩ rfl hAs hsize hst (lv_room (ls := ls) (pc := pc) (m := m) hW) hdg hf
theorem run_SN {y : MethodName} {bytes cc : ByteArray} {maxL nL n index : Nat} {ret ret0 : Option FieldType} {wsy : List Cond} {rm : Room} {Qc : Array Value → State → Outcome → State → Prop} {Ts : List Cond} {own host : String} {As : List Value}
    (X : Cx p s m args meth c cc nL Ts own ret0) (hK : KN G s) (hP : va_P G.1 vwCl ws H) (hD : va_D A ws) (hM : Met l y wsy rm (Pre G As wc H.size) Qc mc ms (va_A wc H.size)) (cw : va_CN R s args own index y host bytes maxL ret wsy rm mc ms n) (hstat : (Cond.static y).before args s = true) (isC : List Nat) (hC : isC.map (fun i => ws[i]?) = wc.map some) (hn : va_nd isC = true)
    (hAs : As.length = n) (hsize : ls.size = nL) (hst : st0 = As.reverse ++ rest) (hW : (rest.map fun v => v.category).sum ≤ 8) (hdg : decode cc pc = .ok (.invokestatic index, 3)) (hf : cells + mc ≤ R.cells ∧ slots + ms ≤ R.slots) :
    va_Run p l e R s m args below meth c H locs cells slots mc ms (F0 m pc ls st0) rest (Qc As.toArray) (va_A wc H.size) :=
  va_runSN (g := F0 m pc ls st0) ⟨X.1, X.2.1, X.2.2.2.1, X.2.2.2.2.1, X.2.2.2.2.2.1⟩ hM ⟨cw, hstat, trivial⟩ ⟨Pre.blind, pre_ok hK (hP.sub isC (sub_of hC)) (hD.sub isC hn hC)⟩ rfl hAs hsize hst (lv_room (ls := ls) (pc := pc) (m := m) hW) hdg hf
/-- ends -/
theorem end_I {cc : ByteArray} {nL : Nat} {Ts : List Cond} {own : String} {S : Type} {post : Int32 → S → Prop} {cs : S → va_W} {r : Int32} (X : Cx p s m args meth c cc nL Ts own (some .int)) (hP : va_P G.1 vwCl ws H) (hD : va_D A ws) (hS : va_S A s.heap H locs) (u : S) (hp : post r u) (hu : cs u = ws) (hdg : decode cc pc = .ok (.ireturn, 1)) : W p l e R s m args below meth c H locs cells slots (MQ below (PI G A post cs) args s cells slots A) (F0 m pc ls [.int r]) := by
  obtain ⟨hx, hb, hr, -, -, -, hlocks⟩ := X
  subst hu
  exact W.iret hx hb hr (fun t ht hW => ⟨⟨r, u, rfl, hp, by rw [ht]; exact hP, hD⟩, hS.F ht⟩) hS.2.2 hdg
theorem end_Z {cc : ByteArray} {nL : Nat} {Ts : List Cond} {own : String} {S : Type} {post : Int32 → S → Prop} {cs : S → va_W} {r : Int32} (X : Cx p s m args meth c cc nL Ts own (some .boolean)) (hn : narrow .boolean (.int r) = .int r) (hP : va_P G.1 vwCl ws H) (hD : va_D A ws) (hS : va_S A s.heap H locs) (u : S) (hp : post r u) (hu : cs u = ws) (hdg : decode cc pc = .ok (.ireturn, 1)) : W p l e R s m args below meth c H locs cells slots (MQ below (PI G A post cs) args s cells slots A) (F0 m pc ls [.int r]) := by
  obtain ⟨hx, hb, hr, -, -, -, hlocks⟩ := X
  subst hu
  exact W.zret hx hb hr hn (fun t ht hW => ⟨⟨r, u, rfl, hp, by rw [ht]; exact hP, hD⟩, hS.F ht⟩) hS.2.2 hdg
theorem end_V {cc : ByteArray} {nL : Nat} {Ts : List Cond} {own : String} {S : Type} {post : S → Prop} {cs : S → va_W} (X : Cx p s m args meth c cc nL Ts own none) (hP : va_P G.1 vwCl ws H) (hD : va_D A ws) (hS : va_S A s.heap H locs) (u : S) (hp : post u) (hu : cs u = ws) (hdg : decode cc pc = .ok (.return_, 1)) : W p l e R s m args below meth c H locs cells slots (MQ below (PV G A post cs) args s cells slots A) (F0 m pc ls []) := by
  obtain ⟨hx, hb, hr, -, -, -, hlocks⟩ := X
  subst hu
  exact W.vret hx hb hr (fun t ht hW => ⟨⟨u, rfl, hp, by rw [ht]; exact hP, hD⟩, hS.F ht⟩) hS.2.2 hdg
theorem end_Q {cc : ByteArray} {nL : Nat} {Ts : List Cond} {own : String} {S : Type} {post : Option Nat → S → Prop} {cs : S → va_W} {r : Option Nat} {v : Value} {nm : String} (X : Cx p s m args meth c cc nL Ts own (some (.object nm))) (hv : va_rf r = v) (hP : va_P G.1 vwCl ws H) (hD : va_D A ws) (hS : va_S A s.heap H locs) (u : S) (hp : post r u) (hu : cs u = ws) (hdg : decode cc pc = .ok (.areturn, 1)) : W p l e R s m args below meth c H locs cells slots (MQ below (PQ G A post cs) args s cells slots A) (F0 m pc ls [v]) := by
  obtain ⟨hx, hb, hr, -, -, -, hlocks⟩ := X
  subst hu
  subst hv
  exact W.aret hx hb hr (Or.inl ⟨nm, rfl⟩) (va_rf_or r) (fun t ht hW => ⟨⟨r, u, rfl, hp, by rw [ht]; exact hP, hD⟩, hS.F ht⟩) hS.2.2 hdg
/-- arrays at a known place -/
theorem n_iald {cc : ByteArray} (hx : p.tables.exec = Jvm.exec) (hb : c.code = cc) (hK : KN G s) (hP : va_P G.1 vwCl ws H) (q0 : Nat) {b n : Nat} {f : Nat → Int32} (ha : ws[q0]? = some (b, .inl (G.2 0, n, .inl f))) {j : Nat} (hj : j < n) (hn : n < 2 ^ 31) (hdg : decode cc pc = .ok (.iaload, 1))
    (kk : W p l e R s m args below meth c H locs cells slots Q (F0 m (pc + 1) ls (.int (f j) :: rest))) : W p l e R s m args below meth c H locs cells slots Q (F0 m pc ls (.int (nI j) :: .ref b :: rest)) := by
  refine va_iald hx hb hK.1 hP q0 0 ha rfl (vp_in_nI hj hn) hdg ?_
  rw [nI_clamp (Nat.lt_trans hj hn)]
  exact kk
theorem n_cald {cc : ByteArray} (hx : p.tables.exec = Jvm.exec) (hb : c.code = cc) (hK : KN G s) (hP : va_P G.1 vwCl ws H) (q0 : Nat) {b n : Nat} {f : Nat → Int32} (ha : ws[q0]? = some (b, .inl (G.2 1, n, .inl f))) {j : Nat} (hj : j < n) (hn : n < 2 ^ 31) (hdg : decode cc pc = .ok (.caload, 1))
    (kk : W p l e R s m args below meth c H locs cells slots Q (F0 m (pc + 1) ls (.int (f j) :: rest))) : W p l e R s m args below meth c H locs cells slots Q (F0 m pc ls (.int (nI j) :: .ref b :: rest)) := by
  refine va_cald hx hb hK.1 hP q0 1 ha rfl (vp_in_nI hj hn) hdg ?_
  rw [nI_clamp (Nat.lt_trans hj hn)]
  exact kk
theorem n_iast {cc : ByteArray} (hx : p.tables.exec = Jvm.exec) (hb : c.code = cc) (hK : KN G s) (hP : va_P G.1 vwCl ws H) (hD : va_D A ws) (hS : va_S A H0 H locs) (q0 : Nat) {b n : Nat} {f : Nat → Int32} (ha : ws[q0]? = some (b, .inl (G.2 0, n, .inl f))) {j : Nat} (hj : j < n) (hn : n < 2 ^ 31) {x : Int32} (hdg : decode cc pc = .ok (.iastore, 1))
    (kk : ∀ (H1 : Heap) (locs1 : List Loc), va_P G.1 vwCl (ws.set q0 (b, .inl (G.2 0, n, .inl (upd f j x)))) H1 → va_D A (ws.set q0 (b, .inl (G.2 0, n, .inl (upd f j x)))) → va_S A H0 H1 locs1 → W p l e R s m args below meth c H1 locs1 cells slots Q (F0 m (pc + 1) ls rest)) : W p l e R s m args below meth c H locs cells slots Q (F0 m pc ls (.int x :: .int (nI j) :: .ref b :: rest)) := by
  refine va_iast hx hb hK.1 hP hD hS q0 0 ha rfl (vp_in_nI hj hn) hdg (fun H1 locs1 h1 h2 h3 => ?_)
  rw [nI_clamp (Nat.lt_trans hj hn)] at h1 h2
  exact kk H1 locs1 h1 h2 h3
theorem n_aald {cc : ByteArray} (hx : p.tables.exec = Jvm.exec) (hb : c.code = cc) (hK : KN G s) (hP : va_P G.1 vwCl ws H) (q0 t0 : Nat) {Cn : String} {b n : Nat} {f : Nat → Option Nat} (ha : ws[q0]? = some (b, .inl (G.2 t0, n, .inr (.inr (.inr (.inr f)))))) (ht : (TYG G)[t0]? = some (G.2 t0, .object Cn)) {j : Nat} (hj : j < n) (hn : n < 2 ^ 31) {v : Value} (hv : va_rf (f j) = v) (hdg : decode cc pc = .ok (.aaload, 1))
    (kk : W p l e R s m args below meth c H locs cells slots Q (F0 m (pc + 1) ls (v :: rest))) : W p l e R s m args below meth c H locs cells slots Q (F0 m pc ls (.int (nI j) :: .ref b :: rest)) := by
  refine va_aldq hx hb hK.1 hP q0 t0 ha ht (vp_in_nI hj hn) hdg ?_
  rw [nI_clamp (Nat.lt_trans hj hn), hv]
  exact kk
theorem n_alen {cc : ByteArray} (hx : p.tables.exec = Jvm.exec) (hb : c.code = cc) (hK : KN G s) (hP : va_P G.1 vwCl ws H) (q0 t0 : Nat) {b n : Nat} {y} (ha : ws[q0]? = some (b, .inl (G.2 t0, n, y))) {ty : FieldType} (ht : (TYG G)[t0]? = some (G.2 t0, ty)) (hdg : decode cc pc = .ok (.arraylength, 1))
    (kk : W p l e R s m args below meth c H locs cells slots Q (F0 m (pc + 1) ls (.int (nI n) :: rest))) : W p l e R s m args below meth c H locs cells slots Q (F0 m pc ls (.ref b :: rest)) :=
  va_alen hx hb hK.1 hP q0 t0 ha ht rfl hdg kk
/-- sums of numbers that are known to be natural -/
theorem n_iadd {cc : ByteArray} (hx : p.tables.exec = Jvm.exec) (hb : c.code = cc) {i j : Nat} (hdg : decode cc pc = .ok (.iadd, 1)) (k : W p l e R s m args below meth c H locs cells slots Q (F0 m (pc + 1) ls (.int (nI (i + j)) :: rest))) : W p l e R s m args below meth c H locs cells slots Q (F0 m pc ls (.int (nI j) :: .int (nI i) :: rest)) := by
  refine lv_iadd hx hb hdg ?_
  rw [nI_add]
  exact k
theorem n_imul {cc : ByteArray} (hx : p.tables.exec = Jvm.exec) (hb : c.code = cc) {i j : Nat} (hdg : decode cc pc = .ok (.imul, 1)) (k : W p l e R s m args below meth c H locs cells slots Q (F0 m (pc + 1) ls (.int (nI (i * j)) :: rest))) : W p l e R s m args below meth c H locs cells slots Q (F0 m pc ls (.int (nI j) :: .int (nI i) :: rest)) := by
  refine lv_imul hx hb hdg ?_
  rw [pk_mul]
  exact k
theorem n_isub {cc : ByteArray} (hx : p.tables.exec = Jvm.exec) (hb : c.code = cc) {i j : Nat} (hij : j ≤ i) (hdg : decode cc pc = .ok (.isub, 1)) (k : W p l e R s m args below meth c H locs cells slots Q (F0 m (pc + 1) ls (.int (nI (i - j)) :: rest))) : W p l e R s m args below meth c H locs cells slots Q (F0 m pc ls (.int (nI j) :: .int (nI i) :: rest)) := by
  refine lv_isub hx hb hdg ?_
  rw [pk_sub hij]
  exact k
end OWN
