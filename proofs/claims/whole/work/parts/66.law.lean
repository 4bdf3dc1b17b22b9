/-! THE CLAIM OUT OF ONE WALK OF THE LAW'S BODY (the head of the kit's skeleton) -/
def R_law : String := "SteamRationsLaw"
def lw_P (b : Addr) (xs : List Int32) (args : Array Value) (s : State) : Prop := args = #[.ref b] ∧ s.IntsAt b xs ∧ xs.length ≤ 2560 ∧ (Jvm.Cond.and given_1 narrow_1).before args s = true
def lw_Q (_ : Array Value) (s : State) (o : Outcome) (t : State) : Prop := o = .returned (some (.int 1)) ∧ Framed s o t [] 108 1188
def lw_Z (below : List Frame) (a : Array Value) (s : State) : State → Prop := fun t => ∃ o, t.status = .running ∧ Ended t below o ∧ lw_Q a s o t
/-- the law's own end, with 1 on the stack, nothing written that was there before, its room as the claim has it -/
theorem lw_ret {p : Program} {l : Launch} {e : Env} {s : State} {m : MethodId} {below : List Frame} {meth : Method} {c : Code} {b : Nat} (hx : p.tables.exec = Jvm.exec) (hb : c.code = code) (hr : meth.sig.returnType = ret) (hlocks : meth.locks = false) {pc : Nat} {H : Heap} {ls : Array Slot} (hdg : decode code pc = .ok (.ireturn, 1)) : W p l e room_1 s m #[Value.ref b] below meth c H [] 108 1188 (lw_Z below #[Value.ref b] s) (F0 m pc ls [.int 1]) := by
  intro T hT X
  obtain ⟨fs, hret, hrun, hended, hW, hframe⟩ := X.leave (v := some (.int 1)) (hlocks := hlocks) (fun h => by rw [hr] at h; cases h)
  have hmeth' : T.vm.method? m = some meth := X.method'
  refine ⟨T.setFrames fs, ?_, .returned (some (.int 1)), hrun, hended, rfl, ⟨_, rfl⟩, hW, hframe⟩
  jvm_step X.here [X.here.top, hx, hb, hdg, hmeth', hr, ret, narrow_b1]
  (try refine ⟨rfl, ?_⟩); (try refine ⟨rfl, ?_⟩)
  first | (intro acts; rw [hret _ acts rfl rfl rfl]) | rw [hret _ _ rfl rfl rfl]
  exact Steps.refl _
/-- what holds at the law's entry: the machine, the code, the tables' words (any of lw_tbl by 'hts w (by decide +kernel)'), the script of L ints xs at the cell b, what the Statement gives of the start (any of its parts by flat_of_before) -/
def lw_At (p : Program) (s : State) (m : MethodId) (meth : Method) (c : Code) (b L : Nat) (xs : Nat → Int32) : Prop :=
  p.tables.exec = Jvm.exec ∧ c.code = code ∧ meth.sig.returnType = ret ∧ c.maxLocals = 4 ∧ s.vm.findClass R_law = some m.cls ∧ (∀ w ∈ lw_tbl, w.before #[Value.ref b] s = true) ∧ va_X b L xs s s.heap ∧ b < s.heap.size ∧ meth.locks = false ∧ (Jvm.Cond.and given_1 narrow_1).before #[Value.ref b] s = true
/-! the law: the world, and what one argument costs -/
abbrev WS (G : GG) (h : Nat) (xn xb xe xt xz : Nat → Nat) (hh ht hk tk : Nat) (a : Nat → Nat) (hs sn se : Int32) (nv nq bv bq av aq yv yq zv zq : Nat → Int32) (hn : Nat) (ys : Nat → Nat → Nat) (vs qs : Nat → Nat → Int32) (tp tl tr tg tv : Int32) (T g M T2 Y : Nat → Int32) : List va_W := [SC h xn xb xe xt xz hh ht hs sn se, LC G xn nv nq, LC G xb bv bq, LC G xe av aq, LC G xt yv yq, LC G xz zv zq, HB G hh hk hn ys vs qs, OT G ht tk tp tl tr tg tv T, MC G a g M T2 Y]
def A0 (s : State) : Nat → Prop := fun q => s.heap.size ≤ q
def KT (p : Program) (l : Launch) (e : Env) (s : State) (m : MethodId) (below : List Frame) (meth : Method) (c : Code) (b : Nat) (G : GG) (h : Nat) (xn xb xe xt xz : Nat → Nat) (hh ht hk tk : Nat) (a : Nat → Nat) (ls : Array Slot) : Prop := ∀ (hs sn se : Int32) (nv nq bv bq av aq yv yq zv zq : Nat → Int32) (hn : Nat) (ys : Nat → Nat → Nat) (vs qs : Nat → Nat → Int32) (tp tl tr tg tv : Int32) (T g M Y : Nat → Int32), Rl hs sn se nv nq zv zq hn vs qs tl g M → ∀ (H : Heap) (locs : List Loc), BW G (A0 s) (WS G h xn xb xe xt xz hh ht hk tk a hs sn se nv nq bv bq av aq yv yq zv zq hn ys vs qs tp tl tr tg tv T g M T Y) H → va_S (A0 s) s.heap H locs → W p l e room_1 s m #[Value.ref b] below meth c H locs 108 1188 (lw_Z below #[Value.ref b] s) (F0 m 691 ls [])
theorem law_arg {p : Program} {l : Launch} {e : Env} {s : State} {m : MethodId} {below : List Frame} {meth : Method} {c : Code} {b L i : Nat} {xs : Nat → Int32} {ls : Array Slot} {H : Heap} {locs : List Loc} {Q : State → Prop} {cells slots pc k h a0 : Nat} {kz : Int} {st : List Value} (C0 : lw_At p s m meth c b L xs) (hS : va_S (A0 s) s.heap H locs) (hl : lv_has ls 4 [(0, .ref b), (1, .ref h), (2, .ref a0), (3, .int (nI i))]) (hL : L ≤ 2560) (hk : i + k < L) (hz : Int32.ofInt kz = nI k) (d0 : decode code pc = .ok (.aload_n 0, 1)) (d1 : decode code (pc + 1) = .ok (.iload_n 3, 1)) (d2 : decode code (pc + 2) = .ok (.iconst kz, 1)) (d3 : decode code (pc + 3) = .ok (.iadd, 1)) (d4 : decode code (pc + 4) = .ok (.iaload, 1))
    (kk : W p l e room_1 s m #[Value.ref b] below meth c H locs cells slots Q (F0 m (pc + 5) ls (.int (xs (i + k)) :: st))) : W p l e room_1 s m #[Value.ref b] below meth c H locs cells slots Q (F0 m pc ls st) := by
  obtain ⟨hx, hb, hr, hml, hown, hts, hX, hbl, hlocks, hgv⟩ := C0
  have hbA : ¬ (A0 s) b := Nat.not_le.mpr hbl
  refine lv_aload_n hx hb d0 rfl (lv_at hl 0 rfl) ?_
  refine lv_iload_n hx hb d1 rfl (lv_at hl 3 rfl) ?_
  refine lv_iconst (v := nI k) hx hb d2 hz ?_
  refine n_iadd (i := i) (j := k) hx hb d3 ?_
  refine va_sld hx hb hX hbl hbA hS (vp_in_nI hk (by omega)) d4 ?_
  rw [nI_clamp (by omega)]
  exact kk
