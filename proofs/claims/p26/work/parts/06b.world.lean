/-! the history with its states, the class's own object -/
section OWN2
variable {p : Program} {l : Launch} {e : Env} {R : Room} {s : State} {m : MethodId} {args : Array Value} {below : List Frame} {meth : Method} {c : Code} {H : Heap} {locs : List Loc} {cells slots : Nat} {Q : State → Prop}
variable {pc : Nat} {ls : Array Slot} {rest : List Value} {A : Nat → Prop} {H0 : Heap} {G : GG} {ws : va_W}
theorem n_aast {cc : ByteArray} (hx : p.tables.exec = Jvm.exec) (hb : c.code = cc) (hK : KN G s) (hP : va_P G.1 vwCl ws H) (hD : va_D A ws) (hS : va_S A H0 H locs) (q0 t0 qk : Nat) {ci : Nat} {r : vw_C} {b n v : Nat} {vs : List Value} {f : Nat → Option Nat} (ha : ws[q0]? = some (b, .inl (G.2 t0, n, .inr (.inr (.inr (.inr f)))))) (ht : (TYG G)[t0]? = some (G.2 t0, .object r.1)) (hv : ws[qk]? = some (v, .inr (ci, vs))) (hc : vwCl[ci]? = some r) {j : Nat} (hj : j < n) (hn : n < 2 ^ 31) (hdg : decode cc pc = .ok (.aastore, 1))
    (kk : ∀ (H1 : Heap) (locs1 : List Loc), va_P G.1 vwCl (ws.set q0 (b, .inl (G.2 t0, n, .inr (.inr (.inr (.inr (va_up f j (some v)))))))) H1 → va_D A (ws.set q0 (b, .inl (G.2 t0, n, .inr (.inr (.inr (.inr (va_up f j (some v)))))))) → va_S A H0 H1 locs1 → W p l e R s m args below meth c H1 locs1 cells slots Q (F0 m (pc + 1) ls rest)) : W p l e R s m args below meth c H locs cells slots Q (F0 m pc ls (.ref v :: .int (nI j) :: .ref b :: rest)) := by
  refine va_astq hx hb hK.1 hP hD hS q0 t0 qk ci ha ht hv hc (vp_in_nI hj hn) hdg (fun H1 locs1 h1 h2 h3 => ?_)
  rw [nI_clamp (Nat.lt_trans hj hn)] at h1 h2
  exact kk H1 locs1 h1 h2 h3
end OWN2
theorem va_P_arrq {D : va_G} {cl : List vw_C} {ws ws' : va_W} {H : Heap} {k a n : Nat} {cA : ClassId} {f g : Nat → Option Nat} (hfg : ∀ j, j < n → f j = g j) (h : va_P D cl ws H) (he : ws[k]? = some (a, .inl (cA, n, .inr (.inr (.inr (.inr f)))))) (hw : ws.set k (a, .inl (cA, n, .inr (.inr (.inr (.inr g))))) = ws') : va_P D cl ws' H := by
  subst hw
  have hl := (List.getElem?_eq_some_iff.mp he).1
  intro i q hq
  by_cases hi : i = k
  · subst hi
    rw [List.getElem?_set_self hl] at hq
    cases hq
    have h1 : va_at D cl (a, .inl (cA, n, .inr (.inr (.inr (.inr f))))) H := h i _ he
    show H[a]? = some (vp_cell cA (n, .inr (.inr (.inr (.inr g)))))
    have h2 : H[a]? = some (vp_cell cA (n, .inr (.inr (.inr (.inr f))))) := h1
    rw [h2, vp_cell_q, vp_cell_q]
    have e : (Array.ofFn (n := n) fun j => va_rf (f j.val)) = Array.ofFn (n := n) fun j => va_rf (g j.val) := by
      congr 1
      funext j
      rw [hfg j.val j.isLt]
    unfold arrV
    rw [e]
  · rw [List.getElem?_set_ne (Ne.symm hi)] at hq
    exact h i q hq
theorem Met.imp {l : Launch} {y : MethodName} {ws : List Cond} {rm : Room} {Pc : Array Value → State → Prop} {Qc Qc' : Array Value → State → Outcome → State → Prop} {mc ms : Nat} {free : Addr → Prop} (h : Met l y ws rm Pc Qc mc ms free) (hq : ∀ a st o t, Qc a st o t → Qc' a st o t) : Met l y ws rm Pc Qc' mc ms free := by
  intro p e ha hc hk s m args below hf hap hP hK
  obtain ⟨n, o, h1, h2, h3, h4, h5⟩ := h p e ha hc hk s m args below hf hap hP hK
  exact ⟨n, o, h1, h2, h3, hq _ _ _ _ h4, h5⟩
theorem Met.impV {l : Launch} {y : MethodName} {ws : List Cond} {rm : Room} {Pc : Array Value → State → Prop} {mc ms : Nat} {free : Addr → Prop} {G : GG} {A : Nat → Prop} {S S' : Type} {post : S → Prop} {post' : S' → Prop} {cs : S → va_W} {cs' : S' → va_W} (h : Met l y ws rm Pc (PV G A post cs) mc ms free) (f : S → S') (hq : ∀ u, post u → post' (f u) ∧ cs' (f u) = cs u) : Met l y ws rm Pc (PV G A post' cs') mc ms free := by
  refine h.imp (fun a st o t hQ => ?_)
  obtain ⟨⟨u, h1, h2, h3, h4⟩, h5⟩ := hQ
  obtain ⟨g1, g2⟩ := hq u h2
  exact ⟨⟨f u, h1, g1, by rw [g2]; exact h3, by rw [g2]; exact h4⟩, h5⟩
theorem Met.impI {l : Launch} {y : MethodName} {ws : List Cond} {rm : Room} {Pc : Array Value → State → Prop} {mc ms : Nat} {free : Addr → Prop} {G : GG} {A : Nat → Prop} {S S' : Type} {post : Int32 → S → Prop} {post' : Int32 → S' → Prop} {cs : S → va_W} {cs' : S' → va_W} (h : Met l y ws rm Pc (PI G A post cs) mc ms free) (f : S → S') (hq : ∀ r u, post r u → post' r (f u) ∧ cs' (f u) = cs u) : Met l y ws rm Pc (PI G A post' cs') mc ms free := by
  refine h.imp (fun a st o t hQ => ?_)
  obtain ⟨⟨r, u, h1, h2, h3, h4⟩, h5⟩ := hQ
  obtain ⟨g1, g2⟩ := hq r u h2
  exact ⟨⟨r, f u, h1, g1, by rw [g2]; exact h3, by rw [g2]; exact h4⟩, h5⟩
def rf4 (r0 r1 r2 r3 : Nat) : Nat → Option Nat := fun j => if j = 0 then some r0 else if j = 1 then some r1 else if j = 2 then some r2 else some r3
abbrev OB (r : Nat) (fl : List Value) : va_W := [(r, .inr (2, fl))]
abbrev HC (G : GG) (h k : Nat) (hz : Int32) (r0 r1 r2 r3 : Nat) : va_W := [(h, .inr (1, [.ref k, .int hz])), (k, .inl (G.2 4, 4, .inr (.inr (.inr (.inr (rf4 r0 r1 r2 r3))))))]
abbrev HB (G : GG) (h k : Nat) (hn : Nat) (xs : Nat → Nat → Nat) (vs qs : Nat → Nat → Int32) : va_W := HC G h k (nI hn) (xs 0 0) (xs 1 0) (xs 2 0) (xs 3 0) ++ LC G (xs 0) (vs 0) (qs 0) ++ LC G (xs 1) (vs 1) (qs 1) ++ LC G (xs 2) (vs 2) (qs 2) ++ LC G (xs 3) (vs 3) (qs 3)
abbrev SC (h : Nat) (xn xb xe xt xz : Nat → Nat) (hh ht : Nat) (hs sn se : Int32) : va_W := [(h, .inr (6, [.ref (xn 0), .ref (xb 0), .ref (xe 0), .ref (xt 0), .ref (xz 0), .ref hh, .ref ht, .int hs, .int sn, .int se]))]
/-! worlds by blocks: a call puts whole blocks back, no cell is looked at -/
def FL1 : va_W → List va_W → va_W
  | acc, [] => acc
  | acc, B :: r => FL1 (acc ++ B) r
def FLl : List va_W → va_W
  | [] => []
  | B :: r => FL1 B r
def BW (G : GG) (A : Nat → Prop) (bs : List va_W) (H : Heap) : Prop := (∀ (i : Nat) (B : va_W), bs[i]? = some B → va_P G.1 vwCl B H ∧ va_D A B) ∧ ∀ (i j : Nat) (B C : va_W), i ≠ j → bs[i]? = some B → bs[j]? = some C → ∀ p ∈ B, ∀ r ∈ C, p.1 ≠ r.1
theorem va_D.left {A : Nat → Prop} {B C : va_W} (h : va_D A (B ++ C)) : va_D A B := by
  refine ⟨fun i j p q hi hj hpq => h.1 i j p q ?_ ?_ hpq, fun k q hk => h.2 k q ?_⟩
  · rw [List.getElem?_append_left (List.getElem?_eq_some_iff.mp hi).1]; exact hi
  · rw [List.getElem?_append_left (List.getElem?_eq_some_iff.mp hj).1]; exact hj
  · rw [List.getElem?_append_left (List.getElem?_eq_some_iff.mp hk).1]; exact hk
theorem app_r {B C : va_W} {k : Nat} {q : Nat × va_E} (h : C[k]? = some q) : (B ++ C)[B.length + k]? = some q := by
  rw [List.getElem?_append_right (by omega)]
  rw [show B.length + k - B.length = k by omega]
  exact h
theorem va_D.right {A : Nat → Prop} {B C : va_W} (h : va_D A (B ++ C)) : va_D A C :=
  ⟨fun i j p q hi hj hpq => by have := h.1 _ _ p q (app_r hi) (app_r hj) hpq; omega, fun k q hk => h.2 _ q (app_r hk)⟩
theorem va_D.apart {A : Nat → Prop} {B C : va_W} (h : va_D A (B ++ C)) : ∀ p ∈ B, ∀ r ∈ C, p.1 ≠ r.1 := by
  intro p hp r hr e
  obtain ⟨i, hi⟩ := List.getElem?_of_mem hp
  obtain ⟨j, hj⟩ := List.getElem?_of_mem hr
  have hl := (List.getElem?_eq_some_iff.mp hi).1
  have := h.1 i (B.length + j) p r (by rw [List.getElem?_append_left hl]; exact hi) (app_r hj) e
  omega
theorem va_P.left {D : va_G} {cl : List vw_C} {B C : va_W} {H : Heap} (h : va_P D cl (B ++ C) H) : va_P D cl B H := fun k q hk => h k q (by rw [List.getElem?_append_left (List.getElem?_eq_some_iff.mp hk).1]; exact hk)
theorem va_P.right {D : va_G} {cl : List vw_C} {B C : va_W} {H : Heap} (h : va_P D cl (B ++ C) H) : va_P D cl C H := fun _ q hk => h _ q (app_r hk)
theorem FL1_mem : ∀ (bs : List va_W) (acc : va_W) (p : Nat × va_E), p ∈ FL1 acc bs ↔ p ∈ acc ∨ ∃ B ∈ bs, p ∈ B
  | [], acc, p => by simp [FL1]
  | B :: r, acc, p => by
    rw [show FL1 acc (B :: r) = FL1 (acc ++ B) r from rfl, FL1_mem r (acc ++ B) p]
    simp [or_assoc]
theorem FLl_mem (bs : List va_W) (p : Nat × va_E) : p ∈ FLl bs ↔ ∃ B ∈ bs, p ∈ B := by
  cases bs with
  | nil => simp [FLl]
  | cons B r =>
    rw [show FLl (B :: r) = FL1 B r from rfl, FL1_mem]
    simp
theorem va_P_mem {D : va_G} {cl : List vw_C} {ws : va_W} {H : Heap} : va_P D cl ws H ↔ ∀ q ∈ ws, va_at D cl q H := by
  constructor
  · intro h q hq
    obtain ⟨k, hk⟩ := List.getElem?_of_mem hq
    exact h k q hk
  · intro h k q hk
    exact h q (List.mem_of_getElem? hk)
theorem FL1_split : ∀ (bs : List va_W) (acc : va_W) {A : Nat → Prop}, va_D A (FL1 acc bs) → va_D A acc ∧ (∀ B ∈ bs, va_D A B) ∧ (∀ B ∈ bs, ∀ p ∈ acc, ∀ r ∈ B, p.1 ≠ r.1) ∧ ∀ (i j : Nat) (B C : va_W), i ≠ j → bs[i]? = some B → bs[j]? = some C → ∀ p ∈ B, ∀ r ∈ C, p.1 ≠ r.1
  | [], acc, A, h => ⟨h, fun _ hB => absurd hB List.not_mem_nil, fun _ hB => absurd hB List.not_mem_nil, fun i j B C _ hi _ => by simp at hi⟩
  | B :: r, acc, A, h => by
    obtain ⟨h1, h2, h3, h4⟩ := FL1_split r (acc ++ B) h
    refine ⟨h1.left, fun C hC => ?_, fun C hC => ?_, fun i j C E hij hi hj => ?_⟩
    · rcases List.mem_cons.mp hC with rfl | hC
      · exact h1.right
      · exact h2 C hC
    · rcases List.mem_cons.mp hC with rfl | hC
      · exact h1.apart
      · exact fun p hp => h3 C hC p (List.mem_append_left _ hp)
    · cases i with
      | zero =>
        cases j with
        | zero => exact absurd rfl hij
        | succ j =>
          simp only [List.getElem?_cons_zero, Option.some.injEq] at hi
          subst hi
          rw [List.getElem?_cons_succ] at hj
          exact fun p hp => h3 E (List.mem_of_getElem? hj) p (List.mem_append_right _ hp)
      | succ i =>
        rw [List.getElem?_cons_succ] at hi
        cases j with
        | zero =>
          simp only [List.getElem?_cons_zero, Option.some.injEq] at hj
          subst hj
          exact fun p hp q hq e => h3 C (List.mem_of_getElem? hi) q (List.mem_append_right _ hq) p hp e.symm
        | succ j =>
          rw [List.getElem?_cons_succ] at hj
          exact h4 i j C E (by omega) hi hj
theorem BW.of {G : GG} {A : Nat → Prop} {bs : List va_W} {H : Heap} (hP : va_P G.1 vwCl (FLl bs) H) (hD : va_D A (FLl bs)) : BW G A bs H := by
  rw [va_P_mem] at hP
  have hP1 : ∀ (i : Nat) (B : va_W), bs[i]? = some B → va_P G.1 vwCl B H := fun i B hi => va_P_mem.mpr fun q hq => hP q ((FLl_mem bs q).mpr ⟨B, List.mem_of_getElem? hi, hq⟩)
  cases bs with
  | nil => exact ⟨fun i B hi => by simp at hi, fun i j B C _ hi _ => by simp at hi⟩
  | cons B0 r =>
    obtain ⟨h1, h2, h3, h4⟩ := FL1_split r B0 hD
    refine ⟨fun i B hi => ⟨hP1 i B hi, ?_⟩, fun i j B C hij hi hj => ?_⟩
    · rcases List.mem_cons.mp (List.mem_of_getElem? hi) with rfl | h
      · exact h1
      · exact h2 B h
    · cases i with
      | zero =>
        cases j with
        | zero => exact absurd rfl hij
        | succ j =>
          simp only [List.getElem?_cons_zero, Option.some.injEq] at hi
          subst hi
          rw [List.getElem?_cons_succ] at hj
          exact h3 C (List.mem_of_getElem? hj)
      | succ i =>
        rw [List.getElem?_cons_succ] at hi
        cases j with
        | zero =>
          simp only [List.getElem?_cons_zero, Option.some.injEq] at hj
          subst hj
          exact fun p hp q hq e => h3 B (List.mem_of_getElem? hi) q hq p hp e.symm
        | succ j =>
          rw [List.getElem?_cons_succ] at hj
          exact h4 i j B C (by omega) hi hj
theorem FL1_join : ∀ (bs : List va_W) (acc : va_W) {A : Nat → Prop}, va_D A acc → (∀ B ∈ bs, va_D A B) → (∀ B ∈ bs, ∀ p ∈ acc, ∀ r ∈ B, p.1 ≠ r.1) → (∀ (i j : Nat) (B C : va_W), i ≠ j → bs[i]? = some B → bs[j]? = some C → ∀ p ∈ B, ∀ r ∈ C, p.1 ≠ r.1) → va_D A (FL1 acc bs)
  | [], acc, A, h, _, _, _ => h
  | B :: r, acc, A, h1, h2, h3, h4 => by
    refine FL1_join r (acc ++ B) (va_D.app h1 (h2 B List.mem_cons_self) (fun i j p q hp hq => h3 B List.mem_cons_self p (List.mem_of_getElem? hp) q (List.mem_of_getElem? hq))) (fun C hC => h2 C (List.mem_cons_of_mem _ hC)) (fun C hC p hp q hq => ?_) (fun i j C E hij hi hj => h4 (i + 1) (j + 1) C E (by omega) (by rw [List.getElem?_cons_succ]; exact hi) (by rw [List.getElem?_cons_succ]; exact hj))
    rcases List.mem_append.mp hp with hp | hp
    · exact h3 C (List.mem_cons_of_mem _ hC) p hp q hq
    · obtain ⟨k, hk⟩ := List.getElem?_of_mem hC
      exact h4 0 (k + 1) B C (by omega) rfl (by rw [List.getElem?_cons_succ]; exact hk) p hp q hq
theorem BW.flat {G : GG} {A : Nat → Prop} {bs : List va_W} {H : Heap} (h : BW G A bs H) : va_P G.1 vwCl (FLl bs) H ∧ va_D A (FLl bs) := by
  refine ⟨va_P_mem.mpr fun q hq => ?_, ?_⟩
  · obtain ⟨B, hB, hqB⟩ := (FLl_mem bs q).mp hq
    obtain ⟨i, hi⟩ := List.getElem?_of_mem hB
    exact va_P_mem.mp (h.1 i B hi).1 q hqB
  · cases bs with
    | nil => exact ⟨fun i j p q hi _ _ => by simp [FLl] at hi, fun k q hk => by simp [FLl] at hk⟩
    | cons B0 r =>
      refine FL1_join r B0 (h.1 0 B0 rfl).2 (fun B hB => ?_) (fun B hB => ?_) (fun i j B C hij hi hj => h.2 (i + 1) (j + 1) B C (by omega) (by rw [List.getElem?_cons_succ]; exact hi) (by rw [List.getElem?_cons_succ]; exact hj))
      · obtain ⟨i, hi⟩ := List.getElem?_of_mem hB
        exact (h.1 (i + 1) B (by rw [List.getElem?_cons_succ]; exact hi)).2
      · obtain ⟨i, hi⟩ := List.getElem?_of_mem hB
        exact h.2 0 (i + 1) B0 B (by omega) rfl (by rw [List.getElem?_cons_succ]; exact hi)
theorem BW.sub {G : GG} {A : Nat → Prop} {bs bc : List va_W} {H : Heap} (h : BW G A bs H) (isB : List Nat) (hC : isB.map (fun i => bs[i]?) = bc.map some) (hn : va_nd isB = true) : BW G A bc H := by
  have key : ∀ (k : Nat) (B : va_W), bc[k]? = some B → ∃ i, isB[k]? = some i ∧ bs[i]? = some B := by
    intro k B hk
    have h1 : (isB.map (fun i => bs[i]?))[k]? = some (some B) := by rw [hC, List.getElem?_map, hk]; rfl
    rw [List.getElem?_map] at h1
    cases hi : isB[k]? with
    | none => rw [hi] at h1; cases h1
    | some i => rw [hi] at h1; exact ⟨i, rfl, Option.some.inj h1⟩
  refine ⟨fun k B hk => ?_, fun i j B C hij hi hj => ?_⟩
  · obtain ⟨i, -, h2⟩ := key k B hk
    exact h.1 i B h2
  · obtain ⟨i2, a1, a2⟩ := key i B hi
    obtain ⟨j2, b1, b2⟩ := key j C hj
    refine h.2 i2 j2 B C (fun e => hij ?_) a2 b2
    subst e
    exact va_nd_inj isB hn i j i2 a1 b1
def pB : List va_W → List Nat → List va_W → List va_W
  | bs, [], _ => bs
  | bs, _ :: _, [] => bs
  | bs, i :: is, x :: xs => pB (bs.set i x) is xs
theorem pB_spec : ∀ (is : List Nat) (w1 ws : List va_W), is.length = w1.length → va_nd is = true → (∀ i ∈ is, i < ws.length) → ∀ (k : Nat) (q : va_W), (pB ws is w1)[k]? = some q → (∃ j : Nat, is[j]? = some k ∧ w1[j]? = some q) ∨ (k ∉ is ∧ ws[k]? = some q)
  | [], w1, ws, _, _, _, k, q, h => Or.inr ⟨List.not_mem_nil, by simpa [pB] using h⟩
  | i :: is, [], ws, hl, _, _, k, q, h => by simp at hl
  | i :: is, x :: xs, ws, hl, hn, hr, k, q, h => by
    simp only [va_nd, Bool.and_eq_true, decide_eq_true_eq] at hn
    have h2 := pB_spec is xs (ws.set i x) (by simpa using hl) hn.2 (fun j hj => by rw [List.length_set]; exact hr j (List.mem_cons_of_mem _ hj)) k q h
    rcases h2 with ⟨j, h3, h4⟩ | ⟨h3, h4⟩
    · exact Or.inl ⟨j + 1, by simpa using h3, by simpa using h4⟩
    · by_cases hk : k = i
      · subst hk
        rw [List.getElem?_set_self (hr k List.mem_cons_self)] at h4
        exact Or.inl ⟨0, rfl, by simpa using h4⟩
      · rw [List.getElem?_set_ne (Ne.symm hk)] at h4
        exact Or.inr ⟨fun z => (List.mem_cons.mp z).elim hk h3, h4⟩
theorem BW.back {G : GG} {A : Nat → Prop} {bs bc nb : List va_W} {H H1 : Heap} (h : BW G A bs H) (isB : List Nat) (hC : isB.map (fun i => bs[i]?) = bc.map some) (hn : va_nd isB = true) (hlen : isB.length = nb.length)
    (hk : ∀ q : Nat, q < H.size → ¬ va_A (FLl bc) H.size q → H1[q]? = H[q]?) (hF : ∀ q, va_A (FLl bc) H.size q → A q) (hP1 : va_P G.1 vwCl (FLl nb) H1) (hD1 : va_D (va_A (FLl bc) H.size) (FLl nb)) : BW G A (pB bs isB nb) H1 := by
  have hr : ∀ i ∈ isB, i < bs.length := by
    intro i hi
    obtain ⟨j, hj⟩ := List.getElem?_of_mem hi
    have h1 : (isB.map (fun i => bs[i]?))[j]? = some (bs[i]?) := by rw [List.getElem?_map, hj]; rfl
    rw [hC, List.getElem?_map] at h1
    cases hw : bc[j]? with
    | none => rw [hw] at h1; cases h1
    | some q =>
      rw [hw] at h1
      exact (List.getElem?_eq_some_iff.mp (Option.some.inj h1).symm).1
  have N : BW G (va_A (FLl bc) H.size) nb H1 := BW.of hP1 hD1
  have key := pB_spec isB nb bs hlen hn hr
  have apart : ∀ (k : Nat) (B : va_W), k ∉ isB → bs[k]? = some B → ∀ p ∈ B, p.1 < H.size ∧ ¬ va_A (FLl bc) H.size p.1 := by
    intro k B hkB hB p hp
    have hl := (va_P_mem.mp (h.1 k B hB).1 p hp).lt
    refine ⟨hl, fun hz => ?_⟩
    rcases hz with ⟨k2, e, hz⟩ | hz
    · obtain ⟨C, hC1, hC2⟩ := (FLl_mem bc (p.1, e)).mp (List.mem_of_getElem? hz)
      obtain ⟨j, hj⟩ := List.getElem?_of_mem hC1
      have h1 : (isB.map (fun i => bs[i]?))[j]? = some (some C) := by rw [hC, List.getElem?_map, hj]; rfl
      rw [List.getElem?_map] at h1
      cases hi : isB[j]? with
      | none => rw [hi] at h1; cases h1
      | some i =>
        rw [hi] at h1
        have h2 : bs[i]? = some C := Option.some.inj h1
        exact h.2 k i B C (fun e => hkB (by rw [e]; exact List.mem_of_getElem? hi)) hB h2 p hp (p.1, e) hC2 rfl
    · omega
  have newA : ∀ (j : Nat) (B : va_W), nb[j]? = some B → ∀ p ∈ B, va_A (FLl bc) H.size p.1 := by
    intro j B hj p hp
    obtain ⟨k, hk2⟩ := List.getElem?_of_mem hp
    exact (N.1 j B hj).2.2 k p hk2
  refine ⟨fun k B hB => ?_, fun i j B C hij hi hj => ?_⟩
  · rcases key k B hB with ⟨j, -, h2⟩ | ⟨h1, h2⟩
    · exact ⟨(N.1 j B h2).1, (N.1 j B h2).2.weaken (fun _ q _ hq => hF q.1 hq)⟩
    · refine ⟨va_P_mem.mpr fun q hq => ?_, (h.1 k B h2).2⟩
      obtain ⟨g1, g2⟩ := apart k B h1 h2 q hq
      exact (va_P_mem.mp (h.1 k B h2).1 q hq).kept (hk q.1 g1 g2)
  · rcases key i B hi with ⟨i1, a1, a2⟩ | ⟨a1, a2⟩ <;> rcases key j C hj with ⟨j1, b1, b2⟩ | ⟨b1, b2⟩
    · refine N.2 i1 j1 B C (fun e => hij ?_) a2 b2
      subst e
      exact Option.some.inj (a1.symm.trans b1)
    · exact fun p hp r hr e => (apart j C b1 b2 r hr).2 (by rw [← e]; exact newA i1 B a2 p hp)
    · exact fun p hp r hr e => (apart i B a1 a2 p hp).2 (by rw [e]; exact newA j1 C b2 r hr)
    · exact h.2 i j B C hij a2 b2
theorem BW.pre {G : GG} {A : Nat → Prop} {bs bc : List va_W} {H : Heap} {s : State} {av : List Value} {wc : va_W} (hK : KN G s) (hW : BW G A bs H) (isB : List Nat) (hC : isB.map (fun i => bs[i]?) = bc.map some) (hn : va_nd isB = true) (hwc : wc = FLl bc) : ∀ U : State, U.heap = H → s.WarmedH U.vm → Pre G av wc H.size av.toArray U := by
  subst hwc
  obtain ⟨h1, h2⟩ := (hW.sub isB hC hn).flat
  exact pre_ok hK h1 h2
section OWN3
variable {p : Program} {l : Launch} {e : Env} {R : Room} {s : State} {m : MethodId} {args : Array Value} {below : List Frame} {meth : Method} {c : Code} {H : Heap} {locs : List Loc} {cells slots : Nat} {Q : State → Prop}
variable {pc : Nat} {ls : Array Slot} {rest st0 : List Value} {a : Array Value} {A : Nat → Prop} {H0 : Heap} {mc ms : Nat} {G : GG} {bs bc : List va_W} {wc : va_W}
theorem BW.freeB (hW : BW G A bs H) (hS : va_S A H0 H locs) (hA : ∀ q, H0.size ≤ q → A q) (isB : List Nat) (hC : isB.map (fun i => bs[i]?) = bc.map some) (hn : va_nd isB = true) : ∀ q, va_A (FLl bc) H.size q → A q := by
  intro q h
  rcases h with ⟨k, e, h⟩ | h
  · exact (hW.sub isB hC hn).flat.2.2 k (q, e) h
  · exact hA q (Nat.le_trans hS.1 h)
theorem gcallB_I {S : Type} {post : Int32 → S → Prop} {cs : S → va_W} (hr : va_Run p l e R s m args below meth c H locs cells slots mc ms (F0 m pc ls st0) rest (PI G (va_A wc H.size) post cs a) (va_A wc H.size)) (hW : BW G A bs H) (hS : va_S A H0 H locs) (hA : ∀ q, H0.size ≤ q → A q) (isB : List Nat) (hC : isB.map (fun i => bs[i]?) = bc.map some) (hn : va_nd isB = true) (hwc : wc = FLl bc) (cb : S → List va_W) (hcs : ∀ u, cs u = FLl (cb u)) (hlen : ∀ u, isB.length = (cb u).length)
    (kk : ∀ (r : Int32) (u : S) (H1 : Heap) (locs1 : List Loc), post r u → BW G A (pB bs isB (cb u)) H1 → va_S A H0 H1 locs1 → W p l e R s m args below meth c H1 locs1 (cells + mc) (slots + ms) Q (F0 m (pc + 3) ls (.int r :: rest))) : W p l e R s m args below meth c H locs cells slots Q (F0 m pc ls st0) := by
  subst hwc
  have hF := hW.freeB hS hA isB hC hn
  refine va_calli hr hS (fun q _ h => hF q h) hF (fun r u t H1 locs1 ht _ hw hB _ hk1 hS1 => ?_)
  obtain ⟨hP1, hD1⟩ := hB
  rw [ht, hcs u] at hP1
  rw [hcs u] at hD1
  exact kk r u H1 locs1 hw (hW.back isB hC hn (hlen u) hk1 hF hP1 hD1) hS1
theorem gcallB_V {S : Type} {post : S → Prop} {cs : S → va_W} (hr : va_Run p l e R s m args below meth c H locs cells slots mc ms (F0 m pc ls st0) rest (PV G (va_A wc H.size) post cs a) (va_A wc H.size)) (hW : BW G A bs H) (hS : va_S A H0 H locs) (hA : ∀ q, H0.size ≤ q → A q) (isB : List Nat) (hC : isB.map (fun i => bs[i]?) = bc.map some) (hn : va_nd isB = true) (hwc : wc = FLl bc) (cb : S → List va_W) (hcs : ∀ u, cs u = FLl (cb u)) (hlen : ∀ u, isB.length = (cb u).length)
    (kk : ∀ (u : S) (H1 : Heap) (locs1 : List Loc), post u → BW G A (pB bs isB (cb u)) H1 → va_S A H0 H1 locs1 → W p l e R s m args below meth c H1 locs1 (cells + mc) (slots + ms) Q (F0 m (pc + 3) ls rest)) : W p l e R s m args below meth c H locs cells slots Q (F0 m pc ls st0) := by
  subst hwc
  have hF := hW.freeB hS hA isB hC hn
  refine va_callv hr hS (fun q _ h => hF q h) hF (fun u t H1 locs1 ht _ hw hB _ hk1 hS1 => ?_)
  obtain ⟨hP1, hD1⟩ := hB
  rw [ht, hcs u] at hP1
  rw [hcs u] at hD1
  exact kk u H1 locs1 hw (hW.back isB hC hn (hlen u) hk1 hF hP1 hD1) hS1
theorem gcallB_Q {S : Type} {post : Option Nat → S → Prop} {cs : S → va_W} (hr : va_Run p l e R s m args below meth c H locs cells slots mc ms (F0 m pc ls st0) rest (PQ G (va_A wc H.size) post cs a) (va_A wc H.size)) (hW : BW G A bs H) (hS : va_S A H0 H locs) (hA : ∀ q, H0.size ≤ q → A q) (isB : List Nat) (hC : isB.map (fun i => bs[i]?) = bc.map some) (hn : va_nd isB = true) (hwc : wc = FLl bc) (cb : S → List va_W) (hcs : ∀ u, cs u = FLl (cb u)) (hlen : ∀ u, isB.length = (cb u).length)
    (kk : ∀ (r : Option Nat) (u : S) (H1 : Heap) (locs1 : List Loc), post r u → BW G A (pB bs isB (cb u)) H1 → va_S A H0 H1 locs1 → W p l e R s m args below meth c H1 locs1 (cells + mc) (slots + ms) Q (F0 m (pc + 3) ls (va_rf r :: rest))) : W p l e R s m args below meth c H locs cells slots Q (F0 m pc ls st0) := by
  subst hwc
  have hF := hW.freeB hS hA isB hC hn
  refine va_callq hr hS (fun q _ h => hF q h) hF (fun r u t H1 locs1 ht _ hw hB _ hk1 hS1 => ?_)
  obtain ⟨hP1, hD1⟩ := hB
  rw [ht, hcs u] at hP1
  rw [hcs u] at hD1
  exact kk r u H1 locs1 hw (hW.back isB hC hn (hlen u) hk1 hF hP1 hD1) hS1
theorem runB_V {y : MethodName} {bytes cc : ByteArray} {maxL nL n index : Nat} {ret ret0 : Option FieldType} {wsy : List Cond} {rm : Room} {Qc : Array Value → State → Outcome → State → Prop} {Ts : List Cond} {own Cn : String} {b : Addr} {As : List Value}
    (X : Cx p s m args meth c cc nL Ts own ret0) (hK : KN G s) (hW : BW G A bs H) (hM : Met l y wsy rm (Pre G (.ref b :: As) wc H.size) Qc mc ms (va_A wc H.size)) (cw : CallW R s args own Cn index y bytes maxL ret wsy rm mc ms n) (isB : List Nat) (hC : isB.map (fun i => bs[i]?) = bc.map some) (hn : va_nd isB = true) (hwc : wc = FLl bc)
    (i0 q0 : Nat) {B : va_W} (hB : bs[i0]? = some B) {ci : Nat} {q : vw_C} {fs : List Value} (he : B[q0]? = some (b, .inr (ci, fs))) (hc : vwCl[ci]? = some q) (hq : q.1 = Cn) (hAs : As.length = n) (hsize : ls.size = nL) (hst : st0 = As.reverse ++ .ref b :: rest) (hR : (rest.map fun v => v.category).sum ≤ 8) (hdg : decode cc pc = .ok (.invokevirtual index, 3)) (hf : cells + mc ≤ R.cells ∧ slots + ms ≤ R.slots) :
    va_Run p l e R s m args below meth c H locs cells slots mc ms (F0 m pc ls st0) rest (Qc (Value.ref b :: As).toArray) (va_A wc H.size) := by
  subst hq
  exact va_runV (g := F0 m pc ls st0) ⟨X.1, X.2.1, X.2.2.2.1, X.2.2.2.2.1, X.2.2.2.2.2.1⟩ hM cw ⟨Pre.blind, va_recv hK.1 (hW.1 i0 B hB).1 hc he, BW.pre hK hW isB hC hn hwc⟩ rfl hAs hsize hst (lv_room (ls := ls) (pc := pc) (m := m) hR) hdg hf
end OWN3
