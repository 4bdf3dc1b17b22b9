/-! what the cells are: v, the numbers of a laundry (0 1 fires, 2 3 water, 4 5 pressure, 6 7 stops left, 8 9 stops, 10 coal, 11 ration, 12 ticks, 13..16 kinds, 17..20 left, 21..24 waits, 25 length of the line, 38 burnt, 39 came, 40 started, 41 washed, 42 spoiled, 43 taken out, 44 worth, 45 waited), q the line -/
theorem inc1 (i : Nat) : nI i + Int32.ofInt 1 = nI (i + 1) := by
  rw [show Int32.ofInt 1 = nI 1 from by decide +kernel]
  exact nI_add i 1
theorem nar_bool {r : Int32} (h : r = nI 0 ∨ r = nI 1) : narrow .boolean (.int r) = .int r := by
  rcases h with rfl | rfl <;> decide
theorem natOf {x : Int32} (h : ¬ x < 0) : x = nI x.toNatClampNeg := by
  obtain ⟨j, hj, e⟩ := nI_of h
  rw [e, nI_clamp hj]
theorem natLt {x : Int32} {n : Nat} (h : ¬ x < 0) (h2 : ¬ nI n ≤ x) (hn : n < 2 ^ 31) : x.toNatClampNeg < n := by
  obtain ⟨j, hj, e⟩ := nI_of h
  rw [e, nI_clamp hj]
  rw [e, nI_leI hn hj] at h2
  omega
theorem vinOf {x : Int32} {n : Nat} (h : ¬ x < 0) (h2 : ¬ nI n ≤ x) (hn : n < 2 ^ 31) : vp_in x n := by
  have h1 := natLt h h2 hn
  rw [natOf h]
  exact vp_in_nI h1 hn
abbrev BL (h : Nat) (bf bw bp bl bs : Int32) : va_W := [(h, .inr (0, [.int bf, .int bw, .int bp, .int bl, .int bs]))]
abbrev MA (h : Nat) (mk mt mw : Int32) : va_W := [(h, .inr (3, [.int mk, .int mt, .int mw]))]
abbrev LN (G : GG) (h k : Nat) (ln : Int32) (q : Nat → Int32) : va_W := [(h, .inr (5, [.ref k, .int ln])), (k, .inl (G.2 0, 12, .inl q))]
def bref (a : Nat → Nat) : Nat → Option Nat := fun j => if j = 0 then some (a 2) else some (a 3)
def mref (a : Nat → Nat) : Nat → Option Nat := fun j => if j = 0 then some (a 5) else if j = 1 then some (a 6) else if j = 2 then some (a 7) else some (a 8)
abbrev LC (G : GG) (a : Nat → Nat) (v q : Nat → Int32) : va_W := [(a 0, .inr (2, [.ref (a 1), .ref (a 4), .ref (a 9), .int (v 12), .int (v 41), .int (v 42), .int (v 38), .int (v 10), .int (v 11), .int (v 39), .int (v 40), .int (v 43), .int (v 44), .int (v 45)])),
  (a 1, .inl (G.2 2, 2, .inr (.inr (.inr (.inr (bref a)))))), (a 2, .inr (0, [.int (v 0), .int (v 2), .int (v 4), .int (v 6), .int (v 8)])), (a 3, .inr (0, [.int (v 1), .int (v 3), .int (v 5), .int (v 7), .int (v 9)])),
  (a 4, .inl (G.2 3, 4, .inr (.inr (.inr (.inr (mref a)))))), (a 5, .inr (3, [.int (v 13), .int (v 17), .int (v 21)])), (a 6, .inr (3, [.int (v 14), .int (v 18), .int (v 22)])), (a 7, .inr (3, [.int (v 15), .int (v 19), .int (v 23)])), (a 8, .inr (3, [.int (v 16), .int (v 20), .int (v 24)])),
  (a 9, .inr (5, [.ref (a 10), .int (v 25)])), (a 10, .inl (G.2 0, 12, .inl q))]
abbrev OT (G : GG) (h k : Nat) (tp tl tr tg tv : Int32) (T : Nat → Int32) : va_W := [(h, .inr (4, [.ref k, .int tp, .int tl, .int tr, .int tg, .int tv])), (k, .inl (G.2 1, 80, .inl T))]
abbrev MC (G : GG) (a : Nat → Nat) (g M T Y : Nat → Int32) : va_W := [(a 0, .inr (7, [.ref (a 1), .int (g 0), .int (g 1), .ref (a 2), .int (g 2), .int (g 3), .int (g 4), .ref (a 3), .int (g 5), .int (g 6), .int (g 7)])), (a 1, .inl (G.2 0, 368, .inl M)), (a 2, .inl (G.2 1, 80, .inl T)), (a 3, .inl (G.2 0, 123, .inl Y))]
theorem natSucc {x y : Int32} (h : ¬ x < 0) (h2 : x < y) : x.toNatClampNeg + 1 < 2 ^ 31 := by
  obtain ⟨j, hj, e⟩ := nI_of h
  have hy : ¬ y < 0 := by
    intro hy
    rw [Int32.lt_iff_toInt_lt] at h2 hy
    rw [e, nI_toInt hj] at h2
    have : (0 : Int32).toInt = 0 := by decide
    omega
  obtain ⟨k, hk, e2⟩ := nI_of hy
  rw [e, e2, nI_ltI hj hk] at h2
  rw [e, nI_clamp hj]
  omega
theorem ltOf {x y : Int32} (h : x < y) : ¬ y ≤ x := by
  rw [Int32.lt_iff_toInt_lt] at h
  rw [Int32.le_iff_toInt_le]
  omega
theorem va_P_arr {D : va_G} {cl : List vw_C} {ws ws' : va_W} {H : Heap} {k a n : Nat} {cA : ClassId} {f g : Nat → Int32} (hfg : ∀ j, j < n → f j = g j) (h : va_P D cl ws H) (he : ws[k]? = some (a, .inl (cA, n, .inl f))) (hw : ws.set k (a, .inl (cA, n, .inl g)) = ws') : va_P D cl ws' H := by
  subst hw
  have hl := (List.getElem?_eq_some_iff.mp he).1
  intro i q hq
  by_cases hi : i = k
  · subst hi
    rw [List.getElem?_set_self hl] at hq
    cases hq
    have h1 : va_at D cl (a, .inl (cA, n, .inl f)) H := h i _ he
    show H[a]? = some (vp_cell cA (n, .inl g))
    have h2 : H[a]? = some (vp_cell cA (n, .inl f)) := h1
    rw [h2, vp_cell_i, vp_cell_i]
    have e : (Array.ofFn (n := n) fun j => Value.int (f j.val)) = Array.ofFn (n := n) fun j => Value.int (g j.val) := by
      congr 1
      funext j
      rw [hfg j.val j.isLt]
    unfold arrV
    rw [e]
  · rw [List.getElem?_set_ne (Ne.symm hi)] at hq
    exact h i q hq
theorem va_D_arr {A : Nat → Prop} {ws ws' : va_W} {k a : Nat} {e0 e : va_E} (h : va_D A ws) (he : ws[k]? = some (a, e0)) (hw : ws.set k (a, e) = ws') : va_D A ws' := by
  subst hw
  exact h.set he
theorem upd_copied {q o : Nat → Int32} {i : Nat} (h : ∀ j, j < i → q j = o j) : ∀ j, j < i + 1 → upd q i (o i) j = o j := by
  intro j hj
  by_cases e : j = i
  · subst e
    exact pk_us
  · rw [pk_un e]
    exact h j (by omega)
theorem ltNat {x : Int32} {i : Nat} (h : ¬ x ≤ nI i) (hi : i < 2 ^ 31) : i < x.toNatClampNeg := by
  by_cases hx : x < 0
  · exfalso
    apply h
    rw [Int32.le_iff_toInt_le]
    rw [Int32.lt_iff_toInt_lt] at hx
    have h0 : (0 : Int32).toInt = 0 := by decide
    rw [nI_toInt hi]
    omega
  · obtain ⟨j, hj, e⟩ := nI_of hx
    rw [e, nI_clamp hj]
    rw [e, nI_leI hj hi] at h
    omega
theorem natBig (x : Int32) : x.toNatClampNeg < 2 ^ 31 := by
  by_cases hx : x < 0
  · rw [Int32.lt_iff_toInt_lt] at hx
    have h0 : (0 : Int32).toInt = 0 := by decide
    have : x.toNatClampNeg = x.toInt.toNat := rfl
    omega
  · obtain ⟨j, hj, e⟩ := nI_of hx
    rw [e, nI_clamp hj]
    exact hj
