/-! a text obeyed: the class beside the model -/
abbrev PA : Type := Int32 × Int32 × Int32 × (Nat → Int32) × (Nat → Int32) × (Nat → Int32) × (Nat → Int32) × (Nat → Int32) × (Nat → Int32) × Nat × (Nat → Nat → Nat) × (Nat → Nat → Int32) × (Nat → Nat → Int32) × Int32 × Int32 × Int32 × Int32
abbrev PB : Type := Int32 × (Nat → Int32) × (Nat → Int32) × (Nat → Int32)
def PC (hs : Int32) (zv zq : Nat → Int32) (tl : Int32) (A : PA) (B : PB) : Prop := A.1 = B.1 ∧ Rl hs A.2.1 A.2.2.1 A.2.2.2.1 A.2.2.2.2.1 zv zq A.2.2.2.2.2.2.2.2.2.1 A.2.2.2.2.2.2.2.2.2.2.2.1 A.2.2.2.2.2.2.2.2.2.2.2.2.1 tl B.2.1 B.2.2.1
theorem Fx.tr {M M' M'' : Nat → Int32} {x : Nat} (h : Fx M M' x) (k : Fx M' M'' x) : Fx M M'' x := fun j a b => (k j a b).trans (h j a b)
theorem fneg : ∀ q, q < 600 → (-100 : Int32) - nI q < 0 := by decide +kernel
section PERF
variable {T Y nv nq zv zq g M0 : Nat → Int32} {n hn R : Nat} {hs sn se : Int32} {xs : Nat → Nat → Nat} {vs qs : Nat → Nat → Int32}
theorem perf_end {F F2 : Nat} {M v q yv yq : Nat → Int32} {tp tr tg tv : Int32} (hR : Rl hs sn se nv nq zv zq hn vs qs (nI n) g M0) (h5 : g 5 = nI (R + 1)) (hR4 : R < 40) (hA : At M (46 * 6) v q) (hI : IS v q) (hF : Fx (cpyM M0 0 6 46) M 6) :
    PC hs zv zq (nI n) (s_X6_perform_34 (nI n) T (F + 1) sn se v q nv nq yv yq hn xs vs qs tp tr tg tv (nI (R + 1)) (R + 1)) (s_X7_perform_23 hn (F2 + 1) g M Y (R + 1)) := by
  rw [s_X6_perform_34, s_X7_perform_23, h5, nI_clamp (by omega), if_pos (Int32.le_refl _), if_pos (Int32.le_refl _)]
  have hlow : ∀ j, j < 276 → M j = M0 j := fun j hj => (hF j (by omega) (by omega)).trans (cpy_fr (by omega))
  exact settle_rl (xs := xs) (M' := M) (r := nI (R + 1)) (r' := nI (R + 1)) hR ⟨rfl, hA, hI, hF⟩ (fun z => absurd z (nI_pos (by omega)))
theorem perf_step {F F2 i p p' a b t : Nat} {kd : Int32} {M v q yv yq : Nat → Int32} {tr tg tv : Int32} (hn80 : n ≤ 80) (hR : Rl hs sn se nv nq zv zq hn vs qs (nI n) g M0) (h5 : g 5 = nI (R + 1)) (hR4 : R < 40) (hi : i ≤ R) (ho : ord T n p = .inr (p', kd, a, b)) (hy : YF Y i kd a b) (ht : t < 500) (hnp : p = if chr T n t = nI 44 then t + 1 else t) (hA : At M (46 * 6) v q) (hI : IS v q) (hF : Fx (cpyM M0 0 6 46) M 6)
    (K : ∀ (M' v' q' yv' yq' : Nat → Int32) (tr' tg' tv' : Int32), At M' (46 * 6) v' q' → IS v' q' → Fx (cpyM M0 0 6 46) M' 6 → PC hs zv zq (nI n) (s_X6_perform_34 (nI n) T F sn se v' q' nv nq yv' yq' hn xs vs qs (nI p') tr' tg' tv' (nI (R + 1)) (i + 1)) (s_X7_perform_23 hn F2 g M' Y (i + 1))) :
    PC hs zv zq (nI n) (s_X6_perform_34 (nI n) T (F + 1) sn se v q nv nq yv yq hn xs vs qs (nI t) tr tg tv (nI (R + 1)) i) (s_X7_perform_23 hn (F2 + 1) g M Y i) := by
  have hob := obey_does (yv := yv) (yq := yq) (tg := tg) (tv := tv) hn80 hy ho ht hnp hA hI
  have c0 : ¬ nI (R + 1) ≤ nI i := fun z => by have := (nI_leI (by omega) (by omega)).mp z; omega
  rw [s_X6_perform_34, s_X7_perform_23, h5, nI_clamp (by omega), if_neg c0, if_neg c0]
  generalize f_X6_obeyNextOrder v q yv yq (nI t) (nI n) tg tv T = W at hob ⊢
  generalize f_X7_does M Y i = D at hob ⊢
  obtain ⟨r7, v7, q7, yv7, yq7, tp7, tr7, tg7, tv7⟩ := W
  obtain ⟨r6, M6⟩ := D
  obtain ⟨⟨e, hA', hI', hF'⟩, etp⟩ := hob
  dsimp only at e hA' hI' hF' etp ⊢
  subst e etp
  have hF6 := hF.tr hF'
  by_cases c1 : 0 ≤ r6
  · rw [if_pos c1, if_pos c1]
    exact K _ _ _ _ _ _ _ _ hA' hI' hF6
  · rw [if_neg c1, if_neg c1]
    by_cases c2 : r6 = -5
    · rw [if_pos c2, if_pos c2]
      exact K _ _ _ _ _ _ _ _ hA' hI' hF6
    · rw [if_neg c2, if_neg c2]
      have hlow : ∀ j, j < 276 → M6 j = M0 j := fun j hj => (hF6 j (by omega) (by omega)).trans (cpy_fr (by omega))
      obtain ⟨h4, h0, hA0, hI0, hH, hK, hS, hT⟩ := hR.move (g' := g) (M' := M6) (fun _ _ => rfl) hlow
      refine ⟨rfl, h4, ?_, hA0, hI0, hH, ?_, ?_, ?_⟩
      · show upd (upd g 6 (nI i)) 7 r6 0 = _
        rw [pk_un (by omega), pk_un (by omega)]; exact h0
      · show RlK (upd (upd g 6 (nI i)) 7 r6) M6 zv zq hs
        unfold RlK
        rw [pk_un (by omega), pk_un (by omega)]; exact hK
      · exact Or.inr ⟨nI_pos (by omega), rfl, rfl⟩
      · show RlT (upd (upd g 6 (nI i)) 7 r6) (nI n)
        unfold RlT
        rw [pk_un (by omega), pk_un (by omega)]; exact hT
theorem perf_loop (hn80 : n ≤ 80) (hR : Rl hs sn se nv nq zv zq hn vs qs (nI n) g M0) (h5 : g 5 = nI (R + 1)) (hR4 : R < 40) : ∀ (r i p t F F2 : Nat) (M v q yv yq : Nat → Int32) (tr tg tv : Int32), i + r = R → r + 2 ≤ F → r + 2 ≤ F2 → Prs T n Y r p i → t < 500 → p = (if chr T n t = nI 44 then t + 1 else t) → At M (46 * 6) v q → IS v q → Fx (cpyM M0 0 6 46) M 6 →
    PC hs zv zq (nI n) (s_X6_perform_34 (nI n) T F sn se v q nv nq yv yq hn xs vs qs (nI t) tr tg tv (nI (R + 1)) i) (s_X7_perform_23 hn F2 g M Y i)
  | 0, i, p, t, F, F2, M, v, q, yv, yq, tr, tg, tv, hir, hF, hF2, hP, ht, hnp, hA, hI, hFx => by
    obtain ⟨kd, a, b, ho, hy⟩ := hP
    obtain ⟨F1, rfl⟩ : ∃ k, F = k + 1 + 1 := ⟨F - 2, by omega⟩
    obtain ⟨F3, rfl⟩ : ∃ k, F2 = k + 1 + 1 := ⟨F2 - 2, by omega⟩
    have ei : i = R := by omega
    subst ei
    exact perf_step hn80 hR h5 hR4 (Nat.le_refl _) ho hy ht hnp hA hI hFx (fun M' v' q' yv' yq' tr' tg' tv' hA' hI' hF' => perf_end hR h5 hR4 hA' hI' hF')
  | r + 1, i, p, t, F, F2, M, v, q, yv, yq, tr, tg, tv, hir, hF, hF2, hP, ht, hnp, hA, hI, hFx => by
    obtain ⟨p', kd, a, b, ho, hy, hc, hP'⟩ := hP
    obtain ⟨F1, rfl⟩ : ∃ k, F = k + 1 := ⟨F - 1, by omega⟩
    obtain ⟨F3, rfl⟩ : ∃ k, F2 = k + 1 := ⟨F2 - 1, by omega⟩
    have hl := ord_lt ho
    exact perf_step hn80 hR h5 hR4 (by omega) ho hy ht hnp hA hI hFx (fun M' v' q' yv' yq' tr' tg' tv' hA' hI' hF' => perf_loop hn80 hR h5 hR4 r (i + 1) (p' + 1) p' F1 F3 M' v' q' yv' yq' tr' tg' tv' (by omega) (by omega) (by omega) hP' (by omega) (by rw [if_pos hc]) hA' hI' hF')
theorem g3_keep {p c j : Nat} {r : Int32} (hj : j < 3 ∨ 6 ≤ j) : G3 g p r c j = g j := by
  unfold G3
  rw [if_neg (by omega), if_neg (by omega), if_neg (by omega)]
theorem eq_perform {bv bq yv yq : Nat → Int32} {tl tr tg tv : Int32} (hR : Rl hs sn se nv nq zv zq hn vs qs tl g M0) : PC hs zv zq tl (f_X6_perform sn se nv nq bv bq yv yq hn xs vs qs tl tr tg tv T) (f_X7_perform g M0 T Y hn) := by
  obtain ⟨n, hn8, e1, e2⟩ := hR.2.2.2.2.2.2.2
  subst e1
  have hf := fault_spec (T := T) (g := g) (n := n) (Y := Y) (tr := tr) (tg := tg) (tv := tv) e2 hn8
  unfold f_X6_perform f_X7_perform
  generalize f_X4_countOrders (nI n) tr tg tv T = A at hf ⊢
  generalize f_X7_fault g T Y = B at hf ⊢
  obtain ⟨a1, a2, a3, a4, a5⟩ := A
  obtain ⟨b1, b2, b3⟩ := B
  dsimp only at hf ⊢
  rcases hf with ⟨q, r, c, h1, h2, h3, h5⟩ | ⟨r, h1, h2, h3, h5, h6⟩
  · subst h2 h3 h5
    rw [if_neg (fun z => nneg z (fneg q h1)), if_neg (nI_pos (by omega))]
    exact ⟨rfl, hR.move (fun j hj => g3_keep hj) (fun _ _ => rfl)⟩
  · subst h2 h3 h5
    rw [if_pos (nI_ge0 (by omega)), if_pos m1_lt, nI_clamp (by omega)]
    have hR2 := hR.move (g' := G3 g n (nI 1) (r + 1)) (M' := M0) (fun j hj => g3_keep hj) (fun _ _ => rfl)
    have hp0 : 0 = (if chr T n 0 = nI 44 then 0 + 1 else 0) := by
      have hne : ¬ chr T n 0 = nI 44 := by
        cases r with
        | zero =>
          obtain ⟨kd, a, b, ho, -⟩ := h6
          exact (ord_lt ho).2.2
        | succ r =>
          obtain ⟨p', kd, a, b, ho, -⟩ := h6
          exact (ord_lt ho).2.2
      rw [if_neg hne]
    exact perf_loop hn8 hR2 rfl h1 r 0 0 0 (r + 1 + 1) 42 _ _ _ _ _ _ _ _ (by omega) (by omega) (by omega) h6 (by omega) hp0 hR.m06 hR.is Fx.rf
end PERF
