/-! all orders of a text: the fault, or how many there are, and what they are -/
section TXT4
variable {T g : Nat → Int32} {n : Nat}
def YF (Y : Nat → Int32) (k : Nat) (kd : Int32) (a b : Nat) : Prop := Y (3 * k) = kd ∧ Y (3 * k + 1) = nI a ∧ Y (3 * k + 2) = nI b
def Prs (T : Nat → Int32) (n : Nat) (Y : Nat → Int32) : Nat → Nat → Nat → Prop
  | 0, p, k => ∃ kd a b, ord T n p = .inr (n, kd, a, b) ∧ YF Y k kd a b
  | r + 1, p, k => ∃ p' kd a b, ord T n p = .inr (p', kd, a, b) ∧ YF Y k kd a b ∧ chr T n p' = nI 44 ∧ Prs T n Y r (p' + 1) (k + 1)
theorem ordT_bad {sec : Nat → Option (Nat × Nat)} {hi p q : Nat} {k : Int32} (h : ordT T n sec hi p k = .inl q) : q ≤ p + 2 := by
  unfold ordT at h
  cases h1 : dg T n p hi with
  | none => rw [h1] at h; cases h; omega
  | some d =>
    rw [h1] at h
    dsimp only at h
    by_cases c : chr T n (p + 1) = nI 58
    · rw [if_pos c] at h
      cases h2 : sec (p + 2) with
      | none => rw [h2] at h; cases h; omega
      | some q =>
        rw [h2] at h
        cases h
    · rw [if_neg c] at h; cases h; omega
theorem ordS_bad {sec : Nat → Option (Nat × Nat)} {p q : Nat} {k : Int32} (h : ordS sec p k = .inl q) : q ≤ p + 2 := by
  unfold ordS at h
  cases h2 : sec p with
  | none => rw [h2] at h; cases h; omega
  | some q =>
    rw [h2] at h
    cases h
theorem ord_bad {p q : Nat} (h : ord T n p = .inl q) : q ≤ p + 3 := by
  unfold ord at h
  by_cases c1 : chr T n p = nI 102
  · rw [if_pos c1] at h
    have := ordT_bad h; omega
  · rw [if_neg c1] at h
    by_cases c2 : chr T n p = nI 119
    · rw [if_pos c2] at h
      have := ordT_bad h; omega
    · rw [if_neg c2] at h
      by_cases c3 : chr T n p = nI 109
      · rw [if_pos c3] at h
        have := ordT_bad h; omega
      · rw [if_neg c3] at h
        by_cases c4 : chr T n p = nI 108
        · rw [if_pos c4] at h
          have := ordS_bad h; omega
        · rw [if_neg c4] at h
          by_cases c5 : chr T n p = nI 116
          · rw [if_pos c5] at h
            have := ordS_bad h; omega
          · rw [if_neg c5] at h; cases h; omega
theorem fl0 {q c F : Nat} {Y : Nat → Int32} : s_X7_fault_19 T (F + 1) (G3 g q (nI 0) c) Y = (nI q, G3 g q (nI 0) c, Y) := by
  rw [s_X7_fault_19, if_pos g3_n0]
  rfl
theorem fl1 {p c F : Nat} {Y : Nat → Int32} (h2 : g 2 = nI n) (hn : n ≤ 80) (hp : p < 600) (hc : c < 1000) : s_X7_fault_19 T (F + 1) (G3 g p (nI 1) c) Y = if n ≤ p then (-1, G3 g p (nI 1) c, Y) else if chr T n p = nI 44 then s_X7_fault_19 T F (f_X7_reads (G3 g (p + 1) (nI 1) c) T Y c).1 (f_X7_reads (G3 g (p + 1) (nI 1) c) T Y c).2 else s_X7_fault_19 T F (G3 g p (nI 0) c) Y := by
  rw [s_X7_fault_19, if_neg g3_n1, show (G3 g p (nI 1) c) 2 = nI n from h2, show (G3 g p (nI 1) c) 3 = nI p from rfl, show (G3 g p (nI 1) c) 5 = nI c from rfl]
  by_cases k : n ≤ p
  · rw [if_pos k, if_pos ((nI_leI (by omega) (by omega)).mpr k)]
  · rw [if_neg k, if_neg (fun z => k ((nI_leI (by omega) (by omega)).mp z)), nI_clamp (by omega), nI_clamp (by omega), chr_in (by omega)]
    by_cases e : T p = nI 44
    · rw [if_pos e, if_pos e, G3_u4, show nI p + nI 1 = nI (p + 1) from nI_add p 1, G3_u3]
    · rw [if_neg e, if_neg e, G3_u4, show nI p + nI 0 = nI p from add0 _, G3_u3]
theorem yf_set {Y : Nat → Int32} {k a b : Nat} {kd : Int32} : YF (upd (upd (upd Y (3 * k) kd) (3 * k + 1) (nI a)) (3 * k + 2) (nI b)) k kd a b := by
  refine ⟨?_, ?_, pk_us⟩
  · rw [pk_un (by omega), pk_un (by omega), pk_us]
  · rw [pk_un (by omega), pk_us]
theorem yf_cong {Y Y' : Nat → Int32} {k a b : Nat} {kd : Int32} (h : YF Y k kd a b) (e : ∀ j, j < 3 * (k + 1) → Y' j = Y j) : YF Y' k kd a b := by
  unfold YF
  rw [e _ (by omega), e _ (by omega), e _ (by omega)]
  exact h
theorem cnt (h2 : g 2 = nI n) (hn : n ≤ 80) : ∀ (F p k F2 : Nat) (Y : Nat → Int32) (tr tg tv : Int32), p ≤ n → 3 * k ≤ p → k + F = 81 → k + F2 = 82 →
    (∃ q r c, q < 600 ∧ (s_X4_countOrders_6 (nI n) T F (nI p) tr tg tv (k + 1)).1 = (-100) - nI q ∧ (s_X7_fault_19 T F2 (f_X7_reads (G3 g p (nI 1) k) T Y k).1 (f_X7_reads (G3 g p (nI 1) k) T Y k).2).1 = nI q ∧ (s_X7_fault_19 T F2 (f_X7_reads (G3 g p (nI 1) k) T Y k).1 (f_X7_reads (G3 g p (nI 1) k) T Y k).2).2.1 = G3 g q r c) ∨
    (∃ r, k + r < 40 ∧ (s_X4_countOrders_6 (nI n) T F (nI p) tr tg tv (k + 1)).1 = nI (k + r + 1) ∧ (s_X7_fault_19 T F2 (f_X7_reads (G3 g p (nI 1) k) T Y k).1 (f_X7_reads (G3 g p (nI 1) k) T Y k).2).1 = -1 ∧ (s_X7_fault_19 T F2 (f_X7_reads (G3 g p (nI 1) k) T Y k).1 (f_X7_reads (G3 g p (nI 1) k) T Y k).2).2.1 = G3 g n (nI 1) (k + r + 1) ∧ (∀ j, j < 3 * k → (s_X7_fault_19 T F2 (f_X7_reads (G3 g p (nI 1) k) T Y k).1 (f_X7_reads (G3 g p (nI 1) k) T Y k).2).2.2 j = Y j) ∧ Prs T n (s_X7_fault_19 T F2 (f_X7_reads (G3 g p (nI 1) k) T Y k).1 (f_X7_reads (G3 g p (nI 1) k) T Y k).2).2.2 r p k)
  | 0, p, k, F2, Y, tr, tg, tv, hp, hk, hF, _ => by omega
  | F + 1, p, k, F2, Y, tr, tg, tv, hp, hk, hF, hF2 => by
    obtain ⟨F3, rfl⟩ : ∃ F3, F2 = F3 + 2 := ⟨F2 - 2, by omega⟩
    have ro := ro_ord (T := T) (n := n) (p := p) (tg := tg) (tv := tv) (by omega) hn
    rw [reads_spec h2 hn (by omega), s_X4_countOrders_6, if_neg (fun z => by have := (nI_ltI (by decide) (by omega)).mp z; omega)]
    generalize f_X4_readOrder (nI p) (nI n) tg tv T = R at ro
    obtain ⟨r3, tp3, tr3, tg3, tv3⟩ := R
    dsimp only
    cases h : ord T n p with
    | inl q =>
      rw [h] at ro
      obtain ⟨e1, e2⟩ := ro
      dsimp only at e1 e2
      subst e1 e2
      have hq := ord_bad h
      refine Or.inl ⟨q, nI 0, k, by omega, ?_, ?_, ?_⟩
      · rw [if_pos (show nI 0 = 0 from rfl)]
      · show (s_X7_fault_19 T ((F3 + 1) + 1) (G3 g q (nI 0) k) Y).1 = _
        rw [fl0]
      · show (s_X7_fault_19 T ((F3 + 1) + 1) (G3 g q (nI 0) k) Y).2.1 = _
        rw [fl0]
    | inr z =>
      obtain ⟨p', kd, a, b⟩ := z
      rw [h] at ro
      obtain ⟨e1, e2, -, -⟩ := ro
      dsimp only at e1 e2
      subst e1 e2
      obtain ⟨l1, l2, -⟩ := ord_lt h
      rw [if_neg (show ¬ nI 1 = 0 by decide)]
      dsimp only [RM]
      have hs : ∀ j, j < 3 * k → (upd (upd (upd Y (3 * k) kd) (3 * k + 1) (nI a)) (3 * k + 2) (nI b)) j = Y j := fun j hj => by rw [pk_un (by omega), pk_un (by omega), pk_un (by omega)]
      have hy : YF (upd (upd (upd Y (3 * k) kd) (3 * k + 1) (nI a)) (3 * k + 2) (nI b)) k kd a b := yf_set
      generalize upd (upd (upd Y (3 * k) kd) (3 * k + 1) (nI a)) (3 * k + 2) (nI b) = Y1 at hs hy ⊢
      rw [show F3 + 2 = (F3 + 1) + 1 from rfl, fl1 h2 hn (by omega) (by omega)]
      by_cases c1 : p' = n
      · subst c1
        rw [if_pos (show nI p' = nI p' from rfl), if_pos (Nat.le_refl _)]
        exact Or.inr ⟨0, by omega, rfl, rfl, rfl, hs, kd, a, b, h, hy⟩
      · rw [if_neg (fun z => c1 ((nI_eq (by omega) (by omega)).mp z)), if_neg (show ¬ n ≤ p' by omega), acc_ch (by omega) hn]
        by_cases c2 : chr T n p' = nI 44
        · rw [if_pos c2, if_pos c2]
          dsimp only
          rw [if_neg (show ¬ nI 1 = 0 by decide)]
          rcases cnt h2 hn F (p' + 1) (k + 1) (F3 + 1) Y1 tr3 tg3 tv3 (by omega) (by omega) (by omega) (by omega) with ⟨q, r, c, g1, g2, g3, g4⟩ | ⟨r, g1, g2, g3, g4, g5, g6⟩
          · exact Or.inl ⟨q, r, c, g1, g2, g3, g4⟩
          · refine Or.inr ⟨r + 1, by omega, ?_, g3, ?_, fun j hj => (g5 j (by omega)).trans (hs j hj), p', kd, a, b, h, yf_cong hy g5, c2, g6⟩
            · rw [g2]; congr 1; omega
            · rw [g4]; congr 1; omega
        · rw [if_neg c2, if_neg c2]
          dsimp only
          rw [if_pos (show nI 0 = 0 from rfl), fl0]
          exact Or.inl ⟨p', nI 0, k + 1, by omega, rfl, rfl, rfl⟩
theorem g3_ini : upd (upd (upd g 3 (nI 0)) 4 (nI 1)) 5 (nI 0) = G3 g 0 (nI 1) 0 := by
  funext j
  unfold G3
  by_cases h3 : j = 3
  · subst h3; rfl
  · by_cases h4 : j = 4
    · subst h4; rfl
    · by_cases h5 : j = 5
      · subst h5; rfl
      · rw [pk_un h5, pk_un h4, pk_un h3, if_neg h3, if_neg h4, if_neg h5]
/-- the class's count against the model's -/
theorem fault_spec {Y : Nat → Int32} {tr tg tv : Int32} (h2 : g 2 = nI n) (hn : n ≤ 80) :
    (∃ q r c, q < 600 ∧ (f_X4_countOrders (nI n) tr tg tv T).1 = (-100) - nI q ∧ (f_X7_fault g T Y).1 = nI q ∧ (f_X7_fault g T Y).2.1 = G3 g q r c) ∨
    (∃ r, r < 40 ∧ (f_X4_countOrders (nI n) tr tg tv T).1 = nI (r + 1) ∧ (f_X7_fault g T Y).1 = -1 ∧ (f_X7_fault g T Y).2.1 = G3 g n (nI 1) (r + 1) ∧ Prs T n (f_X7_fault g T Y).2.2 r 0 0) := by
  have e : f_X7_fault g T Y = s_X7_fault_19 T 82 (f_X7_reads (G3 g 0 (nI 1) 0) T Y 0).1 (f_X7_reads (G3 g 0 (nI 1) 0) T Y 0).2 := by
    unfold f_X7_fault
    rw [g3_ini]
  rw [e]
  unfold f_X4_countOrders
  rcases cnt (T := T) h2 hn 81 0 0 82 Y tr tg tv (by omega) (by omega) (by omega) (by omega) with ⟨q, r, c, g1, g2, g3, g4⟩ | ⟨r, g1, g2, g3, g4, g5, g6⟩
  · exact Or.inl ⟨q, r, c, g1, g2, g3, g4⟩
  · refine Or.inr ⟨r, by omega, ?_, g3, ?_, g6⟩
    · rw [g2]; congr 1; omega
    · rw [g4]; congr 1; omega
/-- an order obeyed -/
theorem obey_does {Y M v q yv yq : Nat → Int32} {p p' a b k t : Nat} {kd tg tv : Int32} (hn : n ≤ 80) (hy : YF Y k kd a b) (ho : ord T n p = .inr (p', kd, a, b)) (ht : t < 500) (hnp : p = if chr T n t = nI 44 then t + 1 else t) (hA : At M (46 * 6) v q) (hI : IS v q) :
    Act M (f_X7_does M Y k).2 6 (f_X7_does M Y k).1 (f_X6_obeyNextOrder v q yv yq (nI t) (nI n) tg tv T).1 (f_X6_obeyNextOrder v q yv yq (nI t) (nI n) tg tv T).2.1 (f_X6_obeyNextOrder v q yv yq (nI t) (nI n) tg tv T).2.2.1 ∧ (f_X6_obeyNextOrder v q yv yq (nI t) (nI n) tg tv T).2.2.2.2.2.1 = nI p' := by
  have e1 : f_X4_readNextOrder (nI t) (nI n) tg tv T = ((f_X4_readOrder (nI p) (nI n) tg tv T).2.1, (f_X4_readOrder (nI p) (nI n) tg tv T).2.2.1, (f_X4_readOrder (nI p) (nI n) tg tv T).2.2.2.1, (f_X4_readOrder (nI p) (nI n) tg tv T).2.2.2.2) := by
    unfold f_X4_readNextOrder
    rw [acc_ch (by omega) hn, hnp]
    by_cases c : chr T n t = nI 44
    · rw [if_pos c, if_pos c]
    · rw [if_neg c, if_neg c]
  have hp : p < 700 := by
    rw [hnp]
    by_cases c : chr T n t = nI 44
    · rw [if_pos c]; omega
    · rw [if_neg c]; omega
  have ro := ro_ord (T := T) (n := n) (p := p) (tg := tg) (tv := tv) hp hn
  rw [ho] at ro
  unfold f_X6_obeyNextOrder f_X7_does
  rw [e1]
  generalize f_X4_readOrder (nI p) (nI n) tg tv T = R at ro
  obtain ⟨r3, tp3, tr3, tg3, tv3⟩ := R
  obtain ⟨-, e2, e3, e4⟩ := ro
  dsimp only at e2 e3 e4
  subst e2 e3
  obtain ⟨y0, y1, y2⟩ := hy
  dsimp only
  rw [y0, y1, y2]
  rcases e4 with ⟨hk, e4, e5⟩ | ⟨hk, e4, e5⟩
  · subst e4 e5
    rcases hk with rfl | rfl | rfl
    · rw [if_pos rfl, if_pos rfl]
      exact ⟨sets_at hA hI, rfl⟩
    · rw [if_neg (show ¬ nI 119 = nI 102 by decide), if_neg (show ¬ nI 119 = nI 108 by decide), if_neg (show ¬ nI 119 = nI 109 by decide), if_pos rfl, if_neg (show ¬ nI 119 = nI 102 by decide), if_neg (show ¬ nI 119 = nI 108 by decide), if_neg (show ¬ nI 119 = nI 109 by decide), if_pos rfl]
      exact ⟨fills_at hA hI, rfl⟩
    · rw [if_neg (show ¬ nI 109 = nI 102 by decide), if_neg (show ¬ nI 109 = nI 108 by decide), if_pos rfl, if_neg (show ¬ nI 109 = nI 102 by decide), if_neg (show ¬ nI 109 = nI 108 by decide), if_pos rfl]
      exact ⟨starts_at (by omega) hA hI, rfl⟩
  · subst e4
    rcases hk with rfl | rfl
    · rw [if_neg (show ¬ nI 108 = nI 102 by decide), if_pos rfl, if_neg (show ¬ nI 108 = nI 102 by decide), if_pos rfl]
      exact ⟨queues_at hA hI, rfl⟩
    · rw [if_neg (show ¬ nI 116 = nI 102 by decide), if_neg (show ¬ nI 116 = nI 108 by decide), if_neg (show ¬ nI 116 = nI 109 by decide), if_neg (show ¬ nI 116 = nI 119 by decide), if_neg (show ¬ nI 116 = nI 102 by decide), if_neg (show ¬ nI 116 = nI 108 by decide), if_neg (show ¬ nI 116 = nI 109 by decide), if_neg (show ¬ nI 116 = nI 119 by decide)]
      exact ⟨runs_at (by omega) hA hI, rfl⟩
end TXT4
