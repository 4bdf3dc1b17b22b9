def wIn : Nat → (Nat → Int32) → Bool
  | 0, _ => false
  | n + 1, v => if (f_X2_workTick v).1 = nI 0 then wIn n (f_X2_workTick v).2 else true
theorem wIn_0 {n : Nat} {v : Nat → Int32} (h : (f_X2_workTick v).1 = nI 0) : wIn (n + 1) v = wIn n (f_X2_workTick v).2 := by
  rw [wIn, if_pos h]
theorem wIn_1 {n : Nat} {v : Nat → Int32} (h : (f_X2_workTick v).1 = nI 1) : wIn (n + 1) v = true := by
  rw [wIn, if_neg (by rw [h]; decide)]
def EnvEq (u u' : Nat → Int32) : Prop := ∀ j, j < 13 → u j = u' j
theorem env_upd {u u' : Nat → Int32} (h : EnvEq u u') (i : Nat) (x : Int32) : EnvEq (upd u i x) (upd u' i x) := by
  intro j hj
  by_cases e : j = i
  · subst e
    rw [pk_us, pk_us]
  · rw [pk_un e, pk_un e]
    exact h j hj
theorem env_big {u u' : Nat → Int32} (h : EnvEq u u') {i : Nat} (hi : 13 ≤ i) (x y : Int32) : EnvEq (upd u i x) (upd u' i y) := by
  intro j hj
  rw [pk_un (by omega), pk_un (by omega)]
  exact h j hj
theorem env_rat {u u' : Nat → Int32} (h : EnvEq u u') : EnvEq (rat u) (rat u') := by
  have e12 := h 12 (by decide)
  have e10 := h 10 (by decide)
  have e11 := h 11 (by decide)
  have ht : EnvEq (tick1 u) (tick1 u') := by
    unfold tick1
    rw [e12]
    exact env_upd h _ _
  have t10 : tick1 u 10 = tick1 u' 10 := ht 10 (by decide)
  have t11 : tick1 u 11 = tick1 u' 11 := ht 11 (by decide)
  unfold rat
  rw [e12]
  by_cases c : ((u' 12) + (nI 1)) - ((u' 12) + (nI 1)) / (nI 60) * (nI 60) = 0
  · rw [if_pos c, if_pos c]
    unfold f_X2_receiveRation
    rw [t10, t11]
    exact env_big (env_upd ht _ _) (by decide) _ _
  · rw [if_neg c, if_neg c]
    exact ht

theorem env_brn0 {u u' : Nat → Int32} (h : EnvEq u u') : EnvEq (brn0 u) (brn0 u') := by
  unfold brn0
  rw [h 0 (by decide), h 2 (by decide), h 4 (by decide), h 6 (by decide), h 10 (by decide)]
  generalize f_X0_burn (u' 0) (u' 2) (u' 4) (u' 6) (u' 10) = r
  obtain ⟨r, bf, bw, bp, bl⟩ := r
  exact env_big (env_upd (env_upd (env_upd (env_upd (env_upd h _ _) _ _) _ _) _ _) _ _) (by decide) _ _
theorem env_cool0 {u u' : Nat → Int32} (h : EnvEq u u') : EnvEq (cool0 u) (cool0 u') := by
  unfold cool0
  rw [h 0 (by decide), h 4 (by decide), h 6 (by decide), h 8 (by decide)]
  generalize f_X0_coolDown (u' 0) (u' 4) (u' 6) (u' 8) = r
  obtain ⟨bf, bp, bl, bs⟩ := r
  exact env_upd (env_upd (env_upd (env_upd h _ _) _ _) _ _) _ _

theorem env_brn1 {u u' : Nat → Int32} (h : EnvEq u u') : EnvEq (brn1 u) (brn1 u') := by
  unfold brn1
  rw [h 1 (by decide), h 3 (by decide), h 5 (by decide), h 7 (by decide), h 10 (by decide)]
  generalize f_X0_burn (u' 1) (u' 3) (u' 5) (u' 7) (u' 10) = r
  obtain ⟨r, bf, bw, bp, bl⟩ := r
  exact env_big (env_upd (env_upd (env_upd (env_upd (env_upd h _ _) _ _) _ _) _ _) _ _) (by decide) _ _
theorem env_cool1 {u u' : Nat → Int32} (h : EnvEq u u') : EnvEq (cool1 u) (cool1 u') := by
  unfold cool1
  rw [h 1 (by decide), h 5 (by decide), h 7 (by decide), h 9 (by decide)]
  generalize f_X0_coolDown (u' 1) (u' 5) (u' 7) (u' 9) = r
  obtain ⟨bf, bp, bl, bs⟩ := r
  exact env_upd (env_upd (env_upd (env_upd h _ _) _ _) _ _) _ _

theorem env_take {p0 : Int32} : ∀ (n : Nat) (u u' : Nat → Int32) (i : Nat), EnvEq u u' → EnvEq (s_X2_takeSteam_2 p0 n u i) (s_X2_takeSteam_2 p0 n u' i)
  | 0, u, u', i, _ => fun _ _ => rfl
  | n + 1, u, u', i, h => by
    rw [s_X2_takeSteam_2, s_X2_takeSteam_2]
    by_cases c : p0 ≤ nI i
    · rw [if_pos c, if_pos c]
      exact h
    · rw [if_neg c, if_neg c, h 5 (by decide), h 4 (by decide)]
      by_cases c2 : u' 5 ≤ u' 4
      · rw [if_pos c2, if_pos c2]
        exact env_take n _ _ _ (env_upd h _ _)
      · rw [if_neg c2, if_neg c2]
        exact env_take n _ _ _ (env_upd h _ _)
theorem env_wl {u u' : Nat → Int32} (h : EnvEq u u') : EnvEq (f_X2_workLoads u) (f_X2_workLoads u') := by
  intro j hj
  rw [wl_keep u (Or.inl hj) (by omega) (by omega), wl_keep u' (Or.inl hj) (by omega) (by omega)]
  exact h j hj
def Pm (π : Nat → Nat) : Prop := (∀ i, i < 4 → π i < 4) ∧ ∀ f : Nat → Int32, f (π 0) + f (π 1) + f (π 2) + f (π 3) = f 0 + f 1 + f 2 + f 3
def Sw (π : Nat → Nat) (u u' : Nat → Int32) : Prop := EnvEq u u' ∧ ∀ i, i < 4 → u (13 + i) = u' (13 + π i) ∧ u (17 + i) = u' (17 + π i)
theorem need_sum (u : Nat → Int32) : f_X2_need u = f_X6_steamOf (u 13) + f_X6_steamOf (u 14) + f_X6_steamOf (u 15) + f_X6_steamOf (u 16) := by
  unfold f_X2_need
  rw [nI0, Int32.zero_add]
theorem need_sw {π : Nat → Nat} {u u' : Nat → Int32} (hp : Pm π) (h : ∀ i, i < 4 → u (13 + i) = u' (13 + π i)) : f_X2_need u = f_X2_need u' := by
  rw [need_sum, need_sum, show u 13 = _ from h 0 (by decide), show u 14 = _ from h 1 (by decide), show u 15 = _ from h 2 (by decide), show u 16 = _ from h 3 (by decide)]
  exact hp.2 (fun i => f_X6_steamOf (u' (13 + i)))
theorem tick_mi {v : Nat → Int32} {i : Nat} (hi : i < 4) (h : (f_X2_workTick v).1 = nI 0) : (f_X2_workTick v).2 (13 + i) = (if v (13 + i) = -5 then -5 else if v (17 + i) - nI 1 = 0 then -5 else v (13 + i)) ∧ (f_X2_workTick v).2 (17 + i) = (if v (13 + i) = -5 then v (17 + i) else if v (17 + i) - nI 1 = 0 then nI 0 else v (17 + i) - nI 1) := by
  have h4 : i = 0 ∨ i = 1 ∨ i = 2 ∨ i = 3 := by omega
  rcases h4 with rfl | rfl | rfl | rfl
  · exact tick_m0 h
  · exact tick_m1 h
  · exact tick_m2 h
  · exact tick_m3 h
theorem tick_sw {π : Nat → Nat} {u u' : Nat → Int32} (hp : Pm π) (h : Sw π u u') : (f_X2_workTick u).1 = (f_X2_workTick u').1 ∧ ((f_X2_workTick u).1 = nI 0 → Sw π (f_X2_workTick u).2 (f_X2_workTick u').2) := by
  have he : EnvEq (preW u) (preW u') := env_brn1 (env_brn0 (env_rat h.1))
  have hk : ∀ i, i < 4 → preW u (13 + i) = preW u' (13 + π i) := by
    intro i hi
    have := hp.1 i hi
    rw [preW_keep u (by omega) (by omega) (by omega) (by omega), preW_keep u' (by omega) (by omega) (by omega) (by omega)]
    exact (h.2 i hi).1
  have hn : f_X2_need (preW u) = f_X2_need (preW u') := need_sw hp hk
  have hpr : f_X2_allPressure (preW u) = f_X2_allPressure (preW u') := by
    unfold f_X2_allPressure
    rw [he 4 (by decide), he 5 (by decide)]
  have h1 : (f_X2_workTick u).1 = (f_X2_workTick u').1 := by
    rw [tick_eq u, tick_eq u', hn, hpr]
    by_cases c : f_X2_need (preW u') ≤ f_X2_allPressure (preW u')
    · rw [if_pos c, if_pos c]
    · rw [if_neg c, if_neg c]
  refine ⟨h1, fun h0 => ⟨?_, fun i hi => ?_⟩⟩
  · rw [tick_eq u] at h0
    by_cases c : f_X2_need (preW u) ≤ f_X2_allPressure (preW u)
    · rw [tick_eq u, tick_eq u', if_pos c, if_pos (by rw [← hn, ← hpr]; exact c), hn]
      dsimp only
      unfold f_X2_takeSteam
      exact env_cool1 (env_cool0 (env_wl (env_take _ _ _ _ he)))
    · rw [if_neg c] at h0
      dsimp only at h0
      exact absurd h0 (by decide)
  · obtain ⟨a1, a2⟩ := tick_mi hi h0
    obtain ⟨b1, b2⟩ := tick_mi (hp.1 i hi) (h1 ▸ h0)
    rw [a1, a2, b1, b2, (h.2 i hi).1, (h.2 i hi).2]
    exact ⟨rfl, rfl⟩
theorem wIn_sw {π : Nat → Nat} (hp : Pm π) : ∀ (n : Nat) (u u' : Nat → Int32), Sw π u u' → wIn n u = wIn n u'
  | 0, _, _, _ => rfl
  | n + 1, u, u', h => by
    obtain ⟨h1, h2⟩ := tick_sw hp h
    rcases tick_wait (v := u) with ⟨h0, -⟩ | ⟨h0, -⟩
    · rw [wIn_0 h0, wIn_0 (h1 ▸ h0)]
      exact wIn_sw hp n _ _ (h2 h0)
    · rw [wIn_1 h0, wIn_1 (h1 ▸ h0)]
def swp (a b : Nat) : Nat → Nat := fun i => if i = a then b else if i = b then a else i
theorem Pm_swp {a b : Nat} (ha : a < 4) (hb : b < 4) : Pm (swp a b) := by
  have h4 : a = 0 ∨ a = 1 ∨ a = 2 ∨ a = 3 := by omega
  have h5 : b = 0 ∨ b = 1 ∨ b = 2 ∨ b = 3 := by omega
  refine ⟨fun i hi => ?_, fun f => ?_⟩
  · unfold swp
    split
    · exact hb
    · split
      · exact ha
      · exact hi
  · rcases h4 with rfl | rfl | rfl | rfl <;> rcases h5 with rfl | rfl | rfl | rfl <;> simp only [swp, Nat.reduceEqDiff, if_true, if_false] <;> ac_rfl
/-- the class puts a load into a machine, and counts nothing yet -/
def putC (v : Nat → Int32) (i : Nat) (k : Int32) : Nat → Int32 := upd (upd (upd v (13 + i) k) (17 + i) (f_X6_ticksOf k)) (21 + i) (nI 0)
theorem put_sw {v : Nat → Int32} {a b : Nat} {k : Int32} (ha : a < 4) (hb : b < 4) (e1 : v (13 + a) = v (13 + b)) (e2 : v (17 + a) = v (17 + b)) : Sw (swp a b) (putM v a k) (putC v b k) := by
  refine ⟨fun j hj => ?_, fun i hi => ?_⟩
  · unfold putM putC
    rw [pk_un (by omega), pk_un (by omega), pk_un (by omega), pk_un (by omega), pk_un (by omega), pk_un (by omega), pk_un (by omega)]
  · unfold putM putC swp
    by_cases c : i = a
    · subst c
      rw [if_pos rfl]
      refine ⟨?_, ?_⟩
      · rw [pk_un (by omega), pk_un (by omega), pk_un (by omega), pk_us, pk_un (by omega), pk_un (by omega), pk_us]
      · rw [pk_un (by omega), pk_un (by omega), pk_us, pk_un (by omega), pk_us]
    · rw [if_neg c]
      by_cases c2 : i = b
      · subst c2
        rw [if_pos rfl]
        refine ⟨?_, ?_⟩
        · rw [pk_un (by omega), pk_un (by omega), pk_un (by omega), pk_un (by omega), pk_un (by omega), pk_un (by omega), pk_un (by omega)]
          exact e1.symm
        · rw [pk_un (by omega), pk_un (by omega), pk_un (by omega), pk_un (by omega), pk_un (by omega), pk_un (by omega), pk_un (by omega)]
          exact e2.symm
      · rw [if_neg c2]
        refine ⟨?_, ?_⟩
        · rw [pk_un (by omega), pk_un (by omega), pk_un (by omega), pk_un (by omega), pk_un (by omega), pk_un (by omega), pk_un (by omega)]
        · rw [pk_un (by omega), pk_un (by omega), pk_un (by omega), pk_un (by omega), pk_un (by omega), pk_un (by omega), pk_un (by omega)]
/-- the class's loop tells whether loads wait -/
theorem rea_loop {p0 : Int32} {q : Nat → Int32} : ∀ (n : Nat) (v : Nat → Int32) (i : Nat), i ≤ (f_X6_ticksOf p0).toNatClampNeg → ¬ f_X6_ticksOf p0 < 0 → (f_X6_ticksOf p0).toNatClampNeg - i < n → (s_X2_reasonAgainst_50 p0 n v q i).1 = if wIn ((f_X6_ticksOf p0).toNatClampNeg - i) v then nI 3 else nI 0
  | 0, v, i, _, _, hn => absurd hn (Nat.not_lt_zero _)
  | n + 1, v, i, hi, hp, hn => by
    have hz := natBig (f_X6_ticksOf p0)
    rw [s_X2_reasonAgainst_50]
    by_cases c : f_X6_ticksOf p0 ≤ nI i
    · rw [if_pos c]
      have e : f_X6_ticksOf p0 = nI (f_X6_ticksOf p0).toNatClampNeg := natOf hp
      rw [e, nI_leI hz (by omega)] at c
      rw [show (f_X6_ticksOf p0).toNatClampNeg - i = 0 by omega]
      rfl
    · have hg := ltNat c (by omega)
      rw [if_neg c]
      obtain ⟨t, ht⟩ : ∃ t, (f_X6_ticksOf p0).toNatClampNeg - i = t + 1 := ⟨(f_X6_ticksOf p0).toNatClampNeg - i - 1, by omega⟩
      have ht2 : (f_X6_ticksOf p0).toNatClampNeg - (i + 1) = t := by omega
      rw [ht]
      rcases tick_wait (v := v) with ⟨h0, -⟩ | ⟨h0, -⟩
      · rw [wIn_0 h0]
        have e : f_X2_workTick v = (nI 0, (f_X2_workTick v).2) := by rw [← h0]
        rw [e]
        dsimp only
        rw [if_pos (show nI 0 = 0 from rfl), rea_loop n _ (i + 1) hg hp (by omega), ht2]
      · rw [wIn_1 h0]
        have e : f_X2_workTick v = (nI 1, (f_X2_workTick v).2) := by rw [← h0]
        rw [e]
        dsimp only
        rw [if_neg (show ¬ nI 1 = 0 by decide)]
        rfl

