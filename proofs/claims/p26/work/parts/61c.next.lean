/-! a tick with the line -/
theorem rea_ind {v q a b a' b' : Nat → Int32} {k : Int32} : (f_X2_reasonAgainst v q a b k).1 = (f_X2_reasonAgainst v q a' b' k).1 := by
  unfold f_X2_reasonAgainst
  by_cases c : f_X2_lowestEmptyMachine (fun j => j) v = none
  · simp only [if_pos c]
  · simp only [if_neg c]
    by_cases c2 : nI 10 ≤ f_X2_allPressure v
    · simp only [if_pos c2]
    · simp only [if_neg c2]
def RS (v q : Nat → Int32) (k : Int32) : Int32 := (f_X2_reasonAgainst v q v q k).1
def NXw (u q : Nat → Int32) : (Nat → Int32) × (Nat → Int32) :=
  if f_X5_kindAt (u 25) q (nI 0) = -5 then (u, q)
  else if RS u q (f_X5_kindAt (u 25) q (nI 0)) = 0 then
    (if lowI u < 0 then (u, q) else (putM (upd u 25 (f_X5_remove (u 25) q (nI 0)).2.1) (lowI u).toNatClampNeg (f_X5_kindAt (u 25) q (nI 0)), (f_X5_remove (u 25) q (nI 0)).2.2))
  else (u, q)
def NX (v q : Nat → Int32) : (Nat → Int32) × (Nat → Int32) := NXw (f_X2_workTick v).2 q
theorem pass_nx (v q a b : Nat → Int32) : (f_X2_passTick v q a b).1 = (NX v q).1 ∧ (f_X2_passTick v q a b).2.1 = (NX v q).2 := by
  unfold f_X2_passTick NX
  generalize f_X2_workTick v = R
  obtain ⟨r, v1⟩ := R
  dsimp only
  unfold NXw
  by_cases c1 : f_X5_kindAt (v1 25) q (nI 0) = -5
  · rw [if_pos c1, if_pos c1]
    exact ⟨rfl, rfl⟩
  · rw [if_neg c1, if_neg c1]
    have hr : (f_X2_reasonAgainst v1 q a b (f_X5_kindAt (v1 25) q (nI 0))).1 = RS v1 q (f_X5_kindAt (v1 25) q (nI 0)) := rea_ind
    generalize f_X2_reasonAgainst v1 q a b (f_X5_kindAt (v1 25) q (nI 0)) = S at hr ⊢
    obtain ⟨s1, s2, s3⟩ := S
    have hr : s1 = RS v1 q (f_X5_kindAt (v1 25) q (nI 0)) := hr
    rw [← hr]
    generalize f_X5_remove (v1 25) q (nI 0) = U
    obtain ⟨r8, l8, q8⟩ := U
    dsimp only
    by_cases c2 : s1 = 0
    · rw [if_pos c2, if_pos c2]
      unfold lowI
      by_cases d0 : v1 13 = -5
      · rw [if_pos d0, if_pos d0, if_neg (show ¬ nI 0 < 0 by decide), show (nI 0).toNatClampNeg = 0 from nI_clamp (by omega)]
        exact ⟨rfl, rfl⟩
      · rw [if_neg d0, if_neg d0]
        by_cases d1 : v1 14 = -5
        · rw [if_pos d1, if_pos d1, if_neg (show ¬ nI 1 < 0 by decide), show (nI 1).toNatClampNeg = 1 from nI_clamp (by omega)]
          exact ⟨rfl, rfl⟩
        · rw [if_neg d1, if_neg d1]
          by_cases d2 : v1 15 = -5
          · rw [if_pos d2, if_pos d2, if_neg (show ¬ nI 2 < 0 by decide), show (nI 2).toNatClampNeg = 2 from nI_clamp (by omega)]
            exact ⟨rfl, rfl⟩
          · rw [if_neg d2, if_neg d2]
            by_cases d3 : v1 16 = -5
            · rw [if_pos d3, if_pos d3, if_neg (show ¬ nI 3 < 0 by decide), show (nI 3).toNatClampNeg = 3 from nI_clamp (by omega)]
              exact ⟨rfl, rfl⟩
            · rw [if_neg d3, if_neg d3, if_pos (show (-1 : Int32) < 0 by decide)]
              exact ⟨rfl, rfl⟩
    · rw [if_neg c2, if_neg c2]
      exact ⟨rfl, rfl⟩
theorem kind_p {n p : Nat} {q : Nat → Int32} (hn : n ≤ 12) (hp : p < n) : f_X5_kindAt (nI n) q (nI p) = q p := by
  unfold f_X5_kindAt
  rw [if_neg (nI_pos (by omega)), if_neg (fun z => by have := (nI_leI (by omega) (by omega)).mp z; omega), if_neg (fun z => by have := (nI_leI (a := 12) (b := p) (by omega) (by omega)).mp z; omega), nI_clamp (by omega)]
theorem kind_out {n p : Nat} {q : Nat → Int32} (hn : n ≤ 12) (hp : n ≤ p) (h2 : p < 2 ^ 31) : f_X5_kindAt (nI n) q (nI p) = -5 := by
  unfold f_X5_kindAt
  rw [if_neg (nI_pos (by omega)), if_pos ((nI_leI (by omega) (by omega)).mpr hp)]
theorem rem_loop {n : Nat} (hn : n ≤ 12) (k : Int32) : ∀ (f i : Nat) (q : Nat → Int32), i ≤ n → 1 ≤ i → n - i < f → (∀ j, j < n → K3 (q j)) → ∃ q', s_X5_remove_24 f (nI n) q k i = (k, nI n - nI 1, q') ∧ ∀ j, j < n → K3 (q' j)
  | 0, i, q, _, _, h, _ => absurd h (Nat.not_lt_zero _)
  | f + 1, i, q, hi, h1, hf, hq => by
    rw [s_X5_remove_24]
    by_cases c : nI n ≤ nI i
    · rw [if_pos c]
      exact ⟨q, rfl, hq⟩
    · rw [if_neg c]
      rw [nI_leI (by omega) (by omega)] at c
      rw [if_neg (fun z => by have := (nI_leI (a := 12) (b := i) (by omega) (by omega)).mp z; omega)]
      exact rem_loop hn k f (i + 1) (upd q (i - 1) (q i)) (by omega) (by omega) (by omega) (fun j hj => by
        by_cases e : j = i - 1
        · rw [e, pk_us]
          exact hq i (by omega)
        · rw [pk_un e]
          exact hq j hj)
theorem rem_ok {n p : Nat} {q : Nat → Int32} (hn : n ≤ 12) (hp : p < n) (hq : ∀ j, j < n → K3 (q j)) : ∃ q', f_X5_remove (nI n) q (nI p) = (q p, nI (n - 1), q') ∧ ∀ j, j < n - 1 → K3 (q' j) := by
  obtain ⟨q', e, h⟩ := rem_loop hn (f_X5_kindAt (nI n) q (nI p)) 13 (p + 1) q (by omega) (by omega) (by omega) hq
  refine ⟨q', ?_, fun j hj => h j (by omega)⟩
  unfold f_X5_remove
  rw [if_neg (nI_pos (by omega)), if_pos ((nI_ltI (by omega) (by omega)).mpr hp), nI_clamp (by omega), e, kind_p hn hp, pk_sub (by omega)]
theorem rem_out {n p : Nat} {q : Nat → Int32} (hn : n ≤ 12) (hp : n ≤ p) (h2 : p < 2 ^ 31) : f_X5_remove (nI n) q (nI p) = ((-1), nI n, q) := by
  unfold f_X5_remove
  rw [if_neg (nI_pos (by omega)), if_neg (fun z => by have := (nI_ltI (by omega) (by omega)).mp z; omega)]
theorem Iv.bo {t : Int} {v v' : Nat → Int32} (h : Iv t v) (e : ∀ j, 10 ≤ j → j < 46 → j ≠ 25 → v' j = v j) (b0 : BO t (v' 0) (v' 2) (v' 4) (v' 6) (v' 8)) (b1 : BO t (v' 1) (v' 3) (v' 5) (v' 7) (v' 9)) : Iv t v' := by
  obtain ⟨-, hM, hC, hS, hW, hU, h12, ht⟩ := h
  have E := fun j h1 h2 h3 => e j h1 h2 h3
  exact ⟨⟨b0, b1⟩, hM.of (fun j h1 h2 => E j (by omega) (by omega) (by omega)), hC.of (E 10 (by decide) (by decide) (by decide)) (E 11 (by decide) (by decide) (by decide)) (E 38 (by decide) (by decide) (by decide)) (E 39 (by decide) (by decide) (by decide)), hS.of (fun j h1 h2 => E j (by omega) (by omega) (by omega)) (E 40 (by decide) (by decide) (by decide)) (E 41 (by decide) (by decide) (by decide)) (E 42 (by decide) (by decide) (by decide)) (E 43 (by decide) (by decide) (by decide)), hW.of (E 41 (by decide) (by decide) (by decide)) (E 44 (by decide) (by decide) (by decide)), hU.of (E 38 (by decide) (by decide) (by decide)), by rw [E 12 (by decide) (by decide) (by decide)]; exact h12, ht⟩
theorem Iv.of {t : Int} {v v' : Nat → Int32} (h : Iv t v) (e : ∀ j, j < 46 → j ≠ 25 → v' j = v j) : Iv t v' :=
  h.bo (fun j _ h2 h3 => e j h2 h3) (by rw [e 0 (by decide) (by decide), e 2 (by decide) (by decide), e 4 (by decide) (by decide), e 6 (by decide) (by decide), e 8 (by decide) (by decide)]; exact h.1.1) (by rw [e 1 (by decide) (by decide), e 3 (by decide) (by decide), e 5 (by decide) (by decide), e 7 (by decide) (by decide), e 9 (by decide) (by decide)]; exact h.1.2)
/-- one machine becomes another -/
theorem MO4.set {v v' : Nat → Int32} {i : Nat} (h : MO4 v) (hi : i < 4) (hm : MO (v' (13 + i)) (v' (17 + i)) (v' (21 + i))) (e : ∀ j, 13 ≤ j → j < 25 → j ≠ 13 + i → j ≠ 17 + i → j ≠ 21 + i → v' j = v j) : MO4 v' := by
  obtain ⟨h0, h1, h2, h3⟩ := h
  have key : ∀ m, m < 4 → m ≠ i → MO (v (13 + m)) (v (17 + m)) (v (21 + m)) → MO (v' (13 + m)) (v' (17 + m)) (v' (21 + m)) := by
    intro m hm4 hmi hh
    rw [e (13 + m) (by omega) (by omega) (by omega) (by omega) (by omega), e (17 + m) (by omega) (by omega) (by omega) (by omega) (by omega), e (21 + m) (by omega) (by omega) (by omega) (by omega) (by omega)]
    exact hh
  rcases at4 hi with rfl | rfl | rfl | rfl
  · exact ⟨hm, key 1 (by omega) (by omega) h1, key 2 (by omega) (by omega) h2, key 3 (by omega) (by omega) h3⟩
  · exact ⟨key 0 (by omega) (by omega) h0, hm, key 2 (by omega) (by omega) h2, key 3 (by omega) (by omega) h3⟩
  · exact ⟨key 0 (by omega) (by omega) h0, key 1 (by omega) (by omega) h1, hm, key 3 (by omega) (by omega) h3⟩
  · exact ⟨key 0 (by omega) (by omega) h0, key 1 (by omega) (by omega) h1, key 2 (by omega) (by omega) h2, hm⟩
theorem MO4.at {v : Nat → Int32} {i : Nat} (h : MO4 v) (hi : i < 4) : MO (v (13 + i)) (v (17 + i)) (v (21 + i)) := by
  rcases at4 hi with rfl | rfl | rfl | rfl
  · exact h.1
  · exact h.2.1
  · exact h.2.2.1
  · exact h.2.2.2
theorem lds_set {v v' : Nat → Int32} {i : Nat} (hi : i < 4) (e : ∀ j, 13 ≤ j → j < 17 → j ≠ 13 + i → v' j = v j) : lds v' + ld (v (13 + i)) = lds v + ld (v' (13 + i)) := by
  unfold lds
  rcases at4 hi with rfl | rfl | rfl | rfl
  · rw [e 14 (by omega) (by omega) (by omega), e 15 (by omega) (by omega) (by omega), e 16 (by omega) (by omega) (by omega)]
    show ld (v' 13) + ld (v 14) + ld (v 15) + ld (v 16) + ld (v 13) = ld (v 13) + ld (v 14) + ld (v 15) + ld (v 16) + ld (v' 13)
    omega
  · rw [e 13 (by omega) (by omega) (by omega), e 15 (by omega) (by omega) (by omega), e 16 (by omega) (by omega) (by omega)]
    show ld (v 13) + ld (v' 14) + ld (v 15) + ld (v 16) + ld (v 14) = ld (v 13) + ld (v 14) + ld (v 15) + ld (v 16) + ld (v' 14)
    omega
  · rw [e 13 (by omega) (by omega) (by omega), e 14 (by omega) (by omega) (by omega), e 16 (by omega) (by omega) (by omega)]
    show ld (v 13) + ld (v 14) + ld (v' 15) + ld (v 16) + ld (v 15) = ld (v 13) + ld (v 14) + ld (v 15) + ld (v 16) + ld (v' 15)
    omega
  · rw [e 13 (by omega) (by omega) (by omega), e 14 (by omega) (by omega) (by omega), e 15 (by omega) (by omega) (by omega)]
    show ld (v 13) + ld (v 14) + ld (v 15) + ld (v' 16) + ld (v 16) = ld (v 13) + ld (v 14) + ld (v 15) + ld (v 16) + ld (v' 16)
    omega
theorem putM_k {v : Nat → Int32} {i : Nat} {k : Int32} (hi : i < 4) : putM v i k (13 + i) = k := by
  unfold putM
  rw [pk_un (by omega), pk_un (by omega), pk_un (by omega), pk_us]
theorem putM_l {v : Nat → Int32} {i : Nat} {k : Int32} (hi : i < 4) : putM v i k (17 + i) = f_X6_ticksOf k := by
  unfold putM
  rw [pk_un (by omega), pk_un (by omega), pk_us]
theorem putM_w {v : Nat → Int32} {i : Nat} {k : Int32} (hi : i < 4) : putM v i k (21 + i) = nI 0 := by
  unfold putM
  rw [pk_un (by omega), pk_us]
theorem putM_40 {v : Nat → Int32} {i : Nat} {k : Int32} : putM v i k 40 = v 40 + nI 1 := by
  unfold putM
  rw [pk_us]
theorem putM_m {v : Nat → Int32} {i j : Nat} {k : Int32} (h1 : j ≠ 13 + i) (h2 : j ≠ 17 + i) (h3 : j ≠ 21 + i) (h4 : j ≠ 40) : putM v i k j = v j := by
  unfold putM
  rw [pk_un h4, pk_un h3, pk_un h2, pk_un h1]
theorem Iv.put {t : Int} {v : Nat → Int32} {i : Nat} {k : Int32} (h : Iv t v) (hi : i < 4) (he : v (13 + i) = -5) (hk : K3 k) : Iv t (putM v i k) := by
  obtain ⟨⟨b0, b1⟩, hM, hC, hS, hW, hU, h12, ht⟩ := h
  have K := fun j (hj : j < 13 ∨ (25 ≤ j ∧ j ≠ 40)) => putM_keep (v := v) (k := k) (j := j) hi hj
  refine ⟨⟨?_, ?_⟩, hM.set hi ?_ (fun j h1 h2 h3 h4 h5 => putM_m h3 h4 h5 (by omega)), hC.of (K 10 (by decide)) (K 11 (by decide)) (K 38 (by decide)) (K 39 (by decide)), ?_, hW.of (K 41 (by decide)) (K 44 (by decide)), hU.of (K 38 (by decide)), by rw [K 12 (by decide)]; exact h12, ht⟩
  · rw [K 0 (by decide), K 2 (by decide), K 4 (by decide), K 6 (by decide), K 8 (by decide)]
    exact b0
  · rw [K 1 (by decide), K 3 (by decide), K 5 (by decide), K 7 (by decide), K 9 (by decide)]
    exact b1
  · rw [putM_k hi, putM_l hi, putM_w hi]
    exact MO.new hk
  · have hl := lds_set (v := v) (v' := putM v i k) hi (fun j h1 h2 h3 => putM_m h3 (by omega) (by omega) (by omega))
    rw [putM_k hi, he, ld_5, ld_k (kd3 hk)] at hl
    have hl : lds (putM v i k) = lds v + 1 := by omega
    unfold SA at hS ⊢
    rw [putM_40, K 41 (by decide), K 42 (by decide), K 43 (by decide), hl, hS, Int32.add_assoc (v 41 + v 42 + v 43), nI_add]
theorem low_i {u : Nat → Int32} (h : ¬ lowI u < 0) : ∃ i, i < 4 ∧ lowI u = nI i ∧ u (13 + i) = -5 := by
  unfold lowI at h ⊢
  by_cases c0 : u 13 = -5
  · exact ⟨0, by decide, by rw [if_pos c0], c0⟩
  · rw [if_neg c0] at h ⊢
    by_cases c1 : u 14 = -5
    · exact ⟨1, by decide, by rw [if_pos c1], c1⟩
    · rw [if_neg c1] at h ⊢
      by_cases c2 : u 15 = -5
      · exact ⟨2, by decide, by rw [if_pos c2], c2⟩
      · rw [if_neg c2] at h ⊢
        by_cases c3 : u 16 = -5
        · exact ⟨3, by decide, by rw [if_pos c3], c3⟩
        · rw [if_neg c3] at h
          exact absurd (show (-1 : Int32) < 0 by decide) h
theorem NX_iv {t : Int} {v q : Nat → Int32} (h : Iv t v) (hL : Li v q) (ht : t ≤ 1000000) : Iv (t + 1) (NX v q).1 ∧ Li (NX v q).1 (NX v q).2 := by
  have h1 := h.tick ht
  obtain ⟨n, n12, hn, hq⟩ := hL
  have e25 := (tick_25 v).trans hn
  unfold NX NXw
  generalize (f_X2_workTick v).2 = u at h1 e25 ⊢
  have same : Iv (t + 1) u ∧ Li u q := ⟨h1, n, n12, e25, hq⟩
  rw [e25, kind0 n12]
  by_cases c0 : n = 0
  · rw [if_pos c0, if_pos rfl]
    exact same
  · rw [if_neg c0]
    have k0 := hq 0 (by omega)
    rw [if_neg (kd3 k0)]
    by_cases c1 : RS u q (q 0) = 0
    · rw [if_pos c1]
      by_cases c2 : lowI u < 0
      · rw [if_pos c2]
        exact same
      · rw [if_neg c2]
        obtain ⟨q', e, hq'⟩ := rem_ok (p := 0) n12 (by omega) hq
        rw [e]
        obtain ⟨i, hi, ei, e5⟩ := low_i c2
        rw [ei, nI_clamp (by omega)]
        dsimp only
        refine ⟨(h1.of (fun j _ hj => pk_un hj)).put hi (by rw [pk_un (by omega)]; exact e5) k0, n - 1, by omega, ?_, hq'⟩
        rw [putM_keep hi (by omega)]
        exact pk_us
    · rw [if_neg c1]
      exact same
def NN : Nat → (Nat → Int32) → (Nat → Int32) → (Nat → Int32) × (Nat → Int32)
  | 0, v, q => (v, q)
  | n + 1, v, q => NN n (NX v q).1 (NX v q).2
theorem passN_nn : ∀ (n : Nat) (v q a b : Nat → Int32), (passN n v q a b).1 = (NN n v q).1 ∧ (passN n v q a b).2.1 = (NN n v q).2
  | 0, v, q, a, b => ⟨rfl, rfl⟩
  | n + 1, v, q, a, b => by
    obtain ⟨e1, e2⟩ := pass_nx v q a b
    rw [passN, NN, ← e1, ← e2]
    exact passN_nn n _ _ _ _
theorem NN_iv : ∀ (n : Nat) (t : Int) (v q : Nat → Int32), Iv t v → Li v q → t + n ≤ 1000000 → Iv (t + n) (NN n v q).1 ∧ Li (NN n v q).1 (NN n v q).2
  | 0, t, v, q, h, hL, _ => by
    rw [NN, show t + ((0 : Nat) : Int) = t by omega]
    exact ⟨h, hL⟩
  | n + 1, t, v, q, h, hL, ht => by
    obtain ⟨h1, h2⟩ := NX_iv h hL (by omega)
    rw [NN, show t + ((n + 1 : Nat) : Int) = t + 1 + (n : Int) by omega]
    exact NN_iv n (t + 1) _ _ h1 h2 (by omega)
theorem NN_12 (n : Nat) (v q : Nat → Int32) : (NN n v q).1 12 = v 12 + nI n := by
  rw [← (passN_nn n v q v q).1]
  exact passN_12 n v q v q
theorem NN_41 (n : Nat) (v q : Nat → Int32) : ∃ d, d ≤ 4 * n ∧ (NN n v q).1 41 = v 41 + nI d := by
  rw [← (passN_nn n v q v q).1]
  exact passN_41 n v q v q
