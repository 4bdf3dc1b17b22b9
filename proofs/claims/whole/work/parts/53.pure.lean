/-! what a text says: one reading for both -/
section TXT
variable (T : Nat → Int32) (n : Nat)
def chr (p : Nat) : Int32 := if p < n then T p else -1
def dn (p : Nat) : Option Nat := if nI 48 ≤ chr T n p ∧ chr T n p ≤ nI 57 then some ((chr T n p).toNatClampNeg - 48) else none
def dg (p hi : Nat) : Option Nat := match dn T n p with
  | some d => if d ≤ hi then some d else none
  | none => none
def dg2 (hi p : Nat) : Option (Nat × Nat) := match dg T n p hi with
  | some d => some (p + 1, d)
  | none => none
def num3 (p z : Nat) : Nat × Nat := match dn T n p with
  | none => (p, z)
  | some d => if 10 * z + d ≤ 200 then (p + 1, 10 * z + d) else (p, z)
def num2 (p z : Nat) : Nat × Nat := match dn T n p with
  | none => (p, z)
  | some d => if 10 * z + d ≤ 200 then num3 T n (p + 1) (10 * z + d) else (p, z)
def num (p : Nat) : Option (Nat × Nat) := match dn T n p with
  | none => none
  | some d => if d = 0 then none else some (num2 T n (p + 1) d)
abbrev OrdR : Type := Nat ⊕ (Nat × Int32 × Nat × Nat)
def ordT (sec : Nat → Option (Nat × Nat)) (hi p : Nat) (kd : Int32) : OrdR := match dg T n p hi with
  | none => .inl p
  | some a => if chr T n (p + 1) = nI 58 then (match sec (p + 2) with
    | none => .inl (p + 2)
    | some q => .inr (q.1, kd, a, q.2)) else .inl (p + 1)
def ordS (sec : Nat → Option (Nat × Nat)) (p : Nat) (kd : Int32) : OrdR := match sec p with
    | none => .inl p
    | some q => .inr (q.1, kd, q.2, 0)
def ord (p : Nat) : OrdR :=
  if chr T n p = nI 102 then ordT T n (dg2 T n 5) 1 (p + 1) (nI 102) else if chr T n p = nI 119 then ordT T n (num T n) 1 (p + 1) (nI 119)
  else if chr T n p = nI 109 then ordT T n (dg2 T n 2) 3 (p + 1) (nI 109) else if chr T n p = nI 108 then ordS (dg2 T n 2) (p + 1) (nI 108)
  else if chr T n p = nI 116 then ordS (num T n) (p + 1) (nI 116) else .inl p
end TXT
section TXT2
variable {T : Nat → Int32} {n : Nat}
theorem chr_m1 : (-1 : Int32) < nI 0 := by decide
theorem dn_some {p d : Nat} (h : dn T n p = some d) : d ≤ 9 ∧ chr T n p = nI (48 + d) ∧ p < n := by
  unfold dn at h
  by_cases c : nI 48 ≤ chr T n p ∧ chr T n p ≤ nI 57
  · rw [if_pos c] at h
    have h0 : ¬ chr T n p < 0 := fun z => absurd (Int32.lt_of_le_of_lt c.1 z) (by decide)
    obtain ⟨j, hj, e⟩ := nI_of h0
    rw [e, nI_clamp hj] at h
    rw [e, nI_leI (by decide) hj, nI_leI hj (by decide)] at c
    have hd : j - 48 = d := Option.some.inj h
    refine ⟨by omega, by rw [e]; congr 1; omega, ?_⟩
    by_cases hp : p < n
    · exact hp
    · exfalso
      unfold chr at h0
      rw [if_neg hp] at h0
      exact h0 (by decide)
  · rw [if_neg c] at h
    cases h
theorem dn_of {p d : Nat} (hd : d ≤ 9) (h : chr T n p = nI (48 + d)) : dn T n p = some d := by
  unfold dn
  rw [h, if_pos ⟨(nI_leI (by decide) (by omega)).mpr (by omega), (nI_leI (by omega) (by decide)).mpr (by omega)⟩, nI_clamp (by omega)]
  congr 1
  omega
theorem dn_none {p : Nat} (h : dn T n p = none) : ¬ (nI 48 ≤ chr T n p ∧ chr T n p ≤ nI 57) := by
  intro c
  unfold dn at h
  rw [if_pos c] at h
  cases h
/-! the class's reader -/
theorem here_ch {p : Nat} (hp : p < 1000) (hn : n ≤ 80) : f_X4_here (nI p) (nI n) T = chr T n p := by
  unfold f_X4_here chr
  rw [if_neg (nI_pos (by omega))]
  by_cases c : p < n
  · rw [if_neg (fun z => by have := (nI_leI (by omega) (by omega)).mp z; omega), if_pos ((nI_ltI (by omega) (by decide)).mpr (by omega)), if_pos c, nI_clamp (by omega)]
  · rw [if_pos ((nI_leI (by omega) (by omega)).mpr (by omega)), if_neg c]
theorem acc_ch {p : Nat} {c : Int32} (hp : p < 1000) (hn : n ≤ 80) : f_X4_accept (nI p) (nI n) T c = if chr T n p = c then (nI 1, nI (p + 1)) else (nI 0, nI p) := by
  unfold f_X4_accept
  rw [here_ch hp hn, nI_add]
def dI : Option Nat → Int32
  | some d => nI d
  | none => -1
theorem dI_s (d : Nat) : dI (some d) = nI d := rfl
theorem dI_n : dI none = -1 := rfl
theorem within_t {x a b : Nat} (h : a ≤ x ∧ x ≤ b) (hb : b < 2 ^ 31) : f_X6_isWithin (nI x) (nI a) (nI b) = nI 1 := by
  unfold f_X6_isWithin
  rw [if_neg (fun z => by have := (nI_ltI (by omega) (by omega)).mp z; omega), if_neg (fun z => by have := (nI_ltI hb (by omega)).mp z; omega)]
theorem within_f {x a b : Nat} (h : x < a ∨ b < x) (hx : x < 2 ^ 31) (ha : a < 2 ^ 31) (hb : b < 2 ^ 31) : f_X6_isWithin (nI x) (nI a) (nI b) = nI 0 := by
  unfold f_X6_isWithin
  by_cases c : nI x < nI a
  · rw [if_pos c]
  · rw [if_neg c, if_pos ((nI_ltI hb hx).mpr (by rw [nI_ltI hx ha] at c; omega))]
theorem within_no {x a b : Int32} (h : ¬ (a ≤ x ∧ x ≤ b)) : f_X6_isWithin x a b = nI 0 := by
  unfold f_X6_isWithin
  by_cases c : x < a
  · rw [if_pos c]
  · rw [if_neg c, if_pos (Int32.not_le.mp (fun z => h ⟨Int32.not_lt.mp c, z⟩))]
theorem dig_ch {p : Nat} (hp : p < 1000) (hn : n ≤ 80) : f_X4_digitHere (nI p) (nI n) T = dI (dn T n p) := by
  unfold f_X4_digitHere
  rw [here_ch hp hn]
  cases h : dn T n p with
  | none =>
    rw [within_no (dn_none h), if_pos (show nI 0 = 0 from rfl)]
    rfl
  | some d =>
    obtain ⟨h1, h2, -⟩ := dn_some h
    rw [h2, within_t (by omega) (by decide), if_neg (show ¬ nI 1 = 0 by decide), pk_sub (by omega)]
    show nI (48 + d - 48) = nI d
    congr 1
    omega
theorem nI_nm1 {d : Nat} (h : d < 1000) : ¬ nI d = -1 := fun z => by
  have h1 : ¬ nI d < 0 := nI_pos (by omega)
  rw [z] at h1
  exact h1 (by decide)
theorem rv0 {p hi : Nat} {tv : Int32} (hp : p < 900) (hn : n ≤ 80) (hhi : hi ≤ 5) : f_X4_readValue (nI p) (nI n) tv T (nI 0) (nI hi) = match dg2 T n hi p with
    | none => (nI 0, nI p, tv)
    | some q => (nI 1, nI q.1, nI q.2) := by
  unfold f_X4_readValue dg2 dg
  rw [dig_ch (by omega) hn, nI_add, dig_ch (by omega) hn]
  cases h : dn T n p with
  | none =>
    rw [dI_n]
    (try dsimp only)
    rw [within_no (fun z => absurd z.1 (by decide)), if_pos (show nI 0 = 0 from rfl)]
  | some d =>
    obtain ⟨h9, -, -⟩ := dn_some h
    rw [dI_s]
    (try dsimp only)
    by_cases c : d ≤ hi
    · rw [if_pos c, within_t (by omega) (by omega), if_neg (show ¬ nI 1 = 0 by decide)]
      dsimp only
      by_cases c0 : d = 0
      · subst c0
        rw [if_pos (show nI 0 ≤ 0 by decide)]
      · rw [if_neg (fun z => by have := (nI_leI (by omega) (by omega)).mp (show nI d ≤ nI 0 from z); omega)]
        cases h2 : dn T n (p + 1) with
        | none =>
          rw [dI_n]
          (try dsimp only)
          rw [if_pos rfl]
        | some d2 =>
          obtain ⟨h92, -, -⟩ := dn_some h2
          rw [dI_s]
          (try dsimp only)
          rw [if_neg (nI_nm1 (by omega)), pk_mul, nI_add, if_neg (fun z => by have := (nI_leI (by omega) (by omega)).mp z; omega)]
    · rw [if_neg c, within_f (by omega) (by omega) (by omega) (by omega), if_pos (show nI 0 = 0 from rfl)]
theorem rv1 {p : Nat} {tv : Int32} (hp : p < 900) (hn : n ≤ 80) : f_X4_readValue (nI p) (nI n) tv T (nI 1) (nI 200) = match num T n p with
    | none => (nI 0, nI p, tv)
    | some q => (nI 1, nI q.1, nI q.2) := by
  unfold f_X4_readValue num
  rw [dig_ch (by omega) hn, nI_add, dig_ch (by omega) hn, nI_add, dig_ch (by omega) hn, nI_add]
  cases h : dn T n p with
  | none =>
    rw [dI_n]
    (try dsimp only)
    rw [within_no (fun z => absurd z.1 (by decide)), if_pos (show nI 0 = 0 from rfl)]
  | some d =>
    obtain ⟨h9, -, -⟩ := dn_some h
    rw [dI_s]
    (try dsimp only)
    by_cases c : d = 0
    · subst c
      rw [if_pos rfl, within_f (by omega) (by omega) (by omega) (by omega), if_pos (show nI 0 = 0 from rfl)]
    · rw [if_neg c, within_t (by omega) (by omega), if_neg (show ¬ nI 1 = 0 by decide), if_neg (fun z => by have := (nI_leI (by omega) (by omega)).mp (show nI d ≤ nI 0 from z); omega)]
      dsimp only
      unfold num2
      cases h2 : dn T n (p + 1) with
      | none =>
        rw [dI_n]
        (try dsimp only)
        rw [if_pos rfl]
      | some d2 =>
        obtain ⟨h92, -, -⟩ := dn_some h2
        rw [dI_s]
        (try dsimp only)
        rw [if_neg (nI_nm1 (by omega)), pk_mul, nI_add]
        by_cases c2 : 10 * d + d2 ≤ 200
        · rw [if_pos c2, if_pos ((nI_leI (by omega) (by omega)).mpr c2), if_neg (fun z => by have := (nI_leI (by omega) (by omega)).mp (show nI (10 * d + d2) ≤ nI 0 from z); omega)]
          unfold num3
          cases h3 : dn T n (p + 1 + 1) with
          | none =>
            rw [dI_n]
            (try dsimp only)
            rw [if_pos rfl]
          | some d3 =>
            obtain ⟨h93, -, -⟩ := dn_some h3
            rw [dI_s]
            (try dsimp only)
            rw [if_neg (nI_nm1 (by omega)), pk_mul, nI_add]
            by_cases c3 : 10 * (10 * d + d2) + d3 ≤ 200
            · rw [if_pos c3, if_pos ((nI_leI (by omega) (by omega)).mpr c3)]
            · rw [if_neg c3, if_neg (fun z => by have := (nI_leI (by omega) (by omega)).mp z; omega)]
        · rw [if_neg c2, if_neg (fun z => by have := (nI_leI (by omega) (by omega)).mp z; omega)]
theorem rt0 {p hi : Nat} {tg tv : Int32} (hp : p < 900) (hn : n ≤ 80) (hhi : hi ≤ 5) : f_X4_readTarget (nI p) (nI n) tg tv T (nI hi) = match dg T n p hi with
    | none => (nI 0, nI p, tg, tv)
    | some d => if chr T n (p + 1) = nI 58 then (nI 1, nI (p + 2), nI d, nI d) else (nI 0, nI (p + 1), nI d, nI d) := by
  unfold f_X4_readTarget
  rw [rv0 hp hn hhi]
  unfold dg2
  cases h : dg T n p hi with
  | none =>
    dsimp only
    rw [if_pos (show nI 0 = 0 from rfl)]
  | some d =>
    dsimp only
    rw [if_neg (show ¬ nI 1 = 0 by decide), acc_ch (by omega) hn]
    by_cases c : chr T n (p + 1) = nI 58
    · rw [if_pos c, if_pos c]
    · rw [if_neg c, if_neg c]
/-- what reading leaves, beside what the text says -/
def RO : OrdR → Int32 × Int32 × Int32 × Int32 × Int32 → Prop
  | .inl q, R => R.1 = nI 0 ∧ R.2.1 = nI q
  | .inr (p, k, a, b), R => R.1 = nI 1 ∧ R.2.1 = nI p ∧ R.2.2.1 = k ∧ (((k = nI 102 ∨ k = nI 119 ∨ k = nI 109) ∧ R.2.2.2.1 = nI a ∧ R.2.2.2.2 = nI b) ∨ ((k = nI 108 ∨ k = nI 116) ∧ R.2.2.2.2 = nI a ∧ b = 0))
def pT (F : Int32 → Int32 → Int32 × Int32 × Int32) (R : Int32 × Int32 × Int32 × Int32) (k : Int32) : Int32 × Int32 × Int32 × Int32 × Int32 :=
  match R with
  | (r, tp, tg, tv) => if r = 0 then ((nI 0), tp, k, tg, tv) else
      match F tp tv with
      | (r2, tp2, tv2) => if r2 = 0 then ((nI 0), tp2, k, tg, tv2) else ((nI 1), tp2, k, tg, tv2)
def pS5 (R : Int32 × Int32 × Int32) (k tg : Int32) : Int32 × Int32 × Int32 × Int32 × Int32 :=
  match R with
  | (r, tp, tv) => if r = 0 then ((nI 0), tp, k, tg, tv) else ((nI 1), tp, k, tg, tv)
def pS4 (R : Int32 × Int32 × Int32) (k tg : Int32) : Int32 × Int32 × Int32 × Int32 × Int32 :=
  match R with
  | (r, tp, tv) => (r, tp, k, tg, tv)
def rO5 (tl k tg tv : Int32) (T : Nat → Int32) (A : Int32 × Int32) : Int32 × Int32 × Int32 × Int32 × Int32 :=
  match A with
  | (r, tp) => if r = 0 then ((nI 0), tp, k, tg, tv) else pS5 (f_X4_readValue tp tl tv T (nI 1) (nI 200)) k tg
def rO4 (tl k tg tv : Int32) (T : Nat → Int32) (A : Int32 × Int32) : Int32 × Int32 × Int32 × Int32 × Int32 :=
  match A with
  | (r, tp) => if r = 0 then rO5 tl k tg tv T (f_X4_accept tp tl T (nI 116)) else pS4 (f_X4_readValue tp tl tv T (nI 0) (nI 2)) k tg
def rO3 (tl k tg tv : Int32) (T : Nat → Int32) (A : Int32 × Int32) : Int32 × Int32 × Int32 × Int32 × Int32 :=
  match A with
  | (r, tp) => if r = 0 then rO4 tl k tg tv T (f_X4_accept tp tl T (nI 108)) else pT (fun a b => f_X4_readValue a tl b T (nI 0) (nI 2)) (f_X4_readTarget tp tl tg tv T (nI 3)) k
def rO2 (tl k tg tv : Int32) (T : Nat → Int32) (A : Int32 × Int32) : Int32 × Int32 × Int32 × Int32 × Int32 :=
  match A with
  | (r, tp) => if r = 0 then rO3 tl k tg tv T (f_X4_accept tp tl T (nI 109)) else pT (fun a b => f_X4_readValue a tl b T (nI 1) (nI 200)) (f_X4_readTarget tp tl tg tv T (nI 1)) k
def rO1 (tl k tg tv : Int32) (T : Nat → Int32) (A : Int32 × Int32) : Int32 × Int32 × Int32 × Int32 × Int32 :=
  match A with
  | (r, tp) => if r = 0 then rO2 tl k tg tv T (f_X4_accept tp tl T (nI 119)) else pT (fun a b => f_X4_readValue a tl b T (nI 0) (nI 5)) (f_X4_readTarget tp tl tg tv T (nI 1)) k
theorem rO_eq (tp tl tg tv : Int32) (T : Nat → Int32) : f_X4_readOrder tp tl tg tv T = rO1 tl (f_X4_here tp tl T) tg tv T (f_X4_accept tp tl T (nI 102)) := rfl
theorem pT_ok {sec : Nat → Option (Nat × Nat)} {hi p : Nat} {k tg tv : Int32} {F : Int32 → Int32 → Int32 × Int32 × Int32} (hp : p < 800) (hn : n ≤ 80) (hhi : hi ≤ 5) (hk : k = nI 102 ∨ k = nI 119 ∨ k = nI 109) (hF : ∀ (m : Nat) (t : Int32), m < 900 → F (nI m) t = match sec m with
    | none => (nI 0, nI m, t)
    | some q => (nI 1, nI q.1, nI q.2)) : RO (ordT T n sec hi p k) (pT F (f_X4_readTarget (nI p) (nI n) tg tv T (nI hi)) k) := by
  have n0 : nI 0 = 0 := rfl
  have n1 : ¬ nI 1 = 0 := by decide
  rw [rt0 (by omega) hn hhi]
  unfold ordT
  cases h : dg T n p hi with
  | none =>
    unfold pT
    dsimp only
    rw [if_pos n0]
    exact ⟨rfl, rfl⟩
  | some d =>
    dsimp only
    by_cases c : chr T n (p + 1) = nI 58
    · rw [if_pos c, if_pos c]
      unfold pT
      dsimp only
      rw [if_neg n1, hF _ _ (by omega)]
      cases h2 : sec (p + 2) with
      | none =>
        dsimp only
        rw [if_pos n0]
        exact ⟨rfl, rfl⟩
      | some q =>
        dsimp only
        rw [if_neg n1]
        exact ⟨rfl, rfl, rfl, Or.inl ⟨hk, rfl, rfl⟩⟩
    · rw [if_neg c, if_neg c]
      unfold pT
      dsimp only
      rw [if_pos n0]
      exact ⟨rfl, rfl⟩
theorem ro_ord {p : Nat} {tg tv : Int32} (hp : p < 700) (hn : n ≤ 80) : RO (ord T n p) (f_X4_readOrder (nI p) (nI n) tg tv T) := by
  have n0 : nI 0 = 0 := rfl
  have n1 : ¬ nI 1 = 0 := by decide
  rw [rO_eq, here_ch (by omega) hn, acc_ch (by omega) hn]
  unfold ord
  by_cases c1 : chr T n p = nI 102
  · rw [if_pos c1, if_pos c1]
    unfold rO1
    dsimp only
    rw [if_neg n1, c1]
    exact pT_ok (by omega) hn (by omega) (Or.inl rfl) (fun m t hm => rv0 hm hn (by omega))
  · rw [if_neg c1, if_neg c1]
    unfold rO1
    dsimp only
    rw [if_pos n0, acc_ch (by omega) hn]
    by_cases c2 : chr T n p = nI 119
    · rw [if_pos c2, if_pos c2]
      unfold rO2
      dsimp only
      rw [if_neg n1, c2]
      exact pT_ok (by omega) hn (by omega) (Or.inr (Or.inl rfl)) (fun m t hm => rv1 hm hn)
    · rw [if_neg c2, if_neg c2]
      unfold rO2
      dsimp only
      rw [if_pos n0, acc_ch (by omega) hn]
      by_cases c3 : chr T n p = nI 109
      · rw [if_pos c3, if_pos c3]
        unfold rO3
        dsimp only
        rw [if_neg n1, c3]
        exact pT_ok (by omega) hn (by omega) (Or.inr (Or.inr rfl)) (fun m t hm => rv0 hm hn (by omega))
      · rw [if_neg c3, if_neg c3]
        unfold rO3
        dsimp only
        rw [if_pos n0, acc_ch (by omega) hn]
        by_cases c4 : chr T n p = nI 108
        · rw [if_pos c4, if_pos c4]
          unfold rO4
          dsimp only
          rw [if_neg n1, rv0 (by omega) hn (by omega)]
          unfold ordS pS4
          cases h : dg2 T n 2 (p + 1) with
          | none => exact ⟨rfl, rfl⟩
          | some q => exact ⟨rfl, rfl, c4, Or.inr ⟨Or.inl rfl, rfl, rfl⟩⟩
        · rw [if_neg c4, if_neg c4]
          unfold rO4
          dsimp only
          rw [if_pos n0, acc_ch (by omega) hn]
          by_cases c5 : chr T n p = nI 116
          · rw [if_pos c5, if_pos c5]
            unfold rO5
            dsimp only
            rw [if_neg n1, rv1 (by omega) hn]
            unfold ordS pS5
            cases h : num T n (p + 1) with
            | none =>
              dsimp only
              rw [if_pos n0]
              exact ⟨rfl, rfl⟩
            | some q =>
              dsimp only
              rw [if_neg n1]
              exact ⟨rfl, rfl, c5, Or.inr ⟨Or.inr rfl, rfl, rfl⟩⟩
          · rw [if_neg c5, if_neg c5]
            unfold rO5
            dsimp only
            rw [if_pos n0]
            exact ⟨rfl, rfl⟩
/-- how far an order reaches -/
theorem dg2_lt {hi p : Nat} {q : Nat × Nat} (h : dg2 T n hi p = some q) : p + 1 ≤ q.1 ∧ q.1 ≤ n := by
  unfold dg2 dg at h
  cases h1 : dn T n p with
  | none => rw [h1] at h; cases h
  | some d =>
    rw [h1] at h
    obtain ⟨-, -, hp⟩ := dn_some h1
    dsimp only at h
    by_cases c : d ≤ hi
    · rw [if_pos c] at h
      cases h
      exact ⟨Nat.le_refl _, hp⟩
    · rw [if_neg c] at h
      cases h
theorem num3_lt {p z : Nat} (hp : p ≤ n) : p ≤ (num3 T n p z).1 ∧ (num3 T n p z).1 ≤ n := by
  unfold num3
  cases h1 : dn T n p with
  | none => exact ⟨Nat.le_refl _, hp⟩
  | some d =>
    obtain ⟨-, -, hp2⟩ := dn_some h1
    dsimp only
    by_cases c : 10 * z + d ≤ 200
    · rw [if_pos c]; exact ⟨Nat.le_succ _, hp2⟩
    · rw [if_neg c]; exact ⟨Nat.le_refl _, hp⟩
theorem num2_lt {p z : Nat} (hp : p ≤ n) : p ≤ (num2 T n p z).1 ∧ (num2 T n p z).1 ≤ n := by
  unfold num2
  cases h1 : dn T n p with
  | none => exact ⟨Nat.le_refl _, hp⟩
  | some d =>
    obtain ⟨-, -, hp2⟩ := dn_some h1
    dsimp only
    by_cases c : 10 * z + d ≤ 200
    · rw [if_pos c]
      have := num3_lt (T := T) (p := p + 1) (z := 10 * z + d) hp2
      omega
    · rw [if_neg c]; exact ⟨Nat.le_refl _, hp⟩
theorem num_lt {p : Nat} {q : Nat × Nat} (h : num T n p = some q) : p + 1 ≤ q.1 ∧ q.1 ≤ n := by
  unfold num at h
  cases h1 : dn T n p with
  | none => rw [h1] at h; cases h
  | some d =>
    rw [h1] at h
    obtain ⟨-, -, hp⟩ := dn_some h1
    dsimp only at h
    by_cases c : d = 0
    · rw [if_pos c] at h; cases h
    · rw [if_neg c] at h
      cases h
      exact num2_lt hp
theorem ordT_lt {sec : Nat → Option (Nat × Nat)} (hs : ∀ p q, sec p = some q → p + 1 ≤ q.1 ∧ q.1 ≤ n) {hi p p' a b : Nat} {k k' : Int32} (h : ordT T n sec hi p k = .inr (p', k', a, b)) : p + 1 ≤ p' ∧ p' ≤ n := by
  unfold ordT at h
  cases h1 : dg T n p hi with
  | none => rw [h1] at h; cases h
  | some d =>
    rw [h1] at h
    dsimp only at h
    by_cases c : chr T n (p + 1) = nI 58
    · rw [if_pos c] at h
      cases h2 : sec (p + 2) with
      | none => rw [h2] at h; cases h
      | some q =>
        rw [h2] at h
        cases h
        have := hs _ _ h2
        omega
    · rw [if_neg c] at h; cases h
theorem ordS_lt {sec : Nat → Option (Nat × Nat)} (hs : ∀ p q, sec p = some q → p + 1 ≤ q.1 ∧ q.1 ≤ n) {p p' a b : Nat} {k k' : Int32} (h : ordS sec p k = .inr (p', k', a, b)) : p + 1 ≤ p' ∧ p' ≤ n := by
  unfold ordS at h
  cases h2 : sec p with
  | none => rw [h2] at h; cases h
  | some q =>
    rw [h2] at h
    cases h
    exact hs _ _ h2
theorem ord_lt {p p' a b : Nat} {k : Int32} (h : ord T n p = .inr (p', k, a, b)) : p + 2 ≤ p' ∧ p' ≤ n ∧ ¬ chr T n p = nI 44 := by
  unfold ord at h
  by_cases c1 : chr T n p = nI 102
  · rw [if_pos c1] at h
    have := ordT_lt (fun _ _ => dg2_lt) h
    exact ⟨by omega, this.2, by rw [c1]; decide⟩
  · rw [if_neg c1] at h
    by_cases c2 : chr T n p = nI 119
    · rw [if_pos c2] at h
      have := ordT_lt (fun _ _ => num_lt) h
      exact ⟨by omega, this.2, by rw [c2]; decide⟩
    · rw [if_neg c2] at h
      by_cases c3 : chr T n p = nI 109
      · rw [if_pos c3] at h
        have := ordT_lt (fun _ _ => dg2_lt) h
        exact ⟨by omega, this.2, by rw [c3]; decide⟩
      · rw [if_neg c3] at h
        by_cases c4 : chr T n p = nI 108
        · rw [if_pos c4] at h
          have := ordS_lt (fun _ _ => dg2_lt) h
          exact ⟨by omega, this.2, by rw [c4]; decide⟩
        · rw [if_neg c4] at h
          by_cases c5 : chr T n p = nI 116
          · rw [if_pos c5] at h
            have := ordS_lt (fun _ _ => num_lt) h
            exact ⟨by omega, this.2, by rw [c5]; decide⟩
          · rw [if_neg c5] at h; cases h
end TXT2
