/-! the model's reader says what the text says -/
def G3 (g : Nat → Int32) (p : Nat) (r : Int32) (c : Nat) : Nat → Int32 := fun j => if j = 3 then nI p else if j = 4 then r else if j = 5 then nI c else g j
section TXT3
variable {T g : Nat → Int32} {n : Nat}
theorem G3_u3 {p p' c : Nat} {r : Int32} : upd (G3 g p r c) 3 (nI p') = G3 g p' r c := by
  funext j
  by_cases h : j = 3
  · subst h; rw [pk_us]; rfl
  · rw [pk_un h]; unfold G3; rw [if_neg h, if_neg h]
theorem G3_u4 {p c : Nat} {r r' : Int32} : upd (G3 g p r c) 4 r' = G3 g p r' c := by
  funext j
  by_cases h : j = 4
  · subst h; rw [pk_us]; rfl
  · rw [pk_un h]
    unfold G3
    by_cases h3 : j = 3
    · rw [if_pos h3, if_pos h3]
    · rw [if_neg h3, if_neg h3, if_neg h, if_neg h]
theorem G3_u5 {p c c' : Nat} {r : Int32} : upd (G3 g p r c) 5 (nI c') = G3 g p r c' := by
  funext j
  by_cases h : j = 5
  · subst h; rw [pk_us]; rfl
  · rw [pk_un h]
    unfold G3
    by_cases h3 : j = 3
    · rw [if_pos h3, if_pos h3]
    · rw [if_neg h3, if_neg h3]
      by_cases h4 : j = 4
      · rw [if_pos h4, if_pos h4]
      · rw [if_neg h4, if_neg h4, if_neg h, if_neg h]
theorem G3_s0 {p c : Nat} {r : Int32} : upd (G3 g p r c) 3 ((G3 g p r c) 3 + nI 0) = G3 g p r c := by
  rw [show (G3 g p r c) 3 + nI 0 = nI p from add0 _, G3_u3]
theorem G3_s1 {p c : Nat} {r : Int32} : upd (G3 g p r c) 3 ((G3 g p r c) 3 + nI 1) = G3 g (p + 1) r c := by
  rw [show (G3 g p r c) 3 + nI 1 = nI (p + 1) from nI_add p 1, G3_u3]
theorem G3_t0 {p c : Nat} {r r' : Int32} : upd (G3 g p r' c) 3 ((G3 g p r c) 3 + nI 0) = G3 g p r' c := by
  rw [show (G3 g p r c) 3 + nI 0 = nI p from add0 _, G3_u3]
theorem G3_t1 {p c : Nat} {r r' : Int32} : upd (G3 g p r' c) 3 ((G3 g p r c) 3 + nI 1) = G3 g (p + 1) r' c := by
  rw [show (G3 g p r c) 3 + nI 1 = nI (p + 1) from nI_add p 1, G3_u3]
theorem g3_n1 {p c : Nat} : ¬ (G3 g p (nI 1) c) 4 = 0 := fun z => absurd (show nI 1 = 0 from z) (by decide)
theorem g3_n0 {p c : Nat} : (G3 g p (nI 0) c) 4 = 0 := rfl
theorem chr_in {p : Nat} (h : p < n) : chr T n p = T p := if_pos h
theorem chr_out {p : Nat} (h : ¬ p < n) : chr T n p = -1 := if_neg h
theorem in01 (x a b : Int32) : f_X6_isWithin x a b = nI 0 ∨ f_X6_isWithin x a b = nI 1 := by
  unfold f_X6_isWithin
  by_cases c : x < a
  · rw [if_pos c]; exact Or.inl rfl
  · rw [if_neg c]
    by_cases c2 : b < x
    · rw [if_pos c2]; exact Or.inl rfl
    · rw [if_neg c2]; exact Or.inr rfl
theorem isN {p c : Nat} {lo hi : Int32} (h2 : g 2 = nI n) (hn : n ≤ 80) (hp : p < 1000) (hlo : -1 < lo) : f_X7_isNext (G3 g p (nI 1) c) T lo hi = f_X6_isWithin (chr T n p) lo hi := by
  unfold f_X7_isNext
  rw [if_neg g3_n1, show (G3 g p (nI 1) c) 2 = nI n from h2, show (G3 g p (nI 1) c) 3 = nI p from rfl]
  by_cases k : p < n
  · rw [if_neg (fun z => by have := (nI_leI (by omega) (by omega)).mp z; omega), nI_clamp (by omega), chr_in k, in_eq]
    rcases in01 (T p) lo hi with e | e
    · rw [e, if_pos (show nI 0 = 0 from rfl)]
    · rw [e, if_neg (show ¬ nI 1 = 0 by decide)]
  · rw [if_pos ((nI_leI (by omega) (by omega)).mpr (by omega)), chr_out k]
    unfold f_X6_isWithin
    rw [if_pos hlo]
theorem tdig {p d : Nat} (h : dn T n p = some d) : T p = nI (48 + d) := by
  obtain ⟨-, e, hp⟩ := dn_some h
  rw [chr_in hp] at e
  exact e
theorem m_dg0 {p c : Nat} {x : Int32} : f_X7_digit (G3 g p (nI 0) c) T x = (nI 0, G3 g p (nI 0) c) := by
  unfold f_X7_digit
  rw [isNext_4 g3_n0, if_pos (show nI 0 = 0 from rfl), G3_u4, G3_s0]
theorem m_dg {p c hi : Nat} (h2 : g 2 = nI n) (hn : n ≤ 80) (hp : p < 1000) (hh : hi ≤ 9) : f_X7_digit (G3 g p (nI 1) c) T (nI hi) = match dg T n p hi with
    | none => (nI 0, G3 g p (nI 0) c)
    | some d => (nI d, G3 g (p + 1) (nI 1) c) := by
  unfold f_X7_digit dg
  rw [isN h2 hn hp (by decide), nI_add]
  cases h : dn T n p with
  | none =>
    rw [within_no (fun z => dn_none h ⟨z.1, Int32.le_trans z.2 ((nI_leI (by omega) (by decide)).mpr (by omega))⟩), if_pos (show nI 0 = 0 from rfl), G3_u4, G3_t0]
  | some d =>
    obtain ⟨h9, e, hpn⟩ := dn_some h
    dsimp only
    rw [e]
    by_cases k : d ≤ hi
    · rw [if_pos k, within_t (by omega) (by omega), if_neg (show ¬ nI 1 = 0 by decide), G3_u4, G3_t1]
      dsimp only
      rw [show (G3 g p (nI 1) c) 3 = nI p from rfl, Int32.add_sub_cancel, nI_clamp (by omega), tdig h, pk_sub (by omega)]
      rw [show 48 + d - 48 = d by omega]
    · rw [if_neg k, within_f (by omega) (by omega) (by omega) (by omega), if_pos (show nI 0 = 0 from rfl), G3_u4, G3_t0]
theorem m_num0 {p c : Nat} : f_X7_number (G3 g p (nI 0) c) T = (nI 0, G3 g p (nI 0) c) := by
  unfold f_X7_number
  rw [isNext_4 g3_n0, G3_u4, s_X7_number_14, isNext_4 g3_n0, if_pos (show nI 0 = 0 from rfl)]
theorem m_st {p c z F : Nat} (h2 : g 2 = nI n) (hn : n ≤ 80) (hp : p < 1000) (hz : z ≤ 200) : s_X7_number_14 T (F + 1) (G3 g p (nI 1) c) (nI z) = match dn T n p with
    | none => (nI z, G3 g p (nI 1) c)
    | some d => if 10 * z + d ≤ 200 then s_X7_number_14 T F (G3 g (p + 1) (nI 1) c) (nI (10 * z + d)) else (nI z, G3 g p (nI 1) c) := by
  rw [s_X7_number_14, isN h2 hn hp (by decide)]
  cases h : dn T n p with
  | none =>
    rw [within_no (dn_none h), if_pos (show nI 0 = 0 from rfl)]
  | some d =>
    obtain ⟨h9, e, hpn⟩ := dn_some h
    dsimp only
    rw [e, within_t (by omega) (by omega), if_neg (show ¬ nI 1 = 0 by decide), show (G3 g p (nI 1) c) 3 = nI p from rfl, nI_clamp (by omega), tdig h, pk_mul, nI_add, pk_sub (by omega), show 10 * z + (48 + d) - 48 = 10 * z + d by omega]
    by_cases k : 10 * z + d ≤ 200
    · rw [if_pos k, if_neg (fun w => by have := (nI_ltI (by omega) (by omega)).mp w; omega)]
      rw [show nI p + nI 1 = nI (p + 1) from nI_add p 1, G3_u3]
    · rw [if_neg k, if_pos ((nI_ltI (by omega) (by omega)).mpr (by omega))]
theorem m_end {p c z F : Nat} (h2 : g 2 = nI n) (hn : n ≤ 80) (hp : p < 1000) (hz : 100 ≤ z) (hz2 : z ≤ 200) : s_X7_number_14 T (F + 1) (G3 g p (nI 1) c) (nI z) = (nI z, G3 g p (nI 1) c) := by
  rw [m_st h2 hn hp hz2]
  cases h : dn T n p with
  | none => rfl
  | some d =>
    dsimp only
    rw [if_neg (by omega)]
theorem m_3 {p c z F : Nat} (h2 : g 2 = nI n) (hn : n ≤ 80) (hp : p < 999) (hz0 : 10 ≤ z) (hz : z ≤ 200) : s_X7_number_14 T (F + 2) (G3 g p (nI 1) c) (nI z) = (nI (num3 T n p z).2, G3 g (num3 T n p z).1 (nI 1) c) := by
  rw [show F + 2 = (F + 1) + 1 from rfl, m_st h2 hn (by omega) hz]
  unfold num3
  cases h : dn T n p with
  | none => rfl
  | some d =>
    dsimp only
    by_cases k : 10 * z + d ≤ 200
    · rw [if_pos k, if_pos k, m_end h2 hn (by omega) (by omega) k]
    · rw [if_neg k, if_neg k]
theorem m_2 {p c z F : Nat} (h2 : g 2 = nI n) (hn : n ≤ 80) (hp : p < 998) (hz0 : 1 ≤ z) (hz : z ≤ 200) : s_X7_number_14 T (F + 3) (G3 g p (nI 1) c) (nI z) = (nI (num2 T n p z).2, G3 g (num2 T n p z).1 (nI 1) c) := by
  rw [show F + 3 = (F + 2) + 1 from rfl, m_st h2 hn (by omega) hz]
  unfold num2
  cases h : dn T n p with
  | none => rfl
  | some d =>
    dsimp only
    by_cases k : 10 * z + d ≤ 200
    · rw [if_pos k, if_pos k, m_3 h2 hn (by omega) (by omega) k]
    · rw [if_neg k, if_neg k]
theorem m_num {p c : Nat} (h2 : g 2 = nI n) (hn : n ≤ 80) (hp : p < 900) : f_X7_number (G3 g p (nI 1) c) T = match num T n p with
    | none => (nI 0, G3 g p (nI 0) c)
    | some q => (nI q.2, G3 g q.1 (nI 1) c) := by
  unfold f_X7_number num
  rw [isN h2 hn (by omega) (by decide)]
  have z0 : s_X7_number_14 T 81 (G3 g p (nI 0) c) (nI 0) = (nI 0, G3 g p (nI 0) c) := by
    rw [s_X7_number_14, isNext_4 g3_n0, if_pos (show nI 0 = 0 from rfl)]
  cases h : dn T n p with
  | none =>
    rw [within_no (fun w => dn_none h ⟨Int32.le_trans (by decide) w.1, w.2⟩), G3_u4, z0]
  | some d =>
    obtain ⟨h9, e, hpn⟩ := dn_some h
    dsimp only
    by_cases k : d = 0
    · rw [if_pos k, e, within_f (by omega) (by omega) (by omega) (by omega), G3_u4, z0]
    · rw [if_neg k, e, within_t (by omega) (by omega), G3_u4, show (81 : Nat) = 80 + 1 from rfl, m_st h2 hn (by omega) (by omega), h]
      dsimp only
      rw [if_pos (by omega), show 10 * 0 + d = d by omega, show (80 : Nat) = 77 + 3 from rfl, m_2 h2 hn (by omega) (by omega) (by omega)]
/-! an order -/
def RM (g : Nat → Int32) (cm : Nat) (Y : Nat → Int32) : OrdR → (Nat → Int32) × (Nat → Int32)
  | .inl q => (G3 g q (nI 0) cm, Y)
  | .inr (p, k, a, b) => (G3 g p (nI 1) (cm + 1), upd (upd (upd Y (3 * cm) k) (3 * cm + 1) (nI a)) (3 * cm + 2) (nI b))
variable {Y : Nat → Int32} {cm : Nat}
theorem f220 {p : Nat} {k a b : Int32} : s_X7_reads_220 cm (G3 g p (nI 0) cm) Y k a b = RM g cm Y (.inl p) := by
  unfold s_X7_reads_220
  rw [if_pos g3_n0]
  rfl
theorem t220 {p a b : Nat} {k : Int32} : s_X7_reads_220 cm (G3 g p (nI 1) cm) Y k (nI a) (nI b) = RM g cm Y (.inr (p, k, a, b)) := by
  unfold s_X7_reads_220
  rw [if_neg g3_n1, show (G3 g p (nI 1) cm) 5 + nI 1 = nI (cm + 1) from nI_add cm 1, G3_u5]
  rfl
theorem f191 {p : Nat} {k a : Int32} : s_X7_reads_191 T cm (G3 g p (nI 0) cm) Y k a = RM g cm Y (.inl p) := by
  unfold s_X7_reads_191
  rw [m_num0, m_dg0, m_dg0]
  dsimp only
  by_cases c1 : k = nI 119
  · rw [if_pos c1]; exact f220
  · rw [if_neg c1]
    by_cases c2 : k = nI 102
    · rw [if_pos c2]; exact f220
    · rw [if_neg c2]; exact f220
theorem f138 {p : Nat} {k a : Int32} : s_X7_reads_138 T cm (G3 g p (nI 0) cm) Y k a = RM g cm Y (.inl p) := by
  unfold s_X7_reads_138
  rw [isNext_4 g3_n0, if_pos (show nI 0 = 0 from rfl), G3_u4, G3_s0, f191]
  by_cases c1 : k = nI 102
  · rw [if_pos c1]
  · rw [if_neg c1]
    by_cases c2 : k = nI 119
    · rw [if_pos c2]
    · rw [if_neg c2]
      by_cases c3 : k = nI 109
      · rw [if_pos c3]
      · rw [if_neg c3]; exact f220
theorem f99 {p : Nat} {k : Int32} : s_X7_reads_99 T cm (G3 g p (nI 0) cm) Y k = RM g cm Y (.inl p) := by
  unfold s_X7_reads_99
  rw [m_num0, m_dg0, m_dg0, m_dg0]
  dsimp only
  by_cases c1 : k = nI 116
  · rw [if_pos c1]; exact f138
  · rw [if_neg c1]
    by_cases c2 : k = nI 109
    · rw [if_pos c2]; exact f138
    · rw [if_neg c2]
      by_cases c3 : k = nI 108
      · rw [if_pos c3]; exact f138
      · rw [if_neg c3]; exact f138
theorem f78 {p : Nat} {k : Int32} : s_X7_reads_78 T cm (G3 g p (nI 0) cm) Y k = RM g cm Y (.inl p) := by
  unfold s_X7_reads_78
  rw [if_pos g3_n0, G3_s0]
  exact f99
def sec2 (sec : Nat → Option (Nat × Nat)) (p : Nat) (k : Int32) (a : Nat) : OrdR := match sec p with
  | none => .inl p
  | some q => .inr (q.1, k, a, q.2)
theorem t191w {p a : Nat} (h2 : g 2 = nI n) (hn : n ≤ 80) (hp : p < 900) : s_X7_reads_191 T cm (G3 g p (nI 1) cm) Y (nI 119) (nI a) = RM g cm Y (sec2 (num T n) p (nI 119) a) := by
  unfold s_X7_reads_191 sec2
  rw [if_pos rfl, m_num h2 hn hp]
  cases h : num T n p with
  | none => exact f220
  | some q => exact t220
theorem t191f {p a : Nat} (h2 : g 2 = nI n) (hn : n ≤ 80) (hp : p < 900) : s_X7_reads_191 T cm (G3 g p (nI 1) cm) Y (nI 102) (nI a) = RM g cm Y (sec2 (dg2 T n 5) p (nI 102) a) := by
  unfold s_X7_reads_191 sec2
  rw [if_neg (show ¬ nI 102 = nI 119 by decide), if_pos rfl, m_dg h2 hn (by omega) (by omega)]
  unfold dg2
  cases h : dg T n p 5 with
  | none => exact f220
  | some q => exact t220
theorem t191m {p a : Nat} (h2 : g 2 = nI n) (hn : n ≤ 80) (hp : p < 900) : s_X7_reads_191 T cm (G3 g p (nI 1) cm) Y (nI 109) (nI a) = RM g cm Y (sec2 (dg2 T n 2) p (nI 109) a) := by
  unfold s_X7_reads_191 sec2
  rw [if_neg (show ¬ nI 109 = nI 119 by decide), if_neg (show ¬ nI 109 = nI 102 by decide), m_dg h2 hn (by omega) (by omega)]
  unfold dg2
  cases h : dg T n p 2 with
  | none => exact f220
  | some q => exact t220
theorem t138a {p a : Nat} {k : Int32} {sec : Nat → Option (Nat × Nat)} (h2 : g 2 = nI n) (hn : n ≤ 80) (hp : p < 800) (hs : s_X7_reads_191 T cm (G3 g (p + 1) (nI 1) cm) Y k (nI a) = RM g cm Y (sec2 sec (p + 1) k a)) : (if (f_X7_isNext (G3 g p (nI 1) cm) T (nI 58) (nI 58)) = 0 then s_X7_reads_191 T cm (upd (upd (G3 g p (nI 1) cm) 4 (f_X7_isNext (G3 g p (nI 1) cm) T (nI 58) (nI 58))) 3 ((G3 g p (nI 1) cm) 3 + nI 0)) Y k (nI a) else s_X7_reads_191 T cm (upd (upd (G3 g p (nI 1) cm) 4 (f_X7_isNext (G3 g p (nI 1) cm) T (nI 58) (nI 58))) 3 ((G3 g p (nI 1) cm) 3 + nI 1)) Y k (nI a)) = RM g cm Y (if chr T n p = nI 58 then sec2 sec (p + 1) k a else .inl p) := by
  rw [isN h2 hn (by omega) (by decide)]
  by_cases c : chr T n p = nI 58
  · rw [if_pos c, c, show f_X6_isWithin (nI 58) (nI 58) (nI 58) = nI 1 from by decide, if_neg (show ¬ nI 1 = 0 by decide), G3_u4, G3_s1]
    exact hs
  · rw [if_neg c, within_no (fun z => c (Int32.le_antisymm z.2 z.1)), if_pos (show nI 0 = 0 from rfl), G3_u4, G3_t0]
    exact f191
theorem t138f {p a : Nat} (h2 : g 2 = nI n) (hn : n ≤ 80) (hp : p < 800) : s_X7_reads_138 T cm (G3 g p (nI 1) cm) Y (nI 102) (nI a) = RM g cm Y (if chr T n p = nI 58 then sec2 (dg2 T n 5) (p + 1) (nI 102) a else .inl p) := by
  unfold s_X7_reads_138
  rw [if_pos rfl]
  exact t138a h2 hn hp (t191f h2 hn (by omega))
theorem t138w {p a : Nat} (h2 : g 2 = nI n) (hn : n ≤ 80) (hp : p < 800) : s_X7_reads_138 T cm (G3 g p (nI 1) cm) Y (nI 119) (nI a) = RM g cm Y (if chr T n p = nI 58 then sec2 (num T n) (p + 1) (nI 119) a else .inl p) := by
  unfold s_X7_reads_138
  rw [if_neg (show ¬ nI 119 = nI 102 by decide), if_pos rfl]
  exact t138a h2 hn hp (t191w h2 hn (by omega))
theorem t138m {p a : Nat} (h2 : g 2 = nI n) (hn : n ≤ 80) (hp : p < 800) : s_X7_reads_138 T cm (G3 g p (nI 1) cm) Y (nI 109) (nI a) = RM g cm Y (if chr T n p = nI 58 then sec2 (dg2 T n 2) (p + 1) (nI 109) a else .inl p) := by
  unfold s_X7_reads_138
  rw [if_neg (show ¬ nI 109 = nI 102 by decide), if_neg (show ¬ nI 109 = nI 119 by decide), if_pos rfl]
  exact t138a h2 hn hp (t191m h2 hn (by omega))
theorem t138s {p a : Nat} {k : Int32} (hk : k = nI 108 ∨ k = nI 116) : s_X7_reads_138 T cm (G3 g p (nI 1) cm) Y k (nI a) = RM g cm Y (.inr (p, k, a, 0)) := by
  unfold s_X7_reads_138
  have h : ¬ k = nI 102 ∧ ¬ k = nI 119 ∧ ¬ k = nI 109 := by rcases hk with rfl | rfl <;> decide
  rw [if_neg h.1, if_neg h.2.1, if_neg h.2.2]
  exact t220
theorem ordT_eq {sec : Nat → Option (Nat × Nat)} {hi p : Nat} {k : Int32} : ordT T n sec hi p k = match dg T n p hi with
    | none => .inl p
    | some a => if chr T n (p + 1) = nI 58 then sec2 sec (p + 2) k a else .inl (p + 1) := rfl
theorem t99f {p : Nat} (h2 : g 2 = nI n) (hn : n ≤ 80) (hp : p < 700) : s_X7_reads_99 T cm (G3 g p (nI 1) cm) Y (nI 102) = RM g cm Y (ordT T n (dg2 T n 5) 1 p (nI 102)) := by
  unfold s_X7_reads_99
  rw [if_neg (show ¬ nI 102 = nI 116 by decide), if_neg (show ¬ nI 102 = nI 109 by decide), if_neg (show ¬ nI 102 = nI 108 by decide), m_dg h2 hn (by omega) (by omega), ordT_eq]
  cases h : dg T n p 1 with
  | none => exact f138
  | some a => exact t138f h2 hn (by omega)
theorem t99w {p : Nat} (h2 : g 2 = nI n) (hn : n ≤ 80) (hp : p < 700) : s_X7_reads_99 T cm (G3 g p (nI 1) cm) Y (nI 119) = RM g cm Y (ordT T n (num T n) 1 p (nI 119)) := by
  unfold s_X7_reads_99
  rw [if_neg (show ¬ nI 119 = nI 116 by decide), if_neg (show ¬ nI 119 = nI 109 by decide), if_neg (show ¬ nI 119 = nI 108 by decide), m_dg h2 hn (by omega) (by omega), ordT_eq]
  cases h : dg T n p 1 with
  | none => exact f138
  | some a => exact t138w h2 hn (by omega)
theorem t99m {p : Nat} (h2 : g 2 = nI n) (hn : n ≤ 80) (hp : p < 700) : s_X7_reads_99 T cm (G3 g p (nI 1) cm) Y (nI 109) = RM g cm Y (ordT T n (dg2 T n 2) 3 p (nI 109)) := by
  unfold s_X7_reads_99
  rw [if_neg (show ¬ nI 109 = nI 116 by decide), if_pos rfl, m_dg h2 hn (by omega) (by omega), ordT_eq]
  cases h : dg T n p 3 with
  | none => exact f138
  | some a => exact t138m h2 hn (by omega)
theorem t99l {p : Nat} (h2 : g 2 = nI n) (hn : n ≤ 80) (hp : p < 700) : s_X7_reads_99 T cm (G3 g p (nI 1) cm) Y (nI 108) = RM g cm Y (ordS (dg2 T n 2) p (nI 108)) := by
  unfold s_X7_reads_99 ordS
  rw [if_neg (show ¬ nI 108 = nI 116 by decide), if_neg (show ¬ nI 108 = nI 109 by decide), if_pos rfl, m_dg h2 hn (by omega) (by omega)]
  unfold dg2
  cases h : dg T n p 2 with
  | none => exact f138
  | some a => exact t138s (Or.inl rfl)
theorem t99t {p : Nat} (h2 : g 2 = nI n) (hn : n ≤ 80) (hp : p < 700) : s_X7_reads_99 T cm (G3 g p (nI 1) cm) Y (nI 116) = RM g cm Y (ordS (num T n) p (nI 116)) := by
  unfold s_X7_reads_99 ordS
  rw [if_pos rfl, m_num h2 hn (by omega)]
  cases h : num T n p with
  | none => exact f138
  | some a => exact t138s (Or.inr rfl)
theorem t78 {p : Nat} {k : Int32} : s_X7_reads_78 T cm (G3 g p (nI 1) cm) Y k = s_X7_reads_99 T cm (G3 g (p + 1) (nI 1) cm) Y k := by
  unfold s_X7_reads_78
  rw [if_neg g3_n1, G3_s1]
theorem r32n {p : Nat} {k : Int32} (h : ¬ k = nI 102 ∧ ¬ k = nI 119 ∧ ¬ k = nI 109 ∧ ¬ k = nI 108 ∧ ¬ k = nI 116) : s_X7_reads_32 T cm (G3 g p (nI 1) cm) Y k = RM g cm Y (.inl p) := by
  unfold s_X7_reads_32
  rw [if_neg g3_n1, if_neg h.1, if_neg h.2.1, if_neg h.2.2.1, if_neg h.2.2.2.1, if_neg h.2.2.2.2, G3_u4]
  exact f78
theorem r32y {p : Nat} {k : Int32} (h : k = nI 102 ∨ k = nI 119 ∨ k = nI 109 ∨ k = nI 108 ∨ k = nI 116) : s_X7_reads_32 T cm (G3 g p (nI 1) cm) Y k = s_X7_reads_99 T cm (G3 g (p + 1) (nI 1) cm) Y k := by
  unfold s_X7_reads_32
  rw [if_neg g3_n1, G3_u4, t78]
  by_cases c1 : k = nI 102
  · rw [if_pos c1]
  · rw [if_neg c1]
    by_cases c2 : k = nI 119
    · rw [if_pos c2]
    · rw [if_neg c2]
      by_cases c3 : k = nI 109
      · rw [if_pos c3]
      · rw [if_neg c3]
        by_cases c4 : k = nI 108
        · rw [if_pos c4]
        · rw [if_neg c4]
          by_cases c5 : k = nI 116
          · rw [if_pos c5]
          · exfalso
            rcases h with h | h | h | h | h
            · exact c1 h
            · exact c2 h
            · exact c3 h
            · exact c4 h
            · exact c5 h
theorem reads_spec {p : Nat} (h2 : g 2 = nI n) (hn : n ≤ 80) (hp : p < 600) : f_X7_reads (G3 g p (nI 1) cm) T Y cm = RM g cm Y (ord T n p) := by
  unfold f_X7_reads
  rw [if_neg g3_n1, show (G3 g p (nI 1) cm) 2 = nI n from h2, show (G3 g p (nI 1) cm) 3 = nI p from rfl]
  unfold ord
  by_cases k : p < n
  · rw [if_neg (fun z => by have := (nI_leI (by omega) (by omega)).mp z; omega), nI_clamp (by omega), ← chr_in (T := T) k]
    by_cases c1 : chr T n p = nI 102
    · rw [if_pos c1, r32y (Or.inl c1), c1, t99f h2 hn (by omega)]
    · rw [if_neg c1]
      by_cases c2 : chr T n p = nI 119
      · rw [if_pos c2, r32y (Or.inr (Or.inl c2)), c2, t99w h2 hn (by omega)]
      · rw [if_neg c2]
        by_cases c3 : chr T n p = nI 109
        · rw [if_pos c3, r32y (Or.inr (Or.inr (Or.inl c3))), c3, t99m h2 hn (by omega)]
        · rw [if_neg c3]
          by_cases c4 : chr T n p = nI 108
          · rw [if_pos c4, r32y (Or.inr (Or.inr (Or.inr (Or.inl c4)))), c4, t99l h2 hn (by omega)]
          · rw [if_neg c4]
            by_cases c5 : chr T n p = nI 116
            · rw [if_pos c5, r32y (Or.inr (Or.inr (Or.inr (Or.inr c5)))), c5, t99t h2 hn (by omega)]
            · rw [if_neg c5]
              exact r32n ⟨c1, c2, c3, c4, c5⟩
  · rw [if_pos ((nI_leI (by omega) (by omega)).mpr (by omega)), chr_out k, r32n (by decide), if_neg (by decide), if_neg (by decide), if_neg (by decide), if_neg (by decide), if_neg (by decide)]
end TXT3
