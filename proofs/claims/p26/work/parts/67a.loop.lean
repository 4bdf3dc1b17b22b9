/-! the law: the loop of acts -/
set_option maxHeartbeats 4000000 in
theorem lg_96 {p : Program} {l : Launch} {e : Env} {s : State} {m : MethodId} {below : List Frame} {meth : Method} {c : Code} {b L : Nat} {xs : Nat → Int32} {G : GG} {d : AD} {nv nq : Nat → Int32} {hn : Nat} {vs qs : Nat → Nat → Int32} {i : Nat} (C0 : lw_At p s m meth c b L xs) (X : Cx p s m #[Value.ref b] meth c cL_law 19 wsB RL ret) (hK : KN G s) (hA : ∀ q : Nat, s.heap.size ≤ q → (A0 s) q) (hLn : L ≤ 260) (hi : i < 24) (kk : ∀ j : Nat, j < 2147483648 → KW p l e room_1 s m #[Value.ref b] below meth c 104 606 (lw_Z below #[Value.ref b] s) (A0 s) G d nv nq hn vs qs 19 156 [(0, .ref b), (1, .ref d.1), (2, .int (nI 1)), (3, .int (nI i)), (4, .int (nI j)), (5, .int (nI (j / 16))), (6, .int (nI hn)), (7, .int (nv 41)), (8, .int (nv 42)), (9, .int (nv 38)), (10, .int (nv 12)), (11, .int (nv 25))] []) : KW p l e room_1 s m #[Value.ref b] below meth c 104 606 (lw_Z below #[Value.ref b] s) (A0 s) G d nv nq hn vs qs 19 86 [(0, .ref b), (1, .ref d.1), (2, .int (nI 1)), (3, .int (nI i))] [] := by
  have hx := X.1
  have hb : c.code = cL_law := X.2.1
  intro H locs ls hW hS hl
  refine lv_iload_n hx hb dL_law_86 rfl (lv_at hl 3 rfl) ?_
  refine lv_bipush (v := nI 24) hx hb dL_law_87 (by decide) ?_
  refine lv_icmp_ge (tgt := 529) hx hb dL_law_89 (by decide) (fun z => False.elim (by
      rw [nI_leI (by omega) (by omega)] at z
      omega)) (fun _ => ?_)
  refine lv_iload_n hx hb dL_law_92 rfl (lv_at hl 2 rfl) ?_
  refine lv_if_eq (tgt := 529) hx hb dL_law_93 (by decide) (fun z => False.elim ((show ¬ nI 1 = 0 by decide) z)) (fun _ => ?_)
  refine lv_aload_n hx hb dL_law_96 rfl (lv_at hl 0 rfl) ?_
  refine lv_iload_n hx hb dL_law_97 rfl (lv_at hl 3 rfl) ?_
  refine k_cell (rest := []) C0 X hLn (by omega) hW hS hl.1 (Nat.le_of_ble_eq_true rfl) dL_law_98 (fun j H locs hj hW hS => ?_)
  refine lv_istore (lv' := [(4, .int (nI j)), (0, .ref b), (1, .ref d.1), (2, .int (nI 1)), (3, .int (nI i))]) hx hb dL_law_101 hl (by decide) rfl (fun ls hl => ?_)
  refine lv_iload hx hb dL_law_103 (lv_at hl 0 rfl) ?_
  refine lv_bipush (v := nI 16) hx hb dL_law_105 (by decide) ?_
  refine lv_idiv hx hb dL_law_107 (by decide) ?_
  rw [pk_div (a := j) (d := 16) (by omega) (by omega) (by omega)]
  refine lv_istore (lv' := [(5, .int (nI (j / 16))), (4, .int (nI j)), (0, .ref b), (1, .ref d.1), (2, .int (nI 1)), (3, .int (nI i))]) hx hb dL_law_108 hl (by decide) rfl (fun ls hl => ?_)
  refine lv_aload_n hx hb dL_law_110 rfl (lv_at hl 3 rfl) ?_
  refine lv_bipush (v := nI 14) hx hb dL_law_111 (by decide) ?_
  refine k_count (rest := []) X hK hA hW hS hl.1 (Nat.le_of_ble_eq_true rfl) ⟨Nat.le_of_ble_eq_true rfl, Nat.le_of_ble_eq_true rfl⟩ ⟨Nat.le_of_ble_eq_true rfl, Nat.le_of_ble_eq_true rfl⟩ dL_law_113 (fun H locs hW hS => ?_)
  rw [cnt14]
  refine lv_istore (lv' := [(6, .int (nI hn)), (5, .int (nI (j / 16))), (4, .int (nI j)), (0, .ref b), (1, .ref d.1), (2, .int (nI 1)), (3, .int (nI i))]) hx hb dL_law_116 hl (by decide) rfl (fun ls hl => ?_)
  refine lv_aload_n hx hb dL_law_118 rfl (lv_at hl 4 rfl) ?_
  refine lv_bipush (v := nI 8) hx hb dL_law_119 (by decide) ?_
  refine k_count (rest := []) X hK hA hW hS hl.1 (Nat.le_of_ble_eq_true rfl) ⟨Nat.le_of_ble_eq_true rfl, Nat.le_of_ble_eq_true rfl⟩ ⟨Nat.le_of_ble_eq_true rfl, Nat.le_of_ble_eq_true rfl⟩ dL_law_121 (fun H locs hW hS => ?_)
  rw [cnt8]
  refine lv_istore (lv' := [(7, .int (nv 41)), (6, .int (nI hn)), (5, .int (nI (j / 16))), (4, .int (nI j)), (0, .ref b), (1, .ref d.1), (2, .int (nI 1)), (3, .int (nI i))]) hx hb dL_law_124 hl (by decide) rfl (fun ls hl => ?_)
  refine lv_aload_n hx hb dL_law_126 rfl (lv_at hl 5 rfl) ?_
  refine lv_bipush (v := nI 9) hx hb dL_law_127 (by decide) ?_
  refine k_count (rest := []) X hK hA hW hS hl.1 (Nat.le_of_ble_eq_true rfl) ⟨Nat.le_of_ble_eq_true rfl, Nat.le_of_ble_eq_true rfl⟩ ⟨Nat.le_of_ble_eq_true rfl, Nat.le_of_ble_eq_true rfl⟩ dL_law_129 (fun H locs hW hS => ?_)
  rw [cnt9]
  refine lv_istore (lv' := [(8, .int (nv 42)), (7, .int (nv 41)), (6, .int (nI hn)), (5, .int (nI (j / 16))), (4, .int (nI j)), (0, .ref b), (1, .ref d.1), (2, .int (nI 1)), (3, .int (nI i))]) hx hb dL_law_132 hl (by decide) rfl (fun ls hl => ?_)
  refine lv_aload_n hx hb dL_law_134 rfl (lv_at hl 6 rfl) ?_
  refine lv_iconst (v := nI 2) hx hb dL_law_135 (by decide) ?_
  refine k_count (rest := []) X hK hA hW hS hl.1 (Nat.le_of_ble_eq_true rfl) ⟨Nat.le_of_ble_eq_true rfl, Nat.le_of_ble_eq_true rfl⟩ ⟨Nat.le_of_ble_eq_true rfl, Nat.le_of_ble_eq_true rfl⟩ dL_law_136 (fun H locs hW hS => ?_)
  rw [cnt2]
  refine lv_istore (lv' := [(9, .int (nv 38)), (8, .int (nv 42)), (7, .int (nv 41)), (6, .int (nI hn)), (5, .int (nI (j / 16))), (4, .int (nI j)), (0, .ref b), (1, .ref d.1), (2, .int (nI 1)), (3, .int (nI i))]) hx hb dL_law_139 hl (by decide) rfl (fun ls hl => ?_)
  refine lv_aload_n hx hb dL_law_141 rfl (lv_at hl 7 rfl) ?_
  refine lv_iconst (v := nI 0) hx hb dL_law_142 (by decide) ?_
  refine k_count (rest := []) X hK hA hW hS hl.1 (Nat.le_of_ble_eq_true rfl) ⟨Nat.le_of_ble_eq_true rfl, Nat.le_of_ble_eq_true rfl⟩ ⟨Nat.le_of_ble_eq_true rfl, Nat.le_of_ble_eq_true rfl⟩ dL_law_143 (fun H locs hW hS => ?_)
  rw [cnt0]
  refine lv_istore (lv' := [(10, .int (nv 12)), (9, .int (nv 38)), (8, .int (nv 42)), (7, .int (nv 41)), (6, .int (nI hn)), (5, .int (nI (j / 16))), (4, .int (nI j)), (0, .ref b), (1, .ref d.1), (2, .int (nI 1)), (3, .int (nI i))]) hx hb dL_law_146 hl (by decide) rfl (fun ls hl => ?_)
  refine lv_aload_n hx hb dL_law_148 rfl (lv_at hl 8 rfl) ?_
  refine lv_bipush (v := nI 6) hx hb dL_law_149 (by decide) ?_
  refine k_count (rest := []) X hK hA hW hS hl.1 (Nat.le_of_ble_eq_true rfl) ⟨Nat.le_of_ble_eq_true rfl, Nat.le_of_ble_eq_true rfl⟩ ⟨Nat.le_of_ble_eq_true rfl, Nat.le_of_ble_eq_true rfl⟩ dL_law_151 (fun H locs hW hS => ?_)
  rw [cnt6]
  refine lv_istore (lv' := [(11, .int (nv 25)), (10, .int (nv 12)), (9, .int (nv 38)), (8, .int (nv 42)), (7, .int (nv 41)), (6, .int (nI hn)), (5, .int (nI (j / 16))), (4, .int (nI j)), (0, .ref b), (1, .ref d.1), (2, .int (nI 1)), (3, .int (nI i))]) hx hb dL_law_154 hl (by decide) rfl (fun ls hl => ?_)
  exact kk j hj H locs ls hW hS (lv_sub hl [8, 9, 10, 11, 7, 6, 5, 4, 3, 2, 1, 0] rfl)
set_option maxHeartbeats 4000000 in
theorem lg_156r {p : Program} {l : Launch} {e : Env} {s : State} {m : MethodId} {below : List Frame} {meth : Method} {c : Code} {b L : Nat} {xs : Nat → Int32} {G : GG} {d : AD} {nv nq : Nat → Int32} {hn : Nat} {vs qs : Nat → Nat → Int32} {i j : Nat} (C0 : lw_At p s m meth c b L xs) (X : Cx p s m #[Value.ref b] meth c cL_law 19 wsB RL ret) (hK : KN G s) (hA : ∀ q : Nat, s.heap.size ≤ q → (A0 s) q) (hLn : L ≤ 260) (hj : j < 2147483648) (hk : 12 ≤ j % 16) (kk : KW p l e room_1 s m #[Value.ref b] below meth c 104 606 (lw_Z below #[Value.ref b] s) (A0 s) G d nv nq hn vs qs 19 198 [(0, .ref b), (1, .ref d.1), (2, .int (nI 1)), (3, .int (nI i)), (4, .int (nI j)), (5, .int (nI (j / 16))), (6, .int (nI hn)), (7, .int (nv 41)), (8, .int (nv 42)), (9, .int (nv 38)), (10, .int (nv 12)), (11, .int (nv 25)), (12, .int (nI 1)), (13, .int (nI (mny j)))] []) : KW p l e room_1 s m #[Value.ref b] below meth c 104 606 (lw_Z below #[Value.ref b] s) (A0 s) G d nv nq hn vs qs 19 156 [(0, .ref b), (1, .ref d.1), (2, .int (nI 1)), (3, .int (nI i)), (4, .int (nI j)), (5, .int (nI (j / 16))), (6, .int (nI hn)), (7, .int (nv 41)), (8, .int (nv 42)), (9, .int (nv 38)), (10, .int (nv 12)), (11, .int (nv 25))] [] := by
  have hx := X.1
  have hb : c.code = cL_law := X.2.1
  intro H locs ls hW hS hl
  refine lv_iload hx hb dL_law_156 (lv_at hl 4 rfl) ?_
  refine lv_bipush (v := nI 16) hx hb dL_law_158 (by decide) ?_
  refine lv_irem hx hb dL_law_160 (by decide) ?_
  rw [pk_rem (a := j) (d := 16) (by omega) (by omega) (by omega)]
  refine lv_bipush (v := nI 11) hx hb dL_law_161 (by decide) ?_
  refine lv_icmp_le (tgt := 170) hx hb dL_law_163 (by decide) (fun z => False.elim (by
      rw [nI_leI (by omega) (by omega)] at z
      omega)) (fun _ => ?_)
  refine lv_iconst (v := nI 1) hx hb dL_law_166 (by decide) ?_
  refine lv_goto (tgt := 171) hx hb dL_law_167 (by decide) ?_
  refine lv_istore (lv' := [(12, .int (nI 1)), (0, .ref b), (1, .ref d.1), (2, .int (nI 1)), (3, .int (nI i)), (4, .int (nI j)), (5, .int (nI (j / 16))), (6, .int (nI hn)), (7, .int (nv 41)), (8, .int (nv 42)), (9, .int (nv 38)), (10, .int (nv 12)), (11, .int (nv 25))]) hx hb dL_law_171 hl (by decide) rfl (fun ls hl => ?_)
  refine lv_iconst (v := nI 1) hx hb dL_law_173 (by decide) ?_
  refine lv_iload hx hb dL_law_174 (lv_at hl 6 rfl) ?_
  refine lv_iload hx hb dL_law_176 (lv_at hl 6 rfl) ?_
  refine lv_sipush (v := nI 256) hx hb dL_law_178 (by decide) ?_
  refine lv_idiv hx hb dL_law_181 (by decide) ?_
  rw [pk_div (a := (j / 16)) (d := 256) (by omega) (by omega) (by omega)]
  refine lv_iconst (v := nI 3) hx hb dL_law_182 (by decide) ?_
  refine lv_irem hx hb dL_law_183 (by decide) ?_
  rw [pk_rem (a := ((j / 16) / 256)) (d := 3) (by omega) (by omega) (by omega)]
  by_cases cz : j / 16 / 256 % 3 = 0
  · have ez : nI (j / 16 / 256 % 3) = 0 := by rw [cz]; rfl
    refine lv_if_ne (tgt := 192) hx hb dL_law_184 (by decide) (fun z => False.elim (z ez)) (fun _ => ?_)
    refine lv_bipush (v := nI 60) hx hb dL_law_187 (by decide) ?_
    refine lv_goto (tgt := 194) hx hb dL_law_189 (by decide) ?_
    refine lv_irem hx hb dL_law_194 (by decide) ?_
    rw [pk_rem (a := (j / 16)) (d := 60) (by omega) (by omega) (by omega)]
    refine lv_iadd hx hb dL_law_195 ?_
    rw [nI_add, show 1 + j / 16 % 60 = mny j by unfold mny; rw [if_pos cz]]
    refine lv_istore (lv' := [(13, .int (nI (mny j))), (12, .int (nI 1)), (0, .ref b), (1, .ref d.1), (2, .int (nI 1)), (3, .int (nI i)), (4, .int (nI j)), (5, .int (nI (j / 16))), (6, .int (nI hn)), (7, .int (nv 41)), (8, .int (nv 42)), (9, .int (nv 38)), (10, .int (nv 12)), (11, .int (nv 25))]) hx hb dL_law_196 hl (by decide) rfl (fun ls hl => ?_)
    exact kk H locs ls hW hS (lv_sub hl [2, 3, 4, 5, 6, 7, 8, 9, 10, 11, 12, 13, 1, 0] rfl)
  · have ez : ¬ nI (j / 16 / 256 % 3) = 0 := fun z => cz ((nI_eq (b := 0) (by omega) (by omega)).mp z)
    refine lv_if_ne (tgt := 192) hx hb dL_law_184 (by decide) (fun _ => ?_) (fun z => False.elim (ez z))
    refine lv_bipush (v := nI 8) hx hb dL_law_192 (by decide) ?_
    refine lv_irem hx hb dL_law_194 (by decide) ?_
    rw [pk_rem (a := (j / 16)) (d := 8) (by omega) (by omega) (by omega)]
    refine lv_iadd hx hb dL_law_195 ?_
    rw [nI_add, show 1 + j / 16 % 8 = mny j by unfold mny; rw [if_neg cz]]
    refine lv_istore (lv' := [(13, .int (nI (mny j))), (12, .int (nI 1)), (0, .ref b), (1, .ref d.1), (2, .int (nI 1)), (3, .int (nI i)), (4, .int (nI j)), (5, .int (nI (j / 16))), (6, .int (nI hn)), (7, .int (nv 41)), (8, .int (nv 42)), (9, .int (nv 38)), (10, .int (nv 12)), (11, .int (nv 25))]) hx hb dL_law_196 hl (by decide) rfl (fun ls hl => ?_)
    exact kk H locs ls hW hS (lv_sub hl [2, 3, 4, 5, 6, 7, 8, 9, 10, 11, 12, 13, 1, 0] rfl)
set_option maxHeartbeats 4000000 in
theorem lg_156n {p : Program} {l : Launch} {e : Env} {s : State} {m : MethodId} {below : List Frame} {meth : Method} {c : Code} {b L : Nat} {xs : Nat → Int32} {G : GG} {d : AD} {nv nq : Nat → Int32} {hn : Nat} {vs qs : Nat → Nat → Int32} {i j : Nat} (C0 : lw_At p s m meth c b L xs) (X : Cx p s m #[Value.ref b] meth c cL_law 19 wsB RL ret) (hK : KN G s) (hA : ∀ q : Nat, s.heap.size ≤ q → (A0 s) q) (hLn : L ≤ 260) (hj : j < 2147483648) (hk : j % 16 < 12) (kk : KW p l e room_1 s m #[Value.ref b] below meth c 104 606 (lw_Z below #[Value.ref b] s) (A0 s) G d nv nq hn vs qs 19 198 [(0, .ref b), (1, .ref d.1), (2, .int (nI 1)), (3, .int (nI i)), (4, .int (nI j)), (5, .int (nI (j / 16))), (6, .int (nI hn)), (7, .int (nv 41)), (8, .int (nv 42)), (9, .int (nv 38)), (10, .int (nv 12)), (11, .int (nv 25)), (12, .int (nI 0)), (13, .int (nI (mny j)))] []) : KW p l e room_1 s m #[Value.ref b] below meth c 104 606 (lw_Z below #[Value.ref b] s) (A0 s) G d nv nq hn vs qs 19 156 [(0, .ref b), (1, .ref d.1), (2, .int (nI 1)), (3, .int (nI i)), (4, .int (nI j)), (5, .int (nI (j / 16))), (6, .int (nI hn)), (7, .int (nv 41)), (8, .int (nv 42)), (9, .int (nv 38)), (10, .int (nv 12)), (11, .int (nv 25))] [] := by
  have hx := X.1
  have hb : c.code = cL_law := X.2.1
  intro H locs ls hW hS hl
  refine lv_iload hx hb dL_law_156 (lv_at hl 4 rfl) ?_
  refine lv_bipush (v := nI 16) hx hb dL_law_158 (by decide) ?_
  refine lv_irem hx hb dL_law_160 (by decide) ?_
  rw [pk_rem (a := j) (d := 16) (by omega) (by omega) (by omega)]
  refine lv_bipush (v := nI 11) hx hb dL_law_161 (by decide) ?_
  refine lv_icmp_le (tgt := 170) hx hb dL_law_163 (by decide) (fun _ => ?_) (fun z => False.elim (by
      rw [nI_leI (by omega) (by omega)] at z
      omega))
  refine lv_iconst (v := nI 0) hx hb dL_law_170 (by decide) ?_
  refine lv_istore (lv' := [(12, .int (nI 0)), (0, .ref b), (1, .ref d.1), (2, .int (nI 1)), (3, .int (nI i)), (4, .int (nI j)), (5, .int (nI (j / 16))), (6, .int (nI hn)), (7, .int (nv 41)), (8, .int (nv 42)), (9, .int (nv 38)), (10, .int (nv 12)), (11, .int (nv 25))]) hx hb dL_law_171 hl (by decide) rfl (fun ls hl => ?_)
  refine lv_iconst (v := nI 1) hx hb dL_law_173 (by decide) ?_
  refine lv_iload hx hb dL_law_174 (lv_at hl 6 rfl) ?_
  refine lv_iload hx hb dL_law_176 (lv_at hl 6 rfl) ?_
  refine lv_sipush (v := nI 256) hx hb dL_law_178 (by decide) ?_
  refine lv_idiv hx hb dL_law_181 (by decide) ?_
  rw [pk_div (a := (j / 16)) (d := 256) (by omega) (by omega) (by omega)]
  refine lv_iconst (v := nI 3) hx hb dL_law_182 (by decide) ?_
  refine lv_irem hx hb dL_law_183 (by decide) ?_
  rw [pk_rem (a := ((j / 16) / 256)) (d := 3) (by omega) (by omega) (by omega)]
  by_cases cz : j / 16 / 256 % 3 = 0
  · have ez : nI (j / 16 / 256 % 3) = 0 := by rw [cz]; rfl
    refine lv_if_ne (tgt := 192) hx hb dL_law_184 (by decide) (fun z => False.elim (z ez)) (fun _ => ?_)
    refine lv_bipush (v := nI 60) hx hb dL_law_187 (by decide) ?_
    refine lv_goto (tgt := 194) hx hb dL_law_189 (by decide) ?_
    refine lv_irem hx hb dL_law_194 (by decide) ?_
    rw [pk_rem (a := (j / 16)) (d := 60) (by omega) (by omega) (by omega)]
    refine lv_iadd hx hb dL_law_195 ?_
    rw [nI_add, show 1 + j / 16 % 60 = mny j by unfold mny; rw [if_pos cz]]
    refine lv_istore (lv' := [(13, .int (nI (mny j))), (12, .int (nI 0)), (0, .ref b), (1, .ref d.1), (2, .int (nI 1)), (3, .int (nI i)), (4, .int (nI j)), (5, .int (nI (j / 16))), (6, .int (nI hn)), (7, .int (nv 41)), (8, .int (nv 42)), (9, .int (nv 38)), (10, .int (nv 12)), (11, .int (nv 25))]) hx hb dL_law_196 hl (by decide) rfl (fun ls hl => ?_)
    exact kk H locs ls hW hS (lv_sub hl [2, 3, 4, 5, 6, 7, 8, 9, 10, 11, 12, 13, 1, 0] rfl)
  · have ez : ¬ nI (j / 16 / 256 % 3) = 0 := fun z => cz ((nI_eq (b := 0) (by omega) (by omega)).mp z)
    refine lv_if_ne (tgt := 192) hx hb dL_law_184 (by decide) (fun _ => ?_) (fun z => False.elim (ez z))
    refine lv_bipush (v := nI 8) hx hb dL_law_192 (by decide) ?_
    refine lv_irem hx hb dL_law_194 (by decide) ?_
    rw [pk_rem (a := (j / 16)) (d := 8) (by omega) (by omega) (by omega)]
    refine lv_iadd hx hb dL_law_195 ?_
    rw [nI_add, show 1 + j / 16 % 8 = mny j by unfold mny; rw [if_neg cz]]
    refine lv_istore (lv' := [(13, .int (nI (mny j))), (12, .int (nI 0)), (0, .ref b), (1, .ref d.1), (2, .int (nI 1)), (3, .int (nI i)), (4, .int (nI j)), (5, .int (nI (j / 16))), (6, .int (nI hn)), (7, .int (nv 41)), (8, .int (nv 42)), (9, .int (nv 38)), (10, .int (nv 12)), (11, .int (nv 25))]) hx hb dL_law_196 hl (by decide) rfl (fun ls hl => ?_)
    exact kk H locs ls hW hS (lv_sub hl [2, 3, 4, 5, 6, 7, 8, 9, 10, 11, 12, 13, 1, 0] rfl)
set_option maxHeartbeats 4000000 in
theorem lg_198r {p : Program} {l : Launch} {e : Env} {s : State} {m : MethodId} {below : List Frame} {meth : Method} {c : Code} {b L : Nat} {xs : Nat → Int32} {G : GG} {d : AD} {nv nq : Nat → Int32} {hn : Nat} {vs qs : Nat → Nat → Int32} {i j : Nat} {t : Int} (C0 : lw_At p s m meth c b L xs) (X : Cx p s m #[Value.ref b] meth c cL_law 19 wsB RL ret) (hK : KN G s) (hA : ∀ q : Nat, s.heap.size ≤ q → (A0 s) q) (hLn : L ≤ 260) (hI : Iv t nv) (kk : KW p l e room_1 s m #[Value.ref b] below meth c 104 606 (lw_Z below #[Value.ref b] s) (A0 s) G d nv nq hn vs qs 19 288 [(0, .ref b), (1, .ref d.1), (2, .int (nI 1)), (3, .int (nI i)), (4, .int (nI j)), (5, .int (nI (j / 16))), (6, .int (nI hn)), (7, .int (nv 41)), (8, .int (nv 42)), (9, .int (nv 38)), (10, .int (nv 12)), (11, .int (nv 25)), (12, .int (nI 1)), (13, .int (nI (mny j))), (14, .int ((NN (mny j) nv nq).1 41 - nv 41)), (15, .int ((NN (mny j) nv nq).1 42 - nv 42)), (16, .int ((NN (mny j) nv nq).1 38 - nv 38))] []) : KW p l e room_1 s m #[Value.ref b] below meth c 104 606 (lw_Z below #[Value.ref b] s) (A0 s) G d nv nq hn vs qs 19 198 [(0, .ref b), (1, .ref d.1), (2, .int (nI 1)), (3, .int (nI i)), (4, .int (nI j)), (5, .int (nI (j / 16))), (6, .int (nI hn)), (7, .int (nv 41)), (8, .int (nv 42)), (9, .int (nv 38)), (10, .int (nv 12)), (11, .int (nv 25)), (12, .int (nI 1)), (13, .int (nI (mny j)))] [] := by
  have hx := X.1
  have hb : c.code = cL_law := X.2.1
  intro H locs ls hW hS hl
  have hm := mny_le j
  refine lv_iload hx hb dL_law_198 (lv_at hl 12 rfl) ?_
  refine lv_if_eq (tgt := 225) hx hb dL_law_200 (by decide) (fun z => False.elim ((show ¬ nI 1 = 0 by decide) z)) (fun _ => ?_)
  refine lv_aload_n hx hb dL_law_203 rfl (lv_at hl 1 rfl) ?_
  refine lv_aload_n hx hb dL_law_204 rfl (lv_at hl 1 rfl) ?_
  refine lv_iconst (v := nI 0) hx hb dL_law_205 (by decide) ?_
  refine lv_iconst (v := nI 0) hx hb dL_law_206 (by decide) ?_
  refine k_boiler (rest := [.ref d.1]) X hK hA hW hS hl.1 (Nat.le_of_ble_eq_true rfl) ⟨Nat.le_of_ble_eq_true rfl, Nat.le_of_ble_eq_true rfl⟩ ⟨Nat.le_of_ble_eq_true rfl, Nat.le_of_ble_eq_true rfl⟩ dL_law_207 (fun H locs hW hS => ?_)
  rw [boil0 (b := 0) (by omega)]
  refine lv_aload_n hx hb dL_law_210 rfl (lv_at hl 1 rfl) ?_
  refine lv_iconst (v := nI 1) hx hb dL_law_211 (by decide) ?_
  refine lv_iconst (v := nI 0) hx hb dL_law_212 (by decide) ?_
  refine k_boiler (rest := [.int (nv 0), .ref d.1]) X hK hA hW hS hl.1 (Nat.le_of_ble_eq_true rfl) ⟨Nat.le_of_ble_eq_true rfl, Nat.le_of_ble_eq_true rfl⟩ ⟨Nat.le_of_ble_eq_true rfl, Nat.le_of_ble_eq_true rfl⟩ dL_law_213 (fun H locs hW hS => ?_)
  rw [boil0 (b := 1) (by omega)]
  refine lv_iload hx hb dL_law_216 (lv_at hl 13 rfl) ?_
  refine lv_iconst (v := nI 0) hx hb dL_law_218 (by decide) ?_
  refine k_ifFires (rest := []) X hK hA hW hS hl.1 (Nat.le_of_ble_eq_true rfl) ⟨Nat.le_of_ble_eq_true rfl, Nat.le_of_ble_eq_true rfl⟩ ⟨Nat.le_of_ble_eq_true rfl, Nat.le_of_ble_eq_true rfl⟩ dL_law_219 (fun av aq yv yq H locs hW hS => ?_)
  rw [(if_ok (nv := nv) (nq := nq) (av := av) (aq := aq) (yv := yv) (yq := yq) (p0 := nv 0) (p1 := nv 1) (m := mny j) hI.1.1.1 hI.1.2.1 hm.1 (by omega)).1, fir_same]
  refine lv_goto (tgt := 226) hx hb dL_law_222 (by decide) ?_
  refine lv_istore (lv' := [(14, .int ((NN (mny j) nv nq).1 41 - nv 41)), (0, .ref b), (1, .ref d.1), (2, .int (nI 1)), (3, .int (nI i)), (4, .int (nI j)), (5, .int (nI (j / 16))), (6, .int (nI hn)), (7, .int (nv 41)), (8, .int (nv 42)), (9, .int (nv 38)), (10, .int (nv 12)), (11, .int (nv 25)), (12, .int (nI 1)), (13, .int (nI (mny j)))]) hx hb dL_law_226 hl (by decide) rfl (fun ls hl => ?_)
  refine lv_iload hx hb dL_law_228 (lv_at hl 13 rfl) ?_
  refine lv_if_eq (tgt := 255) hx hb dL_law_230 (by decide) (fun z => False.elim ((show ¬ nI 1 = 0 by decide) z)) (fun _ => ?_)
  refine lv_aload_n hx hb dL_law_233 rfl (lv_at hl 2 rfl) ?_
  refine lv_aload_n hx hb dL_law_234 rfl (lv_at hl 2 rfl) ?_
  refine lv_iconst (v := nI 0) hx hb dL_law_235 (by decide) ?_
  refine lv_iconst (v := nI 0) hx hb dL_law_236 (by decide) ?_
  refine k_boiler (rest := [.ref d.1]) X hK hA hW hS hl.1 (Nat.le_of_ble_eq_true rfl) ⟨Nat.le_of_ble_eq_true rfl, Nat.le_of_ble_eq_true rfl⟩ ⟨Nat.le_of_ble_eq_true rfl, Nat.le_of_ble_eq_true rfl⟩ dL_law_237 (fun H locs hW hS => ?_)
  rw [boil0 (b := 0) (by omega)]
  refine lv_aload_n hx hb dL_law_240 rfl (lv_at hl 2 rfl) ?_
  refine lv_iconst (v := nI 1) hx hb dL_law_241 (by decide) ?_
  refine lv_iconst (v := nI 0) hx hb dL_law_242 (by decide) ?_
  refine k_boiler (rest := [.int (nv 0), .ref d.1]) X hK hA hW hS hl.1 (Nat.le_of_ble_eq_true rfl) ⟨Nat.le_of_ble_eq_true rfl, Nat.le_of_ble_eq_true rfl⟩ ⟨Nat.le_of_ble_eq_true rfl, Nat.le_of_ble_eq_true rfl⟩ dL_law_243 (fun H locs hW hS => ?_)
  rw [boil0 (b := 1) (by omega)]
  refine lv_iload hx hb dL_law_246 (lv_at hl 14 rfl) ?_
  refine lv_iconst (v := nI 1) hx hb dL_law_248 (by decide) ?_
  refine k_ifFires (rest := []) X hK hA hW hS hl.1 (Nat.le_of_ble_eq_true rfl) ⟨Nat.le_of_ble_eq_true rfl, Nat.le_of_ble_eq_true rfl⟩ ⟨Nat.le_of_ble_eq_true rfl, Nat.le_of_ble_eq_true rfl⟩ dL_law_249 (fun av aq yv yq H locs hW hS => ?_)
  rw [(if_ok (nv := nv) (nq := nq) (av := av) (aq := aq) (yv := yv) (yq := yq) (p0 := nv 0) (p1 := nv 1) (m := mny j) hI.1.1.1 hI.1.2.1 hm.1 (by omega)).2.1, fir_same]
  refine lv_goto (tgt := 256) hx hb dL_law_252 (by decide) ?_
  refine lv_istore (lv' := [(15, .int ((NN (mny j) nv nq).1 42 - nv 42)), (14, .int ((NN (mny j) nv nq).1 41 - nv 41)), (0, .ref b), (1, .ref d.1), (2, .int (nI 1)), (3, .int (nI i)), (4, .int (nI j)), (5, .int (nI (j / 16))), (6, .int (nI hn)), (7, .int (nv 41)), (8, .int (nv 42)), (9, .int (nv 38)), (10, .int (nv 12)), (11, .int (nv 25)), (12, .int (nI 1)), (13, .int (nI (mny j)))]) hx hb dL_law_256 hl (by decide) rfl (fun ls hl => ?_)
  refine lv_iload hx hb dL_law_258 (lv_at hl 14 rfl) ?_
  refine lv_if_eq (tgt := 285) hx hb dL_law_260 (by decide) (fun z => False.elim ((show ¬ nI 1 = 0 by decide) z)) (fun _ => ?_)
  refine lv_aload_n hx hb dL_law_263 rfl (lv_at hl 3 rfl) ?_
  refine lv_aload_n hx hb dL_law_264 rfl (lv_at hl 3 rfl) ?_
  refine lv_iconst (v := nI 0) hx hb dL_law_265 (by decide) ?_
  refine lv_iconst (v := nI 0) hx hb dL_law_266 (by decide) ?_
  refine k_boiler (rest := [.ref d.1]) X hK hA hW hS hl.1 (Nat.le_of_ble_eq_true rfl) ⟨Nat.le_of_ble_eq_true rfl, Nat.le_of_ble_eq_true rfl⟩ ⟨Nat.le_of_ble_eq_true rfl, Nat.le_of_ble_eq_true rfl⟩ dL_law_267 (fun H locs hW hS => ?_)
  rw [boil0 (b := 0) (by omega)]
  refine lv_aload_n hx hb dL_law_270 rfl (lv_at hl 3 rfl) ?_
  refine lv_iconst (v := nI 1) hx hb dL_law_271 (by decide) ?_
  refine lv_iconst (v := nI 0) hx hb dL_law_272 (by decide) ?_
  refine k_boiler (rest := [.int (nv 0), .ref d.1]) X hK hA hW hS hl.1 (Nat.le_of_ble_eq_true rfl) ⟨Nat.le_of_ble_eq_true rfl, Nat.le_of_ble_eq_true rfl⟩ ⟨Nat.le_of_ble_eq_true rfl, Nat.le_of_ble_eq_true rfl⟩ dL_law_273 (fun H locs hW hS => ?_)
  rw [boil0 (b := 1) (by omega)]
  refine lv_iload hx hb dL_law_276 (lv_at hl 15 rfl) ?_
  refine lv_iconst (v := nI 2) hx hb dL_law_278 (by decide) ?_
  refine k_ifFires (rest := []) X hK hA hW hS hl.1 (Nat.le_of_ble_eq_true rfl) ⟨Nat.le_of_ble_eq_true rfl, Nat.le_of_ble_eq_true rfl⟩ ⟨Nat.le_of_ble_eq_true rfl, Nat.le_of_ble_eq_true rfl⟩ dL_law_279 (fun av aq yv yq H locs hW hS => ?_)
  rw [(if_ok (nv := nv) (nq := nq) (av := av) (aq := aq) (yv := yv) (yq := yq) (p0 := nv 0) (p1 := nv 1) (m := mny j) hI.1.1.1 hI.1.2.1 hm.1 (by omega)).2.2, fir_same]
  refine lv_goto (tgt := 286) hx hb dL_law_282 (by decide) ?_
  refine lv_istore (lv' := [(16, .int ((NN (mny j) nv nq).1 38 - nv 38)), (15, .int ((NN (mny j) nv nq).1 42 - nv 42)), (14, .int ((NN (mny j) nv nq).1 41 - nv 41)), (0, .ref b), (1, .ref d.1), (2, .int (nI 1)), (3, .int (nI i)), (4, .int (nI j)), (5, .int (nI (j / 16))), (6, .int (nI hn)), (7, .int (nv 41)), (8, .int (nv 42)), (9, .int (nv 38)), (10, .int (nv 12)), (11, .int (nv 25)), (12, .int (nI 1)), (13, .int (nI (mny j)))]) hx hb dL_law_286 hl (by decide) rfl (fun ls hl => ?_)
  exact kk H locs ls hW hS (lv_sub hl [3, 4, 5, 6, 7, 8, 9, 10, 11, 12, 13, 14, 15, 16, 2, 1, 0] rfl)
set_option maxHeartbeats 4000000 in
theorem lg_198n {p : Program} {l : Launch} {e : Env} {s : State} {m : MethodId} {below : List Frame} {meth : Method} {c : Code} {b L : Nat} {xs : Nat → Int32} {G : GG} {d : AD} {nv nq : Nat → Int32} {hn : Nat} {vs qs : Nat → Nat → Int32} {i j : Nat} (C0 : lw_At p s m meth c b L xs) (X : Cx p s m #[Value.ref b] meth c cL_law 19 wsB RL ret) (hK : KN G s) (hA : ∀ q : Nat, s.heap.size ≤ q → (A0 s) q) (hLn : L ≤ 260)  (kk : KW p l e room_1 s m #[Value.ref b] below meth c 104 606 (lw_Z below #[Value.ref b] s) (A0 s) G d nv nq hn vs qs 19 288 [(0, .ref b), (1, .ref d.1), (2, .int (nI 1)), (3, .int (nI i)), (4, .int (nI j)), (5, .int (nI (j / 16))), (6, .int (nI hn)), (7, .int (nv 41)), (8, .int (nv 42)), (9, .int (nv 38)), (10, .int (nv 12)), (11, .int (nv 25)), (12, .int (nI 0)), (13, .int (nI (mny j))), (14, .int (nI 0)), (15, .int (nI 0)), (16, .int (nI 0))] []) : KW p l e room_1 s m #[Value.ref b] below meth c 104 606 (lw_Z below #[Value.ref b] s) (A0 s) G d nv nq hn vs qs 19 198 [(0, .ref b), (1, .ref d.1), (2, .int (nI 1)), (3, .int (nI i)), (4, .int (nI j)), (5, .int (nI (j / 16))), (6, .int (nI hn)), (7, .int (nv 41)), (8, .int (nv 42)), (9, .int (nv 38)), (10, .int (nv 12)), (11, .int (nv 25)), (12, .int (nI 0)), (13, .int (nI (mny j)))] [] := by
  have hx := X.1
  have hb : c.code = cL_law := X.2.1
  intro H locs ls hW hS hl
  refine lv_iload hx hb dL_law_198 (lv_at hl 12 rfl) ?_
  refine lv_if_eq (tgt := 225) hx hb dL_law_200 (by decide) (fun _ => ?_) (fun z => False.elim (z rfl))
  refine lv_iconst (v := nI 0) hx hb dL_law_225 (by decide) ?_
  refine lv_istore (lv' := [(14, .int (nI 0)), (0, .ref b), (1, .ref d.1), (2, .int (nI 1)), (3, .int (nI i)), (4, .int (nI j)), (5, .int (nI (j / 16))), (6, .int (nI hn)), (7, .int (nv 41)), (8, .int (nv 42)), (9, .int (nv 38)), (10, .int (nv 12)), (11, .int (nv 25)), (12, .int (nI 0)), (13, .int (nI (mny j)))]) hx hb dL_law_226 hl (by decide) rfl (fun ls hl => ?_)
  refine lv_iload hx hb dL_law_228 (lv_at hl 13 rfl) ?_
  refine lv_if_eq (tgt := 255) hx hb dL_law_230 (by decide) (fun _ => ?_) (fun z => False.elim (z rfl))
  refine lv_iconst (v := nI 0) hx hb dL_law_255 (by decide) ?_
  refine lv_istore (lv' := [(15, .int (nI 0)), (14, .int (nI 0)), (0, .ref b), (1, .ref d.1), (2, .int (nI 1)), (3, .int (nI i)), (4, .int (nI j)), (5, .int (nI (j / 16))), (6, .int (nI hn)), (7, .int (nv 41)), (8, .int (nv 42)), (9, .int (nv 38)), (10, .int (nv 12)), (11, .int (nv 25)), (12, .int (nI 0)), (13, .int (nI (mny j)))]) hx hb dL_law_256 hl (by decide) rfl (fun ls hl => ?_)
  refine lv_iload hx hb dL_law_258 (lv_at hl 14 rfl) ?_
  refine lv_if_eq (tgt := 285) hx hb dL_law_260 (by decide) (fun _ => ?_) (fun z => False.elim (z rfl))
  refine lv_iconst (v := nI 0) hx hb dL_law_285 (by decide) ?_
  refine lv_istore (lv' := [(16, .int (nI 0)), (15, .int (nI 0)), (14, .int (nI 0)), (0, .ref b), (1, .ref d.1), (2, .int (nI 1)), (3, .int (nI i)), (4, .int (nI j)), (5, .int (nI (j / 16))), (6, .int (nI hn)), (7, .int (nv 41)), (8, .int (nv 42)), (9, .int (nv 38)), (10, .int (nv 12)), (11, .int (nv 25)), (12, .int (nI 0)), (13, .int (nI (mny j)))]) hx hb dL_law_286 hl (by decide) rfl (fun ls hl => ?_)
  exact kk H locs ls hW hS (lv_sub hl [3, 4, 5, 6, 7, 8, 9, 10, 11, 12, 13, 14, 15, 16, 2, 1, 0] rfl)
set_option maxHeartbeats 4000000 in
theorem lg_288a1 {p : Program} {l : Launch} {e : Env} {s : State} {m : MethodId} {below : List Frame} {meth : Method} {c : Code} {b L : Nat} {xs : Nat → Int32} {G : GG} {d : AD} {nv nq : Nat → Int32} {hn : Nat} {vs qs : Nat → Nat → Int32} {i j : Nat} (C0 : lw_At p s m meth c b L xs) (X : Cx p s m #[Value.ref b] meth c cL_law 19 wsB RL ret) (hK : KN G s) (hA : ∀ q : Nat, s.heap.size ≤ q → (A0 s) q) (hLn : L ≤ 260) (hj : j < 2147483648) (hk : ¬ (5 ≤ j % 16 ∧ j % 16 < 8)) (kk : KW p l e room_1 s m #[Value.ref b] below meth c 104 606 (lw_Z below #[Value.ref b] s) (A0 s) G d nv nq hn vs qs 19 326 [(0, .ref b), (1, .ref d.1), (2, .int (nI 1)), (3, .int (nI i)), (4, .int (nI j)), (5, .int (nI (j / 16))), (6, .int (nI hn)), (7, .int (nv 41)), (8, .int (nv 42)), (9, .int (nv 38)), (10, .int (nv 12)), (11, .int (nv 25)), (12, .int (nI 1)), (13, .int (nI (mny j))), (14, .int ((NN (mny j) nv nq).1 41 - nv 41)), (15, .int ((NN (mny j) nv nq).1 42 - nv 42)), (16, .int ((NN (mny j) nv nq).1 38 - nv 38)), (17, .int (-1))] []) : KW p l e room_1 s m #[Value.ref b] below meth c 104 606 (lw_Z below #[Value.ref b] s) (A0 s) G d nv nq hn vs qs 19 288 [(0, .ref b), (1, .ref d.1), (2, .int (nI 1)), (3, .int (nI i)), (4, .int (nI j)), (5, .int (nI (j / 16))), (6, .int (nI hn)), (7, .int (nv 41)), (8, .int (nv 42)), (9, .int (nv 38)), (10, .int (nv 12)), (11, .int (nv 25)), (12, .int (nI 1)), (13, .int (nI (mny j))), (14, .int ((NN (mny j) nv nq).1 41 - nv 41)), (15, .int ((NN (mny j) nv nq).1 42 - nv 42)), (16, .int ((NN (mny j) nv nq).1 38 - nv 38))] [] := by
  have hx := X.1
  have hb : c.code = cL_law := X.2.1
  intro H locs ls hW hS hl
  refine lv_iload hx hb dL_law_288 (lv_at hl 4 rfl) ?_
  refine lv_bipush (v := nI 16) hx hb dL_law_290 (by decide) ?_
  refine lv_irem hx hb dL_law_292 (by decide) ?_
  rw [pk_rem (a := j) (d := 16) (by omega) (by omega) (by omega)]
  refine lv_iconst (v := nI 4) hx hb dL_law_293 (by decide) ?_
  by_cases ck : j % 16 ≤ 4
  · skip
    refine lv_icmp_le (tgt := 323) hx hb dL_law_294 (by decide) (fun _ => ?_) (fun z => False.elim (by
      rw [nI_leI (by omega) (by omega)] at z
      omega))
    refine lv_iconst (v := (-1)) hx hb dL_law_323 (by decide) ?_
    refine lv_istore (lv' := [(17, .int (-1)), (0, .ref b), (1, .ref d.1), (2, .int (nI 1)), (3, .int (nI i)), (4, .int (nI j)), (5, .int (nI (j / 16))), (6, .int (nI hn)), (7, .int (nv 41)), (8, .int (nv 42)), (9, .int (nv 38)), (10, .int (nv 12)), (11, .int (nv 25)), (12, .int (nI 1)), (13, .int (nI (mny j))), (14, .int ((NN (mny j) nv nq).1 41 - nv 41)), (15, .int ((NN (mny j) nv nq).1 42 - nv 42)), (16, .int ((NN (mny j) nv nq).1 38 - nv 38))]) hx hb dL_law_324 hl (by decide) rfl (fun ls hl => ?_)
    exact kk H locs ls hW hS (lv_sub hl [1, 2, 3, 4, 5, 6, 7, 8, 9, 10, 11, 12, 13, 14, 15, 16, 17, 0] rfl)
  · skip
    refine lv_icmp_le (tgt := 323) hx hb dL_law_294 (by decide) (fun z => False.elim (by
      rw [nI_leI (by omega) (by omega)] at z
      omega)) (fun _ => ?_)
    refine lv_iload hx hb dL_law_297 (lv_at hl 4 rfl) ?_
    refine lv_bipush (v := nI 16) hx hb dL_law_299 (by decide) ?_
    refine lv_irem hx hb dL_law_301 (by decide) ?_
    rw [pk_rem (a := j) (d := 16) (by omega) (by omega) (by omega)]
    refine lv_bipush (v := nI 8) hx hb dL_law_302 (by decide) ?_
    refine lv_icmp_ge (tgt := 323) hx hb dL_law_304 (by decide) (fun _ => ?_) (fun z => False.elim (by
      rw [nI_leI (by omega) (by omega)] at z
      omega))
    refine lv_iconst (v := (-1)) hx hb dL_law_323 (by decide) ?_
    refine lv_istore (lv' := [(17, .int (-1)), (0, .ref b), (1, .ref d.1), (2, .int (nI 1)), (3, .int (nI i)), (4, .int (nI j)), (5, .int (nI (j / 16))), (6, .int (nI hn)), (7, .int (nv 41)), (8, .int (nv 42)), (9, .int (nv 38)), (10, .int (nv 12)), (11, .int (nv 25)), (12, .int (nI 1)), (13, .int (nI (mny j))), (14, .int ((NN (mny j) nv nq).1 41 - nv 41)), (15, .int ((NN (mny j) nv nq).1 42 - nv 42)), (16, .int ((NN (mny j) nv nq).1 38 - nv 38))]) hx hb dL_law_324 hl (by decide) rfl (fun ls hl => ?_)
    exact kk H locs ls hW hS (lv_sub hl [1, 2, 3, 4, 5, 6, 7, 8, 9, 10, 11, 12, 13, 14, 15, 16, 17, 0] rfl)
set_option maxHeartbeats 4000000 in
theorem lg_288a0 {p : Program} {l : Launch} {e : Env} {s : State} {m : MethodId} {below : List Frame} {meth : Method} {c : Code} {b L : Nat} {xs : Nat → Int32} {G : GG} {d : AD} {nv nq : Nat → Int32} {hn : Nat} {vs qs : Nat → Nat → Int32} {i j : Nat} (C0 : lw_At p s m meth c b L xs) (X : Cx p s m #[Value.ref b] meth c cL_law 19 wsB RL ret) (hK : KN G s) (hA : ∀ q : Nat, s.heap.size ≤ q → (A0 s) q) (hLn : L ≤ 260) (hj : j < 2147483648) (hk : ¬ (5 ≤ j % 16 ∧ j % 16 < 8)) (kk : KW p l e room_1 s m #[Value.ref b] below meth c 104 606 (lw_Z below #[Value.ref b] s) (A0 s) G d nv nq hn vs qs 19 326 [(0, .ref b), (1, .ref d.1), (2, .int (nI 1)), (3, .int (nI i)), (4, .int (nI j)), (5, .int (nI (j / 16))), (6, .int (nI hn)), (7, .int (nv 41)), (8, .int (nv 42)), (9, .int (nv 38)), (10, .int (nv 12)), (11, .int (nv 25)), (12, .int (nI 0)), (13, .int (nI (mny j))), (14, .int (nI 0)), (15, .int (nI 0)), (16, .int (nI 0)), (17, .int (-1))] []) : KW p l e room_1 s m #[Value.ref b] below meth c 104 606 (lw_Z below #[Value.ref b] s) (A0 s) G d nv nq hn vs qs 19 288 [(0, .ref b), (1, .ref d.1), (2, .int (nI 1)), (3, .int (nI i)), (4, .int (nI j)), (5, .int (nI (j / 16))), (6, .int (nI hn)), (7, .int (nv 41)), (8, .int (nv 42)), (9, .int (nv 38)), (10, .int (nv 12)), (11, .int (nv 25)), (12, .int (nI 0)), (13, .int (nI (mny j))), (14, .int (nI 0)), (15, .int (nI 0)), (16, .int (nI 0))] [] := by
  have hx := X.1
  have hb : c.code = cL_law := X.2.1
  intro H locs ls hW hS hl
  refine lv_iload hx hb dL_law_288 (lv_at hl 4 rfl) ?_
  refine lv_bipush (v := nI 16) hx hb dL_law_290 (by decide) ?_
  refine lv_irem hx hb dL_law_292 (by decide) ?_
  rw [pk_rem (a := j) (d := 16) (by omega) (by omega) (by omega)]
  refine lv_iconst (v := nI 4) hx hb dL_law_293 (by decide) ?_
  by_cases ck : j % 16 ≤ 4
  · skip
    refine lv_icmp_le (tgt := 323) hx hb dL_law_294 (by decide) (fun _ => ?_) (fun z => False.elim (by
      rw [nI_leI (by omega) (by omega)] at z
      omega))
    refine lv_iconst (v := (-1)) hx hb dL_law_323 (by decide) ?_
    refine lv_istore (lv' := [(17, .int (-1)), (0, .ref b), (1, .ref d.1), (2, .int (nI 1)), (3, .int (nI i)), (4, .int (nI j)), (5, .int (nI (j / 16))), (6, .int (nI hn)), (7, .int (nv 41)), (8, .int (nv 42)), (9, .int (nv 38)), (10, .int (nv 12)), (11, .int (nv 25)), (12, .int (nI 0)), (13, .int (nI (mny j))), (14, .int (nI 0)), (15, .int (nI 0)), (16, .int (nI 0))]) hx hb dL_law_324 hl (by decide) rfl (fun ls hl => ?_)
    exact kk H locs ls hW hS (lv_sub hl [1, 2, 3, 4, 5, 6, 7, 8, 9, 10, 11, 12, 13, 14, 15, 16, 17, 0] rfl)
  · skip
    refine lv_icmp_le (tgt := 323) hx hb dL_law_294 (by decide) (fun z => False.elim (by
      rw [nI_leI (by omega) (by omega)] at z
      omega)) (fun _ => ?_)
    refine lv_iload hx hb dL_law_297 (lv_at hl 4 rfl) ?_
    refine lv_bipush (v := nI 16) hx hb dL_law_299 (by decide) ?_
    refine lv_irem hx hb dL_law_301 (by decide) ?_
    rw [pk_rem (a := j) (d := 16) (by omega) (by omega) (by omega)]
    refine lv_bipush (v := nI 8) hx hb dL_law_302 (by decide) ?_
    refine lv_icmp_ge (tgt := 323) hx hb dL_law_304 (by decide) (fun _ => ?_) (fun z => False.elim (by
      rw [nI_leI (by omega) (by omega)] at z
      omega))
    refine lv_iconst (v := (-1)) hx hb dL_law_323 (by decide) ?_
    refine lv_istore (lv' := [(17, .int (-1)), (0, .ref b), (1, .ref d.1), (2, .int (nI 1)), (3, .int (nI i)), (4, .int (nI j)), (5, .int (nI (j / 16))), (6, .int (nI hn)), (7, .int (nv 41)), (8, .int (nv 42)), (9, .int (nv 38)), (10, .int (nv 12)), (11, .int (nv 25)), (12, .int (nI 0)), (13, .int (nI (mny j))), (14, .int (nI 0)), (15, .int (nI 0)), (16, .int (nI 0))]) hx hb dL_law_324 hl (by decide) rfl (fun ls hl => ?_)
    exact kk H locs ls hW hS (lv_sub hl [1, 2, 3, 4, 5, 6, 7, 8, 9, 10, 11, 12, 13, 14, 15, 16, 17, 0] rfl)
set_option maxHeartbeats 4000000 in
theorem lg_288b {p : Program} {l : Launch} {e : Env} {s : State} {m : MethodId} {below : List Frame} {meth : Method} {c : Code} {b L : Nat} {xs : Nat → Int32} {G : GG} {d : AD} {nv nq : Nat → Int32} {hn : Nat} {vs qs : Nat → Nat → Int32} {i j : Nat} {t : Int} (C0 : lw_At p s m meth c b L xs) (X : Cx p s m #[Value.ref b] meth c cL_law 19 wsB RL ret) (hK : KN G s) (hA : ∀ q : Nat, s.heap.size ≤ q → (A0 s) q) (hLn : L ≤ 260) (hI : Iv t nv) (hj : j < 2147483648) (hk : 5 ≤ j % 16 ∧ j % 16 < 8) (kk : KW p l e room_1 s m #[Value.ref b] below meth c 104 606 (lw_Z below #[Value.ref b] s) (A0 s) G d nv nq hn vs qs 19 326 [(0, .ref b), (1, .ref d.1), (2, .int (nI 1)), (3, .int (nI i)), (4, .int (nI j)), (5, .int (nI (j / 16))), (6, .int (nI hn)), (7, .int (nv 41)), (8, .int (nv 42)), (9, .int (nv 38)), (10, .int (nv 12)), (11, .int (nv 25)), (12, .int (nI 0)), (13, .int (nI (mny j))), (14, .int (nI 0)), (15, .int (nI 0)), (16, .int (nI 0)), (17, .int (-1))] []) (k1 : ¬ nv (13 + j / 16 % 4) = -5 → KW p l e room_1 s m #[Value.ref b] below meth c 104 606 (lw_Z below #[Value.ref b] s) (A0 s) G d nv nq hn vs qs 19 326 [(0, .ref b), (1, .ref d.1), (2, .int (nI 1)), (3, .int (nI i)), (4, .int (nI j)), (5, .int (nI (j / 16))), (6, .int (nI hn)), (7, .int (nv 41)), (8, .int (nv 42)), (9, .int (nv 38)), (10, .int (nv 12)), (11, .int (nv 25)), (12, .int (nI 0)), (13, .int (nI (mny j))), (14, .int (nI 0)), (15, .int (nI 0)), (16, .int (nI 0)), (17, .int (nI 1))] []) : KW p l e room_1 s m #[Value.ref b] below meth c 104 606 (lw_Z below #[Value.ref b] s) (A0 s) G d nv nq hn vs qs 19 288 [(0, .ref b), (1, .ref d.1), (2, .int (nI 1)), (3, .int (nI i)), (4, .int (nI j)), (5, .int (nI (j / 16))), (6, .int (nI hn)), (7, .int (nv 41)), (8, .int (nv 42)), (9, .int (nv 38)), (10, .int (nv 12)), (11, .int (nv 25)), (12, .int (nI 0)), (13, .int (nI (mny j))), (14, .int (nI 0)), (15, .int (nI 0)), (16, .int (nI 0))] [] := by
  have hx := X.1
  have hb : c.code = cL_law := X.2.1
  intro H locs ls hW hS hl
  refine lv_iload hx hb dL_law_288 (lv_at hl 4 rfl) ?_
  refine lv_bipush (v := nI 16) hx hb dL_law_290 (by decide) ?_
  refine lv_irem hx hb dL_law_292 (by decide) ?_
  rw [pk_rem (a := j) (d := 16) (by omega) (by omega) (by omega)]
  refine lv_iconst (v := nI 4) hx hb dL_law_293 (by decide) ?_
  refine lv_icmp_le (tgt := 323) hx hb dL_law_294 (by decide) (fun z => False.elim (by
      rw [nI_leI (by omega) (by omega)] at z
      omega)) (fun _ => ?_)
  refine lv_iload hx hb dL_law_297 (lv_at hl 4 rfl) ?_
  refine lv_bipush (v := nI 16) hx hb dL_law_299 (by decide) ?_
  refine lv_irem hx hb dL_law_301 (by decide) ?_
  rw [pk_rem (a := j) (d := 16) (by omega) (by omega) (by omega)]
  refine lv_bipush (v := nI 8) hx hb dL_law_302 (by decide) ?_
  refine lv_icmp_ge (tgt := 323) hx hb dL_law_304 (by decide) (fun z => False.elim (by
      rw [nI_leI (by omega) (by omega)] at z
      omega)) (fun _ => ?_)
  refine lv_aload_n hx hb dL_law_307 rfl (lv_at hl 1 rfl) ?_
  refine lv_iload hx hb dL_law_308 (lv_at hl 5 rfl) ?_
  refine lv_iconst (v := nI 4) hx hb dL_law_310 (by decide) ?_
  refine lv_irem hx hb dL_law_311 (by decide) ?_
  rw [pk_rem (a := (j / 16)) (d := 4) (by omega) (by omega) (by omega)]
  refine lv_iconst (v := nI 0) hx hb dL_law_312 (by decide) ?_
  refine k_machine (rest := []) X hK hA hW hS hl.1 (Nat.le_of_ble_eq_true rfl) ⟨Nat.le_of_ble_eq_true rfl, Nat.le_of_ble_eq_true rfl⟩ ⟨Nat.le_of_ble_eq_true rfl, Nat.le_of_ble_eq_true rfl⟩ dL_law_313 (fun H locs hW hS => ?_)
  rw [mach0 (i := j / 16 % 4) (by omega)]
  by_cases ck : nv (13 + j / 16 % 4) = -5
  · skip
    refine lv_if_lt (tgt := 323) hx hb dL_law_316 (by decide) (fun _ => ?_) (fun z => False.elim (by
      rw [ck] at z
      exact z (by decide)))
    refine lv_iconst (v := (-1)) hx hb dL_law_323 (by decide) ?_
    refine lv_istore (lv' := [(17, .int (-1)), (0, .ref b), (1, .ref d.1), (2, .int (nI 1)), (3, .int (nI i)), (4, .int (nI j)), (5, .int (nI (j / 16))), (6, .int (nI hn)), (7, .int (nv 41)), (8, .int (nv 42)), (9, .int (nv 38)), (10, .int (nv 12)), (11, .int (nv 25)), (12, .int (nI 0)), (13, .int (nI (mny j))), (14, .int (nI 0)), (15, .int (nI 0)), (16, .int (nI 0))]) hx hb dL_law_324 hl (by decide) rfl (fun ls hl => ?_)
    exact kk H locs ls hW hS (lv_sub hl [1, 2, 3, 4, 5, 6, 7, 8, 9, 10, 11, 12, 13, 14, 15, 16, 17, 0] rfl)
  · have hk3 := (hI.2.1.at (i := j / 16 % 4) (by omega)).k3 ck
    refine lv_if_lt (tgt := 323) hx hb dL_law_316 (by decide) (fun z => False.elim (K3_0 hk3 z)) (fun _ => ?_)
    refine lv_iconst (v := nI 1) hx hb dL_law_319 (by decide) ?_
    refine lv_goto (tgt := 324) hx hb dL_law_320 (by decide) ?_
    refine lv_istore (lv' := [(17, .int (nI 1)), (0, .ref b), (1, .ref d.1), (2, .int (nI 1)), (3, .int (nI i)), (4, .int (nI j)), (5, .int (nI (j / 16))), (6, .int (nI hn)), (7, .int (nv 41)), (8, .int (nv 42)), (9, .int (nv 38)), (10, .int (nv 12)), (11, .int (nv 25)), (12, .int (nI 0)), (13, .int (nI (mny j))), (14, .int (nI 0)), (15, .int (nI 0)), (16, .int (nI 0))]) hx hb dL_law_324 hl (by decide) rfl (fun ls hl => ?_)
    exact k1 ck H locs ls hW hS (lv_sub hl [1, 2, 3, 4, 5, 6, 7, 8, 9, 10, 11, 12, 13, 14, 15, 16, 17, 0] rfl)
set_option maxHeartbeats 4000000 in
theorem lg_326r {p : Program} {l : Launch} {e : Env} {s : State} {m : MethodId} {below : List Frame} {meth : Method} {c : Code} {b L : Nat} {xs : Nat → Int32} {G : GG} {d : AD} {nv nq : Nat → Int32} {hn : Nat} {vs qs : Nat → Nat → Int32} {i j : Nat} {t : Int} (C0 : lw_At p s m meth c b L xs) (X : Cx p s m #[Value.ref b] meth c cL_law 19 wsB RL ret) (hK : KN G s) (hA : ∀ q : Nat, s.heap.size ≤ q → (A0 s) q) (hLn : L ≤ 260) (hI : Iv t nv) (hL : Li nv nq) (h4 : hn ≤ 4) (hj : j < 2147483648) (ht : t ≤ 90000) (kk : ∀ (r : Int32) (nv' nq' : Nat → Int32) (hn' : Nat) (vs' qs' : Nat → Nat → Int32), AP j t nv nq hn r nv' nq' hn' → KW p l e room_1 s m #[Value.ref b] below meth c 104 606 (lw_Z below #[Value.ref b] s) (A0 s) G d nv' nq' hn' vs' qs' 19 334 [(0, .ref b), (1, .ref d.1), (2, .int (nI 1)), (3, .int (nI i)), (4, .int (nI j)), (5, .int (nI (j / 16))), (6, .int (nI hn)), (7, .int (nv 41)), (8, .int (nv 42)), (9, .int (nv 38)), (10, .int (nv 12)), (11, .int (nv 25)), (12, .int (nI 1)), (13, .int (nI (mny j))), (14, .int ((NN (mny j) nv nq).1 41 - nv 41)), (15, .int ((NN (mny j) nv nq).1 42 - nv 42)), (16, .int ((NN (mny j) nv nq).1 38 - nv 38)), (17, .int (-1)), (18, .int r)] []) : KW p l e room_1 s m #[Value.ref b] below meth c 104 606 (lw_Z below #[Value.ref b] s) (A0 s) G d nv nq hn vs qs 19 326 [(0, .ref b), (1, .ref d.1), (2, .int (nI 1)), (3, .int (nI i)), (4, .int (nI j)), (5, .int (nI (j / 16))), (6, .int (nI hn)), (7, .int (nv 41)), (8, .int (nv 42)), (9, .int (nv 38)), (10, .int (nv 12)), (11, .int (nv 25)), (12, .int (nI 1)), (13, .int (nI (mny j))), (14, .int ((NN (mny j) nv nq).1 41 - nv 41)), (15, .int ((NN (mny j) nv nq).1 42 - nv 42)), (16, .int ((NN (mny j) nv nq).1 38 - nv 38)), (17, .int (-1))] [] := by
  have hx := X.1
  have hb : c.code = cL_law := X.2.1
  intro H locs ls hW hS hl
  refine lv_aload_n hx hb dL_law_326 rfl (lv_at hl 1 rfl) ?_
  refine lv_iload hx hb dL_law_327 (lv_at hl 4 rfl) ?_
  refine k_acts (rest := []) C0 X hK hA hj h4 hI hL ht hW hS hl.1 (Nat.le_of_ble_eq_true rfl) dL_law_329 (fun r nv' nq' hn' vs' qs' H locs hap hW hS => ?_)
  refine lv_istore (lv' := [(18, .int r), (0, .ref b), (1, .ref d.1), (2, .int (nI 1)), (3, .int (nI i)), (4, .int (nI j)), (5, .int (nI (j / 16))), (6, .int (nI hn)), (7, .int (nv 41)), (8, .int (nv 42)), (9, .int (nv 38)), (10, .int (nv 12)), (11, .int (nv 25)), (12, .int (nI 1)), (13, .int (nI (mny j))), (14, .int ((NN (mny j) nv nq).1 41 - nv 41)), (15, .int ((NN (mny j) nv nq).1 42 - nv 42)), (16, .int ((NN (mny j) nv nq).1 38 - nv 38)), (17, .int (-1))]) hx hb dL_law_332 hl (by decide) rfl (fun ls hl => ?_)
  exact kk r nv' nq' hn' vs' qs' hap H locs ls hW hS (lv_sub hl [1, 2, 3, 4, 5, 6, 7, 8, 9, 10, 11, 12, 13, 14, 15, 16, 17, 18, 0] rfl)
set_option maxHeartbeats 4000000 in
theorem lg_326n {p : Program} {l : Launch} {e : Env} {s : State} {m : MethodId} {below : List Frame} {meth : Method} {c : Code} {b L : Nat} {xs : Nat → Int32} {G : GG} {d : AD} {nv nq : Nat → Int32} {hn : Nat} {vs qs : Nat → Nat → Int32} {i j : Nat} {t : Int} (C0 : lw_At p s m meth c b L xs) (X : Cx p s m #[Value.ref b] meth c cL_law 19 wsB RL ret) (hK : KN G s) (hA : ∀ q : Nat, s.heap.size ≤ q → (A0 s) q) (hLn : L ≤ 260) (hI : Iv t nv) (hL : Li nv nq) (h4 : hn ≤ 4) (hj : j < 2147483648) (ht : t ≤ 90000) (kk : ∀ (r : Int32) (nv' nq' : Nat → Int32) (hn' : Nat) (vs' qs' : Nat → Nat → Int32), AP j t nv nq hn r nv' nq' hn' → KW p l e room_1 s m #[Value.ref b] below meth c 104 606 (lw_Z below #[Value.ref b] s) (A0 s) G d nv' nq' hn' vs' qs' 19 334 [(0, .ref b), (1, .ref d.1), (2, .int (nI 1)), (3, .int (nI i)), (4, .int (nI j)), (5, .int (nI (j / 16))), (6, .int (nI hn)), (7, .int (nv 41)), (8, .int (nv 42)), (9, .int (nv 38)), (10, .int (nv 12)), (11, .int (nv 25)), (12, .int (nI 0)), (13, .int (nI (mny j))), (14, .int (nI 0)), (15, .int (nI 0)), (16, .int (nI 0)), (17, .int (-1)), (18, .int r)] []) : KW p l e room_1 s m #[Value.ref b] below meth c 104 606 (lw_Z below #[Value.ref b] s) (A0 s) G d nv nq hn vs qs 19 326 [(0, .ref b), (1, .ref d.1), (2, .int (nI 1)), (3, .int (nI i)), (4, .int (nI j)), (5, .int (nI (j / 16))), (6, .int (nI hn)), (7, .int (nv 41)), (8, .int (nv 42)), (9, .int (nv 38)), (10, .int (nv 12)), (11, .int (nv 25)), (12, .int (nI 0)), (13, .int (nI (mny j))), (14, .int (nI 0)), (15, .int (nI 0)), (16, .int (nI 0)), (17, .int (-1))] [] := by
  have hx := X.1
  have hb : c.code = cL_law := X.2.1
  intro H locs ls hW hS hl
  refine lv_aload_n hx hb dL_law_326 rfl (lv_at hl 1 rfl) ?_
  refine lv_iload hx hb dL_law_327 (lv_at hl 4 rfl) ?_
  refine k_acts (rest := []) C0 X hK hA hj h4 hI hL ht hW hS hl.1 (Nat.le_of_ble_eq_true rfl) dL_law_329 (fun r nv' nq' hn' vs' qs' H locs hap hW hS => ?_)
  refine lv_istore (lv' := [(18, .int r), (0, .ref b), (1, .ref d.1), (2, .int (nI 1)), (3, .int (nI i)), (4, .int (nI j)), (5, .int (nI (j / 16))), (6, .int (nI hn)), (7, .int (nv 41)), (8, .int (nv 42)), (9, .int (nv 38)), (10, .int (nv 12)), (11, .int (nv 25)), (12, .int (nI 0)), (13, .int (nI (mny j))), (14, .int (nI 0)), (15, .int (nI 0)), (16, .int (nI 0)), (17, .int (-1))]) hx hb dL_law_332 hl (by decide) rfl (fun ls hl => ?_)
  exact kk r nv' nq' hn' vs' qs' hap H locs ls hW hS (lv_sub hl [1, 2, 3, 4, 5, 6, 7, 8, 9, 10, 11, 12, 13, 14, 15, 16, 17, 18, 0] rfl)
set_option maxHeartbeats 4000000 in
theorem lg_326s {p : Program} {l : Launch} {e : Env} {s : State} {m : MethodId} {below : List Frame} {meth : Method} {c : Code} {b L : Nat} {xs : Nat → Int32} {G : GG} {d : AD} {nv nq : Nat → Int32} {hn : Nat} {vs qs : Nat → Nat → Int32} {i j : Nat} {t : Int} (C0 : lw_At p s m meth c b L xs) (X : Cx p s m #[Value.ref b] meth c cL_law 19 wsB RL ret) (hK : KN G s) (hA : ∀ q : Nat, s.heap.size ≤ q → (A0 s) q) (hLn : L ≤ 260) (hI : Iv t nv) (hL : Li nv nq) (h4 : hn ≤ 4) (hj : j < 2147483648) (ht : t ≤ 90000) (kk : ∀ (r : Int32) (nv' nq' : Nat → Int32) (hn' : Nat) (vs' qs' : Nat → Nat → Int32), AP j t nv nq hn r nv' nq' hn' → KW p l e room_1 s m #[Value.ref b] below meth c 104 606 (lw_Z below #[Value.ref b] s) (A0 s) G d nv' nq' hn' vs' qs' 19 334 [(0, .ref b), (1, .ref d.1), (2, .int (nI 1)), (3, .int (nI i)), (4, .int (nI j)), (5, .int (nI (j / 16))), (6, .int (nI hn)), (7, .int (nv 41)), (8, .int (nv 42)), (9, .int (nv 38)), (10, .int (nv 12)), (11, .int (nv 25)), (12, .int (nI 0)), (13, .int (nI (mny j))), (14, .int (nI 0)), (15, .int (nI 0)), (16, .int (nI 0)), (17, .int (nI 1)), (18, .int r)] []) : KW p l e room_1 s m #[Value.ref b] below meth c 104 606 (lw_Z below #[Value.ref b] s) (A0 s) G d nv nq hn vs qs 19 326 [(0, .ref b), (1, .ref d.1), (2, .int (nI 1)), (3, .int (nI i)), (4, .int (nI j)), (5, .int (nI (j / 16))), (6, .int (nI hn)), (7, .int (nv 41)), (8, .int (nv 42)), (9, .int (nv 38)), (10, .int (nv 12)), (11, .int (nv 25)), (12, .int (nI 0)), (13, .int (nI (mny j))), (14, .int (nI 0)), (15, .int (nI 0)), (16, .int (nI 0)), (17, .int (nI 1))] [] := by
  have hx := X.1
  have hb : c.code = cL_law := X.2.1
  intro H locs ls hW hS hl
  refine lv_aload_n hx hb dL_law_326 rfl (lv_at hl 1 rfl) ?_
  refine lv_iload hx hb dL_law_327 (lv_at hl 4 rfl) ?_
  refine k_acts (rest := []) C0 X hK hA hj h4 hI hL ht hW hS hl.1 (Nat.le_of_ble_eq_true rfl) dL_law_329 (fun r nv' nq' hn' vs' qs' H locs hap hW hS => ?_)
  refine lv_istore (lv' := [(18, .int r), (0, .ref b), (1, .ref d.1), (2, .int (nI 1)), (3, .int (nI i)), (4, .int (nI j)), (5, .int (nI (j / 16))), (6, .int (nI hn)), (7, .int (nv 41)), (8, .int (nv 42)), (9, .int (nv 38)), (10, .int (nv 12)), (11, .int (nv 25)), (12, .int (nI 0)), (13, .int (nI (mny j))), (14, .int (nI 0)), (15, .int (nI 0)), (16, .int (nI 0)), (17, .int (nI 1))]) hx hb dL_law_332 hl (by decide) rfl (fun ls hl => ?_)
  exact kk r nv' nq' hn' vs' qs' hap H locs ls hW hS (lv_sub hl [1, 2, 3, 4, 5, 6, 7, 8, 9, 10, 11, 12, 13, 14, 15, 16, 17, 18, 0] rfl)
set_option maxHeartbeats 4000000 in
theorem lg_334pr {p : Program} {l : Launch} {e : Env} {s : State} {m : MethodId} {below : List Frame} {meth : Method} {c : Code} {b L : Nat} {xs : Nat → Int32} {G : GG} {d : AD} {nv nq : Nat → Int32} {hn : Nat} {vs qs : Nat → Nat → Int32} {i j : Nat} {nv' nq' : Nat → Int32} {hn' : Nat} {vs' qs' : Nat → Nat → Int32} {r : Int32} (C0 : lw_At p s m meth c b L xs) (X : Cx p s m #[Value.ref b] meth c cL_law 19 wsB RL ret) (hK : KN G s) (hA : ∀ q : Nat, s.heap.size ≤ q → (A0 s) q) (hLn : L ≤ 260) (h4 : hn ≤ 4) (hr : ¬ r < 0) (hh : hn' = (if hn = 4 then 4 else hn + 1)) (kk : KW p l e room_1 s m #[Value.ref b] below meth c 104 606 (lw_Z below #[Value.ref b] s) (A0 s) G d nv' nq' hn' vs' qs' 19 408 [(0, .ref b), (1, .ref d.1), (2, .int (nI 1)), (3, .int (nI i)), (4, .int (nI j)), (5, .int (nI (j / 16))), (6, .int (nI hn)), (7, .int (nv 41)), (8, .int (nv 42)), (9, .int (nv 38)), (10, .int (nv 12)), (11, .int (nv 25)), (12, .int (nI 1)), (13, .int (nI (mny j))), (14, .int ((NN (mny j) nv nq).1 41 - nv 41)), (15, .int ((NN (mny j) nv nq).1 42 - nv 42)), (16, .int ((NN (mny j) nv nq).1 38 - nv 38)), (17, .int (-1)), (18, .int r)] []) : KW p l e room_1 s m #[Value.ref b] below meth c 104 606 (lw_Z below #[Value.ref b] s) (A0 s) G d nv' nq' hn' vs' qs' 19 334 [(0, .ref b), (1, .ref d.1), (2, .int (nI 1)), (3, .int (nI i)), (4, .int (nI j)), (5, .int (nI (j / 16))), (6, .int (nI hn)), (7, .int (nv 41)), (8, .int (nv 42)), (9, .int (nv 38)), (10, .int (nv 12)), (11, .int (nv 25)), (12, .int (nI 1)), (13, .int (nI (mny j))), (14, .int ((NN (mny j) nv nq).1 41 - nv 41)), (15, .int ((NN (mny j) nv nq).1 42 - nv 42)), (16, .int ((NN (mny j) nv nq).1 38 - nv 38)), (17, .int (-1)), (18, .int r)] [] := by
  have hx := X.1
  have hb : c.code = cL_law := X.2.1
  intro H locs ls hW hS hl
  refine lv_iload hx hb dL_law_334 (lv_at hl 18 rfl) ?_
  refine lv_if_lt (tgt := 370) hx hb dL_law_336 (by decide) (fun z => False.elim (hr z)) (fun _ => ?_)
  refine lv_aload_n hx hb dL_law_339 rfl (lv_at hl 1 rfl) ?_
  refine lv_bipush (v := nI 14) hx hb dL_law_340 (by decide) ?_
  refine k_count (rest := []) X hK hA hW hS hl.1 (Nat.le_of_ble_eq_true rfl) ⟨Nat.le_of_ble_eq_true rfl, Nat.le_of_ble_eq_true rfl⟩ ⟨Nat.le_of_ble_eq_true rfl, Nat.le_of_ble_eq_true rfl⟩ dL_law_342 (fun H locs hW hS => ?_)
  rw [cnt14]
  by_cases ck : hn = 4
  · have e4 : hn' = 4 := by rw [hh, if_pos ck]
    refine lv_iload hx hb dL_law_345 (lv_at hl 6 rfl) ?_
    refine lv_iconst (v := nI 4) hx hb dL_law_347 (by decide) ?_
    refine lv_icmp_ne (tgt := 355) hx hb dL_law_348 (by decide) (fun z => False.elim (z (by rw [ck]))) (fun _ => ?_)
    refine lv_iconst (v := nI 4) hx hb dL_law_351 (by decide) ?_
    refine lv_goto (tgt := 359) hx hb dL_law_352 (by decide) ?_
    refine lv_icmp_ne (tgt := 366) hx hb dL_law_359 (by decide) (fun z => False.elim (z (by rw [e4]))) (fun _ => ?_)
    refine lv_iconst (v := nI 1) hx hb dL_law_362 (by decide) ?_
    refine lv_goto (tgt := 407) hx hb dL_law_363 (by decide) ?_
    refine lv_istore_n (lv' := [(2, .int (nI 1)), (0, .ref b), (1, .ref d.1), (3, .int (nI i)), (4, .int (nI j)), (5, .int (nI (j / 16))), (6, .int (nI hn)), (7, .int (nv 41)), (8, .int (nv 42)), (9, .int (nv 38)), (10, .int (nv 12)), (11, .int (nv 25)), (12, .int (nI 1)), (13, .int (nI (mny j))), (14, .int ((NN (mny j) nv nq).1 41 - nv 41)), (15, .int ((NN (mny j) nv nq).1 42 - nv 42)), (16, .int ((NN (mny j) nv nq).1 38 - nv 38)), (17, .int (-1)), (18, .int r)]) hx hb dL_law_407 rfl hl (by decide) rfl (fun ls hl => ?_)
    exact kk H locs ls hW hS (lv_sub hl [1, 2, 0, 3, 4, 5, 6, 7, 8, 9, 10, 11, 12, 13, 14, 15, 16, 17, 18] rfl)
  · have e4 : hn' = hn + 1 := by rw [hh, if_neg ck]
    refine lv_iload hx hb dL_law_345 (lv_at hl 6 rfl) ?_
    refine lv_iconst (v := nI 4) hx hb dL_law_347 (by decide) ?_
    refine lv_icmp_ne (tgt := 355) hx hb dL_law_348 (by decide) (fun _ => ?_) (fun z => False.elim (ck ((nI_eq (by omega) (by omega)).mp z)))
    refine lv_iload hx hb dL_law_355 (lv_at hl 6 rfl) ?_
    refine lv_iconst (v := nI 1) hx hb dL_law_357 (by decide) ?_
    refine lv_iadd hx hb dL_law_358 ?_
    refine lv_icmp_ne (tgt := 366) hx hb dL_law_359 (by decide) (fun z => False.elim (z (by rw [e4, nI_add]))) (fun _ => ?_)
    refine lv_iconst (v := nI 1) hx hb dL_law_362 (by decide) ?_
    refine lv_goto (tgt := 407) hx hb dL_law_363 (by decide) ?_
    refine lv_istore_n (lv' := [(2, .int (nI 1)), (0, .ref b), (1, .ref d.1), (3, .int (nI i)), (4, .int (nI j)), (5, .int (nI (j / 16))), (6, .int (nI hn)), (7, .int (nv 41)), (8, .int (nv 42)), (9, .int (nv 38)), (10, .int (nv 12)), (11, .int (nv 25)), (12, .int (nI 1)), (13, .int (nI (mny j))), (14, .int ((NN (mny j) nv nq).1 41 - nv 41)), (15, .int ((NN (mny j) nv nq).1 42 - nv 42)), (16, .int ((NN (mny j) nv nq).1 38 - nv 38)), (17, .int (-1)), (18, .int r)]) hx hb dL_law_407 rfl hl (by decide) rfl (fun ls hl => ?_)
    exact kk H locs ls hW hS (lv_sub hl [1, 2, 0, 3, 4, 5, 6, 7, 8, 9, 10, 11, 12, 13, 14, 15, 16, 17, 18] rfl)
set_option maxHeartbeats 4000000 in
theorem lg_334pn {p : Program} {l : Launch} {e : Env} {s : State} {m : MethodId} {below : List Frame} {meth : Method} {c : Code} {b L : Nat} {xs : Nat → Int32} {G : GG} {d : AD} {nv nq : Nat → Int32} {hn : Nat} {vs qs : Nat → Nat → Int32} {i j : Nat} {nv' nq' : Nat → Int32} {hn' : Nat} {vs' qs' : Nat → Nat → Int32} {r : Int32} (C0 : lw_At p s m meth c b L xs) (X : Cx p s m #[Value.ref b] meth c cL_law 19 wsB RL ret) (hK : KN G s) (hA : ∀ q : Nat, s.heap.size ≤ q → (A0 s) q) (hLn : L ≤ 260) (h4 : hn ≤ 4) (hr : ¬ r < 0) (hh : hn' = (if hn = 4 then 4 else hn + 1)) (kk : KW p l e room_1 s m #[Value.ref b] below meth c 104 606 (lw_Z below #[Value.ref b] s) (A0 s) G d nv' nq' hn' vs' qs' 19 408 [(0, .ref b), (1, .ref d.1), (2, .int (nI 1)), (3, .int (nI i)), (4, .int (nI j)), (5, .int (nI (j / 16))), (6, .int (nI hn)), (7, .int (nv 41)), (8, .int (nv 42)), (9, .int (nv 38)), (10, .int (nv 12)), (11, .int (nv 25)), (12, .int (nI 0)), (13, .int (nI (mny j))), (14, .int (nI 0)), (15, .int (nI 0)), (16, .int (nI 0)), (17, .int (-1)), (18, .int r)] []) : KW p l e room_1 s m #[Value.ref b] below meth c 104 606 (lw_Z below #[Value.ref b] s) (A0 s) G d nv' nq' hn' vs' qs' 19 334 [(0, .ref b), (1, .ref d.1), (2, .int (nI 1)), (3, .int (nI i)), (4, .int (nI j)), (5, .int (nI (j / 16))), (6, .int (nI hn)), (7, .int (nv 41)), (8, .int (nv 42)), (9, .int (nv 38)), (10, .int (nv 12)), (11, .int (nv 25)), (12, .int (nI 0)), (13, .int (nI (mny j))), (14, .int (nI 0)), (15, .int (nI 0)), (16, .int (nI 0)), (17, .int (-1)), (18, .int r)] [] := by
  have hx := X.1
  have hb : c.code = cL_law := X.2.1
  intro H locs ls hW hS hl
  refine lv_iload hx hb dL_law_334 (lv_at hl 18 rfl) ?_
  refine lv_if_lt (tgt := 370) hx hb dL_law_336 (by decide) (fun z => False.elim (hr z)) (fun _ => ?_)
  refine lv_aload_n hx hb dL_law_339 rfl (lv_at hl 1 rfl) ?_
  refine lv_bipush (v := nI 14) hx hb dL_law_340 (by decide) ?_
  refine k_count (rest := []) X hK hA hW hS hl.1 (Nat.le_of_ble_eq_true rfl) ⟨Nat.le_of_ble_eq_true rfl, Nat.le_of_ble_eq_true rfl⟩ ⟨Nat.le_of_ble_eq_true rfl, Nat.le_of_ble_eq_true rfl⟩ dL_law_342 (fun H locs hW hS => ?_)
  rw [cnt14]
  by_cases ck : hn = 4
  · have e4 : hn' = 4 := by rw [hh, if_pos ck]
    refine lv_iload hx hb dL_law_345 (lv_at hl 6 rfl) ?_
    refine lv_iconst (v := nI 4) hx hb dL_law_347 (by decide) ?_
    refine lv_icmp_ne (tgt := 355) hx hb dL_law_348 (by decide) (fun z => False.elim (z (by rw [ck]))) (fun _ => ?_)
    refine lv_iconst (v := nI 4) hx hb dL_law_351 (by decide) ?_
    refine lv_goto (tgt := 359) hx hb dL_law_352 (by decide) ?_
    refine lv_icmp_ne (tgt := 366) hx hb dL_law_359 (by decide) (fun z => False.elim (z (by rw [e4]))) (fun _ => ?_)
    refine lv_iconst (v := nI 1) hx hb dL_law_362 (by decide) ?_
    refine lv_goto (tgt := 407) hx hb dL_law_363 (by decide) ?_
    refine lv_istore_n (lv' := [(2, .int (nI 1)), (0, .ref b), (1, .ref d.1), (3, .int (nI i)), (4, .int (nI j)), (5, .int (nI (j / 16))), (6, .int (nI hn)), (7, .int (nv 41)), (8, .int (nv 42)), (9, .int (nv 38)), (10, .int (nv 12)), (11, .int (nv 25)), (12, .int (nI 0)), (13, .int (nI (mny j))), (14, .int (nI 0)), (15, .int (nI 0)), (16, .int (nI 0)), (17, .int (-1)), (18, .int r)]) hx hb dL_law_407 rfl hl (by decide) rfl (fun ls hl => ?_)
    exact kk H locs ls hW hS (lv_sub hl [1, 2, 0, 3, 4, 5, 6, 7, 8, 9, 10, 11, 12, 13, 14, 15, 16, 17, 18] rfl)
  · have e4 : hn' = hn + 1 := by rw [hh, if_neg ck]
    refine lv_iload hx hb dL_law_345 (lv_at hl 6 rfl) ?_
    refine lv_iconst (v := nI 4) hx hb dL_law_347 (by decide) ?_
    refine lv_icmp_ne (tgt := 355) hx hb dL_law_348 (by decide) (fun _ => ?_) (fun z => False.elim (ck ((nI_eq (by omega) (by omega)).mp z)))
    refine lv_iload hx hb dL_law_355 (lv_at hl 6 rfl) ?_
    refine lv_iconst (v := nI 1) hx hb dL_law_357 (by decide) ?_
    refine lv_iadd hx hb dL_law_358 ?_
    refine lv_icmp_ne (tgt := 366) hx hb dL_law_359 (by decide) (fun z => False.elim (z (by rw [e4, nI_add]))) (fun _ => ?_)
    refine lv_iconst (v := nI 1) hx hb dL_law_362 (by decide) ?_
    refine lv_goto (tgt := 407) hx hb dL_law_363 (by decide) ?_
    refine lv_istore_n (lv' := [(2, .int (nI 1)), (0, .ref b), (1, .ref d.1), (3, .int (nI i)), (4, .int (nI j)), (5, .int (nI (j / 16))), (6, .int (nI hn)), (7, .int (nv 41)), (8, .int (nv 42)), (9, .int (nv 38)), (10, .int (nv 12)), (11, .int (nv 25)), (12, .int (nI 0)), (13, .int (nI (mny j))), (14, .int (nI 0)), (15, .int (nI 0)), (16, .int (nI 0)), (17, .int (-1)), (18, .int r)]) hx hb dL_law_407 rfl hl (by decide) rfl (fun ls hl => ?_)
    exact kk H locs ls hW hS (lv_sub hl [1, 2, 0, 3, 4, 5, 6, 7, 8, 9, 10, 11, 12, 13, 14, 15, 16, 17, 18] rfl)
set_option maxHeartbeats 4000000 in
theorem lg_334mn {p : Program} {l : Launch} {e : Env} {s : State} {m : MethodId} {below : List Frame} {meth : Method} {c : Code} {b L : Nat} {xs : Nat → Int32} {G : GG} {d : AD} {nv nq : Nat → Int32} {hn : Nat} {vs qs : Nat → Nat → Int32} {i j : Nat} {nv' nq' : Nat → Int32} {hn' : Nat} {vs' qs' : Nat → Nat → Int32} {r : Int32} (C0 : lw_At p s m meth c b L xs) (X : Cx p s m #[Value.ref b] meth c cL_law 19 wsB RL ret) (hK : KN G s) (hA : ∀ q : Nat, s.heap.size ≤ q → (A0 s) q) (hLn : L ≤ 260) (hr : r < 0) (e1 : nv' = nv) (e2 : hn' = hn) (kk : KW p l e room_1 s m #[Value.ref b] below meth c 104 606 (lw_Z below #[Value.ref b] s) (A0 s) G d nv' nq' hn' vs' qs' 19 408 [(0, .ref b), (1, .ref d.1), (2, .int (nI 1)), (3, .int (nI i)), (4, .int (nI j)), (5, .int (nI (j / 16))), (6, .int (nI hn)), (7, .int (nv 41)), (8, .int (nv 42)), (9, .int (nv 38)), (10, .int (nv 12)), (11, .int (nv 25)), (12, .int (nI 0)), (13, .int (nI (mny j))), (14, .int (nI 0)), (15, .int (nI 0)), (16, .int (nI 0)), (17, .int (-1)), (18, .int r)] []) : KW p l e room_1 s m #[Value.ref b] below meth c 104 606 (lw_Z below #[Value.ref b] s) (A0 s) G d nv' nq' hn' vs' qs' 19 334 [(0, .ref b), (1, .ref d.1), (2, .int (nI 1)), (3, .int (nI i)), (4, .int (nI j)), (5, .int (nI (j / 16))), (6, .int (nI hn)), (7, .int (nv 41)), (8, .int (nv 42)), (9, .int (nv 38)), (10, .int (nv 12)), (11, .int (nv 25)), (12, .int (nI 0)), (13, .int (nI (mny j))), (14, .int (nI 0)), (15, .int (nI 0)), (16, .int (nI 0)), (17, .int (-1)), (18, .int r)] [] := by
  have hx := X.1
  have hb : c.code = cL_law := X.2.1
  intro H locs ls hW hS hl
  subst e1 e2
  refine lv_iload hx hb dL_law_334 (lv_at hl 18 rfl) ?_
  refine lv_if_lt (tgt := 370) hx hb dL_law_336 (by decide) (fun _ => ?_) (fun z => False.elim (z hr))
  refine lv_aload_n hx hb dL_law_370 rfl (lv_at hl 1 rfl) ?_
  refine lv_bipush (v := nI 14) hx hb dL_law_371 (by decide) ?_
  refine k_count (rest := []) X hK hA hW hS hl.1 (Nat.le_of_ble_eq_true rfl) ⟨Nat.le_of_ble_eq_true rfl, Nat.le_of_ble_eq_true rfl⟩ ⟨Nat.le_of_ble_eq_true rfl, Nat.le_of_ble_eq_true rfl⟩ dL_law_373 (fun H locs hW hS => ?_)
  rw [cnt14]
  refine lv_iload hx hb dL_law_376 (lv_at hl 6 rfl) ?_
  refine lv_icmp_ne (tgt := 406) hx hb dL_law_378 (by decide) (fun z => False.elim (z rfl)) (fun _ => ?_)
  refine lv_aload_n hx hb dL_law_381 rfl (lv_at hl 1 rfl) ?_
  refine lv_iconst (v := nI 0) hx hb dL_law_382 (by decide) ?_
  refine k_count (rest := []) X hK hA hW hS hl.1 (Nat.le_of_ble_eq_true rfl) ⟨Nat.le_of_ble_eq_true rfl, Nat.le_of_ble_eq_true rfl⟩ ⟨Nat.le_of_ble_eq_true rfl, Nat.le_of_ble_eq_true rfl⟩ dL_law_383 (fun H locs hW hS => ?_)
  rw [cnt0]
  refine lv_iload hx hb dL_law_386 (lv_at hl 10 rfl) ?_
  refine lv_icmp_ne (tgt := 406) hx hb dL_law_388 (by decide) (fun z => False.elim (z rfl)) (fun _ => ?_)
  refine lv_aload_n hx hb dL_law_391 rfl (lv_at hl 1 rfl) ?_
  refine lv_bipush (v := nI 6) hx hb dL_law_392 (by decide) ?_
  refine k_count (rest := []) X hK hA hW hS hl.1 (Nat.le_of_ble_eq_true rfl) ⟨Nat.le_of_ble_eq_true rfl, Nat.le_of_ble_eq_true rfl⟩ ⟨Nat.le_of_ble_eq_true rfl, Nat.le_of_ble_eq_true rfl⟩ dL_law_394 (fun H locs hW hS => ?_)
  rw [cnt6]
  refine lv_iload hx hb dL_law_397 (lv_at hl 11 rfl) ?_
  refine lv_icmp_ne (tgt := 406) hx hb dL_law_399 (by decide) (fun z => False.elim (z rfl)) (fun _ => ?_)
  refine lv_iconst (v := nI 1) hx hb dL_law_402 (by decide) ?_
  refine lv_goto (tgt := 407) hx hb dL_law_403 (by decide) ?_
  refine lv_istore_n (lv' := [(2, .int (nI 1)), (0, .ref b), (1, .ref d.1), (3, .int (nI i)), (4, .int (nI j)), (5, .int (nI (j / 16))), (6, .int (nI hn')), (7, .int (nv' 41)), (8, .int (nv' 42)), (9, .int (nv' 38)), (10, .int (nv' 12)), (11, .int (nv' 25)), (12, .int (nI 0)), (13, .int (nI (mny j))), (14, .int (nI 0)), (15, .int (nI 0)), (16, .int (nI 0)), (17, .int (-1)), (18, .int r)]) hx hb dL_law_407 rfl hl (by decide) rfl (fun ls hl => ?_)
  exact kk H locs ls hW hS (lv_sub hl [1, 2, 0, 3, 4, 5, 6, 7, 8, 9, 10, 11, 12, 13, 14, 15, 16, 17, 18] rfl)
set_option maxHeartbeats 4000000 in
theorem lg_334ps {p : Program} {l : Launch} {e : Env} {s : State} {m : MethodId} {below : List Frame} {meth : Method} {c : Code} {b L : Nat} {xs : Nat → Int32} {G : GG} {d : AD} {nv nq : Nat → Int32} {hn : Nat} {vs qs : Nat → Nat → Int32} {i j : Nat} {nv' nq' : Nat → Int32} {hn' : Nat} {vs' qs' : Nat → Nat → Int32} {r : Int32} (C0 : lw_At p s m meth c b L xs) (X : Cx p s m #[Value.ref b] meth c cL_law 19 wsB RL ret) (hK : KN G s) (hA : ∀ q : Nat, s.heap.size ≤ q → (A0 s) q) (hLn : L ≤ 260) (h4 : hn ≤ 4) (hr : ¬ r < 0) (hh : hn' = (if hn = 4 then 4 else hn + 1)) (kk : KW p l e room_1 s m #[Value.ref b] below meth c 104 606 (lw_Z below #[Value.ref b] s) (A0 s) G d nv' nq' hn' vs' qs' 19 408 [(0, .ref b), (1, .ref d.1), (2, .int (nI 1)), (3, .int (nI i)), (4, .int (nI j)), (5, .int (nI (j / 16))), (6, .int (nI hn)), (7, .int (nv 41)), (8, .int (nv 42)), (9, .int (nv 38)), (10, .int (nv 12)), (11, .int (nv 25)), (12, .int (nI 0)), (13, .int (nI (mny j))), (14, .int (nI 0)), (15, .int (nI 0)), (16, .int (nI 0)), (17, .int (nI 1)), (18, .int r)] []) : KW p l e room_1 s m #[Value.ref b] below meth c 104 606 (lw_Z below #[Value.ref b] s) (A0 s) G d nv' nq' hn' vs' qs' 19 334 [(0, .ref b), (1, .ref d.1), (2, .int (nI 1)), (3, .int (nI i)), (4, .int (nI j)), (5, .int (nI (j / 16))), (6, .int (nI hn)), (7, .int (nv 41)), (8, .int (nv 42)), (9, .int (nv 38)), (10, .int (nv 12)), (11, .int (nv 25)), (12, .int (nI 0)), (13, .int (nI (mny j))), (14, .int (nI 0)), (15, .int (nI 0)), (16, .int (nI 0)), (17, .int (nI 1)), (18, .int r)] [] := by
  have hx := X.1
  have hb : c.code = cL_law := X.2.1
  intro H locs ls hW hS hl
  refine lv_iload hx hb dL_law_334 (lv_at hl 18 rfl) ?_
  refine lv_if_lt (tgt := 370) hx hb dL_law_336 (by decide) (fun z => False.elim (hr z)) (fun _ => ?_)
  refine lv_aload_n hx hb dL_law_339 rfl (lv_at hl 1 rfl) ?_
  refine lv_bipush (v := nI 14) hx hb dL_law_340 (by decide) ?_
  refine k_count (rest := []) X hK hA hW hS hl.1 (Nat.le_of_ble_eq_true rfl) ⟨Nat.le_of_ble_eq_true rfl, Nat.le_of_ble_eq_true rfl⟩ ⟨Nat.le_of_ble_eq_true rfl, Nat.le_of_ble_eq_true rfl⟩ dL_law_342 (fun H locs hW hS => ?_)
  rw [cnt14]
  by_cases ck : hn = 4
  · have e4 : hn' = 4 := by rw [hh, if_pos ck]
    refine lv_iload hx hb dL_law_345 (lv_at hl 6 rfl) ?_
    refine lv_iconst (v := nI 4) hx hb dL_law_347 (by decide) ?_
    refine lv_icmp_ne (tgt := 355) hx hb dL_law_348 (by decide) (fun z => False.elim (z (by rw [ck]))) (fun _ => ?_)
    refine lv_iconst (v := nI 4) hx hb dL_law_351 (by decide) ?_
    refine lv_goto (tgt := 359) hx hb dL_law_352 (by decide) ?_
    refine lv_icmp_ne (tgt := 366) hx hb dL_law_359 (by decide) (fun z => False.elim (z (by rw [e4]))) (fun _ => ?_)
    refine lv_iconst (v := nI 1) hx hb dL_law_362 (by decide) ?_
    refine lv_goto (tgt := 407) hx hb dL_law_363 (by decide) ?_
    refine lv_istore_n (lv' := [(2, .int (nI 1)), (0, .ref b), (1, .ref d.1), (3, .int (nI i)), (4, .int (nI j)), (5, .int (nI (j / 16))), (6, .int (nI hn)), (7, .int (nv 41)), (8, .int (nv 42)), (9, .int (nv 38)), (10, .int (nv 12)), (11, .int (nv 25)), (12, .int (nI 0)), (13, .int (nI (mny j))), (14, .int (nI 0)), (15, .int (nI 0)), (16, .int (nI 0)), (17, .int (nI 1)), (18, .int r)]) hx hb dL_law_407 rfl hl (by decide) rfl (fun ls hl => ?_)
    exact kk H locs ls hW hS (lv_sub hl [1, 2, 0, 3, 4, 5, 6, 7, 8, 9, 10, 11, 12, 13, 14, 15, 16, 17, 18] rfl)
  · have e4 : hn' = hn + 1 := by rw [hh, if_neg ck]
    refine lv_iload hx hb dL_law_345 (lv_at hl 6 rfl) ?_
    refine lv_iconst (v := nI 4) hx hb dL_law_347 (by decide) ?_
    refine lv_icmp_ne (tgt := 355) hx hb dL_law_348 (by decide) (fun _ => ?_) (fun z => False.elim (ck ((nI_eq (by omega) (by omega)).mp z)))
    refine lv_iload hx hb dL_law_355 (lv_at hl 6 rfl) ?_
    refine lv_iconst (v := nI 1) hx hb dL_law_357 (by decide) ?_
    refine lv_iadd hx hb dL_law_358 ?_
    refine lv_icmp_ne (tgt := 366) hx hb dL_law_359 (by decide) (fun z => False.elim (z (by rw [e4, nI_add]))) (fun _ => ?_)
    refine lv_iconst (v := nI 1) hx hb dL_law_362 (by decide) ?_
    refine lv_goto (tgt := 407) hx hb dL_law_363 (by decide) ?_
    refine lv_istore_n (lv' := [(2, .int (nI 1)), (0, .ref b), (1, .ref d.1), (3, .int (nI i)), (4, .int (nI j)), (5, .int (nI (j / 16))), (6, .int (nI hn)), (7, .int (nv 41)), (8, .int (nv 42)), (9, .int (nv 38)), (10, .int (nv 12)), (11, .int (nv 25)), (12, .int (nI 0)), (13, .int (nI (mny j))), (14, .int (nI 0)), (15, .int (nI 0)), (16, .int (nI 0)), (17, .int (nI 1)), (18, .int r)]) hx hb dL_law_407 rfl hl (by decide) rfl (fun ls hl => ?_)
    exact kk H locs ls hW hS (lv_sub hl [1, 2, 0, 3, 4, 5, 6, 7, 8, 9, 10, 11, 12, 13, 14, 15, 16, 17, 18] rfl)
set_option maxHeartbeats 4000000 in
theorem lg_334ms {p : Program} {l : Launch} {e : Env} {s : State} {m : MethodId} {below : List Frame} {meth : Method} {c : Code} {b L : Nat} {xs : Nat → Int32} {G : GG} {d : AD} {nv nq : Nat → Int32} {hn : Nat} {vs qs : Nat → Nat → Int32} {i j : Nat} {nv' nq' : Nat → Int32} {hn' : Nat} {vs' qs' : Nat → Nat → Int32} {r : Int32} (C0 : lw_At p s m meth c b L xs) (X : Cx p s m #[Value.ref b] meth c cL_law 19 wsB RL ret) (hK : KN G s) (hA : ∀ q : Nat, s.heap.size ≤ q → (A0 s) q) (hLn : L ≤ 260) (hr : r < 0) (e1 : nv' = nv) (e2 : hn' = hn) (kk : KW p l e room_1 s m #[Value.ref b] below meth c 104 606 (lw_Z below #[Value.ref b] s) (A0 s) G d nv' nq' hn' vs' qs' 19 408 [(0, .ref b), (1, .ref d.1), (2, .int (nI 1)), (3, .int (nI i)), (4, .int (nI j)), (5, .int (nI (j / 16))), (6, .int (nI hn)), (7, .int (nv 41)), (8, .int (nv 42)), (9, .int (nv 38)), (10, .int (nv 12)), (11, .int (nv 25)), (12, .int (nI 0)), (13, .int (nI (mny j))), (14, .int (nI 0)), (15, .int (nI 0)), (16, .int (nI 0)), (17, .int (nI 1)), (18, .int r)] []) : KW p l e room_1 s m #[Value.ref b] below meth c 104 606 (lw_Z below #[Value.ref b] s) (A0 s) G d nv' nq' hn' vs' qs' 19 334 [(0, .ref b), (1, .ref d.1), (2, .int (nI 1)), (3, .int (nI i)), (4, .int (nI j)), (5, .int (nI (j / 16))), (6, .int (nI hn)), (7, .int (nv 41)), (8, .int (nv 42)), (9, .int (nv 38)), (10, .int (nv 12)), (11, .int (nv 25)), (12, .int (nI 0)), (13, .int (nI (mny j))), (14, .int (nI 0)), (15, .int (nI 0)), (16, .int (nI 0)), (17, .int (nI 1)), (18, .int r)] [] := by
  have hx := X.1
  have hb : c.code = cL_law := X.2.1
  intro H locs ls hW hS hl
  subst e1 e2
  refine lv_iload hx hb dL_law_334 (lv_at hl 18 rfl) ?_
  refine lv_if_lt (tgt := 370) hx hb dL_law_336 (by decide) (fun _ => ?_) (fun z => False.elim (z hr))
  refine lv_aload_n hx hb dL_law_370 rfl (lv_at hl 1 rfl) ?_
  refine lv_bipush (v := nI 14) hx hb dL_law_371 (by decide) ?_
  refine k_count (rest := []) X hK hA hW hS hl.1 (Nat.le_of_ble_eq_true rfl) ⟨Nat.le_of_ble_eq_true rfl, Nat.le_of_ble_eq_true rfl⟩ ⟨Nat.le_of_ble_eq_true rfl, Nat.le_of_ble_eq_true rfl⟩ dL_law_373 (fun H locs hW hS => ?_)
  rw [cnt14]
  refine lv_iload hx hb dL_law_376 (lv_at hl 6 rfl) ?_
  refine lv_icmp_ne (tgt := 406) hx hb dL_law_378 (by decide) (fun z => False.elim (z rfl)) (fun _ => ?_)
  refine lv_aload_n hx hb dL_law_381 rfl (lv_at hl 1 rfl) ?_
  refine lv_iconst (v := nI 0) hx hb dL_law_382 (by decide) ?_
  refine k_count (rest := []) X hK hA hW hS hl.1 (Nat.le_of_ble_eq_true rfl) ⟨Nat.le_of_ble_eq_true rfl, Nat.le_of_ble_eq_true rfl⟩ ⟨Nat.le_of_ble_eq_true rfl, Nat.le_of_ble_eq_true rfl⟩ dL_law_383 (fun H locs hW hS => ?_)
  rw [cnt0]
  refine lv_iload hx hb dL_law_386 (lv_at hl 10 rfl) ?_
  refine lv_icmp_ne (tgt := 406) hx hb dL_law_388 (by decide) (fun z => False.elim (z rfl)) (fun _ => ?_)
  refine lv_aload_n hx hb dL_law_391 rfl (lv_at hl 1 rfl) ?_
  refine lv_bipush (v := nI 6) hx hb dL_law_392 (by decide) ?_
  refine k_count (rest := []) X hK hA hW hS hl.1 (Nat.le_of_ble_eq_true rfl) ⟨Nat.le_of_ble_eq_true rfl, Nat.le_of_ble_eq_true rfl⟩ ⟨Nat.le_of_ble_eq_true rfl, Nat.le_of_ble_eq_true rfl⟩ dL_law_394 (fun H locs hW hS => ?_)
  rw [cnt6]
  refine lv_iload hx hb dL_law_397 (lv_at hl 11 rfl) ?_
  refine lv_icmp_ne (tgt := 406) hx hb dL_law_399 (by decide) (fun z => False.elim (z rfl)) (fun _ => ?_)
  refine lv_iconst (v := nI 1) hx hb dL_law_402 (by decide) ?_
  refine lv_goto (tgt := 407) hx hb dL_law_403 (by decide) ?_
  refine lv_istore_n (lv' := [(2, .int (nI 1)), (0, .ref b), (1, .ref d.1), (3, .int (nI i)), (4, .int (nI j)), (5, .int (nI (j / 16))), (6, .int (nI hn')), (7, .int (nv' 41)), (8, .int (nv' 42)), (9, .int (nv' 38)), (10, .int (nv' 12)), (11, .int (nv' 25)), (12, .int (nI 0)), (13, .int (nI (mny j))), (14, .int (nI 0)), (15, .int (nI 0)), (16, .int (nI 0)), (17, .int (nI 1)), (18, .int r)]) hx hb dL_law_407 rfl hl (by decide) rfl (fun ls hl => ?_)
  exact kk H locs ls hW hS (lv_sub hl [1, 2, 0, 3, 4, 5, 6, 7, 8, 9, 10, 11, 12, 13, 14, 15, 16, 17, 18] rfl)
set_option maxHeartbeats 4000000 in
theorem lg_408r {p : Program} {l : Launch} {e : Env} {s : State} {m : MethodId} {below : List Frame} {meth : Method} {c : Code} {b L : Nat} {xs : Nat → Int32} {G : GG} {d : AD} {nv nq : Nat → Int32} {hn : Nat} {vs qs : Nat → Nat → Int32} {i j : Nat} {nv' nq' : Nat → Int32} {hn' : Nat} {vs' qs' : Nat → Nat → Int32} {r : Int32} (C0 : lw_At p s m meth c b L xs) (X : Cx p s m #[Value.ref b] meth c cL_law 19 wsB RL ret) (hK : KN G s) (hA : ∀ q : Nat, s.heap.size ≤ q → (A0 s) q) (hLn : L ≤ 260)  (kk : KW p l e room_1 s m #[Value.ref b] below meth c 104 606 (lw_Z below #[Value.ref b] s) (A0 s) G d nv' nq' hn' vs' qs' 19 430 [(0, .ref b), (1, .ref d.1), (2, .int (nI 1)), (3, .int (nI i)), (4, .int (nI j)), (5, .int (nI (j / 16))), (6, .int (nI hn)), (7, .int (nv 41)), (8, .int (nv 42)), (9, .int (nv 38)), (10, .int (nv 12)), (11, .int (nv 25)), (12, .int (nI 1)), (13, .int (nI (mny j))), (14, .int ((NN (mny j) nv nq).1 41 - nv 41)), (15, .int ((NN (mny j) nv nq).1 42 - nv 42)), (16, .int ((NN (mny j) nv nq).1 38 - nv 38)), (17, .int (-1)), (18, .int r)] []) : KW p l e room_1 s m #[Value.ref b] below meth c 104 606 (lw_Z below #[Value.ref b] s) (A0 s) G d nv' nq' hn' vs' qs' 19 408 [(0, .ref b), (1, .ref d.1), (2, .int (nI 1)), (3, .int (nI i)), (4, .int (nI j)), (5, .int (nI (j / 16))), (6, .int (nI hn)), (7, .int (nv 41)), (8, .int (nv 42)), (9, .int (nv 38)), (10, .int (nv 12)), (11, .int (nv 25)), (12, .int (nI 1)), (13, .int (nI (mny j))), (14, .int ((NN (mny j) nv nq).1 41 - nv 41)), (15, .int ((NN (mny j) nv nq).1 42 - nv 42)), (16, .int ((NN (mny j) nv nq).1 38 - nv 38)), (17, .int (-1)), (18, .int r)] [] := by
  have hx := X.1
  have hb : c.code = cL_law := X.2.1
  intro H locs ls hW hS hl
  refine lv_iload_n hx hb dL_law_408 rfl (lv_at hl 2 rfl) ?_
  refine lv_if_eq (tgt := 428) hx hb dL_law_409 (by decide) (fun z => False.elim ((show ¬ nI 1 = 0 by decide) z)) (fun _ => ?_)
  refine lv_iload hx hb dL_law_412 (lv_at hl 17 rfl) ?_
  refine lv_if_lt (tgt := 424) hx hb dL_law_414 (by decide) (fun _ => ?_) (fun z => False.elim (z (by decide)))
  refine lv_iconst (v := nI 1) hx hb dL_law_424 (by decide) ?_
  refine lv_goto (tgt := 429) hx hb dL_law_425 (by decide) ?_
  refine lv_istore_n (lv' := [(2, .int (nI 1)), (0, .ref b), (1, .ref d.1), (3, .int (nI i)), (4, .int (nI j)), (5, .int (nI (j / 16))), (6, .int (nI hn)), (7, .int (nv 41)), (8, .int (nv 42)), (9, .int (nv 38)), (10, .int (nv 12)), (11, .int (nv 25)), (12, .int (nI 1)), (13, .int (nI (mny j))), (14, .int ((NN (mny j) nv nq).1 41 - nv 41)), (15, .int ((NN (mny j) nv nq).1 42 - nv 42)), (16, .int ((NN (mny j) nv nq).1 38 - nv 38)), (17, .int (-1)), (18, .int r)]) hx hb dL_law_429 rfl hl (by decide) rfl (fun ls hl => ?_)
  exact kk H locs ls hW hS (lv_sub hl [1, 2, 0, 3, 4, 5, 6, 7, 8, 9, 10, 11, 12, 13, 14, 15, 16, 17, 18] rfl)
set_option maxHeartbeats 4000000 in
theorem lg_430r {p : Program} {l : Launch} {e : Env} {s : State} {m : MethodId} {below : List Frame} {meth : Method} {c : Code} {b L : Nat} {xs : Nat → Int32} {G : GG} {d : AD} {nv nq : Nat → Int32} {hn : Nat} {vs qs : Nat → Nat → Int32} {i j : Nat} {nv' nq' : Nat → Int32} {hn' : Nat} {vs' qs' : Nat → Nat → Int32} {r : Int32} (C0 : lw_At p s m meth c b L xs) (X : Cx p s m #[Value.ref b] meth c cL_law 19 wsB RL ret) (hK : KN G s) (hA : ∀ q : Nat, s.heap.size ≤ q → (A0 s) q) (hLn : L ≤ 260) (e1 : r = nv' 41 - nv 41) (e2 : nv' = (NN (mny j) nv nq).1) (kk : KW p l e room_1 s m #[Value.ref b] below meth c 104 606 (lw_Z below #[Value.ref b] s) (A0 s) G d nv' nq' hn' vs' qs' 19 506 [(0, .ref b), (1, .ref d.1), (2, .int (nI 1)), (3, .int (nI i))] []) : KW p l e room_1 s m #[Value.ref b] below meth c 104 606 (lw_Z below #[Value.ref b] s) (A0 s) G d nv' nq' hn' vs' qs' 19 430 [(0, .ref b), (1, .ref d.1), (2, .int (nI 1)), (3, .int (nI i)), (4, .int (nI j)), (5, .int (nI (j / 16))), (6, .int (nI hn)), (7, .int (nv 41)), (8, .int (nv 42)), (9, .int (nv 38)), (10, .int (nv 12)), (11, .int (nv 25)), (12, .int (nI 1)), (13, .int (nI (mny j))), (14, .int ((NN (mny j) nv nq).1 41 - nv 41)), (15, .int ((NN (mny j) nv nq).1 42 - nv 42)), (16, .int ((NN (mny j) nv nq).1 38 - nv 38)), (17, .int (-1)), (18, .int r)] [] := by
  have hx := X.1
  have hb : c.code = cL_law := X.2.1
  intro H locs ls hW hS hl
  have ac : ∀ x y : Int32, x = y + (x - y) := fun x y => by rw [Int32.add_comm, Int32.sub_add_cancel]
  refine lv_iload_n hx hb dL_law_430 rfl (lv_at hl 2 rfl) ?_
  refine lv_if_eq (tgt := 504) hx hb dL_law_431 (by decide) (fun z => False.elim ((show ¬ nI 1 = 0 by decide) z)) (fun _ => ?_)
  refine lv_iload hx hb dL_law_434 (lv_at hl 12 rfl) ?_
  refine lv_if_eq (tgt := 500) hx hb dL_law_436 (by decide) (fun z => False.elim ((show ¬ nI 1 = 0 by decide) z)) (fun _ => ?_)
  refine lv_iload hx hb dL_law_439 (lv_at hl 18 rfl) ?_
  refine lv_iload hx hb dL_law_441 (lv_at hl 14 rfl) ?_
  refine lv_icmp_ne (tgt := 504) hx hb dL_law_443 (by decide) (fun z => False.elim (z (by rw [e1, e2]))) (fun _ => ?_)
  refine lv_aload_n hx hb dL_law_446 rfl (lv_at hl 1 rfl) ?_
  refine lv_bipush (v := nI 8) hx hb dL_law_447 (by decide) ?_
  refine k_count (rest := []) X hK hA hW hS hl.1 (Nat.le_of_ble_eq_true rfl) ⟨Nat.le_of_ble_eq_true rfl, Nat.le_of_ble_eq_true rfl⟩ ⟨Nat.le_of_ble_eq_true rfl, Nat.le_of_ble_eq_true rfl⟩ dL_law_449 (fun H locs hW hS => ?_)
  rw [cnt8]
  refine lv_iload hx hb dL_law_452 (lv_at hl 7 rfl) ?_
  refine lv_iload hx hb dL_law_454 (lv_at hl 18 rfl) ?_
  refine lv_iadd hx hb dL_law_456 ?_
  refine lv_icmp_ne (tgt := 504) hx hb dL_law_457 (by decide) (fun z => False.elim (z (by rw [e1]; exact ac _ _))) (fun _ => ?_)
  refine lv_aload_n hx hb dL_law_460 rfl (lv_at hl 1 rfl) ?_
  refine lv_bipush (v := nI 9) hx hb dL_law_461 (by decide) ?_
  refine k_count (rest := []) X hK hA hW hS hl.1 (Nat.le_of_ble_eq_true rfl) ⟨Nat.le_of_ble_eq_true rfl, Nat.le_of_ble_eq_true rfl⟩ ⟨Nat.le_of_ble_eq_true rfl, Nat.le_of_ble_eq_true rfl⟩ dL_law_463 (fun H locs hW hS => ?_)
  rw [cnt9]
  refine lv_iload hx hb dL_law_466 (lv_at hl 8 rfl) ?_
  refine lv_iload hx hb dL_law_468 (lv_at hl 15 rfl) ?_
  refine lv_iadd hx hb dL_law_470 ?_
  refine lv_icmp_ne (tgt := 504) hx hb dL_law_471 (by decide) (fun z => False.elim (z (by rw [e2]; exact ac _ _))) (fun _ => ?_)
  refine lv_aload_n hx hb dL_law_474 rfl (lv_at hl 1 rfl) ?_
  refine lv_iconst (v := nI 2) hx hb dL_law_475 (by decide) ?_
  refine k_count (rest := []) X hK hA hW hS hl.1 (Nat.le_of_ble_eq_true rfl) ⟨Nat.le_of_ble_eq_true rfl, Nat.le_of_ble_eq_true rfl⟩ ⟨Nat.le_of_ble_eq_true rfl, Nat.le_of_ble_eq_true rfl⟩ dL_law_476 (fun H locs hW hS => ?_)
  rw [cnt2]
  refine lv_iload hx hb dL_law_479 (lv_at hl 9 rfl) ?_
  refine lv_iload hx hb dL_law_481 (lv_at hl 16 rfl) ?_
  refine lv_iadd hx hb dL_law_483 ?_
  refine lv_icmp_ne (tgt := 504) hx hb dL_law_484 (by decide) (fun z => False.elim (z (by rw [e2]; exact ac _ _))) (fun _ => ?_)
  refine lv_aload_n hx hb dL_law_487 rfl (lv_at hl 1 rfl) ?_
  refine lv_iconst (v := nI 0) hx hb dL_law_488 (by decide) ?_
  refine k_count (rest := []) X hK hA hW hS hl.1 (Nat.le_of_ble_eq_true rfl) ⟨Nat.le_of_ble_eq_true rfl, Nat.le_of_ble_eq_true rfl⟩ ⟨Nat.le_of_ble_eq_true rfl, Nat.le_of_ble_eq_true rfl⟩ dL_law_489 (fun H locs hW hS => ?_)
  rw [cnt0]
  refine lv_iload hx hb dL_law_492 (lv_at hl 10 rfl) ?_
  refine lv_iload hx hb dL_law_494 (lv_at hl 13 rfl) ?_
  refine lv_iadd hx hb dL_law_496 ?_
  refine lv_icmp_ne (tgt := 504) hx hb dL_law_497 (by decide) (fun z => False.elim (z (by rw [e2]; exact NN_12 _ _ _))) (fun _ => ?_)
  refine lv_iconst (v := nI 1) hx hb dL_law_500 (by decide) ?_
  refine lv_goto (tgt := 505) hx hb dL_law_501 (by decide) ?_
  refine lv_istore_n (lv' := [(2, .int (nI 1)), (0, .ref b), (1, .ref d.1), (3, .int (nI i)), (4, .int (nI j)), (5, .int (nI (j / 16))), (6, .int (nI hn)), (7, .int (nv 41)), (8, .int (nv 42)), (9, .int (nv 38)), (10, .int (nv 12)), (11, .int (nv 25)), (12, .int (nI 1)), (13, .int (nI (mny j))), (14, .int ((NN (mny j) nv nq).1 41 - nv 41)), (15, .int ((NN (mny j) nv nq).1 42 - nv 42)), (16, .int ((NN (mny j) nv nq).1 38 - nv 38)), (17, .int (-1)), (18, .int r)]) hx hb dL_law_505 rfl hl (by decide) rfl (fun ls hl => ?_)
  exact kk H locs ls hW hS (lv_sub hl [1, 2, 0, 3] rfl)
set_option maxHeartbeats 4000000 in
theorem lg_408n {p : Program} {l : Launch} {e : Env} {s : State} {m : MethodId} {below : List Frame} {meth : Method} {c : Code} {b L : Nat} {xs : Nat → Int32} {G : GG} {d : AD} {nv nq : Nat → Int32} {hn : Nat} {vs qs : Nat → Nat → Int32} {i j : Nat} {nv' nq' : Nat → Int32} {hn' : Nat} {vs' qs' : Nat → Nat → Int32} {r : Int32} (C0 : lw_At p s m meth c b L xs) (X : Cx p s m #[Value.ref b] meth c cL_law 19 wsB RL ret) (hK : KN G s) (hA : ∀ q : Nat, s.heap.size ≤ q → (A0 s) q) (hLn : L ≤ 260)  (kk : KW p l e room_1 s m #[Value.ref b] below meth c 104 606 (lw_Z below #[Value.ref b] s) (A0 s) G d nv' nq' hn' vs' qs' 19 430 [(0, .ref b), (1, .ref d.1), (2, .int (nI 1)), (3, .int (nI i)), (4, .int (nI j)), (5, .int (nI (j / 16))), (6, .int (nI hn)), (7, .int (nv 41)), (8, .int (nv 42)), (9, .int (nv 38)), (10, .int (nv 12)), (11, .int (nv 25)), (12, .int (nI 0)), (13, .int (nI (mny j))), (14, .int (nI 0)), (15, .int (nI 0)), (16, .int (nI 0)), (17, .int (-1)), (18, .int r)] []) : KW p l e room_1 s m #[Value.ref b] below meth c 104 606 (lw_Z below #[Value.ref b] s) (A0 s) G d nv' nq' hn' vs' qs' 19 408 [(0, .ref b), (1, .ref d.1), (2, .int (nI 1)), (3, .int (nI i)), (4, .int (nI j)), (5, .int (nI (j / 16))), (6, .int (nI hn)), (7, .int (nv 41)), (8, .int (nv 42)), (9, .int (nv 38)), (10, .int (nv 12)), (11, .int (nv 25)), (12, .int (nI 0)), (13, .int (nI (mny j))), (14, .int (nI 0)), (15, .int (nI 0)), (16, .int (nI 0)), (17, .int (-1)), (18, .int r)] [] := by
  have hx := X.1
  have hb : c.code = cL_law := X.2.1
  intro H locs ls hW hS hl
  refine lv_iload_n hx hb dL_law_408 rfl (lv_at hl 2 rfl) ?_
  refine lv_if_eq (tgt := 428) hx hb dL_law_409 (by decide) (fun z => False.elim ((show ¬ nI 1 = 0 by decide) z)) (fun _ => ?_)
  refine lv_iload hx hb dL_law_412 (lv_at hl 17 rfl) ?_
  refine lv_if_lt (tgt := 424) hx hb dL_law_414 (by decide) (fun _ => ?_) (fun z => False.elim (z (by decide)))
  refine lv_iconst (v := nI 1) hx hb dL_law_424 (by decide) ?_
  refine lv_goto (tgt := 429) hx hb dL_law_425 (by decide) ?_
  refine lv_istore_n (lv' := [(2, .int (nI 1)), (0, .ref b), (1, .ref d.1), (3, .int (nI i)), (4, .int (nI j)), (5, .int (nI (j / 16))), (6, .int (nI hn)), (7, .int (nv 41)), (8, .int (nv 42)), (9, .int (nv 38)), (10, .int (nv 12)), (11, .int (nv 25)), (12, .int (nI 0)), (13, .int (nI (mny j))), (14, .int (nI 0)), (15, .int (nI 0)), (16, .int (nI 0)), (17, .int (-1)), (18, .int r)]) hx hb dL_law_429 rfl hl (by decide) rfl (fun ls hl => ?_)
  exact kk H locs ls hW hS (lv_sub hl [1, 2, 0, 3, 4, 5, 6, 7, 8, 9, 10, 11, 12, 13, 14, 15, 16, 17, 18] rfl)
set_option maxHeartbeats 4000000 in
theorem lg_430n {p : Program} {l : Launch} {e : Env} {s : State} {m : MethodId} {below : List Frame} {meth : Method} {c : Code} {b L : Nat} {xs : Nat → Int32} {G : GG} {d : AD} {nv nq : Nat → Int32} {hn : Nat} {vs qs : Nat → Nat → Int32} {i j : Nat} {nv' nq' : Nat → Int32} {hn' : Nat} {vs' qs' : Nat → Nat → Int32} {r : Int32} (C0 : lw_At p s m meth c b L xs) (X : Cx p s m #[Value.ref b] meth c cL_law 19 wsB RL ret) (hK : KN G s) (hA : ∀ q : Nat, s.heap.size ≤ q → (A0 s) q) (hLn : L ≤ 260)  (kk : KW p l e room_1 s m #[Value.ref b] below meth c 104 606 (lw_Z below #[Value.ref b] s) (A0 s) G d nv' nq' hn' vs' qs' 19 506 [(0, .ref b), (1, .ref d.1), (2, .int (nI 1)), (3, .int (nI i))] []) : KW p l e room_1 s m #[Value.ref b] below meth c 104 606 (lw_Z below #[Value.ref b] s) (A0 s) G d nv' nq' hn' vs' qs' 19 430 [(0, .ref b), (1, .ref d.1), (2, .int (nI 1)), (3, .int (nI i)), (4, .int (nI j)), (5, .int (nI (j / 16))), (6, .int (nI hn)), (7, .int (nv 41)), (8, .int (nv 42)), (9, .int (nv 38)), (10, .int (nv 12)), (11, .int (nv 25)), (12, .int (nI 0)), (13, .int (nI (mny j))), (14, .int (nI 0)), (15, .int (nI 0)), (16, .int (nI 0)), (17, .int (-1)), (18, .int r)] [] := by
  have hx := X.1
  have hb : c.code = cL_law := X.2.1
  intro H locs ls hW hS hl
  refine lv_iload_n hx hb dL_law_430 rfl (lv_at hl 2 rfl) ?_
  refine lv_if_eq (tgt := 504) hx hb dL_law_431 (by decide) (fun z => False.elim ((show ¬ nI 1 = 0 by decide) z)) (fun _ => ?_)
  refine lv_iload hx hb dL_law_434 (lv_at hl 12 rfl) ?_
  refine lv_if_eq (tgt := 500) hx hb dL_law_436 (by decide) (fun _ => ?_) (fun z => False.elim (z rfl))
  refine lv_iconst (v := nI 1) hx hb dL_law_500 (by decide) ?_
  refine lv_goto (tgt := 505) hx hb dL_law_501 (by decide) ?_
  refine lv_istore_n (lv' := [(2, .int (nI 1)), (0, .ref b), (1, .ref d.1), (3, .int (nI i)), (4, .int (nI j)), (5, .int (nI (j / 16))), (6, .int (nI hn)), (7, .int (nv 41)), (8, .int (nv 42)), (9, .int (nv 38)), (10, .int (nv 12)), (11, .int (nv 25)), (12, .int (nI 0)), (13, .int (nI (mny j))), (14, .int (nI 0)), (15, .int (nI 0)), (16, .int (nI 0)), (17, .int (-1)), (18, .int r)]) hx hb dL_law_505 rfl hl (by decide) rfl (fun ls hl => ?_)
  exact kk H locs ls hW hS (lv_sub hl [1, 2, 0, 3] rfl)
set_option maxHeartbeats 4000000 in
theorem lg_408s {p : Program} {l : Launch} {e : Env} {s : State} {m : MethodId} {below : List Frame} {meth : Method} {c : Code} {b L : Nat} {xs : Nat → Int32} {G : GG} {d : AD} {nv nq : Nat → Int32} {hn : Nat} {vs qs : Nat → Nat → Int32} {i j : Nat} {nv' nq' : Nat → Int32} {hn' : Nat} {vs' qs' : Nat → Nat → Int32} {r : Int32} (C0 : lw_At p s m meth c b L xs) (X : Cx p s m #[Value.ref b] meth c cL_law 19 wsB RL ret) (hK : KN G s) (hA : ∀ q : Nat, s.heap.size ≤ q → (A0 s) q) (hLn : L ≤ 260) (er : r = -11) (kk : KW p l e room_1 s m #[Value.ref b] below meth c 104 606 (lw_Z below #[Value.ref b] s) (A0 s) G d nv' nq' hn' vs' qs' 19 430 [(0, .ref b), (1, .ref d.1), (2, .int (nI 1)), (3, .int (nI i)), (4, .int (nI j)), (5, .int (nI (j / 16))), (6, .int (nI hn)), (7, .int (nv 41)), (8, .int (nv 42)), (9, .int (nv 38)), (10, .int (nv 12)), (11, .int (nv 25)), (12, .int (nI 0)), (13, .int (nI (mny j))), (14, .int (nI 0)), (15, .int (nI 0)), (16, .int (nI 0)), (17, .int (nI 1)), (18, .int r)] []) : KW p l e room_1 s m #[Value.ref b] below meth c 104 606 (lw_Z below #[Value.ref b] s) (A0 s) G d nv' nq' hn' vs' qs' 19 408 [(0, .ref b), (1, .ref d.1), (2, .int (nI 1)), (3, .int (nI i)), (4, .int (nI j)), (5, .int (nI (j / 16))), (6, .int (nI hn)), (7, .int (nv 41)), (8, .int (nv 42)), (9, .int (nv 38)), (10, .int (nv 12)), (11, .int (nv 25)), (12, .int (nI 0)), (13, .int (nI (mny j))), (14, .int (nI 0)), (15, .int (nI 0)), (16, .int (nI 0)), (17, .int (nI 1)), (18, .int r)] [] := by
  have hx := X.1
  have hb : c.code = cL_law := X.2.1
  intro H locs ls hW hS hl
  refine lv_iload_n hx hb dL_law_408 rfl (lv_at hl 2 rfl) ?_
  refine lv_if_eq (tgt := 428) hx hb dL_law_409 (by decide) (fun z => False.elim ((show ¬ nI 1 = 0 by decide) z)) (fun _ => ?_)
  refine lv_iload hx hb dL_law_412 (lv_at hl 17 rfl) ?_
  refine lv_if_lt (tgt := 424) hx hb dL_law_414 (by decide) (fun z => False.elim (absurd z (show ¬ nI 1 < 0 by decide))) (fun _ => ?_)
  refine lv_iload hx hb dL_law_417 (lv_at hl 18 rfl) ?_
  refine lv_bipush (v := (-11)) hx hb dL_law_419 (by decide) ?_
  refine lv_icmp_ne (tgt := 428) hx hb dL_law_421 (by decide) (fun z => False.elim (z er)) (fun _ => ?_)
  refine lv_iconst (v := nI 1) hx hb dL_law_424 (by decide) ?_
  refine lv_goto (tgt := 429) hx hb dL_law_425 (by decide) ?_
  refine lv_istore_n (lv' := [(2, .int (nI 1)), (0, .ref b), (1, .ref d.1), (3, .int (nI i)), (4, .int (nI j)), (5, .int (nI (j / 16))), (6, .int (nI hn)), (7, .int (nv 41)), (8, .int (nv 42)), (9, .int (nv 38)), (10, .int (nv 12)), (11, .int (nv 25)), (12, .int (nI 0)), (13, .int (nI (mny j))), (14, .int (nI 0)), (15, .int (nI 0)), (16, .int (nI 0)), (17, .int (nI 1)), (18, .int r)]) hx hb dL_law_429 rfl hl (by decide) rfl (fun ls hl => ?_)
  exact kk H locs ls hW hS (lv_sub hl [1, 2, 0, 3, 4, 5, 6, 7, 8, 9, 10, 11, 12, 13, 14, 15, 16, 17, 18] rfl)
set_option maxHeartbeats 4000000 in
theorem lg_430s {p : Program} {l : Launch} {e : Env} {s : State} {m : MethodId} {below : List Frame} {meth : Method} {c : Code} {b L : Nat} {xs : Nat → Int32} {G : GG} {d : AD} {nv nq : Nat → Int32} {hn : Nat} {vs qs : Nat → Nat → Int32} {i j : Nat} {nv' nq' : Nat → Int32} {hn' : Nat} {vs' qs' : Nat → Nat → Int32} {r : Int32} (C0 : lw_At p s m meth c b L xs) (X : Cx p s m #[Value.ref b] meth c cL_law 19 wsB RL ret) (hK : KN G s) (hA : ∀ q : Nat, s.heap.size ≤ q → (A0 s) q) (hLn : L ≤ 260)  (kk : KW p l e room_1 s m #[Value.ref b] below meth c 104 606 (lw_Z below #[Value.ref b] s) (A0 s) G d nv' nq' hn' vs' qs' 19 506 [(0, .ref b), (1, .ref d.1), (2, .int (nI 1)), (3, .int (nI i))] []) : KW p l e room_1 s m #[Value.ref b] below meth c 104 606 (lw_Z below #[Value.ref b] s) (A0 s) G d nv' nq' hn' vs' qs' 19 430 [(0, .ref b), (1, .ref d.1), (2, .int (nI 1)), (3, .int (nI i)), (4, .int (nI j)), (5, .int (nI (j / 16))), (6, .int (nI hn)), (7, .int (nv 41)), (8, .int (nv 42)), (9, .int (nv 38)), (10, .int (nv 12)), (11, .int (nv 25)), (12, .int (nI 0)), (13, .int (nI (mny j))), (14, .int (nI 0)), (15, .int (nI 0)), (16, .int (nI 0)), (17, .int (nI 1)), (18, .int r)] [] := by
  have hx := X.1
  have hb : c.code = cL_law := X.2.1
  intro H locs ls hW hS hl
  refine lv_iload_n hx hb dL_law_430 rfl (lv_at hl 2 rfl) ?_
  refine lv_if_eq (tgt := 504) hx hb dL_law_431 (by decide) (fun z => False.elim ((show ¬ nI 1 = 0 by decide) z)) (fun _ => ?_)
  refine lv_iload hx hb dL_law_434 (lv_at hl 12 rfl) ?_
  refine lv_if_eq (tgt := 500) hx hb dL_law_436 (by decide) (fun _ => ?_) (fun z => False.elim (z rfl))
  refine lv_iconst (v := nI 1) hx hb dL_law_500 (by decide) ?_
  refine lv_goto (tgt := 505) hx hb dL_law_501 (by decide) ?_
  refine lv_istore_n (lv' := [(2, .int (nI 1)), (0, .ref b), (1, .ref d.1), (3, .int (nI i)), (4, .int (nI j)), (5, .int (nI (j / 16))), (6, .int (nI hn)), (7, .int (nv 41)), (8, .int (nv 42)), (9, .int (nv 38)), (10, .int (nv 12)), (11, .int (nv 25)), (12, .int (nI 0)), (13, .int (nI (mny j))), (14, .int (nI 0)), (15, .int (nI 0)), (16, .int (nI 0)), (17, .int (nI 1)), (18, .int r)]) hx hb dL_law_505 rfl hl (by decide) rfl (fun ls hl => ?_)
  exact kk H locs ls hW hS (lv_sub hl [1, 2, 0, 3] rfl)
set_option maxHeartbeats 4000000 in
theorem lg_506 {p : Program} {l : Launch} {e : Env} {s : State} {m : MethodId} {below : List Frame} {meth : Method} {c : Code} {b L : Nat} {xs : Nat → Int32} {G : GG} {d : AD} {nv nq : Nat → Int32} {hn : Nat} {vs qs : Nat → Nat → Int32} {i : Nat} {t : Int} (C0 : lw_At p s m meth c b L xs) (X : Cx p s m #[Value.ref b] meth c cL_law 19 wsB RL ret) (hK : KN G s) (hA : ∀ q : Nat, s.heap.size ≤ q → (A0 s) q) (hLn : L ≤ 260) (hI : Iv t nv) (ht : t ≤ 100000) (hL : Li nv nq) (kk : KW p l e room_1 s m #[Value.ref b] below meth c 104 606 (lw_Z below #[Value.ref b] s) (A0 s) G d nv nq hn vs qs 19 86 [(0, .ref b), (1, .ref d.1), (2, .int (nI 1)), (3, .int (nI (i + 1)))] []) : KW p l e room_1 s m #[Value.ref b] below meth c 104 606 (lw_Z below #[Value.ref b] s) (A0 s) G d nv nq hn vs qs 19 506 [(0, .ref b), (1, .ref d.1), (2, .int (nI 1)), (3, .int (nI i))] [] := by
  have hx := X.1
  have hb : c.code = cL_law := X.2.1
  intro H locs ls hW hS hl
  refine lv_iload_n hx hb dL_law_506 rfl (lv_at hl 2 rfl) ?_
  refine lv_if_eq (tgt := 521) hx hb dL_law_507 (by decide) (fun z => False.elim ((show ¬ nI 1 = 0 by decide) z)) (fun _ => ?_)
  refine lv_aload_n hx hb dL_law_510 rfl (lv_at hl 1 rfl) ?_
  refine k_hangs (rest := []) C0 X hK hA hI (by omega) hL hW hS hl.1 (Nat.le_of_ble_eq_true rfl) dL_law_511 (fun H locs hW hS => ?_)
  refine lv_if_eq (tgt := 521) hx hb dL_law_514 (by decide) (fun z => False.elim ((show ¬ nI 1 = 0 by decide) z)) (fun _ => ?_)
  refine lv_iconst (v := nI 1) hx hb dL_law_517 (by decide) ?_
  refine lv_goto (tgt := 522) hx hb dL_law_518 (by decide) ?_
  refine lv_istore_n (lv' := [(2, .int (nI 1)), (0, .ref b), (1, .ref d.1), (3, .int (nI i))]) hx hb dL_law_522 rfl hl (by decide) rfl (fun ls hl => ?_)
  refine lv_iinc (v := nI (i + 1)) (lv' := [(3, .int (nI (i + 1))), (2, .int (nI 1)), (0, .ref b), (1, .ref d.1)]) hx hb dL_law_523 hl (k := 3) rfl (inc1 i) (by decide) rfl (fun ls hl => ?_)
  refine lv_goto (tgt := 86) hx hb dL_law_526 (by decide) ?_
  exact kk H locs ls hW hS (lv_sub hl [2, 3, 1, 0] rfl)
set_option maxHeartbeats 4000000 in
theorem lg_iter {p : Program} {l : Launch} {e : Env} {s : State} {m : MethodId} {below : List Frame} {meth : Method} {c : Code} {b L : Nat} {xs : Nat → Int32} {G : GG} {d : AD} {nv nq : Nat → Int32} {hn : Nat} {vs qs : Nat → Nat → Int32} {i : Nat} {t T : Int} (C0 : lw_At p s m meth c b L xs) (X : Cx p s m #[Value.ref b] meth c cL_law 19 wsB RL ret) (hK : KN G s) (hA : ∀ q : Nat, s.heap.size ≤ q → (A0 s) q) (hLn : L ≤ 260) (hI : Iv t nv) (hL : Li nv nq) (h4 : hn ≤ 4) (hi : i < 24) (ht : t ≤ T) (hT : T ≤ 80000) (kk : ∀ (nv nq : Nat → Int32) (hn : Nat) (vs qs : Nat → Nat → Int32) (t : Int), t ≤ T + 60 → Iv t nv → Li nv nq → hn ≤ 4 → KW p l e room_1 s m #[Value.ref b] below meth c 104 606 (lw_Z below #[Value.ref b] s) (A0 s) G d nv nq hn vs qs 19 86 [(0, .ref b), (1, .ref d.1), (2, .int (nI 1)), (3, .int (nI (i + 1)))] []) : KW p l e room_1 s m #[Value.ref b] below meth c 104 606 (lw_Z below #[Value.ref b] s) (A0 s) G d nv nq hn vs qs 19 86 [(0, .ref b), (1, .ref d.1), (2, .int (nI 1)), (3, .int (nI i))] [] := by
  refine lg_96 C0 X hK hA hLn hi (fun j hj => ?_)
  have hm := mny_le j
  by_cases c1 : 12 ≤ j % 16
  · refine lg_156r C0 X hK hA hLn hj c1 (lg_198r C0 X hK hA hLn hI (lg_288a1 C0 X hK hA hLn hj (by omega) (lg_326r C0 X hK hA hLn hI hL h4 hj (by omega) (fun r nv' nq' hn' vs' qs' hap => ?_))))
    obtain ⟨-, a2, a3, -, -, a6⟩ := hap
    obtain ⟨b1, b2, b3, b4⟩ := a6 c1
    obtain ⟨g1, g2⟩ := NN_iv (mny j) t nv nq hI hL (by omega)
    rw [← b2] at g1 g2
    rw [← b3] at g2
    exact lg_334pr (nv := nv) (nq := nq) (hn := hn) (vs := vs) (qs := qs) C0 X hK hA hLn h4 b1 (a2 b1) (lg_408r (nv := nv) (nq := nq) (hn := hn) (vs := vs) (qs := qs) C0 X hK hA hLn (lg_430r (nv := nv) (nq := nq) (hn := hn) (vs := vs) (qs := qs) C0 X hK hA hLn b4 b2 (lg_506 C0 X hK hA hLn g1 (by omega) g2 (kk nv' nq' hn' vs' qs' _ (by omega) g1 g2 a3))))
  · refine lg_156n C0 X hK hA hLn hj (by omega) (lg_198n C0 X hK hA hLn ?_)
    have fin : ∀ (r : Int32) (nv' nq' : Nat → Int32) (hn' : Nat) (vs' qs' : Nat → Nat → Int32), AP j t nv nq hn r nv' nq' hn' → KW p l e room_1 s m #[Value.ref b] below meth c 104 606 (lw_Z below #[Value.ref b] s) (A0 s) G d nv' nq' hn' vs' qs' 19 506 [(0, .ref b), (1, .ref d.1), (2, .int (nI 1)), (3, .int (nI i))] [] := by
      intro r nv' nq' hn' vs' qs' hap
      obtain ⟨-, -, a3, a4, -, -⟩ := hap
      obtain ⟨g1, g2⟩ := a4 (by omega)
      exact lg_506 C0 X hK hA hLn g1 (by omega) g2 (kk nv' nq' hn' vs' qs' t (by omega) g1 g2 a3)
    have k326 : KW p l e room_1 s m #[Value.ref b] below meth c 104 606 (lw_Z below #[Value.ref b] s) (A0 s) G d nv nq hn vs qs 19 326 [(0, .ref b), (1, .ref d.1), (2, .int (nI 1)), (3, .int (nI i)), (4, .int (nI j)), (5, .int (nI (j / 16))), (6, .int (nI hn)), (7, .int (nv 41)), (8, .int (nv 42)), (9, .int (nv 38)), (10, .int (nv 12)), (11, .int (nv 25)), (12, .int (nI 0)), (13, .int (nI (mny j))), (14, .int (nI 0)), (15, .int (nI 0)), (16, .int (nI 0)), (17, .int (-1))] [] := lg_326n C0 X hK hA hLn hI hL h4 hj (by omega) (fun r nv' nq' hn' vs' qs' hap => by
      have k408 := lg_408n (nv := nv) (nq := nq) (hn := hn) (vs := vs) (qs := qs) C0 X hK hA hLn (lg_430n (nv := nv) (nq := nq) (hn := hn) (vs := vs) (qs := qs) C0 X hK hA hLn (r := r) (j := j) (fin r nv' nq' hn' vs' qs' hap))
      by_cases cr : r < 0
      · exact lg_334mn (nv := nv) (nq := nq) (hn := hn) (vs := vs) (qs := qs) C0 X hK hA hLn cr (hap.1 cr).1 (hap.1 cr).2.2 k408
      · exact lg_334pn (nv := nv) (nq := nq) (hn := hn) (vs := vs) (qs := qs) C0 X hK hA hLn h4 cr (hap.2.1 cr) k408)
    by_cases c2 : 5 ≤ j % 16 ∧ j % 16 < 8
    · refine lg_288b C0 X hK hA hLn hI hj c2 k326 (fun h5 => ?_)
      exact lg_326s C0 X hK hA hLn hI hL h4 hj (by omega) (fun r nv' nq' hn' vs' qs' hap => by
        have er := hap.2.2.2.2.1 c2.1 c2.2 h5
        have k408 := lg_408s (nv := nv) (nq := nq) (hn := hn) (vs := vs) (qs := qs) C0 X hK hA hLn er (lg_430s (nv := nv) (nq := nq) (hn := hn) (vs := vs) (qs := qs) C0 X hK hA hLn (r := r) (j := j) (fin r nv' nq' hn' vs' qs' hap))
        by_cases cr : r < 0
        · exact lg_334ms (nv := nv) (nq := nq) (hn := hn) (vs := vs) (qs := qs) C0 X hK hA hLn cr (hap.1 cr).1 (hap.1 cr).2.2 k408
        · exact lg_334ps (nv := nv) (nq := nq) (hn := hn) (vs := vs) (qs := qs) C0 X hK hA hLn h4 cr (hap.2.1 cr) k408)
    · exact lg_288a0 C0 X hK hA hLn hj c2 k326
theorem lg_loop {p : Program} {l : Launch} {e : Env} {s : State} {m : MethodId} {below : List Frame} {meth : Method} {c : Code} {b L : Nat} {xs : Nat → Int32} {G : GG} {d : AD} (C0 : lw_At p s m meth c b L xs) (X : Cx p s m #[Value.ref b] meth c cL_law 19 wsB RL ret) (hK : KN G s) (hA : ∀ q : Nat, s.heap.size ≤ q → (A0 s) q) (hLn : L ≤ 260) (fin : ∀ (nv nq : Nat → Int32) (hn : Nat) (vs qs : Nat → Nat → Int32) (t : Int), t ≤ 3000 → Iv t nv → Li nv nq → hn ≤ 4 → KW p l e room_1 s m #[Value.ref b] below meth c 104 606 (lw_Z below #[Value.ref b] s) (A0 s) G d nv nq hn vs qs 19 86 [(0, .ref b), (1, .ref d.1), (2, .int (nI 1)), (3, .int (nI 24))] []) : ∀ (f i : Nat) (t T : Int), i + f = 24 → T + 60 * (f : Int) ≤ 3000 → ∀ (nv nq : Nat → Int32) (hn : Nat) (vs qs : Nat → Nat → Int32), t ≤ T → Iv t nv → Li nv nq → hn ≤ 4 → KW p l e room_1 s m #[Value.ref b] below meth c 104 606 (lw_Z below #[Value.ref b] s) (A0 s) G d nv nq hn vs qs 19 86 [(0, .ref b), (1, .ref d.1), (2, .int (nI 1)), (3, .int (nI i))] []
  | 0, i, t, T, h, hT, nv, nq, hn, vs, qs, ht, hI, hL, h4 => by
    have h : i = 24 := h
    subst h
    exact fin nv nq hn vs qs t (by omega) hI hL h4
  | f + 1, i, t, T, h, hT, nv, nq, hn, vs, qs, ht, hI, hL, h4 =>
    lg_iter C0 X hK hA hLn hI hL h4 (by omega) ht (by omega) (fun nv' nq' hn' vs' qs' t' ht' hI' hL' h4' => lg_loop C0 X hK hA hLn fin f (i + 1) t' (T + 60) (by omega) (by omega) nv' nq' hn' vs' qs' ht' hI' hL' h4')
