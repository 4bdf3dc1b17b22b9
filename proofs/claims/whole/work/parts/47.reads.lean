def s_X7_reads_220 (cm : Nat) (g_220 : (Nat → Int32)) (Y_220 : (Nat → Int32)) (kd : Int32) (one : Int32) (oth : Int32) : (Nat → Int32) × (Nat → Int32) :=
  if (g_220 4) = 0 then
    (g_220, Y_220)
  else
    ((upd g_220 5 ((g_220 5) + (nI 1))), (upd (upd (upd Y_220 (3 * cm) kd) ((3 * cm) + 1) one) ((3 * cm) + 2) oth))
def s_X7_reads_191 (T : (Nat → Int32)) (cm : Nat) (g_191 : (Nat → Int32)) (Y_191 : (Nat → Int32)) (kd : Int32) (one : Int32) : (Nat → Int32) × (Nat → Int32) :=
  if kd = (nI 119) then
    match f_X7_number g_191 T with
    | (r_16, g_c16) =>
      s_X7_reads_220 cm g_c16 Y_191 kd one r_16
  else
    if kd = (nI 102) then
      match f_X7_digit g_191 T (nI 5) with
      | (r_15, g_c15) =>
        s_X7_reads_220 cm g_c15 Y_191 kd one r_15
    else
      match f_X7_digit g_191 T (nI 2) with
      | (r_13, g_c13) =>
        s_X7_reads_220 cm g_c13 Y_191 kd one r_13
def s_X7_reads_138 (T : (Nat → Int32)) (cm : Nat) (g_138 : (Nat → Int32)) (Y_138 : (Nat → Int32)) (kd : Int32) (one : Int32) : (Nat → Int32) × (Nat → Int32) :=
  if kd = (nI 102) then
    if (f_X7_isNext g_138 T (nI 58) (nI 58)) = 0 then
      s_X7_reads_191 T cm (upd (upd g_138 4 (f_X7_isNext g_138 T (nI 58) (nI 58))) 3 ((g_138 3) + (nI 0))) Y_138 kd one
    else
      s_X7_reads_191 T cm (upd (upd g_138 4 (f_X7_isNext g_138 T (nI 58) (nI 58))) 3 ((g_138 3) + (nI 1))) Y_138 kd one
  else
    if kd = (nI 119) then
      if (f_X7_isNext g_138 T (nI 58) (nI 58)) = 0 then
        s_X7_reads_191 T cm (upd (upd g_138 4 (f_X7_isNext g_138 T (nI 58) (nI 58))) 3 ((g_138 3) + (nI 0))) Y_138 kd one
      else
        s_X7_reads_191 T cm (upd (upd g_138 4 (f_X7_isNext g_138 T (nI 58) (nI 58))) 3 ((g_138 3) + (nI 1))) Y_138 kd one
    else
      if kd = (nI 109) then
        if (f_X7_isNext g_138 T (nI 58) (nI 58)) = 0 then
          s_X7_reads_191 T cm (upd (upd g_138 4 (f_X7_isNext g_138 T (nI 58) (nI 58))) 3 ((g_138 3) + (nI 0))) Y_138 kd one
        else
          s_X7_reads_191 T cm (upd (upd g_138 4 (f_X7_isNext g_138 T (nI 58) (nI 58))) 3 ((g_138 3) + (nI 1))) Y_138 kd one
      else
        s_X7_reads_220 cm g_138 Y_138 kd one (nI 0)
def s_X7_reads_99 (T : (Nat → Int32)) (cm : Nat) (g_99 : (Nat → Int32)) (Y_99 : (Nat → Int32)) (kd : Int32) : (Nat → Int32) × (Nat → Int32) :=
  if kd = (nI 116) then
    match f_X7_number g_99 T with
    | (r_25, g_c25) =>
      s_X7_reads_138 T cm g_c25 Y_99 kd r_25
  else
    if kd = (nI 109) then
      match f_X7_digit g_99 T (nI 3) with
      | (r_24, g_c24) =>
        s_X7_reads_138 T cm g_c24 Y_99 kd r_24
    else
      if kd = (nI 108) then
        match f_X7_digit g_99 T (nI 2) with
        | (r_23, g_c23) =>
          s_X7_reads_138 T cm g_c23 Y_99 kd r_23
      else
        match f_X7_digit g_99 T (nI 1) with
        | (r_7, g_c7) =>
          s_X7_reads_138 T cm g_c7 Y_99 kd r_7
def s_X7_reads_78 (T : (Nat → Int32)) (cm : Nat) (g_78 : (Nat → Int32)) (Y_78 : (Nat → Int32)) (kd : Int32) : (Nat → Int32) × (Nat → Int32) :=
  if (g_78 4) = 0 then
    s_X7_reads_99 T cm (upd g_78 3 ((g_78 3) + (nI 0))) Y_78 kd
  else
    s_X7_reads_99 T cm (upd g_78 3 ((g_78 3) + (nI 1))) Y_78 kd
def s_X7_reads_32 (T : (Nat → Int32)) (cm : Nat) (g_32 : (Nat → Int32)) (Y_32 : (Nat → Int32)) (kd : Int32) : (Nat → Int32) × (Nat → Int32) :=
  if (g_32 4) = 0 then
    s_X7_reads_78 T cm (upd g_32 4 (nI 0)) Y_32 kd
  else
    if kd = (nI 102) then
      s_X7_reads_78 T cm (upd g_32 4 (nI 1)) Y_32 kd
    else
      if kd = (nI 119) then
        s_X7_reads_78 T cm (upd g_32 4 (nI 1)) Y_32 kd
      else
        if kd = (nI 109) then
          s_X7_reads_78 T cm (upd g_32 4 (nI 1)) Y_32 kd
        else
          if kd = (nI 108) then
            s_X7_reads_78 T cm (upd g_32 4 (nI 1)) Y_32 kd
          else
            if kd = (nI 116) then
              s_X7_reads_78 T cm (upd g_32 4 (nI 1)) Y_32 kd
            else
              s_X7_reads_78 T cm (upd g_32 4 (nI 0)) Y_32 kd
def f_X7_reads (g : (Nat → Int32)) (T : (Nat → Int32)) (Y : (Nat → Int32)) (cm : Nat) : (Nat → Int32) × (Nat → Int32) :=
  if (g 4) = 0 then
    s_X7_reads_32 T cm g Y (nI 0)
  else
    if (g 2) ≤ (g 3) then
      s_X7_reads_32 T cm g Y (nI 0)
    else
      s_X7_reads_32 T cm g Y (T (g 3).toNatClampNeg)
set_option maxRecDepth 20000 in
theorem k_X7_reads_f107 : Cond.fieldLink RX7 107 "SteamRationsModel" "isRight" "Z" ∈ wsX7_reads := by decide +kernel
set_option maxRecDepth 20000 in
theorem k_X7_reads_f111 : Cond.fieldLink RX7 111 "SteamRationsModel" "at" "I" ∈ wsX7_reads := by decide +kernel
set_option maxRecDepth 20000 in
theorem k_X7_reads_f114 : Cond.fieldLink RX7 114 "SteamRationsModel" "typed" "I" ∈ wsX7_reads := by decide +kernel
set_option maxRecDepth 20000 in
theorem k_X7_reads_f128 : Cond.fieldLink RX7 128 "SteamRationsModel" "commands" "I" ∈ wsX7_reads := by decide +kernel
set_option maxRecDepth 20000 in
theorem k_X7_reads_f13 : Cond.fieldLink RX7 13 "SteamRationsModel" "text" "[C" ∈ wsX7_reads := by decide +kernel
set_option maxRecDepth 20000 in
theorem k_X7_reads_f17 : Cond.fieldLink RX7 17 "SteamRationsModel" "command" "[I" ∈ wsX7_reads := by decide +kernel
set_option maxRecDepth 20000 in
theorem in_X7_reads_RX7 : ∀ w ∈ u_ws RX7 TX7 11, w ∈ wsX7_reads := by decide +kernel
theorem cd_X7_reads : yX7_reads.cls = RX7 ∧ yX7_reads.cls ≠ "java/lang/invoke/MethodHandle" ∧ yX7_reads.cls ≠ "java/lang/invoke/VarHandle" ∧ (parseMethodDescriptor yX7_reads.desc).map (fun d => d.parameters.length) = some 0 := by decide +kernel
set_option maxHeartbeats 4000000 in
set_option maxRecDepth 100000 in
theorem c_X7_reads (l : Launch) (G : GG) (a : Nat → Nat) (g : (Nat → Int32)) (M : (Nat → Int32)) (T : (Nat → Int32)) (Y : (Nat → Int32)) (sz : Nat) (cm : Nat) (h3 : ¬ g 3 < 0) (h2 : g 2 ≤ nI 80) (hc5 : g 5 = nI cm) (hcm : cm ≤ 40) : Met l yX7_reads wsX7_reads ({ frames := 3, cells := 0, slots := 0, locals := 65 }) (Pre G [.ref (a 0)] (MC G a g M T Y) sz) (PV G (va_A (MC G a g M T Y) sz) (fun u : (Nat → Int32) × (Nat → Int32) => f_X7_reads g T Y cm = u) (fun u : (Nat → Int32) × (Nat → Int32) => MC G a u.1 M T u.2)) 0 0 (va_A (MC G a g M T Y) sz) := by
  refine Met.walk (cc := cX7_reads) (maxL := 4) (ret := none) (Qc := fun A => PV G A (fun u : (Nat → Int32) × (Nat → Int32) => f_X7_reads g T Y cm = u) (fun u : (Nat → Int32) × (Nat → Int32) => MC G a u.1 M T u.2)) (by decide) rfl (Nat.le_of_ble_eq_true rfl) ?_
  intro p e s m below meth c A H C0 _ hK hsz hP hD hA hS ls hl
  have hx := C0.1
  have hb := C0.2.1
  have hown : s.vm.findClass RX7 = some m.cls := C0.2.2.2.2.1
  have hml := C0.2.2.2.1
  have hts : ∀ w ∈ wsX7_reads, w.before [.ref (a 0)].toArray s = true := C0.2.2.2.2.2.1
  have hl : lv_has ls 4 [(0, .ref (a 0))] := hl
  have h_X7_reads_220 : ∀ (g_220 : (Nat → Int32)) (Y_220 : (Nat → Int32)) (kd : Int32) (one : Int32) (oth : Int32), (¬ g_220 3 < 0) → (g_220 2 ≤ nI 80) → (g_220 5 = nI cm) → f_X7_reads g T Y cm = s_X7_reads_220 cm g_220 Y_220 kd one oth → ∀ (H : Heap) (locs : List Loc) (ls : Array Slot), va_P G.1 vwCl (MC G a g_220 M T Y_220) H → va_D A (MC G a g_220 M T Y_220) → va_S A s.heap H locs → lv_has ls 4 [(3, .int oth), (2, .int one), (1, .int kd), (0, .ref (a 0))] → W p l e ({ frames := 3, cells := 0, slots := 0, locals := 65 }) s m ([.ref (a 0)] : List Value).toArray below meth c H locs 0 0 (MQ below (PV G A (fun u : (Nat → Int32) × (Nat → Int32) => f_X7_reads g T Y cm = u) (fun u : (Nat → Int32) × (Nat → Int32) => MC G a u.1 M T u.2)) ([.ref (a 0)] : List Value).toArray s 0 0 A) (F0 m 220 ls []) := by
    intro g_220 Y_220 kd one oth h3 h2 hc5 hE H locs ls hP hD hS hl
    refine lv_aload_n hx hb dX7_reads_220 rfl (lv_at hl 3 rfl) ?_
    refine va_get (D := G.1) (ci := 7) (v := .int (g_220 4)) (C := RX7) (T := TX7) (N := 11) hx hb hts in_X7_reads_RX7 hown hK.1 hP 0 rfl rfl 6 (by decide) (hts _ k_X7_reads_f107) (fun _ h9 => h9) rfl dX7_reads_221 ?_
    refine lv_if_eq (tgt := 277) hx hb dX7_reads_224 (by decide) (fun c_14 => ?_) (fun c_14 => ?_)
    · exact end_V C0 hP hD hS (g_220, Y_220) (hE.trans (by simp only [s_X7_reads_220, if_pos c_14])) rfl dX7_reads_277
    · refine lv_aload_n hx hb dX7_reads_227 rfl (lv_at hl 3 rfl) ?_
      refine va_get (D := G.1) (ci := 7) (v := .ref (a 3)) (C := RX7) (T := TX7) (N := 11) hx hb hts in_X7_reads_RX7 hown hK.1 hP 0 rfl rfl 7 (by decide) (hts _ k_X7_reads_f17) (fun _ h9 => h9) rfl dX7_reads_228 ?_
      refine lv_iconst (v := (nI 3)) hx hb dX7_reads_231 (by decide) ?_
      refine lv_aload_n hx hb dX7_reads_232 rfl (lv_at hl 3 rfl) ?_
      refine va_get (D := G.1) (ci := 7) (v := .int (g_220 5)) (C := RX7) (T := TX7) (N := 11) hx hb hts in_X7_reads_RX7 hown hK.1 hP 0 rfl rfl 8 (by decide) (hts _ k_X7_reads_f128) (fun _ h9 => h9) rfl dX7_reads_233 ?_
      have ej_4 : (g_220 5) = nI cm := hc5
      refine W.eq (g2 := F0 m 236 ls ([.int (nI cm), .int (nI 3), .ref (a 3)])) (by rw [← ej_4]) ?_
      refine n_imul (i := 3) (j := cm) hx hb dX7_reads_236 ?_
      refine lv_iload_n hx hb dX7_reads_237 rfl (lv_at hl 2 rfl) ?_
      refine n_iast (f := Y_220) (j := 3 * cm) (x := kd) hx hb hK hP hD hS 3 rfl (by omega) (by decide) dX7_reads_238 (fun H locs hP hD hS => ?_)
      have hP : va_P G.1 vwCl (MC G a g_220 M T (upd Y_220 (3 * cm) kd)) H := hP
      have hD : va_D A (MC G a g_220 M T (upd Y_220 (3 * cm) kd)) := hD
      refine lv_aload_n hx hb dX7_reads_239 rfl (lv_at hl 3 rfl) ?_
      refine va_get (D := G.1) (ci := 7) (v := .ref (a 3)) (C := RX7) (T := TX7) (N := 11) hx hb hts in_X7_reads_RX7 hown hK.1 hP 0 rfl rfl 7 (by decide) (hts _ k_X7_reads_f17) (fun _ h9 => h9) rfl dX7_reads_240 ?_
      refine lv_iconst (v := (nI 3)) hx hb dX7_reads_243 (by decide) ?_
      refine lv_aload_n hx hb dX7_reads_244 rfl (lv_at hl 3 rfl) ?_
      refine va_get (D := G.1) (ci := 7) (v := .int (g_220 5)) (C := RX7) (T := TX7) (N := 11) hx hb hts in_X7_reads_RX7 hown hK.1 hP 0 rfl rfl 8 (by decide) (hts _ k_X7_reads_f128) (fun _ h9 => h9) rfl dX7_reads_245 ?_
      have ej_5 : (g_220 5) = nI cm := hc5
      refine W.eq (g2 := F0 m 248 ls ([.int (nI cm), .int (nI 3), .ref (a 3)])) (by rw [← ej_5]) ?_
      refine n_imul (i := 3) (j := cm) hx hb dX7_reads_248 ?_
      refine lv_iconst (v := (nI 1)) hx hb dX7_reads_249 (by decide) ?_
      refine n_iadd (i := 3 * cm) (j := 1) hx hb dX7_reads_250 ?_
      refine W.eq (g2 := F0 m 251 ls ([.int (nI ((3 * cm) + 1)), .ref (a 3)])) (by first | rfl | (simp only [F0]; congr 3; omega)) ?_
      refine lv_iload_n hx hb dX7_reads_251 rfl (lv_at hl 1 rfl) ?_
      refine n_iast (f := (upd Y_220 (3 * cm) kd)) (j := (3 * cm) + 1) (x := one) hx hb hK hP hD hS 3 rfl (by omega) (by decide) dX7_reads_252 (fun H locs hP hD hS => ?_)
      have hP : va_P G.1 vwCl (MC G a g_220 M T (upd (upd Y_220 (3 * cm) kd) ((3 * cm) + 1) one)) H := hP
      have hD : va_D A (MC G a g_220 M T (upd (upd Y_220 (3 * cm) kd) ((3 * cm) + 1) one)) := hD
      refine lv_aload_n hx hb dX7_reads_253 rfl (lv_at hl 3 rfl) ?_
      refine va_get (D := G.1) (ci := 7) (v := .ref (a 3)) (C := RX7) (T := TX7) (N := 11) hx hb hts in_X7_reads_RX7 hown hK.1 hP 0 rfl rfl 7 (by decide) (hts _ k_X7_reads_f17) (fun _ h9 => h9) rfl dX7_reads_254 ?_
      refine lv_iconst (v := (nI 3)) hx hb dX7_reads_257 (by decide) ?_
      refine lv_aload_n hx hb dX7_reads_258 rfl (lv_at hl 3 rfl) ?_
      refine va_get (D := G.1) (ci := 7) (v := .int (g_220 5)) (C := RX7) (T := TX7) (N := 11) hx hb hts in_X7_reads_RX7 hown hK.1 hP 0 rfl rfl 8 (by decide) (hts _ k_X7_reads_f128) (fun _ h9 => h9) rfl dX7_reads_259 ?_
      have ej_6 : (g_220 5) = nI cm := hc5
      refine W.eq (g2 := F0 m 262 ls ([.int (nI cm), .int (nI 3), .ref (a 3)])) (by rw [← ej_6]) ?_
      refine n_imul (i := 3) (j := cm) hx hb dX7_reads_262 ?_
      refine lv_iconst (v := (nI 2)) hx hb dX7_reads_263 (by decide) ?_
      refine n_iadd (i := 3 * cm) (j := 2) hx hb dX7_reads_264 ?_
      refine W.eq (g2 := F0 m 265 ls ([.int (nI ((3 * cm) + 2)), .ref (a 3)])) (by first | rfl | (simp only [F0]; congr 3; omega)) ?_
      refine lv_iload_n hx hb dX7_reads_265 rfl (lv_at hl 0 rfl) ?_
      refine n_iast (f := (upd (upd Y_220 (3 * cm) kd) ((3 * cm) + 1) one)) (j := (3 * cm) + 2) (x := oth) hx hb hK hP hD hS 3 rfl (by omega) (by decide) dX7_reads_266 (fun H locs hP hD hS => ?_)
      have hP : va_P G.1 vwCl (MC G a g_220 M T (upd (upd (upd Y_220 (3 * cm) kd) ((3 * cm) + 1) one) ((3 * cm) + 2) oth)) H := hP
      have hD : va_D A (MC G a g_220 M T (upd (upd (upd Y_220 (3 * cm) kd) ((3 * cm) + 1) one) ((3 * cm) + 2) oth)) := hD
      refine lv_aload_n hx hb dX7_reads_267 rfl (lv_at hl 3 rfl) ?_
      refine lv_dup hx hb dX7_reads_268 rfl ?_
      refine va_get (D := G.1) (ci := 7) (v := .int (g_220 5)) (C := RX7) (T := TX7) (N := 11) hx hb hts in_X7_reads_RX7 hown hK.1 hP 0 rfl rfl 8 (by decide) (hts _ k_X7_reads_f128) (fun _ h9 => h9) rfl dX7_reads_269 ?_
      refine lv_iconst (v := (nI 1)) hx hb dX7_reads_272 (by decide) ?_
      refine lv_iadd hx hb dX7_reads_273 ?_
      refine va_put (D := G.1) (ci := 7) (v := .int ((g_220 5) + (nI 1))) (ty := .int) (C := RX7) (T := TX7) (N := 11) hx hb hts in_X7_reads_RX7 tyX7 tyX7_ok nmX7 hown hK.1 hP hD hS 0 rfl rfl 8 (by decide) (hts _ k_X7_reads_f128) (fun _ h9 => h9) rfl (by decide +kernel) rfl rfl (Nat.le_of_ble_eq_true rfl) dX7_reads_274 (fun H locs hP hD hS => ?_)
      have hP : va_P G.1 vwCl (MC G a (upd g_220 5 ((g_220 5) + (nI 1))) M T (upd (upd (upd Y_220 (3 * cm) kd) ((3 * cm) + 1) one) ((3 * cm) + 2) oth)) H := hP
      have hD : va_D A (MC G a (upd g_220 5 ((g_220 5) + (nI 1))) M T (upd (upd (upd Y_220 (3 * cm) kd) ((3 * cm) + 1) one) ((3 * cm) + 2) oth)) := hD
      exact end_V C0 hP hD hS ((upd g_220 5 ((g_220 5) + (nI 1))), (upd (upd (upd Y_220 (3 * cm) kd) ((3 * cm) + 1) one) ((3 * cm) + 2) oth)) (hE.trans (by simp only [s_X7_reads_220, if_neg c_14])) rfl dX7_reads_277
  have h_X7_reads_191 : ∀ (g_191 : (Nat → Int32)) (Y_191 : (Nat → Int32)) (kd : Int32) (one : Int32), (¬ g_191 3 < 0) → (g_191 2 ≤ nI 80) → (g_191 5 = nI cm) → f_X7_reads g T Y cm = s_X7_reads_191 T cm g_191 Y_191 kd one → ∀ (H : Heap) (locs : List Loc) (ls : Array Slot), va_P G.1 vwCl (MC G a g_191 M T Y_191) H → va_D A (MC G a g_191 M T Y_191) → va_S A s.heap H locs → lv_has ls 4 [(2, .int one), (1, .int kd), (0, .ref (a 0))] → W p l e ({ frames := 3, cells := 0, slots := 0, locals := 65 }) s m ([.ref (a 0)] : List Value).toArray below meth c H locs 0 0 (MQ below (PV G A (fun u : (Nat → Int32) × (Nat → Int32) => f_X7_reads g T Y cm = u) (fun u : (Nat → Int32) × (Nat → Int32) => MC G a u.1 M T u.2)) ([.ref (a 0)] : List Value).toArray s 0 0 A) (F0 m 191 ls []) := by
    intro g_191 Y_191 kd one h3 h2 hc5 hE H locs ls hP hD hS hl
    refine lv_iload_n hx hb dX7_reads_191 rfl (lv_at hl 1 rfl) ?_
    refine lv_bipush (v := (nI 119)) hx hb dX7_reads_192 (by decide) ?_
    refine lv_icmp_ne (tgt := 204) hx hb dX7_reads_194 (by decide) (fun c_11 => ?_) (fun c_11 => ?_)
    · refine lv_aload_n hx hb dX7_reads_204 rfl (lv_at hl 2 rfl) ?_
      refine lv_iload_n hx hb dX7_reads_205 rfl (lv_at hl 1 rfl) ?_
      refine lv_bipush (v := (nI 102)) hx hb dX7_reads_206 (by decide) ?_
      refine lv_icmp_ne (tgt := 215) hx hb dX7_reads_208 (by decide) (fun c_12 => ?_) (fun c_12 => ?_)
      · refine lv_iconst (v := (nI 2)) hx hb dX7_reads_215 (by decide) ?_
        refine gcall_I (run_V (As := [.int (nI 2)]) (rest := []) C0 hK hP hD (c_X7_digit l G a g_191 M T Y_191 H.size (nI 2) h3 h2) (cwV 1 hts gX7_reads_X7_digit rfl rfl rfl cd_X7_digit ⟨Nat.le_of_ble_eq_true rfl, Nat.le_of_ble_eq_true rfl⟩) [0, 1, 2, 3] rfl rfl 0 (ci := 7) rfl rfl rfl rfl hl.1 rfl (Nat.le_of_ble_eq_true rfl) dX7_reads_216 ⟨Nat.le_of_ble_eq_true rfl, Nat.le_of_ble_eq_true rfl⟩) hP hD hS hA [0, 1, 2, 3] rfl rfl (fun _ => rfl) (fun r_13 u_13 H locs hw_13 hP hD hS => ?_)
        obtain ⟨g_c13, rfl⟩ : ∃ z, z = u_13 := ⟨_, rfl⟩
        have hP : va_P G.1 vwCl (MC G a g_c13 M T Y_191) H := hP
        have hD : va_D A (MC G a g_c13 M T Y_191) := hD
        refine lv_istore_n (lv' := [(3, .int r_13), (2, .int one), (1, .int kd), (0, .ref (a 0))]) hx hb dX7_reads_219 rfl hl (by decide) rfl (fun ls hl => ?_)
        exact h_X7_reads_220 g_c13 Y_191 kd one r_13 (digit_ok h3 h2 hw_13).1 (by rw [(digit_ok h3 h2 hw_13).2.1]; exact h2) ((digit_ok h3 h2 hw_13).2.2.1.trans hc5) (hE.trans (by simp only [s_X7_reads_191, if_neg c_11, if_neg c_12, hw_13])) _ _ _ hP hD hS (lv_sub hl [0, 1, 2, 3] rfl)
      · refine lv_iconst (v := (nI 5)) hx hb dX7_reads_211 (by decide) ?_
        refine lv_goto (tgt := 216) hx hb dX7_reads_212 (by decide) ?_
        refine gcall_I (run_V (As := [.int (nI 5)]) (rest := []) C0 hK hP hD (c_X7_digit l G a g_191 M T Y_191 H.size (nI 5) h3 h2) (cwV 1 hts gX7_reads_X7_digit rfl rfl rfl cd_X7_digit ⟨Nat.le_of_ble_eq_true rfl, Nat.le_of_ble_eq_true rfl⟩) [0, 1, 2, 3] rfl rfl 0 (ci := 7) rfl rfl rfl rfl hl.1 rfl (Nat.le_of_ble_eq_true rfl) dX7_reads_216 ⟨Nat.le_of_ble_eq_true rfl, Nat.le_of_ble_eq_true rfl⟩) hP hD hS hA [0, 1, 2, 3] rfl rfl (fun _ => rfl) (fun r_15 u_15 H locs hw_15 hP hD hS => ?_)
        obtain ⟨g_c15, rfl⟩ : ∃ z, z = u_15 := ⟨_, rfl⟩
        have hP : va_P G.1 vwCl (MC G a g_c15 M T Y_191) H := hP
        have hD : va_D A (MC G a g_c15 M T Y_191) := hD
        refine lv_istore_n (lv' := [(3, .int r_15), (2, .int one), (1, .int kd), (0, .ref (a 0))]) hx hb dX7_reads_219 rfl hl (by decide) rfl (fun ls hl => ?_)
        exact h_X7_reads_220 g_c15 Y_191 kd one r_15 (digit_ok h3 h2 hw_15).1 (by rw [(digit_ok h3 h2 hw_15).2.1]; exact h2) ((digit_ok h3 h2 hw_15).2.2.1.trans hc5) (hE.trans (by simp only [s_X7_reads_191, if_neg c_11, if_pos c_12, hw_15])) _ _ _ hP hD hS (lv_sub hl [0, 1, 2, 3] rfl)
    · refine lv_aload_n hx hb dX7_reads_197 rfl (lv_at hl 2 rfl) ?_
      refine gcall_I (run_V (As := []) (rest := []) C0 hK hP hD (c_X7_number l G a g_191 M T Y_191 H.size  h3 h2) (cwV 0 hts gX7_reads_X7_number rfl rfl rfl cd_X7_number ⟨Nat.le_of_ble_eq_true rfl, Nat.le_of_ble_eq_true rfl⟩) [0, 1, 2, 3] rfl rfl 0 (ci := 7) rfl rfl rfl rfl hl.1 rfl (Nat.le_of_ble_eq_true rfl) dX7_reads_198 ⟨Nat.le_of_ble_eq_true rfl, Nat.le_of_ble_eq_true rfl⟩) hP hD hS hA [0, 1, 2, 3] rfl rfl (fun _ => rfl) (fun r_16 u_16 H locs hw_16 hP hD hS => ?_)
      obtain ⟨g_c16, rfl⟩ : ∃ z, z = u_16 := ⟨_, rfl⟩
      have hP : va_P G.1 vwCl (MC G a g_c16 M T Y_191) H := hP
      have hD : va_D A (MC G a g_c16 M T Y_191) := hD
      refine lv_goto (tgt := 219) hx hb dX7_reads_201 (by decide) ?_
      refine lv_istore_n (lv' := [(3, .int r_16), (2, .int one), (1, .int kd), (0, .ref (a 0))]) hx hb dX7_reads_219 rfl hl (by decide) rfl (fun ls hl => ?_)
      exact h_X7_reads_220 g_c16 Y_191 kd one r_16 (number_ok h3 h2 hw_16).1 (by rw [(number_ok h3 h2 hw_16).2.1]; exact h2) ((number_ok h3 h2 hw_16).2.2.1.trans hc5) (hE.trans (by simp only [s_X7_reads_191, if_pos c_11, hw_16])) _ _ _ hP hD hS (lv_sub hl [0, 1, 2, 3] rfl)
  have h_X7_reads_138 : ∀ (g_138 : (Nat → Int32)) (Y_138 : (Nat → Int32)) (kd : Int32) (one : Int32), (¬ g_138 3 < 0) → (g_138 2 ≤ nI 80) → (g_138 5 = nI cm) → f_X7_reads g T Y cm = s_X7_reads_138 T cm g_138 Y_138 kd one → ∀ (H : Heap) (locs : List Loc) (ls : Array Slot), va_P G.1 vwCl (MC G a g_138 M T Y_138) H → va_D A (MC G a g_138 M T Y_138) → va_S A s.heap H locs → lv_has ls 4 [(2, .int one), (1, .int kd), (0, .ref (a 0))] → W p l e ({ frames := 3, cells := 0, slots := 0, locals := 65 }) s m ([.ref (a 0)] : List Value).toArray below meth c H locs 0 0 (MQ below (PV G A (fun u : (Nat → Int32) × (Nat → Int32) => f_X7_reads g T Y cm = u) (fun u : (Nat → Int32) × (Nat → Int32) => MC G a u.1 M T u.2)) ([.ref (a 0)] : List Value).toArray s 0 0 A) (F0 m 138 ls []) := by
    intro g_138 Y_138 kd one h3 h2 hc5 hE H locs ls hP hD hS hl
    refine lv_iconst (v := (nI 0)) hx hb dX7_reads_138 (by decide) ?_
    refine lv_istore_n (lv' := [(3, .int (nI 0)), (2, .int one), (1, .int kd), (0, .ref (a 0))]) hx hb dX7_reads_139 rfl hl (by decide) rfl (fun ls hl => ?_)
    refine lv_iload_n hx hb dX7_reads_140 rfl (lv_at hl 2 rfl) ?_
    refine lv_bipush (v := (nI 102)) hx hb dX7_reads_141 (by decide) ?_
    refine lv_icmp_eq (tgt := 158) hx hb dX7_reads_143 (by decide) (fun c_8 => ?_) (fun c_8 => ?_)
    · refine lv_aload_n hx hb dX7_reads_158 rfl (lv_at hl 3 rfl) ?_
      refine lv_aload_n hx hb dX7_reads_159 rfl (lv_at hl 3 rfl) ?_
      refine lv_bipush (v := (nI 58)) hx hb dX7_reads_160 (by decide) ?_
      refine lv_bipush (v := (nI 58)) hx hb dX7_reads_162 (by decide) ?_
      refine gcall_I (run_V (As := [.int (nI 58), .int (nI 58)]) (rest := [.ref (a 0)]) C0 hK hP hD (c_X7_isNext l G a g_138 M T Y_138 H.size (nI 58) (nI 58) h3 h2) (cwV 2 hts gX7_reads_X7_isNext rfl rfl rfl cd_X7_isNext ⟨Nat.le_of_ble_eq_true rfl, Nat.le_of_ble_eq_true rfl⟩) [0, 1, 2, 3] rfl rfl 0 (ci := 7) rfl rfl rfl rfl hl.1 rfl (Nat.le_of_ble_eq_true rfl) dX7_reads_164 ⟨Nat.le_of_ble_eq_true rfl, Nat.le_of_ble_eq_true rfl⟩) hP hD hS hA [0, 1, 2, 3] rfl rfl (fun _ => rfl) (fun r_9 _ H locs hw_9 hP hD hS => ?_)
      have hz_r_9 := hw_9.2
      have hw_9 := hw_9.1
      subst hw_9
      have hP : va_P G.1 vwCl (MC G a g_138 M T Y_138) H := hP
      have hD : va_D A (MC G a g_138 M T Y_138) := hD
      refine va_put (D := G.1) (ci := 7) (v := .int (f_X7_isNext g_138 T (nI 58) (nI 58))) (ty := .boolean) (C := RX7) (T := TX7) (N := 11) hx hb hts in_X7_reads_RX7 tyX7 tyX7_ok nmX7 hown hK.1 hP hD hS 0 rfl rfl 6 (by decide) (hts _ k_X7_reads_f107) (fun _ h9 => h9) rfl (by decide +kernel) (nar_bool hz_r_9) (fit_bool hz_r_9) (Nat.le_of_ble_eq_true rfl) dX7_reads_167 (fun H locs hP hD hS => ?_)
      have hP : va_P G.1 vwCl (MC G a (upd g_138 4 (f_X7_isNext g_138 T (nI 58) (nI 58))) M T Y_138) H := hP
      have hD : va_D A (MC G a (upd g_138 4 (f_X7_isNext g_138 T (nI 58) (nI 58))) M T Y_138) := hD
      refine lv_aload_n hx hb dX7_reads_170 rfl (lv_at hl 3 rfl) ?_
      refine lv_dup hx hb dX7_reads_171 rfl ?_
      refine va_get (D := G.1) (ci := 7) (v := .int (g_138 3)) (C := RX7) (T := TX7) (N := 11) hx hb hts in_X7_reads_RX7 hown hK.1 hP 0 rfl rfl 5 (by decide) (hts _ k_X7_reads_f111) (fun _ h9 => h9) rfl dX7_reads_172 ?_
      refine lv_aload_n hx hb dX7_reads_175 rfl (lv_at hl 3 rfl) ?_
      refine va_get (D := G.1) (ci := 7) (v := .int (f_X7_isNext g_138 T (nI 58) (nI 58))) (C := RX7) (T := TX7) (N := 11) hx hb hts in_X7_reads_RX7 hown hK.1 hP 0 rfl rfl 6 (by decide) (hts _ k_X7_reads_f107) (fun _ h9 => h9) rfl dX7_reads_176 ?_
      refine lv_if_eq (tgt := 186) hx hb dX7_reads_179 (by decide) (fun c_10 => ?_) (fun c_10 => ?_)
      · refine lv_iconst (v := (nI 0)) hx hb dX7_reads_186 (by decide) ?_
        refine lv_iadd hx hb dX7_reads_187 ?_
        refine va_put (D := G.1) (ci := 7) (v := .int ((g_138 3) + (nI 0))) (ty := .int) (C := RX7) (T := TX7) (N := 11) hx hb hts in_X7_reads_RX7 tyX7 tyX7_ok nmX7 hown hK.1 hP hD hS 0 rfl rfl 5 (by decide) (hts _ k_X7_reads_f111) (fun _ h9 => h9) rfl (by decide +kernel) rfl rfl (Nat.le_of_ble_eq_true rfl) dX7_reads_188 (fun H locs hP hD hS => ?_)
        have hP : va_P G.1 vwCl (MC G a (upd (upd g_138 4 (f_X7_isNext g_138 T (nI 58) (nI 58))) 3 ((g_138 3) + (nI 0))) M T Y_138) H := hP
        have hD : va_D A (MC G a (upd (upd g_138 4 (f_X7_isNext g_138 T (nI 58) (nI 58))) 3 ((g_138 3) + (nI 0))) M T Y_138) := hD
        exact h_X7_reads_191 (upd (upd g_138 4 (f_X7_isNext g_138 T (nI 58) (nI 58))) 3 ((g_138 3) + (nI 0))) Y_138 kd one (show ¬ (g_138 3) + nI 0 < 0 by rw [nI0, Int32.add_zero]; exact h3) h2 hc5 (hE.trans (by simp only [s_X7_reads_138, if_pos c_8, if_pos c_10])) _ _ _ hP hD hS (lv_sub hl [1, 2, 3] rfl)
      · refine lv_iconst (v := (nI 1)) hx hb dX7_reads_182 (by decide) ?_
        refine lv_goto (tgt := 187) hx hb dX7_reads_183 (by decide) ?_
        refine lv_iadd hx hb dX7_reads_187 ?_
        refine va_put (D := G.1) (ci := 7) (v := .int ((g_138 3) + (nI 1))) (ty := .int) (C := RX7) (T := TX7) (N := 11) hx hb hts in_X7_reads_RX7 tyX7 tyX7_ok nmX7 hown hK.1 hP hD hS 0 rfl rfl 5 (by decide) (hts _ k_X7_reads_f111) (fun _ h9 => h9) rfl (by decide +kernel) rfl rfl (Nat.le_of_ble_eq_true rfl) dX7_reads_188 (fun H locs hP hD hS => ?_)
        have hP : va_P G.1 vwCl (MC G a (upd (upd g_138 4 (f_X7_isNext g_138 T (nI 58) (nI 58))) 3 ((g_138 3) + (nI 1))) M T Y_138) H := hP
        have hD : va_D A (MC G a (upd (upd g_138 4 (f_X7_isNext g_138 T (nI 58) (nI 58))) 3 ((g_138 3) + (nI 1))) M T Y_138) := hD
        exact h_X7_reads_191 (upd (upd g_138 4 (f_X7_isNext g_138 T (nI 58) (nI 58))) 3 ((g_138 3) + (nI 1))) Y_138 kd one (atStep (isNextIn c_10 h3 h2)).1 h2 hc5 (hE.trans (by simp only [s_X7_reads_138, if_pos c_8, if_neg c_10])) _ _ _ hP hD hS (lv_sub hl [1, 2, 3] rfl)
    · refine lv_iload_n hx hb dX7_reads_146 rfl (lv_at hl 2 rfl) ?_
      refine lv_bipush (v := (nI 119)) hx hb dX7_reads_147 (by decide) ?_
      refine lv_icmp_eq (tgt := 158) hx hb dX7_reads_149 (by decide) (fun c_17 => ?_) (fun c_17 => ?_)
      · refine lv_aload_n hx hb dX7_reads_158 rfl (lv_at hl 3 rfl) ?_
        refine lv_aload_n hx hb dX7_reads_159 rfl (lv_at hl 3 rfl) ?_
        refine lv_bipush (v := (nI 58)) hx hb dX7_reads_160 (by decide) ?_
        refine lv_bipush (v := (nI 58)) hx hb dX7_reads_162 (by decide) ?_
        refine gcall_I (run_V (As := [.int (nI 58), .int (nI 58)]) (rest := [.ref (a 0)]) C0 hK hP hD (c_X7_isNext l G a g_138 M T Y_138 H.size (nI 58) (nI 58) h3 h2) (cwV 2 hts gX7_reads_X7_isNext rfl rfl rfl cd_X7_isNext ⟨Nat.le_of_ble_eq_true rfl, Nat.le_of_ble_eq_true rfl⟩) [0, 1, 2, 3] rfl rfl 0 (ci := 7) rfl rfl rfl rfl hl.1 rfl (Nat.le_of_ble_eq_true rfl) dX7_reads_164 ⟨Nat.le_of_ble_eq_true rfl, Nat.le_of_ble_eq_true rfl⟩) hP hD hS hA [0, 1, 2, 3] rfl rfl (fun _ => rfl) (fun r_18 _ H locs hw_18 hP hD hS => ?_)
        have hz_r_18 := hw_18.2
        have hw_18 := hw_18.1
        subst hw_18
        have hP : va_P G.1 vwCl (MC G a g_138 M T Y_138) H := hP
        have hD : va_D A (MC G a g_138 M T Y_138) := hD
        refine va_put (D := G.1) (ci := 7) (v := .int (f_X7_isNext g_138 T (nI 58) (nI 58))) (ty := .boolean) (C := RX7) (T := TX7) (N := 11) hx hb hts in_X7_reads_RX7 tyX7 tyX7_ok nmX7 hown hK.1 hP hD hS 0 rfl rfl 6 (by decide) (hts _ k_X7_reads_f107) (fun _ h9 => h9) rfl (by decide +kernel) (nar_bool hz_r_18) (fit_bool hz_r_18) (Nat.le_of_ble_eq_true rfl) dX7_reads_167 (fun H locs hP hD hS => ?_)
        have hP : va_P G.1 vwCl (MC G a (upd g_138 4 (f_X7_isNext g_138 T (nI 58) (nI 58))) M T Y_138) H := hP
        have hD : va_D A (MC G a (upd g_138 4 (f_X7_isNext g_138 T (nI 58) (nI 58))) M T Y_138) := hD
        refine lv_aload_n hx hb dX7_reads_170 rfl (lv_at hl 3 rfl) ?_
        refine lv_dup hx hb dX7_reads_171 rfl ?_
        refine va_get (D := G.1) (ci := 7) (v := .int (g_138 3)) (C := RX7) (T := TX7) (N := 11) hx hb hts in_X7_reads_RX7 hown hK.1 hP 0 rfl rfl 5 (by decide) (hts _ k_X7_reads_f111) (fun _ h9 => h9) rfl dX7_reads_172 ?_
        refine lv_aload_n hx hb dX7_reads_175 rfl (lv_at hl 3 rfl) ?_
        refine va_get (D := G.1) (ci := 7) (v := .int (f_X7_isNext g_138 T (nI 58) (nI 58))) (C := RX7) (T := TX7) (N := 11) hx hb hts in_X7_reads_RX7 hown hK.1 hP 0 rfl rfl 6 (by decide) (hts _ k_X7_reads_f107) (fun _ h9 => h9) rfl dX7_reads_176 ?_
        refine lv_if_eq (tgt := 186) hx hb dX7_reads_179 (by decide) (fun c_19 => ?_) (fun c_19 => ?_)
        · refine lv_iconst (v := (nI 0)) hx hb dX7_reads_186 (by decide) ?_
          refine lv_iadd hx hb dX7_reads_187 ?_
          refine va_put (D := G.1) (ci := 7) (v := .int ((g_138 3) + (nI 0))) (ty := .int) (C := RX7) (T := TX7) (N := 11) hx hb hts in_X7_reads_RX7 tyX7 tyX7_ok nmX7 hown hK.1 hP hD hS 0 rfl rfl 5 (by decide) (hts _ k_X7_reads_f111) (fun _ h9 => h9) rfl (by decide +kernel) rfl rfl (Nat.le_of_ble_eq_true rfl) dX7_reads_188 (fun H locs hP hD hS => ?_)
          have hP : va_P G.1 vwCl (MC G a (upd (upd g_138 4 (f_X7_isNext g_138 T (nI 58) (nI 58))) 3 ((g_138 3) + (nI 0))) M T Y_138) H := hP
          have hD : va_D A (MC G a (upd (upd g_138 4 (f_X7_isNext g_138 T (nI 58) (nI 58))) 3 ((g_138 3) + (nI 0))) M T Y_138) := hD
          exact h_X7_reads_191 (upd (upd g_138 4 (f_X7_isNext g_138 T (nI 58) (nI 58))) 3 ((g_138 3) + (nI 0))) Y_138 kd one (show ¬ (g_138 3) + nI 0 < 0 by rw [nI0, Int32.add_zero]; exact h3) h2 hc5 (hE.trans (by simp only [s_X7_reads_138, if_neg c_8, if_pos c_17, if_pos c_19])) _ _ _ hP hD hS (lv_sub hl [1, 2, 3] rfl)
        · refine lv_iconst (v := (nI 1)) hx hb dX7_reads_182 (by decide) ?_
          refine lv_goto (tgt := 187) hx hb dX7_reads_183 (by decide) ?_
          refine lv_iadd hx hb dX7_reads_187 ?_
          refine va_put (D := G.1) (ci := 7) (v := .int ((g_138 3) + (nI 1))) (ty := .int) (C := RX7) (T := TX7) (N := 11) hx hb hts in_X7_reads_RX7 tyX7 tyX7_ok nmX7 hown hK.1 hP hD hS 0 rfl rfl 5 (by decide) (hts _ k_X7_reads_f111) (fun _ h9 => h9) rfl (by decide +kernel) rfl rfl (Nat.le_of_ble_eq_true rfl) dX7_reads_188 (fun H locs hP hD hS => ?_)
          have hP : va_P G.1 vwCl (MC G a (upd (upd g_138 4 (f_X7_isNext g_138 T (nI 58) (nI 58))) 3 ((g_138 3) + (nI 1))) M T Y_138) H := hP
          have hD : va_D A (MC G a (upd (upd g_138 4 (f_X7_isNext g_138 T (nI 58) (nI 58))) 3 ((g_138 3) + (nI 1))) M T Y_138) := hD
          exact h_X7_reads_191 (upd (upd g_138 4 (f_X7_isNext g_138 T (nI 58) (nI 58))) 3 ((g_138 3) + (nI 1))) Y_138 kd one (atStep (isNextIn c_19 h3 h2)).1 h2 hc5 (hE.trans (by simp only [s_X7_reads_138, if_neg c_8, if_pos c_17, if_neg c_19])) _ _ _ hP hD hS (lv_sub hl [1, 2, 3] rfl)
      · refine lv_iload_n hx hb dX7_reads_152 rfl (lv_at hl 2 rfl) ?_
        refine lv_bipush (v := (nI 109)) hx hb dX7_reads_153 (by decide) ?_
        refine lv_icmp_ne (tgt := 220) hx hb dX7_reads_155 (by decide) (fun c_20 => ?_) (fun c_20 => ?_)
        · exact h_X7_reads_220 g_138 Y_138 kd one (nI 0) h3 h2 hc5 (hE.trans (by simp only [s_X7_reads_138, if_neg c_8, if_neg c_17, if_neg c_20])) _ _ _ hP hD hS (lv_sub hl [0, 1, 2, 3] rfl)
        · refine lv_aload_n hx hb dX7_reads_158 rfl (lv_at hl 3 rfl) ?_
          refine lv_aload_n hx hb dX7_reads_159 rfl (lv_at hl 3 rfl) ?_
          refine lv_bipush (v := (nI 58)) hx hb dX7_reads_160 (by decide) ?_
          refine lv_bipush (v := (nI 58)) hx hb dX7_reads_162 (by decide) ?_
          refine gcall_I (run_V (As := [.int (nI 58), .int (nI 58)]) (rest := [.ref (a 0)]) C0 hK hP hD (c_X7_isNext l G a g_138 M T Y_138 H.size (nI 58) (nI 58) h3 h2) (cwV 2 hts gX7_reads_X7_isNext rfl rfl rfl cd_X7_isNext ⟨Nat.le_of_ble_eq_true rfl, Nat.le_of_ble_eq_true rfl⟩) [0, 1, 2, 3] rfl rfl 0 (ci := 7) rfl rfl rfl rfl hl.1 rfl (Nat.le_of_ble_eq_true rfl) dX7_reads_164 ⟨Nat.le_of_ble_eq_true rfl, Nat.le_of_ble_eq_true rfl⟩) hP hD hS hA [0, 1, 2, 3] rfl rfl (fun _ => rfl) (fun r_21 _ H locs hw_21 hP hD hS => ?_)
          have hz_r_21 := hw_21.2
          have hw_21 := hw_21.1
          subst hw_21
          have hP : va_P G.1 vwCl (MC G a g_138 M T Y_138) H := hP
          have hD : va_D A (MC G a g_138 M T Y_138) := hD
          refine va_put (D := G.1) (ci := 7) (v := .int (f_X7_isNext g_138 T (nI 58) (nI 58))) (ty := .boolean) (C := RX7) (T := TX7) (N := 11) hx hb hts in_X7_reads_RX7 tyX7 tyX7_ok nmX7 hown hK.1 hP hD hS 0 rfl rfl 6 (by decide) (hts _ k_X7_reads_f107) (fun _ h9 => h9) rfl (by decide +kernel) (nar_bool hz_r_21) (fit_bool hz_r_21) (Nat.le_of_ble_eq_true rfl) dX7_reads_167 (fun H locs hP hD hS => ?_)
          have hP : va_P G.1 vwCl (MC G a (upd g_138 4 (f_X7_isNext g_138 T (nI 58) (nI 58))) M T Y_138) H := hP
          have hD : va_D A (MC G a (upd g_138 4 (f_X7_isNext g_138 T (nI 58) (nI 58))) M T Y_138) := hD
          refine lv_aload_n hx hb dX7_reads_170 rfl (lv_at hl 3 rfl) ?_
          refine lv_dup hx hb dX7_reads_171 rfl ?_
          refine va_get (D := G.1) (ci := 7) (v := .int (g_138 3)) (C := RX7) (T := TX7) (N := 11) hx hb hts in_X7_reads_RX7 hown hK.1 hP 0 rfl rfl 5 (by decide) (hts _ k_X7_reads_f111) (fun _ h9 => h9) rfl dX7_reads_172 ?_
          refine lv_aload_n hx hb dX7_reads_175 rfl (lv_at hl 3 rfl) ?_
          refine va_get (D := G.1) (ci := 7) (v := .int (f_X7_isNext g_138 T (nI 58) (nI 58))) (C := RX7) (T := TX7) (N := 11) hx hb hts in_X7_reads_RX7 hown hK.1 hP 0 rfl rfl 6 (by decide) (hts _ k_X7_reads_f107) (fun _ h9 => h9) rfl dX7_reads_176 ?_
          refine lv_if_eq (tgt := 186) hx hb dX7_reads_179 (by decide) (fun c_22 => ?_) (fun c_22 => ?_)
          · refine lv_iconst (v := (nI 0)) hx hb dX7_reads_186 (by decide) ?_
            refine lv_iadd hx hb dX7_reads_187 ?_
            refine va_put (D := G.1) (ci := 7) (v := .int ((g_138 3) + (nI 0))) (ty := .int) (C := RX7) (T := TX7) (N := 11) hx hb hts in_X7_reads_RX7 tyX7 tyX7_ok nmX7 hown hK.1 hP hD hS 0 rfl rfl 5 (by decide) (hts _ k_X7_reads_f111) (fun _ h9 => h9) rfl (by decide +kernel) rfl rfl (Nat.le_of_ble_eq_true rfl) dX7_reads_188 (fun H locs hP hD hS => ?_)
            have hP : va_P G.1 vwCl (MC G a (upd (upd g_138 4 (f_X7_isNext g_138 T (nI 58) (nI 58))) 3 ((g_138 3) + (nI 0))) M T Y_138) H := hP
            have hD : va_D A (MC G a (upd (upd g_138 4 (f_X7_isNext g_138 T (nI 58) (nI 58))) 3 ((g_138 3) + (nI 0))) M T Y_138) := hD
            exact h_X7_reads_191 (upd (upd g_138 4 (f_X7_isNext g_138 T (nI 58) (nI 58))) 3 ((g_138 3) + (nI 0))) Y_138 kd one (show ¬ (g_138 3) + nI 0 < 0 by rw [nI0, Int32.add_zero]; exact h3) h2 hc5 (hE.trans (by simp only [s_X7_reads_138, if_neg c_8, if_neg c_17, if_pos c_20, if_pos c_22])) _ _ _ hP hD hS (lv_sub hl [1, 2, 3] rfl)
          · refine lv_iconst (v := (nI 1)) hx hb dX7_reads_182 (by decide) ?_
            refine lv_goto (tgt := 187) hx hb dX7_reads_183 (by decide) ?_
            refine lv_iadd hx hb dX7_reads_187 ?_
            refine va_put (D := G.1) (ci := 7) (v := .int ((g_138 3) + (nI 1))) (ty := .int) (C := RX7) (T := TX7) (N := 11) hx hb hts in_X7_reads_RX7 tyX7 tyX7_ok nmX7 hown hK.1 hP hD hS 0 rfl rfl 5 (by decide) (hts _ k_X7_reads_f111) (fun _ h9 => h9) rfl (by decide +kernel) rfl rfl (Nat.le_of_ble_eq_true rfl) dX7_reads_188 (fun H locs hP hD hS => ?_)
            have hP : va_P G.1 vwCl (MC G a (upd (upd g_138 4 (f_X7_isNext g_138 T (nI 58) (nI 58))) 3 ((g_138 3) + (nI 1))) M T Y_138) H := hP
            have hD : va_D A (MC G a (upd (upd g_138 4 (f_X7_isNext g_138 T (nI 58) (nI 58))) 3 ((g_138 3) + (nI 1))) M T Y_138) := hD
            exact h_X7_reads_191 (upd (upd g_138 4 (f_X7_isNext g_138 T (nI 58) (nI 58))) 3 ((g_138 3) + (nI 1))) Y_138 kd one (atStep (isNextIn c_22 h3 h2)).1 h2 hc5 (hE.trans (by simp only [s_X7_reads_138, if_neg c_8, if_neg c_17, if_pos c_20, if_neg c_22])) _ _ _ hP hD hS (lv_sub hl [1, 2, 3] rfl)
  have h_X7_reads_99 : ∀ (g_99 : (Nat → Int32)) (Y_99 : (Nat → Int32)) (kd : Int32), (¬ g_99 3 < 0) → (g_99 2 ≤ nI 80) → (g_99 5 = nI cm) → f_X7_reads g T Y cm = s_X7_reads_99 T cm g_99 Y_99 kd → ∀ (H : Heap) (locs : List Loc) (ls : Array Slot), va_P G.1 vwCl (MC G a g_99 M T Y_99) H → va_D A (MC G a g_99 M T Y_99) → va_S A s.heap H locs → lv_has ls 4 [(1, .int kd), (0, .ref (a 0))] → W p l e ({ frames := 3, cells := 0, slots := 0, locals := 65 }) s m ([.ref (a 0)] : List Value).toArray below meth c H locs 0 0 (MQ below (PV G A (fun u : (Nat → Int32) × (Nat → Int32) => f_X7_reads g T Y cm = u) (fun u : (Nat → Int32) × (Nat → Int32) => MC G a u.1 M T u.2)) ([.ref (a 0)] : List Value).toArray s 0 0 A) (F0 m 99 ls []) := by
    intro g_99 Y_99 kd h3 h2 hc5 hE H locs ls hP hD hS hl
    refine lv_iload_n hx hb dX7_reads_99 rfl (lv_at hl 0 rfl) ?_
    refine lv_bipush (v := (nI 116)) hx hb dX7_reads_100 (by decide) ?_
    refine lv_icmp_ne (tgt := 112) hx hb dX7_reads_102 (by decide) (fun c_4 => ?_) (fun c_4 => ?_)
    · refine lv_aload_n hx hb dX7_reads_112 rfl (lv_at hl 1 rfl) ?_
      refine lv_iload_n hx hb dX7_reads_113 rfl (lv_at hl 0 rfl) ?_
      refine lv_bipush (v := (nI 109)) hx hb dX7_reads_114 (by decide) ?_
      refine lv_icmp_ne (tgt := 123) hx hb dX7_reads_116 (by decide) (fun c_5 => ?_) (fun c_5 => ?_)
      · refine lv_iload_n hx hb dX7_reads_123 rfl (lv_at hl 0 rfl) ?_
        refine lv_bipush (v := (nI 108)) hx hb dX7_reads_124 (by decide) ?_
        refine lv_icmp_ne (tgt := 133) hx hb dX7_reads_126 (by decide) (fun c_6 => ?_) (fun c_6 => ?_)
        · refine lv_iconst (v := (nI 1)) hx hb dX7_reads_133 (by decide) ?_
          refine gcall_I (run_V (As := [.int (nI 1)]) (rest := []) C0 hK hP hD (c_X7_digit l G a g_99 M T Y_99 H.size (nI 1) h3 h2) (cwV 1 hts gX7_reads_X7_digit rfl rfl rfl cd_X7_digit ⟨Nat.le_of_ble_eq_true rfl, Nat.le_of_ble_eq_true rfl⟩) [0, 1, 2, 3] rfl rfl 0 (ci := 7) rfl rfl rfl rfl hl.1 rfl (Nat.le_of_ble_eq_true rfl) dX7_reads_134 ⟨Nat.le_of_ble_eq_true rfl, Nat.le_of_ble_eq_true rfl⟩) hP hD hS hA [0, 1, 2, 3] rfl rfl (fun _ => rfl) (fun r_7 u_7 H locs hw_7 hP hD hS => ?_)
          obtain ⟨g_c7, rfl⟩ : ∃ z, z = u_7 := ⟨_, rfl⟩
          have hP : va_P G.1 vwCl (MC G a g_c7 M T Y_99) H := hP
          have hD : va_D A (MC G a g_c7 M T Y_99) := hD
          refine lv_istore_n (lv' := [(2, .int r_7), (1, .int kd), (0, .ref (a 0))]) hx hb dX7_reads_137 rfl hl (by decide) rfl (fun ls hl => ?_)
          exact h_X7_reads_138 g_c7 Y_99 kd r_7 (digit_ok h3 h2 hw_7).1 (by rw [(digit_ok h3 h2 hw_7).2.1]; exact h2) ((digit_ok h3 h2 hw_7).2.2.1.trans hc5) (hE.trans (by simp only [s_X7_reads_99, if_neg c_4, if_neg c_5, if_neg c_6, hw_7])) _ _ _ hP hD hS (lv_sub hl [0, 1, 2] rfl)
        · refine lv_iconst (v := (nI 2)) hx hb dX7_reads_129 (by decide) ?_
          refine lv_goto (tgt := 134) hx hb dX7_reads_130 (by decide) ?_
          refine gcall_I (run_V (As := [.int (nI 2)]) (rest := []) C0 hK hP hD (c_X7_digit l G a g_99 M T Y_99 H.size (nI 2) h3 h2) (cwV 1 hts gX7_reads_X7_digit rfl rfl rfl cd_X7_digit ⟨Nat.le_of_ble_eq_true rfl, Nat.le_of_ble_eq_true rfl⟩) [0, 1, 2, 3] rfl rfl 0 (ci := 7) rfl rfl rfl rfl hl.1 rfl (Nat.le_of_ble_eq_true rfl) dX7_reads_134 ⟨Nat.le_of_ble_eq_true rfl, Nat.le_of_ble_eq_true rfl⟩) hP hD hS hA [0, 1, 2, 3] rfl rfl (fun _ => rfl) (fun r_23 u_23 H locs hw_23 hP hD hS => ?_)
          obtain ⟨g_c23, rfl⟩ : ∃ z, z = u_23 := ⟨_, rfl⟩
          have hP : va_P G.1 vwCl (MC G a g_c23 M T Y_99) H := hP
          have hD : va_D A (MC G a g_c23 M T Y_99) := hD
          refine lv_istore_n (lv' := [(2, .int r_23), (1, .int kd), (0, .ref (a 0))]) hx hb dX7_reads_137 rfl hl (by decide) rfl (fun ls hl => ?_)
          exact h_X7_reads_138 g_c23 Y_99 kd r_23 (digit_ok h3 h2 hw_23).1 (by rw [(digit_ok h3 h2 hw_23).2.1]; exact h2) ((digit_ok h3 h2 hw_23).2.2.1.trans hc5) (hE.trans (by simp only [s_X7_reads_99, if_neg c_4, if_neg c_5, if_pos c_6, hw_23])) _ _ _ hP hD hS (lv_sub hl [0, 1, 2] rfl)
      · refine lv_iconst (v := (nI 3)) hx hb dX7_reads_119 (by decide) ?_
        refine lv_goto (tgt := 134) hx hb dX7_reads_120 (by decide) ?_
        refine gcall_I (run_V (As := [.int (nI 3)]) (rest := []) C0 hK hP hD (c_X7_digit l G a g_99 M T Y_99 H.size (nI 3) h3 h2) (cwV 1 hts gX7_reads_X7_digit rfl rfl rfl cd_X7_digit ⟨Nat.le_of_ble_eq_true rfl, Nat.le_of_ble_eq_true rfl⟩) [0, 1, 2, 3] rfl rfl 0 (ci := 7) rfl rfl rfl rfl hl.1 rfl (Nat.le_of_ble_eq_true rfl) dX7_reads_134 ⟨Nat.le_of_ble_eq_true rfl, Nat.le_of_ble_eq_true rfl⟩) hP hD hS hA [0, 1, 2, 3] rfl rfl (fun _ => rfl) (fun r_24 u_24 H locs hw_24 hP hD hS => ?_)
        obtain ⟨g_c24, rfl⟩ : ∃ z, z = u_24 := ⟨_, rfl⟩
        have hP : va_P G.1 vwCl (MC G a g_c24 M T Y_99) H := hP
        have hD : va_D A (MC G a g_c24 M T Y_99) := hD
        refine lv_istore_n (lv' := [(2, .int r_24), (1, .int kd), (0, .ref (a 0))]) hx hb dX7_reads_137 rfl hl (by decide) rfl (fun ls hl => ?_)
        exact h_X7_reads_138 g_c24 Y_99 kd r_24 (digit_ok h3 h2 hw_24).1 (by rw [(digit_ok h3 h2 hw_24).2.1]; exact h2) ((digit_ok h3 h2 hw_24).2.2.1.trans hc5) (hE.trans (by simp only [s_X7_reads_99, if_neg c_4, if_pos c_5, hw_24])) _ _ _ hP hD hS (lv_sub hl [0, 1, 2] rfl)
    · refine lv_aload_n hx hb dX7_reads_105 rfl (lv_at hl 1 rfl) ?_
      refine gcall_I (run_V (As := []) (rest := []) C0 hK hP hD (c_X7_number l G a g_99 M T Y_99 H.size  h3 h2) (cwV 0 hts gX7_reads_X7_number rfl rfl rfl cd_X7_number ⟨Nat.le_of_ble_eq_true rfl, Nat.le_of_ble_eq_true rfl⟩) [0, 1, 2, 3] rfl rfl 0 (ci := 7) rfl rfl rfl rfl hl.1 rfl (Nat.le_of_ble_eq_true rfl) dX7_reads_106 ⟨Nat.le_of_ble_eq_true rfl, Nat.le_of_ble_eq_true rfl⟩) hP hD hS hA [0, 1, 2, 3] rfl rfl (fun _ => rfl) (fun r_25 u_25 H locs hw_25 hP hD hS => ?_)
      obtain ⟨g_c25, rfl⟩ : ∃ z, z = u_25 := ⟨_, rfl⟩
      have hP : va_P G.1 vwCl (MC G a g_c25 M T Y_99) H := hP
      have hD : va_D A (MC G a g_c25 M T Y_99) := hD
      refine lv_goto (tgt := 137) hx hb dX7_reads_109 (by decide) ?_
      refine lv_istore_n (lv' := [(2, .int r_25), (1, .int kd), (0, .ref (a 0))]) hx hb dX7_reads_137 rfl hl (by decide) rfl (fun ls hl => ?_)
      exact h_X7_reads_138 g_c25 Y_99 kd r_25 (number_ok h3 h2 hw_25).1 (by rw [(number_ok h3 h2 hw_25).2.1]; exact h2) ((number_ok h3 h2 hw_25).2.2.1.trans hc5) (hE.trans (by simp only [s_X7_reads_99, if_pos c_4, hw_25])) _ _ _ hP hD hS (lv_sub hl [0, 1, 2] rfl)
  have h_X7_reads_78 : ∀ (g_78 : (Nat → Int32)) (Y_78 : (Nat → Int32)) (kd : Int32), (¬ g_78 3 < 0) → (g_78 2 ≤ nI 80) → (g_78 5 = nI cm) → (¬ g_78 4 = 0 → vp_in (g_78 3) 80) → f_X7_reads g T Y cm = s_X7_reads_78 T cm g_78 Y_78 kd → ∀ (H : Heap) (locs : List Loc) (ls : Array Slot), va_P G.1 vwCl (MC G a g_78 M T Y_78) H → va_D A (MC G a g_78 M T Y_78) → va_S A s.heap H locs → lv_has ls 4 [(1, .int kd), (0, .ref (a 0))] → W p l e ({ frames := 3, cells := 0, slots := 0, locals := 65 }) s m ([.ref (a 0)] : List Value).toArray below meth c H locs 0 0 (MQ below (PV G A (fun u : (Nat → Int32) × (Nat → Int32) => f_X7_reads g T Y cm = u) (fun u : (Nat → Int32) × (Nat → Int32) => MC G a u.1 M T u.2)) ([.ref (a 0)] : List Value).toArray s 0 0 A) (F0 m 78 ls []) := by
    intro g_78 Y_78 kd h3 h2 hc5 hk hE H locs ls hP hD hS hl
    refine lv_aload_n hx hb dX7_reads_78 rfl (lv_at hl 1 rfl) ?_
    refine lv_dup hx hb dX7_reads_79 rfl ?_
    refine va_get (D := G.1) (ci := 7) (v := .int (g_78 3)) (C := RX7) (T := TX7) (N := 11) hx hb hts in_X7_reads_RX7 hown hK.1 hP 0 rfl rfl 5 (by decide) (hts _ k_X7_reads_f111) (fun _ h9 => h9) rfl dX7_reads_80 ?_
    refine lv_aload_n hx hb dX7_reads_83 rfl (lv_at hl 1 rfl) ?_
    refine va_get (D := G.1) (ci := 7) (v := .int (g_78 4)) (C := RX7) (T := TX7) (N := 11) hx hb hts in_X7_reads_RX7 hown hK.1 hP 0 rfl rfl 6 (by decide) (hts _ k_X7_reads_f107) (fun _ h9 => h9) rfl dX7_reads_84 ?_
    refine lv_if_eq (tgt := 94) hx hb dX7_reads_87 (by decide) (fun c_3 => ?_) (fun c_3 => ?_)
    · refine lv_iconst (v := (nI 0)) hx hb dX7_reads_94 (by decide) ?_
      refine lv_iadd hx hb dX7_reads_95 ?_
      refine va_put (D := G.1) (ci := 7) (v := .int ((g_78 3) + (nI 0))) (ty := .int) (C := RX7) (T := TX7) (N := 11) hx hb hts in_X7_reads_RX7 tyX7 tyX7_ok nmX7 hown hK.1 hP hD hS 0 rfl rfl 5 (by decide) (hts _ k_X7_reads_f111) (fun _ h9 => h9) rfl (by decide +kernel) rfl rfl (Nat.le_of_ble_eq_true rfl) dX7_reads_96 (fun H locs hP hD hS => ?_)
      have hP : va_P G.1 vwCl (MC G a (upd g_78 3 ((g_78 3) + (nI 0))) M T Y_78) H := hP
      have hD : va_D A (MC G a (upd g_78 3 ((g_78 3) + (nI 0))) M T Y_78) := hD
      exact h_X7_reads_99 (upd g_78 3 ((g_78 3) + (nI 0))) Y_78 kd (show ¬ (g_78 3) + nI 0 < 0 by rw [nI0, Int32.add_zero]; exact h3) h2 hc5 (hE.trans (by simp only [s_X7_reads_78, if_pos c_3])) _ _ _ hP hD hS (lv_sub hl [0, 1] rfl)
    · refine lv_iconst (v := (nI 1)) hx hb dX7_reads_90 (by decide) ?_
      refine lv_goto (tgt := 95) hx hb dX7_reads_91 (by decide) ?_
      refine lv_iadd hx hb dX7_reads_95 ?_
      refine va_put (D := G.1) (ci := 7) (v := .int ((g_78 3) + (nI 1))) (ty := .int) (C := RX7) (T := TX7) (N := 11) hx hb hts in_X7_reads_RX7 tyX7 tyX7_ok nmX7 hown hK.1 hP hD hS 0 rfl rfl 5 (by decide) (hts _ k_X7_reads_f111) (fun _ h9 => h9) rfl (by decide +kernel) rfl rfl (Nat.le_of_ble_eq_true rfl) dX7_reads_96 (fun H locs hP hD hS => ?_)
      have hP : va_P G.1 vwCl (MC G a (upd g_78 3 ((g_78 3) + (nI 1))) M T Y_78) H := hP
      have hD : va_D A (MC G a (upd g_78 3 ((g_78 3) + (nI 1))) M T Y_78) := hD
      exact h_X7_reads_99 (upd g_78 3 ((g_78 3) + (nI 1))) Y_78 kd (atStep (hk c_3)).1 h2 hc5 (hE.trans (by simp only [s_X7_reads_78, if_neg c_3])) _ _ _ hP hD hS (lv_sub hl [0, 1] rfl)
  have h_X7_reads_32 : ∀ (g_32 : (Nat → Int32)) (Y_32 : (Nat → Int32)) (kd : Int32), (¬ g_32 3 < 0) → (g_32 2 ≤ nI 80) → (g_32 5 = nI cm) → (¬ kd = 0 → vp_in (g_32 3) 80) → f_X7_reads g T Y cm = s_X7_reads_32 T cm g_32 Y_32 kd → ∀ (H : Heap) (locs : List Loc) (ls : Array Slot), va_P G.1 vwCl (MC G a g_32 M T Y_32) H → va_D A (MC G a g_32 M T Y_32) → va_S A s.heap H locs → lv_has ls 4 [(1, .int kd), (0, .ref (a 0))] → W p l e ({ frames := 3, cells := 0, slots := 0, locals := 65 }) s m ([.ref (a 0)] : List Value).toArray below meth c H locs 0 0 (MQ below (PV G A (fun u : (Nat → Int32) × (Nat → Int32) => f_X7_reads g T Y cm = u) (fun u : (Nat → Int32) × (Nat → Int32) => MC G a u.1 M T u.2)) ([.ref (a 0)] : List Value).toArray s 0 0 A) (F0 m 32 ls []) := by
    intro g_32 Y_32 kd h3 h2 hc5 hk hE H locs ls hP hD hS hl
    refine lv_aload_n hx hb dX7_reads_32 rfl (lv_at hl 1 rfl) ?_
    refine lv_aload_n hx hb dX7_reads_33 rfl (lv_at hl 1 rfl) ?_
    refine va_get (D := G.1) (ci := 7) (v := .int (g_32 4)) (C := RX7) (T := TX7) (N := 11) hx hb hts in_X7_reads_RX7 hown hK.1 hP 0 rfl rfl 6 (by decide) (hts _ k_X7_reads_f107) (fun _ h9 => h9) rfl dX7_reads_34 ?_
    refine lv_if_eq (tgt := 74) hx hb dX7_reads_37 (by decide) (fun c_2 => ?_) (fun c_2 => ?_)
    · refine lv_iconst (v := (nI 0)) hx hb dX7_reads_74 (by decide) ?_
      refine va_put (D := G.1) (ci := 7) (v := .int (nI 0)) (ty := .boolean) (C := RX7) (T := TX7) (N := 11) hx hb hts in_X7_reads_RX7 tyX7 tyX7_ok nmX7 hown hK.1 hP hD hS 0 rfl rfl 6 (by decide) (hts _ k_X7_reads_f107) (fun _ h9 => h9) rfl (by decide +kernel) (by decide) rfl (Nat.le_of_ble_eq_true rfl) dX7_reads_75 (fun H locs hP hD hS => ?_)
      have hP : va_P G.1 vwCl (MC G a (upd g_32 4 (nI 0)) M T Y_32) H := hP
      have hD : va_D A (MC G a (upd g_32 4 (nI 0)) M T Y_32) := hD
      exact h_X7_reads_78 (upd g_32 4 (nI 0)) Y_32 kd h3 h2 hc5 (fun z => absurd (show nI 0 = 0 from rfl) z) (hE.trans (by simp only [s_X7_reads_32, if_pos c_2])) _ _ _ hP hD hS (lv_sub hl [0, 1] rfl)
    · refine lv_iload_n hx hb dX7_reads_40 rfl (lv_at hl 0 rfl) ?_
      refine lv_bipush (v := (nI 102)) hx hb dX7_reads_41 (by decide) ?_
      refine lv_icmp_eq (tgt := 70) hx hb dX7_reads_43 (by decide) (fun c_26 => ?_) (fun c_26 => ?_)
      · refine lv_iconst (v := (nI 1)) hx hb dX7_reads_70 (by decide) ?_
        refine lv_goto (tgt := 75) hx hb dX7_reads_71 (by decide) ?_
        refine va_put (D := G.1) (ci := 7) (v := .int (nI 1)) (ty := .boolean) (C := RX7) (T := TX7) (N := 11) hx hb hts in_X7_reads_RX7 tyX7 tyX7_ok nmX7 hown hK.1 hP hD hS 0 rfl rfl 6 (by decide) (hts _ k_X7_reads_f107) (fun _ h9 => h9) rfl (by decide +kernel) (by decide) rfl (Nat.le_of_ble_eq_true rfl) dX7_reads_75 (fun H locs hP hD hS => ?_)
        have hP : va_P G.1 vwCl (MC G a (upd g_32 4 (nI 1)) M T Y_32) H := hP
        have hD : va_D A (MC G a (upd g_32 4 (nI 1)) M T Y_32) := hD
        exact h_X7_reads_78 (upd g_32 4 (nI 1)) Y_32 kd h3 h2 hc5 (fun _ => hk (by rw [c_26]; decide)) (hE.trans (by simp only [s_X7_reads_32, if_neg c_2, if_pos c_26])) _ _ _ hP hD hS (lv_sub hl [0, 1] rfl)
      · refine lv_iload_n hx hb dX7_reads_46 rfl (lv_at hl 0 rfl) ?_
        refine lv_bipush (v := (nI 119)) hx hb dX7_reads_47 (by decide) ?_
        refine lv_icmp_eq (tgt := 70) hx hb dX7_reads_49 (by decide) (fun c_27 => ?_) (fun c_27 => ?_)
        · refine lv_iconst (v := (nI 1)) hx hb dX7_reads_70 (by decide) ?_
          refine lv_goto (tgt := 75) hx hb dX7_reads_71 (by decide) ?_
          refine va_put (D := G.1) (ci := 7) (v := .int (nI 1)) (ty := .boolean) (C := RX7) (T := TX7) (N := 11) hx hb hts in_X7_reads_RX7 tyX7 tyX7_ok nmX7 hown hK.1 hP hD hS 0 rfl rfl 6 (by decide) (hts _ k_X7_reads_f107) (fun _ h9 => h9) rfl (by decide +kernel) (by decide) rfl (Nat.le_of_ble_eq_true rfl) dX7_reads_75 (fun H locs hP hD hS => ?_)
          have hP : va_P G.1 vwCl (MC G a (upd g_32 4 (nI 1)) M T Y_32) H := hP
          have hD : va_D A (MC G a (upd g_32 4 (nI 1)) M T Y_32) := hD
          exact h_X7_reads_78 (upd g_32 4 (nI 1)) Y_32 kd h3 h2 hc5 (fun _ => hk (by rw [c_27]; decide)) (hE.trans (by simp only [s_X7_reads_32, if_neg c_2, if_neg c_26, if_pos c_27])) _ _ _ hP hD hS (lv_sub hl [0, 1] rfl)
        · refine lv_iload_n hx hb dX7_reads_52 rfl (lv_at hl 0 rfl) ?_
          refine lv_bipush (v := (nI 109)) hx hb dX7_reads_53 (by decide) ?_
          refine lv_icmp_eq (tgt := 70) hx hb dX7_reads_55 (by decide) (fun c_28 => ?_) (fun c_28 => ?_)
          · refine lv_iconst (v := (nI 1)) hx hb dX7_reads_70 (by decide) ?_
            refine lv_goto (tgt := 75) hx hb dX7_reads_71 (by decide) ?_
            refine va_put (D := G.1) (ci := 7) (v := .int (nI 1)) (ty := .boolean) (C := RX7) (T := TX7) (N := 11) hx hb hts in_X7_reads_RX7 tyX7 tyX7_ok nmX7 hown hK.1 hP hD hS 0 rfl rfl 6 (by decide) (hts _ k_X7_reads_f107) (fun _ h9 => h9) rfl (by decide +kernel) (by decide) rfl (Nat.le_of_ble_eq_true rfl) dX7_reads_75 (fun H locs hP hD hS => ?_)
            have hP : va_P G.1 vwCl (MC G a (upd g_32 4 (nI 1)) M T Y_32) H := hP
            have hD : va_D A (MC G a (upd g_32 4 (nI 1)) M T Y_32) := hD
            exact h_X7_reads_78 (upd g_32 4 (nI 1)) Y_32 kd h3 h2 hc5 (fun _ => hk (by rw [c_28]; decide)) (hE.trans (by simp only [s_X7_reads_32, if_neg c_2, if_neg c_26, if_neg c_27, if_pos c_28])) _ _ _ hP hD hS (lv_sub hl [0, 1] rfl)
          · refine lv_iload_n hx hb dX7_reads_58 rfl (lv_at hl 0 rfl) ?_
            refine lv_bipush (v := (nI 108)) hx hb dX7_reads_59 (by decide) ?_
            refine lv_icmp_eq (tgt := 70) hx hb dX7_reads_61 (by decide) (fun c_29 => ?_) (fun c_29 => ?_)
            · refine lv_iconst (v := (nI 1)) hx hb dX7_reads_70 (by decide) ?_
              refine lv_goto (tgt := 75) hx hb dX7_reads_71 (by decide) ?_
              refine va_put (D := G.1) (ci := 7) (v := .int (nI 1)) (ty := .boolean) (C := RX7) (T := TX7) (N := 11) hx hb hts in_X7_reads_RX7 tyX7 tyX7_ok nmX7 hown hK.1 hP hD hS 0 rfl rfl 6 (by decide) (hts _ k_X7_reads_f107) (fun _ h9 => h9) rfl (by decide +kernel) (by decide) rfl (Nat.le_of_ble_eq_true rfl) dX7_reads_75 (fun H locs hP hD hS => ?_)
              have hP : va_P G.1 vwCl (MC G a (upd g_32 4 (nI 1)) M T Y_32) H := hP
              have hD : va_D A (MC G a (upd g_32 4 (nI 1)) M T Y_32) := hD
              exact h_X7_reads_78 (upd g_32 4 (nI 1)) Y_32 kd h3 h2 hc5 (fun _ => hk (by rw [c_29]; decide)) (hE.trans (by simp only [s_X7_reads_32, if_neg c_2, if_neg c_26, if_neg c_27, if_neg c_28, if_pos c_29])) _ _ _ hP hD hS (lv_sub hl [0, 1] rfl)
            · refine lv_iload_n hx hb dX7_reads_64 rfl (lv_at hl 0 rfl) ?_
              refine lv_bipush (v := (nI 116)) hx hb dX7_reads_65 (by decide) ?_
              refine lv_icmp_ne (tgt := 74) hx hb dX7_reads_67 (by decide) (fun c_30 => ?_) (fun c_30 => ?_)
              · refine lv_iconst (v := (nI 0)) hx hb dX7_reads_74 (by decide) ?_
                refine va_put (D := G.1) (ci := 7) (v := .int (nI 0)) (ty := .boolean) (C := RX7) (T := TX7) (N := 11) hx hb hts in_X7_reads_RX7 tyX7 tyX7_ok nmX7 hown hK.1 hP hD hS 0 rfl rfl 6 (by decide) (hts _ k_X7_reads_f107) (fun _ h9 => h9) rfl (by decide +kernel) (by decide) rfl (Nat.le_of_ble_eq_true rfl) dX7_reads_75 (fun H locs hP hD hS => ?_)
                have hP : va_P G.1 vwCl (MC G a (upd g_32 4 (nI 0)) M T Y_32) H := hP
                have hD : va_D A (MC G a (upd g_32 4 (nI 0)) M T Y_32) := hD
                exact h_X7_reads_78 (upd g_32 4 (nI 0)) Y_32 kd h3 h2 hc5 (fun z => absurd (show nI 0 = 0 from rfl) z) (hE.trans (by simp only [s_X7_reads_32, if_neg c_2, if_neg c_26, if_neg c_27, if_neg c_28, if_neg c_29, if_neg c_30])) _ _ _ hP hD hS (lv_sub hl [0, 1] rfl)
              · refine lv_iconst (v := (nI 1)) hx hb dX7_reads_70 (by decide) ?_
                refine lv_goto (tgt := 75) hx hb dX7_reads_71 (by decide) ?_
                refine va_put (D := G.1) (ci := 7) (v := .int (nI 1)) (ty := .boolean) (C := RX7) (T := TX7) (N := 11) hx hb hts in_X7_reads_RX7 tyX7 tyX7_ok nmX7 hown hK.1 hP hD hS 0 rfl rfl 6 (by decide) (hts _ k_X7_reads_f107) (fun _ h9 => h9) rfl (by decide +kernel) (by decide) rfl (Nat.le_of_ble_eq_true rfl) dX7_reads_75 (fun H locs hP hD hS => ?_)
                have hP : va_P G.1 vwCl (MC G a (upd g_32 4 (nI 1)) M T Y_32) H := hP
                have hD : va_D A (MC G a (upd g_32 4 (nI 1)) M T Y_32) := hD
                exact h_X7_reads_78 (upd g_32 4 (nI 1)) Y_32 kd h3 h2 hc5 (fun _ => hk (by rw [c_30]; decide)) (hE.trans (by simp only [s_X7_reads_32, if_neg c_2, if_neg c_26, if_neg c_27, if_neg c_28, if_neg c_29, if_pos c_30])) _ _ _ hP hD hS (lv_sub hl [0, 1] rfl)
  refine lv_aload_n hx hb dX7_reads_0 rfl (lv_at hl 0 rfl) ?_
  refine va_get (D := G.1) (ci := 7) (v := .int (g 4)) (C := RX7) (T := TX7) (N := 11) hx hb hts in_X7_reads_RX7 hown hK.1 hP 0 rfl rfl 6 (by decide) (hts _ k_X7_reads_f107) (fun _ h9 => h9) rfl dX7_reads_1 ?_
  refine lv_if_eq (tgt := 30) hx hb dX7_reads_4 (by decide) (fun c_1 => ?_) (fun c_1 => ?_)
  · refine lv_iconst (v := (nI 0)) hx hb dX7_reads_30 (by decide) ?_
    refine lv_istore_n (lv' := [(1, .int (nI 0)), (0, .ref (a 0))]) hx hb dX7_reads_31 rfl hl (by decide) rfl (fun ls hl => ?_)
    exact h_X7_reads_32 g Y (nI 0) h3 h2 hc5 (fun z => absurd (show nI 0 = 0 from rfl) z) (by simp only [f_X7_reads, if_pos c_1]) _ _ _ hP hD hS (lv_sub hl [0, 1] rfl)
  · refine lv_aload_n hx hb dX7_reads_7 rfl (lv_at hl 0 rfl) ?_
    refine va_get (D := G.1) (ci := 7) (v := .int (g 3)) (C := RX7) (T := TX7) (N := 11) hx hb hts in_X7_reads_RX7 hown hK.1 hP 0 rfl rfl 5 (by decide) (hts _ k_X7_reads_f111) (fun _ h9 => h9) rfl dX7_reads_8 ?_
    refine lv_aload_n hx hb dX7_reads_11 rfl (lv_at hl 0 rfl) ?_
    refine va_get (D := G.1) (ci := 7) (v := .int (g 2)) (C := RX7) (T := TX7) (N := 11) hx hb hts in_X7_reads_RX7 hown hK.1 hP 0 rfl rfl 4 (by decide) (hts _ k_X7_reads_f114) (fun _ h9 => h9) rfl dX7_reads_12 ?_
    refine lv_icmp_ge (tgt := 30) hx hb dX7_reads_15 (by decide) (fun c_31 => ?_) (fun c_31 => ?_)
    · refine lv_iconst (v := (nI 0)) hx hb dX7_reads_30 (by decide) ?_
      refine lv_istore_n (lv' := [(1, .int (nI 0)), (0, .ref (a 0))]) hx hb dX7_reads_31 rfl hl (by decide) rfl (fun ls hl => ?_)
      exact h_X7_reads_32 g Y (nI 0) h3 h2 hc5 (fun z => absurd (show nI 0 = 0 from rfl) z) (by simp only [f_X7_reads, if_neg c_1, if_pos c_31]) _ _ _ hP hD hS (lv_sub hl [0, 1] rfl)
    · refine lv_aload_n hx hb dX7_reads_18 rfl (lv_at hl 0 rfl) ?_
      refine va_get (D := G.1) (ci := 7) (v := .ref (a 2)) (C := RX7) (T := TX7) (N := 11) hx hb hts in_X7_reads_RX7 hown hK.1 hP 0 rfl rfl 3 (by decide) (hts _ k_X7_reads_f13) (fun _ h9 => h9) rfl dX7_reads_19 ?_
      refine lv_aload_n hx hb dX7_reads_22 rfl (lv_at hl 0 rfl) ?_
      refine va_get (D := G.1) (ci := 7) (v := .int (g 3)) (C := RX7) (T := TX7) (N := 11) hx hb hts in_X7_reads_RX7 hown hK.1 hP 0 rfl rfl 5 (by decide) (hts _ k_X7_reads_f111) (fun _ h9 => h9) rfl dX7_reads_23 ?_
      refine va_cald (f := T) hx hb hK.1 hP 2 1 rfl rfl (vinLt h3 c_31 h2 (by decide)) dX7_reads_26 ?_
      refine lv_goto (tgt := 31) hx hb dX7_reads_27 (by decide) ?_
      refine lv_istore_n (lv' := [(1, .int (T (g 3).toNatClampNeg)), (0, .ref (a 0))]) hx hb dX7_reads_31 rfl hl (by decide) rfl (fun ls hl => ?_)
      exact h_X7_reads_32 g Y (T (g 3).toNatClampNeg) h3 h2 hc5 (fun _ => vinLt h3 c_31 h2 (by decide)) (by simp only [f_X7_reads, if_neg c_1, if_neg c_31]) _ _ _ hP hD hS (lv_sub hl [0, 1] rfl)
