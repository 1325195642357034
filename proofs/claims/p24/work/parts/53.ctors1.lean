-- GlulxStrings$Memory
theorem ku_code3 : Cond.code yX3_init cX3_init 1 none ∈ Uw := Uw_of (inT1 _ (List.mem_of_getElem? (i := 28) rfl)) rfl
def blX3 : List Value := [.null, .int 0]
def fsX3 (sz : Nat) : List Value := [.ref (sz + 0), .int 0]
def LX3 (w : Wd) (sz : Nat) : List va_E := ([] ++ [.inl (w.2.2 1, (4096, .inl (fun _ => 0)))])
theorem lenX3 (w : Wd) (sz : Nat) : (LX3 w sz).length = 1 := by
  unfold LX3
  first | (simp only [List.length_append, List.length_cons, List.length_nil, List.length_replicate]; done) | (simp only [List.length_append, List.length_cons, List.length_nil, List.length_replicate]; omega)
abbrev rmX3_init : Room := { frames := 1, cells := 1, slots := 4096, locals := 12 }
set_option maxHeartbeats 4000000 in
set_option maxRecDepth 100000 in
theorem kX3_init (l : Launch) (w : Wd) (h0 sz : Nat) : KMet l yX3_init cX3_init 1 rmX3_init w h0 3 blX3 (fsX3 sz) (LX3 w sz) sz [] 1 4096 := by
  refine k_met (by decide) rfl (Nat.le_of_ble_eq_true rfl) (fun p e s m below meth c ls E hz hl hC => ?_)
  subst hz
  obtain ⟨hx, hb, hml, hown, hts, -⟩ := id E
  replace hl : lv_has ls 1 [(0, .ref h0)] := hl
  refine lv_aload_n (pc := 0) hx hb dX3_init_0 rfl (lv_at hl 0 rfl) ?_
  refine k_obj (pc := 1) E hC ku0 hl.1 dX3_init_1 (Nat.le_of_ble_eq_true rfl) (Nat.le_of_ble_eq_true rfl) ku1 kuobj ?_
  refine lv_aload_n (pc := 4) hx hb dX3_init_4 rfl (lv_at hl 0 rfl) ?_
  refine lv_sipush (pc := 5) (v := 4096) hx hb dX3_init_5 (by decide) ?_
  refine k_newa (pc := 8) (ty := .byte) (a0 := (4096, .inl (fun _ => 0))) E hC (s.heap.size + 0) (by first | (simp only [List.length_append, List.length_cons, List.length_nil, List.length_replicate, List.length_set, List.length_nil]; done) | (simp only [List.length_append, List.length_cons, List.length_nil, List.length_replicate, List.length_set, List.length_nil]; omega)) rfl 1 rfl (fun _ h => h) ku2 (fun _ => rfl) (by decide) rfl (Nat.le_of_ble_eq_true rfl) (Nat.le_of_ble_eq_true rfl) (Nat.le_of_ble_eq_true rfl) dX3_init_8 (fun H hC => ?_)
  refine k_put (pc := 10) E hC iuX3 tyX3 tyX3_ok nmX3 rfl 0 (Nat.le_of_ble_eq_true rfl) ku3 rfl rfl rfl (Nat.le_of_ble_eq_true rfl) dX3_init_10 (fun H locs hC => ?_)
  refine lv_aload_n (pc := 13) hx hb dX3_init_13 rfl (lv_at hl 0 rfl) ?_
  refine lv_iconst (pc := 14) (v := 0) hx hb dX3_init_14 (by decide) ?_
  refine k_put (pc := 15) E hC iuX3 tyX3 tyX3_ok nmX3 rfl 1 (Nat.le_of_ble_eq_true rfl) ku4 rfl rfl rfl (Nat.le_of_ble_eq_true rfl) dX3_init_15 (fun H locs hC => ?_)
  refine W.widen (k := 1) (n := 4096) (Nat.le_of_ble_eq_true rfl) (Nat.le_of_ble_eq_true rfl) ?_
  exact k_ret E hC rfl dX3_init_18
-- GlulxStrings$Table
theorem ku_code8 : Cond.code yX8_init cX8_init 2 none ∈ Uw := Uw_of (inT1 _ (List.mem_of_getElem? (i := 46) rfl)) rfl
def blX8 : List Value := [.null, .null, .null, .int 0, .int 0, .int 0, .int 0, .int 0, .int 0]
def fsX8 (a1 : Nat) (sz : Nat) : List Value := [.ref a1, .ref (sz + 0), .ref (sz + 1), .int 0, .int 0, .int 0, .int 0, .int 0, .int 0]
def LX8 (w : Wd) (a1 : Nat) (sz : Nat) : List va_E := (([] ++ [.inl (w.2.2 0, (4096, .inl (fun _ => 0)))]) ++ [.inl (w.2.2 0, (4096, .inl (fun _ => 0)))])
theorem lenX8 (w : Wd) (a1 : Nat) (sz : Nat) : (LX8 w a1 sz).length = 2 := by
  unfold LX8
  first | (simp only [List.length_append, List.length_cons, List.length_nil, List.length_replicate, lenX3]; done) | (simp only [List.length_append, List.length_cons, List.length_nil, List.length_replicate, lenX3]; omega)
abbrev rmX8_init : Room := { frames := 1, cells := 2, slots := 8192, locals := 12 }
set_option maxHeartbeats 4000000 in
set_option maxRecDepth 100000 in
theorem kX8_init (l : Launch) (w : Wd) (h0 sz : Nat) (a1 : Nat) : KMet l yX8_init cX8_init 2 rmX8_init w h0 7 blX8 (fsX8 a1 sz) (LX8 w a1 sz) sz [.ref a1] 2 8192 := by
  refine k_met (by decide) rfl (Nat.le_of_ble_eq_true rfl) (fun p e s m below meth c ls E hz hl hC => ?_)
  subst hz
  obtain ⟨hx, hb, hml, hown, hts, -⟩ := id E
  replace hl : lv_has ls 2 [(0, .ref h0), (1, .ref a1)] := hl
  refine lv_aload_n (pc := 0) hx hb dX8_init_0 rfl (lv_at hl 0 rfl) ?_
  refine k_obj (pc := 1) E hC ku5 hl.1 dX8_init_1 (Nat.le_of_ble_eq_true rfl) (Nat.le_of_ble_eq_true rfl) ku1 kuobj ?_
  refine lv_aload_n (pc := 4) hx hb dX8_init_4 rfl (lv_at hl 0 rfl) ?_
  refine lv_sipush (pc := 5) (v := 4096) hx hb dX8_init_5 (by decide) ?_
  refine k_newa (pc := 8) (ty := .int) (a0 := (4096, .inl (fun _ => 0))) E hC (s.heap.size + 0) (by first | (simp only [List.length_append, List.length_cons, List.length_nil, List.length_replicate, List.length_set, lenX3]; done) | (simp only [List.length_append, List.length_cons, List.length_nil, List.length_replicate, List.length_set, lenX3]; omega)) rfl 0 rfl (fun _ h => h) ku6 (fun _ => rfl) (by decide) rfl (Nat.le_of_ble_eq_true rfl) (Nat.le_of_ble_eq_true rfl) (Nat.le_of_ble_eq_true rfl) dX8_init_8 (fun H hC => ?_)
  refine k_put (pc := 10) E hC iuX8 tyX8 tyX8_ok nmX8 rfl 1 (Nat.le_of_ble_eq_true rfl) ku7 rfl rfl rfl (Nat.le_of_ble_eq_true rfl) dX8_init_10 (fun H locs hC => ?_)
  refine lv_aload_n (pc := 13) hx hb dX8_init_13 rfl (lv_at hl 0 rfl) ?_
  refine lv_sipush (pc := 14) (v := 4096) hx hb dX8_init_14 (by decide) ?_
  refine k_newa (pc := 17) (ty := .int) (a0 := (4096, .inl (fun _ => 0))) E hC (s.heap.size + 1) (by first | (simp only [List.length_append, List.length_cons, List.length_nil, List.length_replicate, List.length_set, lenX3]; done) | (simp only [List.length_append, List.length_cons, List.length_nil, List.length_replicate, List.length_set, lenX3]; omega)) rfl 0 rfl (fun _ h => h) ku6 (fun _ => rfl) (by decide) rfl (Nat.le_of_ble_eq_true rfl) (Nat.le_of_ble_eq_true rfl) (Nat.le_of_ble_eq_true rfl) dX8_init_17 (fun H hC => ?_)
  refine k_put (pc := 19) E hC iuX8 tyX8 tyX8_ok nmX8 rfl 2 (Nat.le_of_ble_eq_true rfl) ku8 rfl rfl rfl (Nat.le_of_ble_eq_true rfl) dX8_init_19 (fun H locs hC => ?_)
  refine lv_aload_n (pc := 22) hx hb dX8_init_22 rfl (lv_at hl 0 rfl) ?_
  refine lv_iconst (pc := 23) (v := 0) hx hb dX8_init_23 (by decide) ?_
  refine k_put (pc := 24) E hC iuX8 tyX8 tyX8_ok nmX8 rfl 3 (Nat.le_of_ble_eq_true rfl) ku9 rfl rfl rfl (Nat.le_of_ble_eq_true rfl) dX8_init_24 (fun H locs hC => ?_)
  refine lv_aload_n (pc := 27) hx hb dX8_init_27 rfl (lv_at hl 0 rfl) ?_
  refine lv_iconst (pc := 28) (v := 0) hx hb dX8_init_28 (by decide) ?_
  refine k_put (pc := 29) E hC iuX8 tyX8 tyX8_ok nmX8 rfl 4 (Nat.le_of_ble_eq_true rfl) ku10 rfl rfl rfl (Nat.le_of_ble_eq_true rfl) dX8_init_29 (fun H locs hC => ?_)
  refine lv_aload_n (pc := 32) hx hb dX8_init_32 rfl (lv_at hl 0 rfl) ?_
  refine lv_iconst (pc := 33) (v := 0) hx hb dX8_init_33 (by decide) ?_
  refine k_put (pc := 34) E hC iuX8 tyX8 tyX8_ok nmX8 rfl 5 (Nat.le_of_ble_eq_true rfl) ku11 rfl rfl rfl (Nat.le_of_ble_eq_true rfl) dX8_init_34 (fun H locs hC => ?_)
  refine lv_aload_n (pc := 37) hx hb dX8_init_37 rfl (lv_at hl 0 rfl) ?_
  refine lv_iconst (pc := 38) (v := 0) hx hb dX8_init_38 (by decide) ?_
  refine k_put (pc := 39) E hC iuX8 tyX8 tyX8_ok nmX8 rfl 6 (Nat.le_of_ble_eq_true rfl) ku12 rfl rfl rfl (Nat.le_of_ble_eq_true rfl) dX8_init_39 (fun H locs hC => ?_)
  refine lv_aload_n (pc := 42) hx hb dX8_init_42 rfl (lv_at hl 0 rfl) ?_
  refine lv_iconst (pc := 43) (v := 0) hx hb dX8_init_43 (by decide) ?_
  refine k_put (pc := 44) E hC iuX8 tyX8 tyX8_ok nmX8 rfl 7 (Nat.le_of_ble_eq_true rfl) ku13 rfl rfl rfl (Nat.le_of_ble_eq_true rfl) dX8_init_44 (fun H locs hC => ?_)
  refine lv_aload_n (pc := 47) hx hb dX8_init_47 rfl (lv_at hl 0 rfl) ?_
  refine lv_iconst (pc := 48) (v := 0) hx hb dX8_init_48 (by decide) ?_
  refine k_put (pc := 49) E hC iuX8 tyX8 tyX8_ok nmX8 rfl 8 (Nat.le_of_ble_eq_true rfl) ku14 rfl rfl rfl (Nat.le_of_ble_eq_true rfl) dX8_init_49 (fun H locs hC => ?_)
  refine lv_aload_n (pc := 52) hx hb dX8_init_52 rfl (lv_at hl 0 rfl) ?_
  refine lv_aload_n (pc := 53) hx hb dX8_init_53 rfl (lv_at hl 1 rfl) ?_
  refine k_put (pc := 54) E hC iuX8 tyX8 tyX8_ok nmX8 rfl 0 (Nat.le_of_ble_eq_true rfl) ku15 rfl rfl rfl (Nat.le_of_ble_eq_true rfl) dX8_init_54 (fun H locs hC => ?_)
  refine W.widen (k := 2) (n := 8192) (Nat.le_of_ble_eq_true rfl) (Nat.le_of_ble_eq_true rfl) ?_
  exact k_ret E hC rfl dX8_init_57
-- GlulxStrings$Tally
theorem ku_code9 : Cond.code yX9_init cX9_init 1 none ∈ Uw := Uw_of (inT1 _ (List.mem_of_getElem? (i := 89) rfl)) rfl
def blX9 : List Value := [.int 0, .int 0, .int 0, .int 0, .int 0, .int 0, .int 0, .int 0]
def fsX9 (sz : Nat) : List Value := [.int 0, .int 0, .int 0, .int 0, .int 0, .int 0, .int 0, .int 0]
def LX9 (w : Wd) (sz : Nat) : List va_E := []
theorem lenX9 (w : Wd) (sz : Nat) : (LX9 w sz).length = 0 := by
  unfold LX9
  first | (simp only [List.length_append, List.length_cons, List.length_nil, List.length_replicate, lenX3, lenX8]; done) | (simp only [List.length_append, List.length_cons, List.length_nil, List.length_replicate, lenX3, lenX8]; omega)
abbrev rmX9_init : Room := { frames := 1, cells := 0, slots := 0, locals := 12 }
set_option maxHeartbeats 4000000 in
set_option maxRecDepth 100000 in
theorem kX9_init (l : Launch) (w : Wd) (h0 sz : Nat) : KMet l yX9_init cX9_init 1 rmX9_init w h0 8 blX9 (fsX9 sz) (LX9 w sz) sz [] 0 0 := by
  refine k_met (by decide) rfl (Nat.le_of_ble_eq_true rfl) (fun p e s m below meth c ls E hz hl hC => ?_)
  subst hz
  obtain ⟨hx, hb, hml, hown, hts, -⟩ := id E
  replace hl : lv_has ls 1 [(0, .ref h0)] := hl
  refine lv_aload_n (pc := 0) hx hb dX9_init_0 rfl (lv_at hl 0 rfl) ?_
  refine k_obj (pc := 1) E hC ku16 hl.1 dX9_init_1 (Nat.le_of_ble_eq_true rfl) (Nat.le_of_ble_eq_true rfl) ku1 kuobj ?_
  refine lv_aload_n (pc := 4) hx hb dX9_init_4 rfl (lv_at hl 0 rfl) ?_
  refine lv_iconst (pc := 5) (v := 0) hx hb dX9_init_5 (by decide) ?_
  refine k_put (pc := 6) E hC iuX9 tyX9 tyX9_ok nmX9 rfl 0 (Nat.le_of_ble_eq_true rfl) ku17 rfl rfl rfl (Nat.le_of_ble_eq_true rfl) dX9_init_6 (fun H locs hC => ?_)
  refine lv_aload_n (pc := 9) hx hb dX9_init_9 rfl (lv_at hl 0 rfl) ?_
  refine lv_iconst (pc := 10) (v := 0) hx hb dX9_init_10 (by decide) ?_
  refine k_put (pc := 11) E hC iuX9 tyX9 tyX9_ok nmX9 rfl 1 (Nat.le_of_ble_eq_true rfl) ku18 rfl rfl rfl (Nat.le_of_ble_eq_true rfl) dX9_init_11 (fun H locs hC => ?_)
  refine lv_aload_n (pc := 14) hx hb dX9_init_14 rfl (lv_at hl 0 rfl) ?_
  refine lv_iconst (pc := 15) (v := 0) hx hb dX9_init_15 (by decide) ?_
  refine k_put (pc := 16) E hC iuX9 tyX9 tyX9_ok nmX9 rfl 2 (Nat.le_of_ble_eq_true rfl) ku19 rfl rfl rfl (Nat.le_of_ble_eq_true rfl) dX9_init_16 (fun H locs hC => ?_)
  refine lv_aload_n (pc := 19) hx hb dX9_init_19 rfl (lv_at hl 0 rfl) ?_
  refine lv_iconst (pc := 20) (v := 0) hx hb dX9_init_20 (by decide) ?_
  refine k_put (pc := 21) E hC iuX9 tyX9 tyX9_ok nmX9 rfl 3 (Nat.le_of_ble_eq_true rfl) ku20 rfl rfl rfl (Nat.le_of_ble_eq_true rfl) dX9_init_21 (fun H locs hC => ?_)
  refine lv_aload_n (pc := 24) hx hb dX9_init_24 rfl (lv_at hl 0 rfl) ?_
  refine lv_iconst (pc := 25) (v := 0) hx hb dX9_init_25 (by decide) ?_
  refine k_put (pc := 26) E hC iuX9 tyX9 tyX9_ok nmX9 rfl 4 (Nat.le_of_ble_eq_true rfl) ku21 rfl rfl rfl (Nat.le_of_ble_eq_true rfl) dX9_init_26 (fun H locs hC => ?_)
  refine lv_aload_n (pc := 29) hx hb dX9_init_29 rfl (lv_at hl 0 rfl) ?_
  refine lv_iconst (pc := 30) (v := 0) hx hb dX9_init_30 (by decide) ?_
  refine k_put (pc := 31) E hC iuX9 tyX9 tyX9_ok nmX9 rfl 5 (Nat.le_of_ble_eq_true rfl) ku22 rfl rfl rfl (Nat.le_of_ble_eq_true rfl) dX9_init_31 (fun H locs hC => ?_)
  refine lv_aload_n (pc := 34) hx hb dX9_init_34 rfl (lv_at hl 0 rfl) ?_
  refine lv_iconst (pc := 35) (v := 0) hx hb dX9_init_35 (by decide) ?_
  refine k_put (pc := 36) E hC iuX9 tyX9 tyX9_ok nmX9 rfl 6 (Nat.le_of_ble_eq_true rfl) ku23 rfl rfl rfl (Nat.le_of_ble_eq_true rfl) dX9_init_36 (fun H locs hC => ?_)
  refine lv_aload_n (pc := 39) hx hb dX9_init_39 rfl (lv_at hl 0 rfl) ?_
  refine lv_iconst (pc := 40) (v := 0) hx hb dX9_init_40 (by decide) ?_
  refine k_put (pc := 41) E hC iuX9 tyX9 tyX9_ok nmX9 rfl 7 (Nat.le_of_ble_eq_true rfl) ku24 rfl rfl rfl (Nat.le_of_ble_eq_true rfl) dX9_init_41 (fun H locs hC => ?_)
  refine W.widen (k := 0) (n := 0) (Nat.le_of_ble_eq_true rfl) (Nat.le_of_ble_eq_true rfl) ?_
  exact k_ret E hC rfl dX9_init_44
-- GlulxStrings$Job
theorem ku_code1 : Cond.code yX1_init cX1_init 1 none ∈ Uw := Uw_of (inT1 _ (List.mem_of_getElem? (i := 129) rfl)) rfl
def blX1 : List Value := [.null, .int 0, .int 0, .int 0, .int 0, .int 0, .int 0, .int 0]
def fsX1 (sz : Nat) : List Value := [.ref (sz + 0), .int 0, .int 0, .int 0, .int 0, .int 1, .int 0, .int 255]
def LX1 (w : Wd) (sz : Nat) : List va_E := ([] ++ [.inl (w.2.2 0, (8, .inl (fun _ => 0)))])
theorem lenX1 (w : Wd) (sz : Nat) : (LX1 w sz).length = 1 := by
  unfold LX1
  first | (simp only [List.length_append, List.length_cons, List.length_nil, List.length_replicate, lenX3, lenX8, lenX9]; done) | (simp only [List.length_append, List.length_cons, List.length_nil, List.length_replicate, lenX3, lenX8, lenX9]; omega)
abbrev rmX1_init : Room := { frames := 1, cells := 1, slots := 8, locals := 12 }
set_option maxHeartbeats 4000000 in
set_option maxRecDepth 100000 in
theorem kX1_init (l : Launch) (w : Wd) (h0 sz : Nat) : KMet l yX1_init cX1_init 1 rmX1_init w h0 1 blX1 (fsX1 sz) (LX1 w sz) sz [] 1 8 := by
  refine k_met (by decide) rfl (Nat.le_of_ble_eq_true rfl) (fun p e s m below meth c ls E hz hl hC => ?_)
  subst hz
  obtain ⟨hx, hb, hml, hown, hts, -⟩ := id E
  replace hl : lv_has ls 1 [(0, .ref h0)] := hl
  refine lv_aload_n (pc := 0) hx hb dX1_init_0 rfl (lv_at hl 0 rfl) ?_
  refine k_obj (pc := 1) E hC ku25 hl.1 dX1_init_1 (Nat.le_of_ble_eq_true rfl) (Nat.le_of_ble_eq_true rfl) ku1 kuobj ?_
  refine lv_aload_n (pc := 4) hx hb dX1_init_4 rfl (lv_at hl 0 rfl) ?_
  refine lv_bipush (pc := 5) (v := 8) hx hb dX1_init_5 (by decide) ?_
  refine k_newa (pc := 7) (ty := .int) (a0 := (8, .inl (fun _ => 0))) E hC (s.heap.size + 0) (by first | (simp only [List.length_append, List.length_cons, List.length_nil, List.length_replicate, List.length_set, lenX3, lenX8, lenX9]; done) | (simp only [List.length_append, List.length_cons, List.length_nil, List.length_replicate, List.length_set, lenX3, lenX8, lenX9]; omega)) rfl 0 rfl (fun _ h => h) ku6 (fun _ => rfl) (by decide) rfl (Nat.le_of_ble_eq_true rfl) (Nat.le_of_ble_eq_true rfl) (Nat.le_of_ble_eq_true rfl) dX1_init_7 (fun H hC => ?_)
  refine k_put (pc := 9) E hC iuX1 tyX1 tyX1_ok nmX1 rfl 0 (Nat.le_of_ble_eq_true rfl) ku26 rfl rfl rfl (Nat.le_of_ble_eq_true rfl) dX1_init_9 (fun H locs hC => ?_)
  refine lv_aload_n (pc := 12) hx hb dX1_init_12 rfl (lv_at hl 0 rfl) ?_
  refine lv_iconst (pc := 13) (v := 0) hx hb dX1_init_13 (by decide) ?_
  refine k_put (pc := 14) E hC iuX1 tyX1 tyX1_ok nmX1 rfl 1 (Nat.le_of_ble_eq_true rfl) ku27 rfl rfl rfl (Nat.le_of_ble_eq_true rfl) dX1_init_14 (fun H locs hC => ?_)
  refine lv_aload_n (pc := 17) hx hb dX1_init_17 rfl (lv_at hl 0 rfl) ?_
  refine lv_iconst (pc := 18) (v := 0) hx hb dX1_init_18 (by decide) ?_
  refine k_put (pc := 19) E hC iuX1 tyX1 tyX1_ok nmX1 rfl 2 (Nat.le_of_ble_eq_true rfl) ku28 rfl rfl rfl (Nat.le_of_ble_eq_true rfl) dX1_init_19 (fun H locs hC => ?_)
  refine lv_aload_n (pc := 22) hx hb dX1_init_22 rfl (lv_at hl 0 rfl) ?_
  refine lv_iconst (pc := 23) (v := 0) hx hb dX1_init_23 (by decide) ?_
  refine k_put (pc := 24) E hC iuX1 tyX1 tyX1_ok nmX1 rfl 3 (Nat.le_of_ble_eq_true rfl) ku29 rfl rfl rfl (Nat.le_of_ble_eq_true rfl) dX1_init_24 (fun H locs hC => ?_)
  refine lv_aload_n (pc := 27) hx hb dX1_init_27 rfl (lv_at hl 0 rfl) ?_
  refine lv_iconst (pc := 28) (v := 0) hx hb dX1_init_28 (by decide) ?_
  refine k_put (pc := 29) E hC iuX1 tyX1 tyX1_ok nmX1 rfl 4 (Nat.le_of_ble_eq_true rfl) ku30 rfl rfl rfl (Nat.le_of_ble_eq_true rfl) dX1_init_29 (fun H locs hC => ?_)
  refine lv_aload_n (pc := 32) hx hb dX1_init_32 rfl (lv_at hl 0 rfl) ?_
  refine lv_iconst (pc := 33) (v := 1) hx hb dX1_init_33 (by decide) ?_
  refine k_put (pc := 34) E hC iuX1 tyX1 tyX1_ok nmX1 rfl 5 (Nat.le_of_ble_eq_true rfl) ku31 rfl rfl rfl (Nat.le_of_ble_eq_true rfl) dX1_init_34 (fun H locs hC => ?_)
  refine lv_aload_n (pc := 37) hx hb dX1_init_37 rfl (lv_at hl 0 rfl) ?_
  refine lv_iconst (pc := 38) (v := 0) hx hb dX1_init_38 (by decide) ?_
  refine k_put (pc := 39) E hC iuX1 tyX1 tyX1_ok nmX1 rfl 6 (Nat.le_of_ble_eq_true rfl) ku32 rfl rfl rfl (Nat.le_of_ble_eq_true rfl) dX1_init_39 (fun H locs hC => ?_)
  refine lv_aload_n (pc := 42) hx hb dX1_init_42 rfl (lv_at hl 0 rfl) ?_
  refine lv_sipush (pc := 43) (v := 255) hx hb dX1_init_43 (by decide) ?_
  refine k_put (pc := 46) E hC iuX1 tyX1 tyX1_ok nmX1 rfl 7 (Nat.le_of_ble_eq_true rfl) ku33 rfl rfl rfl (Nat.le_of_ble_eq_true rfl) dX1_init_46 (fun H locs hC => ?_)
  refine W.widen (k := 1) (n := 8) (Nat.le_of_ble_eq_true rfl) (Nat.le_of_ble_eq_true rfl) ?_
  exact k_ret E hC rfl dX1_init_49
