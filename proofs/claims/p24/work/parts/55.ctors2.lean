-- GlulxStrings$Pieces
theorem ku_code7 : Cond.code yX7_init cX7_init 1 none ∈ Uw := Uw_of (inT1 _ (List.mem_of_getElem? (i := 221) rfl)) rfl
def blX7 : List Value := [.null, .null, .null, .null, .null, .int 0]
def fsX7 (sz : Nat) : List Value := [.ref (sz + 0), .ref (sz + 1), .ref (sz + 2), .ref (sz + 63), .ref (sz + 64), .int 0]
def LX7 (w : Wd) (sz : Nat) : List va_E := ((((([] ++ [.inl (w.2.2 0, (60, .inl (fun _ => 0)))]) ++ [.inl (w.2.2 0, (60, .inl (fun _ => 0)))]) ++ (.inl (w.2.2 5, 60, .inr (.inr (.inr (.inr (fun i => if i < 60 then some (sz + 2 + 1 + i) else none))))) :: List.replicate 60 (.inl (w.2.2 0, 20, .inl (fun _ => 0))))) ++ [.inl (w.2.2 0, (60, .inl (fun _ => 0)))]) ++ [.inl (w.2.2 0, (60, .inl (fun _ => 0)))])
theorem lenX7 (w : Wd) (sz : Nat) : (LX7 w sz).length = 65 := by
  unfold LX7
  first | (simp only [List.length_append, List.length_cons, List.length_nil, List.length_replicate, lenX3, lenX8, lenX9, lenX1]; done) | (simp only [List.length_append, List.length_cons, List.length_nil, List.length_replicate, lenX3, lenX8, lenX9, lenX1]; omega)
abbrev rmX7_init : Room := { frames := 1, cells := 65, slots := 1500, locals := 12 }
set_option maxHeartbeats 4000000 in
set_option maxRecDepth 100000 in
theorem kX7_init (l : Launch) (w : Wd) (h0 sz : Nat) : KMet l yX7_init cX7_init 1 rmX7_init w h0 6 blX7 (fsX7 sz) (LX7 w sz) sz [] 65 1500 := by
  refine k_met (by decide) rfl (Nat.le_of_ble_eq_true rfl) (fun p e s m below meth c ls E hz hl hC => ?_)
  subst hz
  obtain ⟨hx, hb, hml, hown, hts, -⟩ := id E
  replace hl : lv_has ls 1 [(0, .ref h0)] := hl
  refine lv_aload_n (pc := 0) hx hb dX7_init_0 rfl (lv_at hl 0 rfl) ?_
  refine k_obj (pc := 1) E hC ku34 hl.1 dX7_init_1 (Nat.le_of_ble_eq_true rfl) (Nat.le_of_ble_eq_true rfl) ku1 kuobj ?_
  refine lv_aload_n (pc := 4) hx hb dX7_init_4 rfl (lv_at hl 0 rfl) ?_
  refine lv_bipush (pc := 5) (v := 60) hx hb dX7_init_5 (by decide) ?_
  refine k_newa (pc := 7) (ty := .int) (a0 := (60, .inl (fun _ => 0))) E hC (s.heap.size + 0) (by first | (simp only [List.length_append, List.length_cons, List.length_nil, List.length_replicate, List.length_set, lenX3, lenX8, lenX9, lenX1]; done) | (simp only [List.length_append, List.length_cons, List.length_nil, List.length_replicate, List.length_set, lenX3, lenX8, lenX9, lenX1]; omega)) rfl 0 rfl (fun _ h => h) ku6 (fun _ => rfl) (by decide) rfl (Nat.le_of_ble_eq_true rfl) (Nat.le_of_ble_eq_true rfl) (Nat.le_of_ble_eq_true rfl) dX7_init_7 (fun H hC => ?_)
  refine k_put (pc := 9) E hC iuX7 tyX7 tyX7_ok nmX7 rfl 0 (Nat.le_of_ble_eq_true rfl) ku35 rfl rfl rfl (Nat.le_of_ble_eq_true rfl) dX7_init_9 (fun H locs hC => ?_)
  refine lv_aload_n (pc := 12) hx hb dX7_init_12 rfl (lv_at hl 0 rfl) ?_
  refine lv_bipush (pc := 13) (v := 60) hx hb dX7_init_13 (by decide) ?_
  refine k_newa (pc := 15) (ty := .int) (a0 := (60, .inl (fun _ => 0))) E hC (s.heap.size + 1) (by first | (simp only [List.length_append, List.length_cons, List.length_nil, List.length_replicate, List.length_set, lenX3, lenX8, lenX9, lenX1]; done) | (simp only [List.length_append, List.length_cons, List.length_nil, List.length_replicate, List.length_set, lenX3, lenX8, lenX9, lenX1]; omega)) rfl 0 rfl (fun _ h => h) ku6 (fun _ => rfl) (by decide) rfl (Nat.le_of_ble_eq_true rfl) (Nat.le_of_ble_eq_true rfl) (Nat.le_of_ble_eq_true rfl) dX7_init_15 (fun H hC => ?_)
  refine k_put (pc := 17) E hC iuX7 tyX7 tyX7_ok nmX7 rfl 1 (Nat.le_of_ble_eq_true rfl) ku36 rfl rfl rfl (Nat.le_of_ble_eq_true rfl) dX7_init_17 (fun H locs hC => ?_)
  refine lv_aload_n (pc := 20) hx hb dX7_init_20 rfl (lv_at hl 0 rfl) ?_
  refine lv_bipush (pc := 21) (v := 60) hx hb dX7_init_21 (by decide) ?_
  refine lv_bipush (pc := 23) (v := 20) hx hb dX7_init_23 (by decide) ?_
  refine k_multi (pc := 25) E hC (s.heap.size + 2) (by first | (simp only [List.length_append, List.length_cons, List.length_nil, List.length_replicate, List.length_set, lenX3, lenX8, lenX9, lenX1]; done) | (simp only [List.length_append, List.length_cons, List.length_nil, List.length_replicate, List.length_set, lenX3, lenX8, lenX9, lenX1]; omega)) ku37 (N := 60) (M := 20) (by decide) (by decide) rfl rfl (Nat.le_of_ble_eq_true rfl) (Nat.le_of_ble_eq_true rfl) (Nat.le_of_ble_eq_true rfl) (Nat.le_of_ble_eq_true rfl) dX7_init_25 (fun H locs hC => ?_)
  refine k_put (pc := 29) E hC iuX7 tyX7 tyX7_ok nmX7 rfl 2 (Nat.le_of_ble_eq_true rfl) ku38 rfl rfl rfl (Nat.le_of_ble_eq_true rfl) dX7_init_29 (fun H locs hC => ?_)
  refine lv_aload_n (pc := 32) hx hb dX7_init_32 rfl (lv_at hl 0 rfl) ?_
  refine lv_bipush (pc := 33) (v := 60) hx hb dX7_init_33 (by decide) ?_
  refine k_newa (pc := 35) (ty := .int) (a0 := (60, .inl (fun _ => 0))) E hC (s.heap.size + 63) (by first | (simp only [List.length_append, List.length_cons, List.length_nil, List.length_replicate, List.length_set, lenX3, lenX8, lenX9, lenX1]; done) | (simp only [List.length_append, List.length_cons, List.length_nil, List.length_replicate, List.length_set, lenX3, lenX8, lenX9, lenX1]; omega)) rfl 0 rfl (fun _ h => h) ku6 (fun _ => rfl) (by decide) rfl (Nat.le_of_ble_eq_true rfl) (Nat.le_of_ble_eq_true rfl) (Nat.le_of_ble_eq_true rfl) dX7_init_35 (fun H hC => ?_)
  refine k_put (pc := 37) E hC iuX7 tyX7 tyX7_ok nmX7 rfl 3 (Nat.le_of_ble_eq_true rfl) ku39 rfl rfl rfl (Nat.le_of_ble_eq_true rfl) dX7_init_37 (fun H locs hC => ?_)
  refine lv_aload_n (pc := 40) hx hb dX7_init_40 rfl (lv_at hl 0 rfl) ?_
  refine lv_bipush (pc := 41) (v := 60) hx hb dX7_init_41 (by decide) ?_
  refine k_newa (pc := 43) (ty := .int) (a0 := (60, .inl (fun _ => 0))) E hC (s.heap.size + 64) (by first | (simp only [List.length_append, List.length_cons, List.length_nil, List.length_replicate, List.length_set, lenX3, lenX8, lenX9, lenX1]; done) | (simp only [List.length_append, List.length_cons, List.length_nil, List.length_replicate, List.length_set, lenX3, lenX8, lenX9, lenX1]; omega)) rfl 0 rfl (fun _ h => h) ku6 (fun _ => rfl) (by decide) rfl (Nat.le_of_ble_eq_true rfl) (Nat.le_of_ble_eq_true rfl) (Nat.le_of_ble_eq_true rfl) dX7_init_43 (fun H hC => ?_)
  refine k_put (pc := 45) E hC iuX7 tyX7 tyX7_ok nmX7 rfl 4 (Nat.le_of_ble_eq_true rfl) ku40 rfl rfl rfl (Nat.le_of_ble_eq_true rfl) dX7_init_45 (fun H locs hC => ?_)
  refine lv_aload_n (pc := 48) hx hb dX7_init_48 rfl (lv_at hl 0 rfl) ?_
  refine lv_iconst (pc := 49) (v := 0) hx hb dX7_init_49 (by decide) ?_
  refine k_put (pc := 50) E hC iuX7 tyX7 tyX7_ok nmX7 rfl 5 (Nat.le_of_ble_eq_true rfl) ku41 rfl rfl rfl (Nat.le_of_ble_eq_true rfl) dX7_init_50 (fun H locs hC => ?_)
  refine W.widen (k := 65) (n := 1500) (Nat.le_of_ble_eq_true rfl) (Nat.le_of_ble_eq_true rfl) ?_
  exact k_ret E hC rfl dX7_init_53
-- GlulxStrings$Texts
theorem ku_code10 : Cond.code yX10_init cX10_init 1 none ∈ Uw := Uw_of (inT2 _ (List.mem_of_getElem? (i := 14) rfl)) rfl
def blX10 : List Value := [.null, .null, .null, .null, .int 0]
def fsX10 (sz : Nat) : List Value := [.ref (sz + 0), .ref (sz + 21), .ref (sz + 22), .ref (sz + 23), .int 0]
def LX10 (w : Wd) (sz : Nat) : List va_E := (((([] ++ (.inl (w.2.2 5, 20, .inr (.inr (.inr (.inr (fun i => if i < 20 then some (sz + 0 + 1 + i) else none))))) :: List.replicate 20 (.inl (w.2.2 0, 120, .inl (fun _ => 0))))) ++ [.inl (w.2.2 0, (20, .inl (fun _ => 0)))]) ++ [.inl (w.2.2 0, (20, .inl (fun _ => 0)))]) ++ [.inl (w.2.2 0, (20, .inl (fun _ => 0)))])
theorem lenX10 (w : Wd) (sz : Nat) : (LX10 w sz).length = 24 := by
  unfold LX10
  first | (simp only [List.length_append, List.length_cons, List.length_nil, List.length_replicate, lenX3, lenX8, lenX9, lenX1, lenX7]; done) | (simp only [List.length_append, List.length_cons, List.length_nil, List.length_replicate, lenX3, lenX8, lenX9, lenX1, lenX7]; omega)
abbrev rmX10_init : Room := { frames := 1, cells := 24, slots := 2480, locals := 12 }
set_option maxHeartbeats 4000000 in
set_option maxRecDepth 100000 in
theorem kX10_init (l : Launch) (w : Wd) (h0 sz : Nat) : KMet l yX10_init cX10_init 1 rmX10_init w h0 9 blX10 (fsX10 sz) (LX10 w sz) sz [] 24 2480 := by
  refine k_met (by decide) rfl (Nat.le_of_ble_eq_true rfl) (fun p e s m below meth c ls E hz hl hC => ?_)
  subst hz
  obtain ⟨hx, hb, hml, hown, hts, -⟩ := id E
  replace hl : lv_has ls 1 [(0, .ref h0)] := hl
  refine lv_aload_n (pc := 0) hx hb dX10_init_0 rfl (lv_at hl 0 rfl) ?_
  refine k_obj (pc := 1) E hC ku42 hl.1 dX10_init_1 (Nat.le_of_ble_eq_true rfl) (Nat.le_of_ble_eq_true rfl) ku1 kuobj ?_
  refine lv_aload_n (pc := 4) hx hb dX10_init_4 rfl (lv_at hl 0 rfl) ?_
  refine lv_bipush (pc := 5) (v := 20) hx hb dX10_init_5 (by decide) ?_
  refine lv_bipush (pc := 7) (v := 120) hx hb dX10_init_7 (by decide) ?_
  refine k_multi (pc := 9) E hC (s.heap.size + 0) (by first | (simp only [List.length_append, List.length_cons, List.length_nil, List.length_replicate, List.length_set, lenX3, lenX8, lenX9, lenX1, lenX7]; done) | (simp only [List.length_append, List.length_cons, List.length_nil, List.length_replicate, List.length_set, lenX3, lenX8, lenX9, lenX1, lenX7]; omega)) ku43 (N := 20) (M := 120) (by decide) (by decide) rfl rfl (Nat.le_of_ble_eq_true rfl) (Nat.le_of_ble_eq_true rfl) (Nat.le_of_ble_eq_true rfl) (Nat.le_of_ble_eq_true rfl) dX10_init_9 (fun H locs hC => ?_)
  refine k_put (pc := 13) E hC iuX10 tyX10 tyX10_ok nmX10 rfl 0 (Nat.le_of_ble_eq_true rfl) ku44 rfl rfl rfl (Nat.le_of_ble_eq_true rfl) dX10_init_13 (fun H locs hC => ?_)
  refine lv_aload_n (pc := 16) hx hb dX10_init_16 rfl (lv_at hl 0 rfl) ?_
  refine lv_bipush (pc := 17) (v := 20) hx hb dX10_init_17 (by decide) ?_
  refine k_newa (pc := 19) (ty := .int) (a0 := (20, .inl (fun _ => 0))) E hC (s.heap.size + 21) (by first | (simp only [List.length_append, List.length_cons, List.length_nil, List.length_replicate, List.length_set, lenX3, lenX8, lenX9, lenX1, lenX7]; done) | (simp only [List.length_append, List.length_cons, List.length_nil, List.length_replicate, List.length_set, lenX3, lenX8, lenX9, lenX1, lenX7]; omega)) rfl 0 rfl (fun _ h => h) ku6 (fun _ => rfl) (by decide) rfl (Nat.le_of_ble_eq_true rfl) (Nat.le_of_ble_eq_true rfl) (Nat.le_of_ble_eq_true rfl) dX10_init_19 (fun H hC => ?_)
  refine k_put (pc := 21) E hC iuX10 tyX10 tyX10_ok nmX10 rfl 1 (Nat.le_of_ble_eq_true rfl) ku45 rfl rfl rfl (Nat.le_of_ble_eq_true rfl) dX10_init_21 (fun H locs hC => ?_)
  refine lv_aload_n (pc := 24) hx hb dX10_init_24 rfl (lv_at hl 0 rfl) ?_
  refine lv_bipush (pc := 25) (v := 20) hx hb dX10_init_25 (by decide) ?_
  refine k_newa (pc := 27) (ty := .int) (a0 := (20, .inl (fun _ => 0))) E hC (s.heap.size + 22) (by first | (simp only [List.length_append, List.length_cons, List.length_nil, List.length_replicate, List.length_set, lenX3, lenX8, lenX9, lenX1, lenX7]; done) | (simp only [List.length_append, List.length_cons, List.length_nil, List.length_replicate, List.length_set, lenX3, lenX8, lenX9, lenX1, lenX7]; omega)) rfl 0 rfl (fun _ h => h) ku6 (fun _ => rfl) (by decide) rfl (Nat.le_of_ble_eq_true rfl) (Nat.le_of_ble_eq_true rfl) (Nat.le_of_ble_eq_true rfl) dX10_init_27 (fun H hC => ?_)
  refine k_put (pc := 29) E hC iuX10 tyX10 tyX10_ok nmX10 rfl 2 (Nat.le_of_ble_eq_true rfl) ku46 rfl rfl rfl (Nat.le_of_ble_eq_true rfl) dX10_init_29 (fun H locs hC => ?_)
  refine lv_aload_n (pc := 32) hx hb dX10_init_32 rfl (lv_at hl 0 rfl) ?_
  refine lv_bipush (pc := 33) (v := 20) hx hb dX10_init_33 (by decide) ?_
  refine k_newa (pc := 35) (ty := .int) (a0 := (20, .inl (fun _ => 0))) E hC (s.heap.size + 23) (by first | (simp only [List.length_append, List.length_cons, List.length_nil, List.length_replicate, List.length_set, lenX3, lenX8, lenX9, lenX1, lenX7]; done) | (simp only [List.length_append, List.length_cons, List.length_nil, List.length_replicate, List.length_set, lenX3, lenX8, lenX9, lenX1, lenX7]; omega)) rfl 0 rfl (fun _ h => h) ku6 (fun _ => rfl) (by decide) rfl (Nat.le_of_ble_eq_true rfl) (Nat.le_of_ble_eq_true rfl) (Nat.le_of_ble_eq_true rfl) dX10_init_35 (fun H hC => ?_)
  refine k_put (pc := 37) E hC iuX10 tyX10 tyX10_ok nmX10 rfl 3 (Nat.le_of_ble_eq_true rfl) ku47 rfl rfl rfl (Nat.le_of_ble_eq_true rfl) dX10_init_37 (fun H locs hC => ?_)
  refine lv_aload_n (pc := 40) hx hb dX10_init_40 rfl (lv_at hl 0 rfl) ?_
  refine lv_iconst (pc := 41) (v := 0) hx hb dX10_init_41 (by decide) ?_
  refine k_put (pc := 42) E hC iuX10 tyX10 tyX10_ok nmX10 rfl 4 (Nat.le_of_ble_eq_true rfl) ku48 rfl rfl rfl (Nat.le_of_ble_eq_true rfl) dX10_init_42 (fun H locs hC => ?_)
  refine W.widen (k := 24) (n := 2480) (Nat.le_of_ble_eq_true rfl) (Nat.le_of_ble_eq_true rfl) ?_
  exact k_ret E hC rfl dX10_init_45
-- GlulxStrings$Parting
theorem ku_code6 : Cond.code yX6_init cX6_init 2 none ∈ Uw := Uw_of (inT2 _ (List.mem_of_getElem? (i := 47) rfl)) rfl
def blX6 : List Value := [.null, .null, .null]
def fsX6 (a1 : Nat) (sz : Nat) : List Value := [.ref a1, .ref (sz + 0), .ref (sz + 1)]
def LX6 (w : Wd) (a1 : Nat) (sz : Nat) : List va_E := (([] ++ [.inl (w.2.2 0, (121, .inl (fun _ => 0)))]) ++ [.inl (w.2.2 0, (121, .inl (fun _ => 0)))])
theorem lenX6 (w : Wd) (a1 : Nat) (sz : Nat) : (LX6 w a1 sz).length = 2 := by
  unfold LX6
  first | (simp only [List.length_append, List.length_cons, List.length_nil, List.length_replicate, lenX3, lenX8, lenX9, lenX1, lenX7, lenX10]; done) | (simp only [List.length_append, List.length_cons, List.length_nil, List.length_replicate, lenX3, lenX8, lenX9, lenX1, lenX7, lenX10]; omega)
abbrev rmX6_init : Room := { frames := 1, cells := 2, slots := 242, locals := 12 }
set_option maxHeartbeats 4000000 in
set_option maxRecDepth 100000 in
theorem kX6_init (l : Launch) (w : Wd) (h0 sz : Nat) (a1 : Nat) : KMet l yX6_init cX6_init 2 rmX6_init w h0 5 blX6 (fsX6 a1 sz) (LX6 w a1 sz) sz [.ref a1] 2 242 := by
  refine k_met (by decide) rfl (Nat.le_of_ble_eq_true rfl) (fun p e s m below meth c ls E hz hl hC => ?_)
  subst hz
  obtain ⟨hx, hb, hml, hown, hts, -⟩ := id E
  replace hl : lv_has ls 2 [(0, .ref h0), (1, .ref a1)] := hl
  refine lv_aload_n (pc := 0) hx hb dX6_init_0 rfl (lv_at hl 0 rfl) ?_
  refine k_obj (pc := 1) E hC ku49 hl.1 dX6_init_1 (Nat.le_of_ble_eq_true rfl) (Nat.le_of_ble_eq_true rfl) ku1 kuobj ?_
  refine lv_aload_n (pc := 4) hx hb dX6_init_4 rfl (lv_at hl 0 rfl) ?_
  refine lv_bipush (pc := 5) (v := 121) hx hb dX6_init_5 (by decide) ?_
  refine k_newa (pc := 7) (ty := .int) (a0 := (121, .inl (fun _ => 0))) E hC (s.heap.size + 0) (by first | (simp only [List.length_append, List.length_cons, List.length_nil, List.length_replicate, List.length_set, lenX3, lenX8, lenX9, lenX1, lenX7, lenX10]; done) | (simp only [List.length_append, List.length_cons, List.length_nil, List.length_replicate, List.length_set, lenX3, lenX8, lenX9, lenX1, lenX7, lenX10]; omega)) rfl 0 rfl (fun _ h => h) ku6 (fun _ => rfl) (by decide) rfl (Nat.le_of_ble_eq_true rfl) (Nat.le_of_ble_eq_true rfl) (Nat.le_of_ble_eq_true rfl) dX6_init_7 (fun H hC => ?_)
  refine k_put (pc := 9) E hC iuX6 tyX6 tyX6_ok nmX6 rfl 1 (Nat.le_of_ble_eq_true rfl) ku50 rfl rfl rfl (Nat.le_of_ble_eq_true rfl) dX6_init_9 (fun H locs hC => ?_)
  refine lv_aload_n (pc := 12) hx hb dX6_init_12 rfl (lv_at hl 0 rfl) ?_
  refine lv_bipush (pc := 13) (v := 121) hx hb dX6_init_13 (by decide) ?_
  refine k_newa (pc := 15) (ty := .int) (a0 := (121, .inl (fun _ => 0))) E hC (s.heap.size + 1) (by first | (simp only [List.length_append, List.length_cons, List.length_nil, List.length_replicate, List.length_set, lenX3, lenX8, lenX9, lenX1, lenX7, lenX10]; done) | (simp only [List.length_append, List.length_cons, List.length_nil, List.length_replicate, List.length_set, lenX3, lenX8, lenX9, lenX1, lenX7, lenX10]; omega)) rfl 0 rfl (fun _ h => h) ku6 (fun _ => rfl) (by decide) rfl (Nat.le_of_ble_eq_true rfl) (Nat.le_of_ble_eq_true rfl) (Nat.le_of_ble_eq_true rfl) dX6_init_15 (fun H hC => ?_)
  refine k_put (pc := 17) E hC iuX6 tyX6 tyX6_ok nmX6 rfl 2 (Nat.le_of_ble_eq_true rfl) ku51 rfl rfl rfl (Nat.le_of_ble_eq_true rfl) dX6_init_17 (fun H locs hC => ?_)
  refine lv_aload_n (pc := 20) hx hb dX6_init_20 rfl (lv_at hl 0 rfl) ?_
  refine lv_aload_n (pc := 21) hx hb dX6_init_21 rfl (lv_at hl 1 rfl) ?_
  refine k_put (pc := 22) E hC iuX6 tyX6 tyX6_ok nmX6 rfl 0 (Nat.le_of_ble_eq_true rfl) ku52 rfl rfl rfl (Nat.le_of_ble_eq_true rfl) dX6_init_22 (fun H locs hC => ?_)
  refine W.widen (k := 2) (n := 242) (Nat.le_of_ble_eq_true rfl) (Nat.le_of_ble_eq_true rfl) ?_
  exact k_ret E hC rfl dX6_init_25
-- GlulxStrings$BestTree
theorem ku_code0 : Cond.code yX0_init cX0_init 1 none ∈ Uw := Uw_of (inT2 _ (List.mem_of_getElem? (i := 63) rfl)) rfl
def blX0 : List Value := [.null, .null, .null, .null, .null, .null, .null, .null, .null, .int 0, .int 0]
def fsX0 (sz : Nat) : List Value := [.ref (sz + 0), .ref (sz + 1), .ref (sz + 2), .ref (sz + 3), .ref (sz + 4), .ref (sz + 5), .ref (sz + 6), .ref (sz + 7), .ref (sz + 8), .int 0, .int 0]
def LX0 (w : Wd) (sz : Nat) : List va_E := ((((((((([] ++ [.inl (w.2.2 0, (121, .inl (fun _ => 0)))]) ++ [.inl (w.2.2 2, (121, .inl (fun _ => 0)))]) ++ [.inl (w.2.2 0, (121, .inl (fun _ => 0)))]) ++ [.inl (w.2.2 0, (121, .inl (fun _ => 0)))]) ++ [.inl (w.2.2 0, (121, .inl (fun _ => 0)))]) ++ [.inl (w.2.2 0, (121, .inl (fun _ => 0)))]) ++ [.inl (w.2.2 0, (121, .inl (fun _ => 0)))]) ++ [.inl (w.2.2 0, (121, .inl (fun _ => 0)))]) ++ [.inl (w.2.2 3, (121, .inr (.inl (fun _ => 0))))])
theorem lenX0 (w : Wd) (sz : Nat) : (LX0 w sz).length = 9 := by
  unfold LX0
  first | (simp only [List.length_append, List.length_cons, List.length_nil, List.length_replicate, lenX3, lenX8, lenX9, lenX1, lenX7, lenX10, lenX6]; done) | (simp only [List.length_append, List.length_cons, List.length_nil, List.length_replicate, lenX3, lenX8, lenX9, lenX1, lenX7, lenX10, lenX6]; omega)
abbrev rmX0_init : Room := { frames := 1, cells := 9, slots := 1089, locals := 12 }
set_option maxHeartbeats 4000000 in
set_option maxRecDepth 100000 in
theorem kX0_init (l : Launch) (w : Wd) (h0 sz : Nat) : KMet l yX0_init cX0_init 1 rmX0_init w h0 0 blX0 (fsX0 sz) (LX0 w sz) sz [] 9 1089 := by
  refine k_met (by decide) rfl (Nat.le_of_ble_eq_true rfl) (fun p e s m below meth c ls E hz hl hC => ?_)
  subst hz
  obtain ⟨hx, hb, hml, hown, hts, -⟩ := id E
  replace hl : lv_has ls 1 [(0, .ref h0)] := hl
  refine lv_aload_n (pc := 0) hx hb dX0_init_0 rfl (lv_at hl 0 rfl) ?_
  refine k_obj (pc := 1) E hC ku53 hl.1 dX0_init_1 (Nat.le_of_ble_eq_true rfl) (Nat.le_of_ble_eq_true rfl) ku1 kuobj ?_
  refine lv_aload_n (pc := 4) hx hb dX0_init_4 rfl (lv_at hl 0 rfl) ?_
  refine lv_bipush (pc := 5) (v := 121) hx hb dX0_init_5 (by decide) ?_
  refine k_newa (pc := 7) (ty := .int) (a0 := (121, .inl (fun _ => 0))) E hC (s.heap.size + 0) (by first | (simp only [List.length_append, List.length_cons, List.length_nil, List.length_replicate, List.length_set, lenX3, lenX8, lenX9, lenX1, lenX7, lenX10, lenX6]; done) | (simp only [List.length_append, List.length_cons, List.length_nil, List.length_replicate, List.length_set, lenX3, lenX8, lenX9, lenX1, lenX7, lenX10, lenX6]; omega)) rfl 0 rfl (fun _ h => h) ku6 (fun _ => rfl) (by decide) rfl (Nat.le_of_ble_eq_true rfl) (Nat.le_of_ble_eq_true rfl) (Nat.le_of_ble_eq_true rfl) dX0_init_7 (fun H hC => ?_)
  refine k_put (pc := 9) E hC iuX0 tyX0 tyX0_ok nmX0 rfl 0 (Nat.le_of_ble_eq_true rfl) ku54 rfl rfl rfl (Nat.le_of_ble_eq_true rfl) dX0_init_9 (fun H locs hC => ?_)
  refine lv_aload_n (pc := 12) hx hb dX0_init_12 rfl (lv_at hl 0 rfl) ?_
  refine lv_bipush (pc := 13) (v := 121) hx hb dX0_init_13 (by decide) ?_
  refine k_newa (pc := 15) (ty := .boolean) (a0 := (121, .inl (fun _ => 0))) E hC (s.heap.size + 1) (by first | (simp only [List.length_append, List.length_cons, List.length_nil, List.length_replicate, List.length_set, lenX3, lenX8, lenX9, lenX1, lenX7, lenX10, lenX6]; done) | (simp only [List.length_append, List.length_cons, List.length_nil, List.length_replicate, List.length_set, lenX3, lenX8, lenX9, lenX1, lenX7, lenX10, lenX6]; omega)) rfl 2 rfl (fun _ h => h) ku55 (fun _ => rfl) (by decide) rfl (Nat.le_of_ble_eq_true rfl) (Nat.le_of_ble_eq_true rfl) (Nat.le_of_ble_eq_true rfl) dX0_init_15 (fun H hC => ?_)
  refine k_put (pc := 17) E hC iuX0 tyX0 tyX0_ok nmX0 rfl 1 (Nat.le_of_ble_eq_true rfl) ku56 rfl rfl rfl (Nat.le_of_ble_eq_true rfl) dX0_init_17 (fun H locs hC => ?_)
  refine lv_aload_n (pc := 20) hx hb dX0_init_20 rfl (lv_at hl 0 rfl) ?_
  refine lv_bipush (pc := 21) (v := 121) hx hb dX0_init_21 (by decide) ?_
  refine k_newa (pc := 23) (ty := .int) (a0 := (121, .inl (fun _ => 0))) E hC (s.heap.size + 2) (by first | (simp only [List.length_append, List.length_cons, List.length_nil, List.length_replicate, List.length_set, lenX3, lenX8, lenX9, lenX1, lenX7, lenX10, lenX6]; done) | (simp only [List.length_append, List.length_cons, List.length_nil, List.length_replicate, List.length_set, lenX3, lenX8, lenX9, lenX1, lenX7, lenX10, lenX6]; omega)) rfl 0 rfl (fun _ h => h) ku6 (fun _ => rfl) (by decide) rfl (Nat.le_of_ble_eq_true rfl) (Nat.le_of_ble_eq_true rfl) (Nat.le_of_ble_eq_true rfl) dX0_init_23 (fun H hC => ?_)
  refine k_put (pc := 25) E hC iuX0 tyX0 tyX0_ok nmX0 rfl 2 (Nat.le_of_ble_eq_true rfl) ku57 rfl rfl rfl (Nat.le_of_ble_eq_true rfl) dX0_init_25 (fun H locs hC => ?_)
  refine lv_aload_n (pc := 28) hx hb dX0_init_28 rfl (lv_at hl 0 rfl) ?_
  refine lv_bipush (pc := 29) (v := 121) hx hb dX0_init_29 (by decide) ?_
  refine k_newa (pc := 31) (ty := .int) (a0 := (121, .inl (fun _ => 0))) E hC (s.heap.size + 3) (by first | (simp only [List.length_append, List.length_cons, List.length_nil, List.length_replicate, List.length_set, lenX3, lenX8, lenX9, lenX1, lenX7, lenX10, lenX6]; done) | (simp only [List.length_append, List.length_cons, List.length_nil, List.length_replicate, List.length_set, lenX3, lenX8, lenX9, lenX1, lenX7, lenX10, lenX6]; omega)) rfl 0 rfl (fun _ h => h) ku6 (fun _ => rfl) (by decide) rfl (Nat.le_of_ble_eq_true rfl) (Nat.le_of_ble_eq_true rfl) (Nat.le_of_ble_eq_true rfl) dX0_init_31 (fun H hC => ?_)
  refine k_put (pc := 33) E hC iuX0 tyX0 tyX0_ok nmX0 rfl 3 (Nat.le_of_ble_eq_true rfl) ku58 rfl rfl rfl (Nat.le_of_ble_eq_true rfl) dX0_init_33 (fun H locs hC => ?_)
  refine lv_aload_n (pc := 36) hx hb dX0_init_36 rfl (lv_at hl 0 rfl) ?_
  refine lv_bipush (pc := 37) (v := 121) hx hb dX0_init_37 (by decide) ?_
  refine k_newa (pc := 39) (ty := .int) (a0 := (121, .inl (fun _ => 0))) E hC (s.heap.size + 4) (by first | (simp only [List.length_append, List.length_cons, List.length_nil, List.length_replicate, List.length_set, lenX3, lenX8, lenX9, lenX1, lenX7, lenX10, lenX6]; done) | (simp only [List.length_append, List.length_cons, List.length_nil, List.length_replicate, List.length_set, lenX3, lenX8, lenX9, lenX1, lenX7, lenX10, lenX6]; omega)) rfl 0 rfl (fun _ h => h) ku6 (fun _ => rfl) (by decide) rfl (Nat.le_of_ble_eq_true rfl) (Nat.le_of_ble_eq_true rfl) (Nat.le_of_ble_eq_true rfl) dX0_init_39 (fun H hC => ?_)
  refine k_put (pc := 41) E hC iuX0 tyX0 tyX0_ok nmX0 rfl 4 (Nat.le_of_ble_eq_true rfl) ku59 rfl rfl rfl (Nat.le_of_ble_eq_true rfl) dX0_init_41 (fun H locs hC => ?_)
  refine lv_aload_n (pc := 44) hx hb dX0_init_44 rfl (lv_at hl 0 rfl) ?_
  refine lv_bipush (pc := 45) (v := 121) hx hb dX0_init_45 (by decide) ?_
  refine k_newa (pc := 47) (ty := .int) (a0 := (121, .inl (fun _ => 0))) E hC (s.heap.size + 5) (by first | (simp only [List.length_append, List.length_cons, List.length_nil, List.length_replicate, List.length_set, lenX3, lenX8, lenX9, lenX1, lenX7, lenX10, lenX6]; done) | (simp only [List.length_append, List.length_cons, List.length_nil, List.length_replicate, List.length_set, lenX3, lenX8, lenX9, lenX1, lenX7, lenX10, lenX6]; omega)) rfl 0 rfl (fun _ h => h) ku6 (fun _ => rfl) (by decide) rfl (Nat.le_of_ble_eq_true rfl) (Nat.le_of_ble_eq_true rfl) (Nat.le_of_ble_eq_true rfl) dX0_init_47 (fun H hC => ?_)
  refine k_put (pc := 49) E hC iuX0 tyX0 tyX0_ok nmX0 rfl 5 (Nat.le_of_ble_eq_true rfl) ku60 rfl rfl rfl (Nat.le_of_ble_eq_true rfl) dX0_init_49 (fun H locs hC => ?_)
  refine lv_aload_n (pc := 52) hx hb dX0_init_52 rfl (lv_at hl 0 rfl) ?_
  refine lv_bipush (pc := 53) (v := 121) hx hb dX0_init_53 (by decide) ?_
  refine k_newa (pc := 55) (ty := .int) (a0 := (121, .inl (fun _ => 0))) E hC (s.heap.size + 6) (by first | (simp only [List.length_append, List.length_cons, List.length_nil, List.length_replicate, List.length_set, lenX3, lenX8, lenX9, lenX1, lenX7, lenX10, lenX6]; done) | (simp only [List.length_append, List.length_cons, List.length_nil, List.length_replicate, List.length_set, lenX3, lenX8, lenX9, lenX1, lenX7, lenX10, lenX6]; omega)) rfl 0 rfl (fun _ h => h) ku6 (fun _ => rfl) (by decide) rfl (Nat.le_of_ble_eq_true rfl) (Nat.le_of_ble_eq_true rfl) (Nat.le_of_ble_eq_true rfl) dX0_init_55 (fun H hC => ?_)
  refine k_put (pc := 57) E hC iuX0 tyX0 tyX0_ok nmX0 rfl 6 (Nat.le_of_ble_eq_true rfl) ku61 rfl rfl rfl (Nat.le_of_ble_eq_true rfl) dX0_init_57 (fun H locs hC => ?_)
  refine lv_aload_n (pc := 60) hx hb dX0_init_60 rfl (lv_at hl 0 rfl) ?_
  refine lv_bipush (pc := 61) (v := 121) hx hb dX0_init_61 (by decide) ?_
  refine k_newa (pc := 63) (ty := .int) (a0 := (121, .inl (fun _ => 0))) E hC (s.heap.size + 7) (by first | (simp only [List.length_append, List.length_cons, List.length_nil, List.length_replicate, List.length_set, lenX3, lenX8, lenX9, lenX1, lenX7, lenX10, lenX6]; done) | (simp only [List.length_append, List.length_cons, List.length_nil, List.length_replicate, List.length_set, lenX3, lenX8, lenX9, lenX1, lenX7, lenX10, lenX6]; omega)) rfl 0 rfl (fun _ h => h) ku6 (fun _ => rfl) (by decide) rfl (Nat.le_of_ble_eq_true rfl) (Nat.le_of_ble_eq_true rfl) (Nat.le_of_ble_eq_true rfl) dX0_init_63 (fun H hC => ?_)
  refine k_put (pc := 65) E hC iuX0 tyX0 tyX0_ok nmX0 rfl 7 (Nat.le_of_ble_eq_true rfl) ku62 rfl rfl rfl (Nat.le_of_ble_eq_true rfl) dX0_init_65 (fun H locs hC => ?_)
  refine lv_aload_n (pc := 68) hx hb dX0_init_68 rfl (lv_at hl 0 rfl) ?_
  refine lv_bipush (pc := 69) (v := 121) hx hb dX0_init_69 (by decide) ?_
  refine k_newa (pc := 71) (ty := .long) (a0 := (121, .inr (.inl (fun _ => 0)))) E hC (s.heap.size + 8) (by first | (simp only [List.length_append, List.length_cons, List.length_nil, List.length_replicate, List.length_set, lenX3, lenX8, lenX9, lenX1, lenX7, lenX10, lenX6]; done) | (simp only [List.length_append, List.length_cons, List.length_nil, List.length_replicate, List.length_set, lenX3, lenX8, lenX9, lenX1, lenX7, lenX10, lenX6]; omega)) rfl 3 rfl (fun _ h => h) ku63 (fun _ => rfl) (by decide) rfl (Nat.le_of_ble_eq_true rfl) (Nat.le_of_ble_eq_true rfl) (Nat.le_of_ble_eq_true rfl) dX0_init_71 (fun H hC => ?_)
  refine k_put (pc := 73) E hC iuX0 tyX0 tyX0_ok nmX0 rfl 8 (Nat.le_of_ble_eq_true rfl) ku64 rfl rfl rfl (Nat.le_of_ble_eq_true rfl) dX0_init_73 (fun H locs hC => ?_)
  refine lv_aload_n (pc := 76) hx hb dX0_init_76 rfl (lv_at hl 0 rfl) ?_
  refine lv_iconst (pc := 77) (v := 0) hx hb dX0_init_77 (by decide) ?_
  refine k_put (pc := 78) E hC iuX0 tyX0 tyX0_ok nmX0 rfl 9 (Nat.le_of_ble_eq_true rfl) ku65 rfl rfl rfl (Nat.le_of_ble_eq_true rfl) dX0_init_78 (fun H locs hC => ?_)
  refine lv_aload_n (pc := 81) hx hb dX0_init_81 rfl (lv_at hl 0 rfl) ?_
  refine lv_iconst (pc := 82) (v := 0) hx hb dX0_init_82 (by decide) ?_
  refine k_put (pc := 83) E hC iuX0 tyX0 tyX0_ok nmX0 rfl 10 (Nat.le_of_ble_eq_true rfl) ku66 rfl rfl rfl (Nat.le_of_ble_eq_true rfl) dX0_init_83 (fun H locs hC => ?_)
  refine W.widen (k := 9) (n := 1089) (Nat.le_of_ble_eq_true rfl) (Nat.le_of_ble_eq_true rfl) ?_
  exact k_ret E hC rfl dX0_init_86
-- GlulxStrings$Packer
theorem ku_code5 : Cond.code yX5_init cX5_init 3 none ∈ Uw := Uw_of (inT1 _ (List.mem_of_getElem? (i := 215) rfl)) rfl
def blX5 : List Value := [.null, .null, .null, .null, .null, .null, .null, .null, .null, .null, .null, .int 0]
def fsX5 (a1 : Nat) (a2 : Nat) (sz : Nat) : List Value := [.ref a1, .ref a2, .ref (sz + 0), .ref (sz + 66), .ref (sz + 91), .ref (sz + 94), .ref (sz + 104), .ref (sz + 125), .ref (sz + 126), .ref (sz + 127), .ref (sz + 128), .int (-1)]
def LX5 (w : Wd) (a1 : Nat) (a2 : Nat) (sz : Nat) : List va_E := ((((((((([] ++ (.inr (6, fsX7 (sz + 0 + 1)) :: LX7 w (sz + 0 + 1))) ++ (.inr (9, fsX10 (sz + 66 + 1)) :: LX10 w (sz + 66 + 1))) ++ (.inr (5, fsX6 (sz + 0) (sz + 91 + 1)) :: LX6 w (sz + 0) (sz + 91 + 1))) ++ (.inr (0, fsX0 (sz + 94 + 1)) :: LX0 w (sz + 94 + 1))) ++ (.inl (w.2.2 5, 20, .inr (.inr (.inr (.inr (fun i => if i < 20 then some (sz + 104 + 1 + i) else none))))) :: List.replicate 20 (.inl (w.2.2 0, 120, .inl (fun _ => 0))))) ++ [.inl (w.2.2 0, (20, .inl (fun _ => 0)))]) ++ [.inl (w.2.2 0, (20, .inl (fun _ => 0)))]) ++ [.inl (w.2.2 0, (60, .inl (fun _ => 0)))]) ++ [.inl (w.2.2 0, (60, .inl (fun _ => 0)))])
theorem lenX5 (w : Wd) (a1 : Nat) (a2 : Nat) (sz : Nat) : (LX5 w a1 a2 sz).length = 129 := by
  unfold LX5
  first | (simp only [List.length_append, List.length_cons, List.length_nil, List.length_replicate, lenX3, lenX8, lenX9, lenX1, lenX7, lenX10, lenX6, lenX0]; done) | (simp only [List.length_append, List.length_cons, List.length_nil, List.length_replicate, lenX3, lenX8, lenX9, lenX1, lenX7, lenX10, lenX6, lenX0]; omega)
abbrev rmX5_init : Room := { frames := 2, cells := 129, slots := 7916, locals := 33 }
set_option maxHeartbeats 4000000 in
set_option maxRecDepth 100000 in
theorem kX5_init (l : Launch) (w : Wd) (h0 sz : Nat) (a1 : Nat) (a2 : Nat) : KMet l yX5_init cX5_init 3 rmX5_init w h0 4 blX5 (fsX5 a1 a2 sz) (LX5 w a1 a2 sz) sz [.ref a1, .ref a2] 129 7916 := by
  refine k_met (by decide) rfl (Nat.le_of_ble_eq_true rfl) (fun p e s m below meth c ls E hz hl hC => ?_)
  subst hz
  obtain ⟨hx, hb, hml, hown, hts, -⟩ := id E
  replace hl : lv_has ls 3 [(0, .ref h0), (1, .ref a1), (2, .ref a2)] := hl
  refine lv_aload_n (pc := 0) hx hb dX5_init_0 rfl (lv_at hl 0 rfl) ?_
  refine k_obj (pc := 1) E hC ku67 hl.1 dX5_init_1 (Nat.le_of_ble_eq_true rfl) (Nat.le_of_ble_eq_true rfl) ku1 kuobj ?_
  refine lv_aload_n (pc := 4) hx hb dX5_init_4 rfl (lv_at hl 0 rfl) ?_
  refine k_new (pc := 5) (ci' := 6) (fs' := blX7) E hC (s.heap.size + 0) (by first | (simp only [List.length_append, List.length_cons, List.length_nil, List.length_replicate, List.length_set, lenX3, lenX8, lenX9, lenX1, lenX7, lenX10, lenX6, lenX0]; done) | (simp only [List.length_append, List.length_cons, List.length_nil, List.length_replicate, List.length_set, lenX3, lenX8, lenX9, lenX1, lenX7, lenX10, lenX6, lenX0]; omega)) iuX7 tyX7 tyX7_ok ku68 ku69 ku70 rfl (by decide +kernel) (Nat.le_of_ble_eq_true rfl) (Nat.le_of_ble_eq_true rfl) dX5_init_5 (fun H hC => ?_)
  refine lv_dup (pc := 8) hx hb dX5_init_8 rfl ?_
  refine k_initN (pc := 9) (As := []) (n := 0) E hC (s.heap.size + 0) (by first | (simp only [List.length_append, List.length_cons, List.length_nil, List.length_replicate, List.length_set, lenX3, lenX8, lenX9, lenX1, lenX7, lenX10, lenX6, lenX0]; done) | (simp only [List.length_append, List.length_cons, List.length_nil, List.length_replicate, List.length_set, lenX3, lenX8, lenX9, lenX1, lenX7, lenX10, lenX6, lenX0]; omega)) (kX7_init l w (s.heap.size + 0) (s.heap.size + 0 + 1)) ⟨ku_code7, ku70, by decide, by decide, by decide +kernel⟩ rfl ku71 (by decide) ⟨rfl, rfl, (Nat.le_of_ble_eq_true rfl), (Nat.le_of_ble_eq_true rfl)⟩ rfl hl.1 rfl (Nat.le_of_ble_eq_true rfl) dX5_init_9 ⟨(Nat.le_of_ble_eq_true rfl), (Nat.le_of_ble_eq_true rfl)⟩ (fun H locs hC => ?_)
  refine k_put (pc := 12) E hC iuX5 tyX5 tyX5_ok nmX5 rfl 2 (Nat.le_of_ble_eq_true rfl) ku72 rfl rfl rfl (Nat.le_of_ble_eq_true rfl) dX5_init_12 (fun H locs hC => ?_)
  refine lv_aload_n (pc := 15) hx hb dX5_init_15 rfl (lv_at hl 0 rfl) ?_
  refine k_new (pc := 16) (ci' := 9) (fs' := blX10) E hC (s.heap.size + 66) (by first | (simp only [List.length_append, List.length_cons, List.length_nil, List.length_replicate, List.length_set, lenX3, lenX8, lenX9, lenX1, lenX7, lenX10, lenX6, lenX0]; done) | (simp only [List.length_append, List.length_cons, List.length_nil, List.length_replicate, List.length_set, lenX3, lenX8, lenX9, lenX1, lenX7, lenX10, lenX6, lenX0]; omega)) iuX10 tyX10 tyX10_ok ku73 ku74 ku75 rfl (by decide +kernel) (Nat.le_of_ble_eq_true rfl) (Nat.le_of_ble_eq_true rfl) dX5_init_16 (fun H hC => ?_)
  refine lv_dup (pc := 19) hx hb dX5_init_19 rfl ?_
  refine k_initN (pc := 20) (As := []) (n := 0) E hC (s.heap.size + 66) (by first | (simp only [List.length_append, List.length_cons, List.length_nil, List.length_replicate, List.length_set, lenX3, lenX8, lenX9, lenX1, lenX7, lenX10, lenX6, lenX0]; done) | (simp only [List.length_append, List.length_cons, List.length_nil, List.length_replicate, List.length_set, lenX3, lenX8, lenX9, lenX1, lenX7, lenX10, lenX6, lenX0]; omega)) (kX10_init l w (s.heap.size + 66) (s.heap.size + 66 + 1)) ⟨ku_code10, ku75, by decide, by decide, by decide +kernel⟩ rfl ku76 (by decide) ⟨rfl, rfl, (Nat.le_of_ble_eq_true rfl), (Nat.le_of_ble_eq_true rfl)⟩ rfl hl.1 rfl (Nat.le_of_ble_eq_true rfl) dX5_init_20 ⟨(Nat.le_of_ble_eq_true rfl), (Nat.le_of_ble_eq_true rfl)⟩ (fun H locs hC => ?_)
  refine k_put (pc := 23) E hC iuX5 tyX5 tyX5_ok nmX5 rfl 3 (Nat.le_of_ble_eq_true rfl) ku77 rfl rfl rfl (Nat.le_of_ble_eq_true rfl) dX5_init_23 (fun H locs hC => ?_)
  refine lv_aload_n (pc := 26) hx hb dX5_init_26 rfl (lv_at hl 0 rfl) ?_
  refine k_new (pc := 27) (ci' := 5) (fs' := blX6) E hC (s.heap.size + 91) (by first | (simp only [List.length_append, List.length_cons, List.length_nil, List.length_replicate, List.length_set, lenX3, lenX8, lenX9, lenX1, lenX7, lenX10, lenX6, lenX0]; done) | (simp only [List.length_append, List.length_cons, List.length_nil, List.length_replicate, List.length_set, lenX3, lenX8, lenX9, lenX1, lenX7, lenX10, lenX6, lenX0]; omega)) iuX6 tyX6 tyX6_ok ku78 ku79 ku80 rfl (by decide +kernel) (Nat.le_of_ble_eq_true rfl) (Nat.le_of_ble_eq_true rfl) dX5_init_27 (fun H hC => ?_)
  refine lv_dup (pc := 30) hx hb dX5_init_30 rfl ?_
  refine lv_aload_n (pc := 31) hx hb dX5_init_31 rfl (lv_at hl 0 rfl) ?_
  refine k_get (pc := 32) E hC iuX5 rfl 2 (Nat.le_of_ble_eq_true rfl) ku72 rfl rfl dX5_init_32 ?_
  refine k_init (pc := 35) (As := [.ref (s.heap.size + 0)]) (n := 1) E hC (s.heap.size + 91) (by first | (simp only [List.length_append, List.length_cons, List.length_nil, List.length_replicate, List.length_set, lenX3, lenX8, lenX9, lenX1, lenX7, lenX10, lenX6, lenX0]; done) | (simp only [List.length_append, List.length_cons, List.length_nil, List.length_replicate, List.length_set, lenX3, lenX8, lenX9, lenX1, lenX7, lenX10, lenX6, lenX0]; omega)) (kX6_init l w (s.heap.size + 91) (s.heap.size + 91 + 1) (s.heap.size + 0)) ⟨ku_code6, ku80, by decide, by decide, by decide +kernel⟩ rfl ku82 ku81 ⟨rfl, rfl, (Nat.le_of_ble_eq_true rfl), (Nat.le_of_ble_eq_true rfl)⟩ rfl hl.1 rfl (Nat.le_of_ble_eq_true rfl) dX5_init_35 ⟨(Nat.le_of_ble_eq_true rfl), (Nat.le_of_ble_eq_true rfl)⟩ (fun H locs hC => ?_)
  refine k_put (pc := 38) E hC iuX5 tyX5 tyX5_ok nmX5 rfl 4 (Nat.le_of_ble_eq_true rfl) ku83 rfl rfl rfl (Nat.le_of_ble_eq_true rfl) dX5_init_38 (fun H locs hC => ?_)
  refine lv_aload_n (pc := 41) hx hb dX5_init_41 rfl (lv_at hl 0 rfl) ?_
  refine k_new (pc := 42) (ci' := 0) (fs' := blX0) E hC (s.heap.size + 94) (by first | (simp only [List.length_append, List.length_cons, List.length_nil, List.length_replicate, List.length_set, lenX3, lenX8, lenX9, lenX1, lenX7, lenX10, lenX6, lenX0]; done) | (simp only [List.length_append, List.length_cons, List.length_nil, List.length_replicate, List.length_set, lenX3, lenX8, lenX9, lenX1, lenX7, lenX10, lenX6, lenX0]; omega)) iuX0 tyX0 tyX0_ok ku84 ku85 ku86 rfl (by decide +kernel) (Nat.le_of_ble_eq_true rfl) (Nat.le_of_ble_eq_true rfl) dX5_init_42 (fun H hC => ?_)
  refine lv_dup (pc := 45) hx hb dX5_init_45 rfl ?_
  refine k_initN (pc := 46) (As := []) (n := 0) E hC (s.heap.size + 94) (by first | (simp only [List.length_append, List.length_cons, List.length_nil, List.length_replicate, List.length_set, lenX3, lenX8, lenX9, lenX1, lenX7, lenX10, lenX6, lenX0]; done) | (simp only [List.length_append, List.length_cons, List.length_nil, List.length_replicate, List.length_set, lenX3, lenX8, lenX9, lenX1, lenX7, lenX10, lenX6, lenX0]; omega)) (kX0_init l w (s.heap.size + 94) (s.heap.size + 94 + 1)) ⟨ku_code0, ku86, by decide, by decide, by decide +kernel⟩ rfl ku87 (by decide) ⟨rfl, rfl, (Nat.le_of_ble_eq_true rfl), (Nat.le_of_ble_eq_true rfl)⟩ rfl hl.1 rfl (Nat.le_of_ble_eq_true rfl) dX5_init_46 ⟨(Nat.le_of_ble_eq_true rfl), (Nat.le_of_ble_eq_true rfl)⟩ (fun H locs hC => ?_)
  refine k_put (pc := 49) E hC iuX5 tyX5 tyX5_ok nmX5 rfl 5 (Nat.le_of_ble_eq_true rfl) ku88 rfl rfl rfl (Nat.le_of_ble_eq_true rfl) dX5_init_49 (fun H locs hC => ?_)
  refine lv_aload_n (pc := 52) hx hb dX5_init_52 rfl (lv_at hl 0 rfl) ?_
  refine lv_bipush (pc := 53) (v := 20) hx hb dX5_init_53 (by decide) ?_
  refine lv_bipush (pc := 55) (v := 120) hx hb dX5_init_55 (by decide) ?_
  refine k_multi (pc := 57) E hC (s.heap.size + 104) (by first | (simp only [List.length_append, List.length_cons, List.length_nil, List.length_replicate, List.length_set, lenX3, lenX8, lenX9, lenX1, lenX7, lenX10, lenX6, lenX0]; done) | (simp only [List.length_append, List.length_cons, List.length_nil, List.length_replicate, List.length_set, lenX3, lenX8, lenX9, lenX1, lenX7, lenX10, lenX6, lenX0]; omega)) ku89 (N := 20) (M := 120) (by decide) (by decide) rfl rfl (Nat.le_of_ble_eq_true rfl) (Nat.le_of_ble_eq_true rfl) (Nat.le_of_ble_eq_true rfl) (Nat.le_of_ble_eq_true rfl) dX5_init_57 (fun H locs hC => ?_)
  refine k_put (pc := 61) E hC iuX5 tyX5 tyX5_ok nmX5 rfl 6 (Nat.le_of_ble_eq_true rfl) ku90 rfl rfl rfl (Nat.le_of_ble_eq_true rfl) dX5_init_61 (fun H locs hC => ?_)
  refine lv_aload_n (pc := 64) hx hb dX5_init_64 rfl (lv_at hl 0 rfl) ?_
  refine lv_bipush (pc := 65) (v := 20) hx hb dX5_init_65 (by decide) ?_
  refine k_newa (pc := 67) (ty := .int) (a0 := (20, .inl (fun _ => 0))) E hC (s.heap.size + 125) (by first | (simp only [List.length_append, List.length_cons, List.length_nil, List.length_replicate, List.length_set, lenX3, lenX8, lenX9, lenX1, lenX7, lenX10, lenX6, lenX0]; done) | (simp only [List.length_append, List.length_cons, List.length_nil, List.length_replicate, List.length_set, lenX3, lenX8, lenX9, lenX1, lenX7, lenX10, lenX6, lenX0]; omega)) rfl 0 rfl (fun _ h => h) ku6 (fun _ => rfl) (by decide) rfl (Nat.le_of_ble_eq_true rfl) (Nat.le_of_ble_eq_true rfl) (Nat.le_of_ble_eq_true rfl) dX5_init_67 (fun H hC => ?_)
  refine k_put (pc := 69) E hC iuX5 tyX5 tyX5_ok nmX5 rfl 7 (Nat.le_of_ble_eq_true rfl) ku91 rfl rfl rfl (Nat.le_of_ble_eq_true rfl) dX5_init_69 (fun H locs hC => ?_)
  refine lv_aload_n (pc := 72) hx hb dX5_init_72 rfl (lv_at hl 0 rfl) ?_
  refine lv_bipush (pc := 73) (v := 20) hx hb dX5_init_73 (by decide) ?_
  refine k_newa (pc := 75) (ty := .int) (a0 := (20, .inl (fun _ => 0))) E hC (s.heap.size + 126) (by first | (simp only [List.length_append, List.length_cons, List.length_nil, List.length_replicate, List.length_set, lenX3, lenX8, lenX9, lenX1, lenX7, lenX10, lenX6, lenX0]; done) | (simp only [List.length_append, List.length_cons, List.length_nil, List.length_replicate, List.length_set, lenX3, lenX8, lenX9, lenX1, lenX7, lenX10, lenX6, lenX0]; omega)) rfl 0 rfl (fun _ h => h) ku6 (fun _ => rfl) (by decide) rfl (Nat.le_of_ble_eq_true rfl) (Nat.le_of_ble_eq_true rfl) (Nat.le_of_ble_eq_true rfl) dX5_init_75 (fun H hC => ?_)
  refine k_put (pc := 77) E hC iuX5 tyX5 tyX5_ok nmX5 rfl 8 (Nat.le_of_ble_eq_true rfl) ku92 rfl rfl rfl (Nat.le_of_ble_eq_true rfl) dX5_init_77 (fun H locs hC => ?_)
  refine lv_aload_n (pc := 80) hx hb dX5_init_80 rfl (lv_at hl 0 rfl) ?_
  refine lv_bipush (pc := 81) (v := 60) hx hb dX5_init_81 (by decide) ?_
  refine k_newa (pc := 83) (ty := .int) (a0 := (60, .inl (fun _ => 0))) E hC (s.heap.size + 127) (by first | (simp only [List.length_append, List.length_cons, List.length_nil, List.length_replicate, List.length_set, lenX3, lenX8, lenX9, lenX1, lenX7, lenX10, lenX6, lenX0]; done) | (simp only [List.length_append, List.length_cons, List.length_nil, List.length_replicate, List.length_set, lenX3, lenX8, lenX9, lenX1, lenX7, lenX10, lenX6, lenX0]; omega)) rfl 0 rfl (fun _ h => h) ku6 (fun _ => rfl) (by decide) rfl (Nat.le_of_ble_eq_true rfl) (Nat.le_of_ble_eq_true rfl) (Nat.le_of_ble_eq_true rfl) dX5_init_83 (fun H hC => ?_)
  refine k_put (pc := 85) E hC iuX5 tyX5 tyX5_ok nmX5 rfl 9 (Nat.le_of_ble_eq_true rfl) ku93 rfl rfl rfl (Nat.le_of_ble_eq_true rfl) dX5_init_85 (fun H locs hC => ?_)
  refine lv_aload_n (pc := 88) hx hb dX5_init_88 rfl (lv_at hl 0 rfl) ?_
  refine lv_bipush (pc := 89) (v := 60) hx hb dX5_init_89 (by decide) ?_
  refine k_newa (pc := 91) (ty := .int) (a0 := (60, .inl (fun _ => 0))) E hC (s.heap.size + 128) (by first | (simp only [List.length_append, List.length_cons, List.length_nil, List.length_replicate, List.length_set, lenX3, lenX8, lenX9, lenX1, lenX7, lenX10, lenX6, lenX0]; done) | (simp only [List.length_append, List.length_cons, List.length_nil, List.length_replicate, List.length_set, lenX3, lenX8, lenX9, lenX1, lenX7, lenX10, lenX6, lenX0]; omega)) rfl 0 rfl (fun _ h => h) ku6 (fun _ => rfl) (by decide) rfl (Nat.le_of_ble_eq_true rfl) (Nat.le_of_ble_eq_true rfl) (Nat.le_of_ble_eq_true rfl) dX5_init_91 (fun H hC => ?_)
  refine k_put (pc := 93) E hC iuX5 tyX5 tyX5_ok nmX5 rfl 10 (Nat.le_of_ble_eq_true rfl) ku94 rfl rfl rfl (Nat.le_of_ble_eq_true rfl) dX5_init_93 (fun H locs hC => ?_)
  refine lv_aload_n (pc := 96) hx hb dX5_init_96 rfl (lv_at hl 0 rfl) ?_
  refine lv_iconst (pc := 97) (v := (-1)) hx hb dX5_init_97 (by decide) ?_
  refine k_put (pc := 98) E hC iuX5 tyX5 tyX5_ok nmX5 rfl 11 (Nat.le_of_ble_eq_true rfl) ku95 rfl rfl rfl (Nat.le_of_ble_eq_true rfl) dX5_init_98 (fun H locs hC => ?_)
  refine lv_aload_n (pc := 101) hx hb dX5_init_101 rfl (lv_at hl 0 rfl) ?_
  refine lv_aload_n (pc := 102) hx hb dX5_init_102 rfl (lv_at hl 1 rfl) ?_
  refine k_put (pc := 103) E hC iuX5 tyX5 tyX5_ok nmX5 rfl 0 (Nat.le_of_ble_eq_true rfl) ku96 rfl rfl rfl (Nat.le_of_ble_eq_true rfl) dX5_init_103 (fun H locs hC => ?_)
  refine lv_aload_n (pc := 106) hx hb dX5_init_106 rfl (lv_at hl 0 rfl) ?_
  refine lv_aload_n (pc := 107) hx hb dX5_init_107 rfl (lv_at hl 2 rfl) ?_
  refine k_put (pc := 108) E hC iuX5 tyX5 tyX5_ok nmX5 rfl 1 (Nat.le_of_ble_eq_true rfl) ku97 rfl rfl rfl (Nat.le_of_ble_eq_true rfl) dX5_init_108 (fun H locs hC => ?_)
  refine W.widen (k := 129) (n := 7916) (Nat.le_of_ble_eq_true rfl) (Nat.le_of_ble_eq_true rfl) ?_
  exact k_ret E hC rfl dX5_init_111
