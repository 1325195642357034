-- GlulxStrings
theorem ku_code11 : Cond.code yX11_init cX11_init 1 none ∈ Uw := Uw_of (inT1 _ (List.mem_of_getElem? (i := 20) rfl)) rfl
def blX11 : List Value := [.null, .null, .null, .null, .null, .null, .int 0, .int 0]
def fsX11 (sz : Nat) : List Value := [.ref (sz + 0), .ref (sz + 2), .ref (sz + 5), .ref (sz + 90), .ref (sz + 220), .ref (sz + 221), .int 0, .int 0]
def LX11 (w : Wd) (sz : Nat) : List va_E := (((((([] ++ (.inr (3, fsX3 (sz + 0 + 1)) :: LX3 w (sz + 0 + 1))) ++ (.inr (7, fsX8 (sz + 0) (sz + 2 + 1)) :: LX8 w (sz + 0) (sz + 2 + 1))) ++ (.inr (2, fsX2 (sz + 0) (sz + 2) (sz + 5 + 1)) :: LX2 w (sz + 0) (sz + 2) (sz + 5 + 1))) ++ (.inr (4, fsX5 (sz + 0) (sz + 2) (sz + 90 + 1)) :: LX5 w (sz + 0) (sz + 2) (sz + 90 + 1))) ++ [.inl (w.2.2 1, (600, .inl (fun _ => 0)))]) ++ [.inl (w.2.2 0, (120, .inl (fun _ => 0)))])
theorem lenX11 (w : Wd) (sz : Nat) : (LX11 w sz).length = 222 := by
  unfold LX11
  first | (simp only [List.length_append, List.length_cons, List.length_nil, List.length_replicate, lenX3, lenX8, lenX9, lenX1, lenX7, lenX10, lenX6, lenX0, lenX5, lenX2]; done) | (simp only [List.length_append, List.length_cons, List.length_nil, List.length_replicate, lenX3, lenX8, lenX9, lenX1, lenX7, lenX10, lenX6, lenX0, lenX5, lenX2]; omega)
abbrev rmX11_init : Room := { frames := 3, cells := 222, slots := 22652, locals := 55 }
set_option maxHeartbeats 4000000 in
set_option maxRecDepth 100000 in
theorem kX11_init (l : Launch) (w : Wd) (h0 sz : Nat) : KMet l yX11_init cX11_init 1 rmX11_init w h0 10 blX11 (fsX11 sz) (LX11 w sz) sz [] 222 22652 := by
  refine k_met (by decide) rfl (Nat.le_of_ble_eq_true rfl) (fun p e s m below meth c ls E hz hl hC => ?_)
  subst hz
  obtain ⟨hx, hb, hml, hown, hts, -⟩ := id E
  replace hl : lv_has ls 1 [(0, .ref h0)] := hl
  refine lv_aload_n (pc := 0) hx hb dX11_init_0 rfl (lv_at hl 0 rfl) ?_
  refine k_obj (pc := 1) E hC ku98 hl.1 dX11_init_1 (Nat.le_of_ble_eq_true rfl) (Nat.le_of_ble_eq_true rfl) ku1 kuobj ?_
  refine lv_aload_n (pc := 4) hx hb dX11_init_4 rfl (lv_at hl 0 rfl) ?_
  refine k_new (pc := 5) (ci' := 3) (fs' := blX3) E hC (s.heap.size + 0) (by first | (simp only [List.length_append, List.length_cons, List.length_nil, List.length_replicate, List.length_set, lenX3, lenX8, lenX9, lenX1, lenX7, lenX10, lenX6, lenX0, lenX5, lenX2]; done) | (simp only [List.length_append, List.length_cons, List.length_nil, List.length_replicate, List.length_set, lenX3, lenX8, lenX9, lenX1, lenX7, lenX10, lenX6, lenX0, lenX5, lenX2]; omega)) iuX3 tyX3 tyX3_ok ku99 ku100 ku101 rfl (by decide +kernel) (Nat.le_of_ble_eq_true rfl) (Nat.le_of_ble_eq_true rfl) dX11_init_5 (fun H hC => ?_)
  refine lv_dup (pc := 8) hx hb dX11_init_8 rfl ?_
  refine k_initN (pc := 9) (As := []) (n := 0) E hC (s.heap.size + 0) (by first | (simp only [List.length_append, List.length_cons, List.length_nil, List.length_replicate, List.length_set, lenX3, lenX8, lenX9, lenX1, lenX7, lenX10, lenX6, lenX0, lenX5, lenX2]; done) | (simp only [List.length_append, List.length_cons, List.length_nil, List.length_replicate, List.length_set, lenX3, lenX8, lenX9, lenX1, lenX7, lenX10, lenX6, lenX0, lenX5, lenX2]; omega)) (kX3_init l w (s.heap.size + 0) (s.heap.size + 0 + 1)) ⟨ku_code3, ku101, by decide, by decide, by decide +kernel⟩ rfl ku102 (by decide) ⟨rfl, rfl, (Nat.le_of_ble_eq_true rfl), (Nat.le_of_ble_eq_true rfl)⟩ rfl hl.1 rfl (Nat.le_of_ble_eq_true rfl) dX11_init_9 ⟨(Nat.le_of_ble_eq_true rfl), (Nat.le_of_ble_eq_true rfl)⟩ (fun H locs hC => ?_)
  refine k_put (pc := 12) E hC iuX11 tyX11 tyX11_ok nmX11 rfl 0 (Nat.le_of_ble_eq_true rfl) ku103 rfl rfl rfl (Nat.le_of_ble_eq_true rfl) dX11_init_12 (fun H locs hC => ?_)
  refine lv_aload_n (pc := 15) hx hb dX11_init_15 rfl (lv_at hl 0 rfl) ?_
  refine k_new (pc := 16) (ci' := 7) (fs' := blX8) E hC (s.heap.size + 2) (by first | (simp only [List.length_append, List.length_cons, List.length_nil, List.length_replicate, List.length_set, lenX3, lenX8, lenX9, lenX1, lenX7, lenX10, lenX6, lenX0, lenX5, lenX2]; done) | (simp only [List.length_append, List.length_cons, List.length_nil, List.length_replicate, List.length_set, lenX3, lenX8, lenX9, lenX1, lenX7, lenX10, lenX6, lenX0, lenX5, lenX2]; omega)) iuX8 tyX8 tyX8_ok ku104 ku105 ku106 rfl (by decide +kernel) (Nat.le_of_ble_eq_true rfl) (Nat.le_of_ble_eq_true rfl) dX11_init_16 (fun H hC => ?_)
  refine lv_dup (pc := 19) hx hb dX11_init_19 rfl ?_
  refine lv_aload_n (pc := 20) hx hb dX11_init_20 rfl (lv_at hl 0 rfl) ?_
  refine k_get (pc := 21) E hC iuX11 rfl 0 (Nat.le_of_ble_eq_true rfl) ku103 rfl rfl dX11_init_21 ?_
  refine k_init (pc := 24) (As := [.ref (s.heap.size + 0)]) (n := 1) E hC (s.heap.size + 2) (by first | (simp only [List.length_append, List.length_cons, List.length_nil, List.length_replicate, List.length_set, lenX3, lenX8, lenX9, lenX1, lenX7, lenX10, lenX6, lenX0, lenX5, lenX2]; done) | (simp only [List.length_append, List.length_cons, List.length_nil, List.length_replicate, List.length_set, lenX3, lenX8, lenX9, lenX1, lenX7, lenX10, lenX6, lenX0, lenX5, lenX2]; omega)) (kX8_init l w (s.heap.size + 2) (s.heap.size + 2 + 1) (s.heap.size + 0)) ⟨ku_code8, ku106, by decide, by decide, by decide +kernel⟩ rfl ku108 ku107 ⟨rfl, rfl, (Nat.le_of_ble_eq_true rfl), (Nat.le_of_ble_eq_true rfl)⟩ rfl hl.1 rfl (Nat.le_of_ble_eq_true rfl) dX11_init_24 ⟨(Nat.le_of_ble_eq_true rfl), (Nat.le_of_ble_eq_true rfl)⟩ (fun H locs hC => ?_)
  refine k_put (pc := 27) E hC iuX11 tyX11 tyX11_ok nmX11 rfl 1 (Nat.le_of_ble_eq_true rfl) ku109 rfl rfl rfl (Nat.le_of_ble_eq_true rfl) dX11_init_27 (fun H locs hC => ?_)
  refine lv_aload_n (pc := 30) hx hb dX11_init_30 rfl (lv_at hl 0 rfl) ?_
  refine k_new (pc := 31) (ci' := 2) (fs' := blX2) E hC (s.heap.size + 5) (by first | (simp only [List.length_append, List.length_cons, List.length_nil, List.length_replicate, List.length_set, lenX3, lenX8, lenX9, lenX1, lenX7, lenX10, lenX6, lenX0, lenX5, lenX2]; done) | (simp only [List.length_append, List.length_cons, List.length_nil, List.length_replicate, List.length_set, lenX3, lenX8, lenX9, lenX1, lenX7, lenX10, lenX6, lenX0, lenX5, lenX2]; omega)) iuX2 tyX2 tyX2_ok ku110 ku111 ku112 rfl (by decide +kernel) (Nat.le_of_ble_eq_true rfl) (Nat.le_of_ble_eq_true rfl) dX11_init_31 (fun H hC => ?_)
  refine lv_dup (pc := 34) hx hb dX11_init_34 rfl ?_
  refine lv_aload_n (pc := 35) hx hb dX11_init_35 rfl (lv_at hl 0 rfl) ?_
  refine k_get (pc := 36) E hC iuX11 rfl 0 (Nat.le_of_ble_eq_true rfl) ku103 rfl rfl dX11_init_36 ?_
  refine lv_aload_n (pc := 39) hx hb dX11_init_39 rfl (lv_at hl 0 rfl) ?_
  refine k_get (pc := 40) E hC iuX11 rfl 1 (Nat.le_of_ble_eq_true rfl) ku109 rfl rfl dX11_init_40 ?_
  refine k_init (pc := 43) (As := [.ref (s.heap.size + 0), .ref (s.heap.size + 2)]) (n := 2) E hC (s.heap.size + 5) (by first | (simp only [List.length_append, List.length_cons, List.length_nil, List.length_replicate, List.length_set, lenX3, lenX8, lenX9, lenX1, lenX7, lenX10, lenX6, lenX0, lenX5, lenX2]; done) | (simp only [List.length_append, List.length_cons, List.length_nil, List.length_replicate, List.length_set, lenX3, lenX8, lenX9, lenX1, lenX7, lenX10, lenX6, lenX0, lenX5, lenX2]; omega)) (kX2_init l w (s.heap.size + 5) (s.heap.size + 5 + 1) (s.heap.size + 0) (s.heap.size + 2)) ⟨ku_code2, ku112, by decide, by decide, by decide +kernel⟩ rfl ku114 ku113 ⟨rfl, rfl, (Nat.le_of_ble_eq_true rfl), (Nat.le_of_ble_eq_true rfl)⟩ rfl hl.1 rfl (Nat.le_of_ble_eq_true rfl) dX11_init_43 ⟨(Nat.le_of_ble_eq_true rfl), (Nat.le_of_ble_eq_true rfl)⟩ (fun H locs hC => ?_)
  refine k_put (pc := 46) E hC iuX11 tyX11 tyX11_ok nmX11 rfl 2 (Nat.le_of_ble_eq_true rfl) ku115 rfl rfl rfl (Nat.le_of_ble_eq_true rfl) dX11_init_46 (fun H locs hC => ?_)
  refine lv_aload_n (pc := 49) hx hb dX11_init_49 rfl (lv_at hl 0 rfl) ?_
  refine k_new (pc := 50) (ci' := 4) (fs' := blX5) E hC (s.heap.size + 90) (by first | (simp only [List.length_append, List.length_cons, List.length_nil, List.length_replicate, List.length_set, lenX3, lenX8, lenX9, lenX1, lenX7, lenX10, lenX6, lenX0, lenX5, lenX2]; done) | (simp only [List.length_append, List.length_cons, List.length_nil, List.length_replicate, List.length_set, lenX3, lenX8, lenX9, lenX1, lenX7, lenX10, lenX6, lenX0, lenX5, lenX2]; omega)) iuX5 tyX5 tyX5_ok ku116 ku117 ku118 rfl (by decide +kernel) (Nat.le_of_ble_eq_true rfl) (Nat.le_of_ble_eq_true rfl) dX11_init_50 (fun H hC => ?_)
  refine lv_dup (pc := 53) hx hb dX11_init_53 rfl ?_
  refine lv_aload_n (pc := 54) hx hb dX11_init_54 rfl (lv_at hl 0 rfl) ?_
  refine k_get (pc := 55) E hC iuX11 rfl 0 (Nat.le_of_ble_eq_true rfl) ku103 rfl rfl dX11_init_55 ?_
  refine lv_aload_n (pc := 58) hx hb dX11_init_58 rfl (lv_at hl 0 rfl) ?_
  refine k_get (pc := 59) E hC iuX11 rfl 1 (Nat.le_of_ble_eq_true rfl) ku109 rfl rfl dX11_init_59 ?_
  refine k_init (pc := 62) (As := [.ref (s.heap.size + 0), .ref (s.heap.size + 2)]) (n := 2) E hC (s.heap.size + 90) (by first | (simp only [List.length_append, List.length_cons, List.length_nil, List.length_replicate, List.length_set, lenX3, lenX8, lenX9, lenX1, lenX7, lenX10, lenX6, lenX0, lenX5, lenX2]; done) | (simp only [List.length_append, List.length_cons, List.length_nil, List.length_replicate, List.length_set, lenX3, lenX8, lenX9, lenX1, lenX7, lenX10, lenX6, lenX0, lenX5, lenX2]; omega)) (kX5_init l w (s.heap.size + 90) (s.heap.size + 90 + 1) (s.heap.size + 0) (s.heap.size + 2)) ⟨ku_code5, ku118, by decide, by decide, by decide +kernel⟩ rfl ku120 ku119 ⟨rfl, rfl, (Nat.le_of_ble_eq_true rfl), (Nat.le_of_ble_eq_true rfl)⟩ rfl hl.1 rfl (Nat.le_of_ble_eq_true rfl) dX11_init_62 ⟨(Nat.le_of_ble_eq_true rfl), (Nat.le_of_ble_eq_true rfl)⟩ (fun H locs hC => ?_)
  refine k_put (pc := 65) E hC iuX11 tyX11 tyX11_ok nmX11 rfl 3 (Nat.le_of_ble_eq_true rfl) ku121 rfl rfl rfl (Nat.le_of_ble_eq_true rfl) dX11_init_65 (fun H locs hC => ?_)
  refine lv_aload_n (pc := 68) hx hb dX11_init_68 rfl (lv_at hl 0 rfl) ?_
  refine lv_sipush (pc := 69) (v := 600) hx hb dX11_init_69 (by decide) ?_
  refine k_newa (pc := 72) (ty := .byte) (a0 := (600, .inl (fun _ => 0))) E hC (s.heap.size + 220) (by first | (simp only [List.length_append, List.length_cons, List.length_nil, List.length_replicate, List.length_set, lenX3, lenX8, lenX9, lenX1, lenX7, lenX10, lenX6, lenX0, lenX5, lenX2]; done) | (simp only [List.length_append, List.length_cons, List.length_nil, List.length_replicate, List.length_set, lenX3, lenX8, lenX9, lenX1, lenX7, lenX10, lenX6, lenX0, lenX5, lenX2]; omega)) rfl 1 rfl (fun _ h => h) ku2 (fun _ => rfl) (by decide) rfl (Nat.le_of_ble_eq_true rfl) (Nat.le_of_ble_eq_true rfl) (Nat.le_of_ble_eq_true rfl) dX11_init_72 (fun H hC => ?_)
  refine k_put (pc := 74) E hC iuX11 tyX11 tyX11_ok nmX11 rfl 4 (Nat.le_of_ble_eq_true rfl) ku122 rfl rfl rfl (Nat.le_of_ble_eq_true rfl) dX11_init_74 (fun H locs hC => ?_)
  refine lv_aload_n (pc := 77) hx hb dX11_init_77 rfl (lv_at hl 0 rfl) ?_
  refine lv_bipush (pc := 78) (v := 120) hx hb dX11_init_78 (by decide) ?_
  refine k_newa (pc := 80) (ty := .int) (a0 := (120, .inl (fun _ => 0))) E hC (s.heap.size + 221) (by first | (simp only [List.length_append, List.length_cons, List.length_nil, List.length_replicate, List.length_set, lenX3, lenX8, lenX9, lenX1, lenX7, lenX10, lenX6, lenX0, lenX5, lenX2]; done) | (simp only [List.length_append, List.length_cons, List.length_nil, List.length_replicate, List.length_set, lenX3, lenX8, lenX9, lenX1, lenX7, lenX10, lenX6, lenX0, lenX5, lenX2]; omega)) rfl 0 rfl (fun _ h => h) ku6 (fun _ => rfl) (by decide) rfl (Nat.le_of_ble_eq_true rfl) (Nat.le_of_ble_eq_true rfl) (Nat.le_of_ble_eq_true rfl) dX11_init_80 (fun H hC => ?_)
  refine k_put (pc := 82) E hC iuX11 tyX11 tyX11_ok nmX11 rfl 5 (Nat.le_of_ble_eq_true rfl) ku123 rfl rfl rfl (Nat.le_of_ble_eq_true rfl) dX11_init_82 (fun H locs hC => ?_)
  refine lv_aload_n (pc := 85) hx hb dX11_init_85 rfl (lv_at hl 0 rfl) ?_
  refine lv_iconst (pc := 86) (v := 0) hx hb dX11_init_86 (by decide) ?_
  refine k_put (pc := 87) E hC iuX11 tyX11 tyX11_ok nmX11 rfl 6 (Nat.le_of_ble_eq_true rfl) ku124 rfl rfl rfl (Nat.le_of_ble_eq_true rfl) dX11_init_87 (fun H locs hC => ?_)
  refine lv_aload_n (pc := 90) hx hb dX11_init_90 rfl (lv_at hl 0 rfl) ?_
  refine lv_iconst (pc := 91) (v := 0) hx hb dX11_init_91 (by decide) ?_
  refine k_put (pc := 92) E hC iuX11 tyX11 tyX11_ok nmX11 rfl 7 (Nat.le_of_ble_eq_true rfl) ku125 rfl rfl rfl (Nat.le_of_ble_eq_true rfl) dX11_init_92 (fun H locs hC => ?_)
  refine W.widen (k := 222) (n := 22652) (Nat.le_of_ble_eq_true rfl) (Nat.le_of_ble_eq_true rfl) ?_
  exact k_ret E hC rfl dX11_init_95
