-- GlulxStringsModel.order(I)V
abbrev rmX12_order : Room := { frames := 6, cells := 0, slots := 0, locals := 152 }
def fX12_order_j373 (N : Nat) (x2 : Int32) (x3 : Int32) (x5 : Int32) (x6 : Int32) (x8 : Int32) (t0 : Int32) (t1 : Int64) (t2 : Int32) (Q : St → Prop) (σ : St) : Prop := ∀ v_23 : Int32, v_23 = (t1 + t0.toInt64).toInt32 → vp_in t2 40 ∧ ∀ σ_25 : St, σ_25 = u1 σ 7 t2.toNatClampNeg v_23 → fX12_does N x2 x3 x5 x6 x8 (fun σ_26 => Q σ_26) σ_25
set_option maxHeartbeats 4000000 in
set_option maxRecDepth 100000 in
theorem bX12_order_373 {p : Program} {e : Env} {s : State} {m : MethodId} {args : Array Value} {below : List Frame} {meth : Method} {c : Code} (l : Launch) (w : Wd) (N : Nat) (Q : St → Prop) (E : Cx 38 w X2 cX12_order 11 RX12 (.code yX12_order cX12_order 11 none) none p s m args meth c) (x2 : Int32) (x3 : Int32) (x5 : Int32) (x6 : Int32) (x8 : Int32) (t0 : Int32) (t1 : Int64) (t2 : Int32) {σ : St} {H : Heap} {locs : List Loc} {ls : Array Slot} (hR : Rr 38 ev2 w σ s H locs) (hl : lv_has ls 11 [(0, .ref (w.2.1 0)), (2, .int x2), (3, .int x3), (5, .int x5), (6, .int x6), (8, .int x8)]) (h : fX12_order_j373 N x2 x3 x5 x6 x8 t0 t1 t2 Q σ) : W p l e rmX12_order s m args below meth c H locs 0 0 (MQ below (va_Qv Q (Rp 38 ev2 w) (Aw 38 w)) args s 0 0 (Aw 38 w)) (F0 m 373 ls [.int t0, .long t1, .int t2, .ref (w.2.1 7)]) := by
  obtain ⟨hx, hb, hml, hown, hts, hr, hlk, hK, hI, hX⟩ := id E
  unfold fX12_order_j373 at h
  refine lv_i2l (pc := 373) (v := t0.toInt64) hx hb dX12_order_373 rfl ?_
  refine lv_ladd (pc := 374) hx hb dX12_order_374 ?_
  refine lv_l2i (pc := 375) (v := (t1 + t0.toInt64).toInt32) hx hb dX12_order_375 rfl ?_
  refine lv_topi (pc := 376) (fun v_23 ev_23 => ?_)
  have h := h v_23 ev_23
  have g_24 := h.1
  have h := h.2
  refine q_iast (pc := 376) hx hb hK hI hR (k := 7) lt2_7 (fun f => (ar2_7 _ f _)) g_24 dX12_order_376 (fun H locs σ_25 eσ_25 hR => ?_)
  have h := h σ_25 eσ_25
  refine lv_aload_n (pc := 377) hx hb dX12_order_377 rfl (lv_at hl 0 rfl) ?_
  refine lv_iload_n (pc := 378) hx hb dX12_order_378 rfl (lv_at hl 1 rfl) ?_
  refine lv_iload_n (pc := 379) hx hb dX12_order_379 rfl (lv_at hl 2 rfl) ?_
  refine lv_iload (pc := 380) hx hb dX12_order_380 (lv_at hl 3 rfl) ?_
  refine lv_iload (pc := 382) hx hb dX12_order_382 (lv_at hl 4 rfl) ?_
  refine lv_iload (pc := 384) hx hb dX12_order_384 (lv_at hl 5 rfl) ?_
  refine q_cv (pc := 386) hR (q_rV E (xp2 w) (As := [.int x2, .int x3, .int x5, .int x6, .int x8]) (rest := []) (cX12_does_met l w hI N x2 x3 x5 x6 x8 _ σ_25 h) ckX12_does cvX12_does mw311 ⟨rfl, rfl, Nat.le_of_ble_eq_true rfl, Nat.le_of_ble_eq_true rfl⟩ hR (rc2_0 w) rfl hl.1 rfl (Nat.le_of_ble_eq_true rfl) dX12_order_386) (fun σ_26 H locs h hR => ?_)
  exact q_vret (pc := 389) E hR h dX12_order_389
def fX12_order_j351 (N : Nat) (x1 : Int32) (x2 : Int32) (x3 : Int32) (x5 : Int32) (x6 : Int32) (x8 : Int32) (x9 : Int32) (t0 : Int32) (Q : St → Prop) (σ : St) : Prop := ((t0 = 0 → fX12_order_j373 N x2 x3 x5 x6 x8 0 (σ.2 0 34) x1 Q σ) ∧ (¬ t0 = 0 → fX12_order_j373 N x2 x3 x5 x6 x8 x9 (σ.2 0 34) x1 Q σ))
set_option maxHeartbeats 4000000 in
set_option maxRecDepth 100000 in
theorem bX12_order_351 {p : Program} {e : Env} {s : State} {m : MethodId} {args : Array Value} {below : List Frame} {meth : Method} {c : Code} (l : Launch) (w : Wd) (N : Nat) (Q : St → Prop) (E : Cx 38 w X2 cX12_order 11 RX12 (.code yX12_order cX12_order 11 none) none p s m args meth c) (x1 : Int32) (x2 : Int32) (x3 : Int32) (x5 : Int32) (x6 : Int32) (x8 : Int32) (x9 : Int32) (t0 : Int32) {σ : St} {H : Heap} {locs : List Loc} {ls : Array Slot} (hR : Rr 38 ev2 w σ s H locs) (hl : lv_has ls 11 [(0, .ref (w.2.1 0)), (1, .int x1), (2, .int x2), (3, .int x3), (5, .int x5), (6, .int x6), (8, .int x8), (9, .int x9)]) (h : fX12_order_j351 N x1 x2 x3 x5 x6 x8 x9 t0 Q σ) : W p l e rmX12_order s m args below meth c H locs 0 0 (MQ below (va_Qv Q (Rp 38 ev2 w) (Aw 38 w)) args s 0 0 (Aw 38 w)) (F0 m 351 ls [.int t0]) := by
  obtain ⟨hx, hb, hml, hown, hts, hr, hlk, hK, hI, hX⟩ := id E
  unfold fX12_order_j351 at h
  refine lv_istore (pc := 351) (lv' := [(10, .int t0), (0, .ref (w.2.1 0)), (1, .int x1), (2, .int x2), (3, .int x3), (5, .int x5), (6, .int x6), (8, .int x8), (9, .int x9)]) hx hb dX12_order_351 hl (by decide) rfl (fun ls hl => ?_)
  refine lv_aload_n (pc := 353) hx hb dX12_order_353 rfl (lv_at hl 1 rfl) ?_
  refine gf2_0_16 (pc := 354) hx hb hts hown hK hR mw288 dX12_order_354 ?_
  refine lv_iload_n (pc := 357) hx hb dX12_order_357 rfl (lv_at hl 2 rfl) ?_
  refine lv_aload_n (pc := 358) hx hb dX12_order_358 rfl (lv_at hl 1 rfl) ?_
  refine gf2_0_34 (pc := 359) hx hb hts hown hK hR mw297 dX12_order_359 ?_
  refine lv_iload (pc := 362) hx hb dX12_order_362 (lv_at hl 0 rfl) ?_
  refine lv_if_eq (pc := 364) (tgt := 372) hx hb dX12_order_364 (by decide) (fun c_22 => ?_) (fun c_22 => ?_)
  · have h := h.1 c_22
    refine lv_iconst (pc := 372) (v := 0) hx hb dX12_order_372 (by decide) ?_
    exact bX12_order_373 l w N Q E x2 x3 x5 x6 x8 0 (σ.2 0 34) x1 hR (lv_sub hl [1, 3, 4, 5, 6, 7] rfl) h
  · have h := h.2 c_22
    refine lv_iload (pc := 367) hx hb dX12_order_367 (lv_at hl 8 rfl) ?_
    refine lv_goto (pc := 369) (tgt := 373) hx hb dX12_order_369 (by decide) ?_
    exact bX12_order_373 l w N Q E x2 x3 x5 x6 x8 x9 (σ.2 0 34) x1 hR (lv_sub hl [1, 3, 4, 5, 6, 7] rfl) h
def fX12_order_j350 (N : Nat) (x1 : Int32) (x2 : Int32) (x3 : Int32) (x5 : Int32) (x6 : Int32) (x8 : Int32) (x9 : Int32) (Q : St → Prop) (σ : St) : Prop := fX12_order_j351 N x1 x2 x3 x5 x6 x8 x9 0 Q σ
set_option maxHeartbeats 4000000 in
set_option maxRecDepth 100000 in
theorem bX12_order_350 {p : Program} {e : Env} {s : State} {m : MethodId} {args : Array Value} {below : List Frame} {meth : Method} {c : Code} (l : Launch) (w : Wd) (N : Nat) (Q : St → Prop) (E : Cx 38 w X2 cX12_order 11 RX12 (.code yX12_order cX12_order 11 none) none p s m args meth c) (x1 : Int32) (x2 : Int32) (x3 : Int32) (x5 : Int32) (x6 : Int32) (x8 : Int32) (x9 : Int32) {σ : St} {H : Heap} {locs : List Loc} {ls : Array Slot} (hR : Rr 38 ev2 w σ s H locs) (hl : lv_has ls 11 [(0, .ref (w.2.1 0)), (1, .int x1), (2, .int x2), (3, .int x3), (5, .int x5), (6, .int x6), (8, .int x8), (9, .int x9)]) (h : fX12_order_j350 N x1 x2 x3 x5 x6 x8 x9 Q σ) : W p l e rmX12_order s m args below meth c H locs 0 0 (MQ below (va_Qv Q (Rp 38 ev2 w) (Aw 38 w)) args s 0 0 (Aw 38 w)) (F0 m 350 ls []) := by
  obtain ⟨hx, hb, hml, hown, hts, hr, hlk, hK, hI, hX⟩ := id E
  unfold fX12_order_j350 at h
  refine lv_iconst (pc := 350) (v := 0) hx hb dX12_order_350 (by decide) ?_
  exact bX12_order_351 l w N Q E x1 x2 x3 x5 x6 x8 x9 0 hR (lv_sub hl [0, 1, 2, 3, 4, 5, 6, 7] rfl) h
def fX12_order_j346 (N : Nat) (x1 : Int32) (x2 : Int32) (x3 : Int32) (x5 : Int32) (x6 : Int32) (x8 : Int32) (x9 : Int32) (Q : St → Prop) (σ : St) : Prop := fX12_order_j351 N x1 x2 x3 x5 x6 x8 x9 1 Q σ
set_option maxHeartbeats 4000000 in
set_option maxRecDepth 100000 in
theorem bX12_order_346 {p : Program} {e : Env} {s : State} {m : MethodId} {args : Array Value} {below : List Frame} {meth : Method} {c : Code} (l : Launch) (w : Wd) (N : Nat) (Q : St → Prop) (E : Cx 38 w X2 cX12_order 11 RX12 (.code yX12_order cX12_order 11 none) none p s m args meth c) (x1 : Int32) (x2 : Int32) (x3 : Int32) (x5 : Int32) (x6 : Int32) (x8 : Int32) (x9 : Int32) {σ : St} {H : Heap} {locs : List Loc} {ls : Array Slot} (hR : Rr 38 ev2 w σ s H locs) (hl : lv_has ls 11 [(0, .ref (w.2.1 0)), (1, .int x1), (2, .int x2), (3, .int x3), (5, .int x5), (6, .int x6), (8, .int x8), (9, .int x9)]) (h : fX12_order_j346 N x1 x2 x3 x5 x6 x8 x9 Q σ) : W p l e rmX12_order s m args below meth c H locs 0 0 (MQ below (va_Qv Q (Rp 38 ev2 w) (Aw 38 w)) args s 0 0 (Aw 38 w)) (F0 m 346 ls []) := by
  obtain ⟨hx, hb, hml, hown, hts, hr, hlk, hK, hI, hX⟩ := id E
  unfold fX12_order_j346 at h
  refine lv_iconst (pc := 346) (v := 1) hx hb dX12_order_346 (by decide) ?_
  refine lv_goto (pc := 347) (tgt := 351) hx hb dX12_order_347 (by decide) ?_
  exact bX12_order_351 l w N Q E x1 x2 x3 x5 x6 x8 x9 1 hR (lv_sub hl [0, 1, 2, 3, 4, 5, 6, 7] rfl) h
def fX12_order_j334 (N : Nat) (x1 : Int32) (x2 : Int32) (x3 : Int32) (x5 : Int32) (x6 : Int32) (x8 : Int32) (x9 : Int32) (Q : St → Prop) (σ : St) : Prop := ((x2 = 12 → ((x5 ≤ x3 → fX12_order_j350 N x1 x2 x3 x5 x6 x8 x9 Q σ) ∧ (¬ x5 ≤ x3 → fX12_order_j346 N x1 x2 x3 x5 x6 x8 x9 Q σ))) ∧ (¬ x2 = 12 → fX12_order_j350 N x1 x2 x3 x5 x6 x8 x9 Q σ))
set_option maxHeartbeats 4000000 in
set_option maxRecDepth 100000 in
theorem bX12_order_334 {p : Program} {e : Env} {s : State} {m : MethodId} {args : Array Value} {below : List Frame} {meth : Method} {c : Code} (l : Launch) (w : Wd) (N : Nat) (Q : St → Prop) (E : Cx 38 w X2 cX12_order 11 RX12 (.code yX12_order cX12_order 11 none) none p s m args meth c) (x1 : Int32) (x2 : Int32) (x3 : Int32) (x5 : Int32) (x6 : Int32) (x8 : Int32) (x9 : Int32) {σ : St} {H : Heap} {locs : List Loc} {ls : Array Slot} (hR : Rr 38 ev2 w σ s H locs) (hl : lv_has ls 11 [(0, .ref (w.2.1 0)), (1, .int x1), (2, .int x2), (3, .int x3), (5, .int x5), (6, .int x6), (8, .int x8), (9, .int x9)]) (h : fX12_order_j334 N x1 x2 x3 x5 x6 x8 x9 Q σ) : W p l e rmX12_order s m args below meth c H locs 0 0 (MQ below (va_Qv Q (Rp 38 ev2 w) (Aw 38 w)) args s 0 0 (Aw 38 w)) (F0 m 334 ls []) := by
  obtain ⟨hx, hb, hml, hown, hts, hr, hlk, hK, hI, hX⟩ := id E
  unfold fX12_order_j334 at h
  refine lv_iload_n (pc := 334) hx hb dX12_order_334 rfl (lv_at hl 2 rfl) ?_
  refine lv_bipush (pc := 335) (v := 12) hx hb dX12_order_335 (by decide) ?_
  refine lv_icmp_ne (pc := 337) (tgt := 350) hx hb dX12_order_337 (by decide) (fun c_21 => ?_) (fun c_21 => ?_)
  · have h := h.2 c_21
    exact bX12_order_350 l w N Q E x1 x2 x3 x5 x6 x8 x9 hR (lv_sub hl [0, 1, 2, 3, 4, 5, 6, 7] rfl) h
  · have h := h.1 c_21
    refine lv_iload_n (pc := 340) hx hb dX12_order_340 rfl (lv_at hl 3 rfl) ?_
    refine lv_iload (pc := 341) hx hb dX12_order_341 (lv_at hl 4 rfl) ?_
    refine lv_icmp_ge (pc := 343) (tgt := 350) hx hb dX12_order_343 (by decide) (fun c_22 => ?_) (fun c_22 => ?_)
    · have h := h.1 c_22
      exact bX12_order_350 l w N Q E x1 x2 x3 x5 x6 x8 x9 hR (lv_sub hl [0, 1, 2, 3, 4, 5, 6, 7] rfl) h
    · have h := h.2 c_22
      exact bX12_order_346 l w N Q E x1 x2 x3 x5 x6 x8 x9 hR (lv_sub hl [0, 1, 2, 3, 4, 5, 6, 7] rfl) h
def fX12_order_j324 (N : Nat) (x1 : Int32) (x2 : Int32) (x3 : Int32) (x5 : Int32) (x6 : Int32) (x8 : Int32) (x9 : Int32) (Q : St → Prop) (σ : St) : Prop := ((x2 = 11 → ((x3 = 0 → fX12_order_j334 N x1 x2 x3 x5 x6 x8 x9 Q σ) ∧ (¬ x3 = 0 → fX12_order_j346 N x1 x2 x3 x5 x6 x8 x9 Q σ))) ∧ (¬ x2 = 11 → fX12_order_j334 N x1 x2 x3 x5 x6 x8 x9 Q σ))
set_option maxHeartbeats 4000000 in
set_option maxRecDepth 100000 in
theorem bX12_order_324 {p : Program} {e : Env} {s : State} {m : MethodId} {args : Array Value} {below : List Frame} {meth : Method} {c : Code} (l : Launch) (w : Wd) (N : Nat) (Q : St → Prop) (E : Cx 38 w X2 cX12_order 11 RX12 (.code yX12_order cX12_order 11 none) none p s m args meth c) (x1 : Int32) (x2 : Int32) (x3 : Int32) (x5 : Int32) (x6 : Int32) (x8 : Int32) (x9 : Int32) {σ : St} {H : Heap} {locs : List Loc} {ls : Array Slot} (hR : Rr 38 ev2 w σ s H locs) (hl : lv_has ls 11 [(0, .ref (w.2.1 0)), (1, .int x1), (2, .int x2), (3, .int x3), (5, .int x5), (6, .int x6), (8, .int x8), (9, .int x9)]) (h : fX12_order_j324 N x1 x2 x3 x5 x6 x8 x9 Q σ) : W p l e rmX12_order s m args below meth c H locs 0 0 (MQ below (va_Qv Q (Rp 38 ev2 w) (Aw 38 w)) args s 0 0 (Aw 38 w)) (F0 m 324 ls []) := by
  obtain ⟨hx, hb, hml, hown, hts, hr, hlk, hK, hI, hX⟩ := id E
  unfold fX12_order_j324 at h
  refine lv_iload_n (pc := 324) hx hb dX12_order_324 rfl (lv_at hl 2 rfl) ?_
  refine lv_bipush (pc := 325) (v := 11) hx hb dX12_order_325 (by decide) ?_
  refine lv_icmp_ne (pc := 327) (tgt := 334) hx hb dX12_order_327 (by decide) (fun c_20 => ?_) (fun c_20 => ?_)
  · have h := h.2 c_20
    exact bX12_order_334 l w N Q E x1 x2 x3 x5 x6 x8 x9 hR (lv_sub hl [0, 1, 2, 3, 4, 5, 6, 7] rfl) h
  · have h := h.1 c_20
    refine lv_iload_n (pc := 330) hx hb dX12_order_330 rfl (lv_at hl 3 rfl) ?_
    refine lv_if_ne (pc := 331) (tgt := 346) hx hb dX12_order_331 (by decide) (fun c_21 => ?_) (fun c_21 => ?_)
    · have h := h.2 c_21
      exact bX12_order_346 l w N Q E x1 x2 x3 x5 x6 x8 x9 hR (lv_sub hl [0, 1, 2, 3, 4, 5, 6, 7] rfl) h
    · have h := h.1 c_21
      exact bX12_order_334 l w N Q E x1 x2 x3 x5 x6 x8 x9 hR (lv_sub hl [0, 1, 2, 3, 4, 5, 6, 7] rfl) h
def fX12_order_j304 (N : Nat) (x1 : Int32) (x2 : Int32) (x3 : Int32) (x5 : Int32) (x6 : Int32) (x8 : Int32) (t0 : Int32) (Q : St → Prop) (σ : St) : Prop := (((σ.1 0 9) ≤ 0 → ((x2 = 10 → ((x3 = 0 → fX12_order_j346 N x1 x2 x3 x5 x6 x8 t0 Q σ) ∧ (¬ x3 = 0 → fX12_order_j324 N x1 x2 x3 x5 x6 x8 t0 Q σ))) ∧ (¬ x2 = 10 → fX12_order_j324 N x1 x2 x3 x5 x6 x8 t0 Q σ))) ∧ (¬ (σ.1 0 9) ≤ 0 → Q σ))
set_option maxHeartbeats 4000000 in
set_option maxRecDepth 100000 in
theorem bX12_order_304 {p : Program} {e : Env} {s : State} {m : MethodId} {args : Array Value} {below : List Frame} {meth : Method} {c : Code} (l : Launch) (w : Wd) (N : Nat) (Q : St → Prop) (E : Cx 38 w X2 cX12_order 11 RX12 (.code yX12_order cX12_order 11 none) none p s m args meth c) (x1 : Int32) (x2 : Int32) (x3 : Int32) (x5 : Int32) (x6 : Int32) (x8 : Int32) (t0 : Int32) {σ : St} {H : Heap} {locs : List Loc} {ls : Array Slot} (hR : Rr 38 ev2 w σ s H locs) (hl : lv_has ls 11 [(0, .ref (w.2.1 0)), (1, .int x1), (2, .int x2), (3, .int x3), (5, .int x5), (6, .int x6), (8, .int x8)]) (h : fX12_order_j304 N x1 x2 x3 x5 x6 x8 t0 Q σ) : W p l e rmX12_order s m args below meth c H locs 0 0 (MQ below (va_Qv Q (Rp 38 ev2 w) (Aw 38 w)) args s 0 0 (Aw 38 w)) (F0 m 304 ls [.int t0]) := by
  obtain ⟨hx, hb, hml, hown, hts, hr, hlk, hK, hI, hX⟩ := id E
  unfold fX12_order_j304 at h
  refine lv_istore (pc := 304) (lv' := [(9, .int t0), (0, .ref (w.2.1 0)), (1, .int x1), (2, .int x2), (3, .int x3), (5, .int x5), (6, .int x6), (8, .int x8)]) hx hb dX12_order_304 hl (by decide) rfl (fun ls hl => ?_)
  refine lv_aload_n (pc := 306) hx hb dX12_order_306 rfl (lv_at hl 1 rfl) ?_
  refine gf2_0_9 (pc := 307) hx hb hts hown hK hR mw270 dX12_order_307 ?_
  refine lv_if_le (pc := 310) (tgt := 314) hx hb dX12_order_310 (by decide) (fun c_18 => ?_) (fun c_18 => ?_)
  · have h := h.1 c_18
    refine lv_iload_n (pc := 314) hx hb dX12_order_314 rfl (lv_at hl 3 rfl) ?_
    refine lv_bipush (pc := 315) (v := 10) hx hb dX12_order_315 (by decide) ?_
    refine lv_icmp_ne (pc := 317) (tgt := 324) hx hb dX12_order_317 (by decide) (fun c_19 => ?_) (fun c_19 => ?_)
    · have h := h.2 c_19
      exact bX12_order_324 l w N Q E x1 x2 x3 x5 x6 x8 t0 hR (lv_sub hl [1, 2, 3, 4, 5, 6, 7, 0] rfl) h
    · have h := h.1 c_19
      refine lv_iload_n (pc := 320) hx hb dX12_order_320 rfl (lv_at hl 4 rfl) ?_
      refine lv_if_eq (pc := 321) (tgt := 346) hx hb dX12_order_321 (by decide) (fun c_20 => ?_) (fun c_20 => ?_)
      · have h := h.1 c_20
        exact bX12_order_346 l w N Q E x1 x2 x3 x5 x6 x8 t0 hR (lv_sub hl [1, 2, 3, 4, 5, 6, 7, 0] rfl) h
      · have h := h.2 c_20
        exact bX12_order_324 l w N Q E x1 x2 x3 x5 x6 x8 t0 hR (lv_sub hl [1, 2, 3, 4, 5, 6, 7, 0] rfl) h
  · have h := h.2 c_18
    exact q_vret (pc := 313) E hR h dX12_order_313
def fX12_order_j303 (N : Nat) (x1 : Int32) (x2 : Int32) (x3 : Int32) (x5 : Int32) (x6 : Int32) (x8 : Int32) (Q : St → Prop) (σ : St) : Prop := fX12_order_j304 N x1 x2 x3 x5 x6 x8 0 Q σ
set_option maxHeartbeats 4000000 in
set_option maxRecDepth 100000 in
theorem bX12_order_303 {p : Program} {e : Env} {s : State} {m : MethodId} {args : Array Value} {below : List Frame} {meth : Method} {c : Code} (l : Launch) (w : Wd) (N : Nat) (Q : St → Prop) (E : Cx 38 w X2 cX12_order 11 RX12 (.code yX12_order cX12_order 11 none) none p s m args meth c) (x1 : Int32) (x2 : Int32) (x3 : Int32) (x5 : Int32) (x6 : Int32) (x8 : Int32) {σ : St} {H : Heap} {locs : List Loc} {ls : Array Slot} (hR : Rr 38 ev2 w σ s H locs) (hl : lv_has ls 11 [(0, .ref (w.2.1 0)), (1, .int x1), (2, .int x2), (3, .int x3), (5, .int x5), (6, .int x6), (8, .int x8)]) (h : fX12_order_j303 N x1 x2 x3 x5 x6 x8 Q σ) : W p l e rmX12_order s m args below meth c H locs 0 0 (MQ below (va_Qv Q (Rp 38 ev2 w) (Aw 38 w)) args s 0 0 (Aw 38 w)) (F0 m 303 ls []) := by
  obtain ⟨hx, hb, hml, hown, hts, hr, hlk, hK, hI, hX⟩ := id E
  unfold fX12_order_j303 at h
  refine lv_iconst (pc := 303) (v := 0) hx hb dX12_order_303 (by decide) ?_
  exact bX12_order_304 l w N Q E x1 x2 x3 x5 x6 x8 0 hR (lv_sub hl [0, 1, 2, 3, 4, 5, 6] rfl) h
def fX12_order_j275 (N : Nat) (x1 : Int32) (x2 : Int32) (x3 : Int32) (x5 : Int32) (x6 : Int32) (t0 : Int32) (Q : St → Prop) (σ : St) : Prop := ((x2 < 10 → fX12_order_j303 N x1 x2 x3 x5 x6 t0 Q σ) ∧ (¬ x2 < 10 → ((12 < x2 → fX12_order_j303 N x1 x2 x3 x5 x6 t0 Q σ) ∧ (¬ 12 < x2 → (((σ.1 0 9) = 0 → fX12_way N (fun r_21 σ_20 => fX12_order_j304 N x1 x2 x3 x5 x6 t0 r_21 Q σ_20) σ) ∧ (¬ (σ.1 0 9) = 0 → fX12_order_j303 N x1 x2 x3 x5 x6 t0 Q σ))))))
set_option maxHeartbeats 4000000 in
set_option maxRecDepth 100000 in
theorem bX12_order_275 {p : Program} {e : Env} {s : State} {m : MethodId} {args : Array Value} {below : List Frame} {meth : Method} {c : Code} (l : Launch) (w : Wd) (N : Nat) (Q : St → Prop) (E : Cx 38 w X2 cX12_order 11 RX12 (.code yX12_order cX12_order 11 none) none p s m args meth c) (x1 : Int32) (x2 : Int32) (x3 : Int32) (x5 : Int32) (x6 : Int32) (t0 : Int32) {σ : St} {H : Heap} {locs : List Loc} {ls : Array Slot} (hR : Rr 38 ev2 w σ s H locs) (hl : lv_has ls 11 [(0, .ref (w.2.1 0)), (1, .int x1), (2, .int x2), (3, .int x3), (5, .int x5), (6, .int x6)]) (h : fX12_order_j275 N x1 x2 x3 x5 x6 t0 Q σ) : W p l e rmX12_order s m args below meth c H locs 0 0 (MQ below (va_Qv Q (Rp 38 ev2 w) (Aw 38 w)) args s 0 0 (Aw 38 w)) (F0 m 275 ls [.int t0]) := by
  obtain ⟨hx, hb, hml, hown, hts, hr, hlk, hK, hI, hX⟩ := id E
  unfold fX12_order_j275 at h
  refine lv_istore (pc := 275) (lv' := [(8, .int t0), (0, .ref (w.2.1 0)), (1, .int x1), (2, .int x2), (3, .int x3), (5, .int x5), (6, .int x6)]) hx hb dX12_order_275 hl (by decide) rfl (fun ls hl => ?_)
  refine lv_iload_n (pc := 277) hx hb dX12_order_277 rfl (lv_at hl 3 rfl) ?_
  refine lv_bipush (pc := 278) (v := 10) hx hb dX12_order_278 (by decide) ?_
  refine lv_icmp_lt (pc := 280) (tgt := 303) hx hb dX12_order_280 (by decide) (fun c_17 => ?_) (fun c_17 => ?_)
  · have h := h.1 c_17
    exact bX12_order_303 l w N Q E x1 x2 x3 x5 x6 t0 hR (lv_sub hl [1, 2, 3, 4, 5, 6, 0] rfl) h
  · have h := h.2 c_17
    refine lv_iload_n (pc := 283) hx hb dX12_order_283 rfl (lv_at hl 3 rfl) ?_
    refine lv_bipush (pc := 284) (v := 12) hx hb dX12_order_284 (by decide) ?_
    refine lv_icmp_gt (pc := 286) (tgt := 303) hx hb dX12_order_286 (by decide) (fun c_18 => ?_) (fun c_18 => ?_)
    · have h := h.1 c_18
      exact bX12_order_303 l w N Q E x1 x2 x3 x5 x6 t0 hR (lv_sub hl [1, 2, 3, 4, 5, 6, 0] rfl) h
    · have h := h.2 c_18
      refine lv_aload_n (pc := 289) hx hb dX12_order_289 rfl (lv_at hl 1 rfl) ?_
      refine gf2_0_9 (pc := 290) hx hb hts hown hK hR mw270 dX12_order_290 ?_
      refine lv_if_ne (pc := 293) (tgt := 303) hx hb dX12_order_293 (by decide) (fun c_19 => ?_) (fun c_19 => ?_)
      · have h := h.2 c_19
        exact bX12_order_303 l w N Q E x1 x2 x3 x5 x6 t0 hR (lv_sub hl [1, 2, 3, 4, 5, 6, 0] rfl) h
      · have h := h.1 c_19
        refine lv_aload_n (pc := 296) hx hb dX12_order_296 rfl (lv_at hl 1 rfl) ?_
        refine q_ci (pc := 297) hR (q_rV E (xp2 w) (As := []) (rest := []) (cX12_way_met l w hI N _ σ h) ckX12_way cvX12_way mw312 ⟨rfl, rfl, Nat.le_of_ble_eq_true rfl, Nat.le_of_ble_eq_true rfl⟩ hR (rc2_0 w) rfl hl.1 rfl (Nat.le_of_ble_eq_true rfl) dX12_order_297) (fun r_21 σ_20 H locs h hR => ?_)
        refine lv_goto (pc := 300) (tgt := 304) hx hb dX12_order_300 (by decide) ?_
        exact bX12_order_304 l w N Q E x1 x2 x3 x5 x6 t0 r_21 hR (lv_sub hl [1, 2, 3, 4, 5, 6, 0] rfl) h
def fX12_order_j272 (N : Nat) (x1 : Int32) (x2 : Int32) (x3 : Int32) (x5 : Int32) (x6 : Int32) (Q : St → Prop) (σ : St) : Prop := fX12_order_j275 N x1 x2 x3 x5 x6 255 Q σ
set_option maxHeartbeats 4000000 in
set_option maxRecDepth 100000 in
theorem bX12_order_272 {p : Program} {e : Env} {s : State} {m : MethodId} {args : Array Value} {below : List Frame} {meth : Method} {c : Code} (l : Launch) (w : Wd) (N : Nat) (Q : St → Prop) (E : Cx 38 w X2 cX12_order 11 RX12 (.code yX12_order cX12_order 11 none) none p s m args meth c) (x1 : Int32) (x2 : Int32) (x3 : Int32) (x5 : Int32) (x6 : Int32) {σ : St} {H : Heap} {locs : List Loc} {ls : Array Slot} (hR : Rr 38 ev2 w σ s H locs) (hl : lv_has ls 11 [(0, .ref (w.2.1 0)), (1, .int x1), (2, .int x2), (3, .int x3), (5, .int x5), (6, .int x6)]) (h : fX12_order_j272 N x1 x2 x3 x5 x6 Q σ) : W p l e rmX12_order s m args below meth c H locs 0 0 (MQ below (va_Qv Q (Rp 38 ev2 w) (Aw 38 w)) args s 0 0 (Aw 38 w)) (F0 m 272 ls []) := by
  obtain ⟨hx, hb, hml, hown, hts, hr, hlk, hK, hI, hX⟩ := id E
  unfold fX12_order_j272 at h
  refine lv_sipush (pc := 272) (v := 255) hx hb dX12_order_272 (by decide) ?_
  exact bX12_order_275 l w N Q E x1 x2 x3 x5 x6 255 hR (lv_sub hl [0, 1, 2, 3, 4, 5] rfl) h
def fX12_order_j251 (N : Nat) (x1 : Int32) (x2 : Int32) (x3 : Int32) (x5 : Int32) (x6 : Int32) (t0 : Int32) (Q : St → Prop) (σ : St) : Prop := ((t0 = 0 → fX12_order_j272 N x1 x2 x3 x5 x6 Q σ) ∧ (¬ t0 = 0 → (((σ.1 0 9) = 0 → fX12_target N (fun r_19 σ_18 => fX12_order_j275 N x1 x2 x3 x5 x6 r_19 Q σ_18) σ) ∧ (¬ (σ.1 0 9) = 0 → fX12_order_j272 N x1 x2 x3 x5 x6 Q σ))))
set_option maxHeartbeats 4000000 in
set_option maxRecDepth 100000 in
theorem bX12_order_251 {p : Program} {e : Env} {s : State} {m : MethodId} {args : Array Value} {below : List Frame} {meth : Method} {c : Code} (l : Launch) (w : Wd) (N : Nat) (Q : St → Prop) (E : Cx 38 w X2 cX12_order 11 RX12 (.code yX12_order cX12_order 11 none) none p s m args meth c) (x1 : Int32) (x2 : Int32) (x3 : Int32) (x5 : Int32) (x6 : Int32) (t0 : Int32) {σ : St} {H : Heap} {locs : List Loc} {ls : Array Slot} (hR : Rr 38 ev2 w σ s H locs) (hl : lv_has ls 11 [(0, .ref (w.2.1 0)), (1, .int x1), (2, .int x2), (3, .int x3), (5, .int x5), (6, .int x6)]) (h : fX12_order_j251 N x1 x2 x3 x5 x6 t0 Q σ) : W p l e rmX12_order s m args below meth c H locs 0 0 (MQ below (va_Qv Q (Rp 38 ev2 w) (Aw 38 w)) args s 0 0 (Aw 38 w)) (F0 m 251 ls [.int t0]) := by
  obtain ⟨hx, hb, hml, hown, hts, hr, hlk, hK, hI, hX⟩ := id E
  unfold fX12_order_j251 at h
  refine lv_istore (pc := 251) (lv' := [(7, .int t0), (0, .ref (w.2.1 0)), (1, .int x1), (2, .int x2), (3, .int x3), (5, .int x5), (6, .int x6)]) hx hb dX12_order_251 hl (by decide) rfl (fun ls hl => ?_)
  refine lv_iload (pc := 253) hx hb dX12_order_253 (lv_at hl 0 rfl) ?_
  refine lv_if_eq (pc := 255) (tgt := 272) hx hb dX12_order_255 (by decide) (fun c_16 => ?_) (fun c_16 => ?_)
  · have h := h.1 c_16
    exact bX12_order_272 l w N Q E x1 x2 x3 x5 x6 hR (lv_sub hl [1, 2, 3, 4, 5, 6] rfl) h
  · have h := h.2 c_16
    refine lv_aload_n (pc := 258) hx hb dX12_order_258 rfl (lv_at hl 1 rfl) ?_
    refine gf2_0_9 (pc := 259) hx hb hts hown hK hR mw270 dX12_order_259 ?_
    refine lv_if_ne (pc := 262) (tgt := 272) hx hb dX12_order_262 (by decide) (fun c_17 => ?_) (fun c_17 => ?_)
    · have h := h.2 c_17
      exact bX12_order_272 l w N Q E x1 x2 x3 x5 x6 hR (lv_sub hl [1, 2, 3, 4, 5, 6] rfl) h
    · have h := h.1 c_17
      refine lv_aload_n (pc := 265) hx hb dX12_order_265 rfl (lv_at hl 1 rfl) ?_
      refine q_ci (pc := 266) hR (q_rV E (xp2 w) (As := []) (rest := []) (cX12_target_met l w hI N _ σ h) ckX12_target cvX12_target mw313 ⟨rfl, rfl, Nat.le_of_ble_eq_true rfl, Nat.le_of_ble_eq_true rfl⟩ hR (rc2_0 w) rfl hl.1 rfl (Nat.le_of_ble_eq_true rfl) dX12_order_266) (fun r_19 σ_18 H locs h hR => ?_)
      refine lv_goto (pc := 269) (tgt := 275) hx hb dX12_order_269 (by decide) ?_
      exact bX12_order_275 l w N Q E x1 x2 x3 x5 x6 r_19 hR (lv_sub hl [1, 2, 3, 4, 5, 6] rfl) h
def fX12_order_j246 (N : Nat) (x1 : Int32) (x2 : Int32) (x3 : Int32) (x5 : Int32) (x6 : Int32) (Q : St → Prop) (σ : St) : Prop := fX12_order_j251 N x1 x2 x3 x5 x6 1 Q σ
set_option maxHeartbeats 4000000 in
set_option maxRecDepth 100000 in
theorem bX12_order_246 {p : Program} {e : Env} {s : State} {m : MethodId} {args : Array Value} {below : List Frame} {meth : Method} {c : Code} (l : Launch) (w : Wd) (N : Nat) (Q : St → Prop) (E : Cx 38 w X2 cX12_order 11 RX12 (.code yX12_order cX12_order 11 none) none p s m args meth c) (x1 : Int32) (x2 : Int32) (x3 : Int32) (x5 : Int32) (x6 : Int32) {σ : St} {H : Heap} {locs : List Loc} {ls : Array Slot} (hR : Rr 38 ev2 w σ s H locs) (hl : lv_has ls 11 [(0, .ref (w.2.1 0)), (1, .int x1), (2, .int x2), (3, .int x3), (5, .int x5), (6, .int x6)]) (h : fX12_order_j246 N x1 x2 x3 x5 x6 Q σ) : W p l e rmX12_order s m args below meth c H locs 0 0 (MQ below (va_Qv Q (Rp 38 ev2 w) (Aw 38 w)) args s 0 0 (Aw 38 w)) (F0 m 246 ls []) := by
  obtain ⟨hx, hb, hml, hown, hts, hr, hlk, hK, hI, hX⟩ := id E
  unfold fX12_order_j246 at h
  refine lv_iconst (pc := 246) (v := 1) hx hb dX12_order_246 (by decide) ?_
  refine lv_goto (pc := 247) (tgt := 251) hx hb dX12_order_247 (by decide) ?_
  exact bX12_order_251 l w N Q E x1 x2 x3 x5 x6 1 hR (lv_sub hl [0, 1, 2, 3, 4, 5] rfl) h
def fX12_order_j228 (N : Nat) (x1 : Int32) (x2 : Int32) (x3 : Int32) (x5 : Int32) (x6 : Int32) (Q : St → Prop) (σ : St) : Prop := ((x2 = 13 → fX12_order_j246 N x1 x2 x3 x5 x6 Q σ) ∧ (¬ x2 = 13 → ((x2 = 14 → fX12_order_j246 N x1 x2 x3 x5 x6 Q σ) ∧ (¬ x2 = 14 → ((x2 = 16 → fX12_order_j246 N x1 x2 x3 x5 x6 Q σ) ∧ (¬ x2 = 16 → fX12_order_j251 N x1 x2 x3 x5 x6 0 Q σ))))))
set_option maxHeartbeats 4000000 in
set_option maxRecDepth 100000 in
theorem bX12_order_228 {p : Program} {e : Env} {s : State} {m : MethodId} {args : Array Value} {below : List Frame} {meth : Method} {c : Code} (l : Launch) (w : Wd) (N : Nat) (Q : St → Prop) (E : Cx 38 w X2 cX12_order 11 RX12 (.code yX12_order cX12_order 11 none) none p s m args meth c) (x1 : Int32) (x2 : Int32) (x3 : Int32) (x5 : Int32) (x6 : Int32) {σ : St} {H : Heap} {locs : List Loc} {ls : Array Slot} (hR : Rr 38 ev2 w σ s H locs) (hl : lv_has ls 11 [(0, .ref (w.2.1 0)), (1, .int x1), (2, .int x2), (3, .int x3), (5, .int x5), (6, .int x6)]) (h : fX12_order_j228 N x1 x2 x3 x5 x6 Q σ) : W p l e rmX12_order s m args below meth c H locs 0 0 (MQ below (va_Qv Q (Rp 38 ev2 w) (Aw 38 w)) args s 0 0 (Aw 38 w)) (F0 m 228 ls []) := by
  obtain ⟨hx, hb, hml, hown, hts, hr, hlk, hK, hI, hX⟩ := id E
  unfold fX12_order_j228 at h
  refine lv_iload_n (pc := 228) hx hb dX12_order_228 rfl (lv_at hl 2 rfl) ?_
  refine lv_bipush (pc := 229) (v := 13) hx hb dX12_order_229 (by decide) ?_
  refine lv_icmp_eq (pc := 231) (tgt := 246) hx hb dX12_order_231 (by decide) (fun c_15 => ?_) (fun c_15 => ?_)
  · have h := h.1 c_15
    exact bX12_order_246 l w N Q E x1 x2 x3 x5 x6 hR (lv_sub hl [0, 1, 2, 3, 4, 5] rfl) h
  · have h := h.2 c_15
    refine lv_iload_n (pc := 234) hx hb dX12_order_234 rfl (lv_at hl 2 rfl) ?_
    refine lv_bipush (pc := 235) (v := 14) hx hb dX12_order_235 (by decide) ?_
    refine lv_icmp_eq (pc := 237) (tgt := 246) hx hb dX12_order_237 (by decide) (fun c_16 => ?_) (fun c_16 => ?_)
    · have h := h.1 c_16
      exact bX12_order_246 l w N Q E x1 x2 x3 x5 x6 hR (lv_sub hl [0, 1, 2, 3, 4, 5] rfl) h
    · have h := h.2 c_16
      refine lv_iload_n (pc := 240) hx hb dX12_order_240 rfl (lv_at hl 2 rfl) ?_
      refine lv_bipush (pc := 241) (v := 16) hx hb dX12_order_241 (by decide) ?_
      refine lv_icmp_ne (pc := 243) (tgt := 250) hx hb dX12_order_243 (by decide) (fun c_17 => ?_) (fun c_17 => ?_)
      · have h := h.2 c_17
        refine lv_iconst (pc := 250) (v := 0) hx hb dX12_order_250 (by decide) ?_
        exact bX12_order_251 l w N Q E x1 x2 x3 x5 x6 0 hR (lv_sub hl [0, 1, 2, 3, 4, 5] rfl) h
      · have h := h.1 c_17
        exact bX12_order_246 l w N Q E x1 x2 x3 x5 x6 hR (lv_sub hl [0, 1, 2, 3, 4, 5] rfl) h
def fX12_order_j216 (N : Nat) (x1 : Int32) (x2 : Int32) (x3 : Int32) (x5 : Int32) (x6 : Int32) (Q : St → Prop) (σ : St) : Prop := ((x2 < 6 → fX12_order_j228 N x1 x2 x3 x5 x6 Q σ) ∧ (¬ x2 < 6 → ((x2 ≤ 9 → fX12_order_j246 N x1 x2 x3 x5 x6 Q σ) ∧ (¬ x2 ≤ 9 → fX12_order_j228 N x1 x2 x3 x5 x6 Q σ))))
set_option maxHeartbeats 4000000 in
set_option maxRecDepth 100000 in
theorem bX12_order_216 {p : Program} {e : Env} {s : State} {m : MethodId} {args : Array Value} {below : List Frame} {meth : Method} {c : Code} (l : Launch) (w : Wd) (N : Nat) (Q : St → Prop) (E : Cx 38 w X2 cX12_order 11 RX12 (.code yX12_order cX12_order 11 none) none p s m args meth c) (x1 : Int32) (x2 : Int32) (x3 : Int32) (x5 : Int32) (x6 : Int32) {σ : St} {H : Heap} {locs : List Loc} {ls : Array Slot} (hR : Rr 38 ev2 w σ s H locs) (hl : lv_has ls 11 [(0, .ref (w.2.1 0)), (1, .int x1), (2, .int x2), (3, .int x3), (5, .int x5), (6, .int x6)]) (h : fX12_order_j216 N x1 x2 x3 x5 x6 Q σ) : W p l e rmX12_order s m args below meth c H locs 0 0 (MQ below (va_Qv Q (Rp 38 ev2 w) (Aw 38 w)) args s 0 0 (Aw 38 w)) (F0 m 216 ls []) := by
  obtain ⟨hx, hb, hml, hown, hts, hr, hlk, hK, hI, hX⟩ := id E
  unfold fX12_order_j216 at h
  refine lv_iload_n (pc := 216) hx hb dX12_order_216 rfl (lv_at hl 2 rfl) ?_
  refine lv_bipush (pc := 217) (v := 6) hx hb dX12_order_217 (by decide) ?_
  refine lv_icmp_lt (pc := 219) (tgt := 228) hx hb dX12_order_219 (by decide) (fun c_14 => ?_) (fun c_14 => ?_)
  · have h := h.1 c_14
    exact bX12_order_228 l w N Q E x1 x2 x3 x5 x6 hR (lv_sub hl [0, 1, 2, 3, 4, 5] rfl) h
  · have h := h.2 c_14
    refine lv_iload_n (pc := 222) hx hb dX12_order_222 rfl (lv_at hl 2 rfl) ?_
    refine lv_bipush (pc := 223) (v := 9) hx hb dX12_order_223 (by decide) ?_
    refine lv_icmp_le (pc := 225) (tgt := 246) hx hb dX12_order_225 (by decide) (fun c_15 => ?_) (fun c_15 => ?_)
    · have h := h.1 c_15
      exact bX12_order_246 l w N Q E x1 x2 x3 x5 x6 hR (lv_sub hl [0, 1, 2, 3, 4, 5] rfl) h
    · have h := h.2 c_15
      exact bX12_order_228 l w N Q E x1 x2 x3 x5 x6 hR (lv_sub hl [0, 1, 2, 3, 4, 5] rfl) h
def fX12_order_l185 (N : Nat) (x1 : Int32) (x2 : Int32) (x3 : Int32) (x5 : Int32) (x6 : Int32) (Q : St → Prop) (r185 : Int32 → St → Prop) (x7 : Int32) (σ : St) : Prop := ((x6 ≤ x7 → fX12_order_j216 N x1 x2 x3 x5 x6 Q σ) ∧ (¬ x6 ≤ x7 → (((σ.1 0 9) = 0 → fX12_value N (fun r_22 σ_21 => vp_in x7 4 ∧ ∀ σ_24 : St, σ_24 = u1 σ_21 15 x7.toNatClampNeg r_22 → ∀ v_25 : Int32, v_25 = x7 + 1 → r185 v_25 σ_24) σ) ∧ (¬ (σ.1 0 9) = 0 → fX12_order_j216 N x1 x2 x3 x5 x6 Q σ))))
set_option maxHeartbeats 4000000 in
set_option maxRecDepth 100000 in
theorem bX12_order_185 {p : Program} {e : Env} {s : State} {m : MethodId} {args : Array Value} {below : List Frame} {meth : Method} {c : Code} (l : Launch) (w : Wd) (N : Nat) (Q : St → Prop) (E : Cx 38 w X2 cX12_order 11 RX12 (.code yX12_order cX12_order 11 none) none p s m args meth c) (x1 : Int32) (x2 : Int32) (x3 : Int32) (x5 : Int32) (x6 : Int32) : ∀ (n : Nat) (x7 : Int32) (σ : St) (H : Heap) (locs : List Loc) (ls : Array Slot), Rr 38 ev2 w σ s H locs → lv_has ls 11 [(0, .ref (w.2.1 0)), (1, .int x1), (2, .int x2), (3, .int x3), (5, .int x5), (6, .int x6), (7, .int x7)] → lo1 (fX12_order_l185 N x1 x2 x3 x5 x6 Q) n x7 σ → W p l e rmX12_order s m args below meth c H locs 0 0 (MQ below (va_Qv Q (Rp 38 ev2 w) (Aw 38 w)) args s 0 0 (Aw 38 w)) (F0 m 185 ls []) := by
  obtain ⟨hx, hb, hml, hown, hts, hr, hlk, hK, hI, hX⟩ := id E
  intro n
  induction n with
  | zero => intro x7 σ H locs ls hR hl h; exact h.elim
  | succ n ih =>
    intro x7 σ H locs ls hR hl h
    have h : fX12_order_l185 N x1 x2 x3 x5 x6 Q (lo1 (fX12_order_l185 N x1 x2 x3 x5 x6 Q) n) x7 σ := h
    unfold fX12_order_l185 at h
    refine lv_iload (pc := 185) hx hb dX12_order_185 (lv_at hl 6 rfl) ?_
    refine lv_iload (pc := 187) hx hb dX12_order_187 (lv_at hl 5 rfl) ?_
    refine lv_icmp_ge (pc := 189) (tgt := 216) hx hb dX12_order_189 (by decide) (fun c_19 => ?_) (fun c_19 => ?_)
    · have h := h.1 c_19
      exact bX12_order_216 l w N Q E x1 x2 x3 x5 x6 hR (lv_sub hl [0, 1, 2, 3, 4, 5] rfl) h
    · have h := h.2 c_19
      refine lv_aload_n (pc := 192) hx hb dX12_order_192 rfl (lv_at hl 0 rfl) ?_
      refine gf2_0_9 (pc := 193) hx hb hts hown hK hR mw270 dX12_order_193 ?_
      refine lv_if_ne (pc := 196) (tgt := 216) hx hb dX12_order_196 (by decide) (fun c_20 => ?_) (fun c_20 => ?_)
      · have h := h.2 c_20
        exact bX12_order_216 l w N Q E x1 x2 x3 x5 x6 hR (lv_sub hl [0, 1, 2, 3, 4, 5] rfl) h
      · have h := h.1 c_20
        refine lv_aload_n (pc := 199) hx hb dX12_order_199 rfl (lv_at hl 0 rfl) ?_
        refine gf2_0_33 (pc := 200) hx hb hts hown hK hR mw300 dX12_order_200 ?_
        refine lv_iload (pc := 203) hx hb dX12_order_203 (lv_at hl 6 rfl) ?_
        refine lv_aload_n (pc := 205) hx hb dX12_order_205 rfl (lv_at hl 0 rfl) ?_
        refine q_ci (pc := 206) hR (q_rV E (xp2 w) (As := []) (rest := [.int x7, .ref (w.2.1 15)]) (cX12_value_met l w hI N _ σ h) ckX12_value cvX12_value mw314 ⟨rfl, rfl, Nat.le_of_ble_eq_true rfl, Nat.le_of_ble_eq_true rfl⟩ hR (rc2_0 w) rfl hl.1 rfl (Nat.le_of_ble_eq_true rfl) dX12_order_206) (fun r_22 σ_21 H locs h hR => ?_)
        have g_23 := h.1
        have h := h.2
        refine q_iast (pc := 209) hx hb hK hI hR (k := 15) lt2_15 (fun f => (ar2_15 _ f _)) g_23 dX12_order_209 (fun H locs σ_24 eσ_24 hR => ?_)
        have h := h σ_24 eσ_24
        obtain ⟨v_25, ev_25⟩ : ∃ z : Int32, z = x7 + 1 := ⟨_, rfl⟩
        have h := h v_25 ev_25
        refine lv_iinc (pc := 210) (v := v_25) (lv' := [(7, .int v_25), (0, .ref (w.2.1 0)), (1, .int x1), (2, .int x2), (3, .int x3), (5, .int x5), (6, .int x6)]) hx hb dX12_order_210 hl (k := 6) rfl (by rw [ev_25]; rfl) (by decide) rfl (fun ls hl => ?_)
        refine lv_goto (pc := 213) (tgt := 185) hx hb dX12_order_213 (by decide) ?_
        exact ih v_25 σ_24 _ _ _ hR (lv_sub hl [1, 2, 3, 4, 5, 6, 0] rfl) h
def fX12_order_j182 (N : Nat) (x1 : Int32) (x2 : Int32) (x3 : Int32) (x5 : Int32) (x6 : Int32) (Q : St → Prop) (σ : St) : Prop := lo1 (fX12_order_l185 N x1 x2 x3 x5 x6 Q) N 0 σ
set_option maxHeartbeats 4000000 in
set_option maxRecDepth 100000 in
theorem bX12_order_182 {p : Program} {e : Env} {s : State} {m : MethodId} {args : Array Value} {below : List Frame} {meth : Method} {c : Code} (l : Launch) (w : Wd) (N : Nat) (Q : St → Prop) (E : Cx 38 w X2 cX12_order 11 RX12 (.code yX12_order cX12_order 11 none) none p s m args meth c) (x1 : Int32) (x2 : Int32) (x3 : Int32) (x5 : Int32) (x6 : Int32) {σ : St} {H : Heap} {locs : List Loc} {ls : Array Slot} (hR : Rr 38 ev2 w σ s H locs) (hl : lv_has ls 11 [(0, .ref (w.2.1 0)), (1, .int x1), (2, .int x2), (3, .int x3), (5, .int x5), (6, .int x6)]) (h : fX12_order_j182 N x1 x2 x3 x5 x6 Q σ) : W p l e rmX12_order s m args below meth c H locs 0 0 (MQ below (va_Qv Q (Rp 38 ev2 w) (Aw 38 w)) args s 0 0 (Aw 38 w)) (F0 m 182 ls []) := by
  obtain ⟨hx, hb, hml, hown, hts, hr, hlk, hK, hI, hX⟩ := id E
  unfold fX12_order_j182 at h
  refine lv_iconst (pc := 182) (v := 0) hx hb dX12_order_182 (by decide) ?_
  refine lv_istore (pc := 183) (lv' := [(7, .int 0), (0, .ref (w.2.1 0)), (1, .int x1), (2, .int x2), (3, .int x3), (5, .int x5), (6, .int x6)]) hx hb dX12_order_183 hl (by decide) rfl (fun ls hl => ?_)
  exact bX12_order_185 l w N Q E x1 x2 x3 x5 x6 N 0 σ _ _ _ hR (lv_sub hl [1, 2, 3, 4, 5, 6, 0] rfl) h
def fX12_order_j132 (N : Nat) (x1 : Int32) (x2 : Int32) (x3 : Int32) (t0 : Int32) (Q : St → Prop) (σ : St) : Prop := ((x2 = 6 → fX12_read N (σ.2 0 34) (fun r_15 σ_14 => ∀ v_16 : Int64, v_16 = (σ_14.2 0 34) + 1 → ∀ σ_17 : St, σ_17 = u2 σ_14 0 34 v_16 → (((σ_17.1 0 9) = 0 → ((r_15 ≤ 4 → fX12_order_j182 N x1 x2 x3 t0 r_15 Q σ_17) ∧ (¬ r_15 ≤ 4 → fX12_fails N 6 (fun σ_20 => fX12_order_j182 N x1 x2 x3 t0 r_15 Q σ_20) σ_17))) ∧ (¬ (σ_17.1 0 9) = 0 → fX12_order_j182 N x1 x2 x3 t0 r_15 Q σ_17))) σ) ∧ (¬ x2 = 6 → fX12_order_j216 N x1 x2 x3 t0 0 Q σ))
set_option maxHeartbeats 4000000 in
set_option maxRecDepth 100000 in
theorem bX12_order_132 {p : Program} {e : Env} {s : State} {m : MethodId} {args : Array Value} {below : List Frame} {meth : Method} {c : Code} (l : Launch) (w : Wd) (N : Nat) (Q : St → Prop) (E : Cx 38 w X2 cX12_order 11 RX12 (.code yX12_order cX12_order 11 none) none p s m args meth c) (x1 : Int32) (x2 : Int32) (x3 : Int32) (t0 : Int32) {σ : St} {H : Heap} {locs : List Loc} {ls : Array Slot} (hR : Rr 38 ev2 w σ s H locs) (hl : lv_has ls 11 [(0, .ref (w.2.1 0)), (1, .int x1), (2, .int x2), (3, .int x3)]) (h : fX12_order_j132 N x1 x2 x3 t0 Q σ) : W p l e rmX12_order s m args below meth c H locs 0 0 (MQ below (va_Qv Q (Rp 38 ev2 w) (Aw 38 w)) args s 0 0 (Aw 38 w)) (F0 m 132 ls [.int t0]) := by
  obtain ⟨hx, hb, hml, hown, hts, hr, hlk, hK, hI, hX⟩ := id E
  unfold fX12_order_j132 at h
  refine lv_istore (pc := 132) (lv' := [(5, .int t0), (0, .ref (w.2.1 0)), (1, .int x1), (2, .int x2), (3, .int x3)]) hx hb dX12_order_132 hl (by decide) rfl (fun ls hl => ?_)
  refine lv_iconst (pc := 134) (v := 0) hx hb dX12_order_134 (by decide) ?_
  refine lv_istore (pc := 135) (lv' := [(6, .int 0), (5, .int t0), (0, .ref (w.2.1 0)), (1, .int x1), (2, .int x2), (3, .int x3)]) hx hb dX12_order_135 hl (by decide) rfl (fun ls hl => ?_)
  refine lv_iload_n (pc := 137) hx hb dX12_order_137 rfl (lv_at hl 4 rfl) ?_
  refine lv_bipush (pc := 138) (v := 6) hx hb dX12_order_138 (by decide) ?_
  refine lv_icmp_ne (pc := 140) (tgt := 216) hx hb dX12_order_140 (by decide) (fun c_13 => ?_) (fun c_13 => ?_)
  · have h := h.2 c_13
    exact bX12_order_216 l w N Q E x1 x2 x3 t0 0 hR (lv_sub hl [2, 3, 4, 5, 1, 0] rfl) h
  · have h := h.1 c_13
    refine lv_aload_n (pc := 143) hx hb dX12_order_143 rfl (lv_at hl 2 rfl) ?_
    refine lv_aload_n (pc := 144) hx hb dX12_order_144 rfl (lv_at hl 2 rfl) ?_
    refine gf2_0_34 (pc := 145) hx hb hts hown hK hR mw297 dX12_order_145 ?_
    refine q_ci (pc := 148) hR (q_rV E (xp2 w) (As := [.long (σ.2 0 34)]) (rest := []) (cX12_read_met l w hI N (σ.2 0 34) _ σ h) ckX12_read cvX12_read mw272 ⟨rfl, rfl, Nat.le_of_ble_eq_true rfl, Nat.le_of_ble_eq_true rfl⟩ hR (rc2_0 w) rfl hl.1 rfl (Nat.le_of_ble_eq_true rfl) dX12_order_148) (fun r_15 σ_14 H locs h hR => ?_)
    refine lv_istore (pc := 151) (lv' := [(6, .int r_15), (5, .int t0), (0, .ref (w.2.1 0)), (1, .int x1), (2, .int x2), (3, .int x3)]) hx hb dX12_order_151 hl (by decide) rfl (fun ls hl => ?_)
    refine lv_aload_n (pc := 153) hx hb dX12_order_153 rfl (lv_at hl 2 rfl) ?_
    refine lv_dup (pc := 154) hx hb dX12_order_154 rfl ?_
    refine gf2_0_34 (pc := 155) hx hb hts hown hK hR mw297 dX12_order_155 ?_
    refine lv_lconst (pc := 158) (v := 1) hx hb dX12_order_158 (by decide) ?_
    refine lv_ladd (pc := 159) hx hb dX12_order_159 ?_
    refine lv_topl (pc := 160) (fun v_16 ev_16 => ?_)
    have h := h v_16 ev_16
    refine pf2_0_34 (pc := 160) hx hb hts hown hK hI hR mw297 dX12_order_160 (fun H locs σ_17 eσ_17 hR => ?_)
    have h := h σ_17 eσ_17
    refine lv_aload_n (pc := 163) hx hb dX12_order_163 rfl (lv_at hl 2 rfl) ?_
    refine gf2_0_9 (pc := 164) hx hb hts hown hK hR mw270 dX12_order_164 ?_
    refine lv_if_ne (pc := 167) (tgt := 182) hx hb dX12_order_167 (by decide) (fun c_18 => ?_) (fun c_18 => ?_)
    · have h := h.2 c_18
      exact bX12_order_182 l w N Q E x1 x2 x3 t0 r_15 hR (lv_sub hl [2, 3, 4, 5, 1, 0] rfl) h
    · have h := h.1 c_18
      refine lv_iload (pc := 170) hx hb dX12_order_170 (lv_at hl 0 rfl) ?_
      refine lv_iconst (pc := 172) (v := 4) hx hb dX12_order_172 (by decide) ?_
      refine lv_icmp_le (pc := 173) (tgt := 182) hx hb dX12_order_173 (by decide) (fun c_19 => ?_) (fun c_19 => ?_)
      · have h := h.1 c_19
        exact bX12_order_182 l w N Q E x1 x2 x3 t0 r_15 hR (lv_sub hl [2, 3, 4, 5, 1, 0] rfl) h
      · have h := h.2 c_19
        refine lv_aload_n (pc := 176) hx hb dX12_order_176 rfl (lv_at hl 2 rfl) ?_
        refine lv_bipush (pc := 177) (v := 6) hx hb dX12_order_177 (by decide) ?_
        refine q_cv (pc := 179) hR (q_rV E (xp2 w) (As := [.int 6]) (rest := []) (cX12_fails_met l w hI N 6 _ σ_17 h) ckX12_fails cvX12_fails mw271 ⟨rfl, rfl, Nat.le_of_ble_eq_true rfl, Nat.le_of_ble_eq_true rfl⟩ hR (rc2_0 w) rfl hl.1 rfl (Nat.le_of_ble_eq_true rfl) dX12_order_179) (fun σ_20 H locs h hR => ?_)
        exact bX12_order_182 l w N Q E x1 x2 x3 t0 r_15 hR (lv_sub hl [2, 3, 4, 5, 1, 0] rfl) h
def fX12_order_j131 (N : Nat) (x1 : Int32) (x2 : Int32) (x3 : Int32) (Q : St → Prop) (σ : St) : Prop := fX12_order_j132 N x1 x2 x3 0 Q σ
set_option maxHeartbeats 4000000 in
set_option maxRecDepth 100000 in
theorem bX12_order_131 {p : Program} {e : Env} {s : State} {m : MethodId} {args : Array Value} {below : List Frame} {meth : Method} {c : Code} (l : Launch) (w : Wd) (N : Nat) (Q : St → Prop) (E : Cx 38 w X2 cX12_order 11 RX12 (.code yX12_order cX12_order 11 none) none p s m args meth c) (x1 : Int32) (x2 : Int32) (x3 : Int32) {σ : St} {H : Heap} {locs : List Loc} {ls : Array Slot} (hR : Rr 38 ev2 w σ s H locs) (hl : lv_has ls 11 [(0, .ref (w.2.1 0)), (1, .int x1), (2, .int x2), (3, .int x3)]) (h : fX12_order_j131 N x1 x2 x3 Q σ) : W p l e rmX12_order s m args below meth c H locs 0 0 (MQ below (va_Qv Q (Rp 38 ev2 w) (Aw 38 w)) args s 0 0 (Aw 38 w)) (F0 m 131 ls []) := by
  obtain ⟨hx, hb, hml, hown, hts, hr, hlk, hK, hI, hX⟩ := id E
  unfold fX12_order_j131 at h
  refine lv_iconst (pc := 131) (v := 0) hx hb dX12_order_131 (by decide) ?_
  exact bX12_order_132 l w N Q E x1 x2 x3 0 hR (lv_sub hl [0, 1, 2, 3] rfl) h
def fX12_order_j110 (N : Nat) (x1 : Int32) (x2 : Int32) (x3 : Int32) (t0 : Int32) (Q : St → Prop) (σ : St) : Prop := ((t0 = 0 → fX12_order_j131 N x1 x2 x3 Q σ) ∧ (¬ t0 = 0 → (((σ.1 0 9) = 0 → fX12_value N (fun r_15 σ_14 => fX12_order_j132 N x1 x2 x3 r_15 Q σ_14) σ) ∧ (¬ (σ.1 0 9) = 0 → fX12_order_j131 N x1 x2 x3 Q σ))))
set_option maxHeartbeats 4000000 in
set_option maxRecDepth 100000 in
theorem bX12_order_110 {p : Program} {e : Env} {s : State} {m : MethodId} {args : Array Value} {below : List Frame} {meth : Method} {c : Code} (l : Launch) (w : Wd) (N : Nat) (Q : St → Prop) (E : Cx 38 w X2 cX12_order 11 RX12 (.code yX12_order cX12_order 11 none) none p s m args meth c) (x1 : Int32) (x2 : Int32) (x3 : Int32) (t0 : Int32) {σ : St} {H : Heap} {locs : List Loc} {ls : Array Slot} (hR : Rr 38 ev2 w σ s H locs) (hl : lv_has ls 11 [(0, .ref (w.2.1 0)), (1, .int x1), (2, .int x2), (3, .int x3)]) (h : fX12_order_j110 N x1 x2 x3 t0 Q σ) : W p l e rmX12_order s m args below meth c H locs 0 0 (MQ below (va_Qv Q (Rp 38 ev2 w) (Aw 38 w)) args s 0 0 (Aw 38 w)) (F0 m 110 ls [.int t0]) := by
  obtain ⟨hx, hb, hml, hown, hts, hr, hlk, hK, hI, hX⟩ := id E
  unfold fX12_order_j110 at h
  refine lv_istore (pc := 110) (lv' := [(4, .int t0), (0, .ref (w.2.1 0)), (1, .int x1), (2, .int x2), (3, .int x3)]) hx hb dX12_order_110 hl (by decide) rfl (fun ls hl => ?_)
  refine lv_iload (pc := 112) hx hb dX12_order_112 (lv_at hl 0 rfl) ?_
  refine lv_if_eq (pc := 114) (tgt := 131) hx hb dX12_order_114 (by decide) (fun c_12 => ?_) (fun c_12 => ?_)
  · have h := h.1 c_12
    exact bX12_order_131 l w N Q E x1 x2 x3 hR (lv_sub hl [1, 2, 3, 4] rfl) h
  · have h := h.2 c_12
    refine lv_aload_n (pc := 117) hx hb dX12_order_117 rfl (lv_at hl 1 rfl) ?_
    refine gf2_0_9 (pc := 118) hx hb hts hown hK hR mw270 dX12_order_118 ?_
    refine lv_if_ne (pc := 121) (tgt := 131) hx hb dX12_order_121 (by decide) (fun c_13 => ?_) (fun c_13 => ?_)
    · have h := h.2 c_13
      exact bX12_order_131 l w N Q E x1 x2 x3 hR (lv_sub hl [1, 2, 3, 4] rfl) h
    · have h := h.1 c_13
      refine lv_aload_n (pc := 124) hx hb dX12_order_124 rfl (lv_at hl 1 rfl) ?_
      refine q_ci (pc := 125) hR (q_rV E (xp2 w) (As := []) (rest := []) (cX12_value_met l w hI N _ σ h) ckX12_value cvX12_value mw314 ⟨rfl, rfl, Nat.le_of_ble_eq_true rfl, Nat.le_of_ble_eq_true rfl⟩ hR (rc2_0 w) rfl hl.1 rfl (Nat.le_of_ble_eq_true rfl) dX12_order_125) (fun r_15 σ_14 H locs h hR => ?_)
      refine lv_goto (pc := 128) (tgt := 132) hx hb dX12_order_128 (by decide) ?_
      exact bX12_order_132 l w N Q E x1 x2 x3 r_15 hR (lv_sub hl [1, 2, 3, 4] rfl) h
def fX12_order_j105 (N : Nat) (x1 : Int32) (x2 : Int32) (x3 : Int32) (Q : St → Prop) (σ : St) : Prop := fX12_order_j110 N x1 x2 x3 1 Q σ
set_option maxHeartbeats 4000000 in
set_option maxRecDepth 100000 in
theorem bX12_order_105 {p : Program} {e : Env} {s : State} {m : MethodId} {args : Array Value} {below : List Frame} {meth : Method} {c : Code} (l : Launch) (w : Wd) (N : Nat) (Q : St → Prop) (E : Cx 38 w X2 cX12_order 11 RX12 (.code yX12_order cX12_order 11 none) none p s m args meth c) (x1 : Int32) (x2 : Int32) (x3 : Int32) {σ : St} {H : Heap} {locs : List Loc} {ls : Array Slot} (hR : Rr 38 ev2 w σ s H locs) (hl : lv_has ls 11 [(0, .ref (w.2.1 0)), (1, .int x1), (2, .int x2), (3, .int x3)]) (h : fX12_order_j105 N x1 x2 x3 Q σ) : W p l e rmX12_order s m args below meth c H locs 0 0 (MQ below (va_Qv Q (Rp 38 ev2 w) (Aw 38 w)) args s 0 0 (Aw 38 w)) (F0 m 105 ls []) := by
  obtain ⟨hx, hb, hml, hown, hts, hr, hlk, hK, hI, hX⟩ := id E
  unfold fX12_order_j105 at h
  refine lv_iconst (pc := 105) (v := 1) hx hb dX12_order_105 (by decide) ?_
  refine lv_goto (pc := 106) (tgt := 110) hx hb dX12_order_106 (by decide) ?_
  exact bX12_order_110 l w N Q E x1 x2 x3 1 hR (lv_sub hl [0, 1, 2, 3] rfl) h
def fX12_order_j75 (N : Nat) (x1 : Int32) (x2 : Int32) (t0 : Int32) (Q : St → Prop) (σ : St) : Prop := ((x2 = 4 → fX12_order_j105 N x1 x2 t0 Q σ) ∧ (¬ x2 = 4 → ((x2 = 8 → fX12_order_j105 N x1 x2 t0 Q σ) ∧ (¬ x2 = 8 → ((x2 = 9 → fX12_order_j105 N x1 x2 t0 Q σ) ∧ (¬ x2 = 9 → ((x2 = 12 → fX12_order_j105 N x1 x2 t0 Q σ) ∧ (¬ x2 = 12 → ((x2 = 15 → fX12_order_j105 N x1 x2 t0 Q σ) ∧ (¬ x2 = 15 → fX12_order_j110 N x1 x2 t0 0 Q σ))))))))))
set_option maxHeartbeats 4000000 in
set_option maxRecDepth 100000 in
theorem bX12_order_75 {p : Program} {e : Env} {s : State} {m : MethodId} {args : Array Value} {below : List Frame} {meth : Method} {c : Code} (l : Launch) (w : Wd) (N : Nat) (Q : St → Prop) (E : Cx 38 w X2 cX12_order 11 RX12 (.code yX12_order cX12_order 11 none) none p s m args meth c) (x1 : Int32) (x2 : Int32) (t0 : Int32) {σ : St} {H : Heap} {locs : List Loc} {ls : Array Slot} (hR : Rr 38 ev2 w σ s H locs) (hl : lv_has ls 11 [(0, .ref (w.2.1 0)), (1, .int x1), (2, .int x2)]) (h : fX12_order_j75 N x1 x2 t0 Q σ) : W p l e rmX12_order s m args below meth c H locs 0 0 (MQ below (va_Qv Q (Rp 38 ev2 w) (Aw 38 w)) args s 0 0 (Aw 38 w)) (F0 m 75 ls [.int t0]) := by
  obtain ⟨hx, hb, hml, hown, hts, hr, hlk, hK, hI, hX⟩ := id E
  unfold fX12_order_j75 at h
  refine lv_istore_n (pc := 75) (lv' := [(3, .int t0), (0, .ref (w.2.1 0)), (1, .int x1), (2, .int x2)]) hx hb dX12_order_75 rfl hl (by decide) rfl (fun ls hl => ?_)
  refine lv_iload_n (pc := 76) hx hb dX12_order_76 rfl (lv_at hl 3 rfl) ?_
  refine lv_iconst (pc := 77) (v := 4) hx hb dX12_order_77 (by decide) ?_
  refine lv_icmp_eq (pc := 78) (tgt := 105) hx hb dX12_order_78 (by decide) (fun c_11 => ?_) (fun c_11 => ?_)
  · have h := h.1 c_11
    exact bX12_order_105 l w N Q E x1 x2 t0 hR (lv_sub hl [1, 2, 3, 0] rfl) h
  · have h := h.2 c_11
    refine lv_iload_n (pc := 81) hx hb dX12_order_81 rfl (lv_at hl 3 rfl) ?_
    refine lv_bipush (pc := 82) (v := 8) hx hb dX12_order_82 (by decide) ?_
    refine lv_icmp_eq (pc := 84) (tgt := 105) hx hb dX12_order_84 (by decide) (fun c_12 => ?_) (fun c_12 => ?_)
    · have h := h.1 c_12
      exact bX12_order_105 l w N Q E x1 x2 t0 hR (lv_sub hl [1, 2, 3, 0] rfl) h
    · have h := h.2 c_12
      refine lv_iload_n (pc := 87) hx hb dX12_order_87 rfl (lv_at hl 3 rfl) ?_
      refine lv_bipush (pc := 88) (v := 9) hx hb dX12_order_88 (by decide) ?_
      refine lv_icmp_eq (pc := 90) (tgt := 105) hx hb dX12_order_90 (by decide) (fun c_13 => ?_) (fun c_13 => ?_)
      · have h := h.1 c_13
        exact bX12_order_105 l w N Q E x1 x2 t0 hR (lv_sub hl [1, 2, 3, 0] rfl) h
      · have h := h.2 c_13
        refine lv_iload_n (pc := 93) hx hb dX12_order_93 rfl (lv_at hl 3 rfl) ?_
        refine lv_bipush (pc := 94) (v := 12) hx hb dX12_order_94 (by decide) ?_
        refine lv_icmp_eq (pc := 96) (tgt := 105) hx hb dX12_order_96 (by decide) (fun c_14 => ?_) (fun c_14 => ?_)
        · have h := h.1 c_14
          exact bX12_order_105 l w N Q E x1 x2 t0 hR (lv_sub hl [1, 2, 3, 0] rfl) h
        · have h := h.2 c_14
          refine lv_iload_n (pc := 99) hx hb dX12_order_99 rfl (lv_at hl 3 rfl) ?_
          refine lv_bipush (pc := 100) (v := 15) hx hb dX12_order_100 (by decide) ?_
          refine lv_icmp_ne (pc := 102) (tgt := 109) hx hb dX12_order_102 (by decide) (fun c_15 => ?_) (fun c_15 => ?_)
          · have h := h.2 c_15
            refine lv_iconst (pc := 109) (v := 0) hx hb dX12_order_109 (by decide) ?_
            exact bX12_order_110 l w N Q E x1 x2 t0 0 hR (lv_sub hl [1, 2, 3, 0] rfl) h
          · have h := h.1 c_15
            exact bX12_order_105 l w N Q E x1 x2 t0 hR (lv_sub hl [1, 2, 3, 0] rfl) h
def fX12_order_j74 (N : Nat) (x1 : Int32) (x2 : Int32) (Q : St → Prop) (σ : St) : Prop := fX12_order_j75 N x1 x2 0 Q σ
set_option maxHeartbeats 4000000 in
set_option maxRecDepth 100000 in
theorem bX12_order_74 {p : Program} {e : Env} {s : State} {m : MethodId} {args : Array Value} {below : List Frame} {meth : Method} {c : Code} (l : Launch) (w : Wd) (N : Nat) (Q : St → Prop) (E : Cx 38 w X2 cX12_order 11 RX12 (.code yX12_order cX12_order 11 none) none p s m args meth c) (x1 : Int32) (x2 : Int32) {σ : St} {H : Heap} {locs : List Loc} {ls : Array Slot} (hR : Rr 38 ev2 w σ s H locs) (hl : lv_has ls 11 [(0, .ref (w.2.1 0)), (1, .int x1), (2, .int x2)]) (h : fX12_order_j74 N x1 x2 Q σ) : W p l e rmX12_order s m args below meth c H locs 0 0 (MQ below (va_Qv Q (Rp 38 ev2 w) (Aw 38 w)) args s 0 0 (Aw 38 w)) (F0 m 74 ls []) := by
  obtain ⟨hx, hb, hml, hown, hts, hr, hlk, hK, hI, hX⟩ := id E
  unfold fX12_order_j74 at h
  refine lv_iconst (pc := 74) (v := 0) hx hb dX12_order_74 (by decide) ?_
  exact bX12_order_75 l w N Q E x1 x2 0 hR (lv_sub hl [0, 1, 2] rfl) h
def fX12_order_j54 (N : Nat) (x1 : Int32) (x2 : Int32) (Q : St → Prop) (σ : St) : Prop := ((16 ≤ x2 → fX12_order_j74 N x1 x2 Q σ) ∧ (¬ 16 ≤ x2 → (((σ.1 0 9) = 0 → fX12_value N (fun r_13 σ_12 => fX12_order_j75 N x1 x2 r_13 Q σ_12) σ) ∧ (¬ (σ.1 0 9) = 0 → fX12_order_j74 N x1 x2 Q σ))))
set_option maxHeartbeats 4000000 in
set_option maxRecDepth 100000 in
theorem bX12_order_54 {p : Program} {e : Env} {s : State} {m : MethodId} {args : Array Value} {below : List Frame} {meth : Method} {c : Code} (l : Launch) (w : Wd) (N : Nat) (Q : St → Prop) (E : Cx 38 w X2 cX12_order 11 RX12 (.code yX12_order cX12_order 11 none) none p s m args meth c) (x1 : Int32) (x2 : Int32) {σ : St} {H : Heap} {locs : List Loc} {ls : Array Slot} (hR : Rr 38 ev2 w σ s H locs) (hl : lv_has ls 11 [(0, .ref (w.2.1 0)), (1, .int x1), (2, .int x2)]) (h : fX12_order_j54 N x1 x2 Q σ) : W p l e rmX12_order s m args below meth c H locs 0 0 (MQ below (va_Qv Q (Rp 38 ev2 w) (Aw 38 w)) args s 0 0 (Aw 38 w)) (F0 m 54 ls []) := by
  obtain ⟨hx, hb, hml, hown, hts, hr, hlk, hK, hI, hX⟩ := id E
  unfold fX12_order_j54 at h
  refine lv_iload_n (pc := 54) hx hb dX12_order_54 rfl (lv_at hl 2 rfl) ?_
  refine lv_bipush (pc := 55) (v := 16) hx hb dX12_order_55 (by decide) ?_
  refine lv_icmp_ge (pc := 57) (tgt := 74) hx hb dX12_order_57 (by decide) (fun c_10 => ?_) (fun c_10 => ?_)
  · have h := h.1 c_10
    exact bX12_order_74 l w N Q E x1 x2 hR (lv_sub hl [0, 1, 2] rfl) h
  · have h := h.2 c_10
    refine lv_aload_n (pc := 60) hx hb dX12_order_60 rfl (lv_at hl 0 rfl) ?_
    refine gf2_0_9 (pc := 61) hx hb hts hown hK hR mw270 dX12_order_61 ?_
    refine lv_if_ne (pc := 64) (tgt := 74) hx hb dX12_order_64 (by decide) (fun c_11 => ?_) (fun c_11 => ?_)
    · have h := h.2 c_11
      exact bX12_order_74 l w N Q E x1 x2 hR (lv_sub hl [0, 1, 2] rfl) h
    · have h := h.1 c_11
      refine lv_aload_n (pc := 67) hx hb dX12_order_67 rfl (lv_at hl 0 rfl) ?_
      refine q_ci (pc := 68) hR (q_rV E (xp2 w) (As := []) (rest := []) (cX12_value_met l w hI N _ σ h) ckX12_value cvX12_value mw314 ⟨rfl, rfl, Nat.le_of_ble_eq_true rfl, Nat.le_of_ble_eq_true rfl⟩ hR (rc2_0 w) rfl hl.1 rfl (Nat.le_of_ble_eq_true rfl) dX12_order_68) (fun r_13 σ_12 H locs h hR => ?_)
      refine lv_goto (pc := 71) (tgt := 75) hx hb dX12_order_71 (by decide) ?_
      exact bX12_order_75 l w N Q E x1 x2 r_13 hR (lv_sub hl [0, 1, 2] rfl) h
def fX12_order (N : Nat) (x1 : Int32) (Q : St → Prop) (σ : St) : Prop := ∀ σ_1 : St, σ_1 = u1 σ 0 35 x1 → vp_in x1 40 ∧ ∀ v_3 : Int64, v_3 = (σ_1.1 7 x1.toNatClampNeg).toInt64 → ∀ σ_4 : St, σ_4 = u2 σ_1 0 34 v_3 → fX12_read N (σ_4.2 0 34) (fun r_6 σ_5 => ∀ v_7 : Int64, v_7 = (σ_5.2 0 34) + 1 → ∀ σ_8 : St, σ_8 = u2 σ_5 0 34 v_7 → (((σ_8.1 0 9) = 0 → ((r_6 ≤ 17 → fX12_order_j54 N x1 r_6 Q σ_8) ∧ (¬ r_6 ≤ 17 → fX12_fails N 6 (fun σ_11 => fX12_order_j54 N x1 r_6 Q σ_11) σ_8))) ∧ (¬ (σ_8.1 0 9) = 0 → fX12_order_j54 N x1 r_6 Q σ_8))) σ_4
set_option maxHeartbeats 4000000 in
set_option maxRecDepth 100000 in
theorem bX12_order_e {p : Program} {e : Env} {s : State} {m : MethodId} {args : Array Value} {below : List Frame} {meth : Method} {c : Code} (l : Launch) (w : Wd) (N : Nat) (Q : St → Prop) (E : Cx 38 w X2 cX12_order 11 RX12 (.code yX12_order cX12_order 11 none) none p s m args meth c) (x1 : Int32) {σ : St} {H : Heap} {locs : List Loc} {ls : Array Slot} (hR : Rr 38 ev2 w σ s H locs) (hl : lv_has ls 11 [(0, .ref (w.2.1 0)), (1, .int x1)]) (h : fX12_order N x1 Q σ) : W p l e rmX12_order s m args below meth c H locs 0 0 (MQ below (va_Qv Q (Rp 38 ev2 w) (Aw 38 w)) args s 0 0 (Aw 38 w)) (F0 m 0 ls []) := by
  obtain ⟨hx, hb, hml, hown, hts, hr, hlk, hK, hI, hX⟩ := id E
  unfold fX12_order at h
  refine lv_aload_n (pc := 0) hx hb dX12_order_0 rfl (lv_at hl 0 rfl) ?_
  refine lv_iload_n (pc := 1) hx hb dX12_order_1 rfl (lv_at hl 1 rfl) ?_
  refine pf2_0_35 (pc := 2) hx hb hts hown hK hI hR mw298 dX12_order_2 (fun H locs σ_1 eσ_1 hR => ?_)
  have h := h σ_1 eσ_1
  refine lv_aload_n (pc := 5) hx hb dX12_order_5 rfl (lv_at hl 0 rfl) ?_
  refine lv_aload_n (pc := 6) hx hb dX12_order_6 rfl (lv_at hl 0 rfl) ?_
  refine gf2_0_16 (pc := 7) hx hb hts hown hK hR mw288 dX12_order_7 ?_
  refine lv_iload_n (pc := 10) hx hb dX12_order_10 rfl (lv_at hl 1 rfl) ?_
  have g_2 := h.1
  have h := h.2
  refine q_iald (pc := 11) hx hb hK hR (k := 7) lt2_7 (ar2_7 _ _ _) g_2 dX12_order_11 ?_
  refine lv_i2l (pc := 12) (v := (σ_1.1 7 x1.toNatClampNeg).toInt64) hx hb dX12_order_12 rfl ?_
  refine lv_topl (pc := 13) (fun v_3 ev_3 => ?_)
  have h := h v_3 ev_3
  refine pf2_0_34 (pc := 13) hx hb hts hown hK hI hR mw297 dX12_order_13 (fun H locs σ_4 eσ_4 hR => ?_)
  have h := h σ_4 eσ_4
  refine lv_aload_n (pc := 16) hx hb dX12_order_16 rfl (lv_at hl 0 rfl) ?_
  refine lv_aload_n (pc := 17) hx hb dX12_order_17 rfl (lv_at hl 0 rfl) ?_
  refine gf2_0_34 (pc := 18) hx hb hts hown hK hR mw297 dX12_order_18 ?_
  refine q_ci (pc := 21) hR (q_rV E (xp2 w) (As := [.long (σ_4.2 0 34)]) (rest := []) (cX12_read_met l w hI N (σ_4.2 0 34) _ σ_4 h) ckX12_read cvX12_read mw272 ⟨rfl, rfl, Nat.le_of_ble_eq_true rfl, Nat.le_of_ble_eq_true rfl⟩ hR (rc2_0 w) rfl hl.1 rfl (Nat.le_of_ble_eq_true rfl) dX12_order_21) (fun r_6 σ_5 H locs h hR => ?_)
  refine lv_istore_n (pc := 24) (lv' := [(2, .int r_6), (0, .ref (w.2.1 0)), (1, .int x1)]) hx hb dX12_order_24 rfl hl (by decide) rfl (fun ls hl => ?_)
  refine lv_aload_n (pc := 25) hx hb dX12_order_25 rfl (lv_at hl 1 rfl) ?_
  refine lv_dup (pc := 26) hx hb dX12_order_26 rfl ?_
  refine gf2_0_34 (pc := 27) hx hb hts hown hK hR mw297 dX12_order_27 ?_
  refine lv_lconst (pc := 30) (v := 1) hx hb dX12_order_30 (by decide) ?_
  refine lv_ladd (pc := 31) hx hb dX12_order_31 ?_
  refine lv_topl (pc := 32) (fun v_7 ev_7 => ?_)
  have h := h v_7 ev_7
  refine pf2_0_34 (pc := 32) hx hb hts hown hK hI hR mw297 dX12_order_32 (fun H locs σ_8 eσ_8 hR => ?_)
  have h := h σ_8 eσ_8
  refine lv_aload_n (pc := 35) hx hb dX12_order_35 rfl (lv_at hl 1 rfl) ?_
  refine gf2_0_9 (pc := 36) hx hb hts hown hK hR mw270 dX12_order_36 ?_
  refine lv_if_ne (pc := 39) (tgt := 54) hx hb dX12_order_39 (by decide) (fun c_9 => ?_) (fun c_9 => ?_)
  · have h := h.2 c_9
    exact bX12_order_54 l w N Q E x1 r_6 hR (lv_sub hl [1, 2, 0] rfl) h
  · have h := h.1 c_9
    refine lv_iload_n (pc := 42) hx hb dX12_order_42 rfl (lv_at hl 0 rfl) ?_
    refine lv_bipush (pc := 43) (v := 17) hx hb dX12_order_43 (by decide) ?_
    refine lv_icmp_le (pc := 45) (tgt := 54) hx hb dX12_order_45 (by decide) (fun c_10 => ?_) (fun c_10 => ?_)
    · have h := h.1 c_10
      exact bX12_order_54 l w N Q E x1 r_6 hR (lv_sub hl [1, 2, 0] rfl) h
    · have h := h.2 c_10
      refine lv_aload_n (pc := 48) hx hb dX12_order_48 rfl (lv_at hl 1 rfl) ?_
      refine lv_bipush (pc := 49) (v := 6) hx hb dX12_order_49 (by decide) ?_
      refine q_cv (pc := 51) hR (q_rV E (xp2 w) (As := [.int 6]) (rest := []) (cX12_fails_met l w hI N 6 _ σ_8 h) ckX12_fails cvX12_fails mw271 ⟨rfl, rfl, Nat.le_of_ble_eq_true rfl, Nat.le_of_ble_eq_true rfl⟩ hR (rc2_0 w) rfl hl.1 rfl (Nat.le_of_ble_eq_true rfl) dX12_order_51) (fun σ_11 H locs h hR => ?_)
      exact bX12_order_54 l w N Q E x1 r_6 hR (lv_sub hl [1, 2, 0] rfl) h
theorem cX12_order_met (l : Launch) (w : Wd) (hI : Ij 38 w) (N : Nat) (x1 : Int32) (Q : St → Prop) (σ : St) (h : fX12_order N x1 Q σ) : Met l yX12_order (.code yX12_order cX12_order 11 none :: Uw) rmX12_order (va_Pc [.ref (w.2.1 0), .int x1] (fun U => Rp 38 ev2 w σ U ∧ X2 U)) (va_Qv Q (Rp 38 ev2 w) (Aw 38 w)) 0 0 (Aw 38 w) :=
  q_met (by decide) (Nat.le_of_ble_eq_true rfl) hI (fun p e s m below meth c ls E hl hR => bX12_order_e l w N Q E x1 hR hl h)
-- GlulxStringsModel.thing(II)V
abbrev rmX12_thing : Room := { frames := 3, cells := 0, slots := 0, locals := 75 }
def fX12_thing_j174 (N : Nat) (x3 : Int32) (x4 : Int32) (Q : St → Prop) (σ : St) : Prop := (((σ.1 0 9) = 0 → fX12_called N x3 x4 255 (fun σ_10 => Q σ_10) σ) ∧ (¬ (σ.1 0 9) = 0 → Q σ))
set_option maxHeartbeats 4000000 in
set_option maxRecDepth 100000 in
theorem bX12_thing_174 {p : Program} {e : Env} {s : State} {m : MethodId} {args : Array Value} {below : List Frame} {meth : Method} {c : Code} (l : Launch) (w : Wd) (N : Nat) (Q : St → Prop) (E : Cx 38 w X2 cX12_thing 6 RX12 (.code yX12_thing cX12_thing 6 none) none p s m args meth c) (x3 : Int32) (x4 : Int32) {σ : St} {H : Heap} {locs : List Loc} {ls : Array Slot} (hR : Rr 38 ev2 w σ s H locs) (hl : lv_has ls 6 [(0, .ref (w.2.1 0)), (3, .int x3), (4, .int x4)]) (h : fX12_thing_j174 N x3 x4 Q σ) : W p l e rmX12_thing s m args below meth c H locs 0 0 (MQ below (va_Qv Q (Rp 38 ev2 w) (Aw 38 w)) args s 0 0 (Aw 38 w)) (F0 m 174 ls []) := by
  obtain ⟨hx, hb, hml, hown, hts, hr, hlk, hK, hI, hX⟩ := id E
  unfold fX12_thing_j174 at h
  refine lv_aload_n (pc := 174) hx hb dX12_thing_174 rfl (lv_at hl 0 rfl) ?_
  refine gf2_0_9 (pc := 175) hx hb hts hown hK hR mw270 dX12_thing_175 ?_
  refine lv_if_ne (pc := 178) (tgt := 191) hx hb dX12_thing_178 (by decide) (fun c_9 => ?_) (fun c_9 => ?_)
  · have h := h.2 c_9
    exact q_vret (pc := 191) E hR h dX12_thing_191
  · have h := h.1 c_9
    refine lv_aload_n (pc := 181) hx hb dX12_thing_181 rfl (lv_at hl 0 rfl) ?_
    refine lv_iload_n (pc := 182) hx hb dX12_thing_182 rfl (lv_at hl 1 rfl) ?_
    refine lv_iload (pc := 183) hx hb dX12_thing_183 (lv_at hl 2 rfl) ?_
    refine lv_sipush (pc := 185) (v := 255) hx hb dX12_thing_185 (by decide) ?_
    refine q_cv (pc := 188) hR (q_rV E (xp2 w) (As := [.int x3, .int x4, .int 255]) (rest := []) (cX12_called_met l w hI N x3 x4 255 _ σ h) ckX12_called cvX12_called mw302 ⟨rfl, rfl, Nat.le_of_ble_eq_true rfl, Nat.le_of_ble_eq_true rfl⟩ hR (rc2_0 w) rfl hl.1 rfl (Nat.le_of_ble_eq_true rfl) dX12_thing_188) (fun σ_10 H locs h hR => ?_)
    exact q_vret (pc := 191) E hR h dX12_thing_191
def fX12_thing_j149 (N : Nat) (x3 : Int32) (x4 : Int32) (t0 : Int32) (Q : St → Prop) (σ : St) : Prop := (((σ.1 0 9) = 0 → fX12_isString N t0 (fun r_10 σ_9 => ((r_10 = 0 → fX12_thing_j174 N x3 x4 Q σ_9) ∧ (¬ r_10 = 0 → fX12_prints N x3 (fun σ_12 => Q σ_12) σ_9))) σ) ∧ (¬ (σ.1 0 9) = 0 → fX12_thing_j174 N x3 x4 Q σ))
set_option maxHeartbeats 4000000 in
set_option maxRecDepth 100000 in
theorem bX12_thing_149 {p : Program} {e : Env} {s : State} {m : MethodId} {args : Array Value} {below : List Frame} {meth : Method} {c : Code} (l : Launch) (w : Wd) (N : Nat) (Q : St → Prop) (E : Cx 38 w X2 cX12_thing 6 RX12 (.code yX12_thing cX12_thing 6 none) none p s m args meth c) (x3 : Int32) (x4 : Int32) (t0 : Int32) {σ : St} {H : Heap} {locs : List Loc} {ls : Array Slot} (hR : Rr 38 ev2 w σ s H locs) (hl : lv_has ls 6 [(0, .ref (w.2.1 0)), (3, .int x3), (4, .int x4)]) (h : fX12_thing_j149 N x3 x4 t0 Q σ) : W p l e rmX12_thing s m args below meth c H locs 0 0 (MQ below (va_Qv Q (Rp 38 ev2 w) (Aw 38 w)) args s 0 0 (Aw 38 w)) (F0 m 149 ls [.int t0]) := by
  obtain ⟨hx, hb, hml, hown, hts, hr, hlk, hK, hI, hX⟩ := id E
  unfold fX12_thing_j149 at h
  refine lv_istore (pc := 149) (lv' := [(5, .int t0), (0, .ref (w.2.1 0)), (3, .int x3), (4, .int x4)]) hx hb dX12_thing_149 hl (by decide) rfl (fun ls hl => ?_)
  refine lv_aload_n (pc := 151) hx hb dX12_thing_151 rfl (lv_at hl 1 rfl) ?_
  refine gf2_0_9 (pc := 152) hx hb hts hown hK hR mw270 dX12_thing_152 ?_
  refine lv_if_ne (pc := 155) (tgt := 174) hx hb dX12_thing_155 (by decide) (fun c_8 => ?_) (fun c_8 => ?_)
  · have h := h.2 c_8
    exact bX12_thing_174 l w N Q E x3 x4 hR (lv_sub hl [1, 2, 3] rfl) h
  · have h := h.1 c_8
    refine lv_iload (pc := 158) hx hb dX12_thing_158 (lv_at hl 0 rfl) ?_
    refine q_ci (pc := 160) hR (q_rS E (xp2 w) (As := [.int t0]) (rest := []) (cX12_isString_met l w hI N t0 _ σ h) ckX12_isString csX12_isString mw296 ⟨rfl, rfl, Nat.le_of_ble_eq_true rfl, Nat.le_of_ble_eq_true rfl⟩ hR rfl hl.1 rfl (Nat.le_of_ble_eq_true rfl) dX12_thing_160) (fun r_10 σ_9 H locs h hR => ?_)
    refine lv_if_eq (pc := 163) (tgt := 174) hx hb dX12_thing_163 (by decide) (fun c_11 => ?_) (fun c_11 => ?_)
    · have h := h.1 c_11
      exact bX12_thing_174 l w N Q E x3 x4 hR (lv_sub hl [1, 2, 3] rfl) h
    · have h := h.2 c_11
      refine lv_aload_n (pc := 166) hx hb dX12_thing_166 rfl (lv_at hl 1 rfl) ?_
      refine lv_iload_n (pc := 167) hx hb dX12_thing_167 rfl (lv_at hl 2 rfl) ?_
      refine q_cv (pc := 168) hR (q_rV E (xp2 w) (As := [.int x3]) (rest := []) (cX12_prints_met l w hI N x3 _ σ_9 h) ckX12_prints cvX12_prints mw308 ⟨rfl, rfl, Nat.le_of_ble_eq_true rfl, Nat.le_of_ble_eq_true rfl⟩ hR (rc2_0 w) rfl hl.1 rfl (Nat.le_of_ble_eq_true rfl) dX12_thing_168) (fun σ_12 H locs h hR => ?_)
      refine lv_goto (pc := 171) (tgt := 191) hx hb dX12_thing_171 (by decide) ?_
      exact q_vret (pc := 191) E hR h dX12_thing_191
def fX12_thing_j132 (N : Nat) (x3 : Int32) (x4 : Int32) (Q : St → Prop) (σ : St) : Prop := (((σ.1 0 9) = 0 → fX12_read N x3.toInt64 (fun r_9 σ_8 => fX12_thing_j149 N x3 x4 r_9 Q σ_8) σ) ∧ (¬ (σ.1 0 9) = 0 → fX12_thing_j149 N x3 x4 0 Q σ))
set_option maxHeartbeats 4000000 in
set_option maxRecDepth 100000 in
theorem bX12_thing_132 {p : Program} {e : Env} {s : State} {m : MethodId} {args : Array Value} {below : List Frame} {meth : Method} {c : Code} (l : Launch) (w : Wd) (N : Nat) (Q : St → Prop) (E : Cx 38 w X2 cX12_thing 6 RX12 (.code yX12_thing cX12_thing 6 none) none p s m args meth c) (x3 : Int32) (x4 : Int32) {σ : St} {H : Heap} {locs : List Loc} {ls : Array Slot} (hR : Rr 38 ev2 w σ s H locs) (hl : lv_has ls 6 [(0, .ref (w.2.1 0)), (3, .int x3), (4, .int x4)]) (h : fX12_thing_j132 N x3 x4 Q σ) : W p l e rmX12_thing s m args below meth c H locs 0 0 (MQ below (va_Qv Q (Rp 38 ev2 w) (Aw 38 w)) args s 0 0 (Aw 38 w)) (F0 m 132 ls []) := by
  obtain ⟨hx, hb, hml, hown, hts, hr, hlk, hK, hI, hX⟩ := id E
  unfold fX12_thing_j132 at h
  refine lv_aload_n (pc := 132) hx hb dX12_thing_132 rfl (lv_at hl 0 rfl) ?_
  refine gf2_0_9 (pc := 133) hx hb hts hown hK hR mw270 dX12_thing_133 ?_
  refine lv_if_ne (pc := 136) (tgt := 148) hx hb dX12_thing_136 (by decide) (fun c_7 => ?_) (fun c_7 => ?_)
  · have h := h.2 c_7
    refine lv_iconst (pc := 148) (v := 0) hx hb dX12_thing_148 (by decide) ?_
    exact bX12_thing_149 l w N Q E x3 x4 0 hR (lv_sub hl [0, 1, 2] rfl) h
  · have h := h.1 c_7
    refine lv_aload_n (pc := 139) hx hb dX12_thing_139 rfl (lv_at hl 0 rfl) ?_
    refine lv_iload_n (pc := 140) hx hb dX12_thing_140 rfl (lv_at hl 1 rfl) ?_
    refine lv_i2l (pc := 141) (v := x3.toInt64) hx hb dX12_thing_141 rfl ?_
    refine q_ci (pc := 142) hR (q_rV E (xp2 w) (As := [.long x3.toInt64]) (rest := []) (cX12_read_met l w hI N x3.toInt64 _ σ h) ckX12_read cvX12_read mw272 ⟨rfl, rfl, Nat.le_of_ble_eq_true rfl, Nat.le_of_ble_eq_true rfl⟩ hR (rc2_0 w) rfl hl.1 rfl (Nat.le_of_ble_eq_true rfl) dX12_thing_142) (fun r_9 σ_8 H locs h hR => ?_)
    refine lv_goto (pc := 145) (tgt := 149) hx hb dX12_thing_145 (by decide) ?_
    exact bX12_thing_149 l w N Q E x3 x4 r_9 hR (lv_sub hl [0, 1, 2] rfl) h
def fX12_thing_l87 (N : Nat) (x1 : Int32) (x3 : Int32) (x4 : Int32) (Q : St → Prop) (r87 : Int32 → St → Prop) (x5 : Int32) (σ : St) : Prop := ((x4 ≤ x5 → fX12_thing_j132 N x3 x4 Q σ) ∧ (¬ x4 ≤ x5 → (((σ.1 0 9) = 0 → fX12_four N ((x1.toInt64 + 9) + (4 * x5.toInt64)) (fun r_9 σ_8 => vp_in x5 4 ∧ ∀ σ_11 : St, σ_11 = u1 σ_8 15 x5.toNatClampNeg r_9 → ∀ v_12 : Int32, v_12 = x5 + 1 → r87 v_12 σ_11) σ) ∧ (¬ (σ.1 0 9) = 0 → fX12_thing_j132 N x3 x4 Q σ))))
set_option maxHeartbeats 4000000 in
set_option maxRecDepth 100000 in
theorem bX12_thing_87 {p : Program} {e : Env} {s : State} {m : MethodId} {args : Array Value} {below : List Frame} {meth : Method} {c : Code} (l : Launch) (w : Wd) (N : Nat) (Q : St → Prop) (E : Cx 38 w X2 cX12_thing 6 RX12 (.code yX12_thing cX12_thing 6 none) none p s m args meth c) (x1 : Int32) (x3 : Int32) (x4 : Int32) : ∀ (n : Nat) (x5 : Int32) (σ : St) (H : Heap) (locs : List Loc) (ls : Array Slot), Rr 38 ev2 w σ s H locs → lv_has ls 6 [(0, .ref (w.2.1 0)), (1, .int x1), (3, .int x3), (4, .int x4), (5, .int x5)] → lo1 (fX12_thing_l87 N x1 x3 x4 Q) n x5 σ → W p l e rmX12_thing s m args below meth c H locs 0 0 (MQ below (va_Qv Q (Rp 38 ev2 w) (Aw 38 w)) args s 0 0 (Aw 38 w)) (F0 m 87 ls []) := by
  obtain ⟨hx, hb, hml, hown, hts, hr, hlk, hK, hI, hX⟩ := id E
  intro n
  induction n with
  | zero => intro x5 σ H locs ls hR hl h; exact h.elim
  | succ n ih =>
    intro x5 σ H locs ls hR hl h
    have h : fX12_thing_l87 N x1 x3 x4 Q (lo1 (fX12_thing_l87 N x1 x3 x4 Q) n) x5 σ := h
    unfold fX12_thing_l87 at h
    refine lv_iload (pc := 87) hx hb dX12_thing_87 (lv_at hl 4 rfl) ?_
    refine lv_iload (pc := 89) hx hb dX12_thing_89 (lv_at hl 3 rfl) ?_
    refine lv_icmp_ge (pc := 91) (tgt := 132) hx hb dX12_thing_91 (by decide) (fun c_6 => ?_) (fun c_6 => ?_)
    · have h := h.1 c_6
      exact bX12_thing_132 l w N Q E x3 x4 hR (lv_sub hl [0, 2, 3] rfl) h
    · have h := h.2 c_6
      refine lv_aload_n (pc := 94) hx hb dX12_thing_94 rfl (lv_at hl 0 rfl) ?_
      refine gf2_0_9 (pc := 95) hx hb hts hown hK hR mw270 dX12_thing_95 ?_
      refine lv_if_ne (pc := 98) (tgt := 132) hx hb dX12_thing_98 (by decide) (fun c_7 => ?_) (fun c_7 => ?_)
      · have h := h.2 c_7
        exact bX12_thing_132 l w N Q E x3 x4 hR (lv_sub hl [0, 2, 3] rfl) h
      · have h := h.1 c_7
        refine lv_aload_n (pc := 101) hx hb dX12_thing_101 rfl (lv_at hl 0 rfl) ?_
        refine gf2_0_33 (pc := 102) hx hb hts hown hK hR mw300 dX12_thing_102 ?_
        refine lv_iload (pc := 105) hx hb dX12_thing_105 (lv_at hl 4 rfl) ?_
        refine lv_aload_n (pc := 107) hx hb dX12_thing_107 rfl (lv_at hl 0 rfl) ?_
        refine lv_iload_n (pc := 108) hx hb dX12_thing_108 rfl (lv_at hl 1 rfl) ?_
        refine lv_i2l (pc := 109) (v := x1.toInt64) hx hb dX12_thing_109 rfl ?_
        refine lv_ldc2 (pc := 110) (v := 9) hx hb hown (hts _ (Uin mw273)) dX12_thing_110 ?_
        refine lv_ladd (pc := 113) hx hb dX12_thing_113 ?_
        refine lv_ldc2 (pc := 114) (v := 4) hx hb hown (hts _ (Uin mw276)) dX12_thing_114 ?_
        refine lv_iload (pc := 117) hx hb dX12_thing_117 (lv_at hl 4 rfl) ?_
        refine lv_i2l (pc := 119) (v := x5.toInt64) hx hb dX12_thing_119 rfl ?_
        refine lv_lmul (pc := 120) hx hb dX12_thing_120 ?_
        refine lv_ladd (pc := 121) hx hb dX12_thing_121 ?_
        refine q_ci (pc := 122) hR (q_rV E (xp2 w) (As := [.long ((x1.toInt64 + 9) + (4 * x5.toInt64))]) (rest := [.int x5, .ref (w.2.1 15)]) (cX12_four_met l w hI N ((x1.toInt64 + 9) + (4 * x5.toInt64)) _ σ h) ckX12_four cvX12_four mw275 ⟨rfl, rfl, Nat.le_of_ble_eq_true rfl, Nat.le_of_ble_eq_true rfl⟩ hR (rc2_0 w) rfl hl.1 rfl (Nat.le_of_ble_eq_true rfl) dX12_thing_122) (fun r_9 σ_8 H locs h hR => ?_)
        have g_10 := h.1
        have h := h.2
        refine q_iast (pc := 125) hx hb hK hI hR (k := 15) lt2_15 (fun f => (ar2_15 _ f _)) g_10 dX12_thing_125 (fun H locs σ_11 eσ_11 hR => ?_)
        have h := h σ_11 eσ_11
        obtain ⟨v_12, ev_12⟩ : ∃ z : Int32, z = x5 + 1 := ⟨_, rfl⟩
        have h := h v_12 ev_12
        refine lv_iinc (pc := 126) (v := v_12) (lv' := [(5, .int v_12), (0, .ref (w.2.1 0)), (1, .int x1), (3, .int x3), (4, .int x4)]) hx hb dX12_thing_126 hl (k := 4) rfl (by rw [ev_12]; rfl) (by decide) rfl (fun ls hl => ?_)
        refine lv_goto (pc := 129) (tgt := 87) hx hb dX12_thing_129 (by decide) ?_
        exact ih v_12 σ_11 _ _ _ hR (lv_sub hl [1, 2, 3, 4, 0] rfl) h
def fX12_thing_j84 (N : Nat) (x1 : Int32) (x3 : Int32) (x4 : Int32) (Q : St → Prop) (σ : St) : Prop := lo1 (fX12_thing_l87 N x1 x3 x4 Q) N 0 σ
set_option maxHeartbeats 4000000 in
set_option maxRecDepth 100000 in
theorem bX12_thing_84 {p : Program} {e : Env} {s : State} {m : MethodId} {args : Array Value} {below : List Frame} {meth : Method} {c : Code} (l : Launch) (w : Wd) (N : Nat) (Q : St → Prop) (E : Cx 38 w X2 cX12_thing 6 RX12 (.code yX12_thing cX12_thing 6 none) none p s m args meth c) (x1 : Int32) (x3 : Int32) (x4 : Int32) {σ : St} {H : Heap} {locs : List Loc} {ls : Array Slot} (hR : Rr 38 ev2 w σ s H locs) (hl : lv_has ls 6 [(0, .ref (w.2.1 0)), (1, .int x1), (3, .int x3), (4, .int x4)]) (h : fX12_thing_j84 N x1 x3 x4 Q σ) : W p l e rmX12_thing s m args below meth c H locs 0 0 (MQ below (va_Qv Q (Rp 38 ev2 w) (Aw 38 w)) args s 0 0 (Aw 38 w)) (F0 m 84 ls []) := by
  obtain ⟨hx, hb, hml, hown, hts, hr, hlk, hK, hI, hX⟩ := id E
  unfold fX12_thing_j84 at h
  refine lv_iconst (pc := 84) (v := 0) hx hb dX12_thing_84 (by decide) ?_
  refine lv_istore (pc := 85) (lv' := [(5, .int 0), (0, .ref (w.2.1 0)), (1, .int x1), (3, .int x3), (4, .int x4)]) hx hb dX12_thing_85 hl (by decide) rfl (fun ls hl => ?_)
  exact bX12_thing_87 l w N Q E x1 x3 x4 N 0 σ _ _ _ hR (lv_sub hl [1, 2, 3, 4, 0] rfl) h
def fX12_thing_j57 (N : Nat) (x1 : Int32) (x3 : Int32) (t0 : Int32) (Q : St → Prop) (σ : St) : Prop := (((σ.1 0 9) = 0 → fX12_in N t0.toInt64 0 4 (fun r_7 σ_6 => ((r_7 = 0 → fX12_fails N 5 (fun σ_9 => fX12_thing_j84 N x1 x3 t0 Q σ_9) σ_6) ∧ (¬ r_7 = 0 → fX12_thing_j84 N x1 x3 t0 Q σ_6))) σ) ∧ (¬ (σ.1 0 9) = 0 → fX12_thing_j84 N x1 x3 t0 Q σ))
set_option maxHeartbeats 4000000 in
set_option maxRecDepth 100000 in
theorem bX12_thing_57 {p : Program} {e : Env} {s : State} {m : MethodId} {args : Array Value} {below : List Frame} {meth : Method} {c : Code} (l : Launch) (w : Wd) (N : Nat) (Q : St → Prop) (E : Cx 38 w X2 cX12_thing 6 RX12 (.code yX12_thing cX12_thing 6 none) none p s m args meth c) (x1 : Int32) (x3 : Int32) (t0 : Int32) {σ : St} {H : Heap} {locs : List Loc} {ls : Array Slot} (hR : Rr 38 ev2 w σ s H locs) (hl : lv_has ls 6 [(0, .ref (w.2.1 0)), (1, .int x1), (3, .int x3)]) (h : fX12_thing_j57 N x1 x3 t0 Q σ) : W p l e rmX12_thing s m args below meth c H locs 0 0 (MQ below (va_Qv Q (Rp 38 ev2 w) (Aw 38 w)) args s 0 0 (Aw 38 w)) (F0 m 57 ls [.int t0]) := by
  obtain ⟨hx, hb, hml, hown, hts, hr, hlk, hK, hI, hX⟩ := id E
  unfold fX12_thing_j57 at h
  refine lv_istore (pc := 57) (lv' := [(4, .int t0), (0, .ref (w.2.1 0)), (1, .int x1), (3, .int x3)]) hx hb dX12_thing_57 hl (by decide) rfl (fun ls hl => ?_)
  refine lv_aload_n (pc := 59) hx hb dX12_thing_59 rfl (lv_at hl 1 rfl) ?_
  refine gf2_0_9 (pc := 60) hx hb hts hown hK hR mw270 dX12_thing_60 ?_
  refine lv_if_ne (pc := 63) (tgt := 84) hx hb dX12_thing_63 (by decide) (fun c_5 => ?_) (fun c_5 => ?_)
  · have h := h.2 c_5
    exact bX12_thing_84 l w N Q E x1 x3 t0 hR (lv_sub hl [1, 2, 3, 0] rfl) h
  · have h := h.1 c_5
    refine lv_iload (pc := 66) hx hb dX12_thing_66 (lv_at hl 0 rfl) ?_
    refine lv_i2l (pc := 68) (v := t0.toInt64) hx hb dX12_thing_68 rfl ?_
    refine lv_lconst (pc := 69) (v := 0) hx hb dX12_thing_69 (by decide) ?_
    refine lv_ldc2 (pc := 70) (v := 4) hx hb hown (hts _ (Uin mw276)) dX12_thing_70 ?_
    refine q_ci (pc := 73) hR (q_rS E (xp2 w) (As := [.long t0.toInt64, .long 0, .long 4]) (rest := []) (cX12_in_met l w hI N t0.toInt64 0 4 _ σ h) ckX12_in csX12_in mw258 ⟨rfl, rfl, Nat.le_of_ble_eq_true rfl, Nat.le_of_ble_eq_true rfl⟩ hR rfl hl.1 rfl (Nat.le_of_ble_eq_true rfl) dX12_thing_73) (fun r_7 σ_6 H locs h hR => ?_)
    refine lv_if_ne (pc := 76) (tgt := 84) hx hb dX12_thing_76 (by decide) (fun c_8 => ?_) (fun c_8 => ?_)
    · have h := h.2 c_8
      exact bX12_thing_84 l w N Q E x1 x3 t0 hR (lv_sub hl [1, 2, 3, 0] rfl) h
    · have h := h.1 c_8
      refine lv_aload_n (pc := 79) hx hb dX12_thing_79 rfl (lv_at hl 1 rfl) ?_
      refine lv_iconst (pc := 80) (v := 5) hx hb dX12_thing_80 (by decide) ?_
      refine q_cv (pc := 81) hR (q_rV E (xp2 w) (As := [.int 5]) (rest := []) (cX12_fails_met l w hI N 5 _ σ_6 h) ckX12_fails cvX12_fails mw271 ⟨rfl, rfl, Nat.le_of_ble_eq_true rfl, Nat.le_of_ble_eq_true rfl⟩ hR (rc2_0 w) rfl hl.1 rfl (Nat.le_of_ble_eq_true rfl) dX12_thing_81) (fun σ_9 H locs h hR => ?_)
      exact bX12_thing_84 l w N Q E x1 x3 t0 hR (lv_sub hl [1, 2, 3, 0] rfl) h
def fX12_thing_j56 (N : Nat) (x1 : Int32) (x3 : Int32) (Q : St → Prop) (σ : St) : Prop := fX12_thing_j57 N x1 x3 0 Q σ
set_option maxHeartbeats 4000000 in
set_option maxRecDepth 100000 in
theorem bX12_thing_56 {p : Program} {e : Env} {s : State} {m : MethodId} {args : Array Value} {below : List Frame} {meth : Method} {c : Code} (l : Launch) (w : Wd) (N : Nat) (Q : St → Prop) (E : Cx 38 w X2 cX12_thing 6 RX12 (.code yX12_thing cX12_thing 6 none) none p s m args meth c) (x1 : Int32) (x3 : Int32) {σ : St} {H : Heap} {locs : List Loc} {ls : Array Slot} (hR : Rr 38 ev2 w σ s H locs) (hl : lv_has ls 6 [(0, .ref (w.2.1 0)), (1, .int x1), (3, .int x3)]) (h : fX12_thing_j56 N x1 x3 Q σ) : W p l e rmX12_thing s m args below meth c H locs 0 0 (MQ below (va_Qv Q (Rp 38 ev2 w) (Aw 38 w)) args s 0 0 (Aw 38 w)) (F0 m 56 ls []) := by
  obtain ⟨hx, hb, hml, hown, hts, hr, hlk, hK, hI, hX⟩ := id E
  unfold fX12_thing_j56 at h
  refine lv_iconst (pc := 56) (v := 0) hx hb dX12_thing_56 (by decide) ?_
  exact bX12_thing_57 l w N Q E x1 x3 0 hR (lv_sub hl [0, 1, 2] rfl) h
def fX12_thing_j30 (N : Nat) (x1 : Int32) (x2 : Int32) (x3 : Int32) (Q : St → Prop) (σ : St) : Prop := ((x2 ≤ 9 → fX12_thing_j56 N x1 x3 Q σ) ∧ (¬ x2 ≤ 9 → (((σ.1 0 9) = 0 → fX12_four N (x1.toInt64 + 5) (fun r_7 σ_6 => fX12_thing_j57 N x1 x3 r_7 Q σ_6) σ) ∧ (¬ (σ.1 0 9) = 0 → fX12_thing_j56 N x1 x3 Q σ))))
set_option maxHeartbeats 4000000 in
set_option maxRecDepth 100000 in
theorem bX12_thing_30 {p : Program} {e : Env} {s : State} {m : MethodId} {args : Array Value} {below : List Frame} {meth : Method} {c : Code} (l : Launch) (w : Wd) (N : Nat) (Q : St → Prop) (E : Cx 38 w X2 cX12_thing 6 RX12 (.code yX12_thing cX12_thing 6 none) none p s m args meth c) (x1 : Int32) (x2 : Int32) (x3 : Int32) {σ : St} {H : Heap} {locs : List Loc} {ls : Array Slot} (hR : Rr 38 ev2 w σ s H locs) (hl : lv_has ls 6 [(0, .ref (w.2.1 0)), (1, .int x1), (2, .int x2), (3, .int x3)]) (h : fX12_thing_j30 N x1 x2 x3 Q σ) : W p l e rmX12_thing s m args below meth c H locs 0 0 (MQ below (va_Qv Q (Rp 38 ev2 w) (Aw 38 w)) args s 0 0 (Aw 38 w)) (F0 m 30 ls []) := by
  obtain ⟨hx, hb, hml, hown, hts, hr, hlk, hK, hI, hX⟩ := id E
  unfold fX12_thing_j30 at h
  refine lv_iload_n (pc := 30) hx hb dX12_thing_30 rfl (lv_at hl 2 rfl) ?_
  refine lv_bipush (pc := 31) (v := 9) hx hb dX12_thing_31 (by decide) ?_
  refine lv_icmp_le (pc := 33) (tgt := 56) hx hb dX12_thing_33 (by decide) (fun c_4 => ?_) (fun c_4 => ?_)
  · have h := h.1 c_4
    exact bX12_thing_56 l w N Q E x1 x3 hR (lv_sub hl [0, 1, 3] rfl) h
  · have h := h.2 c_4
    refine lv_aload_n (pc := 36) hx hb dX12_thing_36 rfl (lv_at hl 0 rfl) ?_
    refine gf2_0_9 (pc := 37) hx hb hts hown hK hR mw270 dX12_thing_37 ?_
    refine lv_if_ne (pc := 40) (tgt := 56) hx hb dX12_thing_40 (by decide) (fun c_5 => ?_) (fun c_5 => ?_)
    · have h := h.2 c_5
      exact bX12_thing_56 l w N Q E x1 x3 hR (lv_sub hl [0, 1, 3] rfl) h
    · have h := h.1 c_5
      refine lv_aload_n (pc := 43) hx hb dX12_thing_43 rfl (lv_at hl 0 rfl) ?_
      refine lv_iload_n (pc := 44) hx hb dX12_thing_44 rfl (lv_at hl 1 rfl) ?_
      refine lv_i2l (pc := 45) (v := x1.toInt64) hx hb dX12_thing_45 rfl ?_
      refine lv_ldc2 (pc := 46) (v := 5) hx hb hown (hts _ (Uin mw274)) dX12_thing_46 ?_
      refine lv_ladd (pc := 49) hx hb dX12_thing_49 ?_
      refine q_ci (pc := 50) hR (q_rV E (xp2 w) (As := [.long (x1.toInt64 + 5)]) (rest := []) (cX12_four_met l w hI N (x1.toInt64 + 5) _ σ h) ckX12_four cvX12_four mw275 ⟨rfl, rfl, Nat.le_of_ble_eq_true rfl, Nat.le_of_ble_eq_true rfl⟩ hR (rc2_0 w) rfl hl.1 rfl (Nat.le_of_ble_eq_true rfl) dX12_thing_50) (fun r_7 σ_6 H locs h hR => ?_)
      refine lv_goto (pc := 53) (tgt := 57) hx hb dX12_thing_53 (by decide) ?_
      exact bX12_thing_57 l w N Q E x1 x3 r_7 hR (lv_sub hl [0, 1, 3] rfl) h
def fX12_thing (N : Nat) (x1 : Int32) (x2 : Int32) (Q : St → Prop) (σ : St) : Prop := fX12_four N (x1.toInt64 + 1) (fun r_2 σ_1 => (((x2 - x2 / 2 * 2) = 1 → (((σ_1.1 0 9) = 0 → fX12_four N r_2.toInt64 (fun r_6 σ_5 => fX12_thing_j30 N x1 x2 r_6 Q σ_5) σ_1) ∧ (¬ (σ_1.1 0 9) = 0 → fX12_thing_j30 N x1 x2 r_2 Q σ_1))) ∧ (¬ (x2 - x2 / 2 * 2) = 1 → fX12_thing_j30 N x1 x2 r_2 Q σ_1))) σ
set_option maxHeartbeats 4000000 in
set_option maxRecDepth 100000 in
theorem bX12_thing_e {p : Program} {e : Env} {s : State} {m : MethodId} {args : Array Value} {below : List Frame} {meth : Method} {c : Code} (l : Launch) (w : Wd) (N : Nat) (Q : St → Prop) (E : Cx 38 w X2 cX12_thing 6 RX12 (.code yX12_thing cX12_thing 6 none) none p s m args meth c) (x1 : Int32) (x2 : Int32) {σ : St} {H : Heap} {locs : List Loc} {ls : Array Slot} (hR : Rr 38 ev2 w σ s H locs) (hl : lv_has ls 6 [(0, .ref (w.2.1 0)), (1, .int x1), (2, .int x2)]) (h : fX12_thing N x1 x2 Q σ) : W p l e rmX12_thing s m args below meth c H locs 0 0 (MQ below (va_Qv Q (Rp 38 ev2 w) (Aw 38 w)) args s 0 0 (Aw 38 w)) (F0 m 0 ls []) := by
  obtain ⟨hx, hb, hml, hown, hts, hr, hlk, hK, hI, hX⟩ := id E
  unfold fX12_thing at h
  refine lv_aload_n (pc := 0) hx hb dX12_thing_0 rfl (lv_at hl 0 rfl) ?_
  refine lv_iload_n (pc := 1) hx hb dX12_thing_1 rfl (lv_at hl 1 rfl) ?_
  refine lv_i2l (pc := 2) (v := x1.toInt64) hx hb dX12_thing_2 rfl ?_
  refine lv_lconst (pc := 3) (v := 1) hx hb dX12_thing_3 (by decide) ?_
  refine lv_ladd (pc := 4) hx hb dX12_thing_4 ?_
  refine q_ci (pc := 5) hR (q_rV E (xp2 w) (As := [.long (x1.toInt64 + 1)]) (rest := []) (cX12_four_met l w hI N (x1.toInt64 + 1) _ σ h) ckX12_four cvX12_four mw275 ⟨rfl, rfl, Nat.le_of_ble_eq_true rfl, Nat.le_of_ble_eq_true rfl⟩ hR (rc2_0 w) rfl hl.1 rfl (Nat.le_of_ble_eq_true rfl) dX12_thing_5) (fun r_2 σ_1 H locs h hR => ?_)
  refine lv_istore_n (pc := 8) (lv' := [(3, .int r_2), (0, .ref (w.2.1 0)), (1, .int x1), (2, .int x2)]) hx hb dX12_thing_8 rfl hl (by decide) rfl (fun ls hl => ?_)
  refine lv_iload_n (pc := 9) hx hb dX12_thing_9 rfl (lv_at hl 3 rfl) ?_
  refine lv_iconst (pc := 10) (v := 2) hx hb dX12_thing_10 (by decide) ?_
  refine lv_irem (pc := 11) hx hb dX12_thing_11 (by decide) ?_
  refine lv_iconst (pc := 12) (v := 1) hx hb dX12_thing_12 (by decide) ?_
  refine lv_icmp_ne (pc := 13) (tgt := 30) hx hb dX12_thing_13 (by decide) (fun c_3 => ?_) (fun c_3 => ?_)
  · have h := h.2 c_3
    exact bX12_thing_30 l w N Q E x1 x2 r_2 hR (lv_sub hl [1, 2, 3, 0] rfl) h
  · have h := h.1 c_3
    refine lv_aload_n (pc := 16) hx hb dX12_thing_16 rfl (lv_at hl 1 rfl) ?_
    refine gf2_0_9 (pc := 17) hx hb hts hown hK hR mw270 dX12_thing_17 ?_
    refine lv_if_ne (pc := 20) (tgt := 30) hx hb dX12_thing_20 (by decide) (fun c_4 => ?_) (fun c_4 => ?_)
    · have h := h.2 c_4
      exact bX12_thing_30 l w N Q E x1 x2 r_2 hR (lv_sub hl [1, 2, 3, 0] rfl) h
    · have h := h.1 c_4
      refine lv_aload_n (pc := 23) hx hb dX12_thing_23 rfl (lv_at hl 1 rfl) ?_
      refine lv_iload_n (pc := 24) hx hb dX12_thing_24 rfl (lv_at hl 0 rfl) ?_
      refine lv_i2l (pc := 25) (v := r_2.toInt64) hx hb dX12_thing_25 rfl ?_
      refine q_ci (pc := 26) hR (q_rV E (xp2 w) (As := [.long r_2.toInt64]) (rest := []) (cX12_four_met l w hI N r_2.toInt64 _ σ_1 h) ckX12_four cvX12_four mw275 ⟨rfl, rfl, Nat.le_of_ble_eq_true rfl, Nat.le_of_ble_eq_true rfl⟩ hR (rc2_0 w) rfl hl.1 rfl (Nat.le_of_ble_eq_true rfl) dX12_thing_26) (fun r_6 σ_5 H locs h hR => ?_)
      refine lv_istore_n (pc := 29) (lv' := [(3, .int r_6), (0, .ref (w.2.1 0)), (1, .int x1), (2, .int x2)]) hx hb dX12_thing_29 rfl hl (by decide) rfl (fun ls hl => ?_)
      exact bX12_thing_30 l w N Q E x1 x2 r_6 hR (lv_sub hl [1, 2, 3, 0] rfl) h
theorem cX12_thing_met (l : Launch) (w : Wd) (hI : Ij 38 w) (N : Nat) (x1 : Int32) (x2 : Int32) (Q : St → Prop) (σ : St) (h : fX12_thing N x1 x2 Q σ) : Met l yX12_thing (.code yX12_thing cX12_thing 6 none :: Uw) rmX12_thing (va_Pc [.ref (w.2.1 0), .int x1, .int x2] (fun U => Rp 38 ev2 w σ U ∧ X2 U)) (va_Qv Q (Rp 38 ev2 w) (Aw 38 w)) 0 0 (Aw 38 w) :=
  q_met (by decide) (Nat.le_of_ble_eq_true rfl) hI (fun p e s m below meth c ls E hl hR => bX12_thing_e l w N Q E x1 x2 hR hl h)
