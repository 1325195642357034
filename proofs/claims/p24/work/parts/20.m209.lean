-- GlulxStringsModel.tree(I)I
abbrev rmX12_tree : Room := { frames := 3, cells := 0, slots := 0, locals := 73 }
def fX12_tree_j474 (N : Nat) (r427 : Int32 → St → Prop) (x5 : Int32) (x6 : Int32) (t0 : Int32) (t1 : Int32) (Q : Int32 → St → Prop) (σ : St) : Prop := vp_in t1 60 ∧ ∀ σ_28 : St, σ_28 = u1 σ 19 t1.toNatClampNeg t0 → ∀ v_29 : Int32, v_29 = x6 + 1 → r427 v_29 σ_28
set_option maxHeartbeats 4000000 in
set_option maxRecDepth 100000 in
theorem bX12_tree_474 {p : Program} {e : Env} {s : State} {m : MethodId} {args : Array Value} {below : List Frame} {meth : Method} {c : Code} (l : Launch) (w : Wd) (N : Nat) (Q : Int32 → St → Prop) (E : Cx 38 w X2 cX12_tree 10 RX12 (.code yX12_tree cX12_tree 10 (some .int)) (some .int) p s m args meth c) (x5 : Int32) (x6 : Int32) (t0 : Int32) (t1 : Int32) (r427 : Int32 → St → Prop) (hr427 : ∀ (x6 : Int32) (σ : St) (H : Heap) (locs : List Loc) (ls : Array Slot), Rr 38 ev2 w σ s H locs → lv_has ls 10 [(0, .ref (w.2.1 0)), (5, .int x5), (6, .int x6)] → r427 x6 σ → W p l e rmX12_tree s m args below meth c H locs 0 0 (MQ below (va_Qi Q (Rp 38 ev2 w) (Aw 38 w)) args s 0 0 (Aw 38 w)) (F0 m 427 ls [])) {σ : St} {H : Heap} {locs : List Loc} {ls : Array Slot} (hR : Rr 38 ev2 w σ s H locs) (hl : lv_has ls 10 [(0, .ref (w.2.1 0)), (5, .int x5), (6, .int x6)]) (h : fX12_tree_j474 N r427 x5 x6 t0 t1 Q σ) : W p l e rmX12_tree s m args below meth c H locs 0 0 (MQ below (va_Qi Q (Rp 38 ev2 w) (Aw 38 w)) args s 0 0 (Aw 38 w)) (F0 m 474 ls [.int t0, .int t1, .ref (w.2.1 19)]) := by
  obtain ⟨hx, hb, hml, hown, hts, hr, hlk, hK, hI, hX⟩ := id E
  unfold fX12_tree_j474 at h
  have g_27 := h.1
  have h := h.2
  refine q_iast (pc := 474) hx hb hK hI hR (k := 19) lt2_19 (fun f => (ar2_19 _ f _)) g_27 dX12_tree_474 (fun H locs σ_28 eσ_28 hR => ?_)
  have h := h σ_28 eσ_28
  obtain ⟨v_29, ev_29⟩ : ∃ z : Int32, z = x6 + 1 := ⟨_, rfl⟩
  have h := h v_29 ev_29
  refine lv_iinc (pc := 475) (v := v_29) (lv' := [(6, .int v_29), (0, .ref (w.2.1 0)), (5, .int x5)]) hx hb dX12_tree_475 hl (k := 2) rfl (by rw [ev_29]; rfl) (by decide) rfl (fun ls hl => ?_)
  refine lv_goto (pc := 478) (tgt := 427) hx hb dX12_tree_478 (by decide) ?_
  exact hr427 v_29 σ_28 _ _ _ hR (lv_sub hl [1, 2, 0] rfl) h
def fX12_tree_l427 (N : Nat) (x5 : Int32) (Q : Int32 → St → Prop) (r427 : Int32 → St → Prop) (x6 : Int32) (σ : St) : Prop := (((σ.1 0 36) ≤ x6 → Q x5 σ) ∧ (¬ (σ.1 0 36) ≤ x6 → vp_in x6 60 ∧ (((σ.1 37 x6.toNatClampNeg) ≤ 0 → vp_in x6 60 ∧ fX12_tree_j474 N r427 x5 x6 (σ.1 19 x6.toNatClampNeg) x6 Q σ) ∧ (¬ (σ.1 37 x6.toNatClampNeg) ≤ 0 → vp_in x6 60 ∧ vp_in (σ.1 36 x6.toNatClampNeg) 122 ∧ fX12_tree_j474 N r427 x5 x6 (σ.1 35 (σ.1 36 x6.toNatClampNeg).toNatClampNeg) x6 Q σ))))
set_option maxHeartbeats 4000000 in
set_option maxRecDepth 100000 in
theorem bX12_tree_427 {p : Program} {e : Env} {s : State} {m : MethodId} {args : Array Value} {below : List Frame} {meth : Method} {c : Code} (l : Launch) (w : Wd) (N : Nat) (Q : Int32 → St → Prop) (E : Cx 38 w X2 cX12_tree 10 RX12 (.code yX12_tree cX12_tree 10 (some .int)) (some .int) p s m args meth c) (x5 : Int32) : ∀ (n : Nat) (x6 : Int32) (σ : St) (H : Heap) (locs : List Loc) (ls : Array Slot), Rr 38 ev2 w σ s H locs → lv_has ls 10 [(0, .ref (w.2.1 0)), (5, .int x5), (6, .int x6)] → lo1 (fX12_tree_l427 N x5 Q) n x6 σ → W p l e rmX12_tree s m args below meth c H locs 0 0 (MQ below (va_Qi Q (Rp 38 ev2 w) (Aw 38 w)) args s 0 0 (Aw 38 w)) (F0 m 427 ls []) := by
  obtain ⟨hx, hb, hml, hown, hts, hr, hlk, hK, hI, hX⟩ := id E
  intro n
  induction n with
  | zero => intro x6 σ H locs ls hR hl h; exact h.elim
  | succ n ih =>
    intro x6 σ H locs ls hR hl h
    have h : fX12_tree_l427 N x5 Q (lo1 (fX12_tree_l427 N x5 Q) n) x6 σ := h
    unfold fX12_tree_l427 at h
    refine lv_iload (pc := 427) hx hb dX12_tree_427 (lv_at hl 2 rfl) ?_
    refine lv_aload_n (pc := 429) hx hb dX12_tree_429 rfl (lv_at hl 0 rfl) ?_
    refine gf2_0_36 (pc := 430) hx hb hts hown hK hR mw330 dX12_tree_430 ?_
    refine lv_icmp_ge (pc := 433) (tgt := 481) hx hb dX12_tree_433 (by decide) (fun c_23 => ?_) (fun c_23 => ?_)
    · have h := h.1 c_23
      refine lv_iload (pc := 481) hx hb dX12_tree_481 (lv_at hl 1 rfl) ?_
      exact q_iret (pc := 483) E hR h dX12_tree_483
    · have h := h.2 c_23
      refine lv_aload_n (pc := 436) hx hb dX12_tree_436 rfl (lv_at hl 0 rfl) ?_
      refine gf2_0_40 (pc := 437) hx hb hts hown hK hR mw334 dX12_tree_437 ?_
      refine lv_iload (pc := 440) hx hb dX12_tree_440 (lv_at hl 2 rfl) ?_
      refine lv_aload_n (pc := 442) hx hb dX12_tree_442 rfl (lv_at hl 0 rfl) ?_
      refine gf2_0_62 (pc := 443) hx hb hts hown hK hR mw357 dX12_tree_443 ?_
      refine lv_iload (pc := 446) hx hb dX12_tree_446 (lv_at hl 2 rfl) ?_
      have g_24 := h.1
      have h := h.2
      refine q_iald (pc := 448) hx hb hK hR (k := 37) lt2_37 (ar2_37 _ _ _) g_24 dX12_tree_448 ?_
      refine lv_if_le (pc := 449) (tgt := 467) hx hb dX12_tree_449 (by decide) (fun c_25 => ?_) (fun c_25 => ?_)
      · have h := h.1 c_25
        refine lv_aload_n (pc := 467) hx hb dX12_tree_467 rfl (lv_at hl 0 rfl) ?_
        refine gf2_0_40 (pc := 468) hx hb hts hown hK hR mw334 dX12_tree_468 ?_
        refine lv_iload (pc := 471) hx hb dX12_tree_471 (lv_at hl 2 rfl) ?_
        have g_26 := h.1
        have h := h.2
        refine q_iald (pc := 473) hx hb hK hR (k := 19) lt2_19 (ar2_19 _ _ _) g_26 dX12_tree_473 ?_
        exact bX12_tree_474 l w N Q E x5 x6 (σ.1 19 x6.toNatClampNeg) x6 _ ih hR (lv_sub hl [0, 1, 2] rfl) h
      · have h := h.2 c_25
        refine lv_aload_n (pc := 452) hx hb dX12_tree_452 rfl (lv_at hl 0 rfl) ?_
        refine gf2_0_60 (pc := 453) hx hb hts hown hK hR mw361 dX12_tree_453 ?_
        refine lv_aload_n (pc := 456) hx hb dX12_tree_456 rfl (lv_at hl 0 rfl) ?_
        refine gf2_0_61 (pc := 457) hx hb hts hown hK hR mw358 dX12_tree_457 ?_
        refine lv_iload (pc := 460) hx hb dX12_tree_460 (lv_at hl 2 rfl) ?_
        have g_27 := h.1
        have h := h.2
        refine q_iald (pc := 462) hx hb hK hR (k := 36) lt2_36 (ar2_36 _ _ _) g_27 dX12_tree_462 ?_
        have g_28 := h.1
        have h := h.2
        refine q_iald (pc := 463) hx hb hK hR (k := 35) lt2_35 (ar2_35 _ _ _) g_28 dX12_tree_463 ?_
        refine lv_goto (pc := 464) (tgt := 474) hx hb dX12_tree_464 (by decide) ?_
        exact bX12_tree_474 l w N Q E x5 x6 (σ.1 35 (σ.1 36 x6.toNatClampNeg).toNatClampNeg) x6 _ ih hR (lv_sub hl [0, 1, 2] rfl) h
def fX12_tree_j404 (N : Nat) (r249 : Int32 → St → Prop) (x5 : Int32) (x6 : Int32) (t0 : Int32) (t1 : Int32) (Q : Int32 → St → Prop) (σ : St) : Prop := ∀ v_40 : Int32, v_40 = t1 + t0 → ∀ σ_41 : St, σ_41 = u1 σ 0 63 v_40 → ∀ v_42 : Int32, v_42 = x6 + 1 → r249 v_42 σ_41
set_option maxHeartbeats 4000000 in
set_option maxRecDepth 100000 in
theorem bX12_tree_404 {p : Program} {e : Env} {s : State} {m : MethodId} {args : Array Value} {below : List Frame} {meth : Method} {c : Code} (l : Launch) (w : Wd) (N : Nat) (Q : Int32 → St → Prop) (E : Cx 38 w X2 cX12_tree 10 RX12 (.code yX12_tree cX12_tree 10 (some .int)) (some .int) p s m args meth c) (x5 : Int32) (x6 : Int32) (t0 : Int32) (t1 : Int32) (r249 : Int32 → St → Prop) (hr249 : ∀ (x6 : Int32) (σ : St) (H : Heap) (locs : List Loc) (ls : Array Slot), Rr 38 ev2 w σ s H locs → lv_has ls 10 [(0, .ref (w.2.1 0)), (5, .int x5), (6, .int x6)] → r249 x6 σ → W p l e rmX12_tree s m args below meth c H locs 0 0 (MQ below (va_Qi Q (Rp 38 ev2 w) (Aw 38 w)) args s 0 0 (Aw 38 w)) (F0 m 249 ls [])) {σ : St} {H : Heap} {locs : List Loc} {ls : Array Slot} (hR : Rr 38 ev2 w σ s H locs) (hl : lv_has ls 10 [(0, .ref (w.2.1 0)), (5, .int x5), (6, .int x6)]) (h : fX12_tree_j404 N r249 x5 x6 t0 t1 Q σ) : W p l e rmX12_tree s m args below meth c H locs 0 0 (MQ below (va_Qi Q (Rp 38 ev2 w) (Aw 38 w)) args s 0 0 (Aw 38 w)) (F0 m 404 ls [.int t0, .int t1, .ref (w.2.1 0)]) := by
  obtain ⟨hx, hb, hml, hown, hts, hr, hlk, hK, hI, hX⟩ := id E
  unfold fX12_tree_j404 at h
  refine lv_iadd (pc := 404) hx hb dX12_tree_404 ?_
  refine lv_topi (pc := 405) (fun v_40 ev_40 => ?_)
  have h := h v_40 ev_40
  refine pf2_0_63 (pc := 405) hx hb hts hown hK hI hR mw364 dX12_tree_405 (fun H locs σ_41 eσ_41 hR => ?_)
  have h := h σ_41 eσ_41
  obtain ⟨v_42, ev_42⟩ : ∃ z : Int32, z = x6 + 1 := ⟨_, rfl⟩
  have h := h v_42 ev_42
  refine lv_iinc (pc := 408) (v := v_42) (lv' := [(6, .int v_42), (0, .ref (w.2.1 0)), (5, .int x5)]) hx hb dX12_tree_408 hl (k := 2) rfl (by rw [ev_42]; rfl) (by decide) rfl (fun ls hl => ?_)
  refine lv_goto (pc := 411) (tgt := 249) hx hb dX12_tree_411 (by decide) ?_
  exact hr249 v_42 σ_41 _ _ _ hR (lv_sub hl [1, 2, 0] rfl) h
def fX12_tree_l326 (N : Nat) (r249 : Int32 → St → Prop) (x5 : Int32) (x6 : Int32) (x7 : Int32) (Q : Int32 → St → Prop) (r326 : Int32 → St → Prop) (x8 : Int32) (σ : St) : Prop := ((x7 ≤ x8 → fX12_way_ N 0 (fun σ_38 => (((σ_38.1 0 64) ≤ 0 → fX12_tree_j404 N r249 x5 x6 0 (σ_38.1 0 63) Q σ_38) ∧ (¬ (σ_38.1 0 64) ≤ 0 → fX12_tree_j404 N r249 x5 x6 1 (σ_38.1 0 63) Q σ_38))) σ) ∧ (¬ x7 ≤ x8 → vp_in x6 20 ∧ vp_in x8 120 ∧ vp_in (σ.1 26 x8.toNatClampNeg) 60 ∧ vp_in (σ.1 36 (σ.1 26 x8.toNatClampNeg).toNatClampNeg) 122 ∧ ∀ v_44 : Int32, v_44 = (σ.1 23 x6.toNatClampNeg) + (σ.1 35 (σ.1 36 (σ.1 26 x8.toNatClampNeg).toNatClampNeg).toNatClampNeg) → vp_in x6 20 ∧ ∀ σ_46 : St, σ_46 = u1 σ 23 x6.toNatClampNeg v_44 → vp_in x8 120 ∧ vp_in (σ_46.1 26 x8.toNatClampNeg) 60 ∧ fX12_way_ N (σ_46.1 36 (σ_46.1 26 x8.toNatClampNeg).toNatClampNeg) (fun σ_49 => ∀ v_50 : Int32, v_50 = x8 + 1 → r326 v_50 σ_49) σ_46))
set_option maxHeartbeats 4000000 in
set_option maxRecDepth 100000 in
theorem bX12_tree_326 {p : Program} {e : Env} {s : State} {m : MethodId} {args : Array Value} {below : List Frame} {meth : Method} {c : Code} (l : Launch) (w : Wd) (N : Nat) (Q : Int32 → St → Prop) (E : Cx 38 w X2 cX12_tree 10 RX12 (.code yX12_tree cX12_tree 10 (some .int)) (some .int) p s m args meth c) (x5 : Int32) (x6 : Int32) (x7 : Int32) (r249 : Int32 → St → Prop) (hr249 : ∀ (x6 : Int32) (σ : St) (H : Heap) (locs : List Loc) (ls : Array Slot), Rr 38 ev2 w σ s H locs → lv_has ls 10 [(0, .ref (w.2.1 0)), (5, .int x5), (6, .int x6)] → r249 x6 σ → W p l e rmX12_tree s m args below meth c H locs 0 0 (MQ below (va_Qi Q (Rp 38 ev2 w) (Aw 38 w)) args s 0 0 (Aw 38 w)) (F0 m 249 ls [])) : ∀ (n : Nat) (x8 : Int32) (σ : St) (H : Heap) (locs : List Loc) (ls : Array Slot), Rr 38 ev2 w σ s H locs → lv_has ls 10 [(0, .ref (w.2.1 0)), (5, .int x5), (6, .int x6), (7, .int x7), (8, .int x8)] → lo1 (fX12_tree_l326 N r249 x5 x6 x7 Q) n x8 σ → W p l e rmX12_tree s m args below meth c H locs 0 0 (MQ below (va_Qi Q (Rp 38 ev2 w) (Aw 38 w)) args s 0 0 (Aw 38 w)) (F0 m 326 ls []) := by
  obtain ⟨hx, hb, hml, hown, hts, hr, hlk, hK, hI, hX⟩ := id E
  intro n
  induction n with
  | zero => intro x8 σ H locs ls hR hl h; exact h.elim
  | succ n ih =>
    intro x8 σ H locs ls hR hl h
    have h : fX12_tree_l326 N r249 x5 x6 x7 Q (lo1 (fX12_tree_l326 N r249 x5 x6 x7 Q) n) x8 σ := h
    unfold fX12_tree_l326 at h
    refine lv_iload (pc := 326) hx hb dX12_tree_326 (lv_at hl 4 rfl) ?_
    refine lv_iload (pc := 328) hx hb dX12_tree_328 (lv_at hl 3 rfl) ?_
    refine lv_icmp_ge (pc := 330) (tgt := 382) hx hb dX12_tree_330 (by decide) (fun c_37 => ?_) (fun c_37 => ?_)
    · have h := h.1 c_37
      refine lv_aload_n (pc := 382) hx hb dX12_tree_382 rfl (lv_at hl 0 rfl) ?_
      refine lv_iconst (pc := 383) (v := 0) hx hb dX12_tree_383 (by decide) ?_
      refine q_cv (pc := 384) hR (q_rV E (xp2 w) (As := [.int 0]) (rest := []) (cX12_way__met l w hI N 0 _ σ h) ckX12_way_ cvX12_way_ mw368 ⟨rfl, rfl, Nat.le_of_ble_eq_true rfl, Nat.le_of_ble_eq_true rfl⟩ hR (rc2_0 w) rfl hl.1 rfl (Nat.le_of_ble_eq_true rfl) dX12_tree_384) (fun σ_38 H locs h hR => ?_)
      refine lv_aload_n (pc := 387) hx hb dX12_tree_387 rfl (lv_at hl 0 rfl) ?_
      refine lv_dup (pc := 388) hx hb dX12_tree_388 rfl ?_
      refine gf2_0_63 (pc := 389) hx hb hts hown hK hR mw364 dX12_tree_389 ?_
      refine lv_aload_n (pc := 392) hx hb dX12_tree_392 rfl (lv_at hl 0 rfl) ?_
      refine gf2_0_64 (pc := 393) hx hb hts hown hK hR mw363 dX12_tree_393 ?_
      refine lv_if_le (pc := 396) (tgt := 403) hx hb dX12_tree_396 (by decide) (fun c_39 => ?_) (fun c_39 => ?_)
      · have h := h.1 c_39
        refine lv_iconst (pc := 403) (v := 0) hx hb dX12_tree_403 (by decide) ?_
        exact bX12_tree_404 l w N Q E x5 x6 0 (σ_38.1 0 63) r249 hr249 hR (lv_sub hl [0, 1, 2] rfl) h
      · have h := h.2 c_39
        refine lv_iconst (pc := 399) (v := 1) hx hb dX12_tree_399 (by decide) ?_
        refine lv_goto (pc := 400) (tgt := 404) hx hb dX12_tree_400 (by decide) ?_
        exact bX12_tree_404 l w N Q E x5 x6 1 (σ_38.1 0 63) r249 hr249 hR (lv_sub hl [0, 1, 2] rfl) h
    · have h := h.2 c_37
      refine lv_aload_n (pc := 333) hx hb dX12_tree_333 rfl (lv_at hl 0 rfl) ?_
      refine gf2_0_45 (pc := 334) hx hb hts hown hK hR mw345 dX12_tree_334 ?_
      refine lv_iload (pc := 337) hx hb dX12_tree_337 (lv_at hl 2 rfl) ?_
      refine lv_dup2_11 (pc := 339) hx hb dX12_tree_339 rfl rfl ?_
      have g_40 := h.1
      have h := h.2
      refine q_iald (pc := 340) hx hb hK hR (k := 23) lt2_23 (ar2_23 _ _ _) g_40 dX12_tree_340 ?_
      refine lv_aload_n (pc := 341) hx hb dX12_tree_341 rfl (lv_at hl 0 rfl) ?_
      refine gf2_0_60 (pc := 342) hx hb hts hown hK hR mw361 dX12_tree_342 ?_
      refine lv_aload_n (pc := 345) hx hb dX12_tree_345 rfl (lv_at hl 0 rfl) ?_
      refine gf2_0_61 (pc := 346) hx hb hts hown hK hR mw358 dX12_tree_346 ?_
      refine lv_aload_n (pc := 349) hx hb dX12_tree_349 rfl (lv_at hl 0 rfl) ?_
      refine gf2_0_49 (pc := 350) hx hb hts hown hK hR mw338 dX12_tree_350 ?_
      refine lv_iload (pc := 353) hx hb dX12_tree_353 (lv_at hl 4 rfl) ?_
      have g_41 := h.1
      have h := h.2
      refine q_iald (pc := 355) hx hb hK hR (k := 26) lt2_26 (ar2_26 _ _ _) g_41 dX12_tree_355 ?_
      have g_42 := h.1
      have h := h.2
      refine q_iald (pc := 356) hx hb hK hR (k := 36) lt2_36 (ar2_36 _ _ _) g_42 dX12_tree_356 ?_
      have g_43 := h.1
      have h := h.2
      refine q_iald (pc := 357) hx hb hK hR (k := 35) lt2_35 (ar2_35 _ _ _) g_43 dX12_tree_357 ?_
      refine lv_iadd (pc := 358) hx hb dX12_tree_358 ?_
      refine lv_topi (pc := 359) (fun v_44 ev_44 => ?_)
      have h := h v_44 ev_44
      have g_45 := h.1
      have h := h.2
      refine q_iast (pc := 359) hx hb hK hI hR (k := 23) lt2_23 (fun f => (ar2_23 _ f _)) g_45 dX12_tree_359 (fun H locs σ_46 eσ_46 hR => ?_)
      have h := h σ_46 eσ_46
      refine lv_aload_n (pc := 360) hx hb dX12_tree_360 rfl (lv_at hl 0 rfl) ?_
      refine lv_aload_n (pc := 361) hx hb dX12_tree_361 rfl (lv_at hl 0 rfl) ?_
      refine gf2_0_61 (pc := 362) hx hb hts hown hK hR mw358 dX12_tree_362 ?_
      refine lv_aload_n (pc := 365) hx hb dX12_tree_365 rfl (lv_at hl 0 rfl) ?_
      refine gf2_0_49 (pc := 366) hx hb hts hown hK hR mw338 dX12_tree_366 ?_
      refine lv_iload (pc := 369) hx hb dX12_tree_369 (lv_at hl 4 rfl) ?_
      have g_47 := h.1
      have h := h.2
      refine q_iald (pc := 371) hx hb hK hR (k := 26) lt2_26 (ar2_26 _ _ _) g_47 dX12_tree_371 ?_
      have g_48 := h.1
      have h := h.2
      refine q_iald (pc := 372) hx hb hK hR (k := 36) lt2_36 (ar2_36 _ _ _) g_48 dX12_tree_372 ?_
      refine q_cv (pc := 373) hR (q_rV E (xp2 w) (As := [.int (σ_46.1 36 (σ_46.1 26 x8.toNatClampNeg).toNatClampNeg)]) (rest := []) (cX12_way__met l w hI N (σ_46.1 36 (σ_46.1 26 x8.toNatClampNeg).toNatClampNeg) _ σ_46 h) ckX12_way_ cvX12_way_ mw368 ⟨rfl, rfl, Nat.le_of_ble_eq_true rfl, Nat.le_of_ble_eq_true rfl⟩ hR (rc2_0 w) rfl hl.1 rfl (Nat.le_of_ble_eq_true rfl) dX12_tree_373) (fun σ_49 H locs h hR => ?_)
      obtain ⟨v_50, ev_50⟩ : ∃ z : Int32, z = x8 + 1 := ⟨_, rfl⟩
      have h := h v_50 ev_50
      refine lv_iinc (pc := 376) (v := v_50) (lv' := [(8, .int v_50), (0, .ref (w.2.1 0)), (5, .int x5), (6, .int x6), (7, .int x7)]) hx hb dX12_tree_376 hl (k := 4) rfl (by rw [ev_50]; rfl) (by decide) rfl (fun ls hl => ?_)
      refine lv_goto (pc := 379) (tgt := 326) hx hb dX12_tree_379 (by decide) ?_
      exact ih v_50 σ_49 _ _ _ hR (lv_sub hl [1, 2, 3, 4, 0] rfl) h
def fX12_tree_l249 (N : Nat) (x5 : Int32) (Q : Int32 → St → Prop) (r249 : Int32 → St → Prop) (x6 : Int32) (σ : St) : Prop := (((σ.1 0 41) ≤ x6 → vp_in 0 122 ∧ ∀ v_21 : Int32, v_21 = σ.1 35 (0 : Int32).toNatClampNeg → ∀ σ_22 : St, σ_22 = u1 σ 0 46 v_21 → lo1 (fX12_tree_l427 N x5 Q) N 0 σ_22) ∧ (¬ (σ.1 0 41) ≤ x6 → vp_in x6 20 ∧ fX12_parted N x6 (σ.1 21 x6.toNatClampNeg) (fun r_25 σ_24 => ∀ v_26 : Int32, v_26 = σ_24.1 0 63 → vp_in x6 20 ∧ ∀ σ_28 : St, σ_28 = u1 σ_24 22 x6.toNatClampNeg v_26 → vp_in 0 122 ∧ ∀ v_30 : Int32, v_30 = σ_28.1 35 (0 : Int32).toNatClampNeg → vp_in x6 20 ∧ ∀ σ_32 : St, σ_32 = u1 σ_28 23 x6.toNatClampNeg v_30 → fX12_tell N (σ_32.1 0 63) 225 (fun σ_33 => ∀ v_34 : Int32, v_34 = (σ_33.1 0 63) + 1 → ∀ σ_35 : St, σ_35 = u1 σ_33 0 63 v_34 → ∀ σ_36 : St, σ_36 = u1 σ_35 0 64 0 → lo1 (fX12_tree_l326 N r249 x5 x6 r_25 Q) N 0 σ_36) σ_32) σ))
set_option maxHeartbeats 4000000 in
set_option maxRecDepth 100000 in
theorem bX12_tree_249 {p : Program} {e : Env} {s : State} {m : MethodId} {args : Array Value} {below : List Frame} {meth : Method} {c : Code} (l : Launch) (w : Wd) (N : Nat) (Q : Int32 → St → Prop) (E : Cx 38 w X2 cX12_tree 10 RX12 (.code yX12_tree cX12_tree 10 (some .int)) (some .int) p s m args meth c) (x5 : Int32) : ∀ (n : Nat) (x6 : Int32) (σ : St) (H : Heap) (locs : List Loc) (ls : Array Slot), Rr 38 ev2 w σ s H locs → lv_has ls 10 [(0, .ref (w.2.1 0)), (5, .int x5), (6, .int x6)] → lo1 (fX12_tree_l249 N x5 Q) n x6 σ → W p l e rmX12_tree s m args below meth c H locs 0 0 (MQ below (va_Qi Q (Rp 38 ev2 w) (Aw 38 w)) args s 0 0 (Aw 38 w)) (F0 m 249 ls []) := by
  obtain ⟨hx, hb, hml, hown, hts, hr, hlk, hK, hI, hX⟩ := id E
  intro n
  induction n with
  | zero => intro x6 σ H locs ls hR hl h; exact h.elim
  | succ n ih =>
    intro x6 σ H locs ls hR hl h
    have h : fX12_tree_l249 N x5 Q (lo1 (fX12_tree_l249 N x5 Q) n) x6 σ := h
    unfold fX12_tree_l249 at h
    refine lv_iload (pc := 249) hx hb dX12_tree_249 (lv_at hl 2 rfl) ?_
    refine lv_aload_n (pc := 251) hx hb dX12_tree_251 rfl (lv_at hl 0 rfl) ?_
    refine gf2_0_41 (pc := 252) hx hb hts hown hK hR mw331 dX12_tree_252 ?_
    refine lv_icmp_ge (pc := 255) (tgt := 414) hx hb dX12_tree_255 (by decide) (fun c_19 => ?_) (fun c_19 => ?_)
    · have h := h.1 c_19
      refine lv_aload_n (pc := 414) hx hb dX12_tree_414 rfl (lv_at hl 0 rfl) ?_
      refine lv_aload_n (pc := 415) hx hb dX12_tree_415 rfl (lv_at hl 0 rfl) ?_
      refine gf2_0_60 (pc := 416) hx hb hts hown hK hR mw361 dX12_tree_416 ?_
      refine lv_iconst (pc := 419) (v := 0) hx hb dX12_tree_419 (by decide) ?_
      have g_20 := h.1
      have h := h.2
      refine q_iald (pc := 420) hx hb hK hR (k := 35) lt2_35 (ar2_35 _ _ _) g_20 dX12_tree_420 ?_
      refine lv_topi (pc := 421) (fun v_21 ev_21 => ?_)
      have h := h v_21 ev_21
      refine pf2_0_46 (pc := 421) hx hb hts hown hK hI hR mw367 dX12_tree_421 (fun H locs σ_22 eσ_22 hR => ?_)
      have h := h σ_22 eσ_22
      refine lv_iconst (pc := 424) (v := 0) hx hb dX12_tree_424 (by decide) ?_
      refine lv_istore (pc := 425) (lv' := [(6, .int 0), (0, .ref (w.2.1 0)), (5, .int x5)]) hx hb dX12_tree_425 hl (by decide) rfl (fun ls hl => ?_)
      exact bX12_tree_427 l w N Q E x5 N 0 σ_22 _ _ _ hR (lv_sub hl [1, 2, 0] rfl) h
    · have h := h.2 c_19
      refine lv_aload_n (pc := 258) hx hb dX12_tree_258 rfl (lv_at hl 0 rfl) ?_
      refine lv_iload (pc := 259) hx hb dX12_tree_259 (lv_at hl 2 rfl) ?_
      refine lv_aload_n (pc := 261) hx hb dX12_tree_261 rfl (lv_at hl 0 rfl) ?_
      refine gf2_0_43 (pc := 262) hx hb hts hown hK hR mw343 dX12_tree_262 ?_
      refine lv_iload (pc := 265) hx hb dX12_tree_265 (lv_at hl 2 rfl) ?_
      have g_23 := h.1
      have h := h.2
      refine q_iald (pc := 267) hx hb hK hR (k := 21) lt2_21 (ar2_21 _ _ _) g_23 dX12_tree_267 ?_
      refine q_ci (pc := 268) hR (q_rV E (xp2 w) (As := [.int x6, .int (σ.1 21 x6.toNatClampNeg)]) (rest := []) (cX12_parted_met l w hI N x6 (σ.1 21 x6.toNatClampNeg) _ σ h) ckX12_parted cvX12_parted mw342 ⟨rfl, rfl, Nat.le_of_ble_eq_true rfl, Nat.le_of_ble_eq_true rfl⟩ hR (rc2_0 w) rfl hl.1 rfl (Nat.le_of_ble_eq_true rfl) dX12_tree_268) (fun r_25 σ_24 H locs h hR => ?_)
      refine lv_istore (pc := 271) (lv' := [(7, .int r_25), (0, .ref (w.2.1 0)), (5, .int x5), (6, .int x6)]) hx hb dX12_tree_271 hl (by decide) rfl (fun ls hl => ?_)
      refine lv_aload_n (pc := 273) hx hb dX12_tree_273 rfl (lv_at hl 1 rfl) ?_
      refine gf2_0_44 (pc := 274) hx hb hts hown hK hR mw344 dX12_tree_274 ?_
      refine lv_iload (pc := 277) hx hb dX12_tree_277 (lv_at hl 3 rfl) ?_
      refine lv_aload_n (pc := 279) hx hb dX12_tree_279 rfl (lv_at hl 1 rfl) ?_
      refine gf2_0_63 (pc := 280) hx hb hts hown hK hR mw364 dX12_tree_280 ?_
      refine lv_topi (pc := 283) (fun v_26 ev_26 => ?_)
      have h := h v_26 ev_26
      have g_27 := h.1
      have h := h.2
      refine q_iast (pc := 283) hx hb hK hI hR (k := 22) lt2_22 (fun f => (ar2_22 _ f _)) g_27 dX12_tree_283 (fun H locs σ_28 eσ_28 hR => ?_)
      have h := h σ_28 eσ_28
      refine lv_aload_n (pc := 284) hx hb dX12_tree_284 rfl (lv_at hl 1 rfl) ?_
      refine gf2_0_45 (pc := 285) hx hb hts hown hK hR mw345 dX12_tree_285 ?_
      refine lv_iload (pc := 288) hx hb dX12_tree_288 (lv_at hl 3 rfl) ?_
      refine lv_aload_n (pc := 290) hx hb dX12_tree_290 rfl (lv_at hl 1 rfl) ?_
      refine gf2_0_60 (pc := 291) hx hb hts hown hK hR mw361 dX12_tree_291 ?_
      refine lv_iconst (pc := 294) (v := 0) hx hb dX12_tree_294 (by decide) ?_
      have g_29 := h.1
      have h := h.2
      refine q_iald (pc := 295) hx hb hK hR (k := 35) lt2_35 (ar2_35 _ _ _) g_29 dX12_tree_295 ?_
      refine lv_topi (pc := 296) (fun v_30 ev_30 => ?_)
      have h := h v_30 ev_30
      have g_31 := h.1
      have h := h.2
      refine q_iast (pc := 296) hx hb hK hI hR (k := 23) lt2_23 (fun f => (ar2_23 _ f _)) g_31 dX12_tree_296 (fun H locs σ_32 eσ_32 hR => ?_)
      have h := h σ_32 eσ_32
      refine lv_aload_n (pc := 297) hx hb dX12_tree_297 rfl (lv_at hl 1 rfl) ?_
      refine lv_aload_n (pc := 298) hx hb dX12_tree_298 rfl (lv_at hl 1 rfl) ?_
      refine gf2_0_63 (pc := 299) hx hb hts hown hK hR mw364 dX12_tree_299 ?_
      refine lv_sipush (pc := 302) (v := 225) hx hb dX12_tree_302 (by decide) ?_
      refine q_cv (pc := 305) hR (q_rV E (xp2 w) (As := [.int (σ_32.1 0 63), .int 225]) (rest := []) (cX12_tell_met l w hI N (σ_32.1 0 63) 225 _ σ_32 h) ckX12_tell cvX12_tell mw267 ⟨rfl, rfl, Nat.le_of_ble_eq_true rfl, Nat.le_of_ble_eq_true rfl⟩ hR (rc2_0 w) rfl hl.1 rfl (Nat.le_of_ble_eq_true rfl) dX12_tree_305) (fun σ_33 H locs h hR => ?_)
      refine lv_aload_n (pc := 308) hx hb dX12_tree_308 rfl (lv_at hl 1 rfl) ?_
      refine lv_dup (pc := 309) hx hb dX12_tree_309 rfl ?_
      refine gf2_0_63 (pc := 310) hx hb hts hown hK hR mw364 dX12_tree_310 ?_
      refine lv_iconst (pc := 313) (v := 1) hx hb dX12_tree_313 (by decide) ?_
      refine lv_iadd (pc := 314) hx hb dX12_tree_314 ?_
      refine lv_topi (pc := 315) (fun v_34 ev_34 => ?_)
      have h := h v_34 ev_34
      refine pf2_0_63 (pc := 315) hx hb hts hown hK hI hR mw364 dX12_tree_315 (fun H locs σ_35 eσ_35 hR => ?_)
      have h := h σ_35 eσ_35
      refine lv_aload_n (pc := 318) hx hb dX12_tree_318 rfl (lv_at hl 1 rfl) ?_
      refine lv_iconst (pc := 319) (v := 0) hx hb dX12_tree_319 (by decide) ?_
      refine pf2_0_64 (pc := 320) hx hb hts hown hK hI hR mw363 dX12_tree_320 (fun H locs σ_36 eσ_36 hR => ?_)
      have h := h σ_36 eσ_36
      refine lv_iconst (pc := 323) (v := 0) hx hb dX12_tree_323 (by decide) ?_
      refine lv_istore (pc := 324) (lv' := [(8, .int 0), (7, .int r_25), (0, .ref (w.2.1 0)), (5, .int x5), (6, .int x6)]) hx hb dX12_tree_324 hl (by decide) rfl (fun ls hl => ?_)
      exact bX12_tree_326 l w N Q E x5 x6 r_25 _ ih N 0 σ_36 _ _ _ hR (lv_sub hl [2, 3, 4, 1, 0] rfl) h
def fX12_tree_l210 (N : Nat) (x1 : Int32) (x2 : Int32) (x5 : Int32) (Q : Int32 → St → Prop) (r210 : Int32 → St → Prop) (x6 : Int32) (σ : St) : Prop := (((σ.1 0 50) ≤ x6 → vp_in x2 122 ∧ ∀ v_17 : Int32, v_17 = (x1 + 12) + (σ.1 33 x2.toNatClampNeg) → ∀ σ_18 : St, σ_18 = u1 σ 0 63 v_17 → lo1 (fX12_tree_l249 N x5 Q) N 0 σ_18) ∧ (¬ (σ.1 0 50) ≤ x6 → fX12_lay N x6 (fun σ_19 => ∀ v_20 : Int32, v_20 = x6 + 1 → r210 v_20 σ_19) σ))
set_option maxHeartbeats 4000000 in
set_option maxRecDepth 100000 in
theorem bX12_tree_210 {p : Program} {e : Env} {s : State} {m : MethodId} {args : Array Value} {below : List Frame} {meth : Method} {c : Code} (l : Launch) (w : Wd) (N : Nat) (Q : Int32 → St → Prop) (E : Cx 38 w X2 cX12_tree 10 RX12 (.code yX12_tree cX12_tree 10 (some .int)) (some .int) p s m args meth c) (x1 : Int32) (x2 : Int32) (x5 : Int32) : ∀ (n : Nat) (x6 : Int32) (σ : St) (H : Heap) (locs : List Loc) (ls : Array Slot), Rr 38 ev2 w σ s H locs → lv_has ls 10 [(0, .ref (w.2.1 0)), (1, .int x1), (2, .int x2), (5, .int x5), (6, .int x6)] → lo1 (fX12_tree_l210 N x1 x2 x5 Q) n x6 σ → W p l e rmX12_tree s m args below meth c H locs 0 0 (MQ below (va_Qi Q (Rp 38 ev2 w) (Aw 38 w)) args s 0 0 (Aw 38 w)) (F0 m 210 ls []) := by
  obtain ⟨hx, hb, hml, hown, hts, hr, hlk, hK, hI, hX⟩ := id E
  intro n
  induction n with
  | zero => intro x6 σ H locs ls hR hl h; exact h.elim
  | succ n ih =>
    intro x6 σ H locs ls hR hl h
    have h : fX12_tree_l210 N x1 x2 x5 Q (lo1 (fX12_tree_l210 N x1 x2 x5 Q) n) x6 σ := h
    unfold fX12_tree_l210 at h
    refine lv_iload (pc := 210) hx hb dX12_tree_210 (lv_at hl 4 rfl) ?_
    refine lv_aload_n (pc := 212) hx hb dX12_tree_212 rfl (lv_at hl 0 rfl) ?_
    refine gf2_0_50 (pc := 213) hx hb hts hown hK hR mw347 dX12_tree_213 ?_
    refine lv_icmp_ge (pc := 216) (tgt := 231) hx hb dX12_tree_216 (by decide) (fun c_15 => ?_) (fun c_15 => ?_)
    · have h := h.1 c_15
      refine lv_aload_n (pc := 231) hx hb dX12_tree_231 rfl (lv_at hl 0 rfl) ?_
      refine lv_iload_n (pc := 232) hx hb dX12_tree_232 rfl (lv_at hl 1 rfl) ?_
      refine lv_bipush (pc := 233) (v := 12) hx hb dX12_tree_233 (by decide) ?_
      refine lv_iadd (pc := 235) hx hb dX12_tree_235 ?_
      refine lv_aload_n (pc := 236) hx hb dX12_tree_236 rfl (lv_at hl 0 rfl) ?_
      refine gf2_0_58 (pc := 237) hx hb hts hown hK hR mw350 dX12_tree_237 ?_
      refine lv_iload_n (pc := 240) hx hb dX12_tree_240 rfl (lv_at hl 2 rfl) ?_
      have g_16 := h.1
      have h := h.2
      refine q_iald (pc := 241) hx hb hK hR (k := 33) lt2_33 (ar2_33 _ _ _) g_16 dX12_tree_241 ?_
      refine lv_iadd (pc := 242) hx hb dX12_tree_242 ?_
      refine lv_topi (pc := 243) (fun v_17 ev_17 => ?_)
      have h := h v_17 ev_17
      refine pf2_0_63 (pc := 243) hx hb hts hown hK hI hR mw364 dX12_tree_243 (fun H locs σ_18 eσ_18 hR => ?_)
      have h := h σ_18 eσ_18
      refine lv_iconst (pc := 246) (v := 0) hx hb dX12_tree_246 (by decide) ?_
      refine lv_istore (pc := 247) (lv' := [(6, .int 0), (0, .ref (w.2.1 0)), (1, .int x1), (2, .int x2), (5, .int x5)]) hx hb dX12_tree_247 hl (by decide) rfl (fun ls hl => ?_)
      exact bX12_tree_249 l w N Q E x5 N 0 σ_18 _ _ _ hR (lv_sub hl [1, 4, 0] rfl) h
    · have h := h.2 c_15
      refine lv_aload_n (pc := 219) hx hb dX12_tree_219 rfl (lv_at hl 0 rfl) ?_
      refine lv_iload (pc := 220) hx hb dX12_tree_220 (lv_at hl 4 rfl) ?_
      refine q_cv (pc := 222) hR (q_rV E (xp2 w) (As := [.int x6]) (rest := []) (cX12_lay_met l w hI N x6 _ σ h) ckX12_lay cvX12_lay mw369 ⟨rfl, rfl, Nat.le_of_ble_eq_true rfl, Nat.le_of_ble_eq_true rfl⟩ hR (rc2_0 w) rfl hl.1 rfl (Nat.le_of_ble_eq_true rfl) dX12_tree_222) (fun σ_19 H locs h hR => ?_)
      obtain ⟨v_20, ev_20⟩ : ∃ z : Int32, z = x6 + 1 := ⟨_, rfl⟩
      have h := h v_20 ev_20
      refine lv_iinc (pc := 225) (v := v_20) (lv' := [(6, .int v_20), (0, .ref (w.2.1 0)), (1, .int x1), (2, .int x2), (5, .int x5)]) hx hb dX12_tree_225 hl (k := 4) rfl (by rw [ev_20]; rfl) (by decide) rfl (fun ls hl => ?_)
      refine lv_goto (pc := 228) (tgt := 210) hx hb dX12_tree_228 (by decide) ?_
      exact ih v_20 σ_19 _ _ _ hR (lv_sub hl [1, 2, 3, 4, 0] rfl) h
def fX12_tree_l89 (N : Nat) (r54 : Int64 → Int32 → Int32 → St → Prop) (x1 : Int32) (x2 : Int32) (x3 : Int64) (x5 : Int32) (x6 : Int32) (x7 : Int32) (Q : Int32 → St → Prop) (r89 : Int32 → Int32 → St → Prop) (x8 : Int32) (x9 : Int32) (σ : St) : Prop := ((x7 ≤ x9 → ∀ v_21 : Int32, v_21 = x5 + x8 → ∀ v_22 : Int64, v_22 = x3 + ((1 + ((x8 + 7) / 8)).toInt64) → ∀ v_23 : Int32, v_23 = x6 + 1 → r54 v_22 v_21 v_23 σ) ∧ (¬ x7 ≤ x9 → vp_in x9 120 ∧ vp_in (σ.1 26 x9.toNatClampNeg) 60 ∧ vp_in (σ.1 36 (σ.1 26 x9.toNatClampNeg).toNatClampNeg) 122 ∧ ∀ v_27 : Int32, v_27 = x8 + (σ.1 35 (σ.1 36 (σ.1 26 x9.toNatClampNeg).toNatClampNeg).toNatClampNeg) → ∀ v_28 : Int32, v_28 = x9 + 1 → r89 v_27 v_28 σ))
set_option maxHeartbeats 4000000 in
set_option maxRecDepth 100000 in
theorem bX12_tree_89 {p : Program} {e : Env} {s : State} {m : MethodId} {args : Array Value} {below : List Frame} {meth : Method} {c : Code} (l : Launch) (w : Wd) (N : Nat) (Q : Int32 → St → Prop) (E : Cx 38 w X2 cX12_tree 10 RX12 (.code yX12_tree cX12_tree 10 (some .int)) (some .int) p s m args meth c) (x1 : Int32) (x2 : Int32) (x3 : Int64) (x5 : Int32) (x6 : Int32) (x7 : Int32) (r54 : Int64 → Int32 → Int32 → St → Prop) (hr54 : ∀ (x3 : Int64) (x5 : Int32) (x6 : Int32) (σ : St) (H : Heap) (locs : List Loc) (ls : Array Slot), Rr 38 ev2 w σ s H locs → lv_has ls 10 [(0, .ref (w.2.1 0)), (1, .int x1), (2, .int x2), (3, .long x3), (5, .int x5), (6, .int x6)] → r54 x3 x5 x6 σ → W p l e rmX12_tree s m args below meth c H locs 0 0 (MQ below (va_Qi Q (Rp 38 ev2 w) (Aw 38 w)) args s 0 0 (Aw 38 w)) (F0 m 54 ls [])) : ∀ (n : Nat) (x8 : Int32) (x9 : Int32) (σ : St) (H : Heap) (locs : List Loc) (ls : Array Slot), Rr 38 ev2 w σ s H locs → lv_has ls 10 [(0, .ref (w.2.1 0)), (1, .int x1), (2, .int x2), (3, .long x3), (5, .int x5), (6, .int x6), (7, .int x7), (8, .int x8), (9, .int x9)] → lo2 (fX12_tree_l89 N r54 x1 x2 x3 x5 x6 x7 Q) n x8 x9 σ → W p l e rmX12_tree s m args below meth c H locs 0 0 (MQ below (va_Qi Q (Rp 38 ev2 w) (Aw 38 w)) args s 0 0 (Aw 38 w)) (F0 m 89 ls []) := by
  obtain ⟨hx, hb, hml, hown, hts, hr, hlk, hK, hI, hX⟩ := id E
  intro n
  induction n with
  | zero => intro x8 x9 σ H locs ls hR hl h; exact h.elim
  | succ n ih =>
    intro x8 x9 σ H locs ls hR hl h
    have h : fX12_tree_l89 N r54 x1 x2 x3 x5 x6 x7 Q (lo2 (fX12_tree_l89 N r54 x1 x2 x3 x5 x6 x7 Q) n) x8 x9 σ := h
    unfold fX12_tree_l89 at h
    refine lv_iload (pc := 89) hx hb dX12_tree_89 (lv_at hl 8 rfl) ?_
    refine lv_iload (pc := 91) hx hb dX12_tree_91 (lv_at hl 6 rfl) ?_
    refine lv_icmp_ge (pc := 93) (tgt := 124) hx hb dX12_tree_93 (by decide) (fun c_20 => ?_) (fun c_20 => ?_)
    · have h := h.1 c_20
      refine lv_iload (pc := 124) hx hb dX12_tree_124 (lv_at hl 4 rfl) ?_
      refine lv_iload (pc := 126) hx hb dX12_tree_126 (lv_at hl 7 rfl) ?_
      refine lv_iadd (pc := 128) hx hb dX12_tree_128 ?_
      refine lv_topi (pc := 129) (fun v_21 ev_21 => ?_)
      have h := h v_21 ev_21
      refine lv_istore (pc := 129) (lv' := [(5, .int v_21), (0, .ref (w.2.1 0)), (1, .int x1), (2, .int x2), (3, .long x3), (6, .int x6), (7, .int x7), (8, .int x8), (9, .int x9)]) hx hb dX12_tree_129 hl (by decide) rfl (fun ls hl => ?_)
      refine lv_lload_n (pc := 131) hx hb dX12_tree_131 rfl (lv_at hl 4 rfl) ?_
      refine lv_iconst (pc := 132) (v := 1) hx hb dX12_tree_132 (by decide) ?_
      refine lv_iload (pc := 133) hx hb dX12_tree_133 (lv_at hl 7 rfl) ?_
      refine lv_bipush (pc := 135) (v := 7) hx hb dX12_tree_135 (by decide) ?_
      refine lv_iadd (pc := 137) hx hb dX12_tree_137 ?_
      refine lv_bipush (pc := 138) (v := 8) hx hb dX12_tree_138 (by decide) ?_
      refine lv_idiv (pc := 140) hx hb dX12_tree_140 (by decide) ?_
      refine lv_iadd (pc := 141) hx hb dX12_tree_141 ?_
      refine lv_i2l (pc := 142) (v := (1 + ((x8 + 7) / 8)).toInt64) hx hb dX12_tree_142 rfl ?_
      refine lv_ladd (pc := 143) hx hb dX12_tree_143 ?_
      refine lv_topl (pc := 144) (fun v_22 ev_22 => ?_)
      have h := h v_22 ev_22
      refine lv_lstore_n (pc := 144) (lv' := [(3, .long v_22), (5, .int v_21), (0, .ref (w.2.1 0)), (1, .int x1), (2, .int x2), (6, .int x6), (7, .int x7), (8, .int x8), (9, .int x9)]) hx hb dX12_tree_144 rfl hl (by decide) rfl (fun ls hl => ?_)
      obtain ⟨v_23, ev_23⟩ : ∃ z : Int32, z = x6 + 1 := ⟨_, rfl⟩
      have h := h v_23 ev_23
      refine lv_iinc (pc := 145) (v := v_23) (lv' := [(6, .int v_23), (3, .long v_22), (5, .int v_21), (0, .ref (w.2.1 0)), (1, .int x1), (2, .int x2), (7, .int x7), (8, .int x8), (9, .int x9)]) hx hb dX12_tree_145 hl (k := 5) rfl (by rw [ev_23]; rfl) (by decide) rfl (fun ls hl => ?_)
      refine lv_goto (pc := 148) (tgt := 54) hx hb dX12_tree_148 (by decide) ?_
      exact hr54 v_22 v_21 v_23 σ _ _ _ hR (lv_sub hl [3, 4, 5, 1, 2, 0] rfl) h
    · have h := h.2 c_20
      refine lv_iload (pc := 96) hx hb dX12_tree_96 (lv_at hl 7 rfl) ?_
      refine lv_aload_n (pc := 98) hx hb dX12_tree_98 rfl (lv_at hl 0 rfl) ?_
      refine gf2_0_60 (pc := 99) hx hb hts hown hK hR mw361 dX12_tree_99 ?_
      refine lv_aload_n (pc := 102) hx hb dX12_tree_102 rfl (lv_at hl 0 rfl) ?_
      refine gf2_0_61 (pc := 103) hx hb hts hown hK hR mw358 dX12_tree_103 ?_
      refine lv_aload_n (pc := 106) hx hb dX12_tree_106 rfl (lv_at hl 0 rfl) ?_
      refine gf2_0_49 (pc := 107) hx hb hts hown hK hR mw338 dX12_tree_107 ?_
      refine lv_iload (pc := 110) hx hb dX12_tree_110 (lv_at hl 8 rfl) ?_
      have g_24 := h.1
      have h := h.2
      refine q_iald (pc := 112) hx hb hK hR (k := 26) lt2_26 (ar2_26 _ _ _) g_24 dX12_tree_112 ?_
      have g_25 := h.1
      have h := h.2
      refine q_iald (pc := 113) hx hb hK hR (k := 36) lt2_36 (ar2_36 _ _ _) g_25 dX12_tree_113 ?_
      have g_26 := h.1
      have h := h.2
      refine q_iald (pc := 114) hx hb hK hR (k := 35) lt2_35 (ar2_35 _ _ _) g_26 dX12_tree_114 ?_
      refine lv_iadd (pc := 115) hx hb dX12_tree_115 ?_
      refine lv_topi (pc := 116) (fun v_27 ev_27 => ?_)
      have h := h v_27 ev_27
      refine lv_istore (pc := 116) (lv' := [(8, .int v_27), (0, .ref (w.2.1 0)), (1, .int x1), (2, .int x2), (3, .long x3), (5, .int x5), (6, .int x6), (7, .int x7), (9, .int x9)]) hx hb dX12_tree_116 hl (by decide) rfl (fun ls hl => ?_)
      obtain ⟨v_28, ev_28⟩ : ∃ z : Int32, z = x9 + 1 := ⟨_, rfl⟩
      have h := h v_28 ev_28
      refine lv_iinc (pc := 118) (v := v_28) (lv' := [(9, .int v_28), (8, .int v_27), (0, .ref (w.2.1 0)), (1, .int x1), (2, .int x2), (3, .long x3), (5, .int x5), (6, .int x6), (7, .int x7)]) hx hb dX12_tree_118 hl (k := 8) rfl (by rw [ev_28]; rfl) (by decide) rfl (fun ls hl => ?_)
      refine lv_goto (pc := 121) (tgt := 89) hx hb dX12_tree_121 (by decide) ?_
      exact ih v_27 v_28 σ _ _ _ hR (lv_sub hl [2, 3, 4, 5, 6, 7, 8, 1, 0] rfl) h
def fX12_tree_l54 (N : Nat) (x1 : Int32) (x2 : Int32) (Q : Int32 → St → Prop) (r54 : Int64 → Int32 → Int32 → St → Prop) (x3 : Int64) (x5 : Int32) (x6 : Int32) (σ : St) : Prop := (((σ.1 0 41) ≤ x6 → ((x3 ≤ 4096 → fX12_places N (x1 + 12) (fun σ_10 => vp_in x2 122 ∧ fX12_tellFour N x1 (12 + (σ_10.1 33 x2.toNatClampNeg)) (fun σ_12 => fX12_tellFour N (x1 + 4) (σ_12.1 0 50) (fun σ_13 => fX12_tellFour N (x1 + 8) (x1 + 12) (fun σ_14 => lo1 (fX12_tree_l210 N x1 x2 x5 Q) N 0 σ_14) σ_13) σ_12) σ_10) σ) ∧ (¬ x3 ≤ 4096 → Q (-4) σ))) ∧ (¬ (σ.1 0 41) ≤ x6 → vp_in x6 20 ∧ fX12_parted N x6 (σ.1 21 x6.toNatClampNeg) (fun r_17 σ_16 => vp_in 0 122 ∧ ∀ v_19 : Int32, v_19 = σ_16.1 35 (0 : Int32).toNatClampNeg → lo2 (fX12_tree_l89 N r54 x1 x2 x3 x5 x6 r_17 Q) N v_19 0 σ_16) σ))
set_option maxHeartbeats 4000000 in
set_option maxRecDepth 100000 in
theorem bX12_tree_54 {p : Program} {e : Env} {s : State} {m : MethodId} {args : Array Value} {below : List Frame} {meth : Method} {c : Code} (l : Launch) (w : Wd) (N : Nat) (Q : Int32 → St → Prop) (E : Cx 38 w X2 cX12_tree 10 RX12 (.code yX12_tree cX12_tree 10 (some .int)) (some .int) p s m args meth c) (x1 : Int32) (x2 : Int32) : ∀ (n : Nat) (x3 : Int64) (x5 : Int32) (x6 : Int32) (σ : St) (H : Heap) (locs : List Loc) (ls : Array Slot), Rr 38 ev2 w σ s H locs → lv_has ls 10 [(0, .ref (w.2.1 0)), (1, .int x1), (2, .int x2), (3, .long x3), (5, .int x5), (6, .int x6)] → lo3 (fX12_tree_l54 N x1 x2 Q) n x3 x5 x6 σ → W p l e rmX12_tree s m args below meth c H locs 0 0 (MQ below (va_Qi Q (Rp 38 ev2 w) (Aw 38 w)) args s 0 0 (Aw 38 w)) (F0 m 54 ls []) := by
  obtain ⟨hx, hb, hml, hown, hts, hr, hlk, hK, hI, hX⟩ := id E
  intro n
  induction n with
  | zero => intro x3 x5 x6 σ H locs ls hR hl h; exact h.elim
  | succ n ih =>
    intro x3 x5 x6 σ H locs ls hR hl h
    have h : fX12_tree_l54 N x1 x2 Q (lo3 (fX12_tree_l54 N x1 x2 Q) n) x3 x5 x6 σ := h
    unfold fX12_tree_l54 at h
    refine lv_iload (pc := 54) hx hb dX12_tree_54 (lv_at hl 5 rfl) ?_
    refine lv_aload_n (pc := 56) hx hb dX12_tree_56 rfl (lv_at hl 0 rfl) ?_
    refine gf2_0_41 (pc := 57) hx hb hts hown hK hR mw331 dX12_tree_57 ?_
    refine lv_icmp_ge (pc := 60) (tgt := 151) hx hb dX12_tree_60 (by decide) (fun c_8 => ?_) (fun c_8 => ?_)
    · have h := h.1 c_8
      refine lv_lload_n (pc := 151) hx hb dX12_tree_151 rfl (lv_at hl 3 rfl) ?_
      refine lv_ldc2 (pc := 152) (v := 4096) hx hb hown (hts _ (Uin mw266)) dX12_tree_152 ?_
      refine W.lcmp (pc := 155) hx hb dX12_tree_155 ?_
      refine lv_if_le (pc := 156) (tgt := 162) hx hb dX12_tree_156 (by decide) (fun c_9 => ?_) (fun c_9 => ?_)
      · have c_9 := (lc_le _ _).mp c_9
        have h := h.1 c_9
        refine lv_aload_n (pc := 162) hx hb dX12_tree_162 rfl (lv_at hl 0 rfl) ?_
        refine lv_iload_n (pc := 163) hx hb dX12_tree_163 rfl (lv_at hl 1 rfl) ?_
        refine lv_bipush (pc := 164) (v := 12) hx hb dX12_tree_164 (by decide) ?_
        refine lv_iadd (pc := 166) hx hb dX12_tree_166 ?_
        refine q_cv (pc := 167) hR (q_rV E (xp2 w) (As := [.int (x1 + 12)]) (rest := []) (cX12_places_met l w hI N (x1 + 12) _ σ h) ckX12_places cvX12_places mw366 ⟨rfl, rfl, Nat.le_of_ble_eq_true rfl, Nat.le_of_ble_eq_true rfl⟩ hR (rc2_0 w) rfl hl.1 rfl (Nat.le_of_ble_eq_true rfl) dX12_tree_167) (fun σ_10 H locs h hR => ?_)
        refine lv_aload_n (pc := 170) hx hb dX12_tree_170 rfl (lv_at hl 0 rfl) ?_
        refine lv_iload_n (pc := 171) hx hb dX12_tree_171 rfl (lv_at hl 1 rfl) ?_
        refine lv_bipush (pc := 172) (v := 12) hx hb dX12_tree_172 (by decide) ?_
        refine lv_aload_n (pc := 174) hx hb dX12_tree_174 rfl (lv_at hl 0 rfl) ?_
        refine gf2_0_58 (pc := 175) hx hb hts hown hK hR mw350 dX12_tree_175 ?_
        refine lv_iload_n (pc := 178) hx hb dX12_tree_178 rfl (lv_at hl 2 rfl) ?_
        have g_11 := h.1
        have h := h.2
        refine q_iald (pc := 179) hx hb hK hR (k := 33) lt2_33 (ar2_33 _ _ _) g_11 dX12_tree_179 ?_
        refine lv_iadd (pc := 180) hx hb dX12_tree_180 ?_
        refine q_cv (pc := 181) hR (q_rV E (xp2 w) (As := [.int x1, .int (12 + (σ_10.1 33 x2.toNatClampNeg))]) (rest := []) (cX12_tellFour_met l w hI N x1 (12 + (σ_10.1 33 x2.toNatClampNeg)) _ σ_10 h) ckX12_tellFour cvX12_tellFour mw362 ⟨rfl, rfl, Nat.le_of_ble_eq_true rfl, Nat.le_of_ble_eq_true rfl⟩ hR (rc2_0 w) rfl hl.1 rfl (Nat.le_of_ble_eq_true rfl) dX12_tree_181) (fun σ_12 H locs h hR => ?_)
        refine lv_aload_n (pc := 184) hx hb dX12_tree_184 rfl (lv_at hl 0 rfl) ?_
        refine lv_iload_n (pc := 185) hx hb dX12_tree_185 rfl (lv_at hl 1 rfl) ?_
        refine lv_iconst (pc := 186) (v := 4) hx hb dX12_tree_186 (by decide) ?_
        refine lv_iadd (pc := 187) hx hb dX12_tree_187 ?_
        refine lv_aload_n (pc := 188) hx hb dX12_tree_188 rfl (lv_at hl 0 rfl) ?_
        refine gf2_0_50 (pc := 189) hx hb hts hown hK hR mw347 dX12_tree_189 ?_
        refine q_cv (pc := 192) hR (q_rV E (xp2 w) (As := [.int (x1 + 4), .int (σ_12.1 0 50)]) (rest := []) (cX12_tellFour_met l w hI N (x1 + 4) (σ_12.1 0 50) _ σ_12 h) ckX12_tellFour cvX12_tellFour mw362 ⟨rfl, rfl, Nat.le_of_ble_eq_true rfl, Nat.le_of_ble_eq_true rfl⟩ hR (rc2_0 w) rfl hl.1 rfl (Nat.le_of_ble_eq_true rfl) dX12_tree_192) (fun σ_13 H locs h hR => ?_)
        refine lv_aload_n (pc := 195) hx hb dX12_tree_195 rfl (lv_at hl 0 rfl) ?_
        refine lv_iload_n (pc := 196) hx hb dX12_tree_196 rfl (lv_at hl 1 rfl) ?_
        refine lv_bipush (pc := 197) (v := 8) hx hb dX12_tree_197 (by decide) ?_
        refine lv_iadd (pc := 199) hx hb dX12_tree_199 ?_
        refine lv_iload_n (pc := 200) hx hb dX12_tree_200 rfl (lv_at hl 1 rfl) ?_
        refine lv_bipush (pc := 201) (v := 12) hx hb dX12_tree_201 (by decide) ?_
        refine lv_iadd (pc := 203) hx hb dX12_tree_203 ?_
        refine q_cv (pc := 204) hR (q_rV E (xp2 w) (As := [.int (x1 + 8), .int (x1 + 12)]) (rest := []) (cX12_tellFour_met l w hI N (x1 + 8) (x1 + 12) _ σ_13 h) ckX12_tellFour cvX12_tellFour mw362 ⟨rfl, rfl, Nat.le_of_ble_eq_true rfl, Nat.le_of_ble_eq_true rfl⟩ hR (rc2_0 w) rfl hl.1 rfl (Nat.le_of_ble_eq_true rfl) dX12_tree_204) (fun σ_14 H locs h hR => ?_)
        refine lv_iconst (pc := 207) (v := 0) hx hb dX12_tree_207 (by decide) ?_
        refine lv_istore (pc := 208) (lv' := [(6, .int 0), (0, .ref (w.2.1 0)), (1, .int x1), (2, .int x2), (3, .long x3), (5, .int x5)]) hx hb dX12_tree_208 hl (by decide) rfl (fun ls hl => ?_)
        exact bX12_tree_210 l w N Q E x1 x2 x5 N 0 σ_14 _ _ _ hR (lv_sub hl [1, 2, 3, 5, 0] rfl) h
      · have c_9 := mt (lc_le _ _).mpr c_9
        have h := h.2 c_9
        refine lv_bipush (pc := 159) (v := (-4)) hx hb dX12_tree_159 (by decide) ?_
        exact q_iret (pc := 161) E hR h dX12_tree_161
    · have h := h.2 c_8
      refine lv_aload_n (pc := 63) hx hb dX12_tree_63 rfl (lv_at hl 0 rfl) ?_
      refine lv_iload (pc := 64) hx hb dX12_tree_64 (lv_at hl 5 rfl) ?_
      refine lv_aload_n (pc := 66) hx hb dX12_tree_66 rfl (lv_at hl 0 rfl) ?_
      refine gf2_0_43 (pc := 67) hx hb hts hown hK hR mw343 dX12_tree_67 ?_
      refine lv_iload (pc := 70) hx hb dX12_tree_70 (lv_at hl 5 rfl) ?_
      have g_15 := h.1
      have h := h.2
      refine q_iald (pc := 72) hx hb hK hR (k := 21) lt2_21 (ar2_21 _ _ _) g_15 dX12_tree_72 ?_
      refine q_ci (pc := 73) hR (q_rV E (xp2 w) (As := [.int x6, .int (σ.1 21 x6.toNatClampNeg)]) (rest := []) (cX12_parted_met l w hI N x6 (σ.1 21 x6.toNatClampNeg) _ σ h) ckX12_parted cvX12_parted mw342 ⟨rfl, rfl, Nat.le_of_ble_eq_true rfl, Nat.le_of_ble_eq_true rfl⟩ hR (rc2_0 w) rfl hl.1 rfl (Nat.le_of_ble_eq_true rfl) dX12_tree_73) (fun r_17 σ_16 H locs h hR => ?_)
      refine lv_istore (pc := 76) (lv' := [(7, .int r_17), (0, .ref (w.2.1 0)), (1, .int x1), (2, .int x2), (3, .long x3), (5, .int x5), (6, .int x6)]) hx hb dX12_tree_76 hl (by decide) rfl (fun ls hl => ?_)
      refine lv_aload_n (pc := 78) hx hb dX12_tree_78 rfl (lv_at hl 1 rfl) ?_
      refine gf2_0_60 (pc := 79) hx hb hts hown hK hR mw361 dX12_tree_79 ?_
      refine lv_iconst (pc := 82) (v := 0) hx hb dX12_tree_82 (by decide) ?_
      have g_18 := h.1
      have h := h.2
      refine q_iald (pc := 83) hx hb hK hR (k := 35) lt2_35 (ar2_35 _ _ _) g_18 dX12_tree_83 ?_
      refine lv_topi (pc := 84) (fun v_19 ev_19 => ?_)
      have h := h v_19 ev_19
      refine lv_istore (pc := 84) (lv' := [(8, .int v_19), (7, .int r_17), (0, .ref (w.2.1 0)), (1, .int x1), (2, .int x2), (3, .long x3), (5, .int x5), (6, .int x6)]) hx hb dX12_tree_84 hl (by decide) rfl (fun ls hl => ?_)
      refine lv_iconst (pc := 86) (v := 0) hx hb dX12_tree_86 (by decide) ?_
      refine lv_istore (pc := 87) (lv' := [(9, .int 0), (8, .int v_19), (7, .int r_17), (0, .ref (w.2.1 0)), (1, .int x1), (2, .int x2), (3, .long x3), (5, .int x5), (6, .int x6)]) hx hb dX12_tree_87 hl (by decide) rfl (fun ls hl => ?_)
      exact bX12_tree_89 l w N Q E x1 x2 x3 x5 x6 r_17 _ ih N v_19 0 σ_16 _ _ _ hR (lv_sub hl [3, 4, 5, 6, 7, 8, 2, 1, 0] rfl) h
def fX12_tree (N : Nat) (x1 : Int32) (Q : Int32 → St → Prop) (σ : St) : Prop := ((0 ≤ x1 → (((σ.1 0 41) = 0 → Q (-3) σ) ∧ (¬ (σ.1 0 41) = 0 → fX12_join N (fun σ_3 => ∀ v_4 : Int32, v_4 = (σ_3.1 0 50) - 1 → fX12_places N 0 (fun σ_5 => vp_in v_4 122 ∧ ∀ v_7 : Int64, v_7 = (x1.toInt64 + 12) + ((σ_5.1 33 v_4.toNatClampNeg).toInt64) → lo3 (fX12_tree_l54 N x1 v_4 Q) N v_7 0 0 σ_5) σ_3) σ))) ∧ (¬ 0 ≤ x1 → Q (-2) σ))
set_option maxHeartbeats 4000000 in
set_option maxRecDepth 100000 in
theorem bX12_tree_e {p : Program} {e : Env} {s : State} {m : MethodId} {args : Array Value} {below : List Frame} {meth : Method} {c : Code} (l : Launch) (w : Wd) (N : Nat) (Q : Int32 → St → Prop) (E : Cx 38 w X2 cX12_tree 10 RX12 (.code yX12_tree cX12_tree 10 (some .int)) (some .int) p s m args meth c) (x1 : Int32) {σ : St} {H : Heap} {locs : List Loc} {ls : Array Slot} (hR : Rr 38 ev2 w σ s H locs) (hl : lv_has ls 10 [(0, .ref (w.2.1 0)), (1, .int x1)]) (h : fX12_tree N x1 Q σ) : W p l e rmX12_tree s m args below meth c H locs 0 0 (MQ below (va_Qi Q (Rp 38 ev2 w) (Aw 38 w)) args s 0 0 (Aw 38 w)) (F0 m 0 ls []) := by
  obtain ⟨hx, hb, hml, hown, hts, hr, hlk, hK, hI, hX⟩ := id E
  unfold fX12_tree at h
  refine lv_iload_n (pc := 0) hx hb dX12_tree_0 rfl (lv_at hl 1 rfl) ?_
  refine lv_if_ge (pc := 1) (tgt := 7) hx hb dX12_tree_1 (by decide) (fun c_1 => ?_) (fun c_1 => ?_)
  · have h := h.1 c_1
    refine lv_aload_n (pc := 7) hx hb dX12_tree_7 rfl (lv_at hl 0 rfl) ?_
    refine gf2_0_41 (pc := 8) hx hb hts hown hK hR mw331 dX12_tree_8 ?_
    refine lv_if_ne (pc := 11) (tgt := 17) hx hb dX12_tree_11 (by decide) (fun c_2 => ?_) (fun c_2 => ?_)
    · have h := h.2 c_2
      refine lv_aload_n (pc := 17) hx hb dX12_tree_17 rfl (lv_at hl 0 rfl) ?_
      refine q_cv (pc := 18) hR (q_rV E (xp2 w) (As := []) (rest := []) (cX12_join_met l w hI N _ σ h) ckX12_join cvX12_join mw365 ⟨rfl, rfl, Nat.le_of_ble_eq_true rfl, Nat.le_of_ble_eq_true rfl⟩ hR (rc2_0 w) rfl hl.1 rfl (Nat.le_of_ble_eq_true rfl) dX12_tree_18) (fun σ_3 H locs h hR => ?_)
      refine lv_aload_n (pc := 21) hx hb dX12_tree_21 rfl (lv_at hl 0 rfl) ?_
      refine gf2_0_50 (pc := 22) hx hb hts hown hK hR mw347 dX12_tree_22 ?_
      refine lv_iconst (pc := 25) (v := 1) hx hb dX12_tree_25 (by decide) ?_
      refine lv_isub (pc := 26) hx hb dX12_tree_26 ?_
      refine lv_topi (pc := 27) (fun v_4 ev_4 => ?_)
      have h := h v_4 ev_4
      refine lv_istore_n (pc := 27) (lv' := [(2, .int v_4), (0, .ref (w.2.1 0)), (1, .int x1)]) hx hb dX12_tree_27 rfl hl (by decide) rfl (fun ls hl => ?_)
      refine lv_aload_n (pc := 28) hx hb dX12_tree_28 rfl (lv_at hl 1 rfl) ?_
      refine lv_iconst (pc := 29) (v := 0) hx hb dX12_tree_29 (by decide) ?_
      refine q_cv (pc := 30) hR (q_rV E (xp2 w) (As := [.int 0]) (rest := []) (cX12_places_met l w hI N 0 _ σ_3 h) ckX12_places cvX12_places mw366 ⟨rfl, rfl, Nat.le_of_ble_eq_true rfl, Nat.le_of_ble_eq_true rfl⟩ hR (rc2_0 w) rfl hl.1 rfl (Nat.le_of_ble_eq_true rfl) dX12_tree_30) (fun σ_5 H locs h hR => ?_)
      refine lv_iload_n (pc := 33) hx hb dX12_tree_33 rfl (lv_at hl 2 rfl) ?_
      refine lv_i2l (pc := 34) (v := x1.toInt64) hx hb dX12_tree_34 rfl ?_
      refine lv_ldc2 (pc := 35) (v := 12) hx hb hown (hts _ (Uin mw278)) dX12_tree_35 ?_
      refine lv_ladd (pc := 38) hx hb dX12_tree_38 ?_
      refine lv_aload_n (pc := 39) hx hb dX12_tree_39 rfl (lv_at hl 1 rfl) ?_
      refine gf2_0_58 (pc := 40) hx hb hts hown hK hR mw350 dX12_tree_40 ?_
      refine lv_iload_n (pc := 43) hx hb dX12_tree_43 rfl (lv_at hl 0 rfl) ?_
      have g_6 := h.1
      have h := h.2
      refine q_iald (pc := 44) hx hb hK hR (k := 33) lt2_33 (ar2_33 _ _ _) g_6 dX12_tree_44 ?_
      refine lv_i2l (pc := 45) (v := (σ_5.1 33 v_4.toNatClampNeg).toInt64) hx hb dX12_tree_45 rfl ?_
      refine lv_ladd (pc := 46) hx hb dX12_tree_46 ?_
      refine lv_topl (pc := 47) (fun v_7 ev_7 => ?_)
      have h := h v_7 ev_7
      refine lv_lstore_n (pc := 47) (lv' := [(3, .long v_7), (2, .int v_4), (0, .ref (w.2.1 0)), (1, .int x1)]) hx hb dX12_tree_47 rfl hl (by decide) rfl (fun ls hl => ?_)
      refine lv_iconst (pc := 48) (v := 0) hx hb dX12_tree_48 (by decide) ?_
      refine lv_istore (pc := 49) (lv' := [(5, .int 0), (3, .long v_7), (2, .int v_4), (0, .ref (w.2.1 0)), (1, .int x1)]) hx hb dX12_tree_49 hl (by decide) rfl (fun ls hl => ?_)
      refine lv_iconst (pc := 51) (v := 0) hx hb dX12_tree_51 (by decide) ?_
      refine lv_istore (pc := 52) (lv' := [(6, .int 0), (5, .int 0), (3, .long v_7), (2, .int v_4), (0, .ref (w.2.1 0)), (1, .int x1)]) hx hb dX12_tree_52 hl (by decide) rfl (fun ls hl => ?_)
      exact bX12_tree_54 l w N Q E x1 v_4 N v_7 0 0 σ_5 _ _ _ hR (lv_sub hl [4, 5, 3, 2, 1, 0] rfl) h
    · have h := h.1 c_2
      refine lv_bipush (pc := 14) (v := (-3)) hx hb dX12_tree_14 (by decide) ?_
      exact q_iret (pc := 16) E hR h dX12_tree_16
  · have h := h.2 c_1
    refine lv_bipush (pc := 4) (v := (-2)) hx hb dX12_tree_4 (by decide) ?_
    exact q_iret (pc := 6) E hR h dX12_tree_6
theorem cX12_tree_met (l : Launch) (w : Wd) (hI : Ij 38 w) (N : Nat) (x1 : Int32) (Q : Int32 → St → Prop) (σ : St) (h : fX12_tree N x1 Q σ) : Met l yX12_tree (.code yX12_tree cX12_tree 10 (some .int) :: Uw) rmX12_tree (va_Pc [.ref (w.2.1 0), .int x1] (fun U => Rp 38 ev2 w σ U ∧ X2 U)) (va_Qi Q (Rp 38 ev2 w) (Aw 38 w)) 0 0 (Aw 38 w) :=
  q_met (by decide) (Nat.le_of_ble_eq_true rfl) hI (fun p e s m below meth c ls E hl hR => bX12_tree_e l w N Q E x1 hR hl h)
-- GlulxStringsModel.laid(II)I
abbrev rmX12_laid : Room := { frames := 2, cells := 0, slots := 0, locals := 50 }
def fX12_laid (N : Nat) (x1 : Int32) (x2 : Int32) (Q : Int32 → St → Prop) (σ : St) : Prop := fX12_in N x1.toInt64 0 (((σ.1 0 41) - 1).toInt64) (fun r_2 σ_1 => ((r_2 = 0 → Q (-2) σ_1) ∧ (¬ r_2 = 0 → fX12_in N x2.toInt64 0 2 (fun r_5 σ_4 => ((r_5 = 0 → Q (-2) σ_4) ∧ (¬ r_5 = 0 → ((x2 = 0 → vp_in x1 20 ∧ Q (σ_4.1 22 x1.toNatClampNeg) σ_4) ∧ (¬ x2 = 0 → ((x2 = 1 → vp_in x1 20 ∧ Q (σ_4.1 23 x1.toNatClampNeg) σ_4) ∧ (¬ x2 = 1 → vp_in x1 20 ∧ fX12_parted N x1 (σ_4.1 21 x1.toNatClampNeg) (fun r_11 σ_10 => Q r_11 σ_10) σ_4))))))) σ_1))) σ
set_option maxHeartbeats 4000000 in
set_option maxRecDepth 100000 in
theorem bX12_laid_e {p : Program} {e : Env} {s : State} {m : MethodId} {args : Array Value} {below : List Frame} {meth : Method} {c : Code} (l : Launch) (w : Wd) (N : Nat) (Q : Int32 → St → Prop) (E : Cx 38 w X2 cX12_laid 3 RX12 (.code yX12_laid cX12_laid 3 (some .int)) (some .int) p s m args meth c) (x1 : Int32) (x2 : Int32) {σ : St} {H : Heap} {locs : List Loc} {ls : Array Slot} (hR : Rr 38 ev2 w σ s H locs) (hl : lv_has ls 3 [(0, .ref (w.2.1 0)), (1, .int x1), (2, .int x2)]) (h : fX12_laid N x1 x2 Q σ) : W p l e rmX12_laid s m args below meth c H locs 0 0 (MQ below (va_Qi Q (Rp 38 ev2 w) (Aw 38 w)) args s 0 0 (Aw 38 w)) (F0 m 0 ls []) := by
  obtain ⟨hx, hb, hml, hown, hts, hr, hlk, hK, hI, hX⟩ := id E
  unfold fX12_laid at h
  refine lv_iload_n (pc := 0) hx hb dX12_laid_0 rfl (lv_at hl 1 rfl) ?_
  refine lv_i2l (pc := 1) (v := x1.toInt64) hx hb dX12_laid_1 rfl ?_
  refine lv_lconst (pc := 2) (v := 0) hx hb dX12_laid_2 (by decide) ?_
  refine lv_aload_n (pc := 3) hx hb dX12_laid_3 rfl (lv_at hl 0 rfl) ?_
  refine gf2_0_41 (pc := 4) hx hb hts hown hK hR mw331 dX12_laid_4 ?_
  refine lv_iconst (pc := 7) (v := 1) hx hb dX12_laid_7 (by decide) ?_
  refine lv_isub (pc := 8) hx hb dX12_laid_8 ?_
  refine lv_i2l (pc := 9) (v := ((σ.1 0 41) - 1).toInt64) hx hb dX12_laid_9 rfl ?_
  refine q_ci (pc := 10) hR (q_rS E (xp2 w) (As := [.long x1.toInt64, .long 0, .long (((σ.1 0 41) - 1).toInt64)]) (rest := []) (cX12_in_met l w hI N x1.toInt64 0 (((σ.1 0 41) - 1).toInt64) _ σ h) ckX12_in csX12_in mw258 ⟨rfl, rfl, Nat.le_of_ble_eq_true rfl, Nat.le_of_ble_eq_true rfl⟩ hR rfl hl.1 rfl (Nat.le_of_ble_eq_true rfl) dX12_laid_10) (fun r_2 σ_1 H locs h hR => ?_)
  refine lv_if_eq (pc := 13) (tgt := 28) hx hb dX12_laid_13 (by decide) (fun c_3 => ?_) (fun c_3 => ?_)
  · have h := h.1 c_3
    refine lv_bipush (pc := 28) (v := (-2)) hx hb dX12_laid_28 (by decide) ?_
    exact q_iret (pc := 30) E hR h dX12_laid_30
  · have h := h.2 c_3
    refine lv_iload_n (pc := 16) hx hb dX12_laid_16 rfl (lv_at hl 2 rfl) ?_
    refine lv_i2l (pc := 17) (v := x2.toInt64) hx hb dX12_laid_17 rfl ?_
    refine lv_lconst (pc := 18) (v := 0) hx hb dX12_laid_18 (by decide) ?_
    refine lv_ldc2 (pc := 19) (v := 2) hx hb hown (hts _ (Uin mw284)) dX12_laid_19 ?_
    refine q_ci (pc := 22) hR (q_rS E (xp2 w) (As := [.long x2.toInt64, .long 0, .long 2]) (rest := []) (cX12_in_met l w hI N x2.toInt64 0 2 _ σ_1 h) ckX12_in csX12_in mw258 ⟨rfl, rfl, Nat.le_of_ble_eq_true rfl, Nat.le_of_ble_eq_true rfl⟩ hR rfl hl.1 rfl (Nat.le_of_ble_eq_true rfl) dX12_laid_22) (fun r_5 σ_4 H locs h hR => ?_)
    refine lv_if_ne (pc := 25) (tgt := 31) hx hb dX12_laid_25 (by decide) (fun c_6 => ?_) (fun c_6 => ?_)
    · have h := h.2 c_6
      refine lv_iload_n (pc := 31) hx hb dX12_laid_31 rfl (lv_at hl 2 rfl) ?_
      refine lv_if_ne (pc := 32) (tgt := 44) hx hb dX12_laid_32 (by decide) (fun c_7 => ?_) (fun c_7 => ?_)
      · have h := h.2 c_7
        refine lv_iload_n (pc := 44) hx hb dX12_laid_44 rfl (lv_at hl 2 rfl) ?_
        refine lv_iconst (pc := 45) (v := 1) hx hb dX12_laid_45 (by decide) ?_
        refine lv_icmp_ne (pc := 46) (tgt := 58) hx hb dX12_laid_46 (by decide) (fun c_8 => ?_) (fun c_8 => ?_)
        · have h := h.2 c_8
          refine lv_aload_n (pc := 58) hx hb dX12_laid_58 rfl (lv_at hl 0 rfl) ?_
          refine lv_iload_n (pc := 59) hx hb dX12_laid_59 rfl (lv_at hl 1 rfl) ?_
          refine lv_aload_n (pc := 60) hx hb dX12_laid_60 rfl (lv_at hl 0 rfl) ?_
          refine gf2_0_43 (pc := 61) hx hb hts hown hK hR mw343 dX12_laid_61 ?_
          refine lv_iload_n (pc := 64) hx hb dX12_laid_64 rfl (lv_at hl 1 rfl) ?_
          have g_9 := h.1
          have h := h.2
          refine q_iald (pc := 65) hx hb hK hR (k := 21) lt2_21 (ar2_21 _ _ _) g_9 dX12_laid_65 ?_
          refine q_ci (pc := 66) hR (q_rV E (xp2 w) (As := [.int x1, .int (σ_4.1 21 x1.toNatClampNeg)]) (rest := []) (cX12_parted_met l w hI N x1 (σ_4.1 21 x1.toNatClampNeg) _ σ_4 h) ckX12_parted cvX12_parted mw342 ⟨rfl, rfl, Nat.le_of_ble_eq_true rfl, Nat.le_of_ble_eq_true rfl⟩ hR (rc2_0 w) rfl hl.1 rfl (Nat.le_of_ble_eq_true rfl) dX12_laid_66) (fun r_11 σ_10 H locs h hR => ?_)
          exact q_iret (pc := 69) E hR h dX12_laid_69
        · have h := h.1 c_8
          refine lv_aload_n (pc := 49) hx hb dX12_laid_49 rfl (lv_at hl 0 rfl) ?_
          refine gf2_0_45 (pc := 50) hx hb hts hown hK hR mw345 dX12_laid_50 ?_
          refine lv_iload_n (pc := 53) hx hb dX12_laid_53 rfl (lv_at hl 1 rfl) ?_
          have g_12 := h.1
          have h := h.2
          refine q_iald (pc := 54) hx hb hK hR (k := 23) lt2_23 (ar2_23 _ _ _) g_12 dX12_laid_54 ?_
          refine lv_goto (pc := 55) (tgt := 69) hx hb dX12_laid_55 (by decide) ?_
          exact q_iret (pc := 69) E hR h dX12_laid_69
      · have h := h.1 c_7
        refine lv_aload_n (pc := 35) hx hb dX12_laid_35 rfl (lv_at hl 0 rfl) ?_
        refine gf2_0_44 (pc := 36) hx hb hts hown hK hR mw344 dX12_laid_36 ?_
        refine lv_iload_n (pc := 39) hx hb dX12_laid_39 rfl (lv_at hl 1 rfl) ?_
        have g_13 := h.1
        have h := h.2
        refine q_iald (pc := 40) hx hb hK hR (k := 22) lt2_22 (ar2_22 _ _ _) g_13 dX12_laid_40 ?_
        refine lv_goto (pc := 41) (tgt := 69) hx hb dX12_laid_41 (by decide) ?_
        exact q_iret (pc := 69) E hR h dX12_laid_69
    · have h := h.1 c_6
      refine lv_bipush (pc := 28) (v := (-2)) hx hb dX12_laid_28 (by decide) ?_
      exact q_iret (pc := 30) E hR h dX12_laid_30
theorem cX12_laid_met (l : Launch) (w : Wd) (hI : Ij 38 w) (N : Nat) (x1 : Int32) (x2 : Int32) (Q : Int32 → St → Prop) (σ : St) (h : fX12_laid N x1 x2 Q σ) : Met l yX12_laid (.code yX12_laid cX12_laid 3 (some .int) :: Uw) rmX12_laid (va_Pc [.ref (w.2.1 0), .int x1, .int x2] (fun U => Rp 38 ev2 w σ U ∧ X2 U)) (va_Qi Q (Rp 38 ev2 w) (Aw 38 w)) 0 0 (Aw 38 w) :=
  q_met (by decide) (Nat.le_of_ble_eq_true rfl) hI (fun p e s m below meth c ls E hl hR => bX12_laid_e l w N Q E x1 x2 hR hl h)
-- GlulxStringsModel.bits(I)I
abbrev rmX12_bits : Room := { frames := 1, cells := 0, slots := 0, locals := 25 }
def fX12_bits (N : Nat) (x1 : Int32) (Q : Int32 → St → Prop) (σ : St) : Prop := ((x1 = (-1) → Q (σ.1 0 46) σ) ∧ (¬ x1 = (-1) → fX12_in N x1.toInt64 0 (((σ.1 0 36) - 1).toInt64) (fun r_3 σ_2 => ((r_3 = 0 → Q (-2) σ_2) ∧ (¬ r_3 = 0 → vp_in x1 60 ∧ Q (σ_2.1 19 x1.toNatClampNeg) σ_2))) σ))
set_option maxHeartbeats 4000000 in
set_option maxRecDepth 100000 in
theorem bX12_bits_e {p : Program} {e : Env} {s : State} {m : MethodId} {args : Array Value} {below : List Frame} {meth : Method} {c : Code} (l : Launch) (w : Wd) (N : Nat) (Q : Int32 → St → Prop) (E : Cx 38 w X2 cX12_bits 2 RX12 (.code yX12_bits cX12_bits 2 (some .int)) (some .int) p s m args meth c) (x1 : Int32) {σ : St} {H : Heap} {locs : List Loc} {ls : Array Slot} (hR : Rr 38 ev2 w σ s H locs) (hl : lv_has ls 2 [(0, .ref (w.2.1 0)), (1, .int x1)]) (h : fX12_bits N x1 Q σ) : W p l e rmX12_bits s m args below meth c H locs 0 0 (MQ below (va_Qi Q (Rp 38 ev2 w) (Aw 38 w)) args s 0 0 (Aw 38 w)) (F0 m 0 ls []) := by
  obtain ⟨hx, hb, hml, hown, hts, hr, hlk, hK, hI, hX⟩ := id E
  unfold fX12_bits at h
  refine lv_iload_n (pc := 0) hx hb dX12_bits_0 rfl (lv_at hl 1 rfl) ?_
  refine lv_iconst (pc := 1) (v := (-1)) hx hb dX12_bits_1 (by decide) ?_
  refine lv_icmp_ne (pc := 2) (tgt := 10) hx hb dX12_bits_2 (by decide) (fun c_1 => ?_) (fun c_1 => ?_)
  · have h := h.2 c_1
    refine lv_iload_n (pc := 10) hx hb dX12_bits_10 rfl (lv_at hl 1 rfl) ?_
    refine lv_i2l (pc := 11) (v := x1.toInt64) hx hb dX12_bits_11 rfl ?_
    refine lv_lconst (pc := 12) (v := 0) hx hb dX12_bits_12 (by decide) ?_
    refine lv_aload_n (pc := 13) hx hb dX12_bits_13 rfl (lv_at hl 0 rfl) ?_
    refine gf2_0_36 (pc := 14) hx hb hts hown hK hR mw330 dX12_bits_14 ?_
    refine lv_iconst (pc := 17) (v := 1) hx hb dX12_bits_17 (by decide) ?_
    refine lv_isub (pc := 18) hx hb dX12_bits_18 ?_
    refine lv_i2l (pc := 19) (v := ((σ.1 0 36) - 1).toInt64) hx hb dX12_bits_19 rfl ?_
    refine q_ci (pc := 20) hR (q_rS E (xp2 w) (As := [.long x1.toInt64, .long 0, .long (((σ.1 0 36) - 1).toInt64)]) (rest := []) (cX12_in_met l w hI N x1.toInt64 0 (((σ.1 0 36) - 1).toInt64) _ σ h) ckX12_in csX12_in mw258 ⟨rfl, rfl, Nat.le_of_ble_eq_true rfl, Nat.le_of_ble_eq_true rfl⟩ hR rfl hl.1 rfl (Nat.le_of_ble_eq_true rfl) dX12_bits_20) (fun r_3 σ_2 H locs h hR => ?_)
    refine lv_if_eq (pc := 23) (tgt := 35) hx hb dX12_bits_23 (by decide) (fun c_4 => ?_) (fun c_4 => ?_)
    · have h := h.1 c_4
      refine lv_bipush (pc := 35) (v := (-2)) hx hb dX12_bits_35 (by decide) ?_
      exact q_iret (pc := 37) E hR h dX12_bits_37
    · have h := h.2 c_4
      refine lv_aload_n (pc := 26) hx hb dX12_bits_26 rfl (lv_at hl 0 rfl) ?_
      refine gf2_0_40 (pc := 27) hx hb hts hown hK hR mw334 dX12_bits_27 ?_
      refine lv_iload_n (pc := 30) hx hb dX12_bits_30 rfl (lv_at hl 1 rfl) ?_
      have g_5 := h.1
      have h := h.2
      refine q_iald (pc := 31) hx hb hK hR (k := 19) lt2_19 (ar2_19 _ _ _) g_5 dX12_bits_31 ?_
      refine lv_goto (pc := 32) (tgt := 37) hx hb dX12_bits_32 (by decide) ?_
      exact q_iret (pc := 37) E hR h dX12_bits_37
  · have h := h.1 c_1
    refine lv_aload_n (pc := 5) hx hb dX12_bits_5 rfl (lv_at hl 0 rfl) ?_
    refine gf2_0_46 (pc := 6) hx hb hts hown hK hR mw367 dX12_bits_6 ?_
    exact q_iret (pc := 9) E hR h dX12_bits_9
theorem cX12_bits_met (l : Launch) (w : Wd) (hI : Ij 38 w) (N : Nat) (x1 : Int32) (Q : Int32 → St → Prop) (σ : St) (h : fX12_bits N x1 Q σ) : Met l yX12_bits (.code yX12_bits cX12_bits 2 (some .int) :: Uw) rmX12_bits (va_Pc [.ref (w.2.1 0), .int x1] (fun U => Rp 38 ev2 w σ U ∧ X2 U)) (va_Qi Q (Rp 38 ev2 w) (Aw 38 w)) 0 0 (Aw 38 w) :=
  q_met (by decide) (Nat.le_of_ble_eq_true rfl) hI (fun p e s m below meth c ls E hl hR => bX12_bits_e l w N Q E x1 hR hl h)
-- GlulxStringsModel.forget()I
abbrev rmX12_forget : Room := { frames := 0, cells := 0, slots := 0, locals := 0 }
def fX12_forget (N : Nat) (Q : Int32 → St → Prop) (σ : St) : Prop := ∀ v_1 : Int32, v_1 = σ.1 0 36 → ∀ σ_2 : St, σ_2 = u1 σ 0 36 0 → ∀ σ_3 : St, σ_3 = u1 σ_2 0 41 0 → Q v_1 σ_3
set_option maxHeartbeats 4000000 in
set_option maxRecDepth 100000 in
theorem bX12_forget_e {p : Program} {e : Env} {s : State} {m : MethodId} {args : Array Value} {below : List Frame} {meth : Method} {c : Code} (l : Launch) (w : Wd) (N : Nat) (Q : Int32 → St → Prop) (E : Cx 38 w X2 cX12_forget 2 RX12 (.code yX12_forget cX12_forget 2 (some .int)) (some .int) p s m args meth c) {σ : St} {H : Heap} {locs : List Loc} {ls : Array Slot} (hR : Rr 38 ev2 w σ s H locs) (hl : lv_has ls 2 [(0, .ref (w.2.1 0))]) (h : fX12_forget N Q σ) : W p l e rmX12_forget s m args below meth c H locs 0 0 (MQ below (va_Qi Q (Rp 38 ev2 w) (Aw 38 w)) args s 0 0 (Aw 38 w)) (F0 m 0 ls []) := by
  obtain ⟨hx, hb, hml, hown, hts, hr, hlk, hK, hI, hX⟩ := id E
  unfold fX12_forget at h
  refine lv_aload_n (pc := 0) hx hb dX12_forget_0 rfl (lv_at hl 0 rfl) ?_
  refine gf2_0_36 (pc := 1) hx hb hts hown hK hR mw330 dX12_forget_1 ?_
  refine lv_topi (pc := 4) (fun v_1 ev_1 => ?_)
  have h := h v_1 ev_1
  refine lv_istore_n (pc := 4) (lv' := [(1, .int v_1), (0, .ref (w.2.1 0))]) hx hb dX12_forget_4 rfl hl (by decide) rfl (fun ls hl => ?_)
  refine lv_aload_n (pc := 5) hx hb dX12_forget_5 rfl (lv_at hl 1 rfl) ?_
  refine lv_iconst (pc := 6) (v := 0) hx hb dX12_forget_6 (by decide) ?_
  refine pf2_0_36 (pc := 7) hx hb hts hown hK hI hR mw330 dX12_forget_7 (fun H locs σ_2 eσ_2 hR => ?_)
  have h := h σ_2 eσ_2
  refine lv_aload_n (pc := 10) hx hb dX12_forget_10 rfl (lv_at hl 1 rfl) ?_
  refine lv_iconst (pc := 11) (v := 0) hx hb dX12_forget_11 (by decide) ?_
  refine pf2_0_41 (pc := 12) hx hb hts hown hK hI hR mw331 dX12_forget_12 (fun H locs σ_3 eσ_3 hR => ?_)
  have h := h σ_3 eσ_3
  refine lv_iload_n (pc := 15) hx hb dX12_forget_15 rfl (lv_at hl 0 rfl) ?_
  exact q_iret (pc := 16) E hR h dX12_forget_16
theorem cX12_forget_met (l : Launch) (w : Wd) (hI : Ij 38 w) (N : Nat) (Q : Int32 → St → Prop) (σ : St) (h : fX12_forget N Q σ) : Met l yX12_forget (.code yX12_forget cX12_forget 2 (some .int) :: Uw) rmX12_forget (va_Pc [.ref (w.2.1 0)] (fun U => Rp 38 ev2 w σ U ∧ X2 U)) (va_Qi Q (Rp 38 ev2 w) (Aw 38 w)) 0 0 (Aw 38 w) :=
  q_met (by decide) (Nat.le_of_ble_eq_true rfl) hI (fun p e s m below meth c ls E hl hR => bX12_forget_e l w N Q E hR hl h)
