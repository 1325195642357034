-- GlulxStrings$Machine.nextByte()I
abbrev rmX2_nextByte : Room := { frames := 2, cells := 0, slots := 0, locals := 42 }
def fX2_nextByte (N : Nat) (Q : Int32 → St → Prop) (σ : St) : Prop := fX2_readByte N (σ.1 3 12) (fun r_2 σ_1 => ∀ v_3 : Int32, v_3 = (σ_1.1 3 12) + 1 → ∀ σ_4 : St, σ_4 = u1 σ_1 3 12 v_3 → Q r_2 σ_4) σ
set_option maxHeartbeats 4000000 in
set_option maxRecDepth 100000 in
theorem bX2_nextByte_e {p : Program} {e : Env} {s : State} {m : MethodId} {args : Array Value} {below : List Frame} {meth : Method} {c : Code} (l : Launch) (w : Wd) (N : Nat) (Q : Int32 → St → Prop) (E : Cx 223 w (X1 w) cX2_nextByte 2 RX2 (.code yX2_nextByte cX2_nextByte 2 (some .int)) (some .int) p s m args meth c) {σ : St} {H : Heap} {locs : List Loc} {ls : Array Slot} (hR : Rr 223 ev1 w σ s H locs) (hl : lv_has ls 2 [(0, .ref (w.2.1 3))]) (h : fX2_nextByte N Q σ) : W p l e rmX2_nextByte s m args below meth c H locs 0 0 (MQ below (va_Qi Q (Rp 223 ev1 w) (Aw 223 w)) args s 0 0 (Aw 223 w)) (F0 m 0 ls []) := by
  obtain ⟨hx, hb, hml, hown, hts, hr, hlk, hK, hI, hX⟩ := id E
  unfold fX2_nextByte at h
  refine lv_aload_n (pc := 0) hx hb dX2_nextByte_0 rfl (lv_at hl 0 rfl) ?_
  refine lv_aload_n (pc := 1) hx hb dX2_nextByte_1 rfl (lv_at hl 0 rfl) ?_
  refine gf1_3_12 (pc := 2) hx hb hts hown hK hR mw62 dX2_nextByte_2 ?_
  refine q_ci (pc := 5) hR (q_rV E (xp1 w) (As := [.int (σ.1 3 12)]) (rest := []) (cX2_readByte_met l w hI N (σ.1 3 12) _ σ h) ckX2_readByte cvX2_readByte mw60 ⟨rfl, rfl, Nat.le_of_ble_eq_true rfl, Nat.le_of_ble_eq_true rfl⟩ hR (rc1_3 w) rfl hl.1 rfl (Nat.le_of_ble_eq_true rfl) dX2_nextByte_5) (fun r_2 σ_1 H locs h hR => ?_)
  refine lv_istore_n (pc := 8) (lv' := [(1, .int r_2), (0, .ref (w.2.1 3))]) hx hb dX2_nextByte_8 rfl hl (by decide) rfl (fun ls hl => ?_)
  refine lv_aload_n (pc := 9) hx hb dX2_nextByte_9 rfl (lv_at hl 1 rfl) ?_
  refine lv_dup (pc := 10) hx hb dX2_nextByte_10 rfl ?_
  refine gf1_3_12 (pc := 11) hx hb hts hown hK hR mw62 dX2_nextByte_11 ?_
  refine lv_iconst (pc := 14) (v := 1) hx hb dX2_nextByte_14 (by decide) ?_
  refine lv_iadd (pc := 15) hx hb dX2_nextByte_15 ?_
  refine lv_topi (pc := 16) (fun v_3 ev_3 => ?_)
  have h := h v_3 ev_3
  refine pf1_3_12 (pc := 16) hx hb hts hown hK hI hR mw62 dX2_nextByte_16 (fun H locs σ_4 eσ_4 hR => ?_)
  have h := h σ_4 eσ_4
  refine lv_iload_n (pc := 19) hx hb dX2_nextByte_19 rfl (lv_at hl 0 rfl) ?_
  exact q_iret (pc := 20) E hR h dX2_nextByte_20
theorem cX2_nextByte_met (l : Launch) (w : Wd) (hI : Ij 223 w) (N : Nat) (Q : Int32 → St → Prop) (σ : St) (h : fX2_nextByte N Q σ) : Met l yX2_nextByte (.code yX2_nextByte cX2_nextByte 2 (some .int) :: Uw) rmX2_nextByte (va_Pc [.ref (w.2.1 3)] (fun U => Rp 223 ev1 w σ U ∧ (X1 w) U)) (va_Qi Q (Rp 223 ev1 w) (Aw 223 w)) 0 0 (Aw 223 w) :=
  q_met (by decide) (Nat.le_of_ble_eq_true rfl) hI (fun p e s m below meth c ls E hl hR => bX2_nextByte_e l w N Q E hR hl h)
-- GlulxStrings$Memory.hasFour(I)Z
abbrev rmX3_hasFour : Room := { frames := 0, cells := 0, slots := 0, locals := 0 }
def fX3_hasFour (N : Nat) (x1 : Int32) (Q : Int32 → St → Prop) (σ : St) : Prop := ((x1 < 0 → Q 0 σ) ∧ (¬ x1 < 0 → ((4092 < x1 → Q 0 σ) ∧ (¬ 4092 < x1 → Q 1 σ))))
set_option maxHeartbeats 4000000 in
set_option maxRecDepth 100000 in
theorem bX3_hasFour_e {p : Program} {e : Env} {s : State} {m : MethodId} {args : Array Value} {below : List Frame} {meth : Method} {c : Code} (l : Launch) (w : Wd) (N : Nat) (Q : Int32 → St → Prop) (E : Cx 223 w (X1 w) cX3_hasFour 2 RX3 (.code yX3_hasFour cX3_hasFour 2 (some .boolean)) (some .boolean) p s m args meth c) (x1 : Int32) {σ : St} {H : Heap} {locs : List Loc} {ls : Array Slot} (hR : Rr 223 ev1 w σ s H locs) (hl : lv_has ls 2 [(0, .ref (w.2.1 1)), (1, .int x1)]) (h : fX3_hasFour N x1 Q σ) : W p l e rmX3_hasFour s m args below meth c H locs 0 0 (MQ below (va_Qi Q (Rp 223 ev1 w) (Aw 223 w)) args s 0 0 (Aw 223 w)) (F0 m 0 ls []) := by
  obtain ⟨hx, hb, hml, hown, hts, hr, hlk, hK, hI, hX⟩ := id E
  unfold fX3_hasFour at h
  refine lv_iload_n (pc := 0) hx hb dX3_hasFour_0 rfl (lv_at hl 1 rfl) ?_
  refine lv_if_lt (pc := 1) (tgt := 15) hx hb dX3_hasFour_1 (by decide) (fun c_1 => ?_) (fun c_1 => ?_)
  · have h := h.1 c_1
    refine lv_iconst (pc := 15) (v := 0) hx hb dX3_hasFour_15 (by decide) ?_
    exact q_zret (pc := 16) E hR h rfl dX3_hasFour_16
  · have h := h.2 c_1
    refine lv_iload_n (pc := 4) hx hb dX3_hasFour_4 rfl (lv_at hl 1 rfl) ?_
    refine lv_sipush (pc := 5) (v := 4092) hx hb dX3_hasFour_5 (by decide) ?_
    refine lv_icmp_gt (pc := 8) (tgt := 15) hx hb dX3_hasFour_8 (by decide) (fun c_2 => ?_) (fun c_2 => ?_)
    · have h := h.1 c_2
      refine lv_iconst (pc := 15) (v := 0) hx hb dX3_hasFour_15 (by decide) ?_
      exact q_zret (pc := 16) E hR h rfl dX3_hasFour_16
    · have h := h.2 c_2
      refine lv_iconst (pc := 11) (v := 1) hx hb dX3_hasFour_11 (by decide) ?_
      refine lv_goto (pc := 12) (tgt := 16) hx hb dX3_hasFour_12 (by decide) ?_
      exact q_zret (pc := 16) E hR h rfl dX3_hasFour_16
theorem cX3_hasFour_met (l : Launch) (w : Wd) (hI : Ij 223 w) (N : Nat) (x1 : Int32) (Q : Int32 → St → Prop) (σ : St) (h : fX3_hasFour N x1 Q σ) : Met l yX3_hasFour (.code yX3_hasFour cX3_hasFour 2 (some .boolean) :: Uw) rmX3_hasFour (va_Pc [.ref (w.2.1 1), .int x1] (fun U => Rp 223 ev1 w σ U ∧ (X1 w) U)) (va_Qi Q (Rp 223 ev1 w) (Aw 223 w)) 0 0 (Aw 223 w) :=
  q_met (by decide) (Nat.le_of_ble_eq_true rfl) hI (fun p e s m below meth c ls E hl hR => bX3_hasFour_e l w N Q E x1 hR hl h)
-- GlulxStrings$Machine.readFour(I)I
abbrev rmX2_readFour : Room := { frames := 1, cells := 0, slots := 0, locals := 21 }
def fX2_readFour (N : Nat) (x1 : Int32) (Q : Int32 → St → Prop) (σ : St) : Prop := fX3_hasFour N x1 (fun r_2 σ_1 => ((r_2 = 0 → fX2_fail N 1 (fun σ_6 => Q 0 σ_6) σ_1) ∧ (¬ r_2 = 0 → fX3_fourOf N x1 (fun r_5 σ_4 => Q r_5 σ_4) σ_1))) σ
set_option maxHeartbeats 4000000 in
set_option maxRecDepth 100000 in
theorem bX2_readFour_e {p : Program} {e : Env} {s : State} {m : MethodId} {args : Array Value} {below : List Frame} {meth : Method} {c : Code} (l : Launch) (w : Wd) (N : Nat) (Q : Int32 → St → Prop) (E : Cx 223 w (X1 w) cX2_readFour 2 RX2 (.code yX2_readFour cX2_readFour 2 (some .int)) (some .int) p s m args meth c) (x1 : Int32) {σ : St} {H : Heap} {locs : List Loc} {ls : Array Slot} (hR : Rr 223 ev1 w σ s H locs) (hl : lv_has ls 2 [(0, .ref (w.2.1 3)), (1, .int x1)]) (h : fX2_readFour N x1 Q σ) : W p l e rmX2_readFour s m args below meth c H locs 0 0 (MQ below (va_Qi Q (Rp 223 ev1 w) (Aw 223 w)) args s 0 0 (Aw 223 w)) (F0 m 0 ls []) := by
  obtain ⟨hx, hb, hml, hown, hts, hr, hlk, hK, hI, hX⟩ := id E
  unfold fX2_readFour at h
  refine lv_aload_n (pc := 0) hx hb dX2_readFour_0 rfl (lv_at hl 0 rfl) ?_
  refine gf1_3_0 (pc := 1) hx hb hts hown hK hR mw43 dX2_readFour_1 ?_
  refine lv_iload_n (pc := 4) hx hb dX2_readFour_4 rfl (lv_at hl 1 rfl) ?_
  refine q_ci (pc := 5) hR (q_rV E (xp1 w) (As := [.int x1]) (rest := []) (cX3_hasFour_met l w hI N x1 _ σ h) ckX3_hasFour cvX3_hasFour mw63 ⟨rfl, rfl, Nat.le_of_ble_eq_true rfl, Nat.le_of_ble_eq_true rfl⟩ hR (rc1_1 w) rfl hl.1 rfl (Nat.le_of_ble_eq_true rfl) dX2_readFour_5) (fun r_2 σ_1 H locs h hR => ?_)
  refine lv_if_ne (pc := 8) (tgt := 18) hx hb dX2_readFour_8 (by decide) (fun c_3 => ?_) (fun c_3 => ?_)
  · have h := h.2 c_3
    refine lv_aload_n (pc := 18) hx hb dX2_readFour_18 rfl (lv_at hl 0 rfl) ?_
    refine gf1_3_0 (pc := 19) hx hb hts hown hK hR mw43 dX2_readFour_19 ?_
    refine lv_iload_n (pc := 22) hx hb dX2_readFour_22 rfl (lv_at hl 1 rfl) ?_
    refine q_ci (pc := 23) hR (q_rV E (xp1 w) (As := [.int x1]) (rest := []) (cX3_fourOf_met l w hI N x1 _ σ_1 h) ckX3_fourOf cvX3_fourOf mw64 ⟨rfl, rfl, Nat.le_of_ble_eq_true rfl, Nat.le_of_ble_eq_true rfl⟩ hR (rc1_1 w) rfl hl.1 rfl (Nat.le_of_ble_eq_true rfl) dX2_readFour_23) (fun r_5 σ_4 H locs h hR => ?_)
    exact q_iret (pc := 26) E hR h dX2_readFour_26
  · have h := h.1 c_3
    refine lv_aload_n (pc := 11) hx hb dX2_readFour_11 rfl (lv_at hl 0 rfl) ?_
    refine lv_iconst (pc := 12) (v := 1) hx hb dX2_readFour_12 (by decide) ?_
    refine q_cv (pc := 13) hR (q_rV E (xp1 w) (As := [.int 1]) (rest := []) (cX2_fail_met l w hI N 1 _ σ_1 h) ckX2_fail cvX2_fail mw46 ⟨rfl, rfl, Nat.le_of_ble_eq_true rfl, Nat.le_of_ble_eq_true rfl⟩ hR (rc1_3 w) rfl hl.1 rfl (Nat.le_of_ble_eq_true rfl) dX2_readFour_13) (fun σ_6 H locs h hR => ?_)
    refine lv_iconst (pc := 16) (v := 0) hx hb dX2_readFour_16 (by decide) ?_
    exact q_iret (pc := 17) E hR h dX2_readFour_17
theorem cX2_readFour_met (l : Launch) (w : Wd) (hI : Ij 223 w) (N : Nat) (x1 : Int32) (Q : Int32 → St → Prop) (σ : St) (h : fX2_readFour N x1 Q σ) : Met l yX2_readFour (.code yX2_readFour cX2_readFour 2 (some .int) :: Uw) rmX2_readFour (va_Pc [.ref (w.2.1 3), .int x1] (fun U => Rp 223 ev1 w σ U ∧ (X1 w) U)) (va_Qi Q (Rp 223 ev1 w) (Aw 223 w)) 0 0 (Aw 223 w) :=
  q_met (by decide) (Nat.le_of_ble_eq_true rfl) hI (fun p e s m below meth c ls E hl hR => bX2_readFour_e l w N Q E x1 hR hl h)
-- GlulxStrings$Machine.nextFour()I
abbrev rmX2_nextFour : Room := { frames := 2, cells := 0, slots := 0, locals := 42 }
def fX2_nextFour (N : Nat) (Q : Int32 → St → Prop) (σ : St) : Prop := fX2_readFour N (σ.1 3 12) (fun r_2 σ_1 => ∀ v_3 : Int32, v_3 = (σ_1.1 3 12) + 4 → ∀ σ_4 : St, σ_4 = u1 σ_1 3 12 v_3 → Q r_2 σ_4) σ
set_option maxHeartbeats 4000000 in
set_option maxRecDepth 100000 in
theorem bX2_nextFour_e {p : Program} {e : Env} {s : State} {m : MethodId} {args : Array Value} {below : List Frame} {meth : Method} {c : Code} (l : Launch) (w : Wd) (N : Nat) (Q : Int32 → St → Prop) (E : Cx 223 w (X1 w) cX2_nextFour 2 RX2 (.code yX2_nextFour cX2_nextFour 2 (some .int)) (some .int) p s m args meth c) {σ : St} {H : Heap} {locs : List Loc} {ls : Array Slot} (hR : Rr 223 ev1 w σ s H locs) (hl : lv_has ls 2 [(0, .ref (w.2.1 3))]) (h : fX2_nextFour N Q σ) : W p l e rmX2_nextFour s m args below meth c H locs 0 0 (MQ below (va_Qi Q (Rp 223 ev1 w) (Aw 223 w)) args s 0 0 (Aw 223 w)) (F0 m 0 ls []) := by
  obtain ⟨hx, hb, hml, hown, hts, hr, hlk, hK, hI, hX⟩ := id E
  unfold fX2_nextFour at h
  refine lv_aload_n (pc := 0) hx hb dX2_nextFour_0 rfl (lv_at hl 0 rfl) ?_
  refine lv_aload_n (pc := 1) hx hb dX2_nextFour_1 rfl (lv_at hl 0 rfl) ?_
  refine gf1_3_12 (pc := 2) hx hb hts hown hK hR mw62 dX2_nextFour_2 ?_
  refine q_ci (pc := 5) hR (q_rV E (xp1 w) (As := [.int (σ.1 3 12)]) (rest := []) (cX2_readFour_met l w hI N (σ.1 3 12) _ σ h) ckX2_readFour cvX2_readFour mw65 ⟨rfl, rfl, Nat.le_of_ble_eq_true rfl, Nat.le_of_ble_eq_true rfl⟩ hR (rc1_3 w) rfl hl.1 rfl (Nat.le_of_ble_eq_true rfl) dX2_nextFour_5) (fun r_2 σ_1 H locs h hR => ?_)
  refine lv_istore_n (pc := 8) (lv' := [(1, .int r_2), (0, .ref (w.2.1 3))]) hx hb dX2_nextFour_8 rfl hl (by decide) rfl (fun ls hl => ?_)
  refine lv_aload_n (pc := 9) hx hb dX2_nextFour_9 rfl (lv_at hl 1 rfl) ?_
  refine lv_dup (pc := 10) hx hb dX2_nextFour_10 rfl ?_
  refine gf1_3_12 (pc := 11) hx hb hts hown hK hR mw62 dX2_nextFour_11 ?_
  refine lv_iconst (pc := 14) (v := 4) hx hb dX2_nextFour_14 (by decide) ?_
  refine lv_iadd (pc := 15) hx hb dX2_nextFour_15 ?_
  refine lv_topi (pc := 16) (fun v_3 ev_3 => ?_)
  have h := h v_3 ev_3
  refine pf1_3_12 (pc := 16) hx hb hts hown hK hI hR mw62 dX2_nextFour_16 (fun H locs σ_4 eσ_4 hR => ?_)
  have h := h σ_4 eσ_4
  refine lv_iload_n (pc := 19) hx hb dX2_nextFour_19 rfl (lv_at hl 0 rfl) ?_
  exact q_iret (pc := 20) E hR h dX2_nextFour_20
theorem cX2_nextFour_met (l : Launch) (w : Wd) (hI : Ij 223 w) (N : Nat) (Q : Int32 → St → Prop) (σ : St) (h : fX2_nextFour N Q σ) : Met l yX2_nextFour (.code yX2_nextFour cX2_nextFour 2 (some .int) :: Uw) rmX2_nextFour (va_Pc [.ref (w.2.1 3)] (fun U => Rp 223 ev1 w σ U ∧ (X1 w) U)) (va_Qi Q (Rp 223 ev1 w) (Aw 223 w)) 0 0 (Aw 223 w) :=
  q_met (by decide) (Nat.le_of_ble_eq_true rfl) hI (fun p e s m below meth c ls E hl hR => bX2_nextFour_e l w N Q E hR hl h)
-- GlulxStrings$Job.hasLocal(I)Z
abbrev rmX1_hasLocal : Room := { frames := 0, cells := 0, slots := 0, locals := 0 }
def fX1_hasLocal (N : Nat) (k0 : Nat) (x1 : Int32) (Q : Int32 → St → Prop) (σ : St) : Prop := ((x1 < 0 → Q 0 σ) ∧ (¬ x1 < 0 → (((σ.1 k0 4) ≤ x1 → Q 0 σ) ∧ (¬ (σ.1 k0 4) ≤ x1 → ((8 ≤ x1 → Q 0 σ) ∧ (¬ 8 ≤ x1 → Q 1 σ))))))
set_option maxHeartbeats 4000000 in
set_option maxRecDepth 100000 in
theorem bX1_hasLocal_e {p : Program} {e : Env} {s : State} {m : MethodId} {args : Array Value} {below : List Frame} {meth : Method} {c : Code} (l : Launch) (w : Wd) (N : Nat) (Q : Int32 → St → Prop) (E : Cx 223 w (X1 w) cX1_hasLocal 2 RX1 (.code yX1_hasLocal cX1_hasLocal 2 (some .boolean)) (some .boolean) p s m args meth c) (k0 : Nat) (x1 : Int32) (hk0 : jobK k0) {σ : St} {H : Heap} {locs : List Loc} {ls : Array Slot} (hR : Rr 223 ev1 w σ s H locs) (hl : lv_has ls 2 [(0, .ref (w.2.1 k0)), (1, .int x1)]) (h : fX1_hasLocal N k0 x1 Q σ) : W p l e rmX1_hasLocal s m args below meth c H locs 0 0 (MQ below (va_Qi Q (Rp 223 ev1 w) (Aw 223 w)) args s 0 0 (Aw 223 w)) (F0 m 0 ls []) := by
  obtain ⟨hx, hb, hml, hown, hts, hr, hlk, hK, hI, hX⟩ := id E
  unfold fX1_hasLocal at h
  refine lv_iload_n (pc := 0) hx hb dX1_hasLocal_0 rfl (lv_at hl 1 rfl) ?_
  refine lv_if_lt (pc := 1) (tgt := 22) hx hb dX1_hasLocal_1 (by decide) (fun c_1 => ?_) (fun c_1 => ?_)
  · have h := h.1 c_1
    refine lv_iconst (pc := 22) (v := 0) hx hb dX1_hasLocal_22 (by decide) ?_
    exact q_zret (pc := 23) E hR h rfl dX1_hasLocal_23
  · have h := h.2 c_1
    refine lv_iload_n (pc := 4) hx hb dX1_hasLocal_4 rfl (lv_at hl 1 rfl) ?_
    refine lv_aload_n (pc := 5) hx hb dX1_hasLocal_5 rfl (lv_at hl 0 rfl) ?_
    refine gfj_4 (pc := 6) hk0 hx hb hts hown hK hR mw50 dX1_hasLocal_6 ?_
    refine lv_icmp_ge (pc := 9) (tgt := 22) hx hb dX1_hasLocal_9 (by decide) (fun c_2 => ?_) (fun c_2 => ?_)
    · have h := h.1 c_2
      refine lv_iconst (pc := 22) (v := 0) hx hb dX1_hasLocal_22 (by decide) ?_
      exact q_zret (pc := 23) E hR h rfl dX1_hasLocal_23
    · have h := h.2 c_2
      refine lv_iload_n (pc := 12) hx hb dX1_hasLocal_12 rfl (lv_at hl 1 rfl) ?_
      refine lv_bipush (pc := 13) (v := 8) hx hb dX1_hasLocal_13 (by decide) ?_
      refine lv_icmp_ge (pc := 15) (tgt := 22) hx hb dX1_hasLocal_15 (by decide) (fun c_3 => ?_) (fun c_3 => ?_)
      · have h := h.1 c_3
        refine lv_iconst (pc := 22) (v := 0) hx hb dX1_hasLocal_22 (by decide) ?_
        exact q_zret (pc := 23) E hR h rfl dX1_hasLocal_23
      · have h := h.2 c_3
        refine lv_iconst (pc := 18) (v := 1) hx hb dX1_hasLocal_18 (by decide) ?_
        refine lv_goto (pc := 19) (tgt := 23) hx hb dX1_hasLocal_19 (by decide) ?_
        exact q_zret (pc := 23) E hR h rfl dX1_hasLocal_23
theorem cX1_hasLocal_met (l : Launch) (w : Wd) (hI : Ij 223 w) (N : Nat) (k0 : Nat) (x1 : Int32) (hk0 : jobK k0) (Q : Int32 → St → Prop) (σ : St) (h : fX1_hasLocal N k0 x1 Q σ) : Met l yX1_hasLocal (.code yX1_hasLocal cX1_hasLocal 2 (some .boolean) :: Uw) rmX1_hasLocal (va_Pc [.ref (w.2.1 k0), .int x1] (fun U => Rp 223 ev1 w σ U ∧ (X1 w) U)) (va_Qi Q (Rp 223 ev1 w) (Aw 223 w)) 0 0 (Aw 223 w) :=
  q_met (by decide) (Nat.le_of_ble_eq_true rfl) hI (fun p e s m below meth c ls E hl hR => bX1_hasLocal_e l w N Q E k0 x1 hk0 hR hl h)
-- GlulxStrings$Machine.localOf(LGlulxStrings$Job;I)I
abbrev rmX2_localOf : Room := { frames := 1, cells := 0, slots := 0, locals := 21 }
def fX2_localOf (N : Nat) (k1 : Nat) (x2 : Int32) (Q : Int32 → St → Prop) (σ : St) : Prop := fX1_hasLocal N k1 x2 (fun r_2 σ_1 => ((r_2 = 0 → fX2_fail N 6 (fun σ_5 => Q 0 σ_5) σ_1) ∧ (¬ r_2 = 0 → vp_in x2 8 ∧ Q (σ_1.1 (k1 + 40) x2.toNatClampNeg) σ_1))) σ
set_option maxHeartbeats 4000000 in
set_option maxRecDepth 100000 in
theorem bX2_localOf_e {p : Program} {e : Env} {s : State} {m : MethodId} {args : Array Value} {below : List Frame} {meth : Method} {c : Code} (l : Launch) (w : Wd) (N : Nat) (Q : Int32 → St → Prop) (E : Cx 223 w (X1 w) cX2_localOf 3 RX2 (.code yX2_localOf cX2_localOf 3 (some .int)) (some .int) p s m args meth c) (k1 : Nat) (x2 : Int32) (hk1 : jobK k1) {σ : St} {H : Heap} {locs : List Loc} {ls : Array Slot} (hR : Rr 223 ev1 w σ s H locs) (hl : lv_has ls 3 [(0, .ref (w.2.1 3)), (1, .ref (w.2.1 k1)), (2, .int x2)]) (h : fX2_localOf N k1 x2 Q σ) : W p l e rmX2_localOf s m args below meth c H locs 0 0 (MQ below (va_Qi Q (Rp 223 ev1 w) (Aw 223 w)) args s 0 0 (Aw 223 w)) (F0 m 0 ls []) := by
  obtain ⟨hx, hb, hml, hown, hts, hr, hlk, hK, hI, hX⟩ := id E
  unfold fX2_localOf at h
  refine lv_aload_n (pc := 0) hx hb dX2_localOf_0 rfl (lv_at hl 1 rfl) ?_
  refine lv_iload_n (pc := 1) hx hb dX2_localOf_1 rfl (lv_at hl 2 rfl) ?_
  refine q_ci (pc := 2) hR (q_rV E (xp1 w) (As := [.int x2]) (rest := []) (cX1_hasLocal_met l w hI N k1 x2 hk1 _ σ h) ckX1_hasLocal cvX1_hasLocal mw66 ⟨rfl, rfl, Nat.le_of_ble_eq_true rfl, Nat.le_of_ble_eq_true rfl⟩ hR (rcj hk1) rfl hl.1 rfl (Nat.le_of_ble_eq_true rfl) dX2_localOf_2) (fun r_2 σ_1 H locs h hR => ?_)
  refine lv_if_ne (pc := 5) (tgt := 16) hx hb dX2_localOf_5 (by decide) (fun c_3 => ?_) (fun c_3 => ?_)
  · have h := h.2 c_3
    refine lv_aload_n (pc := 16) hx hb dX2_localOf_16 rfl (lv_at hl 1 rfl) ?_
    refine gfj_0 (pc := 17) hk1 hx hb hts hown hK hR mw67 dX2_localOf_17 ?_
    refine lv_iload_n (pc := 20) hx hb dX2_localOf_20 rfl (lv_at hl 2 rfl) ?_
    have g_4 := h.1
    have h := h.2
    refine q_iald (pc := 21) hx hb hK hR (k := (k1 + 40)) (loc8_lt (loc8_of hk1)) (ev1_loc8 (loc8_of hk1)) g_4 dX2_localOf_21 ?_
    exact q_iret (pc := 22) E hR h dX2_localOf_22
  · have h := h.1 c_3
    refine lv_aload_n (pc := 8) hx hb dX2_localOf_8 rfl (lv_at hl 0 rfl) ?_
    refine lv_bipush (pc := 9) (v := 6) hx hb dX2_localOf_9 (by decide) ?_
    refine q_cv (pc := 11) hR (q_rV E (xp1 w) (As := [.int 6]) (rest := []) (cX2_fail_met l w hI N 6 _ σ_1 h) ckX2_fail cvX2_fail mw46 ⟨rfl, rfl, Nat.le_of_ble_eq_true rfl, Nat.le_of_ble_eq_true rfl⟩ hR (rc1_3 w) rfl hl.1 rfl (Nat.le_of_ble_eq_true rfl) dX2_localOf_11) (fun σ_5 H locs h hR => ?_)
    refine lv_iconst (pc := 14) (v := 0) hx hb dX2_localOf_14 (by decide) ?_
    exact q_iret (pc := 15) E hR h dX2_localOf_15
theorem cX2_localOf_met (l : Launch) (w : Wd) (hI : Ij 223 w) (N : Nat) (k1 : Nat) (x2 : Int32) (hk1 : jobK k1) (Q : Int32 → St → Prop) (σ : St) (h : fX2_localOf N k1 x2 Q σ) : Met l yX2_localOf (.code yX2_localOf cX2_localOf 3 (some .int) :: Uw) rmX2_localOf (va_Pc [.ref (w.2.1 3), .ref (w.2.1 k1), .int x2] (fun U => Rp 223 ev1 w σ U ∧ (X1 w) U)) (va_Qi Q (Rp 223 ev1 w) (Aw 223 w)) 0 0 (Aw 223 w) :=
  q_met (by decide) (Nat.le_of_ble_eq_true rfl) hI (fun p e s m below meth c ls E hl hR => bX2_localOf_e l w N Q E k1 x2 hk1 hR hl h)
-- GlulxStrings$Machine.nextValue(LGlulxStrings$Job;)I
abbrev rmX2_nextValue : Room := { frames := 3, cells := 0, slots := 0, locals := 63 }
def fX2_nextValue (N : Nat) (k1 : Nat) (Q : Int32 → St → Prop) (σ : St) : Prop := fX2_nextByte N (fun r_2 σ_1 => ((r_2 = 0 → Q 0 σ_1) ∧ (¬ r_2 = 0 → ((r_2 = 1 → fX2_nextByte N (fun r_6 σ_5 => Q r_6.toInt8.toInt32 σ_5) σ_1) ∧ (¬ r_2 = 1 → ((r_2 = 2 → fX2_nextFour N (fun r_9 σ_8 => Q r_9 σ_8) σ_1) ∧ (¬ r_2 = 2 → ((r_2 = 3 → fX2_nextByte N (fun r_12 σ_11 => fX2_localOf N k1 r_12 (fun r_14 σ_13 => Q r_14 σ_13) σ_11) σ_1) ∧ (¬ r_2 = 3 → fX2_fail N 6 (fun σ_15 => Q 0 σ_15) σ_1))))))))) σ
set_option maxHeartbeats 4000000 in
set_option maxRecDepth 100000 in
theorem bX2_nextValue_e {p : Program} {e : Env} {s : State} {m : MethodId} {args : Array Value} {below : List Frame} {meth : Method} {c : Code} (l : Launch) (w : Wd) (N : Nat) (Q : Int32 → St → Prop) (E : Cx 223 w (X1 w) cX2_nextValue 2 RX2 (.code yX2_nextValue cX2_nextValue 2 (some .int)) (some .int) p s m args meth c) (k1 : Nat) (hk1 : jobK k1) {σ : St} {H : Heap} {locs : List Loc} {ls : Array Slot} (hR : Rr 223 ev1 w σ s H locs) (hl : lv_has ls 2 [(0, .ref (w.2.1 3)), (1, .ref (w.2.1 k1))]) (h : fX2_nextValue N k1 Q σ) : W p l e rmX2_nextValue s m args below meth c H locs 0 0 (MQ below (va_Qi Q (Rp 223 ev1 w) (Aw 223 w)) args s 0 0 (Aw 223 w)) (F0 m 0 ls []) := by
  obtain ⟨hx, hb, hml, hown, hts, hr, hlk, hK, hI, hX⟩ := id E
  unfold fX2_nextValue at h
  refine lv_aload_n (pc := 0) hx hb dX2_nextValue_0 rfl (lv_at hl 0 rfl) ?_
  refine q_ci (pc := 1) hR (q_rV E (xp1 w) (As := []) (rest := []) (cX2_nextByte_met l w hI N _ σ h) ckX2_nextByte cvX2_nextByte mw68 ⟨rfl, rfl, Nat.le_of_ble_eq_true rfl, Nat.le_of_ble_eq_true rfl⟩ hR (rc1_3 w) rfl hl.1 rfl (Nat.le_of_ble_eq_true rfl) dX2_nextValue_1) (fun r_2 σ_1 H locs h hR => ?_)
  by_cases c_3 : r_2 = 0
  · refine lv_tableIn (pc := 4) (tgt := 36) (off := 32) hx hb dX2_nextValue_4 (by rw [c_3]; decide) (by rw [c_3]; decide) (by rw [c_3]; rfl) (by decide) ?_
    have h := h.1 c_3
    refine lv_iconst (pc := 36) (v := 0) hx hb dX2_nextValue_36 (by decide) ?_
    exact q_iret (pc := 37) E hR h dX2_nextValue_37
  replace h := h.2 c_3
  by_cases c_4 : r_2 = 1
  · refine lv_tableIn (pc := 4) (tgt := 38) (off := 34) hx hb dX2_nextValue_4 (by rw [c_4]; decide) (by rw [c_4]; decide) (by rw [c_4]; rfl) (by decide) ?_
    have h := h.1 c_4
    refine lv_aload_n (pc := 38) hx hb dX2_nextValue_38 rfl (lv_at hl 0 rfl) ?_
    refine q_ci (pc := 39) hR (q_rV E (xp1 w) (As := []) (rest := []) (cX2_nextByte_met l w hI N _ σ_1 h) ckX2_nextByte cvX2_nextByte mw68 ⟨rfl, rfl, Nat.le_of_ble_eq_true rfl, Nat.le_of_ble_eq_true rfl⟩ hR (rc1_3 w) rfl hl.1 rfl (Nat.le_of_ble_eq_true rfl) dX2_nextValue_39) (fun r_6 σ_5 H locs h hR => ?_)
    refine lv_i2b (pc := 42) (v := r_6.toInt8.toInt32) hx hb dX2_nextValue_42 rfl ?_
    exact q_iret (pc := 43) E hR h dX2_nextValue_43
  replace h := h.2 c_4
  by_cases c_7 : r_2 = 2
  · refine lv_tableIn (pc := 4) (tgt := 44) (off := 40) hx hb dX2_nextValue_4 (by rw [c_7]; decide) (by rw [c_7]; decide) (by rw [c_7]; rfl) (by decide) ?_
    have h := h.1 c_7
    refine lv_aload_n (pc := 44) hx hb dX2_nextValue_44 rfl (lv_at hl 0 rfl) ?_
    refine q_ci (pc := 45) hR (q_rV E (xp1 w) (As := []) (rest := []) (cX2_nextFour_met l w hI N _ σ_1 h) ckX2_nextFour cvX2_nextFour mw69 ⟨rfl, rfl, Nat.le_of_ble_eq_true rfl, Nat.le_of_ble_eq_true rfl⟩ hR (rc1_3 w) rfl hl.1 rfl (Nat.le_of_ble_eq_true rfl) dX2_nextValue_45) (fun r_9 σ_8 H locs h hR => ?_)
    exact q_iret (pc := 48) E hR h dX2_nextValue_48
  replace h := h.2 c_7
  by_cases c_10 : r_2 = 3
  · refine lv_tableIn (pc := 4) (tgt := 49) (off := 45) hx hb dX2_nextValue_4 (by rw [c_10]; decide) (by rw [c_10]; decide) (by rw [c_10]; rfl) (by decide) ?_
    have h := h.1 c_10
    refine lv_aload_n (pc := 49) hx hb dX2_nextValue_49 rfl (lv_at hl 0 rfl) ?_
    refine lv_aload_n (pc := 50) hx hb dX2_nextValue_50 rfl (lv_at hl 1 rfl) ?_
    refine lv_aload_n (pc := 51) hx hb dX2_nextValue_51 rfl (lv_at hl 0 rfl) ?_
    refine q_ci (pc := 52) hR (q_rV E (xp1 w) (As := []) (rest := [.ref (w.2.1 k1), .ref (w.2.1 3)]) (cX2_nextByte_met l w hI N _ σ_1 h) ckX2_nextByte cvX2_nextByte mw68 ⟨rfl, rfl, Nat.le_of_ble_eq_true rfl, Nat.le_of_ble_eq_true rfl⟩ hR (rc1_3 w) rfl hl.1 rfl (Nat.le_of_ble_eq_true rfl) dX2_nextValue_52) (fun r_12 σ_11 H locs h hR => ?_)
    refine q_ci (pc := 55) hR (q_rV E (xp1 w) (As := [.ref (w.2.1 k1), .int r_12]) (rest := []) (cX2_localOf_met l w hI N k1 r_12 hk1 _ σ_11 h) ckX2_localOf cvX2_localOf mw70 ⟨rfl, rfl, Nat.le_of_ble_eq_true rfl, Nat.le_of_ble_eq_true rfl⟩ hR (rc1_3 w) rfl hl.1 rfl (Nat.le_of_ble_eq_true rfl) dX2_nextValue_55) (fun r_14 σ_13 H locs h hR => ?_)
    exact q_iret (pc := 58) E hR h dX2_nextValue_58
  replace h := h.2 c_10
  have hD : W p l e rmX2_nextValue s m args below meth c H locs 0 0 (MQ below (va_Qi Q (Rp 223 ev1 w) (Aw 223 w)) args s 0 0 (Aw 223 w)) (F0 m 59 ls []) := by
    refine lv_aload_n (pc := 59) hx hb dX2_nextValue_59 rfl (lv_at hl 0 rfl) ?_
    refine lv_bipush (pc := 60) (v := 6) hx hb dX2_nextValue_60 (by decide) ?_
    refine q_cv (pc := 62) hR (q_rV E (xp1 w) (As := [.int 6]) (rest := []) (cX2_fail_met l w hI N 6 _ σ_1 h) ckX2_fail cvX2_fail mw46 ⟨rfl, rfl, Nat.le_of_ble_eq_true rfl, Nat.le_of_ble_eq_true rfl⟩ hR (rc1_3 w) rfl hl.1 rfl (Nat.le_of_ble_eq_true rfl) dX2_nextValue_62) (fun σ_15 H locs h hR => ?_)
    refine lv_iconst (pc := 65) (v := 0) hx hb dX2_nextValue_65 (by decide) ?_
    exact q_iret (pc := 66) E hR h dX2_nextValue_66
  have nc_3 := ne_i (n := 0) (by decide) c_3
  have nc_4 := ne_i (n := 1) (by decide) c_4
  have nc_7 := ne_i (n := 2) (by decide) c_7
  have nc_10 := ne_i (n := 3) (by decide) c_10
  exact lv_tableOut (pc := 4) (tgt := 59) hx hb dX2_nextValue_4 (by omega) (by decide) hD
theorem cX2_nextValue_met (l : Launch) (w : Wd) (hI : Ij 223 w) (N : Nat) (k1 : Nat) (hk1 : jobK k1) (Q : Int32 → St → Prop) (σ : St) (h : fX2_nextValue N k1 Q σ) : Met l yX2_nextValue (.code yX2_nextValue cX2_nextValue 2 (some .int) :: Uw) rmX2_nextValue (va_Pc [.ref (w.2.1 3), .ref (w.2.1 k1)] (fun U => Rp 223 ev1 w σ U ∧ (X1 w) U)) (va_Qi Q (Rp 223 ev1 w) (Aw 223 w)) 0 0 (Aw 223 w) :=
  q_met (by decide) (Nat.le_of_ble_eq_true rfl) hI (fun p e s m below meth c ls E hl hR => bX2_nextValue_e l w N Q E k1 hk1 hR hl h)
-- GlulxStrings$Machine.nextTarget(LGlulxStrings$Job;)I
abbrev rmX2_nextTarget : Room := { frames := 3, cells := 0, slots := 0, locals := 63 }
def fX2_nextTarget (N : Nat) (k1 : Nat) (Q : Int32 → St → Prop) (σ : St) : Prop := fX2_nextByte N (fun r_2 σ_1 => ((r_2 = 255 → Q r_2 σ_1) ∧ (¬ r_2 = 255 → fX1_hasLocal N k1 r_2 (fun r_5 σ_4 => ((r_5 = 0 → fX2_fail N 6 (fun σ_7 => Q r_2 σ_7) σ_4) ∧ (¬ r_5 = 0 → Q r_2 σ_4))) σ_1))) σ
set_option maxHeartbeats 4000000 in
set_option maxRecDepth 100000 in
theorem bX2_nextTarget_e {p : Program} {e : Env} {s : State} {m : MethodId} {args : Array Value} {below : List Frame} {meth : Method} {c : Code} (l : Launch) (w : Wd) (N : Nat) (Q : Int32 → St → Prop) (E : Cx 223 w (X1 w) cX2_nextTarget 3 RX2 (.code yX2_nextTarget cX2_nextTarget 3 (some .int)) (some .int) p s m args meth c) (k1 : Nat) (hk1 : jobK k1) {σ : St} {H : Heap} {locs : List Loc} {ls : Array Slot} (hR : Rr 223 ev1 w σ s H locs) (hl : lv_has ls 3 [(0, .ref (w.2.1 3)), (1, .ref (w.2.1 k1))]) (h : fX2_nextTarget N k1 Q σ) : W p l e rmX2_nextTarget s m args below meth c H locs 0 0 (MQ below (va_Qi Q (Rp 223 ev1 w) (Aw 223 w)) args s 0 0 (Aw 223 w)) (F0 m 0 ls []) := by
  obtain ⟨hx, hb, hml, hown, hts, hr, hlk, hK, hI, hX⟩ := id E
  unfold fX2_nextTarget at h
  refine lv_aload_n (pc := 0) hx hb dX2_nextTarget_0 rfl (lv_at hl 0 rfl) ?_
  refine q_ci (pc := 1) hR (q_rV E (xp1 w) (As := []) (rest := []) (cX2_nextByte_met l w hI N _ σ h) ckX2_nextByte cvX2_nextByte mw68 ⟨rfl, rfl, Nat.le_of_ble_eq_true rfl, Nat.le_of_ble_eq_true rfl⟩ hR (rc1_3 w) rfl hl.1 rfl (Nat.le_of_ble_eq_true rfl) dX2_nextTarget_1) (fun r_2 σ_1 H locs h hR => ?_)
  refine lv_istore_n (pc := 4) (lv' := [(2, .int r_2), (0, .ref (w.2.1 3)), (1, .ref (w.2.1 k1))]) hx hb dX2_nextTarget_4 rfl hl (by decide) rfl (fun ls hl => ?_)
  refine lv_iload_n (pc := 5) hx hb dX2_nextTarget_5 rfl (lv_at hl 0 rfl) ?_
  refine lv_sipush (pc := 6) (v := 255) hx hb dX2_nextTarget_6 (by decide) ?_
  refine lv_icmp_eq (pc := 9) (tgt := 26) hx hb dX2_nextTarget_9 (by decide) (fun c_3 => ?_) (fun c_3 => ?_)
  · have h := h.1 c_3
    refine lv_iload_n (pc := 26) hx hb dX2_nextTarget_26 rfl (lv_at hl 0 rfl) ?_
    exact q_iret (pc := 27) E hR h dX2_nextTarget_27
  · have h := h.2 c_3
    refine lv_aload_n (pc := 12) hx hb dX2_nextTarget_12 rfl (lv_at hl 2 rfl) ?_
    refine lv_iload_n (pc := 13) hx hb dX2_nextTarget_13 rfl (lv_at hl 0 rfl) ?_
    refine q_ci (pc := 14) hR (q_rV E (xp1 w) (As := [.int r_2]) (rest := []) (cX1_hasLocal_met l w hI N k1 r_2 hk1 _ σ_1 h) ckX1_hasLocal cvX1_hasLocal mw66 ⟨rfl, rfl, Nat.le_of_ble_eq_true rfl, Nat.le_of_ble_eq_true rfl⟩ hR (rcj hk1) rfl hl.1 rfl (Nat.le_of_ble_eq_true rfl) dX2_nextTarget_14) (fun r_5 σ_4 H locs h hR => ?_)
    refine lv_if_ne (pc := 17) (tgt := 26) hx hb dX2_nextTarget_17 (by decide) (fun c_6 => ?_) (fun c_6 => ?_)
    · have h := h.2 c_6
      refine lv_iload_n (pc := 26) hx hb dX2_nextTarget_26 rfl (lv_at hl 0 rfl) ?_
      exact q_iret (pc := 27) E hR h dX2_nextTarget_27
    · have h := h.1 c_6
      refine lv_aload_n (pc := 20) hx hb dX2_nextTarget_20 rfl (lv_at hl 1 rfl) ?_
      refine lv_bipush (pc := 21) (v := 6) hx hb dX2_nextTarget_21 (by decide) ?_
      refine q_cv (pc := 23) hR (q_rV E (xp1 w) (As := [.int 6]) (rest := []) (cX2_fail_met l w hI N 6 _ σ_4 h) ckX2_fail cvX2_fail mw46 ⟨rfl, rfl, Nat.le_of_ble_eq_true rfl, Nat.le_of_ble_eq_true rfl⟩ hR (rc1_3 w) rfl hl.1 rfl (Nat.le_of_ble_eq_true rfl) dX2_nextTarget_23) (fun σ_7 H locs h hR => ?_)
      refine lv_iload_n (pc := 26) hx hb dX2_nextTarget_26 rfl (lv_at hl 0 rfl) ?_
      exact q_iret (pc := 27) E hR h dX2_nextTarget_27
theorem cX2_nextTarget_met (l : Launch) (w : Wd) (hI : Ij 223 w) (N : Nat) (k1 : Nat) (hk1 : jobK k1) (Q : Int32 → St → Prop) (σ : St) (h : fX2_nextTarget N k1 Q σ) : Met l yX2_nextTarget (.code yX2_nextTarget cX2_nextTarget 3 (some .int) :: Uw) rmX2_nextTarget (va_Pc [.ref (w.2.1 3), .ref (w.2.1 k1)] (fun U => Rp 223 ev1 w σ U ∧ (X1 w) U)) (va_Qi Q (Rp 223 ev1 w) (Aw 223 w)) 0 0 (Aw 223 w) :=
  q_met (by decide) (Nat.le_of_ble_eq_true rfl) hI (fun p e s m below meth c ls E hl hR => bX2_nextTarget_e l w N Q E k1 hk1 hR hl h)
-- java/util/Arrays.fill([II)V
abbrev rmJ7_fill_53178 : Room := { frames := 0, cells := 0, slots := 0, locals := 0 }
def fJ7_fill_53178_l5 (N : Nat) (k0 : Nat) (n0 : Nat) (x1 : Int32) (x3 : Int32) (Q : St → Prop) (r5 : Int32 → St → Prop) (x2 : Int32) (σ : St) : Prop := ((x3 ≤ x2 → Q σ) ∧ (¬ x3 ≤ x2 → vp_in x2 n0 ∧ ∀ σ_4 : St, σ_4 = u1 σ k0 x2.toNatClampNeg x1 → ∀ v_5 : Int32, v_5 = x2 + 1 → r5 v_5 σ_4))
set_option maxHeartbeats 4000000 in
set_option maxRecDepth 100000 in
theorem bJ7_fill_53178_5 {p : Program} {e : Env} {s : State} {m : MethodId} {args : Array Value} {below : List Frame} {meth : Method} {c : Code} (l : Launch) (w : Wd) (N : Nat) (Q : St → Prop) (E : Cx 223 w (X1 w) cJ7_fill_53178 4 RJ7 (.code yJ7_fill_53178 cJ7_fill_53178 4 none) none p s m args meth c) (k0 : Nat) (n0 : Nat) (x1 : Int32) (x3 : Int32) (hk0 : iaK w k0 n0) : ∀ (n : Nat) (x2 : Int32) (σ : St) (H : Heap) (locs : List Loc) (ls : Array Slot), Rr 223 ev1 w σ s H locs → lv_has ls 4 [(0, .ref (w.2.1 k0)), (1, .int x1), (2, .int x2), (3, .int x3)] → lo1 (fJ7_fill_53178_l5 N k0 n0 x1 x3 Q) n x2 σ → W p l e rmJ7_fill_53178 s m args below meth c H locs 0 0 (MQ below (va_Qv Q (Rp 223 ev1 w) (Aw 223 w)) args s 0 0 (Aw 223 w)) (F0 m 5 ls []) := by
  obtain ⟨hx, hb, hml, hown, hts, hr, hlk, hK, hI, hX⟩ := id E
  intro n
  induction n with
  | zero => intro x2 σ H locs ls hR hl h; exact h.elim
  | succ n ih =>
    intro x2 σ H locs ls hR hl h
    have h : fJ7_fill_53178_l5 N k0 n0 x1 x3 Q (lo1 (fJ7_fill_53178_l5 N k0 n0 x1 x3 Q) n) x2 σ := h
    unfold fJ7_fill_53178_l5 at h
    refine lv_iload_n (pc := 5) hx hb dJ7_fill_53178_5 rfl (lv_at hl 2 rfl) ?_
    refine lv_iload_n (pc := 6) hx hb dJ7_fill_53178_6 rfl (lv_at hl 3 rfl) ?_
    refine lv_icmp_ge (pc := 7) (tgt := 20) hx hb dJ7_fill_53178_7 (by decide) (fun c_2 => ?_) (fun c_2 => ?_)
    · have h := h.1 c_2
      exact q_vret (pc := 20) E hR h dJ7_fill_53178_20
    · have h := h.2 c_2
      refine lv_aload_n (pc := 10) hx hb dJ7_fill_53178_10 rfl (lv_at hl 0 rfl) ?_
      refine lv_iload_n (pc := 11) hx hb dJ7_fill_53178_11 rfl (lv_at hl 2 rfl) ?_
      refine lv_iload_n (pc := 12) hx hb dJ7_fill_53178_12 rfl (lv_at hl 1 rfl) ?_
      have g_3 := h.1
      have h := h.2
      refine q_iast (pc := 13) hx hb hK hI hR (k := k0) hk0.1 (fun f => (hk0.2 f _)) g_3 dJ7_fill_53178_13 (fun H locs σ_4 eσ_4 hR => ?_)
      have h := h σ_4 eσ_4
      obtain ⟨v_5, ev_5⟩ : ∃ z : Int32, z = x2 + 1 := ⟨_, rfl⟩
      have h := h v_5 ev_5
      refine lv_iinc (pc := 14) (v := v_5) (lv' := [(2, .int v_5), (0, .ref (w.2.1 k0)), (1, .int x1), (3, .int x3)]) hx hb dJ7_fill_53178_14 hl (k := 2) rfl (by rw [ev_5]; rfl) (by decide) rfl (fun ls hl => ?_)
      refine lv_goto (pc := 17) (tgt := 5) hx hb dJ7_fill_53178_17 (by decide) ?_
      exact ih v_5 σ_4 _ _ _ hR (lv_sub hl [1, 2, 0, 3] rfl) h
def fJ7_fill_53178 (N : Nat) (k0 : Nat) (n0 : Nat) (x1 : Int32) (Q : St → Prop) (σ : St) : Prop := ∀ v_1 : Int32, v_1 = Int32.ofNat n0 → lo1 (fJ7_fill_53178_l5 N k0 n0 x1 v_1 Q) N 0 σ
set_option maxHeartbeats 4000000 in
set_option maxRecDepth 100000 in
theorem bJ7_fill_53178_e {p : Program} {e : Env} {s : State} {m : MethodId} {args : Array Value} {below : List Frame} {meth : Method} {c : Code} (l : Launch) (w : Wd) (N : Nat) (Q : St → Prop) (E : Cx 223 w (X1 w) cJ7_fill_53178 4 RJ7 (.code yJ7_fill_53178 cJ7_fill_53178 4 none) none p s m args meth c) (k0 : Nat) (n0 : Nat) (x1 : Int32) (hk0 : iaK w k0 n0) {σ : St} {H : Heap} {locs : List Loc} {ls : Array Slot} (hR : Rr 223 ev1 w σ s H locs) (hl : lv_has ls 4 [(0, .ref (w.2.1 k0)), (1, .int x1)]) (h : fJ7_fill_53178 N k0 n0 x1 Q σ) : W p l e rmJ7_fill_53178 s m args below meth c H locs 0 0 (MQ below (va_Qv Q (Rp 223 ev1 w) (Aw 223 w)) args s 0 0 (Aw 223 w)) (F0 m 0 ls []) := by
  obtain ⟨hx, hb, hml, hown, hts, hr, hlk, hK, hI, hX⟩ := id E
  unfold fJ7_fill_53178 at h
  refine lv_iconst (pc := 0) (v := 0) hx hb dJ7_fill_53178_0 (by decide) ?_
  refine lv_istore_n (pc := 1) (lv' := [(2, .int 0), (0, .ref (w.2.1 k0)), (1, .int x1)]) hx hb dJ7_fill_53178_1 rfl hl (by decide) rfl (fun ls hl => ?_)
  refine lv_aload_n (pc := 2) hx hb dJ7_fill_53178_2 rfl (lv_at hl 1 rfl) ?_
  refine va_alen (pc := 3) (v := Int32.ofNat n0) hx hb hK hR.1 k0 0 (rg_ate hk0.1 (hk0.2 _ _)) rfl rfl dJ7_fill_53178_3 ?_
  refine lv_topi (pc := 4) (fun v_1 ev_1 => ?_)
  have h := h v_1 ev_1
  refine lv_istore_n (pc := 4) (lv' := [(3, .int v_1), (2, .int 0), (0, .ref (w.2.1 k0)), (1, .int x1)]) hx hb dJ7_fill_53178_4 rfl hl (by decide) rfl (fun ls hl => ?_)
  exact bJ7_fill_53178_5 l w N Q E k0 n0 x1 v_1 hk0 N 0 σ _ _ _ hR (lv_sub hl [2, 3, 1, 0] rfl) h
theorem cJ7_fill_53178_met (l : Launch) (w : Wd) (hI : Ij 223 w) (N : Nat) (k0 : Nat) (n0 : Nat) (x1 : Int32) (hk0 : iaK w k0 n0) (Q : St → Prop) (σ : St) (h : fJ7_fill_53178 N k0 n0 x1 Q σ) : Met l yJ7_fill_53178 (.code yJ7_fill_53178 cJ7_fill_53178 4 none :: Uw) rmJ7_fill_53178 (va_Pc [.ref (w.2.1 k0), .int x1] (fun U => Rp 223 ev1 w σ U ∧ (X1 w) U)) (va_Qv Q (Rp 223 ev1 w) (Aw 223 w)) 0 0 (Aw 223 w) :=
  q_met (by decide) (Nat.le_of_ble_eq_true rfl) hI (fun p e s m below meth c ls E hl hR => bJ7_fill_53178_e l w N Q E k0 n0 x1 hk0 hR hl h)
-- GlulxStrings$Job.setLocal(II)V
abbrev rmX1_setLocal : Room := { frames := 0, cells := 0, slots := 0, locals := 0 }
def fX1_setLocal (N : Nat) (k0 : Nat) (x1 : Int32) (x2 : Int32) (Q : St → Prop) (σ : St) : Prop := ((x1 < 0 → Q σ) ∧ (¬ x1 < 0 → (((σ.1 k0 4) ≤ x1 → Q σ) ∧ (¬ (σ.1 k0 4) ≤ x1 → ((8 ≤ x1 → Q σ) ∧ (¬ 8 ≤ x1 → vp_in x1 8 ∧ ∀ σ_5 : St, σ_5 = u1 σ (k0 + 40) x1.toNatClampNeg x2 → Q σ_5))))))
set_option maxHeartbeats 4000000 in
set_option maxRecDepth 100000 in
theorem bX1_setLocal_e {p : Program} {e : Env} {s : State} {m : MethodId} {args : Array Value} {below : List Frame} {meth : Method} {c : Code} (l : Launch) (w : Wd) (N : Nat) (Q : St → Prop) (E : Cx 223 w (X1 w) cX1_setLocal 3 RX1 (.code yX1_setLocal cX1_setLocal 3 none) none p s m args meth c) (k0 : Nat) (x1 : Int32) (x2 : Int32) (hk0 : jobK k0) {σ : St} {H : Heap} {locs : List Loc} {ls : Array Slot} (hR : Rr 223 ev1 w σ s H locs) (hl : lv_has ls 3 [(0, .ref (w.2.1 k0)), (1, .int x1), (2, .int x2)]) (h : fX1_setLocal N k0 x1 x2 Q σ) : W p l e rmX1_setLocal s m args below meth c H locs 0 0 (MQ below (va_Qv Q (Rp 223 ev1 w) (Aw 223 w)) args s 0 0 (Aw 223 w)) (F0 m 0 ls []) := by
  obtain ⟨hx, hb, hml, hown, hts, hr, hlk, hK, hI, hX⟩ := id E
  unfold fX1_setLocal at h
  refine lv_iload_n (pc := 0) hx hb dX1_setLocal_0 rfl (lv_at hl 1 rfl) ?_
  refine lv_if_lt (pc := 1) (tgt := 25) hx hb dX1_setLocal_1 (by decide) (fun c_1 => ?_) (fun c_1 => ?_)
  · have h := h.1 c_1
    exact q_vret (pc := 25) E hR h dX1_setLocal_25
  · have h := h.2 c_1
    refine lv_iload_n (pc := 4) hx hb dX1_setLocal_4 rfl (lv_at hl 1 rfl) ?_
    refine lv_aload_n (pc := 5) hx hb dX1_setLocal_5 rfl (lv_at hl 0 rfl) ?_
    refine gfj_4 (pc := 6) hk0 hx hb hts hown hK hR mw50 dX1_setLocal_6 ?_
    refine lv_icmp_ge (pc := 9) (tgt := 25) hx hb dX1_setLocal_9 (by decide) (fun c_2 => ?_) (fun c_2 => ?_)
    · have h := h.1 c_2
      exact q_vret (pc := 25) E hR h dX1_setLocal_25
    · have h := h.2 c_2
      refine lv_iload_n (pc := 12) hx hb dX1_setLocal_12 rfl (lv_at hl 1 rfl) ?_
      refine lv_bipush (pc := 13) (v := 8) hx hb dX1_setLocal_13 (by decide) ?_
      refine lv_icmp_ge (pc := 15) (tgt := 25) hx hb dX1_setLocal_15 (by decide) (fun c_3 => ?_) (fun c_3 => ?_)
      · have h := h.1 c_3
        exact q_vret (pc := 25) E hR h dX1_setLocal_25
      · have h := h.2 c_3
        refine lv_aload_n (pc := 18) hx hb dX1_setLocal_18 rfl (lv_at hl 0 rfl) ?_
        refine gfj_0 (pc := 19) hk0 hx hb hts hown hK hR mw71 dX1_setLocal_19 ?_
        refine lv_iload_n (pc := 22) hx hb dX1_setLocal_22 rfl (lv_at hl 1 rfl) ?_
        refine lv_iload_n (pc := 23) hx hb dX1_setLocal_23 rfl (lv_at hl 2 rfl) ?_
        have g_4 := h.1
        have h := h.2
        refine q_iast (pc := 24) hx hb hK hI hR (k := (k0 + 40)) (loc8_lt (loc8_of hk0)) (fun f => (ev1_loc8 (loc8_of hk0))) g_4 dX1_setLocal_24 (fun H locs σ_5 eσ_5 hR => ?_)
        have h := h σ_5 eσ_5
        exact q_vret (pc := 25) E hR h dX1_setLocal_25
theorem cX1_setLocal_met (l : Launch) (w : Wd) (hI : Ij 223 w) (N : Nat) (k0 : Nat) (x1 : Int32) (x2 : Int32) (hk0 : jobK k0) (Q : St → Prop) (σ : St) (h : fX1_setLocal N k0 x1 x2 Q σ) : Met l yX1_setLocal (.code yX1_setLocal cX1_setLocal 3 none :: Uw) rmX1_setLocal (va_Pc [.ref (w.2.1 k0), .int x1, .int x2] (fun U => Rp 223 ev1 w σ U ∧ (X1 w) U)) (va_Qv Q (Rp 223 ev1 w) (Aw 223 w)) 0 0 (Aw 223 w) :=
  q_met (by decide) (Nat.le_of_ble_eq_true rfl) hI (fun p e s m below meth c ls E hl hR => bX1_setLocal_e l w N Q E k0 x1 x2 hk0 hR hl h)
-- GlulxStrings$Machine.fillLocals(LGlulxStrings$Job;Z)V
abbrev rmX2_fillLocals : Room := { frames := 1, cells := 0, slots := 0, locals := 23 }
def fX2_fillLocals_l28 (N : Nat) (k1 : Nat) (x3 : Int32) (Q : St → Prop) (r28 : Int32 → St → Prop) (x4 : Int32) (σ : St) : Prop := (((σ.1 3 6) ≤ x4 → Q σ) ∧ (¬ (σ.1 3 6) ≤ x4 → ((4 ≤ x4 → Q σ) ∧ (¬ 4 ≤ x4 → vp_in x4 4 ∧ fX1_setLocal N k1 (x3 + x4) (σ.1 17 x4.toNatClampNeg) (fun σ_6 => ∀ v_7 : Int32, v_7 = x4 + 1 → r28 v_7 σ_6) σ))))
set_option maxHeartbeats 4000000 in
set_option maxRecDepth 100000 in
theorem bX2_fillLocals_28 {p : Program} {e : Env} {s : State} {m : MethodId} {args : Array Value} {below : List Frame} {meth : Method} {c : Code} (l : Launch) (w : Wd) (N : Nat) (Q : St → Prop) (E : Cx 223 w (X1 w) cX2_fillLocals 5 RX2 (.code yX2_fillLocals cX2_fillLocals 5 none) none p s m args meth c) (k1 : Nat) (x3 : Int32) (hk1 : jobK k1) : ∀ (n : Nat) (x4 : Int32) (σ : St) (H : Heap) (locs : List Loc) (ls : Array Slot), Rr 223 ev1 w σ s H locs → lv_has ls 5 [(0, .ref (w.2.1 3)), (1, .ref (w.2.1 k1)), (3, .int x3), (4, .int x4)] → lo1 (fX2_fillLocals_l28 N k1 x3 Q) n x4 σ → W p l e rmX2_fillLocals s m args below meth c H locs 0 0 (MQ below (va_Qv Q (Rp 223 ev1 w) (Aw 223 w)) args s 0 0 (Aw 223 w)) (F0 m 28 ls []) := by
  obtain ⟨hx, hb, hml, hown, hts, hr, hlk, hK, hI, hX⟩ := id E
  intro n
  induction n with
  | zero => intro x4 σ H locs ls hR hl h; exact h.elim
  | succ n ih =>
    intro x4 σ H locs ls hR hl h
    have h : fX2_fillLocals_l28 N k1 x3 Q (lo1 (fX2_fillLocals_l28 N k1 x3 Q) n) x4 σ := h
    unfold fX2_fillLocals_l28 at h
    refine lv_iload (pc := 28) hx hb dX2_fillLocals_28 (lv_at hl 3 rfl) ?_
    refine lv_aload_n (pc := 30) hx hb dX2_fillLocals_30 rfl (lv_at hl 0 rfl) ?_
    refine gf1_3_6 (pc := 31) hx hb hts hown hK hR mw73 dX2_fillLocals_31 ?_
    refine lv_icmp_ge (pc := 34) (tgt := 64) hx hb dX2_fillLocals_34 (by decide) (fun c_3 => ?_) (fun c_3 => ?_)
    · have h := h.1 c_3
      exact q_vret (pc := 64) E hR h dX2_fillLocals_64
    · have h := h.2 c_3
      refine lv_iload (pc := 37) hx hb dX2_fillLocals_37 (lv_at hl 3 rfl) ?_
      refine lv_iconst (pc := 39) (v := 4) hx hb dX2_fillLocals_39 (by decide) ?_
      refine lv_icmp_ge (pc := 40) (tgt := 64) hx hb dX2_fillLocals_40 (by decide) (fun c_4 => ?_) (fun c_4 => ?_)
      · have h := h.1 c_4
        exact q_vret (pc := 64) E hR h dX2_fillLocals_64
      · have h := h.2 c_4
        refine lv_aload_n (pc := 43) hx hb dX2_fillLocals_43 rfl (lv_at hl 1 rfl) ?_
        refine lv_iload_n (pc := 44) hx hb dX2_fillLocals_44 rfl (lv_at hl 2 rfl) ?_
        refine lv_iload (pc := 45) hx hb dX2_fillLocals_45 (lv_at hl 3 rfl) ?_
        refine lv_iadd (pc := 47) hx hb dX2_fillLocals_47 ?_
        refine lv_aload_n (pc := 48) hx hb dX2_fillLocals_48 rfl (lv_at hl 0 rfl) ?_
        refine gf1_3_5 (pc := 49) hx hb hts hown hK hR mw74 dX2_fillLocals_49 ?_
        refine lv_iload (pc := 52) hx hb dX2_fillLocals_52 (lv_at hl 3 rfl) ?_
        have g_5 := h.1
        have h := h.2
        refine q_iald (pc := 54) hx hb hK hR (k := 17) lt1_17 (ar1_17 _ _ _) g_5 dX2_fillLocals_54 ?_
        refine q_cv (pc := 55) hR (q_rV E (xp1 w) (As := [.int (x3 + x4), .int (σ.1 17 x4.toNatClampNeg)]) (rest := []) (cX1_setLocal_met l w hI N k1 (x3 + x4) (σ.1 17 x4.toNatClampNeg) hk1 _ σ h) ckX1_setLocal cvX1_setLocal mw75 ⟨rfl, rfl, Nat.le_of_ble_eq_true rfl, Nat.le_of_ble_eq_true rfl⟩ hR (rcj hk1) rfl hl.1 rfl (Nat.le_of_ble_eq_true rfl) dX2_fillLocals_55) (fun σ_6 H locs h hR => ?_)
        obtain ⟨v_7, ev_7⟩ : ∃ z : Int32, z = x4 + 1 := ⟨_, rfl⟩
        have h := h v_7 ev_7
        refine lv_iinc (pc := 58) (v := v_7) (lv' := [(4, .int v_7), (0, .ref (w.2.1 3)), (1, .ref (w.2.1 k1)), (3, .int x3)]) hx hb dX2_fillLocals_58 hl (k := 3) rfl (by rw [ev_7]; rfl) (by decide) rfl (fun ls hl => ?_)
        refine lv_goto (pc := 61) (tgt := 28) hx hb dX2_fillLocals_61 (by decide) ?_
        exact ih v_7 σ_6 _ _ _ hR (lv_sub hl [1, 2, 3, 0] rfl) h
def fX2_fillLocals_j25 (N : Nat) (k1 : Nat) (x3 : Int32) (Q : St → Prop) (σ : St) : Prop := lo1 (fX2_fillLocals_l28 N k1 x3 Q) N 0 σ
set_option maxHeartbeats 4000000 in
set_option maxRecDepth 100000 in
theorem bX2_fillLocals_25 {p : Program} {e : Env} {s : State} {m : MethodId} {args : Array Value} {below : List Frame} {meth : Method} {c : Code} (l : Launch) (w : Wd) (N : Nat) (Q : St → Prop) (E : Cx 223 w (X1 w) cX2_fillLocals 5 RX2 (.code yX2_fillLocals cX2_fillLocals 5 none) none p s m args meth c) (k1 : Nat) (x3 : Int32) (hk1 : jobK k1) {σ : St} {H : Heap} {locs : List Loc} {ls : Array Slot} (hR : Rr 223 ev1 w σ s H locs) (hl : lv_has ls 5 [(0, .ref (w.2.1 3)), (1, .ref (w.2.1 k1)), (3, .int x3)]) (h : fX2_fillLocals_j25 N k1 x3 Q σ) : W p l e rmX2_fillLocals s m args below meth c H locs 0 0 (MQ below (va_Qv Q (Rp 223 ev1 w) (Aw 223 w)) args s 0 0 (Aw 223 w)) (F0 m 25 ls []) := by
  obtain ⟨hx, hb, hml, hown, hts, hr, hlk, hK, hI, hX⟩ := id E
  unfold fX2_fillLocals_j25 at h
  refine lv_iconst (pc := 25) (v := 0) hx hb dX2_fillLocals_25 (by decide) ?_
  refine lv_istore (pc := 26) (lv' := [(4, .int 0), (0, .ref (w.2.1 3)), (1, .ref (w.2.1 k1)), (3, .int x3)]) hx hb dX2_fillLocals_26 hl (by decide) rfl (fun ls hl => ?_)
  exact bX2_fillLocals_28 l w N Q E k1 x3 hk1 N 0 σ _ _ _ hR (lv_sub hl [1, 2, 3, 0] rfl) h
def fX2_fillLocals (N : Nat) (k1 : Nat) (x2 : Int32) (Q : St → Prop) (σ : St) : Prop := fJ7_fill_53178 N (k1 + 40) 8 0 (fun σ_1 => ((x2 = 0 → fX2_fillLocals_j25 N k1 0 Q σ_1) ∧ (¬ x2 = 0 → fX1_setLocal N k1 0 (σ_1.1 3 6) (fun σ_3 => fX2_fillLocals_j25 N k1 1 Q σ_3) σ_1))) σ
set_option maxHeartbeats 4000000 in
set_option maxRecDepth 100000 in
theorem bX2_fillLocals_e {p : Program} {e : Env} {s : State} {m : MethodId} {args : Array Value} {below : List Frame} {meth : Method} {c : Code} (l : Launch) (w : Wd) (N : Nat) (Q : St → Prop) (E : Cx 223 w (X1 w) cX2_fillLocals 5 RX2 (.code yX2_fillLocals cX2_fillLocals 5 none) none p s m args meth c) (k1 : Nat) (x2 : Int32) (hk1 : jobK k1) {σ : St} {H : Heap} {locs : List Loc} {ls : Array Slot} (hR : Rr 223 ev1 w σ s H locs) (hl : lv_has ls 5 [(0, .ref (w.2.1 3)), (1, .ref (w.2.1 k1)), (2, .int x2)]) (h : fX2_fillLocals N k1 x2 Q σ) : W p l e rmX2_fillLocals s m args below meth c H locs 0 0 (MQ below (va_Qv Q (Rp 223 ev1 w) (Aw 223 w)) args s 0 0 (Aw 223 w)) (F0 m 0 ls []) := by
  obtain ⟨hx, hb, hml, hown, hts, hr, hlk, hK, hI, hX⟩ := id E
  unfold fX2_fillLocals at h
  refine lv_aload_n (pc := 0) hx hb dX2_fillLocals_0 rfl (lv_at hl 1 rfl) ?_
  refine gfj_0 (pc := 1) hk1 hx hb hts hown hK hR mw67 dX2_fillLocals_1 ?_
  refine lv_iconst (pc := 4) (v := 0) hx hb dX2_fillLocals_4 (by decide) ?_
  refine q_cv (pc := 5) hR (q_rS E (xp1 w) (As := [.ref (w.2.1 (k1 + 40)), .int 0]) (rest := []) (cJ7_fill_53178_met l w hI N (k1 + 40) 8 0 ⟨(loc8_lt (loc8_of hk1)), fun f g => (ev1_loc8 (loc8_of hk1))⟩ _ σ h) ckJ7_fill_53178 csJ7_fill_53178 mw72 ⟨rfl, rfl, Nat.le_of_ble_eq_true rfl, Nat.le_of_ble_eq_true rfl⟩ hR rfl hl.1 rfl (Nat.le_of_ble_eq_true rfl) dX2_fillLocals_5) (fun σ_1 H locs h hR => ?_)
  refine lv_iconst (pc := 8) (v := 0) hx hb dX2_fillLocals_8 (by decide) ?_
  refine lv_istore_n (pc := 9) (lv' := [(3, .int 0), (0, .ref (w.2.1 3)), (1, .ref (w.2.1 k1)), (2, .int x2)]) hx hb dX2_fillLocals_9 rfl hl (by decide) rfl (fun ls hl => ?_)
  refine lv_iload_n (pc := 10) hx hb dX2_fillLocals_10 rfl (lv_at hl 3 rfl) ?_
  refine lv_if_eq (pc := 11) (tgt := 25) hx hb dX2_fillLocals_11 (by decide) (fun c_2 => ?_) (fun c_2 => ?_)
  · have h := h.1 c_2
    exact bX2_fillLocals_25 l w N Q E k1 0 hk1 hR (lv_sub hl [1, 2, 0] rfl) h
  · have h := h.2 c_2
    refine lv_aload_n (pc := 14) hx hb dX2_fillLocals_14 rfl (lv_at hl 2 rfl) ?_
    refine lv_iconst (pc := 15) (v := 0) hx hb dX2_fillLocals_15 (by decide) ?_
    refine lv_aload_n (pc := 16) hx hb dX2_fillLocals_16 rfl (lv_at hl 1 rfl) ?_
    refine gf1_3_6 (pc := 17) hx hb hts hown hK hR mw73 dX2_fillLocals_17 ?_
    refine q_cv (pc := 20) hR (q_rV E (xp1 w) (As := [.int 0, .int (σ_1.1 3 6)]) (rest := []) (cX1_setLocal_met l w hI N k1 0 (σ_1.1 3 6) hk1 _ σ_1 h) ckX1_setLocal cvX1_setLocal mw75 ⟨rfl, rfl, Nat.le_of_ble_eq_true rfl, Nat.le_of_ble_eq_true rfl⟩ hR (rcj hk1) rfl hl.1 rfl (Nat.le_of_ble_eq_true rfl) dX2_fillLocals_20) (fun σ_3 H locs h hR => ?_)
    refine lv_iconst (pc := 23) (v := 1) hx hb dX2_fillLocals_23 (by decide) ?_
    refine lv_istore_n (pc := 24) (lv' := [(3, .int 1), (0, .ref (w.2.1 3)), (1, .ref (w.2.1 k1)), (2, .int x2)]) hx hb dX2_fillLocals_24 rfl hl (by decide) rfl (fun ls hl => ?_)
    exact bX2_fillLocals_25 l w N Q E k1 1 hk1 hR (lv_sub hl [1, 2, 0] rfl) h
theorem cX2_fillLocals_met (l : Launch) (w : Wd) (hI : Ij 223 w) (N : Nat) (k1 : Nat) (x2 : Int32) (hk1 : jobK k1) (Q : St → Prop) (σ : St) (h : fX2_fillLocals N k1 x2 Q σ) : Met l yX2_fillLocals (.code yX2_fillLocals cX2_fillLocals 5 none :: Uw) rmX2_fillLocals (va_Pc [.ref (w.2.1 3), .ref (w.2.1 k1), .int x2] (fun U => Rp 223 ev1 w σ U ∧ (X1 w) U)) (va_Qv Q (Rp 223 ev1 w) (Aw 223 w)) 0 0 (Aw 223 w) :=
  q_met (by decide) (Nat.le_of_ble_eq_true rfl) hI (fun p e s m below meth c ls E hl hR => bX2_fillLocals_e l w N Q E k1 x2 hk1 hR hl h)
-- GlulxStrings$Machine.callFunction(II)V
abbrev rmX2_callFunction : Room := { frames := 2, cells := 0, slots := 0, locals := 47 }
def fX2_callFunction_j119 (N : Nat) (t0 : Int32) (kt1 : Nat) (Q : St → Prop) (σ : St) : Prop := fX2_fillLocals N kt1 t0 (fun σ_15 => Q σ_15) σ
set_option maxHeartbeats 4000000 in
set_option maxRecDepth 100000 in
theorem bX2_callFunction_119 {p : Program} {e : Env} {s : State} {m : MethodId} {args : Array Value} {below : List Frame} {meth : Method} {c : Code} (l : Launch) (w : Wd) (N : Nat) (Q : St → Prop) (E : Cx 223 w (X1 w) cX2_callFunction 6 RX2 (.code yX2_callFunction cX2_callFunction 6 none) none p s m args meth c) (t0 : Int32) (kt1 : Nat) (hkt1 : jobK kt1) {σ : St} {H : Heap} {locs : List Loc} {ls : Array Slot} (hR : Rr 223 ev1 w σ s H locs) (hl : lv_has ls 6 []) (h : fX2_callFunction_j119 N t0 kt1 Q σ) : W p l e rmX2_callFunction s m args below meth c H locs 0 0 (MQ below (va_Qv Q (Rp 223 ev1 w) (Aw 223 w)) args s 0 0 (Aw 223 w)) (F0 m 119 ls [.int t0, .ref (w.2.1 kt1), .ref (w.2.1 3)]) := by
  obtain ⟨hx, hb, hml, hown, hts, hr, hlk, hK, hI, hX⟩ := id E
  unfold fX2_callFunction_j119 at h
  refine q_cv (pc := 119) hR (q_rV E (xp1 w) (As := [.ref (w.2.1 kt1), .int t0]) (rest := []) (cX2_fillLocals_met l w hI N kt1 t0 hkt1 _ σ h) ckX2_fillLocals cvX2_fillLocals mw78 ⟨rfl, rfl, Nat.le_of_ble_eq_true rfl, Nat.le_of_ble_eq_true rfl⟩ hR (rc1_3 w) rfl hl.1 rfl (Nat.le_of_ble_eq_true rfl) dX2_callFunction_119) (fun σ_15 H locs h hR => ?_)
  exact q_vret (pc := 122) E hR h dX2_callFunction_122
def fX2_callFunction_j55 (N : Nat) (x1 : Int32) (x2 : Int32) (x3 : Int32) (x4 : Int32) (Q : St → Prop) (σ : St) : Prop := fX2_begin N 0 (x1 + 2) (fun σ_8 => (((σ_8.1 3 11) = 0 → (((σ_8.1 3 7) = 0 → Q σ_8) ∧ (¬ (σ_8.1 3 7) = 0 → vp_in ((σ_8.1 3 7) - 1) 40 ∧ ∀ σ_12 : St, σ_12 = u1 σ_8 (43 + ((σ_8.1 3 7) - 1).toNatClampNeg) 4 x4 → ∀ σ_13 : St, σ_13 = u1 σ_12 (43 + ((σ_8.1 3 7) - 1).toNatClampNeg) 7 x2 → ((x3 = 192 → fX2_callFunction_j119 N 1 (43 + ((σ_8.1 3 7) - 1).toNatClampNeg) Q σ_13) ∧ (¬ x3 = 192 → fX2_callFunction_j119 N 0 (43 + ((σ_8.1 3 7) - 1).toNatClampNeg) Q σ_13))))) ∧ (¬ (σ_8.1 3 11) = 0 → Q σ_8))) σ
set_option maxHeartbeats 4000000 in
set_option maxRecDepth 100000 in
theorem bX2_callFunction_55 {p : Program} {e : Env} {s : State} {m : MethodId} {args : Array Value} {below : List Frame} {meth : Method} {c : Code} (l : Launch) (w : Wd) (N : Nat) (Q : St → Prop) (E : Cx 223 w (X1 w) cX2_callFunction 6 RX2 (.code yX2_callFunction cX2_callFunction 6 none) none p s m args meth c) (x1 : Int32) (x2 : Int32) (x3 : Int32) (x4 : Int32) {σ : St} {H : Heap} {locs : List Loc} {ls : Array Slot} (hR : Rr 223 ev1 w σ s H locs) (hl : lv_has ls 6 [(0, .ref (w.2.1 3)), (1, .int x1), (2, .int x2), (3, .int x3), (4, .int x4)]) (h : fX2_callFunction_j55 N x1 x2 x3 x4 Q σ) : W p l e rmX2_callFunction s m args below meth c H locs 0 0 (MQ below (va_Qv Q (Rp 223 ev1 w) (Aw 223 w)) args s 0 0 (Aw 223 w)) (F0 m 55 ls []) := by
  obtain ⟨hx, hb, hml, hown, hts, hr, hlk, hK, hI, hX⟩ := id E
  unfold fX2_callFunction_j55 at h
  refine lv_aload_n (pc := 55) hx hb dX2_callFunction_55 rfl (lv_at hl 0 rfl) ?_
  refine lv_iconst (pc := 56) (v := 0) hx hb dX2_callFunction_56 (by decide) ?_
  refine lv_iload_n (pc := 57) hx hb dX2_callFunction_57 rfl (lv_at hl 1 rfl) ?_
  refine lv_iconst (pc := 58) (v := 2) hx hb dX2_callFunction_58 (by decide) ?_
  refine lv_iadd (pc := 59) hx hb dX2_callFunction_59 ?_
  refine q_cv (pc := 60) hR (q_rV E (xp1 w) (As := [.int 0, .int (x1 + 2)]) (rest := []) (cX2_begin_met l w hI N 0 (x1 + 2) _ σ h) ckX2_begin cvX2_begin mw61 ⟨rfl, rfl, Nat.le_of_ble_eq_true rfl, Nat.le_of_ble_eq_true rfl⟩ hR (rc1_3 w) rfl hl.1 rfl (Nat.le_of_ble_eq_true rfl) dX2_callFunction_60) (fun σ_8 H locs h hR => ?_)
  refine lv_aload_n (pc := 63) hx hb dX2_callFunction_63 rfl (lv_at hl 0 rfl) ?_
  refine gf1_3_11 (pc := 64) hx hb hts hown hK hR mw42 dX2_callFunction_64 ?_
  refine lv_if_ne (pc := 67) (tgt := 77) hx hb dX2_callFunction_67 (by decide) (fun c_9 => ?_) (fun c_9 => ?_)
  · have h := h.2 c_9
    exact q_vret (pc := 77) E hR h dX2_callFunction_77
  · have h := h.1 c_9
    refine lv_aload_n (pc := 70) hx hb dX2_callFunction_70 rfl (lv_at hl 0 rfl) ?_
    refine gf1_3_7 (pc := 71) hx hb hts hown hK hR mw54 dX2_callFunction_71 ?_
    refine lv_if_ne (pc := 74) (tgt := 78) hx hb dX2_callFunction_74 (by decide) (fun c_10 => ?_) (fun c_10 => ?_)
    · have h := h.2 c_10
      refine lv_aload_n (pc := 78) hx hb dX2_callFunction_78 rfl (lv_at hl 0 rfl) ?_
      refine gf1_3_3 (pc := 79) hx hb hts hown hK hR mw55 dX2_callFunction_79 ?_
      refine lv_aload_n (pc := 82) hx hb dX2_callFunction_82 rfl (lv_at hl 0 rfl) ?_
      refine gf1_3_7 (pc := 83) hx hb hts hown hK hR mw54 dX2_callFunction_83 ?_
      refine lv_iconst (pc := 86) (v := 1) hx hb dX2_callFunction_86 (by decide) ?_
      refine lv_isub (pc := 87) hx hb dX2_callFunction_87 ?_
      have g_11 := h.1
      have h := h.2
      refine q_aald (pc := 88) hx hb hK hR (k := 15) lt1_15 4 rfl rfl (ar1_15 _ _ _) g_11 dX2_callFunction_88 ?_
      refine lv_astore (pc := 89) (lv' := [(5, .ref (w.2.1 (43 + ((σ_8.1 3 7) - 1).toNatClampNeg))), (0, .ref (w.2.1 3)), (1, .int x1), (2, .int x2), (3, .int x3), (4, .int x4)]) hx hb dX2_callFunction_89 hl (by decide) rfl (fun ls hl => ?_)
      refine lv_aload (pc := 91) hx hb dX2_callFunction_91 (lv_at hl 0 rfl) ?_
      refine lv_iload (pc := 93) hx hb dX2_callFunction_93 (lv_at hl 5 rfl) ?_
      refine pfj_4 (pc := 95) (jobK_in g_11) hx hb hts hown hK hI hR mw76 dX2_callFunction_95 (fun H locs σ_12 eσ_12 hR => ?_)
      have h := h σ_12 eσ_12
      refine lv_aload (pc := 98) hx hb dX2_callFunction_98 (lv_at hl 0 rfl) ?_
      refine lv_iload_n (pc := 100) hx hb dX2_callFunction_100 rfl (lv_at hl 3 rfl) ?_
      refine pfj_7 (pc := 101) (jobK_in g_11) hx hb hts hown hK hI hR mw77 dX2_callFunction_101 (fun H locs σ_13 eσ_13 hR => ?_)
      have h := h σ_13 eσ_13
      refine lv_aload_n (pc := 104) hx hb dX2_callFunction_104 rfl (lv_at hl 1 rfl) ?_
      refine lv_aload (pc := 105) hx hb dX2_callFunction_105 (lv_at hl 0 rfl) ?_
      refine lv_iload_n (pc := 107) hx hb dX2_callFunction_107 rfl (lv_at hl 4 rfl) ?_
      refine lv_sipush (pc := 108) (v := 192) hx hb dX2_callFunction_108 (by decide) ?_
      refine lv_icmp_ne (pc := 111) (tgt := 118) hx hb dX2_callFunction_111 (by decide) (fun c_14 => ?_) (fun c_14 => ?_)
      · have h := h.2 c_14
        refine lv_iconst (pc := 118) (v := 0) hx hb dX2_callFunction_118 (by decide) ?_
        exact bX2_callFunction_119 l w N Q E 0 (43 + ((σ_8.1 3 7) - 1).toNatClampNeg) (jobK_in g_11) hR (lv_sub hl [] rfl) h
      · have h := h.1 c_14
        refine lv_iconst (pc := 114) (v := 1) hx hb dX2_callFunction_114 (by decide) ?_
        refine lv_goto (pc := 115) (tgt := 119) hx hb dX2_callFunction_115 (by decide) ?_
        exact bX2_callFunction_119 l w N Q E 1 (43 + ((σ_8.1 3 7) - 1).toNatClampNeg) (jobK_in g_11) hR (lv_sub hl [] rfl) h
    · have h := h.1 c_10
      exact q_vret (pc := 77) E hR h dX2_callFunction_77
def fX2_callFunction_j34 (N : Nat) (x1 : Int32) (x2 : Int32) (x3 : Int32) (Q : St → Prop) (σ : St) : Prop := fX2_readByte N (x1 + 1) (fun r_6 σ_5 => ((r_6 ≤ 8 → fX2_callFunction_j55 N x1 x2 x3 r_6 Q σ_5) ∧ (¬ r_6 ≤ 8 → fX2_fail N 4 (fun σ_8 => fX2_callFunction_j55 N x1 x2 x3 r_6 Q σ_8) σ_5))) σ
set_option maxHeartbeats 4000000 in
set_option maxRecDepth 100000 in
theorem bX2_callFunction_34 {p : Program} {e : Env} {s : State} {m : MethodId} {args : Array Value} {below : List Frame} {meth : Method} {c : Code} (l : Launch) (w : Wd) (N : Nat) (Q : St → Prop) (E : Cx 223 w (X1 w) cX2_callFunction 6 RX2 (.code yX2_callFunction cX2_callFunction 6 none) none p s m args meth c) (x1 : Int32) (x2 : Int32) (x3 : Int32) {σ : St} {H : Heap} {locs : List Loc} {ls : Array Slot} (hR : Rr 223 ev1 w σ s H locs) (hl : lv_has ls 6 [(0, .ref (w.2.1 3)), (1, .int x1), (2, .int x2), (3, .int x3)]) (h : fX2_callFunction_j34 N x1 x2 x3 Q σ) : W p l e rmX2_callFunction s m args below meth c H locs 0 0 (MQ below (va_Qv Q (Rp 223 ev1 w) (Aw 223 w)) args s 0 0 (Aw 223 w)) (F0 m 34 ls []) := by
  obtain ⟨hx, hb, hml, hown, hts, hr, hlk, hK, hI, hX⟩ := id E
  unfold fX2_callFunction_j34 at h
  refine lv_aload_n (pc := 34) hx hb dX2_callFunction_34 rfl (lv_at hl 0 rfl) ?_
  refine lv_iload_n (pc := 35) hx hb dX2_callFunction_35 rfl (lv_at hl 1 rfl) ?_
  refine lv_iconst (pc := 36) (v := 1) hx hb dX2_callFunction_36 (by decide) ?_
  refine lv_iadd (pc := 37) hx hb dX2_callFunction_37 ?_
  refine q_ci (pc := 38) hR (q_rV E (xp1 w) (As := [.int (x1 + 1)]) (rest := []) (cX2_readByte_met l w hI N (x1 + 1) _ σ h) ckX2_readByte cvX2_readByte mw60 ⟨rfl, rfl, Nat.le_of_ble_eq_true rfl, Nat.le_of_ble_eq_true rfl⟩ hR (rc1_3 w) rfl hl.1 rfl (Nat.le_of_ble_eq_true rfl) dX2_callFunction_38) (fun r_6 σ_5 H locs h hR => ?_)
  refine lv_istore (pc := 41) (lv' := [(4, .int r_6), (0, .ref (w.2.1 3)), (1, .int x1), (2, .int x2), (3, .int x3)]) hx hb dX2_callFunction_41 hl (by decide) rfl (fun ls hl => ?_)
  refine lv_iload (pc := 43) hx hb dX2_callFunction_43 (lv_at hl 0 rfl) ?_
  refine lv_bipush (pc := 45) (v := 8) hx hb dX2_callFunction_45 (by decide) ?_
  refine lv_icmp_le (pc := 47) (tgt := 55) hx hb dX2_callFunction_47 (by decide) (fun c_7 => ?_) (fun c_7 => ?_)
  · have h := h.1 c_7
    exact bX2_callFunction_55 l w N Q E x1 x2 x3 r_6 hR (lv_sub hl [1, 2, 3, 4, 0] rfl) h
  · have h := h.2 c_7
    refine lv_aload_n (pc := 50) hx hb dX2_callFunction_50 rfl (lv_at hl 1 rfl) ?_
    refine lv_iconst (pc := 51) (v := 4) hx hb dX2_callFunction_51 (by decide) ?_
    refine q_cv (pc := 52) hR (q_rV E (xp1 w) (As := [.int 4]) (rest := []) (cX2_fail_met l w hI N 4 _ σ_5 h) ckX2_fail cvX2_fail mw46 ⟨rfl, rfl, Nat.le_of_ble_eq_true rfl, Nat.le_of_ble_eq_true rfl⟩ hR (rc1_3 w) rfl hl.1 rfl (Nat.le_of_ble_eq_true rfl) dX2_callFunction_52) (fun σ_8 H locs h hR => ?_)
    exact bX2_callFunction_55 l w N Q E x1 x2 x3 r_6 hR (lv_sub hl [1, 2, 3, 4, 0] rfl) h
def fX2_callFunction (N : Nat) (x1 : Int32) (x2 : Int32) (Q : St → Prop) (σ : St) : Prop := fX2_readByte N x1 (fun r_2 σ_1 => (((σ_1.1 3 11) = 0 → ((r_2 = 192 → fX2_callFunction_j34 N x1 x2 r_2 Q σ_1) ∧ (¬ r_2 = 192 → ((r_2 = 193 → fX2_callFunction_j34 N x1 x2 r_2 Q σ_1) ∧ (¬ r_2 = 193 → fX2_fail N 4 (fun σ_6 => Q σ_6) σ_1))))) ∧ (¬ (σ_1.1 3 11) = 0 → Q σ_1))) σ
set_option maxHeartbeats 4000000 in
set_option maxRecDepth 100000 in
theorem bX2_callFunction_e {p : Program} {e : Env} {s : State} {m : MethodId} {args : Array Value} {below : List Frame} {meth : Method} {c : Code} (l : Launch) (w : Wd) (N : Nat) (Q : St → Prop) (E : Cx 223 w (X1 w) cX2_callFunction 6 RX2 (.code yX2_callFunction cX2_callFunction 6 none) none p s m args meth c) (x1 : Int32) (x2 : Int32) {σ : St} {H : Heap} {locs : List Loc} {ls : Array Slot} (hR : Rr 223 ev1 w σ s H locs) (hl : lv_has ls 6 [(0, .ref (w.2.1 3)), (1, .int x1), (2, .int x2)]) (h : fX2_callFunction N x1 x2 Q σ) : W p l e rmX2_callFunction s m args below meth c H locs 0 0 (MQ below (va_Qv Q (Rp 223 ev1 w) (Aw 223 w)) args s 0 0 (Aw 223 w)) (F0 m 0 ls []) := by
  obtain ⟨hx, hb, hml, hown, hts, hr, hlk, hK, hI, hX⟩ := id E
  unfold fX2_callFunction at h
  refine lv_aload_n (pc := 0) hx hb dX2_callFunction_0 rfl (lv_at hl 0 rfl) ?_
  refine lv_iload_n (pc := 1) hx hb dX2_callFunction_1 rfl (lv_at hl 1 rfl) ?_
  refine q_ci (pc := 2) hR (q_rV E (xp1 w) (As := [.int x1]) (rest := []) (cX2_readByte_met l w hI N x1 _ σ h) ckX2_readByte cvX2_readByte mw60 ⟨rfl, rfl, Nat.le_of_ble_eq_true rfl, Nat.le_of_ble_eq_true rfl⟩ hR (rc1_3 w) rfl hl.1 rfl (Nat.le_of_ble_eq_true rfl) dX2_callFunction_2) (fun r_2 σ_1 H locs h hR => ?_)
  refine lv_istore_n (pc := 5) (lv' := [(3, .int r_2), (0, .ref (w.2.1 3)), (1, .int x1), (2, .int x2)]) hx hb dX2_callFunction_5 rfl hl (by decide) rfl (fun ls hl => ?_)
  refine lv_aload_n (pc := 6) hx hb dX2_callFunction_6 rfl (lv_at hl 1 rfl) ?_
  refine gf1_3_11 (pc := 7) hx hb hts hown hK hR mw42 dX2_callFunction_7 ?_
  refine lv_if_eq (pc := 10) (tgt := 14) hx hb dX2_callFunction_10 (by decide) (fun c_3 => ?_) (fun c_3 => ?_)
  · have h := h.1 c_3
    refine lv_iload_n (pc := 14) hx hb dX2_callFunction_14 rfl (lv_at hl 0 rfl) ?_
    refine lv_sipush (pc := 15) (v := 192) hx hb dX2_callFunction_15 (by decide) ?_
    refine lv_icmp_eq (pc := 18) (tgt := 34) hx hb dX2_callFunction_18 (by decide) (fun c_4 => ?_) (fun c_4 => ?_)
    · have h := h.1 c_4
      exact bX2_callFunction_34 l w N Q E x1 x2 r_2 hR (lv_sub hl [1, 2, 3, 0] rfl) h
    · have h := h.2 c_4
      refine lv_iload_n (pc := 21) hx hb dX2_callFunction_21 rfl (lv_at hl 0 rfl) ?_
      refine lv_sipush (pc := 22) (v := 193) hx hb dX2_callFunction_22 (by decide) ?_
      refine lv_icmp_eq (pc := 25) (tgt := 34) hx hb dX2_callFunction_25 (by decide) (fun c_5 => ?_) (fun c_5 => ?_)
      · have h := h.1 c_5
        exact bX2_callFunction_34 l w N Q E x1 x2 r_2 hR (lv_sub hl [1, 2, 3, 0] rfl) h
      · have h := h.2 c_5
        refine lv_aload_n (pc := 28) hx hb dX2_callFunction_28 rfl (lv_at hl 1 rfl) ?_
        refine lv_iconst (pc := 29) (v := 4) hx hb dX2_callFunction_29 (by decide) ?_
        refine q_cv (pc := 30) hR (q_rV E (xp1 w) (As := [.int 4]) (rest := []) (cX2_fail_met l w hI N 4 _ σ_1 h) ckX2_fail cvX2_fail mw46 ⟨rfl, rfl, Nat.le_of_ble_eq_true rfl, Nat.le_of_ble_eq_true rfl⟩ hR (rc1_3 w) rfl hl.1 rfl (Nat.le_of_ble_eq_true rfl) dX2_callFunction_30) (fun σ_6 H locs h hR => ?_)
        exact q_vret (pc := 33) E hR h dX2_callFunction_33
  · have h := h.2 c_3
    exact q_vret (pc := 13) E hR h dX2_callFunction_13
theorem cX2_callFunction_met (l : Launch) (w : Wd) (hI : Ij 223 w) (N : Nat) (x1 : Int32) (x2 : Int32) (Q : St → Prop) (σ : St) (h : fX2_callFunction N x1 x2 Q σ) : Met l yX2_callFunction (.code yX2_callFunction cX2_callFunction 6 none :: Uw) rmX2_callFunction (va_Pc [.ref (w.2.1 3), .int x1, .int x2] (fun U => Rp 223 ev1 w σ U ∧ (X1 w) U)) (va_Qv Q (Rp 223 ev1 w) (Aw 223 w)) 0 0 (Aw 223 w) :=
  q_met (by decide) (Nat.le_of_ble_eq_true rfl) hI (fun p e s m below meth c ls E hl hR => bX2_callFunction_e l w N Q E x1 x2 hR hl h)
