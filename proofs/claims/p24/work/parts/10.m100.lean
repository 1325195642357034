-- GlulxStrings.feed(IJ)I
abbrev rmX11_feed : Room := { frames := 0, cells := 0, slots := 0, locals := 0 }
def fX11_feed_l34 (N : Nat) (x2 : Int64) (Q : Int32 → St → Prop) (r34 : Int32 → St → Prop) (x4 : Int32) (σ : St) : Prop := ((x4 < 0 → Q (σ.1 0 6) σ) ∧ (¬ x4 < 0 → ∀ v_6 : Int32, v_6 = ((x2 >>> ((8 * x4).toInt64 &&& 63)).toInt32).toInt8.toInt32 → vp_in (σ.1 0 6) 600 ∧ ∀ σ_8 : St, σ_8 = u1 σ 10 (σ.1 0 6).toNatClampNeg (vp_nar .byte v_6) → ∀ v_9 : Int32, v_9 = (σ_8.1 0 6) + 1 → ∀ σ_10 : St, σ_10 = u1 σ_8 0 6 v_9 → ∀ v_11 : Int32, v_11 = x4 + (-1) → r34 v_11 σ_10))
set_option maxHeartbeats 4000000 in
set_option maxRecDepth 100000 in
theorem bX11_feed_34 {p : Program} {e : Env} {s : State} {m : MethodId} {args : Array Value} {below : List Frame} {meth : Method} {c : Code} (l : Launch) (w : Wd) (N : Nat) (Q : Int32 → St → Prop) (E : Cx 223 w (X1 w) cX11_feed 5 RX11 (.code yX11_feed cX11_feed 5 (some .int)) (some .int) p s m args meth c) (x2 : Int64) : ∀ (n : Nat) (x4 : Int32) (σ : St) (H : Heap) (locs : List Loc) (ls : Array Slot), Rr 223 ev1 w σ s H locs → lv_has ls 5 [(0, .ref (w.2.1 0)), (2, .long x2), (4, .int x4)] → lo1 (fX11_feed_l34 N x2 Q) n x4 σ → W p l e rmX11_feed s m args below meth c H locs 0 0 (MQ below (va_Qi Q (Rp 223 ev1 w) (Aw 223 w)) args s 0 0 (Aw 223 w)) (F0 m 34 ls []) := by
  obtain ⟨hx, hb, hml, hown, hts, hr, hlk, hK, hI, hX⟩ := id E
  intro n
  induction n with
  | zero => intro x4 σ H locs ls hR hl h; exact h.elim
  | succ n ih =>
    intro x4 σ H locs ls hR hl h
    have h : fX11_feed_l34 N x2 Q (lo1 (fX11_feed_l34 N x2 Q) n) x4 σ := h
    unfold fX11_feed_l34 at h
    refine lv_iload (pc := 34) hx hb dX11_feed_34 (lv_at hl 2 rfl) ?_
    refine lv_if_lt (pc := 36) (tgt := 73) hx hb dX11_feed_36 (by decide) (fun c_5 => ?_) (fun c_5 => ?_)
    · have h := h.1 c_5
      refine lv_aload_n (pc := 73) hx hb dX11_feed_73 rfl (lv_at hl 0 rfl) ?_
      refine gf1_0_6 (pc := 74) hx hb hts hown hK hR mw0 dX11_feed_74 ?_
      exact q_iret (pc := 77) E hR h dX11_feed_77
    · have h := h.2 c_5
      refine lv_aload_n (pc := 39) hx hb dX11_feed_39 rfl (lv_at hl 0 rfl) ?_
      refine gf1_0_4 (pc := 40) hx hb hts hown hK hR mw1 dX11_feed_40 ?_
      refine lv_aload_n (pc := 43) hx hb dX11_feed_43 rfl (lv_at hl 0 rfl) ?_
      refine gf1_0_6 (pc := 44) hx hb hts hown hK hR mw0 dX11_feed_44 ?_
      refine lv_lload_n (pc := 47) hx hb dX11_feed_47 rfl (lv_at hl 1 rfl) ?_
      refine lv_bipush (pc := 48) (v := 8) hx hb dX11_feed_48 (by decide) ?_
      refine lv_iload (pc := 50) hx hb dX11_feed_50 (lv_at hl 2 rfl) ?_
      refine lv_imul (pc := 52) hx hb dX11_feed_52 ?_
      refine lv_lshr (pc := 53) (v := x2 >>> ((8 * x4).toInt64 &&& 63)) hx hb dX11_feed_53 rfl ?_
      refine lv_l2i (pc := 54) (v := (x2 >>> ((8 * x4).toInt64 &&& 63)).toInt32) hx hb dX11_feed_54 rfl ?_
      refine lv_i2b (pc := 55) (v := ((x2 >>> ((8 * x4).toInt64 &&& 63)).toInt32).toInt8.toInt32) hx hb dX11_feed_55 rfl ?_
      refine lv_topi (pc := 56) (fun v_6 ev_6 => ?_)
      have h := h v_6 ev_6
      have g_7 := h.1
      have h := h.2
      refine q_bast (pc := 56) hx hb hK hI hR (k := 10) lt1_10 (fun f => (ar1_10 _ f _)) g_7 dX11_feed_56 (fun H locs σ_8 eσ_8 hR => ?_)
      have h := h σ_8 eσ_8
      refine lv_aload_n (pc := 57) hx hb dX11_feed_57 rfl (lv_at hl 0 rfl) ?_
      refine lv_dup (pc := 58) hx hb dX11_feed_58 rfl ?_
      refine gf1_0_6 (pc := 59) hx hb hts hown hK hR mw0 dX11_feed_59 ?_
      refine lv_iconst (pc := 62) (v := 1) hx hb dX11_feed_62 (by decide) ?_
      refine lv_iadd (pc := 63) hx hb dX11_feed_63 ?_
      refine lv_topi (pc := 64) (fun v_9 ev_9 => ?_)
      have h := h v_9 ev_9
      refine pf1_0_6 (pc := 64) hx hb hts hown hK hI hR mw0 dX11_feed_64 (fun H locs σ_10 eσ_10 hR => ?_)
      have h := h σ_10 eσ_10
      obtain ⟨v_11, ev_11⟩ : ∃ z : Int32, z = x4 + (-1) := ⟨_, rfl⟩
      have h := h v_11 ev_11
      refine lv_iinc (pc := 67) (v := v_11) (lv' := [(4, .int v_11), (0, .ref (w.2.1 0)), (2, .long x2)]) hx hb dX11_feed_67 hl (k := 2) rfl (by rw [ev_11]; rfl) (by decide) rfl (fun ls hl => ?_)
      refine lv_goto (pc := 70) (tgt := 34) hx hb dX11_feed_70 (by decide) ?_
      exact ih v_11 σ_10 _ _ _ hR (lv_sub hl [1, 2, 0] rfl) h
def fX11_feed (N : Nat) (x1 : Int32) (x2 : Int64) (Q : Int32 → St → Prop) (σ : St) : Prop := ((x1 < 1 → Q (-2) σ) ∧ (¬ x1 < 1 → ((x1 ≤ 8 → (((σ.1 0 6) ≤ (600 - x1) → ∀ v_4 : Int32, v_4 = x1 - 1 → lo1 (fX11_feed_l34 N x2 Q) N v_4 σ) ∧ (¬ (σ.1 0 6) ≤ (600 - x1) → Q (-4) σ))) ∧ (¬ x1 ≤ 8 → Q (-2) σ))))
set_option maxHeartbeats 4000000 in
set_option maxRecDepth 100000 in
theorem bX11_feed_e {p : Program} {e : Env} {s : State} {m : MethodId} {args : Array Value} {below : List Frame} {meth : Method} {c : Code} (l : Launch) (w : Wd) (N : Nat) (Q : Int32 → St → Prop) (E : Cx 223 w (X1 w) cX11_feed 5 RX11 (.code yX11_feed cX11_feed 5 (some .int)) (some .int) p s m args meth c) (x1 : Int32) (x2 : Int64) {σ : St} {H : Heap} {locs : List Loc} {ls : Array Slot} (hR : Rr 223 ev1 w σ s H locs) (hl : lv_has ls 5 [(0, .ref (w.2.1 0)), (1, .int x1), (2, .long x2)]) (h : fX11_feed N x1 x2 Q σ) : W p l e rmX11_feed s m args below meth c H locs 0 0 (MQ below (va_Qi Q (Rp 223 ev1 w) (Aw 223 w)) args s 0 0 (Aw 223 w)) (F0 m 0 ls []) := by
  obtain ⟨hx, hb, hml, hown, hts, hr, hlk, hK, hI, hX⟩ := id E
  unfold fX11_feed at h
  refine lv_iload_n (pc := 0) hx hb dX11_feed_0 rfl (lv_at hl 1 rfl) ?_
  refine lv_iconst (pc := 1) (v := 1) hx hb dX11_feed_1 (by decide) ?_
  refine lv_icmp_lt (pc := 2) (tgt := 11) hx hb dX11_feed_2 (by decide) (fun c_1 => ?_) (fun c_1 => ?_)
  · have h := h.1 c_1
    refine lv_bipush (pc := 11) (v := (-2)) hx hb dX11_feed_11 (by decide) ?_
    exact q_iret (pc := 13) E hR h dX11_feed_13
  · have h := h.2 c_1
    refine lv_iload_n (pc := 5) hx hb dX11_feed_5 rfl (lv_at hl 1 rfl) ?_
    refine lv_bipush (pc := 6) (v := 8) hx hb dX11_feed_6 (by decide) ?_
    refine lv_icmp_le (pc := 8) (tgt := 14) hx hb dX11_feed_8 (by decide) (fun c_2 => ?_) (fun c_2 => ?_)
    · have h := h.1 c_2
      refine lv_aload_n (pc := 14) hx hb dX11_feed_14 rfl (lv_at hl 0 rfl) ?_
      refine gf1_0_6 (pc := 15) hx hb hts hown hK hR mw0 dX11_feed_15 ?_
      refine lv_sipush (pc := 18) (v := 600) hx hb dX11_feed_18 (by decide) ?_
      refine lv_iload_n (pc := 21) hx hb dX11_feed_21 rfl (lv_at hl 1 rfl) ?_
      refine lv_isub (pc := 22) hx hb dX11_feed_22 ?_
      refine lv_icmp_le (pc := 23) (tgt := 29) hx hb dX11_feed_23 (by decide) (fun c_3 => ?_) (fun c_3 => ?_)
      · have h := h.1 c_3
        refine lv_iload_n (pc := 29) hx hb dX11_feed_29 rfl (lv_at hl 1 rfl) ?_
        refine lv_iconst (pc := 30) (v := 1) hx hb dX11_feed_30 (by decide) ?_
        refine lv_isub (pc := 31) hx hb dX11_feed_31 ?_
        refine lv_topi (pc := 32) (fun v_4 ev_4 => ?_)
        have h := h v_4 ev_4
        refine lv_istore (pc := 32) (lv' := [(4, .int v_4), (0, .ref (w.2.1 0)), (1, .int x1), (2, .long x2)]) hx hb dX11_feed_32 hl (by decide) rfl (fun ls hl => ?_)
        exact bX11_feed_34 l w N Q E x2 N v_4 σ _ _ _ hR (lv_sub hl [1, 3, 0] rfl) h
      · have h := h.2 c_3
        refine lv_bipush (pc := 26) (v := (-4)) hx hb dX11_feed_26 (by decide) ?_
        exact q_iret (pc := 28) E hR h dX11_feed_28
    · have h := h.2 c_2
      refine lv_bipush (pc := 11) (v := (-2)) hx hb dX11_feed_11 (by decide) ?_
      exact q_iret (pc := 13) E hR h dX11_feed_13
theorem cX11_feed_met (l : Launch) (w : Wd) (hI : Ij 223 w) (N : Nat) (x1 : Int32) (x2 : Int64) (Q : Int32 → St → Prop) (σ : St) (h : fX11_feed N x1 x2 Q σ) : Met l yX11_feed (.code yX11_feed cX11_feed 5 (some .int) :: Uw) rmX11_feed (va_Pc [.ref (w.2.1 0), .int x1, .long x2] (fun U => Rp 223 ev1 w σ U ∧ (X1 w) U)) (va_Qi Q (Rp 223 ev1 w) (Aw 223 w)) 0 0 (Aw 223 w) :=
  q_met (by decide) (Nat.le_of_ble_eq_true rfl) hI (fun p e s m below meth c ls E hl hR => bX11_feed_e l w N Q E x1 x2 hR hl h)
-- GlulxStrings$Table.drop()V
abbrev rmX8_drop : Room := { frames := 0, cells := 0, slots := 0, locals := 0 }
def fX8_drop (N : Nat) (Q : St → Prop) (σ : St) : Prop := ∀ σ_1 : St, σ_1 = u1 σ 2 5 0 → ∀ σ_2 : St, σ_2 = u1 σ_1 2 6 0 → ∀ σ_3 : St, σ_3 = u1 σ_2 2 7 0 → Q σ_3
set_option maxHeartbeats 4000000 in
set_option maxRecDepth 100000 in
theorem bX8_drop_e {p : Program} {e : Env} {s : State} {m : MethodId} {args : Array Value} {below : List Frame} {meth : Method} {c : Code} (l : Launch) (w : Wd) (N : Nat) (Q : St → Prop) (E : Cx 223 w (X1 w) cX8_drop 1 RX8 (.code yX8_drop cX8_drop 1 none) none p s m args meth c) {σ : St} {H : Heap} {locs : List Loc} {ls : Array Slot} (hR : Rr 223 ev1 w σ s H locs) (hl : lv_has ls 1 [(0, .ref (w.2.1 2))]) (h : fX8_drop N Q σ) : W p l e rmX8_drop s m args below meth c H locs 0 0 (MQ below (va_Qv Q (Rp 223 ev1 w) (Aw 223 w)) args s 0 0 (Aw 223 w)) (F0 m 0 ls []) := by
  obtain ⟨hx, hb, hml, hown, hts, hr, hlk, hK, hI, hX⟩ := id E
  unfold fX8_drop at h
  refine lv_aload_n (pc := 0) hx hb dX8_drop_0 rfl (lv_at hl 0 rfl) ?_
  refine lv_iconst (pc := 1) (v := 0) hx hb dX8_drop_1 (by decide) ?_
  refine pf1_2_5 (pc := 2) hx hb hts hown hK hI hR mw2 dX8_drop_2 (fun H locs σ_1 eσ_1 hR => ?_)
  have h := h σ_1 eσ_1
  refine lv_aload_n (pc := 5) hx hb dX8_drop_5 rfl (lv_at hl 0 rfl) ?_
  refine lv_iconst (pc := 6) (v := 0) hx hb dX8_drop_6 (by decide) ?_
  refine pf1_2_6 (pc := 7) hx hb hts hown hK hI hR mw3 dX8_drop_7 (fun H locs σ_2 eσ_2 hR => ?_)
  have h := h σ_2 eσ_2
  refine lv_aload_n (pc := 10) hx hb dX8_drop_10 rfl (lv_at hl 0 rfl) ?_
  refine lv_iconst (pc := 11) (v := 0) hx hb dX8_drop_11 (by decide) ?_
  refine pf1_2_7 (pc := 12) hx hb hts hown hK hI hR mw4 dX8_drop_12 (fun H locs σ_3 eσ_3 hR => ?_)
  have h := h σ_3 eσ_3
  exact q_vret (pc := 15) E hR h dX8_drop_15
theorem cX8_drop_met (l : Launch) (w : Wd) (hI : Ij 223 w) (N : Nat) (Q : St → Prop) (σ : St) (h : fX8_drop N Q σ) : Met l yX8_drop (.code yX8_drop cX8_drop 1 none :: Uw) rmX8_drop (va_Pc [.ref (w.2.1 2)] (fun U => Rp 223 ev1 w σ U ∧ (X1 w) U)) (va_Qv Q (Rp 223 ev1 w) (Aw 223 w)) 0 0 (Aw 223 w) :=
  q_met (by decide) (Nat.le_of_ble_eq_true rfl) hI (fun p e s m below meth c ls E hl hR => bX8_drop_e l w N Q E hR hl h)
-- GlulxStrings$Table.dropIfTouched(II)V
abbrev rmX8_dropIfTouched : Room := { frames := 1, cells := 0, slots := 0, locals := 20 }
def fX8_dropIfTouched (N : Nat) (x1 : Int32) (x2 : Int32) (Q : St → Prop) (σ : St) : Prop := (((σ.1 2 6) ≤ x1 → Q σ) ∧ (¬ (σ.1 2 6) ≤ x1 → ((x2 ≤ (σ.1 2 5) → Q σ) ∧ (¬ x2 ≤ (σ.1 2 5) → fX8_drop N (fun σ_3 => Q σ_3) σ))))
set_option maxHeartbeats 4000000 in
set_option maxRecDepth 100000 in
theorem bX8_dropIfTouched_e {p : Program} {e : Env} {s : State} {m : MethodId} {args : Array Value} {below : List Frame} {meth : Method} {c : Code} (l : Launch) (w : Wd) (N : Nat) (Q : St → Prop) (E : Cx 223 w (X1 w) cX8_dropIfTouched 3 RX8 (.code yX8_dropIfTouched cX8_dropIfTouched 3 none) none p s m args meth c) (x1 : Int32) (x2 : Int32) {σ : St} {H : Heap} {locs : List Loc} {ls : Array Slot} (hR : Rr 223 ev1 w σ s H locs) (hl : lv_has ls 3 [(0, .ref (w.2.1 2)), (1, .int x1), (2, .int x2)]) (h : fX8_dropIfTouched N x1 x2 Q σ) : W p l e rmX8_dropIfTouched s m args below meth c H locs 0 0 (MQ below (va_Qv Q (Rp 223 ev1 w) (Aw 223 w)) args s 0 0 (Aw 223 w)) (F0 m 0 ls []) := by
  obtain ⟨hx, hb, hml, hown, hts, hr, hlk, hK, hI, hX⟩ := id E
  unfold fX8_dropIfTouched at h
  refine lv_iload_n (pc := 0) hx hb dX8_dropIfTouched_0 rfl (lv_at hl 1 rfl) ?_
  refine lv_aload_n (pc := 1) hx hb dX8_dropIfTouched_1 rfl (lv_at hl 0 rfl) ?_
  refine gf1_2_6 (pc := 2) hx hb hts hown hK hR mw3 dX8_dropIfTouched_2 ?_
  refine lv_icmp_ge (pc := 5) (tgt := 20) hx hb dX8_dropIfTouched_5 (by decide) (fun c_1 => ?_) (fun c_1 => ?_)
  · have h := h.1 c_1
    exact q_vret (pc := 20) E hR h dX8_dropIfTouched_20
  · have h := h.2 c_1
    refine lv_iload_n (pc := 8) hx hb dX8_dropIfTouched_8 rfl (lv_at hl 2 rfl) ?_
    refine lv_aload_n (pc := 9) hx hb dX8_dropIfTouched_9 rfl (lv_at hl 0 rfl) ?_
    refine gf1_2_5 (pc := 10) hx hb hts hown hK hR mw2 dX8_dropIfTouched_10 ?_
    refine lv_icmp_le (pc := 13) (tgt := 20) hx hb dX8_dropIfTouched_13 (by decide) (fun c_2 => ?_) (fun c_2 => ?_)
    · have h := h.1 c_2
      exact q_vret (pc := 20) E hR h dX8_dropIfTouched_20
    · have h := h.2 c_2
      refine lv_aload_n (pc := 16) hx hb dX8_dropIfTouched_16 rfl (lv_at hl 0 rfl) ?_
      refine q_cv (pc := 17) hR (q_rV E (xp1 w) (As := []) (rest := []) (cX8_drop_met l w hI N _ σ h) ckX8_drop cvX8_drop mw5 ⟨rfl, rfl, Nat.le_of_ble_eq_true rfl, Nat.le_of_ble_eq_true rfl⟩ hR (rc1_2 w) rfl hl.1 rfl (Nat.le_of_ble_eq_true rfl) dX8_dropIfTouched_17) (fun σ_3 H locs h hR => ?_)
      exact q_vret (pc := 20) E hR h dX8_dropIfTouched_20
theorem cX8_dropIfTouched_met (l : Launch) (w : Wd) (hI : Ij 223 w) (N : Nat) (x1 : Int32) (x2 : Int32) (Q : St → Prop) (σ : St) (h : fX8_dropIfTouched N x1 x2 Q σ) : Met l yX8_dropIfTouched (.code yX8_dropIfTouched cX8_dropIfTouched 3 none :: Uw) rmX8_dropIfTouched (va_Pc [.ref (w.2.1 2), .int x1, .int x2] (fun U => Rp 223 ev1 w σ U ∧ (X1 w) U)) (va_Qv Q (Rp 223 ev1 w) (Aw 223 w)) 0 0 (Aw 223 w) :=
  q_met (by decide) (Nat.le_of_ble_eq_true rfl) hI (fun p e s m below meth c ls E hl hR => bX8_dropIfTouched_e l w N Q E x1 x2 hR hl h)
-- GlulxStrings.load(I)I
abbrev rmX11_load : Room := { frames := 2, cells := 0, slots := 0, locals := 60 }
def fX11_load (N : Nat) (x1 : Int32) (Q : Int32 → St → Prop) (σ : St) : Prop := ∀ v_1 : Int32, v_1 = σ.1 0 6 → ∀ σ_2 : St, σ_2 = u1 σ 0 6 0 → ((v_1 = 0 → Q 0 σ_2) ∧ (¬ v_1 = 0 → ((x1 < 0 → Q (-2) σ_2) ∧ (¬ x1 < 0 → ((x1 ≤ (4096 - v_1) → acOk 0 x1 v_1 ∧ byK σ_2 10 ∧ ∀ σ_7 : St, σ_7 = acSt σ_2 0 x1 v_1 → fX8_dropIfTouched N x1 (x1 + v_1) (fun σ_8 => Q v_1 σ_8) σ_7) ∧ (¬ x1 ≤ (4096 - v_1) → Q (-2) σ_2))))))
set_option maxHeartbeats 4000000 in
set_option maxRecDepth 100000 in
theorem bX11_load_e {p : Program} {e : Env} {s : State} {m : MethodId} {args : Array Value} {below : List Frame} {meth : Method} {c : Code} (l : Launch) (w : Wd) (N : Nat) (Q : Int32 → St → Prop) (E : Cx 223 w (X1 w) cX11_load 3 RX11 (.code yX11_load cX11_load 3 (some .int)) (some .int) p s m args meth c) (x1 : Int32) {σ : St} {H : Heap} {locs : List Loc} {ls : Array Slot} (hR : Rr 223 ev1 w σ s H locs) (hl : lv_has ls 3 [(0, .ref (w.2.1 0)), (1, .int x1)]) (h : fX11_load N x1 Q σ) : W p l e rmX11_load s m args below meth c H locs 0 0 (MQ below (va_Qi Q (Rp 223 ev1 w) (Aw 223 w)) args s 0 0 (Aw 223 w)) (F0 m 0 ls []) := by
  obtain ⟨hx, hb, hml, hown, hts, hr, hlk, hK, hI, hX⟩ := id E
  unfold fX11_load at h
  refine lv_aload_n (pc := 0) hx hb dX11_load_0 rfl (lv_at hl 0 rfl) ?_
  refine gf1_0_6 (pc := 1) hx hb hts hown hK hR mw0 dX11_load_1 ?_
  refine lv_topi (pc := 4) (fun v_1 ev_1 => ?_)
  have h := h v_1 ev_1
  refine lv_istore_n (pc := 4) (lv' := [(2, .int v_1), (0, .ref (w.2.1 0)), (1, .int x1)]) hx hb dX11_load_4 rfl hl (by decide) rfl (fun ls hl => ?_)
  refine lv_aload_n (pc := 5) hx hb dX11_load_5 rfl (lv_at hl 1 rfl) ?_
  refine lv_iconst (pc := 6) (v := 0) hx hb dX11_load_6 (by decide) ?_
  refine pf1_0_6 (pc := 7) hx hb hts hown hK hI hR mw0 dX11_load_7 (fun H locs σ_2 eσ_2 hR => ?_)
  have h := h σ_2 eσ_2
  refine lv_iload_n (pc := 10) hx hb dX11_load_10 rfl (lv_at hl 0 rfl) ?_
  refine lv_if_ne (pc := 11) (tgt := 16) hx hb dX11_load_11 (by decide) (fun c_3 => ?_) (fun c_3 => ?_)
  · have h := h.2 c_3
    refine lv_iload_n (pc := 16) hx hb dX11_load_16 rfl (lv_at hl 2 rfl) ?_
    refine lv_if_lt (pc := 17) (tgt := 29) hx hb dX11_load_17 (by decide) (fun c_4 => ?_) (fun c_4 => ?_)
    · have h := h.1 c_4
      refine lv_bipush (pc := 29) (v := (-2)) hx hb dX11_load_29 (by decide) ?_
      exact q_iret (pc := 31) E hR h dX11_load_31
    · have h := h.2 c_4
      refine lv_iload_n (pc := 20) hx hb dX11_load_20 rfl (lv_at hl 2 rfl) ?_
      refine lv_sipush (pc := 21) (v := 4096) hx hb dX11_load_21 (by decide) ?_
      refine lv_iload_n (pc := 24) hx hb dX11_load_24 rfl (lv_at hl 0 rfl) ?_
      refine lv_isub (pc := 25) hx hb dX11_load_25 ?_
      refine lv_icmp_le (pc := 26) (tgt := 32) hx hb dX11_load_26 (by decide) (fun c_5 => ?_) (fun c_5 => ?_)
      · have h := h.1 c_5
        refine lv_aload_n (pc := 32) hx hb dX11_load_32 rfl (lv_at hl 1 rfl) ?_
        refine gf1_0_4 (pc := 33) hx hb hts hown hK hR mw1 dX11_load_33 ?_
        refine lv_iconst (pc := 36) (v := 0) hx hb dX11_load_36 (by decide) ?_
        refine lv_aload_n (pc := 37) hx hb dX11_load_37 rfl (lv_at hl 1 rfl) ?_
        refine gf1_0_0 (pc := 38) hx hb hts hown hK hR mw6 dX11_load_38 ?_
        refine gf1_1_0 (pc := 41) hx hb hts hown hK hR mw7 dX11_load_41 ?_
        refine lv_iload_n (pc := 44) hx hb dX11_load_44 rfl (lv_at hl 2 rfl) ?_
        refine lv_iload_n (pc := 45) hx hb dX11_load_45 rfl (lv_at hl 0 rfl) ?_
        have g_6 := h.1
        have h := h.2
        have g_6b := h.1
        have h := h.2
        refine q_ac (pc := 46) hx hb hml hown hts hK hI hR hl.1 mw8 g_6 g_6b (Nat.le_of_ble_eq_true rfl) (Nat.le_of_ble_eq_true rfl) dX11_load_46 (fun H locs σ_7 eσ_7 hR => ?_)
        have h := h σ_7 eσ_7
        refine lv_aload_n (pc := 49) hx hb dX11_load_49 rfl (lv_at hl 1 rfl) ?_
        refine gf1_0_1 (pc := 50) hx hb hts hown hK hR mw9 dX11_load_50 ?_
        refine lv_iload_n (pc := 53) hx hb dX11_load_53 rfl (lv_at hl 2 rfl) ?_
        refine lv_iload_n (pc := 54) hx hb dX11_load_54 rfl (lv_at hl 2 rfl) ?_
        refine lv_iload_n (pc := 55) hx hb dX11_load_55 rfl (lv_at hl 0 rfl) ?_
        refine lv_iadd (pc := 56) hx hb dX11_load_56 ?_
        refine q_cv (pc := 57) hR (q_rV E (xp1 w) (As := [.int x1, .int (x1 + v_1)]) (rest := []) (cX8_dropIfTouched_met l w hI N x1 (x1 + v_1) _ σ_7 h) ckX8_dropIfTouched cvX8_dropIfTouched mw10 ⟨rfl, rfl, Nat.le_of_ble_eq_true rfl, Nat.le_of_ble_eq_true rfl⟩ hR (rc1_2 w) rfl hl.1 rfl (Nat.le_of_ble_eq_true rfl) dX11_load_57) (fun σ_8 H locs h hR => ?_)
        refine lv_iload_n (pc := 60) hx hb dX11_load_60 rfl (lv_at hl 0 rfl) ?_
        exact q_iret (pc := 61) E hR h dX11_load_61
      · have h := h.2 c_5
        refine lv_bipush (pc := 29) (v := (-2)) hx hb dX11_load_29 (by decide) ?_
        exact q_iret (pc := 31) E hR h dX11_load_31
  · have h := h.1 c_3
    refine lv_iconst (pc := 14) (v := 0) hx hb dX11_load_14 (by decide) ?_
    exact q_iret (pc := 15) E hR h dX11_load_15
theorem cX11_load_met (l : Launch) (w : Wd) (hI : Ij 223 w) (N : Nat) (x1 : Int32) (Q : Int32 → St → Prop) (σ : St) (h : fX11_load N x1 Q σ) : Met l yX11_load (.code yX11_load cX11_load 3 (some .int) :: Uw) rmX11_load (va_Pc [.ref (w.2.1 0), .int x1] (fun U => Rp 223 ev1 w σ U ∧ (X1 w) U)) (va_Qi Q (Rp 223 ev1 w) (Aw 223 w)) 0 0 (Aw 223 w) :=
  q_met (by decide) (Nat.le_of_ble_eq_true rfl) hI (fun p e s m below meth c ls E hl hR => bX11_load_e l w N Q E x1 hR hl h)
-- GlulxStrings.border(I)I
abbrev rmX11_border : Room := { frames := 1, cells := 0, slots := 0, locals := 20 }
def fX11_border (N : Nat) (x1 : Int32) (Q : Int32 → St → Prop) (σ : St) : Prop := ((x1 < 0 → Q (-2) σ) ∧ (¬ x1 < 0 → ((x1 ≤ 4096 → ∀ v_3 : Int32, v_3 = σ.1 1 1 → ∀ σ_4 : St, σ_4 = u1 σ 1 1 x1 → fX8_drop N (fun σ_5 => Q v_3 σ_5) σ_4) ∧ (¬ x1 ≤ 4096 → Q (-2) σ))))
set_option maxHeartbeats 4000000 in
set_option maxRecDepth 100000 in
theorem bX11_border_e {p : Program} {e : Env} {s : State} {m : MethodId} {args : Array Value} {below : List Frame} {meth : Method} {c : Code} (l : Launch) (w : Wd) (N : Nat) (Q : Int32 → St → Prop) (E : Cx 223 w (X1 w) cX11_border 3 RX11 (.code yX11_border cX11_border 3 (some .int)) (some .int) p s m args meth c) (x1 : Int32) {σ : St} {H : Heap} {locs : List Loc} {ls : Array Slot} (hR : Rr 223 ev1 w σ s H locs) (hl : lv_has ls 3 [(0, .ref (w.2.1 0)), (1, .int x1)]) (h : fX11_border N x1 Q σ) : W p l e rmX11_border s m args below meth c H locs 0 0 (MQ below (va_Qi Q (Rp 223 ev1 w) (Aw 223 w)) args s 0 0 (Aw 223 w)) (F0 m 0 ls []) := by
  obtain ⟨hx, hb, hml, hown, hts, hr, hlk, hK, hI, hX⟩ := id E
  unfold fX11_border at h
  refine lv_iload_n (pc := 0) hx hb dX11_border_0 rfl (lv_at hl 1 rfl) ?_
  refine lv_if_lt (pc := 1) (tgt := 11) hx hb dX11_border_1 (by decide) (fun c_1 => ?_) (fun c_1 => ?_)
  · have h := h.1 c_1
    refine lv_bipush (pc := 11) (v := (-2)) hx hb dX11_border_11 (by decide) ?_
    exact q_iret (pc := 13) E hR h dX11_border_13
  · have h := h.2 c_1
    refine lv_iload_n (pc := 4) hx hb dX11_border_4 rfl (lv_at hl 1 rfl) ?_
    refine lv_sipush (pc := 5) (v := 4096) hx hb dX11_border_5 (by decide) ?_
    refine lv_icmp_le (pc := 8) (tgt := 14) hx hb dX11_border_8 (by decide) (fun c_2 => ?_) (fun c_2 => ?_)
    · have h := h.1 c_2
      refine lv_aload_n (pc := 14) hx hb dX11_border_14 rfl (lv_at hl 0 rfl) ?_
      refine gf1_0_0 (pc := 15) hx hb hts hown hK hR mw6 dX11_border_15 ?_
      refine gf1_1_1 (pc := 18) hx hb hts hown hK hR mw11 dX11_border_18 ?_
      refine lv_topi (pc := 21) (fun v_3 ev_3 => ?_)
      have h := h v_3 ev_3
      refine lv_istore_n (pc := 21) (lv' := [(2, .int v_3), (0, .ref (w.2.1 0)), (1, .int x1)]) hx hb dX11_border_21 rfl hl (by decide) rfl (fun ls hl => ?_)
      refine lv_aload_n (pc := 22) hx hb dX11_border_22 rfl (lv_at hl 1 rfl) ?_
      refine gf1_0_0 (pc := 23) hx hb hts hown hK hR mw6 dX11_border_23 ?_
      refine lv_iload_n (pc := 26) hx hb dX11_border_26 rfl (lv_at hl 2 rfl) ?_
      refine pf1_1_1 (pc := 27) hx hb hts hown hK hI hR mw11 dX11_border_27 (fun H locs σ_4 eσ_4 hR => ?_)
      have h := h σ_4 eσ_4
      refine lv_aload_n (pc := 30) hx hb dX11_border_30 rfl (lv_at hl 1 rfl) ?_
      refine gf1_0_1 (pc := 31) hx hb hts hown hK hR mw9 dX11_border_31 ?_
      refine q_cv (pc := 34) hR (q_rV E (xp1 w) (As := []) (rest := []) (cX8_drop_met l w hI N _ σ_4 h) ckX8_drop cvX8_drop mw12 ⟨rfl, rfl, Nat.le_of_ble_eq_true rfl, Nat.le_of_ble_eq_true rfl⟩ hR (rc1_2 w) rfl hl.1 rfl (Nat.le_of_ble_eq_true rfl) dX11_border_34) (fun σ_5 H locs h hR => ?_)
      refine lv_iload_n (pc := 37) hx hb dX11_border_37 rfl (lv_at hl 0 rfl) ?_
      exact q_iret (pc := 38) E hR h dX11_border_38
    · have h := h.2 c_2
      refine lv_bipush (pc := 11) (v := (-2)) hx hb dX11_border_11 (by decide) ?_
      exact q_iret (pc := 13) E hR h dX11_border_13
theorem cX11_border_met (l : Launch) (w : Wd) (hI : Ij 223 w) (N : Nat) (x1 : Int32) (Q : Int32 → St → Prop) (σ : St) (h : fX11_border N x1 Q σ) : Met l yX11_border (.code yX11_border cX11_border 3 (some .int) :: Uw) rmX11_border (va_Pc [.ref (w.2.1 0), .int x1] (fun U => Rp 223 ev1 w σ U ∧ (X1 w) U)) (va_Qi Q (Rp 223 ev1 w) (Aw 223 w)) 0 0 (Aw 223 w) :=
  q_met (by decide) (Nat.le_of_ble_eq_true rfl) hI (fun p e s m below meth c ls E hl hR => bX11_border_e l w N Q E x1 hR hl h)
-- GlulxStrings$Memory.has(I)Z
abbrev rmX3_has : Room := { frames := 0, cells := 0, slots := 0, locals := 0 }
def fX3_has (N : Nat) (x1 : Int32) (Q : Int32 → St → Prop) (σ : St) : Prop := ((x1 < 0 → Q 0 σ) ∧ (¬ x1 < 0 → ((4096 ≤ x1 → Q 0 σ) ∧ (¬ 4096 ≤ x1 → Q 1 σ))))
set_option maxHeartbeats 4000000 in
set_option maxRecDepth 100000 in
theorem bX3_has_e {p : Program} {e : Env} {s : State} {m : MethodId} {args : Array Value} {below : List Frame} {meth : Method} {c : Code} (l : Launch) (w : Wd) (N : Nat) (Q : Int32 → St → Prop) (E : Cx 223 w (X1 w) cX3_has 2 RX3 (.code yX3_has cX3_has 2 (some .boolean)) (some .boolean) p s m args meth c) (x1 : Int32) {σ : St} {H : Heap} {locs : List Loc} {ls : Array Slot} (hR : Rr 223 ev1 w σ s H locs) (hl : lv_has ls 2 [(0, .ref (w.2.1 1)), (1, .int x1)]) (h : fX3_has N x1 Q σ) : W p l e rmX3_has s m args below meth c H locs 0 0 (MQ below (va_Qi Q (Rp 223 ev1 w) (Aw 223 w)) args s 0 0 (Aw 223 w)) (F0 m 0 ls []) := by
  obtain ⟨hx, hb, hml, hown, hts, hr, hlk, hK, hI, hX⟩ := id E
  unfold fX3_has at h
  refine lv_iload_n (pc := 0) hx hb dX3_has_0 rfl (lv_at hl 1 rfl) ?_
  refine lv_if_lt (pc := 1) (tgt := 15) hx hb dX3_has_1 (by decide) (fun c_1 => ?_) (fun c_1 => ?_)
  · have h := h.1 c_1
    refine lv_iconst (pc := 15) (v := 0) hx hb dX3_has_15 (by decide) ?_
    exact q_zret (pc := 16) E hR h rfl dX3_has_16
  · have h := h.2 c_1
    refine lv_iload_n (pc := 4) hx hb dX3_has_4 rfl (lv_at hl 1 rfl) ?_
    refine lv_sipush (pc := 5) (v := 4096) hx hb dX3_has_5 (by decide) ?_
    refine lv_icmp_ge (pc := 8) (tgt := 15) hx hb dX3_has_8 (by decide) (fun c_2 => ?_) (fun c_2 => ?_)
    · have h := h.1 c_2
      refine lv_iconst (pc := 15) (v := 0) hx hb dX3_has_15 (by decide) ?_
      exact q_zret (pc := 16) E hR h rfl dX3_has_16
    · have h := h.2 c_2
      refine lv_iconst (pc := 11) (v := 1) hx hb dX3_has_11 (by decide) ?_
      refine lv_goto (pc := 12) (tgt := 16) hx hb dX3_has_12 (by decide) ?_
      exact q_zret (pc := 16) E hR h rfl dX3_has_16
theorem cX3_has_met (l : Launch) (w : Wd) (hI : Ij 223 w) (N : Nat) (x1 : Int32) (Q : Int32 → St → Prop) (σ : St) (h : fX3_has N x1 Q σ) : Met l yX3_has (.code yX3_has cX3_has 2 (some .boolean) :: Uw) rmX3_has (va_Pc [.ref (w.2.1 1), .int x1] (fun U => Rp 223 ev1 w σ U ∧ (X1 w) U)) (va_Qi Q (Rp 223 ev1 w) (Aw 223 w)) 0 0 (Aw 223 w) :=
  q_met (by decide) (Nat.le_of_ble_eq_true rfl) hI (fun p e s m below meth c ls E hl hR => bX3_has_e l w N Q E x1 hR hl h)
-- GlulxStrings$Memory.byteOf(I)I
abbrev rmX3_byteOf : Room := { frames := 0, cells := 0, slots := 0, locals := 0 }
def fX3_byteOf (N : Nat) (x1 : Int32) (Q : Int32 → St → Prop) (σ : St) : Prop := ((x1 < 0 → Q 0 σ) ∧ (¬ x1 < 0 → ((4096 ≤ x1 → Q 0 σ) ∧ (¬ 4096 ≤ x1 → vp_in x1 4096 ∧ Q ((σ.1 12 x1.toNatClampNeg) &&& 255) σ))))
set_option maxHeartbeats 4000000 in
set_option maxRecDepth 100000 in
theorem bX3_byteOf_e {p : Program} {e : Env} {s : State} {m : MethodId} {args : Array Value} {below : List Frame} {meth : Method} {c : Code} (l : Launch) (w : Wd) (N : Nat) (Q : Int32 → St → Prop) (E : Cx 223 w (X1 w) cX3_byteOf 2 RX3 (.code yX3_byteOf cX3_byteOf 2 (some .int)) (some .int) p s m args meth c) (x1 : Int32) {σ : St} {H : Heap} {locs : List Loc} {ls : Array Slot} (hR : Rr 223 ev1 w σ s H locs) (hl : lv_has ls 2 [(0, .ref (w.2.1 1)), (1, .int x1)]) (h : fX3_byteOf N x1 Q σ) : W p l e rmX3_byteOf s m args below meth c H locs 0 0 (MQ below (va_Qi Q (Rp 223 ev1 w) (Aw 223 w)) args s 0 0 (Aw 223 w)) (F0 m 0 ls []) := by
  obtain ⟨hx, hb, hml, hown, hts, hr, hlk, hK, hI, hX⟩ := id E
  unfold fX3_byteOf at h
  refine lv_iload_n (pc := 0) hx hb dX3_byteOf_0 rfl (lv_at hl 1 rfl) ?_
  refine lv_if_lt (pc := 1) (tgt := 24) hx hb dX3_byteOf_1 (by decide) (fun c_1 => ?_) (fun c_1 => ?_)
  · have h := h.1 c_1
    refine lv_iconst (pc := 24) (v := 0) hx hb dX3_byteOf_24 (by decide) ?_
    exact q_iret (pc := 25) E hR h dX3_byteOf_25
  · have h := h.2 c_1
    refine lv_iload_n (pc := 4) hx hb dX3_byteOf_4 rfl (lv_at hl 1 rfl) ?_
    refine lv_sipush (pc := 5) (v := 4096) hx hb dX3_byteOf_5 (by decide) ?_
    refine lv_icmp_ge (pc := 8) (tgt := 24) hx hb dX3_byteOf_8 (by decide) (fun c_2 => ?_) (fun c_2 => ?_)
    · have h := h.1 c_2
      refine lv_iconst (pc := 24) (v := 0) hx hb dX3_byteOf_24 (by decide) ?_
      exact q_iret (pc := 25) E hR h dX3_byteOf_25
    · have h := h.2 c_2
      refine lv_aload_n (pc := 11) hx hb dX3_byteOf_11 rfl (lv_at hl 0 rfl) ?_
      refine gf1_1_0 (pc := 12) hx hb hts hown hK hR mw13 dX3_byteOf_12 ?_
      refine lv_iload_n (pc := 15) hx hb dX3_byteOf_15 rfl (lv_at hl 1 rfl) ?_
      have g_3 := h.1
      have h := h.2
      refine q_bald (pc := 16) hx hb hK hR (k := 12) lt1_12 (ar1_12 _ _ _) g_3 dX3_byteOf_16 ?_
      refine lv_sipush (pc := 17) (v := 255) hx hb dX3_byteOf_17 (by decide) ?_
      refine lv_iand (pc := 20) hx hb dX3_byteOf_20 ?_
      refine lv_goto (pc := 21) (tgt := 25) hx hb dX3_byteOf_21 (by decide) ?_
      exact q_iret (pc := 25) E hR h dX3_byteOf_25
theorem cX3_byteOf_met (l : Launch) (w : Wd) (hI : Ij 223 w) (N : Nat) (x1 : Int32) (Q : Int32 → St → Prop) (σ : St) (h : fX3_byteOf N x1 Q σ) : Met l yX3_byteOf (.code yX3_byteOf cX3_byteOf 2 (some .int) :: Uw) rmX3_byteOf (va_Pc [.ref (w.2.1 1), .int x1] (fun U => Rp 223 ev1 w σ U ∧ (X1 w) U)) (va_Qi Q (Rp 223 ev1 w) (Aw 223 w)) 0 0 (Aw 223 w) :=
  q_met (by decide) (Nat.le_of_ble_eq_true rfl) hI (fun p e s m below meth c ls E hl hR => bX3_byteOf_e l w N Q E x1 hR hl h)
-- GlulxStrings.byteAt(I)I
abbrev rmX11_byteAt : Room := { frames := 1, cells := 0, slots := 0, locals := 21 }
def fX11_byteAt (N : Nat) (x1 : Int32) (Q : Int32 → St → Prop) (σ : St) : Prop := fX3_has N x1 (fun r_2 σ_1 => ((r_2 = 0 → Q (-1) σ_1) ∧ (¬ r_2 = 0 → fX3_byteOf N x1 (fun r_5 σ_4 => Q r_5 σ_4) σ_1))) σ
set_option maxHeartbeats 4000000 in
set_option maxRecDepth 100000 in
theorem bX11_byteAt_e {p : Program} {e : Env} {s : State} {m : MethodId} {args : Array Value} {below : List Frame} {meth : Method} {c : Code} (l : Launch) (w : Wd) (N : Nat) (Q : Int32 → St → Prop) (E : Cx 223 w (X1 w) cX11_byteAt 2 RX11 (.code yX11_byteAt cX11_byteAt 2 (some .int)) (some .int) p s m args meth c) (x1 : Int32) {σ : St} {H : Heap} {locs : List Loc} {ls : Array Slot} (hR : Rr 223 ev1 w σ s H locs) (hl : lv_has ls 2 [(0, .ref (w.2.1 0)), (1, .int x1)]) (h : fX11_byteAt N x1 Q σ) : W p l e rmX11_byteAt s m args below meth c H locs 0 0 (MQ below (va_Qi Q (Rp 223 ev1 w) (Aw 223 w)) args s 0 0 (Aw 223 w)) (F0 m 0 ls []) := by
  obtain ⟨hx, hb, hml, hown, hts, hr, hlk, hK, hI, hX⟩ := id E
  unfold fX11_byteAt at h
  refine lv_aload_n (pc := 0) hx hb dX11_byteAt_0 rfl (lv_at hl 0 rfl) ?_
  refine gf1_0_0 (pc := 1) hx hb hts hown hK hR mw6 dX11_byteAt_1 ?_
  refine lv_iload_n (pc := 4) hx hb dX11_byteAt_4 rfl (lv_at hl 1 rfl) ?_
  refine q_ci (pc := 5) hR (q_rV E (xp1 w) (As := [.int x1]) (rest := []) (cX3_has_met l w hI N x1 _ σ h) ckX3_has cvX3_has mw14 ⟨rfl, rfl, Nat.le_of_ble_eq_true rfl, Nat.le_of_ble_eq_true rfl⟩ hR (rc1_1 w) rfl hl.1 rfl (Nat.le_of_ble_eq_true rfl) dX11_byteAt_5) (fun r_2 σ_1 H locs h hR => ?_)
  refine lv_if_eq (pc := 8) (tgt := 22) hx hb dX11_byteAt_8 (by decide) (fun c_3 => ?_) (fun c_3 => ?_)
  · have h := h.1 c_3
    refine lv_iconst (pc := 22) (v := (-1)) hx hb dX11_byteAt_22 (by decide) ?_
    exact q_iret (pc := 23) E hR h dX11_byteAt_23
  · have h := h.2 c_3
    refine lv_aload_n (pc := 11) hx hb dX11_byteAt_11 rfl (lv_at hl 0 rfl) ?_
    refine gf1_0_0 (pc := 12) hx hb hts hown hK hR mw6 dX11_byteAt_12 ?_
    refine lv_iload_n (pc := 15) hx hb dX11_byteAt_15 rfl (lv_at hl 1 rfl) ?_
    refine q_ci (pc := 16) hR (q_rV E (xp1 w) (As := [.int x1]) (rest := []) (cX3_byteOf_met l w hI N x1 _ σ_1 h) ckX3_byteOf cvX3_byteOf mw15 ⟨rfl, rfl, Nat.le_of_ble_eq_true rfl, Nat.le_of_ble_eq_true rfl⟩ hR (rc1_1 w) rfl hl.1 rfl (Nat.le_of_ble_eq_true rfl) dX11_byteAt_16) (fun r_5 σ_4 H locs h hR => ?_)
    refine lv_goto (pc := 19) (tgt := 23) hx hb dX11_byteAt_19 (by decide) ?_
    exact q_iret (pc := 23) E hR h dX11_byteAt_23
theorem cX11_byteAt_met (l : Launch) (w : Wd) (hI : Ij 223 w) (N : Nat) (x1 : Int32) (Q : Int32 → St → Prop) (σ : St) (h : fX11_byteAt N x1 Q σ) : Met l yX11_byteAt (.code yX11_byteAt cX11_byteAt 2 (some .int) :: Uw) rmX11_byteAt (va_Pc [.ref (w.2.1 0), .int x1] (fun U => Rp 223 ev1 w σ U ∧ (X1 w) U)) (va_Qi Q (Rp 223 ev1 w) (Aw 223 w)) 0 0 (Aw 223 w) :=
  q_met (by decide) (Nat.le_of_ble_eq_true rfl) hI (fun p e s m below meth c ls E hl hR => bX11_byteAt_e l w N Q E x1 hR hl h)
-- GlulxStrings$Memory.fourOf(I)I
abbrev rmX3_fourOf : Room := { frames := 0, cells := 0, slots := 0, locals := 0 }
def fX3_fourOf (N : Nat) (x1 : Int32) (Q : Int32 → St → Prop) (σ : St) : Prop := ((x1 < 0 → Q 0 σ) ∧ (¬ x1 < 0 → ((x1 ≤ 4092 → vp_in x1 4096 ∧ vp_in (x1 + 1) 4096 ∧ vp_in (x1 + 2) 4096 ∧ vp_in (x1 + 3) 4096 ∧ Q ((((((σ.1 12 x1.toNatClampNeg) &&& 255) <<< (24 &&& 31)) ||| (((σ.1 12 (x1 + 1).toNatClampNeg) &&& 255) <<< (16 &&& 31))) ||| (((σ.1 12 (x1 + 2).toNatClampNeg) &&& 255) <<< (8 &&& 31))) ||| ((σ.1 12 (x1 + 3).toNatClampNeg) &&& 255)) σ) ∧ (¬ x1 ≤ 4092 → Q 0 σ))))
set_option maxHeartbeats 4000000 in
set_option maxRecDepth 100000 in
theorem bX3_fourOf_e {p : Program} {e : Env} {s : State} {m : MethodId} {args : Array Value} {below : List Frame} {meth : Method} {c : Code} (l : Launch) (w : Wd) (N : Nat) (Q : Int32 → St → Prop) (E : Cx 223 w (X1 w) cX3_fourOf 2 RX3 (.code yX3_fourOf cX3_fourOf 2 (some .int)) (some .int) p s m args meth c) (x1 : Int32) {σ : St} {H : Heap} {locs : List Loc} {ls : Array Slot} (hR : Rr 223 ev1 w σ s H locs) (hl : lv_has ls 2 [(0, .ref (w.2.1 1)), (1, .int x1)]) (h : fX3_fourOf N x1 Q σ) : W p l e rmX3_fourOf s m args below meth c H locs 0 0 (MQ below (va_Qi Q (Rp 223 ev1 w) (Aw 223 w)) args s 0 0 (Aw 223 w)) (F0 m 0 ls []) := by
  obtain ⟨hx, hb, hml, hown, hts, hr, hlk, hK, hI, hX⟩ := id E
  unfold fX3_fourOf at h
  refine lv_iload_n (pc := 0) hx hb dX3_fourOf_0 rfl (lv_at hl 1 rfl) ?_
  refine lv_if_lt (pc := 1) (tgt := 11) hx hb dX3_fourOf_1 (by decide) (fun c_1 => ?_) (fun c_1 => ?_)
  · have h := h.1 c_1
    refine lv_iconst (pc := 11) (v := 0) hx hb dX3_fourOf_11 (by decide) ?_
    exact q_iret (pc := 12) E hR h dX3_fourOf_12
  · have h := h.2 c_1
    refine lv_iload_n (pc := 4) hx hb dX3_fourOf_4 rfl (lv_at hl 1 rfl) ?_
    refine lv_sipush (pc := 5) (v := 4092) hx hb dX3_fourOf_5 (by decide) ?_
    refine lv_icmp_le (pc := 8) (tgt := 13) hx hb dX3_fourOf_8 (by decide) (fun c_2 => ?_) (fun c_2 => ?_)
    · have h := h.1 c_2
      refine lv_aload_n (pc := 13) hx hb dX3_fourOf_13 rfl (lv_at hl 0 rfl) ?_
      refine gf1_1_0 (pc := 14) hx hb hts hown hK hR mw13 dX3_fourOf_14 ?_
      refine lv_iload_n (pc := 17) hx hb dX3_fourOf_17 rfl (lv_at hl 1 rfl) ?_
      have g_3 := h.1
      have h := h.2
      refine q_bald (pc := 18) hx hb hK hR (k := 12) lt1_12 (ar1_12 _ _ _) g_3 dX3_fourOf_18 ?_
      refine lv_sipush (pc := 19) (v := 255) hx hb dX3_fourOf_19 (by decide) ?_
      refine lv_iand (pc := 22) hx hb dX3_fourOf_22 ?_
      refine lv_bipush (pc := 23) (v := 24) hx hb dX3_fourOf_23 (by decide) ?_
      refine lv_ishl (pc := 25) hx hb dX3_fourOf_25 ?_
      refine lv_aload_n (pc := 26) hx hb dX3_fourOf_26 rfl (lv_at hl 0 rfl) ?_
      refine gf1_1_0 (pc := 27) hx hb hts hown hK hR mw13 dX3_fourOf_27 ?_
      refine lv_iload_n (pc := 30) hx hb dX3_fourOf_30 rfl (lv_at hl 1 rfl) ?_
      refine lv_iconst (pc := 31) (v := 1) hx hb dX3_fourOf_31 (by decide) ?_
      refine lv_iadd (pc := 32) hx hb dX3_fourOf_32 ?_
      have g_4 := h.1
      have h := h.2
      refine q_bald (pc := 33) hx hb hK hR (k := 12) lt1_12 (ar1_12 _ _ _) g_4 dX3_fourOf_33 ?_
      refine lv_sipush (pc := 34) (v := 255) hx hb dX3_fourOf_34 (by decide) ?_
      refine lv_iand (pc := 37) hx hb dX3_fourOf_37 ?_
      refine lv_bipush (pc := 38) (v := 16) hx hb dX3_fourOf_38 (by decide) ?_
      refine lv_ishl (pc := 40) hx hb dX3_fourOf_40 ?_
      refine lv_ior (pc := 41) hx hb dX3_fourOf_41 ?_
      refine lv_aload_n (pc := 42) hx hb dX3_fourOf_42 rfl (lv_at hl 0 rfl) ?_
      refine gf1_1_0 (pc := 43) hx hb hts hown hK hR mw13 dX3_fourOf_43 ?_
      refine lv_iload_n (pc := 46) hx hb dX3_fourOf_46 rfl (lv_at hl 1 rfl) ?_
      refine lv_iconst (pc := 47) (v := 2) hx hb dX3_fourOf_47 (by decide) ?_
      refine lv_iadd (pc := 48) hx hb dX3_fourOf_48 ?_
      have g_5 := h.1
      have h := h.2
      refine q_bald (pc := 49) hx hb hK hR (k := 12) lt1_12 (ar1_12 _ _ _) g_5 dX3_fourOf_49 ?_
      refine lv_sipush (pc := 50) (v := 255) hx hb dX3_fourOf_50 (by decide) ?_
      refine lv_iand (pc := 53) hx hb dX3_fourOf_53 ?_
      refine lv_bipush (pc := 54) (v := 8) hx hb dX3_fourOf_54 (by decide) ?_
      refine lv_ishl (pc := 56) hx hb dX3_fourOf_56 ?_
      refine lv_ior (pc := 57) hx hb dX3_fourOf_57 ?_
      refine lv_aload_n (pc := 58) hx hb dX3_fourOf_58 rfl (lv_at hl 0 rfl) ?_
      refine gf1_1_0 (pc := 59) hx hb hts hown hK hR mw13 dX3_fourOf_59 ?_
      refine lv_iload_n (pc := 62) hx hb dX3_fourOf_62 rfl (lv_at hl 1 rfl) ?_
      refine lv_iconst (pc := 63) (v := 3) hx hb dX3_fourOf_63 (by decide) ?_
      refine lv_iadd (pc := 64) hx hb dX3_fourOf_64 ?_
      have g_6 := h.1
      have h := h.2
      refine q_bald (pc := 65) hx hb hK hR (k := 12) lt1_12 (ar1_12 _ _ _) g_6 dX3_fourOf_65 ?_
      refine lv_sipush (pc := 66) (v := 255) hx hb dX3_fourOf_66 (by decide) ?_
      refine lv_iand (pc := 69) hx hb dX3_fourOf_69 ?_
      refine lv_ior (pc := 70) hx hb dX3_fourOf_70 ?_
      exact q_iret (pc := 71) E hR h dX3_fourOf_71
    · have h := h.2 c_2
      refine lv_iconst (pc := 11) (v := 0) hx hb dX3_fourOf_11 (by decide) ?_
      exact q_iret (pc := 12) E hR h dX3_fourOf_12
theorem cX3_fourOf_met (l : Launch) (w : Wd) (hI : Ij 223 w) (N : Nat) (x1 : Int32) (Q : Int32 → St → Prop) (σ : St) (h : fX3_fourOf N x1 Q σ) : Met l yX3_fourOf (.code yX3_fourOf cX3_fourOf 2 (some .int) :: Uw) rmX3_fourOf (va_Pc [.ref (w.2.1 1), .int x1] (fun U => Rp 223 ev1 w σ U ∧ (X1 w) U)) (va_Qi Q (Rp 223 ev1 w) (Aw 223 w)) 0 0 (Aw 223 w) :=
  q_met (by decide) (Nat.le_of_ble_eq_true rfl) hI (fun p e s m below meth c ls E hl hR => bX3_fourOf_e l w N Q E x1 hR hl h)
-- GlulxStrings$Table.tell(I)V
abbrev rmX8_tell : Room := { frames := 1, cells := 0, slots := 0, locals := 21 }
def fX8_tell (N : Nat) (x1 : Int32) (Q : St → Prop) (σ : St) : Prop := ∀ σ_1 : St, σ_1 = u1 σ 2 8 x1 → fX8_drop N (fun σ_2 => ((x1 ≤ 0 → Q σ_2) ∧ (¬ x1 ≤ 0 → ((x1 ≤ ((σ_2.1 1 1) - 12) → fX3_fourOf N x1 (fun r_6 σ_5 => ((r_6 < 12 → Q σ_5) ∧ (¬ r_6 < 12 → ((r_6 ≤ ((σ_5.1 1 1) - x1) → ∀ σ_9 : St, σ_9 = u1 σ_5 2 5 x1 → ∀ v_10 : Int32, v_10 = x1 + r_6 → ∀ σ_11 : St, σ_11 = u1 σ_9 2 6 v_10 → ∀ σ_12 : St, σ_12 = u1 σ_11 2 7 (-1) → Q σ_12) ∧ (¬ r_6 ≤ ((σ_5.1 1 1) - x1) → Q σ_5))))) σ_2) ∧ (¬ x1 ≤ ((σ_2.1 1 1) - 12) → Q σ_2))))) σ_1
set_option maxHeartbeats 4000000 in
set_option maxRecDepth 100000 in
theorem bX8_tell_e {p : Program} {e : Env} {s : State} {m : MethodId} {args : Array Value} {below : List Frame} {meth : Method} {c : Code} (l : Launch) (w : Wd) (N : Nat) (Q : St → Prop) (E : Cx 223 w (X1 w) cX8_tell 3 RX8 (.code yX8_tell cX8_tell 3 none) none p s m args meth c) (x1 : Int32) {σ : St} {H : Heap} {locs : List Loc} {ls : Array Slot} (hR : Rr 223 ev1 w σ s H locs) (hl : lv_has ls 3 [(0, .ref (w.2.1 2)), (1, .int x1)]) (h : fX8_tell N x1 Q σ) : W p l e rmX8_tell s m args below meth c H locs 0 0 (MQ below (va_Qv Q (Rp 223 ev1 w) (Aw 223 w)) args s 0 0 (Aw 223 w)) (F0 m 0 ls []) := by
  obtain ⟨hx, hb, hml, hown, hts, hr, hlk, hK, hI, hX⟩ := id E
  unfold fX8_tell at h
  refine lv_aload_n (pc := 0) hx hb dX8_tell_0 rfl (lv_at hl 0 rfl) ?_
  refine lv_iload_n (pc := 1) hx hb dX8_tell_1 rfl (lv_at hl 1 rfl) ?_
  refine pf1_2_8 (pc := 2) hx hb hts hown hK hI hR mw16 dX8_tell_2 (fun H locs σ_1 eσ_1 hR => ?_)
  have h := h σ_1 eσ_1
  refine lv_aload_n (pc := 5) hx hb dX8_tell_5 rfl (lv_at hl 0 rfl) ?_
  refine q_cv (pc := 6) hR (q_rV E (xp1 w) (As := []) (rest := []) (cX8_drop_met l w hI N _ σ_1 h) ckX8_drop cvX8_drop mw5 ⟨rfl, rfl, Nat.le_of_ble_eq_true rfl, Nat.le_of_ble_eq_true rfl⟩ hR (rc1_2 w) rfl hl.1 rfl (Nat.le_of_ble_eq_true rfl) dX8_tell_6) (fun σ_2 H locs h hR => ?_)
  refine lv_iload_n (pc := 9) hx hb dX8_tell_9 rfl (lv_at hl 1 rfl) ?_
  refine lv_if_le (pc := 10) (tgt := 27) hx hb dX8_tell_10 (by decide) (fun c_3 => ?_) (fun c_3 => ?_)
  · have h := h.1 c_3
    exact q_vret (pc := 27) E hR h dX8_tell_27
  · have h := h.2 c_3
    refine lv_iload_n (pc := 13) hx hb dX8_tell_13 rfl (lv_at hl 1 rfl) ?_
    refine lv_aload_n (pc := 14) hx hb dX8_tell_14 rfl (lv_at hl 0 rfl) ?_
    refine gf1_2_0 (pc := 15) hx hb hts hown hK hR mw17 dX8_tell_15 ?_
    refine gf1_1_1 (pc := 18) hx hb hts hown hK hR mw18 dX8_tell_18 ?_
    refine lv_bipush (pc := 21) (v := 12) hx hb dX8_tell_21 (by decide) ?_
    refine lv_isub (pc := 23) hx hb dX8_tell_23 ?_
    refine lv_icmp_le (pc := 24) (tgt := 28) hx hb dX8_tell_24 (by decide) (fun c_4 => ?_) (fun c_4 => ?_)
    · have h := h.1 c_4
      refine lv_aload_n (pc := 28) hx hb dX8_tell_28 rfl (lv_at hl 0 rfl) ?_
      refine gf1_2_0 (pc := 29) hx hb hts hown hK hR mw17 dX8_tell_29 ?_
      refine lv_iload_n (pc := 32) hx hb dX8_tell_32 rfl (lv_at hl 1 rfl) ?_
      refine q_ci (pc := 33) hR (q_rV E (xp1 w) (As := [.int x1]) (rest := []) (cX3_fourOf_met l w hI N x1 _ σ_2 h) ckX3_fourOf cvX3_fourOf mw19 ⟨rfl, rfl, Nat.le_of_ble_eq_true rfl, Nat.le_of_ble_eq_true rfl⟩ hR (rc1_1 w) rfl hl.1 rfl (Nat.le_of_ble_eq_true rfl) dX8_tell_33) (fun r_6 σ_5 H locs h hR => ?_)
      refine lv_istore_n (pc := 36) (lv' := [(2, .int r_6), (0, .ref (w.2.1 2)), (1, .int x1)]) hx hb dX8_tell_36 rfl hl (by decide) rfl (fun ls hl => ?_)
      refine lv_iload_n (pc := 37) hx hb dX8_tell_37 rfl (lv_at hl 0 rfl) ?_
      refine lv_bipush (pc := 38) (v := 12) hx hb dX8_tell_38 (by decide) ?_
      refine lv_icmp_lt (pc := 40) (tgt := 56) hx hb dX8_tell_40 (by decide) (fun c_7 => ?_) (fun c_7 => ?_)
      · have h := h.1 c_7
        exact q_vret (pc := 56) E hR h dX8_tell_56
      · have h := h.2 c_7
        refine lv_iload_n (pc := 43) hx hb dX8_tell_43 rfl (lv_at hl 0 rfl) ?_
        refine lv_aload_n (pc := 44) hx hb dX8_tell_44 rfl (lv_at hl 1 rfl) ?_
        refine gf1_2_0 (pc := 45) hx hb hts hown hK hR mw17 dX8_tell_45 ?_
        refine gf1_1_1 (pc := 48) hx hb hts hown hK hR mw18 dX8_tell_48 ?_
        refine lv_iload_n (pc := 51) hx hb dX8_tell_51 rfl (lv_at hl 2 rfl) ?_
        refine lv_isub (pc := 52) hx hb dX8_tell_52 ?_
        refine lv_icmp_le (pc := 53) (tgt := 57) hx hb dX8_tell_53 (by decide) (fun c_8 => ?_) (fun c_8 => ?_)
        · have h := h.1 c_8
          refine lv_aload_n (pc := 57) hx hb dX8_tell_57 rfl (lv_at hl 1 rfl) ?_
          refine lv_iload_n (pc := 58) hx hb dX8_tell_58 rfl (lv_at hl 2 rfl) ?_
          refine pf1_2_5 (pc := 59) hx hb hts hown hK hI hR mw2 dX8_tell_59 (fun H locs σ_9 eσ_9 hR => ?_)
          have h := h σ_9 eσ_9
          refine lv_aload_n (pc := 62) hx hb dX8_tell_62 rfl (lv_at hl 1 rfl) ?_
          refine lv_iload_n (pc := 63) hx hb dX8_tell_63 rfl (lv_at hl 2 rfl) ?_
          refine lv_iload_n (pc := 64) hx hb dX8_tell_64 rfl (lv_at hl 0 rfl) ?_
          refine lv_iadd (pc := 65) hx hb dX8_tell_65 ?_
          refine lv_topi (pc := 66) (fun v_10 ev_10 => ?_)
          have h := h v_10 ev_10
          refine pf1_2_6 (pc := 66) hx hb hts hown hK hI hR mw3 dX8_tell_66 (fun H locs σ_11 eσ_11 hR => ?_)
          have h := h σ_11 eσ_11
          refine lv_aload_n (pc := 69) hx hb dX8_tell_69 rfl (lv_at hl 1 rfl) ?_
          refine lv_iconst (pc := 70) (v := (-1)) hx hb dX8_tell_70 (by decide) ?_
          refine pf1_2_7 (pc := 71) hx hb hts hown hK hI hR mw4 dX8_tell_71 (fun H locs σ_12 eσ_12 hR => ?_)
          have h := h σ_12 eσ_12
          exact q_vret (pc := 74) E hR h dX8_tell_74
        · have h := h.2 c_8
          exact q_vret (pc := 56) E hR h dX8_tell_56
    · have h := h.2 c_4
      exact q_vret (pc := 27) E hR h dX8_tell_27
theorem cX8_tell_met (l : Launch) (w : Wd) (hI : Ij 223 w) (N : Nat) (x1 : Int32) (Q : St → Prop) (σ : St) (h : fX8_tell N x1 Q σ) : Met l yX8_tell (.code yX8_tell cX8_tell 3 none :: Uw) rmX8_tell (va_Pc [.ref (w.2.1 2), .int x1] (fun U => Rp 223 ev1 w σ U ∧ (X1 w) U)) (va_Qv Q (Rp 223 ev1 w) (Aw 223 w)) 0 0 (Aw 223 w) :=
  q_met (by decide) (Nat.le_of_ble_eq_true rfl) hI (fun p e s m below meth c ls E hl hR => bX8_tell_e l w N Q E x1 hR hl h)
-- GlulxStrings$Table.hasEndOfBytes(I)Z
abbrev rmX8_hasEndOfBytes : Room := { frames := 1, cells := 0, slots := 0, locals := 21 }
def fX8_hasEndOfBytes_l2 (N : Nat) (Q : Int32 → St → Prop) (r2 : Int32 → St → Prop) (x2 : Int32) (σ : St) : Prop := (((σ.1 2 6) ≤ x2 → Q 0 σ) ∧ (¬ (σ.1 2 6) ≤ x2 → fX3_byteOf N x2 (fun r_3 σ_2 => ((r_3 = 0 → Q 1 σ_2) ∧ (¬ r_3 = 0 → ∀ v_5 : Int32, v_5 = x2 + 1 → r2 v_5 σ_2))) σ))
set_option maxHeartbeats 4000000 in
set_option maxRecDepth 100000 in
theorem bX8_hasEndOfBytes_2 {p : Program} {e : Env} {s : State} {m : MethodId} {args : Array Value} {below : List Frame} {meth : Method} {c : Code} (l : Launch) (w : Wd) (N : Nat) (Q : Int32 → St → Prop) (E : Cx 223 w (X1 w) cX8_hasEndOfBytes 3 RX8 (.code yX8_hasEndOfBytes cX8_hasEndOfBytes 3 (some .boolean)) (some .boolean) p s m args meth c) : ∀ (n : Nat) (x2 : Int32) (σ : St) (H : Heap) (locs : List Loc) (ls : Array Slot), Rr 223 ev1 w σ s H locs → lv_has ls 3 [(0, .ref (w.2.1 2)), (2, .int x2)] → lo1 (fX8_hasEndOfBytes_l2 N Q) n x2 σ → W p l e rmX8_hasEndOfBytes s m args below meth c H locs 0 0 (MQ below (va_Qi Q (Rp 223 ev1 w) (Aw 223 w)) args s 0 0 (Aw 223 w)) (F0 m 2 ls []) := by
  obtain ⟨hx, hb, hml, hown, hts, hr, hlk, hK, hI, hX⟩ := id E
  intro n
  induction n with
  | zero => intro x2 σ H locs ls hR hl h; exact h.elim
  | succ n ih =>
    intro x2 σ H locs ls hR hl h
    have h : fX8_hasEndOfBytes_l2 N Q (lo1 (fX8_hasEndOfBytes_l2 N Q) n) x2 σ := h
    unfold fX8_hasEndOfBytes_l2 at h
    refine lv_iload_n (pc := 2) hx hb dX8_hasEndOfBytes_2 rfl (lv_at hl 1 rfl) ?_
    refine lv_aload_n (pc := 3) hx hb dX8_hasEndOfBytes_3 rfl (lv_at hl 0 rfl) ?_
    refine gf1_2_6 (pc := 4) hx hb hts hown hK hR mw3 dX8_hasEndOfBytes_4 ?_
    refine lv_icmp_ge (pc := 7) (tgt := 29) hx hb dX8_hasEndOfBytes_7 (by decide) (fun c_1 => ?_) (fun c_1 => ?_)
    · have h := h.1 c_1
      refine lv_iconst (pc := 29) (v := 0) hx hb dX8_hasEndOfBytes_29 (by decide) ?_
      exact q_zret (pc := 30) E hR h rfl dX8_hasEndOfBytes_30
    · have h := h.2 c_1
      refine lv_aload_n (pc := 10) hx hb dX8_hasEndOfBytes_10 rfl (lv_at hl 0 rfl) ?_
      refine gf1_2_0 (pc := 11) hx hb hts hown hK hR mw17 dX8_hasEndOfBytes_11 ?_
      refine lv_iload_n (pc := 14) hx hb dX8_hasEndOfBytes_14 rfl (lv_at hl 1 rfl) ?_
      refine q_ci (pc := 15) hR (q_rV E (xp1 w) (As := [.int x2]) (rest := []) (cX3_byteOf_met l w hI N x2 _ σ h) ckX3_byteOf cvX3_byteOf mw20 ⟨rfl, rfl, Nat.le_of_ble_eq_true rfl, Nat.le_of_ble_eq_true rfl⟩ hR (rc1_1 w) rfl hl.1 rfl (Nat.le_of_ble_eq_true rfl) dX8_hasEndOfBytes_15) (fun r_3 σ_2 H locs h hR => ?_)
      refine lv_if_ne (pc := 18) (tgt := 23) hx hb dX8_hasEndOfBytes_18 (by decide) (fun c_4 => ?_) (fun c_4 => ?_)
      · have h := h.2 c_4
        obtain ⟨v_5, ev_5⟩ : ∃ z : Int32, z = x2 + 1 := ⟨_, rfl⟩
        have h := h v_5 ev_5
        refine lv_iinc (pc := 23) (v := v_5) (lv' := [(2, .int v_5), (0, .ref (w.2.1 2))]) hx hb dX8_hasEndOfBytes_23 hl (k := 1) rfl (by rw [ev_5]; rfl) (by decide) rfl (fun ls hl => ?_)
        refine lv_goto (pc := 26) (tgt := 2) hx hb dX8_hasEndOfBytes_26 (by decide) ?_
        exact ih v_5 σ_2 _ _ _ hR (lv_sub hl [1, 0] rfl) h
      · have h := h.1 c_4
        refine lv_iconst (pc := 21) (v := 1) hx hb dX8_hasEndOfBytes_21 (by decide) ?_
        exact q_zret (pc := 22) E hR h rfl dX8_hasEndOfBytes_22
def fX8_hasEndOfBytes (N : Nat) (x1 : Int32) (Q : Int32 → St → Prop) (σ : St) : Prop := lo1 (fX8_hasEndOfBytes_l2 N Q) N x1 σ
set_option maxHeartbeats 4000000 in
set_option maxRecDepth 100000 in
theorem bX8_hasEndOfBytes_e {p : Program} {e : Env} {s : State} {m : MethodId} {args : Array Value} {below : List Frame} {meth : Method} {c : Code} (l : Launch) (w : Wd) (N : Nat) (Q : Int32 → St → Prop) (E : Cx 223 w (X1 w) cX8_hasEndOfBytes 3 RX8 (.code yX8_hasEndOfBytes cX8_hasEndOfBytes 3 (some .boolean)) (some .boolean) p s m args meth c) (x1 : Int32) {σ : St} {H : Heap} {locs : List Loc} {ls : Array Slot} (hR : Rr 223 ev1 w σ s H locs) (hl : lv_has ls 3 [(0, .ref (w.2.1 2)), (1, .int x1)]) (h : fX8_hasEndOfBytes N x1 Q σ) : W p l e rmX8_hasEndOfBytes s m args below meth c H locs 0 0 (MQ below (va_Qi Q (Rp 223 ev1 w) (Aw 223 w)) args s 0 0 (Aw 223 w)) (F0 m 0 ls []) := by
  obtain ⟨hx, hb, hml, hown, hts, hr, hlk, hK, hI, hX⟩ := id E
  unfold fX8_hasEndOfBytes at h
  refine lv_iload_n (pc := 0) hx hb dX8_hasEndOfBytes_0 rfl (lv_at hl 1 rfl) ?_
  refine lv_istore_n (pc := 1) (lv' := [(2, .int x1), (0, .ref (w.2.1 2)), (1, .int x1)]) hx hb dX8_hasEndOfBytes_1 rfl hl (by decide) rfl (fun ls hl => ?_)
  exact bX8_hasEndOfBytes_2 l w N Q E N x1 σ _ _ _ hR (lv_sub hl [1, 0] rfl) h
theorem cX8_hasEndOfBytes_met (l : Launch) (w : Wd) (hI : Ij 223 w) (N : Nat) (x1 : Int32) (Q : Int32 → St → Prop) (σ : St) (h : fX8_hasEndOfBytes N x1 Q σ) : Met l yX8_hasEndOfBytes (.code yX8_hasEndOfBytes cX8_hasEndOfBytes 3 (some .boolean) :: Uw) rmX8_hasEndOfBytes (va_Pc [.ref (w.2.1 2), .int x1] (fun U => Rp 223 ev1 w σ U ∧ (X1 w) U)) (va_Qi Q (Rp 223 ev1 w) (Aw 223 w)) 0 0 (Aw 223 w) :=
  q_met (by decide) (Nat.le_of_ble_eq_true rfl) hI (fun p e s m below meth c ls E hl hR => bX8_hasEndOfBytes_e l w N Q E x1 hR hl h)
-- GlulxStrings$Table.hasEndOfFours(I)Z
abbrev rmX8_hasEndOfFours : Room := { frames := 1, cells := 0, slots := 0, locals := 21 }
def fX8_hasEndOfFours_l2 (N : Nat) (Q : Int32 → St → Prop) (r2 : Int32 → St → Prop) (x2 : Int32) (σ : St) : Prop := (((σ.1 2 6) < (x2 + 4) → Q 0 σ) ∧ (¬ (σ.1 2 6) < (x2 + 4) → fX3_fourOf N x2 (fun r_3 σ_2 => ((r_3 = 0 → Q 1 σ_2) ∧ (¬ r_3 = 0 → ∀ v_5 : Int32, v_5 = x2 + 4 → r2 v_5 σ_2))) σ))
set_option maxHeartbeats 4000000 in
set_option maxRecDepth 100000 in
theorem bX8_hasEndOfFours_2 {p : Program} {e : Env} {s : State} {m : MethodId} {args : Array Value} {below : List Frame} {meth : Method} {c : Code} (l : Launch) (w : Wd) (N : Nat) (Q : Int32 → St → Prop) (E : Cx 223 w (X1 w) cX8_hasEndOfFours 3 RX8 (.code yX8_hasEndOfFours cX8_hasEndOfFours 3 (some .boolean)) (some .boolean) p s m args meth c) : ∀ (n : Nat) (x2 : Int32) (σ : St) (H : Heap) (locs : List Loc) (ls : Array Slot), Rr 223 ev1 w σ s H locs → lv_has ls 3 [(0, .ref (w.2.1 2)), (2, .int x2)] → lo1 (fX8_hasEndOfFours_l2 N Q) n x2 σ → W p l e rmX8_hasEndOfFours s m args below meth c H locs 0 0 (MQ below (va_Qi Q (Rp 223 ev1 w) (Aw 223 w)) args s 0 0 (Aw 223 w)) (F0 m 2 ls []) := by
  obtain ⟨hx, hb, hml, hown, hts, hr, hlk, hK, hI, hX⟩ := id E
  intro n
  induction n with
  | zero => intro x2 σ H locs ls hR hl h; exact h.elim
  | succ n ih =>
    intro x2 σ H locs ls hR hl h
    have h : fX8_hasEndOfFours_l2 N Q (lo1 (fX8_hasEndOfFours_l2 N Q) n) x2 σ := h
    unfold fX8_hasEndOfFours_l2 at h
    refine lv_iload_n (pc := 2) hx hb dX8_hasEndOfFours_2 rfl (lv_at hl 1 rfl) ?_
    refine lv_iconst (pc := 3) (v := 4) hx hb dX8_hasEndOfFours_3 (by decide) ?_
    refine lv_iadd (pc := 4) hx hb dX8_hasEndOfFours_4 ?_
    refine lv_aload_n (pc := 5) hx hb dX8_hasEndOfFours_5 rfl (lv_at hl 0 rfl) ?_
    refine gf1_2_6 (pc := 6) hx hb hts hown hK hR mw3 dX8_hasEndOfFours_6 ?_
    refine lv_icmp_gt (pc := 9) (tgt := 31) hx hb dX8_hasEndOfFours_9 (by decide) (fun c_1 => ?_) (fun c_1 => ?_)
    · have h := h.1 c_1
      refine lv_iconst (pc := 31) (v := 0) hx hb dX8_hasEndOfFours_31 (by decide) ?_
      exact q_zret (pc := 32) E hR h rfl dX8_hasEndOfFours_32
    · have h := h.2 c_1
      refine lv_aload_n (pc := 12) hx hb dX8_hasEndOfFours_12 rfl (lv_at hl 0 rfl) ?_
      refine gf1_2_0 (pc := 13) hx hb hts hown hK hR mw17 dX8_hasEndOfFours_13 ?_
      refine lv_iload_n (pc := 16) hx hb dX8_hasEndOfFours_16 rfl (lv_at hl 1 rfl) ?_
      refine q_ci (pc := 17) hR (q_rV E (xp1 w) (As := [.int x2]) (rest := []) (cX3_fourOf_met l w hI N x2 _ σ h) ckX3_fourOf cvX3_fourOf mw19 ⟨rfl, rfl, Nat.le_of_ble_eq_true rfl, Nat.le_of_ble_eq_true rfl⟩ hR (rc1_1 w) rfl hl.1 rfl (Nat.le_of_ble_eq_true rfl) dX8_hasEndOfFours_17) (fun r_3 σ_2 H locs h hR => ?_)
      refine lv_if_ne (pc := 20) (tgt := 25) hx hb dX8_hasEndOfFours_20 (by decide) (fun c_4 => ?_) (fun c_4 => ?_)
      · have h := h.2 c_4
        obtain ⟨v_5, ev_5⟩ : ∃ z : Int32, z = x2 + 4 := ⟨_, rfl⟩
        have h := h v_5 ev_5
        refine lv_iinc (pc := 25) (v := v_5) (lv' := [(2, .int v_5), (0, .ref (w.2.1 2))]) hx hb dX8_hasEndOfFours_25 hl (k := 1) rfl (by rw [ev_5]; rfl) (by decide) rfl (fun ls hl => ?_)
        refine lv_goto (pc := 28) (tgt := 2) hx hb dX8_hasEndOfFours_28 (by decide) ?_
        exact ih v_5 σ_2 _ _ _ hR (lv_sub hl [1, 0] rfl) h
      · have h := h.1 c_4
        refine lv_iconst (pc := 23) (v := 1) hx hb dX8_hasEndOfFours_23 (by decide) ?_
        exact q_zret (pc := 24) E hR h rfl dX8_hasEndOfFours_24
def fX8_hasEndOfFours (N : Nat) (x1 : Int32) (Q : Int32 → St → Prop) (σ : St) : Prop := lo1 (fX8_hasEndOfFours_l2 N Q) N x1 σ
set_option maxHeartbeats 4000000 in
set_option maxRecDepth 100000 in
theorem bX8_hasEndOfFours_e {p : Program} {e : Env} {s : State} {m : MethodId} {args : Array Value} {below : List Frame} {meth : Method} {c : Code} (l : Launch) (w : Wd) (N : Nat) (Q : Int32 → St → Prop) (E : Cx 223 w (X1 w) cX8_hasEndOfFours 3 RX8 (.code yX8_hasEndOfFours cX8_hasEndOfFours 3 (some .boolean)) (some .boolean) p s m args meth c) (x1 : Int32) {σ : St} {H : Heap} {locs : List Loc} {ls : Array Slot} (hR : Rr 223 ev1 w σ s H locs) (hl : lv_has ls 3 [(0, .ref (w.2.1 2)), (1, .int x1)]) (h : fX8_hasEndOfFours N x1 Q σ) : W p l e rmX8_hasEndOfFours s m args below meth c H locs 0 0 (MQ below (va_Qi Q (Rp 223 ev1 w) (Aw 223 w)) args s 0 0 (Aw 223 w)) (F0 m 0 ls []) := by
  obtain ⟨hx, hb, hml, hown, hts, hr, hlk, hK, hI, hX⟩ := id E
  unfold fX8_hasEndOfFours at h
  refine lv_iload_n (pc := 0) hx hb dX8_hasEndOfFours_0 rfl (lv_at hl 1 rfl) ?_
  refine lv_istore_n (pc := 1) (lv' := [(2, .int x1), (0, .ref (w.2.1 2)), (1, .int x1)]) hx hb dX8_hasEndOfFours_1 rfl hl (by decide) rfl (fun ls hl => ?_)
  exact bX8_hasEndOfFours_2 l w N Q E N x1 σ _ _ _ hR (lv_sub hl [1, 0] rfl) h
theorem cX8_hasEndOfFours_met (l : Launch) (w : Wd) (hI : Ij 223 w) (N : Nat) (x1 : Int32) (Q : Int32 → St → Prop) (σ : St) (h : fX8_hasEndOfFours N x1 Q σ) : Met l yX8_hasEndOfFours (.code yX8_hasEndOfFours cX8_hasEndOfFours 3 (some .boolean) :: Uw) rmX8_hasEndOfFours (va_Pc [.ref (w.2.1 2), .int x1] (fun U => Rp 223 ev1 w σ U ∧ (X1 w) U)) (va_Qi Q (Rp 223 ev1 w) (Aw 223 w)) 0 0 (Aw 223 w) :=
  q_met (by decide) (Nat.le_of_ble_eq_true rfl) hI (fun p e s m below meth c ls E hl hR => bX8_hasEndOfFours_e l w N Q E x1 hR hl h)
-- GlulxStrings$Table.argumentBytes(I)I
abbrev rmX8_argumentBytes : Room := { frames := 1, cells := 0, slots := 0, locals := 21 }
def fX8_argumentBytes (N : Nat) (x1 : Int32) (Q : Int32 → St → Prop) (σ : St) : Prop := fX3_fourOf N (x1 + 5) (fun r_2 σ_1 => ((r_2 < 0 → Q 0 σ_1) ∧ (¬ r_2 < 0 → ((4 < r_2 → Q 0 σ_1) ∧ (¬ 4 < r_2 → Q (4 * r_2) σ_1))))) σ
set_option maxHeartbeats 4000000 in
set_option maxRecDepth 100000 in
theorem bX8_argumentBytes_e {p : Program} {e : Env} {s : State} {m : MethodId} {args : Array Value} {below : List Frame} {meth : Method} {c : Code} (l : Launch) (w : Wd) (N : Nat) (Q : Int32 → St → Prop) (E : Cx 223 w (X1 w) cX8_argumentBytes 3 RX8 (.code yX8_argumentBytes cX8_argumentBytes 3 (some .int)) (some .int) p s m args meth c) (x1 : Int32) {σ : St} {H : Heap} {locs : List Loc} {ls : Array Slot} (hR : Rr 223 ev1 w σ s H locs) (hl : lv_has ls 3 [(0, .ref (w.2.1 2)), (1, .int x1)]) (h : fX8_argumentBytes N x1 Q σ) : W p l e rmX8_argumentBytes s m args below meth c H locs 0 0 (MQ below (va_Qi Q (Rp 223 ev1 w) (Aw 223 w)) args s 0 0 (Aw 223 w)) (F0 m 0 ls []) := by
  obtain ⟨hx, hb, hml, hown, hts, hr, hlk, hK, hI, hX⟩ := id E
  unfold fX8_argumentBytes at h
  refine lv_aload_n (pc := 0) hx hb dX8_argumentBytes_0 rfl (lv_at hl 0 rfl) ?_
  refine gf1_2_0 (pc := 1) hx hb hts hown hK hR mw17 dX8_argumentBytes_1 ?_
  refine lv_iload_n (pc := 4) hx hb dX8_argumentBytes_4 rfl (lv_at hl 1 rfl) ?_
  refine lv_iconst (pc := 5) (v := 5) hx hb dX8_argumentBytes_5 (by decide) ?_
  refine lv_iadd (pc := 6) hx hb dX8_argumentBytes_6 ?_
  refine q_ci (pc := 7) hR (q_rV E (xp1 w) (As := [.int (x1 + 5)]) (rest := []) (cX3_fourOf_met l w hI N (x1 + 5) _ σ h) ckX3_fourOf cvX3_fourOf mw19 ⟨rfl, rfl, Nat.le_of_ble_eq_true rfl, Nat.le_of_ble_eq_true rfl⟩ hR (rc1_1 w) rfl hl.1 rfl (Nat.le_of_ble_eq_true rfl) dX8_argumentBytes_7) (fun r_2 σ_1 H locs h hR => ?_)
  refine lv_istore_n (pc := 10) (lv' := [(2, .int r_2), (0, .ref (w.2.1 2)), (1, .int x1)]) hx hb dX8_argumentBytes_10 rfl hl (by decide) rfl (fun ls hl => ?_)
  refine lv_iload_n (pc := 11) hx hb dX8_argumentBytes_11 rfl (lv_at hl 0 rfl) ?_
  refine lv_if_lt (pc := 12) (tgt := 26) hx hb dX8_argumentBytes_12 (by decide) (fun c_3 => ?_) (fun c_3 => ?_)
  · have h := h.1 c_3
    refine lv_iconst (pc := 26) (v := 0) hx hb dX8_argumentBytes_26 (by decide) ?_
    exact q_iret (pc := 27) E hR h dX8_argumentBytes_27
  · have h := h.2 c_3
    refine lv_iload_n (pc := 15) hx hb dX8_argumentBytes_15 rfl (lv_at hl 0 rfl) ?_
    refine lv_iconst (pc := 16) (v := 4) hx hb dX8_argumentBytes_16 (by decide) ?_
    refine lv_icmp_gt (pc := 17) (tgt := 26) hx hb dX8_argumentBytes_17 (by decide) (fun c_4 => ?_) (fun c_4 => ?_)
    · have h := h.1 c_4
      refine lv_iconst (pc := 26) (v := 0) hx hb dX8_argumentBytes_26 (by decide) ?_
      exact q_iret (pc := 27) E hR h dX8_argumentBytes_27
    · have h := h.2 c_4
      refine lv_iconst (pc := 20) (v := 4) hx hb dX8_argumentBytes_20 (by decide) ?_
      refine lv_iload_n (pc := 21) hx hb dX8_argumentBytes_21 rfl (lv_at hl 0 rfl) ?_
      refine lv_imul (pc := 22) hx hb dX8_argumentBytes_22 ?_
      refine lv_goto (pc := 23) (tgt := 27) hx hb dX8_argumentBytes_23 (by decide) ?_
      exact q_iret (pc := 27) E hR h dX8_argumentBytes_27
theorem cX8_argumentBytes_met (l : Launch) (w : Wd) (hI : Ij 223 w) (N : Nat) (x1 : Int32) (Q : Int32 → St → Prop) (σ : St) (h : fX8_argumentBytes N x1 Q σ) : Met l yX8_argumentBytes (.code yX8_argumentBytes cX8_argumentBytes 3 (some .int) :: Uw) rmX8_argumentBytes (va_Pc [.ref (w.2.1 2), .int x1] (fun U => Rp 223 ev1 w σ U ∧ (X1 w) U)) (va_Qi Q (Rp 223 ev1 w) (Aw 223 w)) 0 0 (Aw 223 w) :=
  q_met (by decide) (Nat.le_of_ble_eq_true rfl) hI (fun p e s m below meth c ls E hl hR => bX8_argumentBytes_e l w N Q E x1 hR hl h)
-- GlulxStrings$Table.isWhole(I)Z
abbrev rmX8_isWhole : Room := { frames := 2, cells := 0, slots := 0, locals := 43 }
def fX8_isWhole_j109 (N : Nat) (x2 : Int32) (Q : Int32 → St → Prop) (σ : St) : Prop := ((x2 < 5 → Q 0 σ) ∧ (¬ x2 < 5 → Q 1 σ))
set_option maxHeartbeats 4000000 in
set_option maxRecDepth 100000 in
theorem bX8_isWhole_109 {p : Program} {e : Env} {s : State} {m : MethodId} {args : Array Value} {below : List Frame} {meth : Method} {c : Code} (l : Launch) (w : Wd) (N : Nat) (Q : Int32 → St → Prop) (E : Cx 223 w (X1 w) cX8_isWhole 3 RX8 (.code yX8_isWhole cX8_isWhole 3 (some .boolean)) (some .boolean) p s m args meth c) (x2 : Int32) {σ : St} {H : Heap} {locs : List Loc} {ls : Array Slot} (hR : Rr 223 ev1 w σ s H locs) (hl : lv_has ls 3 [(2, .int x2)]) (h : fX8_isWhole_j109 N x2 Q σ) : W p l e rmX8_isWhole s m args below meth c H locs 0 0 (MQ below (va_Qi Q (Rp 223 ev1 w) (Aw 223 w)) args s 0 0 (Aw 223 w)) (F0 m 109 ls []) := by
  obtain ⟨hx, hb, hml, hown, hts, hr, hlk, hK, hI, hX⟩ := id E
  unfold fX8_isWhole_j109 at h
  refine lv_iload_n (pc := 109) hx hb dX8_isWhole_109 rfl (lv_at hl 0 rfl) ?_
  refine lv_iconst (pc := 110) (v := 5) hx hb dX8_isWhole_110 (by decide) ?_
  refine lv_icmp_lt (pc := 111) (tgt := 118) hx hb dX8_isWhole_111 (by decide) (fun c_13 => ?_) (fun c_13 => ?_)
  · have h := h.1 c_13
    refine lv_iconst (pc := 118) (v := 0) hx hb dX8_isWhole_118 (by decide) ?_
    exact q_zret (pc := 119) E hR h rfl dX8_isWhole_119
  · have h := h.2 c_13
    refine lv_iconst (pc := 114) (v := 1) hx hb dX8_isWhole_114 (by decide) ?_
    refine lv_goto (pc := 115) (tgt := 119) hx hb dX8_isWhole_115 (by decide) ?_
    exact q_zret (pc := 119) E hR h rfl dX8_isWhole_119
def fX8_isWhole_j128 (N : Nat) (x1 : Int32) (x2 : Int32) (Q : Int32 → St → Prop) (σ : St) : Prop := fX8_argumentBytes N x1 (fun r_20 σ_19 => ((x2 < (9 + r_20) → Q 0 σ_19) ∧ (¬ x2 < (9 + r_20) → Q 1 σ_19))) σ
set_option maxHeartbeats 4000000 in
set_option maxRecDepth 100000 in
theorem bX8_isWhole_128 {p : Program} {e : Env} {s : State} {m : MethodId} {args : Array Value} {below : List Frame} {meth : Method} {c : Code} (l : Launch) (w : Wd) (N : Nat) (Q : Int32 → St → Prop) (E : Cx 223 w (X1 w) cX8_isWhole 3 RX8 (.code yX8_isWhole cX8_isWhole 3 (some .boolean)) (some .boolean) p s m args meth c) (x1 : Int32) (x2 : Int32) {σ : St} {H : Heap} {locs : List Loc} {ls : Array Slot} (hR : Rr 223 ev1 w σ s H locs) (hl : lv_has ls 3 [(0, .ref (w.2.1 2)), (1, .int x1), (2, .int x2)]) (h : fX8_isWhole_j128 N x1 x2 Q σ) : W p l e rmX8_isWhole s m args below meth c H locs 0 0 (MQ below (va_Qi Q (Rp 223 ev1 w) (Aw 223 w)) args s 0 0 (Aw 223 w)) (F0 m 128 ls []) := by
  obtain ⟨hx, hb, hml, hown, hts, hr, hlk, hK, hI, hX⟩ := id E
  unfold fX8_isWhole_j128 at h
  refine lv_iload_n (pc := 128) hx hb dX8_isWhole_128 rfl (lv_at hl 2 rfl) ?_
  refine lv_bipush (pc := 129) (v := 9) hx hb dX8_isWhole_129 (by decide) ?_
  refine lv_aload_n (pc := 131) hx hb dX8_isWhole_131 rfl (lv_at hl 0 rfl) ?_
  refine lv_iload_n (pc := 132) hx hb dX8_isWhole_132 rfl (lv_at hl 1 rfl) ?_
  refine q_ci (pc := 133) hR (q_rV E (xp1 w) (As := [.int x1]) (rest := [.int 9, .int x2]) (cX8_argumentBytes_met l w hI N x1 _ σ h) ckX8_argumentBytes cvX8_argumentBytes mw23 ⟨rfl, rfl, Nat.le_of_ble_eq_true rfl, Nat.le_of_ble_eq_true rfl⟩ hR (rc1_2 w) rfl hl.1 rfl (Nat.le_of_ble_eq_true rfl) dX8_isWhole_133) (fun r_20 σ_19 H locs h hR => ?_)
  refine lv_iadd (pc := 136) hx hb dX8_isWhole_136 ?_
  refine lv_icmp_lt (pc := 137) (tgt := 144) hx hb dX8_isWhole_137 (by decide) (fun c_21 => ?_) (fun c_21 => ?_)
  · have h := h.1 c_21
    refine lv_iconst (pc := 144) (v := 0) hx hb dX8_isWhole_144 (by decide) ?_
    exact q_zret (pc := 145) E hR h rfl dX8_isWhole_145
  · have h := h.2 c_21
    refine lv_iconst (pc := 140) (v := 1) hx hb dX8_isWhole_140 (by decide) ?_
    refine lv_goto (pc := 141) (tgt := 145) hx hb dX8_isWhole_141 (by decide) ?_
    exact q_zret (pc := 145) E hR h rfl dX8_isWhole_145
def fX8_isWhole (N : Nat) (x1 : Int32) (Q : Int32 → St → Prop) (σ : St) : Prop := ∀ v_1 : Int32, v_1 = (σ.1 2 6) - x1 → fX3_byteOf N x1 (fun r_3 σ_2 => ((r_3 = 0 → ((v_1 < 9 → Q 0 σ_2) ∧ (¬ v_1 < 9 → Q 1 σ_2))) ∧ (¬ r_3 = 0 → ((r_3 = 1 → Q 1 σ_2) ∧ (¬ r_3 = 1 → ((r_3 = 2 → ((v_1 < 2 → Q 0 σ_2) ∧ (¬ v_1 < 2 → Q 1 σ_2))) ∧ (¬ r_3 = 2 → ((r_3 = 3 → fX8_hasEndOfBytes N (x1 + 1) (fun r_11 σ_10 => narrow .boolean (.int r_11) = .int r_11 ∧ Q r_11 σ_10) σ_2) ∧ (¬ r_3 = 3 → ((r_3 = 4 → fX8_isWhole_j109 N v_1 Q σ_2) ∧ (¬ r_3 = 4 → ((r_3 = 5 → fX8_hasEndOfFours N (x1 + 1) (fun r_15 σ_14 => narrow .boolean (.int r_15) = .int r_15 ∧ Q r_15 σ_14) σ_2) ∧ (¬ r_3 = 5 → ((r_3 = 8 → fX8_isWhole_j109 N v_1 Q σ_2) ∧ (¬ r_3 = 8 → ((r_3 = 9 → fX8_isWhole_j109 N v_1 Q σ_2) ∧ (¬ r_3 = 9 → ((r_3 = 10 → fX8_isWhole_j128 N x1 v_1 Q σ_2) ∧ (¬ r_3 = 10 → ((r_3 = 11 → fX8_isWhole_j128 N x1 v_1 Q σ_2) ∧ (¬ r_3 = 11 → Q 0 σ_2))))))))))))))))))))) σ
set_option maxHeartbeats 4000000 in
set_option maxRecDepth 100000 in
theorem bX8_isWhole_e {p : Program} {e : Env} {s : State} {m : MethodId} {args : Array Value} {below : List Frame} {meth : Method} {c : Code} (l : Launch) (w : Wd) (N : Nat) (Q : Int32 → St → Prop) (E : Cx 223 w (X1 w) cX8_isWhole 3 RX8 (.code yX8_isWhole cX8_isWhole 3 (some .boolean)) (some .boolean) p s m args meth c) (x1 : Int32) {σ : St} {H : Heap} {locs : List Loc} {ls : Array Slot} (hR : Rr 223 ev1 w σ s H locs) (hl : lv_has ls 3 [(0, .ref (w.2.1 2)), (1, .int x1)]) (h : fX8_isWhole N x1 Q σ) : W p l e rmX8_isWhole s m args below meth c H locs 0 0 (MQ below (va_Qi Q (Rp 223 ev1 w) (Aw 223 w)) args s 0 0 (Aw 223 w)) (F0 m 0 ls []) := by
  obtain ⟨hx, hb, hml, hown, hts, hr, hlk, hK, hI, hX⟩ := id E
  unfold fX8_isWhole at h
  refine lv_aload_n (pc := 0) hx hb dX8_isWhole_0 rfl (lv_at hl 0 rfl) ?_
  refine gf1_2_6 (pc := 1) hx hb hts hown hK hR mw3 dX8_isWhole_1 ?_
  refine lv_iload_n (pc := 4) hx hb dX8_isWhole_4 rfl (lv_at hl 1 rfl) ?_
  refine lv_isub (pc := 5) hx hb dX8_isWhole_5 ?_
  refine lv_topi (pc := 6) (fun v_1 ev_1 => ?_)
  have h := h v_1 ev_1
  refine lv_istore_n (pc := 6) (lv' := [(2, .int v_1), (0, .ref (w.2.1 2)), (1, .int x1)]) hx hb dX8_isWhole_6 rfl hl (by decide) rfl (fun ls hl => ?_)
  refine lv_aload_n (pc := 7) hx hb dX8_isWhole_7 rfl (lv_at hl 1 rfl) ?_
  refine gf1_2_0 (pc := 8) hx hb hts hown hK hR mw17 dX8_isWhole_8 ?_
  refine lv_iload_n (pc := 11) hx hb dX8_isWhole_11 rfl (lv_at hl 2 rfl) ?_
  refine q_ci (pc := 12) hR (q_rV E (xp1 w) (As := [.int x1]) (rest := []) (cX3_byteOf_met l w hI N x1 _ σ h) ckX3_byteOf cvX3_byteOf mw20 ⟨rfl, rfl, Nat.le_of_ble_eq_true rfl, Nat.le_of_ble_eq_true rfl⟩ hR (rc1_1 w) rfl hl.1 rfl (Nat.le_of_ble_eq_true rfl) dX8_isWhole_12) (fun r_3 σ_2 H locs h hR => ?_)
  by_cases c_4 : r_3 = 0
  · refine lv_tableIn (pc := 15) (tgt := 76) (off := 61) hx hb dX8_isWhole_15 (by rw [c_4]; decide) (by rw [c_4]; decide) (by rw [c_4]; rfl) (by decide) ?_
    have h := h.1 c_4
    refine lv_iload_n (pc := 76) hx hb dX8_isWhole_76 rfl (lv_at hl 0 rfl) ?_
    refine lv_bipush (pc := 77) (v := 9) hx hb dX8_isWhole_77 (by decide) ?_
    refine lv_icmp_lt (pc := 79) (tgt := 86) hx hb dX8_isWhole_79 (by decide) (fun c_5 => ?_) (fun c_5 => ?_)
    · have h := h.1 c_5
      refine lv_iconst (pc := 86) (v := 0) hx hb dX8_isWhole_86 (by decide) ?_
      exact q_zret (pc := 87) E hR h rfl dX8_isWhole_87
    · have h := h.2 c_5
      refine lv_iconst (pc := 82) (v := 1) hx hb dX8_isWhole_82 (by decide) ?_
      refine lv_goto (pc := 83) (tgt := 87) hx hb dX8_isWhole_83 (by decide) ?_
      exact q_zret (pc := 87) E hR h rfl dX8_isWhole_87
  replace h := h.2 c_4
  by_cases c_6 : r_3 = 1
  · refine lv_tableIn (pc := 15) (tgt := 88) (off := 73) hx hb dX8_isWhole_15 (by rw [c_6]; decide) (by rw [c_6]; decide) (by rw [c_6]; rfl) (by decide) ?_
    have h := h.1 c_6
    refine lv_iconst (pc := 88) (v := 1) hx hb dX8_isWhole_88 (by decide) ?_
    exact q_zret (pc := 89) E hR h rfl dX8_isWhole_89
  replace h := h.2 c_6
  by_cases c_7 : r_3 = 2
  · refine lv_tableIn (pc := 15) (tgt := 90) (off := 75) hx hb dX8_isWhole_15 (by rw [c_7]; decide) (by rw [c_7]; decide) (by rw [c_7]; rfl) (by decide) ?_
    have h := h.1 c_7
    refine lv_iload_n (pc := 90) hx hb dX8_isWhole_90 rfl (lv_at hl 0 rfl) ?_
    refine lv_iconst (pc := 91) (v := 2) hx hb dX8_isWhole_91 (by decide) ?_
    refine lv_icmp_lt (pc := 92) (tgt := 99) hx hb dX8_isWhole_92 (by decide) (fun c_8 => ?_) (fun c_8 => ?_)
    · have h := h.1 c_8
      refine lv_iconst (pc := 99) (v := 0) hx hb dX8_isWhole_99 (by decide) ?_
      exact q_zret (pc := 100) E hR h rfl dX8_isWhole_100
    · have h := h.2 c_8
      refine lv_iconst (pc := 95) (v := 1) hx hb dX8_isWhole_95 (by decide) ?_
      refine lv_goto (pc := 96) (tgt := 100) hx hb dX8_isWhole_96 (by decide) ?_
      exact q_zret (pc := 100) E hR h rfl dX8_isWhole_100
  replace h := h.2 c_7
  by_cases c_9 : r_3 = 3
  · refine lv_tableIn (pc := 15) (tgt := 101) (off := 86) hx hb dX8_isWhole_15 (by rw [c_9]; decide) (by rw [c_9]; decide) (by rw [c_9]; rfl) (by decide) ?_
    have h := h.1 c_9
    refine lv_aload_n (pc := 101) hx hb dX8_isWhole_101 rfl (lv_at hl 1 rfl) ?_
    refine lv_iload_n (pc := 102) hx hb dX8_isWhole_102 rfl (lv_at hl 2 rfl) ?_
    refine lv_iconst (pc := 103) (v := 1) hx hb dX8_isWhole_103 (by decide) ?_
    refine lv_iadd (pc := 104) hx hb dX8_isWhole_104 ?_
    refine q_ci (pc := 105) hR (q_rV E (xp1 w) (As := [.int (x1 + 1)]) (rest := []) (cX8_hasEndOfBytes_met l w hI N (x1 + 1) _ σ_2 h) ckX8_hasEndOfBytes cvX8_hasEndOfBytes mw21 ⟨rfl, rfl, Nat.le_of_ble_eq_true rfl, Nat.le_of_ble_eq_true rfl⟩ hR (rc1_2 w) rfl hl.1 rfl (Nat.le_of_ble_eq_true rfl) dX8_isWhole_105) (fun r_11 σ_10 H locs h hR => ?_)
    exact q_zret (pc := 108) E hR h.2 h.1 dX8_isWhole_108
  replace h := h.2 c_9
  by_cases c_12 : r_3 = 4
  · refine lv_tableIn (pc := 15) (tgt := 109) (off := 94) hx hb dX8_isWhole_15 (by rw [c_12]; decide) (by rw [c_12]; decide) (by rw [c_12]; rfl) (by decide) ?_
    have h := h.1 c_12
    exact bX8_isWhole_109 l w N Q E v_1 hR (lv_sub hl [0] rfl) h
  replace h := h.2 c_12
  by_cases c_13 : r_3 = 5
  · refine lv_tableIn (pc := 15) (tgt := 120) (off := 105) hx hb dX8_isWhole_15 (by rw [c_13]; decide) (by rw [c_13]; decide) (by rw [c_13]; rfl) (by decide) ?_
    have h := h.1 c_13
    refine lv_aload_n (pc := 120) hx hb dX8_isWhole_120 rfl (lv_at hl 1 rfl) ?_
    refine lv_iload_n (pc := 121) hx hb dX8_isWhole_121 rfl (lv_at hl 2 rfl) ?_
    refine lv_iconst (pc := 122) (v := 1) hx hb dX8_isWhole_122 (by decide) ?_
    refine lv_iadd (pc := 123) hx hb dX8_isWhole_123 ?_
    refine q_ci (pc := 124) hR (q_rV E (xp1 w) (As := [.int (x1 + 1)]) (rest := []) (cX8_hasEndOfFours_met l w hI N (x1 + 1) _ σ_2 h) ckX8_hasEndOfFours cvX8_hasEndOfFours mw22 ⟨rfl, rfl, Nat.le_of_ble_eq_true rfl, Nat.le_of_ble_eq_true rfl⟩ hR (rc1_2 w) rfl hl.1 rfl (Nat.le_of_ble_eq_true rfl) dX8_isWhole_124) (fun r_15 σ_14 H locs h hR => ?_)
    exact q_zret (pc := 127) E hR h.2 h.1 dX8_isWhole_127
  replace h := h.2 c_13
  by_cases c_16 : r_3 = 8
  · refine lv_tableIn (pc := 15) (tgt := 109) (off := 94) hx hb dX8_isWhole_15 (by rw [c_16]; decide) (by rw [c_16]; decide) (by rw [c_16]; rfl) (by decide) ?_
    have h := h.1 c_16
    exact bX8_isWhole_109 l w N Q E v_1 hR (lv_sub hl [0] rfl) h
  replace h := h.2 c_16
  by_cases c_17 : r_3 = 9
  · refine lv_tableIn (pc := 15) (tgt := 109) (off := 94) hx hb dX8_isWhole_15 (by rw [c_17]; decide) (by rw [c_17]; decide) (by rw [c_17]; rfl) (by decide) ?_
    have h := h.1 c_17
    exact bX8_isWhole_109 l w N Q E v_1 hR (lv_sub hl [0] rfl) h
  replace h := h.2 c_17
  by_cases c_18 : r_3 = 10
  · refine lv_tableIn (pc := 15) (tgt := 128) (off := 113) hx hb dX8_isWhole_15 (by rw [c_18]; decide) (by rw [c_18]; decide) (by rw [c_18]; rfl) (by decide) ?_
    have h := h.1 c_18
    exact bX8_isWhole_128 l w N Q E x1 v_1 hR (lv_sub hl [1, 2, 0] rfl) h
  replace h := h.2 c_18
  by_cases c_19 : r_3 = 11
  · refine lv_tableIn (pc := 15) (tgt := 128) (off := 113) hx hb dX8_isWhole_15 (by rw [c_19]; decide) (by rw [c_19]; decide) (by rw [c_19]; rfl) (by decide) ?_
    have h := h.1 c_19
    exact bX8_isWhole_128 l w N Q E x1 v_1 hR (lv_sub hl [1, 2, 0] rfl) h
  replace h := h.2 c_19
  have hD : W p l e rmX8_isWhole s m args below meth c H locs 0 0 (MQ below (va_Qi Q (Rp 223 ev1 w) (Aw 223 w)) args s 0 0 (Aw 223 w)) (F0 m 146 ls []) := by
    refine lv_iconst (pc := 146) (v := 0) hx hb dX8_isWhole_146 (by decide) ?_
    exact q_zret (pc := 147) E hR h rfl dX8_isWhole_147
  by_cases c_20 : r_3 = 6
  · exact lv_tableIn (pc := 15) (tgt := 146) (off := 131) hx hb dX8_isWhole_15 (by rw [c_20]; decide) (by rw [c_20]; decide) (by rw [c_20]; rfl) (by decide) hD
  by_cases c_21 : r_3 = 7
  · exact lv_tableIn (pc := 15) (tgt := 146) (off := 131) hx hb dX8_isWhole_15 (by rw [c_21]; decide) (by rw [c_21]; decide) (by rw [c_21]; rfl) (by decide) hD
  have nc_4 := ne_i (n := 0) (by decide) c_4
  have nc_6 := ne_i (n := 1) (by decide) c_6
  have nc_7 := ne_i (n := 2) (by decide) c_7
  have nc_9 := ne_i (n := 3) (by decide) c_9
  have nc_12 := ne_i (n := 4) (by decide) c_12
  have nc_13 := ne_i (n := 5) (by decide) c_13
  have nc_16 := ne_i (n := 8) (by decide) c_16
  have nc_17 := ne_i (n := 9) (by decide) c_17
  have nc_18 := ne_i (n := 10) (by decide) c_18
  have nc_19 := ne_i (n := 11) (by decide) c_19
  have nc_20 := ne_i (n := 6) (by decide) c_20
  have nc_21 := ne_i (n := 7) (by decide) c_21
  exact lv_tableOut (pc := 15) (tgt := 146) hx hb dX8_isWhole_15 (by omega) (by decide) hD
theorem cX8_isWhole_met (l : Launch) (w : Wd) (hI : Ij 223 w) (N : Nat) (x1 : Int32) (Q : Int32 → St → Prop) (σ : St) (h : fX8_isWhole N x1 Q σ) : Met l yX8_isWhole (.code yX8_isWhole cX8_isWhole 3 (some .boolean) :: Uw) rmX8_isWhole (va_Pc [.ref (w.2.1 2), .int x1] (fun U => Rp 223 ev1 w σ U ∧ (X1 w) U)) (va_Qi Q (Rp 223 ev1 w) (Aw 223 w)) 0 0 (Aw 223 w) :=
  q_met (by decide) (Nat.le_of_ble_eq_true rfl) hI (fun p e s m below meth c ls E hl hR => bX8_isWhole_e l w N Q E x1 hR hl h)
