-- GlulxStringsModel.in(JJJ)Z
abbrev rmX12_in : Room := { frames := 0, cells := 0, slots := 0, locals := 0 }
def fX12_in (N : Nat) (x0 : Int64) (x2 : Int64) (x4 : Int64) (Q : Int32 → St → Prop) (σ : St) : Prop := ((x0 < x2 → Q 0 σ) ∧ (¬ x0 < x2 → ((x4 < x0 → Q 0 σ) ∧ (¬ x4 < x0 → Q 1 σ))))
set_option maxHeartbeats 4000000 in
set_option maxRecDepth 100000 in
theorem bX12_in_e {p : Program} {e : Env} {s : State} {m : MethodId} {args : Array Value} {below : List Frame} {meth : Method} {c : Code} (l : Launch) (w : Wd) (N : Nat) (Q : Int32 → St → Prop) (E : Cx 38 w X2 cX12_in 6 RX12 (.code yX12_in cX12_in 6 (some .boolean)) (some .boolean) p s m args meth c) (x0 : Int64) (x2 : Int64) (x4 : Int64) {σ : St} {H : Heap} {locs : List Loc} {ls : Array Slot} (hR : Rr 38 ev2 w σ s H locs) (hl : lv_has ls 6 [(0, .long x0), (2, .long x2), (4, .long x4)]) (h : fX12_in N x0 x2 x4 Q σ) : W p l e rmX12_in s m args below meth c H locs 0 0 (MQ below (va_Qi Q (Rp 38 ev2 w) (Aw 38 w)) args s 0 0 (Aw 38 w)) (F0 m 0 ls []) := by
  obtain ⟨hx, hb, hml, hown, hts, hr, hlk, hK, hI, hX⟩ := id E
  unfold fX12_in at h
  refine lv_lload_n (pc := 0) hx hb dX12_in_0 rfl (lv_at hl 0 rfl) ?_
  refine lv_lload_n (pc := 1) hx hb dX12_in_1 rfl (lv_at hl 1 rfl) ?_
  refine W.lcmp (pc := 2) hx hb dX12_in_2 ?_
  refine lv_if_lt (pc := 3) (tgt := 17) hx hb dX12_in_3 (by decide) (fun c_1 => ?_) (fun c_1 => ?_)
  · have c_1 := (lc_lt _ _).mp c_1
    have h := h.1 c_1
    refine lv_iconst (pc := 17) (v := 0) hx hb dX12_in_17 (by decide) ?_
    exact q_zret (pc := 18) E hR h rfl dX12_in_18
  · have c_1 := mt (lc_lt _ _).mpr c_1
    have h := h.2 c_1
    refine lv_lload_n (pc := 6) hx hb dX12_in_6 rfl (lv_at hl 0 rfl) ?_
    refine lv_lload (pc := 7) hx hb dX12_in_7 (lv_at hl 2 rfl) ?_
    refine W.lcmp (pc := 9) hx hb dX12_in_9 ?_
    refine lv_if_gt (pc := 10) (tgt := 17) hx hb dX12_in_10 (by decide) (fun c_2 => ?_) (fun c_2 => ?_)
    · have c_2 := (lc_gt _ _).mp c_2
      have h := h.1 c_2
      refine lv_iconst (pc := 17) (v := 0) hx hb dX12_in_17 (by decide) ?_
      exact q_zret (pc := 18) E hR h rfl dX12_in_18
    · have c_2 := mt (lc_gt _ _).mpr c_2
      have h := h.2 c_2
      refine lv_iconst (pc := 13) (v := 1) hx hb dX12_in_13 (by decide) ?_
      refine lv_goto (pc := 14) (tgt := 18) hx hb dX12_in_14 (by decide) ?_
      exact q_zret (pc := 18) E hR h rfl dX12_in_18
theorem cX12_in_met (l : Launch) (w : Wd) (hI : Ij 38 w) (N : Nat) (x0 : Int64) (x2 : Int64) (x4 : Int64) (Q : Int32 → St → Prop) (σ : St) (h : fX12_in N x0 x2 x4 Q σ) : Met l yX12_in (.code yX12_in cX12_in 6 (some .boolean) :: Uw) rmX12_in (va_Pc [.long x0, .long x2, .long x4] (fun U => Rp 38 ev2 w σ U ∧ X2 U)) (va_Qi Q (Rp 38 ev2 w) (Aw 38 w)) 0 0 (Aw 38 w) :=
  q_met (by decide) (Nat.le_of_ble_eq_true rfl) hI (fun p e s m below meth c ls E hl hR => bX12_in_e l w N Q E x0 x2 x4 hR hl h)
-- GlulxStringsModel.feed(IJ)I
abbrev rmX12_feed : Room := { frames := 1, cells := 0, slots := 0, locals := 25 }
def fX12_feed_l35 (N : Nat) (x2 : Int64) (Q : Int32 → St → Prop) (r35 : Int32 → St → Prop) (x4 : Int32) (σ : St) : Prop := ((x4 < 0 → Q (σ.1 0 3) σ) ∧ (¬ x4 < 0 → ∀ v_7 : Int32, v_7 = ((x2 >>> ((8 * x4).toInt64 &&& 63)) &&& 255).toInt32 → vp_in (σ.1 0 3) 600 ∧ ∀ σ_9 : St, σ_9 = u1 σ 2 (σ.1 0 3).toNatClampNeg v_7 → ∀ v_10 : Int32, v_10 = (σ_9.1 0 3) + 1 → ∀ σ_11 : St, σ_11 = u1 σ_9 0 3 v_10 → ∀ v_12 : Int32, v_12 = x4 + (-1) → r35 v_12 σ_11))
set_option maxHeartbeats 4000000 in
set_option maxRecDepth 100000 in
theorem bX12_feed_35 {p : Program} {e : Env} {s : State} {m : MethodId} {args : Array Value} {below : List Frame} {meth : Method} {c : Code} (l : Launch) (w : Wd) (N : Nat) (Q : Int32 → St → Prop) (E : Cx 38 w X2 cX12_feed 5 RX12 (.code yX12_feed cX12_feed 5 (some .int)) (some .int) p s m args meth c) (x2 : Int64) : ∀ (n : Nat) (x4 : Int32) (σ : St) (H : Heap) (locs : List Loc) (ls : Array Slot), Rr 38 ev2 w σ s H locs → lv_has ls 5 [(0, .ref (w.2.1 0)), (2, .long x2), (4, .int x4)] → lo1 (fX12_feed_l35 N x2 Q) n x4 σ → W p l e rmX12_feed s m args below meth c H locs 0 0 (MQ below (va_Qi Q (Rp 38 ev2 w) (Aw 38 w)) args s 0 0 (Aw 38 w)) (F0 m 35 ls []) := by
  obtain ⟨hx, hb, hml, hown, hts, hr, hlk, hK, hI, hX⟩ := id E
  intro n
  induction n with
  | zero => intro x4 σ H locs ls hR hl h; exact h.elim
  | succ n ih =>
    intro x4 σ H locs ls hR hl h
    have h : fX12_feed_l35 N x2 Q (lo1 (fX12_feed_l35 N x2 Q) n) x4 σ := h
    unfold fX12_feed_l35 at h
    refine lv_iload (pc := 35) hx hb dX12_feed_35 (lv_at hl 2 rfl) ?_
    refine lv_if_lt (pc := 37) (tgt := 77) hx hb dX12_feed_37 (by decide) (fun c_6 => ?_) (fun c_6 => ?_)
    · have h := h.1 c_6
      refine lv_aload_n (pc := 77) hx hb dX12_feed_77 rfl (lv_at hl 0 rfl) ?_
      refine gf2_0_3 (pc := 78) hx hb hts hown hK hR mw259 dX12_feed_78 ?_
      exact q_iret (pc := 81) E hR h dX12_feed_81
    · have h := h.2 c_6
      refine lv_aload_n (pc := 40) hx hb dX12_feed_40 rfl (lv_at hl 0 rfl) ?_
      refine gf2_0_2 (pc := 41) hx hb hts hown hK hR mw260 dX12_feed_41 ?_
      refine lv_aload_n (pc := 44) hx hb dX12_feed_44 rfl (lv_at hl 0 rfl) ?_
      refine gf2_0_3 (pc := 45) hx hb hts hown hK hR mw259 dX12_feed_45 ?_
      refine lv_lload_n (pc := 48) hx hb dX12_feed_48 rfl (lv_at hl 1 rfl) ?_
      refine lv_bipush (pc := 49) (v := 8) hx hb dX12_feed_49 (by decide) ?_
      refine lv_iload (pc := 51) hx hb dX12_feed_51 (lv_at hl 2 rfl) ?_
      refine lv_imul (pc := 53) hx hb dX12_feed_53 ?_
      refine lv_lshr (pc := 54) (v := x2 >>> ((8 * x4).toInt64 &&& 63)) hx hb dX12_feed_54 rfl ?_
      refine lv_ldc2 (pc := 55) (v := 255) hx hb hown (hts _ (Uin mw261)) dX12_feed_55 ?_
      refine lv_land (pc := 58) hx hb dX12_feed_58 ?_
      refine lv_l2i (pc := 59) (v := ((x2 >>> ((8 * x4).toInt64 &&& 63)) &&& 255).toInt32) hx hb dX12_feed_59 rfl ?_
      refine lv_topi (pc := 60) (fun v_7 ev_7 => ?_)
      have h := h v_7 ev_7
      have g_8 := h.1
      have h := h.2
      refine q_iast (pc := 60) hx hb hK hI hR (k := 2) lt2_2 (fun f => (ar2_2 _ f _)) g_8 dX12_feed_60 (fun H locs σ_9 eσ_9 hR => ?_)
      have h := h σ_9 eσ_9
      refine lv_aload_n (pc := 61) hx hb dX12_feed_61 rfl (lv_at hl 0 rfl) ?_
      refine lv_dup (pc := 62) hx hb dX12_feed_62 rfl ?_
      refine gf2_0_3 (pc := 63) hx hb hts hown hK hR mw259 dX12_feed_63 ?_
      refine lv_iconst (pc := 66) (v := 1) hx hb dX12_feed_66 (by decide) ?_
      refine lv_iadd (pc := 67) hx hb dX12_feed_67 ?_
      refine lv_topi (pc := 68) (fun v_10 ev_10 => ?_)
      have h := h v_10 ev_10
      refine pf2_0_3 (pc := 68) hx hb hts hown hK hI hR mw259 dX12_feed_68 (fun H locs σ_11 eσ_11 hR => ?_)
      have h := h σ_11 eσ_11
      obtain ⟨v_12, ev_12⟩ : ∃ z : Int32, z = x4 + (-1) := ⟨_, rfl⟩
      have h := h v_12 ev_12
      refine lv_iinc (pc := 71) (v := v_12) (lv' := [(4, .int v_12), (0, .ref (w.2.1 0)), (2, .long x2)]) hx hb dX12_feed_71 hl (k := 2) rfl (by rw [ev_12]; rfl) (by decide) rfl (fun ls hl => ?_)
      refine lv_goto (pc := 74) (tgt := 35) hx hb dX12_feed_74 (by decide) ?_
      exact ih v_12 σ_11 _ _ _ hR (lv_sub hl [1, 2, 0] rfl) h
def fX12_feed (N : Nat) (x1 : Int32) (x2 : Int64) (Q : Int32 → St → Prop) (σ : St) : Prop := fX12_in N x1.toInt64 1 8 (fun r_2 σ_1 => ((r_2 = 0 → Q (-2) σ_1) ∧ (¬ r_2 = 0 → ((((σ_1.1 0 3) + x1) ≤ 600 → ∀ v_5 : Int32, v_5 = x1 - 1 → lo1 (fX12_feed_l35 N x2 Q) N v_5 σ_1) ∧ (¬ ((σ_1.1 0 3) + x1) ≤ 600 → Q (-4) σ_1))))) σ
set_option maxHeartbeats 4000000 in
set_option maxRecDepth 100000 in
theorem bX12_feed_e {p : Program} {e : Env} {s : State} {m : MethodId} {args : Array Value} {below : List Frame} {meth : Method} {c : Code} (l : Launch) (w : Wd) (N : Nat) (Q : Int32 → St → Prop) (E : Cx 38 w X2 cX12_feed 5 RX12 (.code yX12_feed cX12_feed 5 (some .int)) (some .int) p s m args meth c) (x1 : Int32) (x2 : Int64) {σ : St} {H : Heap} {locs : List Loc} {ls : Array Slot} (hR : Rr 38 ev2 w σ s H locs) (hl : lv_has ls 5 [(0, .ref (w.2.1 0)), (1, .int x1), (2, .long x2)]) (h : fX12_feed N x1 x2 Q σ) : W p l e rmX12_feed s m args below meth c H locs 0 0 (MQ below (va_Qi Q (Rp 38 ev2 w) (Aw 38 w)) args s 0 0 (Aw 38 w)) (F0 m 0 ls []) := by
  obtain ⟨hx, hb, hml, hown, hts, hr, hlk, hK, hI, hX⟩ := id E
  unfold fX12_feed at h
  refine lv_iload_n (pc := 0) hx hb dX12_feed_0 rfl (lv_at hl 1 rfl) ?_
  refine lv_i2l (pc := 1) (v := x1.toInt64) hx hb dX12_feed_1 rfl ?_
  refine lv_lconst (pc := 2) (v := 1) hx hb dX12_feed_2 (by decide) ?_
  refine lv_ldc2 (pc := 3) (v := 8) hx hb hown (hts _ (Uin mw257)) dX12_feed_3 ?_
  refine q_ci (pc := 6) hR (q_rS E (xp2 w) (As := [.long x1.toInt64, .long 1, .long 8]) (rest := []) (cX12_in_met l w hI N x1.toInt64 1 8 _ σ h) ckX12_in csX12_in mw258 ⟨rfl, rfl, Nat.le_of_ble_eq_true rfl, Nat.le_of_ble_eq_true rfl⟩ hR rfl hl.1 rfl (Nat.le_of_ble_eq_true rfl) dX12_feed_6) (fun r_2 σ_1 H locs h hR => ?_)
  refine lv_if_ne (pc := 9) (tgt := 15) hx hb dX12_feed_9 (by decide) (fun c_3 => ?_) (fun c_3 => ?_)
  · have h := h.2 c_3
    refine lv_aload_n (pc := 15) hx hb dX12_feed_15 rfl (lv_at hl 0 rfl) ?_
    refine gf2_0_3 (pc := 16) hx hb hts hown hK hR mw259 dX12_feed_16 ?_
    refine lv_iload_n (pc := 19) hx hb dX12_feed_19 rfl (lv_at hl 1 rfl) ?_
    refine lv_iadd (pc := 20) hx hb dX12_feed_20 ?_
    refine lv_sipush (pc := 21) (v := 600) hx hb dX12_feed_21 (by decide) ?_
    refine lv_icmp_le (pc := 24) (tgt := 30) hx hb dX12_feed_24 (by decide) (fun c_4 => ?_) (fun c_4 => ?_)
    · have h := h.1 c_4
      refine lv_iload_n (pc := 30) hx hb dX12_feed_30 rfl (lv_at hl 1 rfl) ?_
      refine lv_iconst (pc := 31) (v := 1) hx hb dX12_feed_31 (by decide) ?_
      refine lv_isub (pc := 32) hx hb dX12_feed_32 ?_
      refine lv_topi (pc := 33) (fun v_5 ev_5 => ?_)
      have h := h v_5 ev_5
      refine lv_istore (pc := 33) (lv' := [(4, .int v_5), (0, .ref (w.2.1 0)), (1, .int x1), (2, .long x2)]) hx hb dX12_feed_33 hl (by decide) rfl (fun ls hl => ?_)
      exact bX12_feed_35 l w N Q E x2 N v_5 σ_1 _ _ _ hR (lv_sub hl [1, 3, 0] rfl) h
    · have h := h.2 c_4
      refine lv_bipush (pc := 27) (v := (-4)) hx hb dX12_feed_27 (by decide) ?_
      exact q_iret (pc := 29) E hR h dX12_feed_29
  · have h := h.1 c_3
    refine lv_bipush (pc := 12) (v := (-2)) hx hb dX12_feed_12 (by decide) ?_
    exact q_iret (pc := 14) E hR h dX12_feed_14
theorem cX12_feed_met (l : Launch) (w : Wd) (hI : Ij 38 w) (N : Nat) (x1 : Int32) (x2 : Int64) (Q : Int32 → St → Prop) (σ : St) (h : fX12_feed N x1 x2 Q σ) : Met l yX12_feed (.code yX12_feed cX12_feed 5 (some .int) :: Uw) rmX12_feed (va_Pc [.ref (w.2.1 0), .int x1, .long x2] (fun U => Rp 38 ev2 w σ U ∧ X2 U)) (va_Qi Q (Rp 38 ev2 w) (Aw 38 w)) 0 0 (Aw 38 w) :=
  q_met (by decide) (Nat.le_of_ble_eq_true rfl) hI (fun p e s m below meth c ls E hl hR => bX12_feed_e l w N Q E x1 x2 hR hl h)
-- GlulxStringsModel.tell(II)V
abbrev rmX12_tell : Room := { frames := 0, cells := 0, slots := 0, locals := 0 }
def fX12_tell (N : Nat) (x1 : Int32) (x2 : Int32) (Q : St → Prop) (σ : St) : Prop := ∀ v_1 : Int32, v_1 = x2 &&& 255 → vp_in x1 4096 ∧ ∀ σ_3 : St, σ_3 = u1 σ 1 x1.toNatClampNeg v_1 → (((σ_3.1 0 7) ≤ 0 → Q σ_3) ∧ (¬ (σ_3.1 0 7) ≤ 0 → ((x1 < (σ_3.1 0 6) → Q σ_3) ∧ (¬ x1 < (σ_3.1 0 6) → (((((σ_3.1 0 6).toInt64) + (σ_3.2 0 8)) ≤ x1.toInt64 → Q σ_3) ∧ (¬ (((σ_3.1 0 6).toInt64) + (σ_3.2 0 8)) ≤ x1.toInt64 → ∀ σ_7 : St, σ_7 = u1 σ_3 0 7 0 → Q σ_7))))))
set_option maxHeartbeats 4000000 in
set_option maxRecDepth 100000 in
theorem bX12_tell_e {p : Program} {e : Env} {s : State} {m : MethodId} {args : Array Value} {below : List Frame} {meth : Method} {c : Code} (l : Launch) (w : Wd) (N : Nat) (Q : St → Prop) (E : Cx 38 w X2 cX12_tell 3 RX12 (.code yX12_tell cX12_tell 3 none) none p s m args meth c) (x1 : Int32) (x2 : Int32) {σ : St} {H : Heap} {locs : List Loc} {ls : Array Slot} (hR : Rr 38 ev2 w σ s H locs) (hl : lv_has ls 3 [(0, .ref (w.2.1 0)), (1, .int x1), (2, .int x2)]) (h : fX12_tell N x1 x2 Q σ) : W p l e rmX12_tell s m args below meth c H locs 0 0 (MQ below (va_Qv Q (Rp 38 ev2 w) (Aw 38 w)) args s 0 0 (Aw 38 w)) (F0 m 0 ls []) := by
  obtain ⟨hx, hb, hml, hown, hts, hr, hlk, hK, hI, hX⟩ := id E
  unfold fX12_tell at h
  refine lv_aload_n (pc := 0) hx hb dX12_tell_0 rfl (lv_at hl 0 rfl) ?_
  refine gf2_0_0 (pc := 1) hx hb hts hown hK hR mw262 dX12_tell_1 ?_
  refine lv_iload_n (pc := 4) hx hb dX12_tell_4 rfl (lv_at hl 1 rfl) ?_
  refine lv_iload_n (pc := 5) hx hb dX12_tell_5 rfl (lv_at hl 2 rfl) ?_
  refine lv_sipush (pc := 6) (v := 255) hx hb dX12_tell_6 (by decide) ?_
  refine lv_iand (pc := 9) hx hb dX12_tell_9 ?_
  refine lv_topi (pc := 10) (fun v_1 ev_1 => ?_)
  have h := h v_1 ev_1
  have g_2 := h.1
  have h := h.2
  refine q_iast (pc := 10) hx hb hK hI hR (k := 1) lt2_1 (fun f => (ar2_1 _ f _)) g_2 dX12_tell_10 (fun H locs σ_3 eσ_3 hR => ?_)
  have h := h σ_3 eσ_3
  refine lv_aload_n (pc := 11) hx hb dX12_tell_11 rfl (lv_at hl 0 rfl) ?_
  refine gf2_0_7 (pc := 12) hx hb hts hown hK hR mw263 dX12_tell_12 ?_
  refine lv_if_le (pc := 15) (tgt := 47) hx hb dX12_tell_15 (by decide) (fun c_4 => ?_) (fun c_4 => ?_)
  · have h := h.1 c_4
    exact q_vret (pc := 47) E hR h dX12_tell_47
  · have h := h.2 c_4
    refine lv_iload_n (pc := 18) hx hb dX12_tell_18 rfl (lv_at hl 1 rfl) ?_
    refine lv_aload_n (pc := 19) hx hb dX12_tell_19 rfl (lv_at hl 0 rfl) ?_
    refine gf2_0_6 (pc := 20) hx hb hts hown hK hR mw264 dX12_tell_20 ?_
    refine lv_icmp_lt (pc := 23) (tgt := 47) hx hb dX12_tell_23 (by decide) (fun c_5 => ?_) (fun c_5 => ?_)
    · have h := h.1 c_5
      exact q_vret (pc := 47) E hR h dX12_tell_47
    · have h := h.2 c_5
      refine lv_iload_n (pc := 26) hx hb dX12_tell_26 rfl (lv_at hl 1 rfl) ?_
      refine lv_i2l (pc := 27) (v := x1.toInt64) hx hb dX12_tell_27 rfl ?_
      refine lv_aload_n (pc := 28) hx hb dX12_tell_28 rfl (lv_at hl 0 rfl) ?_
      refine gf2_0_6 (pc := 29) hx hb hts hown hK hR mw264 dX12_tell_29 ?_
      refine lv_i2l (pc := 32) (v := (σ_3.1 0 6).toInt64) hx hb dX12_tell_32 rfl ?_
      refine lv_aload_n (pc := 33) hx hb dX12_tell_33 rfl (lv_at hl 0 rfl) ?_
      refine gf2_0_8 (pc := 34) hx hb hts hown hK hR mw265 dX12_tell_34 ?_
      refine lv_ladd (pc := 37) hx hb dX12_tell_37 ?_
      refine W.lcmp (pc := 38) hx hb dX12_tell_38 ?_
      refine lv_if_ge (pc := 39) (tgt := 47) hx hb dX12_tell_39 (by decide) (fun c_6 => ?_) (fun c_6 => ?_)
      · have c_6 := (lc_ge _ _).mp c_6
        have h := h.1 c_6
        exact q_vret (pc := 47) E hR h dX12_tell_47
      · have c_6 := mt (lc_ge _ _).mpr c_6
        have h := h.2 c_6
        refine lv_aload_n (pc := 42) hx hb dX12_tell_42 rfl (lv_at hl 0 rfl) ?_
        refine lv_iconst (pc := 43) (v := 0) hx hb dX12_tell_43 (by decide) ?_
        refine pf2_0_7 (pc := 44) hx hb hts hown hK hI hR mw263 dX12_tell_44 (fun H locs σ_7 eσ_7 hR => ?_)
        have h := h σ_7 eσ_7
        exact q_vret (pc := 47) E hR h dX12_tell_47
theorem cX12_tell_met (l : Launch) (w : Wd) (hI : Ij 38 w) (N : Nat) (x1 : Int32) (x2 : Int32) (Q : St → Prop) (σ : St) (h : fX12_tell N x1 x2 Q σ) : Met l yX12_tell (.code yX12_tell cX12_tell 3 none :: Uw) rmX12_tell (va_Pc [.ref (w.2.1 0), .int x1, .int x2] (fun U => Rp 38 ev2 w σ U ∧ X2 U)) (va_Qv Q (Rp 38 ev2 w) (Aw 38 w)) 0 0 (Aw 38 w) :=
  q_met (by decide) (Nat.le_of_ble_eq_true rfl) hI (fun p e s m below meth c ls E hl hR => bX12_tell_e l w N Q E x1 x2 hR hl h)
-- GlulxStringsModel.load(I)I
abbrev rmX12_load : Room := { frames := 1, cells := 0, slots := 0, locals := 22 }
def fX12_load_l31 (N : Nat) (x1 : Int32) (x2 : Int32) (Q : Int32 → St → Prop) (r31 : Int32 → St → Prop) (x3 : Int32) (σ : St) : Prop := ((x2 ≤ x3 → Q x2 σ) ∧ (¬ x2 ≤ x3 → vp_in x3 600 ∧ fX12_tell N (x1 + x3) (σ.1 2 x3.toNatClampNeg) (fun σ_7 => ∀ v_8 : Int32, v_8 = x3 + 1 → r31 v_8 σ_7) σ))
set_option maxHeartbeats 4000000 in
set_option maxRecDepth 100000 in
theorem bX12_load_31 {p : Program} {e : Env} {s : State} {m : MethodId} {args : Array Value} {below : List Frame} {meth : Method} {c : Code} (l : Launch) (w : Wd) (N : Nat) (Q : Int32 → St → Prop) (E : Cx 38 w X2 cX12_load 4 RX12 (.code yX12_load cX12_load 4 (some .int)) (some .int) p s m args meth c) (x1 : Int32) (x2 : Int32) : ∀ (n : Nat) (x3 : Int32) (σ : St) (H : Heap) (locs : List Loc) (ls : Array Slot), Rr 38 ev2 w σ s H locs → lv_has ls 4 [(0, .ref (w.2.1 0)), (1, .int x1), (2, .int x2), (3, .int x3)] → lo1 (fX12_load_l31 N x1 x2 Q) n x3 σ → W p l e rmX12_load s m args below meth c H locs 0 0 (MQ below (va_Qi Q (Rp 38 ev2 w) (Aw 38 w)) args s 0 0 (Aw 38 w)) (F0 m 31 ls []) := by
  obtain ⟨hx, hb, hml, hown, hts, hr, hlk, hK, hI, hX⟩ := id E
  intro n
  induction n with
  | zero => intro x3 σ H locs ls hR hl h; exact h.elim
  | succ n ih =>
    intro x3 σ H locs ls hR hl h
    have h : fX12_load_l31 N x1 x2 Q (lo1 (fX12_load_l31 N x1 x2 Q) n) x3 σ := h
    unfold fX12_load_l31 at h
    refine lv_iload_n (pc := 31) hx hb dX12_load_31 rfl (lv_at hl 3 rfl) ?_
    refine lv_iload_n (pc := 32) hx hb dX12_load_32 rfl (lv_at hl 2 rfl) ?_
    refine lv_icmp_ge (pc := 33) (tgt := 55) hx hb dX12_load_33 (by decide) (fun c_5 => ?_) (fun c_5 => ?_)
    · have h := h.1 c_5
      refine lv_iload_n (pc := 55) hx hb dX12_load_55 rfl (lv_at hl 2 rfl) ?_
      exact q_iret (pc := 56) E hR h dX12_load_56
    · have h := h.2 c_5
      refine lv_aload_n (pc := 36) hx hb dX12_load_36 rfl (lv_at hl 0 rfl) ?_
      refine lv_iload_n (pc := 37) hx hb dX12_load_37 rfl (lv_at hl 1 rfl) ?_
      refine lv_iload_n (pc := 38) hx hb dX12_load_38 rfl (lv_at hl 3 rfl) ?_
      refine lv_iadd (pc := 39) hx hb dX12_load_39 ?_
      refine lv_aload_n (pc := 40) hx hb dX12_load_40 rfl (lv_at hl 0 rfl) ?_
      refine gf2_0_2 (pc := 41) hx hb hts hown hK hR mw260 dX12_load_41 ?_
      refine lv_iload_n (pc := 44) hx hb dX12_load_44 rfl (lv_at hl 3 rfl) ?_
      have g_6 := h.1
      have h := h.2
      refine q_iald (pc := 45) hx hb hK hR (k := 2) lt2_2 (ar2_2 _ _ _) g_6 dX12_load_45 ?_
      refine q_cv (pc := 46) hR (q_rV E (xp2 w) (As := [.int (x1 + x3), .int (σ.1 2 x3.toNatClampNeg)]) (rest := []) (cX12_tell_met l w hI N (x1 + x3) (σ.1 2 x3.toNatClampNeg) _ σ h) ckX12_tell cvX12_tell mw267 ⟨rfl, rfl, Nat.le_of_ble_eq_true rfl, Nat.le_of_ble_eq_true rfl⟩ hR (rc2_0 w) rfl hl.1 rfl (Nat.le_of_ble_eq_true rfl) dX12_load_46) (fun σ_7 H locs h hR => ?_)
      obtain ⟨v_8, ev_8⟩ : ∃ z : Int32, z = x3 + 1 := ⟨_, rfl⟩
      have h := h v_8 ev_8
      refine lv_iinc (pc := 49) (v := v_8) (lv' := [(3, .int v_8), (0, .ref (w.2.1 0)), (1, .int x1), (2, .int x2)]) hx hb dX12_load_49 hl (k := 3) rfl (by rw [ev_8]; rfl) (by decide) rfl (fun ls hl => ?_)
      refine lv_goto (pc := 52) (tgt := 31) hx hb dX12_load_52 (by decide) ?_
      exact ih v_8 σ_7 _ _ _ hR (lv_sub hl [1, 2, 3, 0] rfl) h
def fX12_load (N : Nat) (x1 : Int32) (Q : Int32 → St → Prop) (σ : St) : Prop := ∀ v_1 : Int32, v_1 = σ.1 0 3 → ∀ σ_2 : St, σ_2 = u1 σ 0 3 0 → ((x1 < 0 → Q (-2) σ_2) ∧ (¬ x1 < 0 → (((x1.toInt64 + v_1.toInt64) ≤ 4096 → lo1 (fX12_load_l31 N x1 v_1 Q) N 0 σ_2) ∧ (¬ (x1.toInt64 + v_1.toInt64) ≤ 4096 → Q (-2) σ_2))))
set_option maxHeartbeats 4000000 in
set_option maxRecDepth 100000 in
theorem bX12_load_e {p : Program} {e : Env} {s : State} {m : MethodId} {args : Array Value} {below : List Frame} {meth : Method} {c : Code} (l : Launch) (w : Wd) (N : Nat) (Q : Int32 → St → Prop) (E : Cx 38 w X2 cX12_load 4 RX12 (.code yX12_load cX12_load 4 (some .int)) (some .int) p s m args meth c) (x1 : Int32) {σ : St} {H : Heap} {locs : List Loc} {ls : Array Slot} (hR : Rr 38 ev2 w σ s H locs) (hl : lv_has ls 4 [(0, .ref (w.2.1 0)), (1, .int x1)]) (h : fX12_load N x1 Q σ) : W p l e rmX12_load s m args below meth c H locs 0 0 (MQ below (va_Qi Q (Rp 38 ev2 w) (Aw 38 w)) args s 0 0 (Aw 38 w)) (F0 m 0 ls []) := by
  obtain ⟨hx, hb, hml, hown, hts, hr, hlk, hK, hI, hX⟩ := id E
  unfold fX12_load at h
  refine lv_aload_n (pc := 0) hx hb dX12_load_0 rfl (lv_at hl 0 rfl) ?_
  refine gf2_0_3 (pc := 1) hx hb hts hown hK hR mw259 dX12_load_1 ?_
  refine lv_topi (pc := 4) (fun v_1 ev_1 => ?_)
  have h := h v_1 ev_1
  refine lv_istore_n (pc := 4) (lv' := [(2, .int v_1), (0, .ref (w.2.1 0)), (1, .int x1)]) hx hb dX12_load_4 rfl hl (by decide) rfl (fun ls hl => ?_)
  refine lv_aload_n (pc := 5) hx hb dX12_load_5 rfl (lv_at hl 1 rfl) ?_
  refine lv_iconst (pc := 6) (v := 0) hx hb dX12_load_6 (by decide) ?_
  refine pf2_0_3 (pc := 7) hx hb hts hown hK hI hR mw259 dX12_load_7 (fun H locs σ_2 eσ_2 hR => ?_)
  have h := h σ_2 eσ_2
  refine lv_iload_n (pc := 10) hx hb dX12_load_10 rfl (lv_at hl 2 rfl) ?_
  refine lv_if_lt (pc := 11) (tgt := 26) hx hb dX12_load_11 (by decide) (fun c_3 => ?_) (fun c_3 => ?_)
  · have h := h.1 c_3
    refine lv_bipush (pc := 26) (v := (-2)) hx hb dX12_load_26 (by decide) ?_
    exact q_iret (pc := 28) E hR h dX12_load_28
  · have h := h.2 c_3
    refine lv_iload_n (pc := 14) hx hb dX12_load_14 rfl (lv_at hl 2 rfl) ?_
    refine lv_i2l (pc := 15) (v := x1.toInt64) hx hb dX12_load_15 rfl ?_
    refine lv_iload_n (pc := 16) hx hb dX12_load_16 rfl (lv_at hl 0 rfl) ?_
    refine lv_i2l (pc := 17) (v := v_1.toInt64) hx hb dX12_load_17 rfl ?_
    refine lv_ladd (pc := 18) hx hb dX12_load_18 ?_
    refine lv_ldc2 (pc := 19) (v := 4096) hx hb hown (hts _ (Uin mw266)) dX12_load_19 ?_
    refine W.lcmp (pc := 22) hx hb dX12_load_22 ?_
    refine lv_if_le (pc := 23) (tgt := 29) hx hb dX12_load_23 (by decide) (fun c_4 => ?_) (fun c_4 => ?_)
    · have c_4 := (lc_le _ _).mp c_4
      have h := h.1 c_4
      refine lv_iconst (pc := 29) (v := 0) hx hb dX12_load_29 (by decide) ?_
      refine lv_istore_n (pc := 30) (lv' := [(3, .int 0), (2, .int v_1), (0, .ref (w.2.1 0)), (1, .int x1)]) hx hb dX12_load_30 rfl hl (by decide) rfl (fun ls hl => ?_)
      exact bX12_load_31 l w N Q E x1 v_1 N 0 σ_2 _ _ _ hR (lv_sub hl [2, 3, 1, 0] rfl) h
    · have c_4 := mt (lc_le _ _).mpr c_4
      have h := h.2 c_4
      refine lv_bipush (pc := 26) (v := (-2)) hx hb dX12_load_26 (by decide) ?_
      exact q_iret (pc := 28) E hR h dX12_load_28
theorem cX12_load_met (l : Launch) (w : Wd) (hI : Ij 38 w) (N : Nat) (x1 : Int32) (Q : Int32 → St → Prop) (σ : St) (h : fX12_load N x1 Q σ) : Met l yX12_load (.code yX12_load cX12_load 4 (some .int) :: Uw) rmX12_load (va_Pc [.ref (w.2.1 0), .int x1] (fun U => Rp 38 ev2 w σ U ∧ X2 U)) (va_Qi Q (Rp 38 ev2 w) (Aw 38 w)) 0 0 (Aw 38 w) :=
  q_met (by decide) (Nat.le_of_ble_eq_true rfl) hI (fun p e s m below meth c ls E hl hR => bX12_load_e l w N Q E x1 hR hl h)
-- GlulxStringsModel.border(I)I
abbrev rmX12_border : Room := { frames := 1, cells := 0, slots := 0, locals := 25 }
def fX12_border (N : Nat) (x1 : Int32) (Q : Int32 → St → Prop) (σ : St) : Prop := fX12_in N x1.toInt64 0 4096 (fun r_2 σ_1 => ((r_2 = 0 → Q (-2) σ_1) ∧ (¬ r_2 = 0 → ∀ v_4 : Int32, v_4 = σ_1.1 0 1 → ∀ σ_5 : St, σ_5 = u1 σ_1 0 1 x1 → ∀ σ_6 : St, σ_6 = u1 σ_5 0 7 0 → Q v_4 σ_6))) σ
set_option maxHeartbeats 4000000 in
set_option maxRecDepth 100000 in
theorem bX12_border_e {p : Program} {e : Env} {s : State} {m : MethodId} {args : Array Value} {below : List Frame} {meth : Method} {c : Code} (l : Launch) (w : Wd) (N : Nat) (Q : Int32 → St → Prop) (E : Cx 38 w X2 cX12_border 3 RX12 (.code yX12_border cX12_border 3 (some .int)) (some .int) p s m args meth c) (x1 : Int32) {σ : St} {H : Heap} {locs : List Loc} {ls : Array Slot} (hR : Rr 38 ev2 w σ s H locs) (hl : lv_has ls 3 [(0, .ref (w.2.1 0)), (1, .int x1)]) (h : fX12_border N x1 Q σ) : W p l e rmX12_border s m args below meth c H locs 0 0 (MQ below (va_Qi Q (Rp 38 ev2 w) (Aw 38 w)) args s 0 0 (Aw 38 w)) (F0 m 0 ls []) := by
  obtain ⟨hx, hb, hml, hown, hts, hr, hlk, hK, hI, hX⟩ := id E
  unfold fX12_border at h
  refine lv_iload_n (pc := 0) hx hb dX12_border_0 rfl (lv_at hl 1 rfl) ?_
  refine lv_i2l (pc := 1) (v := x1.toInt64) hx hb dX12_border_1 rfl ?_
  refine lv_lconst (pc := 2) (v := 0) hx hb dX12_border_2 (by decide) ?_
  refine lv_ldc2 (pc := 3) (v := 4096) hx hb hown (hts _ (Uin mw266)) dX12_border_3 ?_
  refine q_ci (pc := 6) hR (q_rS E (xp2 w) (As := [.long x1.toInt64, .long 0, .long 4096]) (rest := []) (cX12_in_met l w hI N x1.toInt64 0 4096 _ σ h) ckX12_in csX12_in mw258 ⟨rfl, rfl, Nat.le_of_ble_eq_true rfl, Nat.le_of_ble_eq_true rfl⟩ hR rfl hl.1 rfl (Nat.le_of_ble_eq_true rfl) dX12_border_6) (fun r_2 σ_1 H locs h hR => ?_)
  refine lv_if_ne (pc := 9) (tgt := 15) hx hb dX12_border_9 (by decide) (fun c_3 => ?_) (fun c_3 => ?_)
  · have h := h.2 c_3
    refine lv_aload_n (pc := 15) hx hb dX12_border_15 rfl (lv_at hl 0 rfl) ?_
    refine gf2_0_1 (pc := 16) hx hb hts hown hK hR mw268 dX12_border_16 ?_
    refine lv_topi (pc := 19) (fun v_4 ev_4 => ?_)
    have h := h v_4 ev_4
    refine lv_istore_n (pc := 19) (lv' := [(2, .int v_4), (0, .ref (w.2.1 0)), (1, .int x1)]) hx hb dX12_border_19 rfl hl (by decide) rfl (fun ls hl => ?_)
    refine lv_aload_n (pc := 20) hx hb dX12_border_20 rfl (lv_at hl 1 rfl) ?_
    refine lv_iload_n (pc := 21) hx hb dX12_border_21 rfl (lv_at hl 2 rfl) ?_
    refine pf2_0_1 (pc := 22) hx hb hts hown hK hI hR mw268 dX12_border_22 (fun H locs σ_5 eσ_5 hR => ?_)
    have h := h σ_5 eσ_5
    refine lv_aload_n (pc := 25) hx hb dX12_border_25 rfl (lv_at hl 1 rfl) ?_
    refine lv_iconst (pc := 26) (v := 0) hx hb dX12_border_26 (by decide) ?_
    refine pf2_0_7 (pc := 27) hx hb hts hown hK hI hR mw263 dX12_border_27 (fun H locs σ_6 eσ_6 hR => ?_)
    have h := h σ_6 eσ_6
    refine lv_iload_n (pc := 30) hx hb dX12_border_30 rfl (lv_at hl 0 rfl) ?_
    exact q_iret (pc := 31) E hR h dX12_border_31
  · have h := h.1 c_3
    refine lv_bipush (pc := 12) (v := (-2)) hx hb dX12_border_12 (by decide) ?_
    exact q_iret (pc := 14) E hR h dX12_border_14
theorem cX12_border_met (l : Launch) (w : Wd) (hI : Ij 38 w) (N : Nat) (x1 : Int32) (Q : Int32 → St → Prop) (σ : St) (h : fX12_border N x1 Q σ) : Met l yX12_border (.code yX12_border cX12_border 3 (some .int) :: Uw) rmX12_border (va_Pc [.ref (w.2.1 0), .int x1] (fun U => Rp 38 ev2 w σ U ∧ X2 U)) (va_Qi Q (Rp 38 ev2 w) (Aw 38 w)) 0 0 (Aw 38 w) :=
  q_met (by decide) (Nat.le_of_ble_eq_true rfl) hI (fun p e s m below meth c ls E hl hR => bX12_border_e l w N Q E x1 hR hl h)
-- GlulxStringsModel.byteAt(I)I
abbrev rmX12_byteAt : Room := { frames := 1, cells := 0, slots := 0, locals := 25 }
def fX12_byteAt (N : Nat) (x1 : Int32) (Q : Int32 → St → Prop) (σ : St) : Prop := fX12_in N x1.toInt64 0 4095 (fun r_2 σ_1 => ((r_2 = 0 → Q (-1) σ_1) ∧ (¬ r_2 = 0 → vp_in x1 4096 ∧ Q (σ_1.1 1 x1.toNatClampNeg) σ_1))) σ
set_option maxHeartbeats 4000000 in
set_option maxRecDepth 100000 in
theorem bX12_byteAt_e {p : Program} {e : Env} {s : State} {m : MethodId} {args : Array Value} {below : List Frame} {meth : Method} {c : Code} (l : Launch) (w : Wd) (N : Nat) (Q : Int32 → St → Prop) (E : Cx 38 w X2 cX12_byteAt 2 RX12 (.code yX12_byteAt cX12_byteAt 2 (some .int)) (some .int) p s m args meth c) (x1 : Int32) {σ : St} {H : Heap} {locs : List Loc} {ls : Array Slot} (hR : Rr 38 ev2 w σ s H locs) (hl : lv_has ls 2 [(0, .ref (w.2.1 0)), (1, .int x1)]) (h : fX12_byteAt N x1 Q σ) : W p l e rmX12_byteAt s m args below meth c H locs 0 0 (MQ below (va_Qi Q (Rp 38 ev2 w) (Aw 38 w)) args s 0 0 (Aw 38 w)) (F0 m 0 ls []) := by
  obtain ⟨hx, hb, hml, hown, hts, hr, hlk, hK, hI, hX⟩ := id E
  unfold fX12_byteAt at h
  refine lv_iload_n (pc := 0) hx hb dX12_byteAt_0 rfl (lv_at hl 1 rfl) ?_
  refine lv_i2l (pc := 1) (v := x1.toInt64) hx hb dX12_byteAt_1 rfl ?_
  refine lv_lconst (pc := 2) (v := 0) hx hb dX12_byteAt_2 (by decide) ?_
  refine lv_ldc2 (pc := 3) (v := 4095) hx hb hown (hts _ (Uin mw269)) dX12_byteAt_3 ?_
  refine q_ci (pc := 6) hR (q_rS E (xp2 w) (As := [.long x1.toInt64, .long 0, .long 4095]) (rest := []) (cX12_in_met l w hI N x1.toInt64 0 4095 _ σ h) ckX12_in csX12_in mw258 ⟨rfl, rfl, Nat.le_of_ble_eq_true rfl, Nat.le_of_ble_eq_true rfl⟩ hR rfl hl.1 rfl (Nat.le_of_ble_eq_true rfl) dX12_byteAt_6) (fun r_2 σ_1 H locs h hR => ?_)
  refine lv_if_eq (pc := 9) (tgt := 21) hx hb dX12_byteAt_9 (by decide) (fun c_3 => ?_) (fun c_3 => ?_)
  · have h := h.1 c_3
    refine lv_iconst (pc := 21) (v := (-1)) hx hb dX12_byteAt_21 (by decide) ?_
    exact q_iret (pc := 22) E hR h dX12_byteAt_22
  · have h := h.2 c_3
    refine lv_aload_n (pc := 12) hx hb dX12_byteAt_12 rfl (lv_at hl 0 rfl) ?_
    refine gf2_0_0 (pc := 13) hx hb hts hown hK hR mw262 dX12_byteAt_13 ?_
    refine lv_iload_n (pc := 16) hx hb dX12_byteAt_16 rfl (lv_at hl 1 rfl) ?_
    have g_4 := h.1
    have h := h.2
    refine q_iald (pc := 17) hx hb hK hR (k := 1) lt2_1 (ar2_1 _ _ _) g_4 dX12_byteAt_17 ?_
    refine lv_goto (pc := 18) (tgt := 22) hx hb dX12_byteAt_18 (by decide) ?_
    exact q_iret (pc := 22) E hR h dX12_byteAt_22
theorem cX12_byteAt_met (l : Launch) (w : Wd) (hI : Ij 38 w) (N : Nat) (x1 : Int32) (Q : Int32 → St → Prop) (σ : St) (h : fX12_byteAt N x1 Q σ) : Met l yX12_byteAt (.code yX12_byteAt cX12_byteAt 2 (some .int) :: Uw) rmX12_byteAt (va_Pc [.ref (w.2.1 0), .int x1] (fun U => Rp 38 ev2 w σ U ∧ X2 U)) (va_Qi Q (Rp 38 ev2 w) (Aw 38 w)) 0 0 (Aw 38 w) :=
  q_met (by decide) (Nat.le_of_ble_eq_true rfl) hI (fun p e s m below meth c ls E hl hR => bX12_byteAt_e l w N Q E x1 hR hl h)
-- GlulxStringsModel.fails(I)V
abbrev rmX12_fails : Room := { frames := 0, cells := 0, slots := 0, locals := 0 }
def fX12_fails_j16 (N : Nat) (t0 : Int32) (Q : St → Prop) (σ : St) : Prop := ∀ σ_2 : St, σ_2 = u1 σ 0 9 t0 → Q σ_2
set_option maxHeartbeats 4000000 in
set_option maxRecDepth 100000 in
theorem bX12_fails_16 {p : Program} {e : Env} {s : State} {m : MethodId} {args : Array Value} {below : List Frame} {meth : Method} {c : Code} (l : Launch) (w : Wd) (N : Nat) (Q : St → Prop) (E : Cx 38 w X2 cX12_fails 2 RX12 (.code yX12_fails cX12_fails 2 none) none p s m args meth c) (t0 : Int32) {σ : St} {H : Heap} {locs : List Loc} {ls : Array Slot} (hR : Rr 38 ev2 w σ s H locs) (hl : lv_has ls 2 []) (h : fX12_fails_j16 N t0 Q σ) : W p l e rmX12_fails s m args below meth c H locs 0 0 (MQ below (va_Qv Q (Rp 38 ev2 w) (Aw 38 w)) args s 0 0 (Aw 38 w)) (F0 m 16 ls [.int t0, .ref (w.2.1 0)]) := by
  obtain ⟨hx, hb, hml, hown, hts, hr, hlk, hK, hI, hX⟩ := id E
  unfold fX12_fails_j16 at h
  refine pf2_0_9 (pc := 16) hx hb hts hown hK hI hR mw270 dX12_fails_16 (fun H locs σ_2 eσ_2 hR => ?_)
  have h := h σ_2 eσ_2
  exact q_vret (pc := 19) E hR h dX12_fails_19
def fX12_fails (N : Nat) (x1 : Int32) (Q : St → Prop) (σ : St) : Prop := (((σ.1 0 9) = 0 → fX12_fails_j16 N x1 Q σ) ∧ (¬ (σ.1 0 9) = 0 → fX12_fails_j16 N (σ.1 0 9) Q σ))
set_option maxHeartbeats 4000000 in
set_option maxRecDepth 100000 in
theorem bX12_fails_e {p : Program} {e : Env} {s : State} {m : MethodId} {args : Array Value} {below : List Frame} {meth : Method} {c : Code} (l : Launch) (w : Wd) (N : Nat) (Q : St → Prop) (E : Cx 38 w X2 cX12_fails 2 RX12 (.code yX12_fails cX12_fails 2 none) none p s m args meth c) (x1 : Int32) {σ : St} {H : Heap} {locs : List Loc} {ls : Array Slot} (hR : Rr 38 ev2 w σ s H locs) (hl : lv_has ls 2 [(0, .ref (w.2.1 0)), (1, .int x1)]) (h : fX12_fails N x1 Q σ) : W p l e rmX12_fails s m args below meth c H locs 0 0 (MQ below (va_Qv Q (Rp 38 ev2 w) (Aw 38 w)) args s 0 0 (Aw 38 w)) (F0 m 0 ls []) := by
  obtain ⟨hx, hb, hml, hown, hts, hr, hlk, hK, hI, hX⟩ := id E
  unfold fX12_fails at h
  refine lv_aload_n (pc := 0) hx hb dX12_fails_0 rfl (lv_at hl 0 rfl) ?_
  refine lv_aload_n (pc := 1) hx hb dX12_fails_1 rfl (lv_at hl 0 rfl) ?_
  refine gf2_0_9 (pc := 2) hx hb hts hown hK hR mw270 dX12_fails_2 ?_
  refine lv_if_ne (pc := 5) (tgt := 12) hx hb dX12_fails_5 (by decide) (fun c_1 => ?_) (fun c_1 => ?_)
  · have h := h.2 c_1
    refine lv_aload_n (pc := 12) hx hb dX12_fails_12 rfl (lv_at hl 0 rfl) ?_
    refine gf2_0_9 (pc := 13) hx hb hts hown hK hR mw270 dX12_fails_13 ?_
    exact bX12_fails_16 l w N Q E (σ.1 0 9) hR (lv_sub hl [] rfl) h
  · have h := h.1 c_1
    refine lv_iload_n (pc := 8) hx hb dX12_fails_8 rfl (lv_at hl 1 rfl) ?_
    refine lv_goto (pc := 9) (tgt := 16) hx hb dX12_fails_9 (by decide) ?_
    exact bX12_fails_16 l w N Q E x1 hR (lv_sub hl [] rfl) h
theorem cX12_fails_met (l : Launch) (w : Wd) (hI : Ij 38 w) (N : Nat) (x1 : Int32) (Q : St → Prop) (σ : St) (h : fX12_fails N x1 Q σ) : Met l yX12_fails (.code yX12_fails cX12_fails 2 none :: Uw) rmX12_fails (va_Pc [.ref (w.2.1 0), .int x1] (fun U => Rp 38 ev2 w σ U ∧ X2 U)) (va_Qv Q (Rp 38 ev2 w) (Aw 38 w)) 0 0 (Aw 38 w) :=
  q_met (by decide) (Nat.le_of_ble_eq_true rfl) hI (fun p e s m below meth c ls E hl hR => bX12_fails_e l w N Q E x1 hR hl h)
-- GlulxStringsModel.read(J)I
abbrev rmX12_read : Room := { frames := 1, cells := 0, slots := 0, locals := 25 }
def fX12_read (N : Nat) (x1 : Int64) (Q : Int32 → St → Prop) (σ : St) : Prop := fX12_in N x1 0 4095 (fun r_2 σ_1 => ((r_2 = 0 → fX12_fails N 1 (fun σ_5 => Q 0 σ_5) σ_1) ∧ (¬ r_2 = 0 → vp_in x1.toInt32 4096 ∧ Q (σ_1.1 1 x1.toInt32.toNatClampNeg) σ_1))) σ
set_option maxHeartbeats 4000000 in
set_option maxRecDepth 100000 in
theorem bX12_read_e {p : Program} {e : Env} {s : State} {m : MethodId} {args : Array Value} {below : List Frame} {meth : Method} {c : Code} (l : Launch) (w : Wd) (N : Nat) (Q : Int32 → St → Prop) (E : Cx 38 w X2 cX12_read 3 RX12 (.code yX12_read cX12_read 3 (some .int)) (some .int) p s m args meth c) (x1 : Int64) {σ : St} {H : Heap} {locs : List Loc} {ls : Array Slot} (hR : Rr 38 ev2 w σ s H locs) (hl : lv_has ls 3 [(0, .ref (w.2.1 0)), (1, .long x1)]) (h : fX12_read N x1 Q σ) : W p l e rmX12_read s m args below meth c H locs 0 0 (MQ below (va_Qi Q (Rp 38 ev2 w) (Aw 38 w)) args s 0 0 (Aw 38 w)) (F0 m 0 ls []) := by
  obtain ⟨hx, hb, hml, hown, hts, hr, hlk, hK, hI, hX⟩ := id E
  unfold fX12_read at h
  refine lv_lload_n (pc := 0) hx hb dX12_read_0 rfl (lv_at hl 1 rfl) ?_
  refine lv_lconst (pc := 1) (v := 0) hx hb dX12_read_1 (by decide) ?_
  refine lv_ldc2 (pc := 2) (v := 4095) hx hb hown (hts _ (Uin mw269)) dX12_read_2 ?_
  refine q_ci (pc := 5) hR (q_rS E (xp2 w) (As := [.long x1, .long 0, .long 4095]) (rest := []) (cX12_in_met l w hI N x1 0 4095 _ σ h) ckX12_in csX12_in mw258 ⟨rfl, rfl, Nat.le_of_ble_eq_true rfl, Nat.le_of_ble_eq_true rfl⟩ hR rfl hl.1 rfl (Nat.le_of_ble_eq_true rfl) dX12_read_5) (fun r_2 σ_1 H locs h hR => ?_)
  refine lv_if_ne (pc := 8) (tgt := 18) hx hb dX12_read_8 (by decide) (fun c_3 => ?_) (fun c_3 => ?_)
  · have h := h.2 c_3
    refine lv_aload_n (pc := 18) hx hb dX12_read_18 rfl (lv_at hl 0 rfl) ?_
    refine gf2_0_0 (pc := 19) hx hb hts hown hK hR mw262 dX12_read_19 ?_
    refine lv_lload_n (pc := 22) hx hb dX12_read_22 rfl (lv_at hl 1 rfl) ?_
    refine lv_l2i (pc := 23) (v := x1.toInt32) hx hb dX12_read_23 rfl ?_
    have g_4 := h.1
    have h := h.2
    refine q_iald (pc := 24) hx hb hK hR (k := 1) lt2_1 (ar2_1 _ _ _) g_4 dX12_read_24 ?_
    exact q_iret (pc := 25) E hR h dX12_read_25
  · have h := h.1 c_3
    refine lv_aload_n (pc := 11) hx hb dX12_read_11 rfl (lv_at hl 0 rfl) ?_
    refine lv_iconst (pc := 12) (v := 1) hx hb dX12_read_12 (by decide) ?_
    refine q_cv (pc := 13) hR (q_rV E (xp2 w) (As := [.int 1]) (rest := []) (cX12_fails_met l w hI N 1 _ σ_1 h) ckX12_fails cvX12_fails mw271 ⟨rfl, rfl, Nat.le_of_ble_eq_true rfl, Nat.le_of_ble_eq_true rfl⟩ hR (rc2_0 w) rfl hl.1 rfl (Nat.le_of_ble_eq_true rfl) dX12_read_13) (fun σ_5 H locs h hR => ?_)
    refine lv_iconst (pc := 16) (v := 0) hx hb dX12_read_16 (by decide) ?_
    exact q_iret (pc := 17) E hR h dX12_read_17
theorem cX12_read_met (l : Launch) (w : Wd) (hI : Ij 38 w) (N : Nat) (x1 : Int64) (Q : Int32 → St → Prop) (σ : St) (h : fX12_read N x1 Q σ) : Met l yX12_read (.code yX12_read cX12_read 3 (some .int) :: Uw) rmX12_read (va_Pc [.ref (w.2.1 0), .long x1] (fun U => Rp 38 ev2 w σ U ∧ X2 U)) (va_Qi Q (Rp 38 ev2 w) (Aw 38 w)) 0 0 (Aw 38 w) :=
  q_met (by decide) (Nat.le_of_ble_eq_true rfl) hI (fun p e s m below meth c ls E hl hR => bX12_read_e l w N Q E x1 hR hl h)
-- GlulxStringsModel.four(J)I
abbrev rmX12_four : Room := { frames := 2, cells := 0, slots := 0, locals := 47 }
def fX12_four_l5 (N : Nat) (x1 : Int64) (Q : Int32 → St → Prop) (r5 : Int32 → Int32 → St → Prop) (x3 : Int32) (x4 : Int32) (σ : St) : Prop := ((4 ≤ x4 → Q x3 σ) ∧ (¬ 4 ≤ x4 → fX12_read N (x1 + x4.toInt64) (fun r_3 σ_2 => ∀ v_4 : Int32, v_4 = (x3 <<< (8 &&& 31)) ||| r_3 → ∀ v_5 : Int32, v_5 = x4 + 1 → r5 v_4 v_5 σ_2) σ))
set_option maxHeartbeats 4000000 in
set_option maxRecDepth 100000 in
theorem bX12_four_5 {p : Program} {e : Env} {s : State} {m : MethodId} {args : Array Value} {below : List Frame} {meth : Method} {c : Code} (l : Launch) (w : Wd) (N : Nat) (Q : Int32 → St → Prop) (E : Cx 38 w X2 cX12_four 5 RX12 (.code yX12_four cX12_four 5 (some .int)) (some .int) p s m args meth c) (x1 : Int64) : ∀ (n : Nat) (x3 : Int32) (x4 : Int32) (σ : St) (H : Heap) (locs : List Loc) (ls : Array Slot), Rr 38 ev2 w σ s H locs → lv_has ls 5 [(0, .ref (w.2.1 0)), (1, .long x1), (3, .int x3), (4, .int x4)] → lo2 (fX12_four_l5 N x1 Q) n x3 x4 σ → W p l e rmX12_four s m args below meth c H locs 0 0 (MQ below (va_Qi Q (Rp 38 ev2 w) (Aw 38 w)) args s 0 0 (Aw 38 w)) (F0 m 5 ls []) := by
  obtain ⟨hx, hb, hml, hown, hts, hr, hlk, hK, hI, hX⟩ := id E
  intro n
  induction n with
  | zero => intro x3 x4 σ H locs ls hR hl h; exact h.elim
  | succ n ih =>
    intro x3 x4 σ H locs ls hR hl h
    have h : fX12_four_l5 N x1 Q (lo2 (fX12_four_l5 N x1 Q) n) x3 x4 σ := h
    unfold fX12_four_l5 at h
    refine lv_iload (pc := 5) hx hb dX12_four_5 (lv_at hl 3 rfl) ?_
    refine lv_iconst (pc := 7) (v := 4) hx hb dX12_four_7 (by decide) ?_
    refine lv_icmp_ge (pc := 8) (tgt := 32) hx hb dX12_four_8 (by decide) (fun c_1 => ?_) (fun c_1 => ?_)
    · have h := h.1 c_1
      refine lv_iload_n (pc := 32) hx hb dX12_four_32 rfl (lv_at hl 2 rfl) ?_
      exact q_iret (pc := 33) E hR h dX12_four_33
    · have h := h.2 c_1
      refine lv_iload_n (pc := 11) hx hb dX12_four_11 rfl (lv_at hl 2 rfl) ?_
      refine lv_bipush (pc := 12) (v := 8) hx hb dX12_four_12 (by decide) ?_
      refine lv_ishl (pc := 14) hx hb dX12_four_14 ?_
      refine lv_aload_n (pc := 15) hx hb dX12_four_15 rfl (lv_at hl 0 rfl) ?_
      refine lv_lload_n (pc := 16) hx hb dX12_four_16 rfl (lv_at hl 1 rfl) ?_
      refine lv_iload (pc := 17) hx hb dX12_four_17 (lv_at hl 3 rfl) ?_
      refine lv_i2l (pc := 19) (v := x4.toInt64) hx hb dX12_four_19 rfl ?_
      refine lv_ladd (pc := 20) hx hb dX12_four_20 ?_
      refine q_ci (pc := 21) hR (q_rV E (xp2 w) (As := [.long (x1 + x4.toInt64)]) (rest := [.int (x3 <<< (8 &&& 31))]) (cX12_read_met l w hI N (x1 + x4.toInt64) _ σ h) ckX12_read cvX12_read mw272 ⟨rfl, rfl, Nat.le_of_ble_eq_true rfl, Nat.le_of_ble_eq_true rfl⟩ hR (rc2_0 w) rfl hl.1 rfl (Nat.le_of_ble_eq_true rfl) dX12_four_21) (fun r_3 σ_2 H locs h hR => ?_)
      refine lv_ior (pc := 24) hx hb dX12_four_24 ?_
      refine lv_topi (pc := 25) (fun v_4 ev_4 => ?_)
      have h := h v_4 ev_4
      refine lv_istore_n (pc := 25) (lv' := [(3, .int v_4), (0, .ref (w.2.1 0)), (1, .long x1), (4, .int x4)]) hx hb dX12_four_25 rfl hl (by decide) rfl (fun ls hl => ?_)
      obtain ⟨v_5, ev_5⟩ : ∃ z : Int32, z = x4 + 1 := ⟨_, rfl⟩
      have h := h v_5 ev_5
      refine lv_iinc (pc := 26) (v := v_5) (lv' := [(4, .int v_5), (3, .int v_4), (0, .ref (w.2.1 0)), (1, .long x1)]) hx hb dX12_four_26 hl (k := 3) rfl (by rw [ev_5]; rfl) (by decide) rfl (fun ls hl => ?_)
      refine lv_goto (pc := 29) (tgt := 5) hx hb dX12_four_29 (by decide) ?_
      exact ih v_4 v_5 σ_2 _ _ _ hR (lv_sub hl [2, 3, 1, 0] rfl) h
def fX12_four (N : Nat) (x1 : Int64) (Q : Int32 → St → Prop) (σ : St) : Prop := lo2 (fX12_four_l5 N x1 Q) N 0 0 σ
set_option maxHeartbeats 4000000 in
set_option maxRecDepth 100000 in
theorem bX12_four_e {p : Program} {e : Env} {s : State} {m : MethodId} {args : Array Value} {below : List Frame} {meth : Method} {c : Code} (l : Launch) (w : Wd) (N : Nat) (Q : Int32 → St → Prop) (E : Cx 38 w X2 cX12_four 5 RX12 (.code yX12_four cX12_four 5 (some .int)) (some .int) p s m args meth c) (x1 : Int64) {σ : St} {H : Heap} {locs : List Loc} {ls : Array Slot} (hR : Rr 38 ev2 w σ s H locs) (hl : lv_has ls 5 [(0, .ref (w.2.1 0)), (1, .long x1)]) (h : fX12_four N x1 Q σ) : W p l e rmX12_four s m args below meth c H locs 0 0 (MQ below (va_Qi Q (Rp 38 ev2 w) (Aw 38 w)) args s 0 0 (Aw 38 w)) (F0 m 0 ls []) := by
  obtain ⟨hx, hb, hml, hown, hts, hr, hlk, hK, hI, hX⟩ := id E
  unfold fX12_four at h
  refine lv_iconst (pc := 0) (v := 0) hx hb dX12_four_0 (by decide) ?_
  refine lv_istore_n (pc := 1) (lv' := [(3, .int 0), (0, .ref (w.2.1 0)), (1, .long x1)]) hx hb dX12_four_1 rfl hl (by decide) rfl (fun ls hl => ?_)
  refine lv_iconst (pc := 2) (v := 0) hx hb dX12_four_2 (by decide) ?_
  refine lv_istore (pc := 3) (lv' := [(4, .int 0), (3, .int 0), (0, .ref (w.2.1 0)), (1, .long x1)]) hx hb dX12_four_3 hl (by decide) rfl (fun ls hl => ?_)
  exact bX12_four_5 l w N Q E x1 N 0 0 σ _ _ _ hR (lv_sub hl [2, 3, 1, 0] rfl) h
theorem cX12_four_met (l : Launch) (w : Wd) (hI : Ij 38 w) (N : Nat) (x1 : Int64) (Q : Int32 → St → Prop) (σ : St) (h : fX12_four N x1 Q σ) : Met l yX12_four (.code yX12_four cX12_four 5 (some .int) :: Uw) rmX12_four (va_Pc [.ref (w.2.1 0), .long x1] (fun U => Rp 38 ev2 w σ U ∧ X2 U)) (va_Qi Q (Rp 38 ev2 w) (Aw 38 w)) 0 0 (Aw 38 w) :=
  q_met (by decide) (Nat.le_of_ble_eq_true rfl) hI (fun p e s m below meth c ls E hl hR => bX12_four_e l w N Q E x1 hR hl h)
-- GlulxStringsModel.endOf(IJ)J
abbrev rmX12_endOf : Room := { frames := 3, cells := 0, slots := 0, locals := 71 }
def fX12_endOf_j170 (N : Nat) (t0 : Int64) (t1 : Int64) (Q : Int64 → St → Prop) (σ : St) : Prop := Q (t1 + t0) σ
set_option maxHeartbeats 4000000 in
set_option maxRecDepth 100000 in
theorem bX12_endOf_170 {p : Program} {e : Env} {s : State} {m : MethodId} {args : Array Value} {below : List Frame} {meth : Method} {c : Code} (l : Launch) (w : Wd) (N : Nat) (Q : Int64 → St → Prop) (E : Cx 38 w X2 cX12_endOf 8 RX12 (.code yX12_endOf cX12_endOf 8 (some .long)) (some .long) p s m args meth c) (t0 : Int64) (t1 : Int64) {σ : St} {H : Heap} {locs : List Loc} {ls : Array Slot} (hR : Rr 38 ev2 w σ s H locs) (hl : lv_has ls 8 []) (h : fX12_endOf_j170 N t0 t1 Q σ) : W p l e rmX12_endOf s m args below meth c H locs 0 0 (MQ below (va_Ql Q (Rp 38 ev2 w) (Aw 38 w)) args s 0 0 (Aw 38 w)) (F0 m 170 ls [.long t0, .long t1]) := by
  obtain ⟨hx, hb, hml, hown, hts, hr, hlk, hK, hI, hX⟩ := id E
  unfold fX12_endOf_j170 at h
  refine lv_ladd (pc := 170) hx hb dX12_endOf_170 ?_
  exact q_lret (pc := 171) E hR h dX12_endOf_171
def fX12_endOf_j110 (N : Nat) (x1 : Int32) (x2 : Int64) (Q : Int64 → St → Prop) (σ : St) : Prop := (((x1.toInt64 + 9) ≤ x2 → fX12_four N (x1.toInt64 + 5) (fun r_9 σ_8 => fX12_in N r_9.toInt64 0 4 (fun r_11 σ_10 => ((r_11 = 0 → fX12_endOf_j170 N 0 (x1.toInt64 + 9) Q σ_10) ∧ (¬ r_11 = 0 → fX12_endOf_j170 N (4 * r_9.toInt64) (x1.toInt64 + 9) Q σ_10))) σ_8) σ) ∧ (¬ (x1.toInt64 + 9) ≤ x2 → Q (x1.toInt64 + 9) σ))
set_option maxHeartbeats 4000000 in
set_option maxRecDepth 100000 in
theorem bX12_endOf_110 {p : Program} {e : Env} {s : State} {m : MethodId} {args : Array Value} {below : List Frame} {meth : Method} {c : Code} (l : Launch) (w : Wd) (N : Nat) (Q : Int64 → St → Prop) (E : Cx 38 w X2 cX12_endOf 8 RX12 (.code yX12_endOf cX12_endOf 8 (some .long)) (some .long) p s m args meth c) (x1 : Int32) (x2 : Int64) {σ : St} {H : Heap} {locs : List Loc} {ls : Array Slot} (hR : Rr 38 ev2 w σ s H locs) (hl : lv_has ls 8 [(0, .ref (w.2.1 0)), (1, .int x1), (2, .long x2)]) (h : fX12_endOf_j110 N x1 x2 Q σ) : W p l e rmX12_endOf s m args below meth c H locs 0 0 (MQ below (va_Ql Q (Rp 38 ev2 w) (Aw 38 w)) args s 0 0 (Aw 38 w)) (F0 m 110 ls []) := by
  obtain ⟨hx, hb, hml, hown, hts, hr, hlk, hK, hI, hX⟩ := id E
  unfold fX12_endOf_j110 at h
  refine lv_iload_n (pc := 110) hx hb dX12_endOf_110 rfl (lv_at hl 1 rfl) ?_
  refine lv_i2l (pc := 111) (v := x1.toInt64) hx hb dX12_endOf_111 rfl ?_
  refine lv_ldc2 (pc := 112) (v := 9) hx hb hown (hts _ (Uin mw273)) dX12_endOf_112 ?_
  refine lv_ladd (pc := 115) hx hb dX12_endOf_115 ?_
  refine lv_lload_n (pc := 116) hx hb dX12_endOf_116 rfl (lv_at hl 2 rfl) ?_
  refine W.lcmp (pc := 117) hx hb dX12_endOf_117 ?_
  refine lv_if_le (pc := 118) (tgt := 128) hx hb dX12_endOf_118 (by decide) (fun c_7 => ?_) (fun c_7 => ?_)
  · have c_7 := (lc_le _ _).mp c_7
    have h := h.1 c_7
    refine lv_aload_n (pc := 128) hx hb dX12_endOf_128 rfl (lv_at hl 0 rfl) ?_
    refine lv_iload_n (pc := 129) hx hb dX12_endOf_129 rfl (lv_at hl 1 rfl) ?_
    refine lv_i2l (pc := 130) (v := x1.toInt64) hx hb dX12_endOf_130 rfl ?_
    refine lv_ldc2 (pc := 131) (v := 5) hx hb hown (hts _ (Uin mw274)) dX12_endOf_131 ?_
    refine lv_ladd (pc := 134) hx hb dX12_endOf_134 ?_
    refine q_ci (pc := 135) hR (q_rV E (xp2 w) (As := [.long (x1.toInt64 + 5)]) (rest := []) (cX12_four_met l w hI N (x1.toInt64 + 5) _ σ h) ckX12_four cvX12_four mw275 ⟨rfl, rfl, Nat.le_of_ble_eq_true rfl, Nat.le_of_ble_eq_true rfl⟩ hR (rc2_0 w) rfl hl.1 rfl (Nat.le_of_ble_eq_true rfl) dX12_endOf_135) (fun r_9 σ_8 H locs h hR => ?_)
    refine lv_istore (pc := 138) (lv' := [(7, .int r_9), (0, .ref (w.2.1 0)), (1, .int x1), (2, .long x2)]) hx hb dX12_endOf_138 hl (by decide) rfl (fun ls hl => ?_)
    refine lv_iload_n (pc := 140) hx hb dX12_endOf_140 rfl (lv_at hl 2 rfl) ?_
    refine lv_i2l (pc := 141) (v := x1.toInt64) hx hb dX12_endOf_141 rfl ?_
    refine lv_ldc2 (pc := 142) (v := 9) hx hb hown (hts _ (Uin mw273)) dX12_endOf_142 ?_
    refine lv_ladd (pc := 145) hx hb dX12_endOf_145 ?_
    refine lv_iload (pc := 146) hx hb dX12_endOf_146 (lv_at hl 0 rfl) ?_
    refine lv_i2l (pc := 148) (v := r_9.toInt64) hx hb dX12_endOf_148 rfl ?_
    refine lv_lconst (pc := 149) (v := 0) hx hb dX12_endOf_149 (by decide) ?_
    refine lv_ldc2 (pc := 150) (v := 4) hx hb hown (hts _ (Uin mw276)) dX12_endOf_150 ?_
    refine q_ci (pc := 153) hR (q_rS E (xp2 w) (As := [.long r_9.toInt64, .long 0, .long 4]) (rest := [.long (x1.toInt64 + 9)]) (cX12_in_met l w hI N r_9.toInt64 0 4 _ σ_8 h) ckX12_in csX12_in mw258 ⟨rfl, rfl, Nat.le_of_ble_eq_true rfl, Nat.le_of_ble_eq_true rfl⟩ hR rfl hl.1 rfl (Nat.le_of_ble_eq_true rfl) dX12_endOf_153) (fun r_11 σ_10 H locs h hR => ?_)
    refine lv_if_eq (pc := 156) (tgt := 169) hx hb dX12_endOf_156 (by decide) (fun c_12 => ?_) (fun c_12 => ?_)
    · have h := h.1 c_12
      refine lv_lconst (pc := 169) (v := 0) hx hb dX12_endOf_169 (by decide) ?_
      exact bX12_endOf_170 l w N Q E 0 (x1.toInt64 + 9) hR (lv_sub hl [] rfl) h
    · have h := h.2 c_12
      refine lv_ldc2 (pc := 159) (v := 4) hx hb hown (hts _ (Uin mw276)) dX12_endOf_159 ?_
      refine lv_iload (pc := 162) hx hb dX12_endOf_162 (lv_at hl 0 rfl) ?_
      refine lv_i2l (pc := 164) (v := r_9.toInt64) hx hb dX12_endOf_164 rfl ?_
      refine lv_lmul (pc := 165) hx hb dX12_endOf_165 ?_
      refine lv_goto (pc := 166) (tgt := 170) hx hb dX12_endOf_166 (by decide) ?_
      exact bX12_endOf_170 l w N Q E (4 * r_9.toInt64) (x1.toInt64 + 9) hR (lv_sub hl [] rfl) h
  · have c_7 := mt (lc_le _ _).mpr c_7
    have h := h.2 c_7
    refine lv_iload_n (pc := 121) hx hb dX12_endOf_121 rfl (lv_at hl 1 rfl) ?_
    refine lv_i2l (pc := 122) (v := x1.toInt64) hx hb dX12_endOf_122 rfl ?_
    refine lv_ldc2 (pc := 123) (v := 9) hx hb hown (hts _ (Uin mw273)) dX12_endOf_123 ?_
    refine lv_ladd (pc := 126) hx hb dX12_endOf_126 ?_
    exact q_lret (pc := 127) E hR h dX12_endOf_127
def fX12_endOf_j230 (N : Nat) (x1 : Int32) (Q : Int64 → St → Prop) (σ : St) : Prop := Q (x1.toInt64 + 5) σ
set_option maxHeartbeats 4000000 in
set_option maxRecDepth 100000 in
theorem bX12_endOf_230 {p : Program} {e : Env} {s : State} {m : MethodId} {args : Array Value} {below : List Frame} {meth : Method} {c : Code} (l : Launch) (w : Wd) (N : Nat) (Q : Int64 → St → Prop) (E : Cx 38 w X2 cX12_endOf 8 RX12 (.code yX12_endOf cX12_endOf 8 (some .long)) (some .long) p s m args meth c) (x1 : Int32) {σ : St} {H : Heap} {locs : List Loc} {ls : Array Slot} (hR : Rr 38 ev2 w σ s H locs) (hl : lv_has ls 8 [(1, .int x1)]) (h : fX12_endOf_j230 N x1 Q σ) : W p l e rmX12_endOf s m args below meth c H locs 0 0 (MQ below (va_Ql Q (Rp 38 ev2 w) (Aw 38 w)) args s 0 0 (Aw 38 w)) (F0 m 230 ls []) := by
  obtain ⟨hx, hb, hml, hown, hts, hr, hlk, hK, hI, hX⟩ := id E
  unfold fX12_endOf_j230 at h
  refine lv_iload_n (pc := 230) hx hb dX12_endOf_230 rfl (lv_at hl 0 rfl) ?_
  refine lv_i2l (pc := 231) (v := x1.toInt64) hx hb dX12_endOf_231 rfl ?_
  refine lv_ldc2 (pc := 232) (v := 5) hx hb hown (hts _ (Uin mw274)) dX12_endOf_232 ?_
  refine lv_ladd (pc := 235) hx hb dX12_endOf_235 ?_
  refine lv_goto (pc := 236) (tgt := 242) hx hb dX12_endOf_236 (by decide) ?_
  exact q_lret (pc := 242) E hR h dX12_endOf_242
def fX12_endOf_j89 (N : Nat) (x5 : Int64) (Q : Int64 → St → Prop) (σ : St) : Prop := Q (x5 + 4) σ
set_option maxHeartbeats 4000000 in
set_option maxRecDepth 100000 in
theorem bX12_endOf_89 {p : Program} {e : Env} {s : State} {m : MethodId} {args : Array Value} {below : List Frame} {meth : Method} {c : Code} (l : Launch) (w : Wd) (N : Nat) (Q : Int64 → St → Prop) (E : Cx 38 w X2 cX12_endOf 8 RX12 (.code yX12_endOf cX12_endOf 8 (some .long)) (some .long) p s m args meth c) (x5 : Int64) {σ : St} {H : Heap} {locs : List Loc} {ls : Array Slot} (hR : Rr 38 ev2 w σ s H locs) (hl : lv_has ls 8 [(5, .long x5)]) (h : fX12_endOf_j89 N x5 Q σ) : W p l e rmX12_endOf s m args below meth c H locs 0 0 (MQ below (va_Ql Q (Rp 38 ev2 w) (Aw 38 w)) args s 0 0 (Aw 38 w)) (F0 m 89 ls []) := by
  obtain ⟨hx, hb, hml, hown, hts, hr, hlk, hK, hI, hX⟩ := id E
  unfold fX12_endOf_j89 at h
  refine lv_lload (pc := 89) hx hb dX12_endOf_89 (lv_at hl 0 rfl) ?_
  refine lv_ldc2 (pc := 91) (v := 4) hx hb hown (hts _ (Uin mw276)) dX12_endOf_91 ?_
  refine lv_ladd (pc := 94) hx hb dX12_endOf_94 ?_
  exact q_lret (pc := 95) E hR h dX12_endOf_95
def fX12_endOf_l58 (N : Nat) (x2 : Int64) (Q : Int64 → St → Prop) (r58 : Int64 → St → Prop) (x5 : Int64) (σ : St) : Prop := ((x2 < (x5 + 4) → fX12_endOf_j89 N x5 Q σ) ∧ (¬ x2 < (x5 + 4) → fX12_four N x5 (fun r_16 σ_15 => ((r_16 = 0 → fX12_endOf_j89 N x5 Q σ_15) ∧ (¬ r_16 = 0 → ∀ v_18 : Int64, v_18 = x5 + 4 → r58 v_18 σ_15))) σ))
set_option maxHeartbeats 4000000 in
set_option maxRecDepth 100000 in
theorem bX12_endOf_58 {p : Program} {e : Env} {s : State} {m : MethodId} {args : Array Value} {below : List Frame} {meth : Method} {c : Code} (l : Launch) (w : Wd) (N : Nat) (Q : Int64 → St → Prop) (E : Cx 38 w X2 cX12_endOf 8 RX12 (.code yX12_endOf cX12_endOf 8 (some .long)) (some .long) p s m args meth c) (x2 : Int64) : ∀ (n : Nat) (x5 : Int64) (σ : St) (H : Heap) (locs : List Loc) (ls : Array Slot), Rr 38 ev2 w σ s H locs → lv_has ls 8 [(0, .ref (w.2.1 0)), (2, .long x2), (5, .long x5)] → lo1 (fX12_endOf_l58 N x2 Q) n x5 σ → W p l e rmX12_endOf s m args below meth c H locs 0 0 (MQ below (va_Ql Q (Rp 38 ev2 w) (Aw 38 w)) args s 0 0 (Aw 38 w)) (F0 m 58 ls []) := by
  obtain ⟨hx, hb, hml, hown, hts, hr, hlk, hK, hI, hX⟩ := id E
  intro n
  induction n with
  | zero => intro x5 σ H locs ls hR hl h; exact h.elim
  | succ n ih =>
    intro x5 σ H locs ls hR hl h
    have h : fX12_endOf_l58 N x2 Q (lo1 (fX12_endOf_l58 N x2 Q) n) x5 σ := h
    unfold fX12_endOf_l58 at h
    refine lv_lload (pc := 58) hx hb dX12_endOf_58 (lv_at hl 2 rfl) ?_
    refine lv_ldc2 (pc := 60) (v := 4) hx hb hown (hts _ (Uin mw276)) dX12_endOf_60 ?_
    refine lv_ladd (pc := 63) hx hb dX12_endOf_63 ?_
    refine lv_lload_n (pc := 64) hx hb dX12_endOf_64 rfl (lv_at hl 1 rfl) ?_
    refine W.lcmp (pc := 65) hx hb dX12_endOf_65 ?_
    refine lv_if_gt (pc := 66) (tgt := 89) hx hb dX12_endOf_66 (by decide) (fun c_14 => ?_) (fun c_14 => ?_)
    · have c_14 := (lc_gt _ _).mp c_14
      have h := h.1 c_14
      exact bX12_endOf_89 l w N Q E x5 hR (lv_sub hl [2] rfl) h
    · have c_14 := mt (lc_gt _ _).mpr c_14
      have h := h.2 c_14
      refine lv_aload_n (pc := 69) hx hb dX12_endOf_69 rfl (lv_at hl 0 rfl) ?_
      refine lv_lload (pc := 70) hx hb dX12_endOf_70 (lv_at hl 2 rfl) ?_
      refine q_ci (pc := 72) hR (q_rV E (xp2 w) (As := [.long x5]) (rest := []) (cX12_four_met l w hI N x5 _ σ h) ckX12_four cvX12_four mw275 ⟨rfl, rfl, Nat.le_of_ble_eq_true rfl, Nat.le_of_ble_eq_true rfl⟩ hR (rc2_0 w) rfl hl.1 rfl (Nat.le_of_ble_eq_true rfl) dX12_endOf_72) (fun r_16 σ_15 H locs h hR => ?_)
      refine lv_if_eq (pc := 75) (tgt := 89) hx hb dX12_endOf_75 (by decide) (fun c_17 => ?_) (fun c_17 => ?_)
      · have h := h.1 c_17
        exact bX12_endOf_89 l w N Q E x5 hR (lv_sub hl [2] rfl) h
      · have h := h.2 c_17
        refine lv_lload (pc := 78) hx hb dX12_endOf_78 (lv_at hl 2 rfl) ?_
        refine lv_ldc2 (pc := 80) (v := 4) hx hb hown (hts _ (Uin mw276)) dX12_endOf_80 ?_
        refine lv_ladd (pc := 83) hx hb dX12_endOf_83 ?_
        refine lv_topl (pc := 84) (fun v_18 ev_18 => ?_)
        have h := h v_18 ev_18
        refine lv_lstore (pc := 84) (lv' := [(5, .long v_18), (0, .ref (w.2.1 0)), (2, .long x2)]) hx hb dX12_endOf_84 hl (by decide) rfl (fun ls hl => ?_)
        refine lv_goto (pc := 86) (tgt := 58) hx hb dX12_endOf_86 (by decide) ?_
        exact ih v_18 σ_15 _ _ _ hR (lv_sub hl [1, 2, 0] rfl) h
def fX12_endOf_j47 (N : Nat) (x5 : Int64) (Q : Int64 → St → Prop) (σ : St) : Prop := Q (x5 + 1) σ
set_option maxHeartbeats 4000000 in
set_option maxRecDepth 100000 in
theorem bX12_endOf_47 {p : Program} {e : Env} {s : State} {m : MethodId} {args : Array Value} {below : List Frame} {meth : Method} {c : Code} (l : Launch) (w : Wd) (N : Nat) (Q : Int64 → St → Prop) (E : Cx 38 w X2 cX12_endOf 8 RX12 (.code yX12_endOf cX12_endOf 8 (some .long)) (some .long) p s m args meth c) (x5 : Int64) {σ : St} {H : Heap} {locs : List Loc} {ls : Array Slot} (hR : Rr 38 ev2 w σ s H locs) (hl : lv_has ls 8 [(5, .long x5)]) (h : fX12_endOf_j47 N x5 Q σ) : W p l e rmX12_endOf s m args below meth c H locs 0 0 (MQ below (va_Ql Q (Rp 38 ev2 w) (Aw 38 w)) args s 0 0 (Aw 38 w)) (F0 m 47 ls []) := by
  obtain ⟨hx, hb, hml, hown, hts, hr, hlk, hK, hI, hX⟩ := id E
  unfold fX12_endOf_j47 at h
  refine lv_lload (pc := 47) hx hb dX12_endOf_47 (lv_at hl 0 rfl) ?_
  refine lv_lconst (pc := 49) (v := 1) hx hb dX12_endOf_49 (by decide) ?_
  refine lv_ladd (pc := 50) hx hb dX12_endOf_50 ?_
  exact q_lret (pc := 51) E hR h dX12_endOf_51
def fX12_endOf_l20 (N : Nat) (x2 : Int64) (Q : Int64 → St → Prop) (r20 : Int64 → St → Prop) (x5 : Int64) (σ : St) : Prop := ((x2 ≤ x5 → fX12_endOf_j47 N x5 Q σ) ∧ (¬ x2 ≤ x5 → vp_in x5.toInt32 4096 ∧ (((σ.1 1 x5.toInt32.toNatClampNeg) = 0 → fX12_endOf_j47 N x5 Q σ) ∧ (¬ (σ.1 1 x5.toInt32.toNatClampNeg) = 0 → ∀ v_17 : Int64, v_17 = x5 + 1 → r20 v_17 σ))))
set_option maxHeartbeats 4000000 in
set_option maxRecDepth 100000 in
theorem bX12_endOf_20 {p : Program} {e : Env} {s : State} {m : MethodId} {args : Array Value} {below : List Frame} {meth : Method} {c : Code} (l : Launch) (w : Wd) (N : Nat) (Q : Int64 → St → Prop) (E : Cx 38 w X2 cX12_endOf 8 RX12 (.code yX12_endOf cX12_endOf 8 (some .long)) (some .long) p s m args meth c) (x2 : Int64) : ∀ (n : Nat) (x5 : Int64) (σ : St) (H : Heap) (locs : List Loc) (ls : Array Slot), Rr 38 ev2 w σ s H locs → lv_has ls 8 [(0, .ref (w.2.1 0)), (2, .long x2), (5, .long x5)] → lo1 (fX12_endOf_l20 N x2 Q) n x5 σ → W p l e rmX12_endOf s m args below meth c H locs 0 0 (MQ below (va_Ql Q (Rp 38 ev2 w) (Aw 38 w)) args s 0 0 (Aw 38 w)) (F0 m 20 ls []) := by
  obtain ⟨hx, hb, hml, hown, hts, hr, hlk, hK, hI, hX⟩ := id E
  intro n
  induction n with
  | zero => intro x5 σ H locs ls hR hl h; exact h.elim
  | succ n ih =>
    intro x5 σ H locs ls hR hl h
    have h : fX12_endOf_l20 N x2 Q (lo1 (fX12_endOf_l20 N x2 Q) n) x5 σ := h
    unfold fX12_endOf_l20 at h
    refine lv_lload (pc := 20) hx hb dX12_endOf_20 (lv_at hl 2 rfl) ?_
    refine lv_lload_n (pc := 22) hx hb dX12_endOf_22 rfl (lv_at hl 1 rfl) ?_
    refine W.lcmp (pc := 23) hx hb dX12_endOf_23 ?_
    refine lv_if_ge (pc := 24) (tgt := 47) hx hb dX12_endOf_24 (by decide) (fun c_14 => ?_) (fun c_14 => ?_)
    · have c_14 := (lc_ge _ _).mp c_14
      have h := h.1 c_14
      exact bX12_endOf_47 l w N Q E x5 hR (lv_sub hl [2] rfl) h
    · have c_14 := mt (lc_ge _ _).mpr c_14
      have h := h.2 c_14
      refine lv_aload_n (pc := 27) hx hb dX12_endOf_27 rfl (lv_at hl 0 rfl) ?_
      refine gf2_0_0 (pc := 28) hx hb hts hown hK hR mw262 dX12_endOf_28 ?_
      refine lv_lload (pc := 31) hx hb dX12_endOf_31 (lv_at hl 2 rfl) ?_
      refine lv_l2i (pc := 33) (v := x5.toInt32) hx hb dX12_endOf_33 rfl ?_
      have g_15 := h.1
      have h := h.2
      refine q_iald (pc := 34) hx hb hK hR (k := 1) lt2_1 (ar2_1 _ _ _) g_15 dX12_endOf_34 ?_
      refine lv_if_eq (pc := 35) (tgt := 47) hx hb dX12_endOf_35 (by decide) (fun c_16 => ?_) (fun c_16 => ?_)
      · have h := h.1 c_16
        exact bX12_endOf_47 l w N Q E x5 hR (lv_sub hl [2] rfl) h
      · have h := h.2 c_16
        refine lv_lload (pc := 38) hx hb dX12_endOf_38 (lv_at hl 2 rfl) ?_
        refine lv_lconst (pc := 40) (v := 1) hx hb dX12_endOf_40 (by decide) ?_
        refine lv_ladd (pc := 41) hx hb dX12_endOf_41 ?_
        refine lv_topl (pc := 42) (fun v_17 ev_17 => ?_)
        have h := h v_17 ev_17
        refine lv_lstore (pc := 42) (lv' := [(5, .long v_17), (0, .ref (w.2.1 0)), (2, .long x2)]) hx hb dX12_endOf_42 hl (by decide) rfl (fun ls hl => ?_)
        refine lv_goto (pc := 44) (tgt := 20) hx hb dX12_endOf_44 (by decide) ?_
        exact ih v_17 σ _ _ _ hR (lv_sub hl [1, 2, 0] rfl) h
def fX12_endOf (N : Nat) (x1 : Int32) (x2 : Int64) (Q : Int64 → St → Prop) (σ : St) : Prop := vp_in x1 4096 ∧ ∀ v_2 : Int32, v_2 = σ.1 1 x1.toNatClampNeg → ∀ v_3 : Int64, v_3 = x1.toInt64 + 1 → ((v_2 = 3 → lo1 (fX12_endOf_l20 N x2 Q) N v_3 σ) ∧ (¬ v_2 = 3 → ((v_2 = 5 → lo1 (fX12_endOf_l58 N x2 Q) N v_3 σ) ∧ (¬ v_2 = 5 → ((v_2 = 10 → fX12_endOf_j110 N x1 x2 Q σ) ∧ (¬ v_2 = 10 → ((v_2 = 11 → fX12_endOf_j110 N x1 x2 Q σ) ∧ (¬ v_2 = 11 → ((v_2 = 0 → Q (x1.toInt64 + 9) σ) ∧ (¬ v_2 = 0 → ((v_2 = 1 → Q v_3 σ) ∧ (¬ v_2 = 1 → ((v_2 = 2 → Q (v_3 + 1) σ) ∧ (¬ v_2 = 2 → ((v_2 = 4 → fX12_endOf_j230 N x1 Q σ) ∧ (¬ v_2 = 4 → ((v_2 = 8 → fX12_endOf_j230 N x1 Q σ) ∧ (¬ v_2 = 8 → ((v_2 = 9 → fX12_endOf_j230 N x1 Q σ) ∧ (¬ v_2 = 9 → Q (-1) σ))))))))))))))))))))
set_option maxHeartbeats 4000000 in
set_option maxRecDepth 100000 in
theorem bX12_endOf_e {p : Program} {e : Env} {s : State} {m : MethodId} {args : Array Value} {below : List Frame} {meth : Method} {c : Code} (l : Launch) (w : Wd) (N : Nat) (Q : Int64 → St → Prop) (E : Cx 38 w X2 cX12_endOf 8 RX12 (.code yX12_endOf cX12_endOf 8 (some .long)) (some .long) p s m args meth c) (x1 : Int32) (x2 : Int64) {σ : St} {H : Heap} {locs : List Loc} {ls : Array Slot} (hR : Rr 38 ev2 w σ s H locs) (hl : lv_has ls 8 [(0, .ref (w.2.1 0)), (1, .int x1), (2, .long x2)]) (h : fX12_endOf N x1 x2 Q σ) : W p l e rmX12_endOf s m args below meth c H locs 0 0 (MQ below (va_Ql Q (Rp 38 ev2 w) (Aw 38 w)) args s 0 0 (Aw 38 w)) (F0 m 0 ls []) := by
  obtain ⟨hx, hb, hml, hown, hts, hr, hlk, hK, hI, hX⟩ := id E
  unfold fX12_endOf at h
  refine lv_aload_n (pc := 0) hx hb dX12_endOf_0 rfl (lv_at hl 0 rfl) ?_
  refine gf2_0_0 (pc := 1) hx hb hts hown hK hR mw262 dX12_endOf_1 ?_
  refine lv_iload_n (pc := 4) hx hb dX12_endOf_4 rfl (lv_at hl 1 rfl) ?_
  have g_1 := h.1
  have h := h.2
  refine q_iald (pc := 5) hx hb hK hR (k := 1) lt2_1 (ar2_1 _ _ _) g_1 dX12_endOf_5 ?_
  refine lv_topi (pc := 6) (fun v_2 ev_2 => ?_)
  have h := h v_2 ev_2
  refine lv_istore (pc := 6) (lv' := [(4, .int v_2), (0, .ref (w.2.1 0)), (1, .int x1), (2, .long x2)]) hx hb dX12_endOf_6 hl (by decide) rfl (fun ls hl => ?_)
  refine lv_iload_n (pc := 8) hx hb dX12_endOf_8 rfl (lv_at hl 2 rfl) ?_
  refine lv_i2l (pc := 9) (v := x1.toInt64) hx hb dX12_endOf_9 rfl ?_
  refine lv_lconst (pc := 10) (v := 1) hx hb dX12_endOf_10 (by decide) ?_
  refine lv_ladd (pc := 11) hx hb dX12_endOf_11 ?_
  refine lv_topl (pc := 12) (fun v_3 ev_3 => ?_)
  have h := h v_3 ev_3
  refine lv_lstore (pc := 12) (lv' := [(5, .long v_3), (4, .int v_2), (0, .ref (w.2.1 0)), (1, .int x1), (2, .long x2)]) hx hb dX12_endOf_12 hl (by decide) rfl (fun ls hl => ?_)
  refine lv_iload (pc := 14) hx hb dX12_endOf_14 (lv_at hl 1 rfl) ?_
  refine lv_iconst (pc := 16) (v := 3) hx hb dX12_endOf_16 (by decide) ?_
  refine lv_icmp_ne (pc := 17) (tgt := 52) hx hb dX12_endOf_17 (by decide) (fun c_4 => ?_) (fun c_4 => ?_)
  · have h := h.2 c_4
    refine lv_iload (pc := 52) hx hb dX12_endOf_52 (lv_at hl 1 rfl) ?_
    refine lv_iconst (pc := 54) (v := 5) hx hb dX12_endOf_54 (by decide) ?_
    refine lv_icmp_ne (pc := 55) (tgt := 96) hx hb dX12_endOf_55 (by decide) (fun c_5 => ?_) (fun c_5 => ?_)
    · have h := h.2 c_5
      refine lv_iload (pc := 96) hx hb dX12_endOf_96 (lv_at hl 1 rfl) ?_
      refine lv_bipush (pc := 98) (v := 10) hx hb dX12_endOf_98 (by decide) ?_
      refine lv_icmp_eq (pc := 100) (tgt := 110) hx hb dX12_endOf_100 (by decide) (fun c_6 => ?_) (fun c_6 => ?_)
      · have h := h.1 c_6
        exact bX12_endOf_110 l w N Q E x1 x2 hR (lv_sub hl [2, 3, 4] rfl) h
      · have h := h.2 c_6
        refine lv_iload (pc := 103) hx hb dX12_endOf_103 (lv_at hl 1 rfl) ?_
        refine lv_bipush (pc := 105) (v := 11) hx hb dX12_endOf_105 (by decide) ?_
        refine lv_icmp_ne (pc := 107) (tgt := 172) hx hb dX12_endOf_107 (by decide) (fun c_7 => ?_) (fun c_7 => ?_)
        · have h := h.2 c_7
          refine lv_iload (pc := 172) hx hb dX12_endOf_172 (lv_at hl 1 rfl) ?_
          refine lv_if_ne (pc := 174) (tgt := 186) hx hb dX12_endOf_174 (by decide) (fun c_8 => ?_) (fun c_8 => ?_)
          · have h := h.2 c_8
            refine lv_iload (pc := 186) hx hb dX12_endOf_186 (lv_at hl 1 rfl) ?_
            refine lv_iconst (pc := 188) (v := 1) hx hb dX12_endOf_188 (by decide) ?_
            refine lv_icmp_ne (pc := 189) (tgt := 197) hx hb dX12_endOf_189 (by decide) (fun c_9 => ?_) (fun c_9 => ?_)
            · have h := h.2 c_9
              refine lv_iload (pc := 197) hx hb dX12_endOf_197 (lv_at hl 1 rfl) ?_
              refine lv_iconst (pc := 199) (v := 2) hx hb dX12_endOf_199 (by decide) ?_
              refine lv_icmp_ne (pc := 200) (tgt := 210) hx hb dX12_endOf_200 (by decide) (fun c_10 => ?_) (fun c_10 => ?_)
              · have h := h.2 c_10
                refine lv_iload (pc := 210) hx hb dX12_endOf_210 (lv_at hl 1 rfl) ?_
                refine lv_iconst (pc := 212) (v := 4) hx hb dX12_endOf_212 (by decide) ?_
                refine lv_icmp_eq (pc := 213) (tgt := 230) hx hb dX12_endOf_213 (by decide) (fun c_11 => ?_) (fun c_11 => ?_)
                · have h := h.1 c_11
                  exact bX12_endOf_230 l w N Q E x1 hR (lv_sub hl [3] rfl) h
                · have h := h.2 c_11
                  refine lv_iload (pc := 216) hx hb dX12_endOf_216 (lv_at hl 1 rfl) ?_
                  refine lv_bipush (pc := 218) (v := 8) hx hb dX12_endOf_218 (by decide) ?_
                  refine lv_icmp_eq (pc := 220) (tgt := 230) hx hb dX12_endOf_220 (by decide) (fun c_12 => ?_) (fun c_12 => ?_)
                  · have h := h.1 c_12
                    exact bX12_endOf_230 l w N Q E x1 hR (lv_sub hl [3] rfl) h
                  · have h := h.2 c_12
                    refine lv_iload (pc := 223) hx hb dX12_endOf_223 (lv_at hl 1 rfl) ?_
                    refine lv_bipush (pc := 225) (v := 9) hx hb dX12_endOf_225 (by decide) ?_
                    refine lv_icmp_ne (pc := 227) (tgt := 239) hx hb dX12_endOf_227 (by decide) (fun c_13 => ?_) (fun c_13 => ?_)
                    · have h := h.2 c_13
                      refine lv_ldc2 (pc := 239) (v := (-1)) hx hb hown (hts _ (Uin mw277)) dX12_endOf_239 ?_
                      exact q_lret (pc := 242) E hR h dX12_endOf_242
                    · have h := h.1 c_13
                      exact bX12_endOf_230 l w N Q E x1 hR (lv_sub hl [3] rfl) h
              · have h := h.1 c_10
                refine lv_lload (pc := 203) hx hb dX12_endOf_203 (lv_at hl 0 rfl) ?_
                refine lv_lconst (pc := 205) (v := 1) hx hb dX12_endOf_205 (by decide) ?_
                refine lv_ladd (pc := 206) hx hb dX12_endOf_206 ?_
                refine lv_goto (pc := 207) (tgt := 242) hx hb dX12_endOf_207 (by decide) ?_
                exact q_lret (pc := 242) E hR h dX12_endOf_242
            · have h := h.1 c_9
              refine lv_lload (pc := 192) hx hb dX12_endOf_192 (lv_at hl 0 rfl) ?_
              refine lv_goto (pc := 194) (tgt := 242) hx hb dX12_endOf_194 (by decide) ?_
              exact q_lret (pc := 242) E hR h dX12_endOf_242
          · have h := h.1 c_8
            refine lv_iload_n (pc := 177) hx hb dX12_endOf_177 rfl (lv_at hl 3 rfl) ?_
            refine lv_i2l (pc := 178) (v := x1.toInt64) hx hb dX12_endOf_178 rfl ?_
            refine lv_ldc2 (pc := 179) (v := 9) hx hb hown (hts _ (Uin mw273)) dX12_endOf_179 ?_
            refine lv_ladd (pc := 182) hx hb dX12_endOf_182 ?_
            refine lv_goto (pc := 183) (tgt := 242) hx hb dX12_endOf_183 (by decide) ?_
            exact q_lret (pc := 242) E hR h dX12_endOf_242
        · have h := h.1 c_7
          exact bX12_endOf_110 l w N Q E x1 x2 hR (lv_sub hl [2, 3, 4] rfl) h
    · have h := h.1 c_5
      exact bX12_endOf_58 l w N Q E x2 N v_3 σ _ _ _ hR (lv_sub hl [2, 4, 0] rfl) h
  · have h := h.1 c_4
    exact bX12_endOf_20 l w N Q E x2 N v_3 σ _ _ _ hR (lv_sub hl [2, 4, 0] rfl) h
theorem cX12_endOf_met (l : Launch) (w : Wd) (hI : Ij 38 w) (N : Nat) (x1 : Int32) (x2 : Int64) (Q : Int64 → St → Prop) (σ : St) (h : fX12_endOf N x1 x2 Q σ) : Met l yX12_endOf (.code yX12_endOf cX12_endOf 8 (some .long) :: Uw) rmX12_endOf (va_Pc [.ref (w.2.1 0), .int x1, .long x2] (fun U => Rp 38 ev2 w σ U ∧ X2 U)) (va_Ql Q (Rp 38 ev2 w) (Aw 38 w)) 0 0 (Aw 38 w) :=
  q_met (by decide) (Nat.le_of_ble_eq_true rfl) hI (fun p e s m below meth c ls E hl hR => bX12_endOf_e l w N Q E x1 x2 hR hl h)
