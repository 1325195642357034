-- GlulxStrings$Machine.doCallOrder(LGlulxStrings$Job;)V
abbrev rmX2_doCallOrder : Room := { frames := 4, cells := 0, slots := 0, locals := 85 }
def fX2_doCallOrder_l33 (N : Nat) (k1 : Nat) (x2 : Int32) (x3 : Int32) (Q : St → Prop) (r33 : Int32 → St → Prop) (x4 : Int32) (σ : St) : Prop := ((x3 ≤ x4 → ∀ σ_8 : St, σ_8 = u1 σ 3 6 x3 → fX2_nextTarget N k1 (fun r_10 σ_9 => (((σ_9.1 3 11) = 0 → ∀ v_12 : Int32, v_12 = σ_9.1 3 12 → ∀ σ_13 : St, σ_13 = u1 σ_9 k1 2 v_12 → fX2_callFunction N x2 r_10 (fun σ_14 => Q σ_14) σ_13) ∧ (¬ (σ_9.1 3 11) = 0 → Q σ_9))) σ_8) ∧ (¬ x3 ≤ x4 → fX2_nextValue N k1 (fun r_16 σ_15 => vp_in x4 4 ∧ ∀ σ_18 : St, σ_18 = u1 σ_15 17 x4.toNatClampNeg r_16 → ∀ v_19 : Int32, v_19 = x4 + 1 → r33 v_19 σ_18) σ))
set_option maxHeartbeats 4000000 in
set_option maxRecDepth 100000 in
theorem bX2_doCallOrder_33 {p : Program} {e : Env} {s : State} {m : MethodId} {args : Array Value} {below : List Frame} {meth : Method} {c : Code} (l : Launch) (w : Wd) (N : Nat) (Q : St → Prop) (E : Cx 223 w (X1 w) cX2_doCallOrder 5 RX2 (.code yX2_doCallOrder cX2_doCallOrder 5 none) none p s m args meth c) (k1 : Nat) (x2 : Int32) (x3 : Int32) (hk1 : jobK k1) : ∀ (n : Nat) (x4 : Int32) (σ : St) (H : Heap) (locs : List Loc) (ls : Array Slot), Rr 223 ev1 w σ s H locs → lv_has ls 5 [(0, .ref (w.2.1 3)), (1, .ref (w.2.1 k1)), (2, .int x2), (3, .int x3), (4, .int x4)] → lo1 (fX2_doCallOrder_l33 N k1 x2 x3 Q) n x4 σ → W p l e rmX2_doCallOrder s m args below meth c H locs 0 0 (MQ below (va_Qv Q (Rp 223 ev1 w) (Aw 223 w)) args s 0 0 (Aw 223 w)) (F0 m 33 ls []) := by
  obtain ⟨hx, hb, hml, hown, hts, hr, hlk, hK, hI, hX⟩ := id E
  intro n
  induction n with
  | zero => intro x4 σ H locs ls hR hl h; exact h.elim
  | succ n ih =>
    intro x4 σ H locs ls hR hl h
    have h : fX2_doCallOrder_l33 N k1 x2 x3 Q (lo1 (fX2_doCallOrder_l33 N k1 x2 x3 Q) n) x4 σ := h
    unfold fX2_doCallOrder_l33 at h
    refine lv_iload (pc := 33) hx hb dX2_doCallOrder_33 (lv_at hl 4 rfl) ?_
    refine lv_iload_n (pc := 35) hx hb dX2_doCallOrder_35 rfl (lv_at hl 3 rfl) ?_
    refine lv_icmp_ge (pc := 36) (tgt := 57) hx hb dX2_doCallOrder_36 (by decide) (fun c_7 => ?_) (fun c_7 => ?_)
    · have h := h.1 c_7
      refine lv_aload_n (pc := 57) hx hb dX2_doCallOrder_57 rfl (lv_at hl 0 rfl) ?_
      refine lv_iload_n (pc := 58) hx hb dX2_doCallOrder_58 rfl (lv_at hl 3 rfl) ?_
      refine pf1_3_6 (pc := 59) hx hb hts hown hK hI hR mw73 dX2_doCallOrder_59 (fun H locs σ_8 eσ_8 hR => ?_)
      have h := h σ_8 eσ_8
      refine lv_aload_n (pc := 62) hx hb dX2_doCallOrder_62 rfl (lv_at hl 0 rfl) ?_
      refine lv_aload_n (pc := 63) hx hb dX2_doCallOrder_63 rfl (lv_at hl 1 rfl) ?_
      refine q_ci (pc := 64) hR (q_rV E (xp1 w) (As := [.ref (w.2.1 k1)]) (rest := []) (cX2_nextTarget_met l w hI N k1 hk1 _ σ_8 h) ckX2_nextTarget cvX2_nextTarget mw80 ⟨rfl, rfl, Nat.le_of_ble_eq_true rfl, Nat.le_of_ble_eq_true rfl⟩ hR (rc1_3 w) rfl hl.1 rfl (Nat.le_of_ble_eq_true rfl) dX2_doCallOrder_64) (fun r_10 σ_9 H locs h hR => ?_)
      refine lv_istore (pc := 67) (lv' := [(4, .int r_10), (0, .ref (w.2.1 3)), (1, .ref (w.2.1 k1)), (2, .int x2), (3, .int x3)]) hx hb dX2_doCallOrder_67 hl (by decide) rfl (fun ls hl => ?_)
      refine lv_aload_n (pc := 69) hx hb dX2_doCallOrder_69 rfl (lv_at hl 1 rfl) ?_
      refine gf1_3_11 (pc := 70) hx hb hts hown hK hR mw42 dX2_doCallOrder_70 ?_
      refine lv_if_eq (pc := 73) (tgt := 77) hx hb dX2_doCallOrder_73 (by decide) (fun c_11 => ?_) (fun c_11 => ?_)
      · have h := h.1 c_11
        refine lv_aload_n (pc := 77) hx hb dX2_doCallOrder_77 rfl (lv_at hl 2 rfl) ?_
        refine lv_aload_n (pc := 78) hx hb dX2_doCallOrder_78 rfl (lv_at hl 1 rfl) ?_
        refine gf1_3_12 (pc := 79) hx hb hts hown hK hR mw62 dX2_doCallOrder_79 ?_
        refine lv_topi (pc := 82) (fun v_12 ev_12 => ?_)
        have h := h v_12 ev_12
        refine pfj_2 (pc := 82) hk1 hx hb hts hown hK hI hR mw81 dX2_doCallOrder_82 (fun H locs σ_13 eσ_13 hR => ?_)
        have h := h σ_13 eσ_13
        refine lv_aload_n (pc := 85) hx hb dX2_doCallOrder_85 rfl (lv_at hl 1 rfl) ?_
        refine lv_iload_n (pc := 86) hx hb dX2_doCallOrder_86 rfl (lv_at hl 3 rfl) ?_
        refine lv_iload (pc := 87) hx hb dX2_doCallOrder_87 (lv_at hl 0 rfl) ?_
        refine q_cv (pc := 89) hR (q_rV E (xp1 w) (As := [.int x2, .int r_10]) (rest := []) (cX2_callFunction_met l w hI N x2 r_10 _ σ_13 h) ckX2_callFunction cvX2_callFunction mw82 ⟨rfl, rfl, Nat.le_of_ble_eq_true rfl, Nat.le_of_ble_eq_true rfl⟩ hR (rc1_3 w) rfl hl.1 rfl (Nat.le_of_ble_eq_true rfl) dX2_doCallOrder_89) (fun σ_14 H locs h hR => ?_)
        exact q_vret (pc := 92) E hR h dX2_doCallOrder_92
      · have h := h.2 c_11
        exact q_vret (pc := 76) E hR h dX2_doCallOrder_76
    · have h := h.2 c_7
      refine lv_aload_n (pc := 39) hx hb dX2_doCallOrder_39 rfl (lv_at hl 0 rfl) ?_
      refine gf1_3_5 (pc := 40) hx hb hts hown hK hR mw74 dX2_doCallOrder_40 ?_
      refine lv_iload (pc := 43) hx hb dX2_doCallOrder_43 (lv_at hl 4 rfl) ?_
      refine lv_aload_n (pc := 45) hx hb dX2_doCallOrder_45 rfl (lv_at hl 0 rfl) ?_
      refine lv_aload_n (pc := 46) hx hb dX2_doCallOrder_46 rfl (lv_at hl 1 rfl) ?_
      refine q_ci (pc := 47) hR (q_rV E (xp1 w) (As := [.ref (w.2.1 k1)]) (rest := [.int x4, .ref (w.2.1 17)]) (cX2_nextValue_met l w hI N k1 hk1 _ σ h) ckX2_nextValue cvX2_nextValue mw79 ⟨rfl, rfl, Nat.le_of_ble_eq_true rfl, Nat.le_of_ble_eq_true rfl⟩ hR (rc1_3 w) rfl hl.1 rfl (Nat.le_of_ble_eq_true rfl) dX2_doCallOrder_47) (fun r_16 σ_15 H locs h hR => ?_)
      have g_17 := h.1
      have h := h.2
      refine q_iast (pc := 50) hx hb hK hI hR (k := 17) lt1_17 (fun f => (ar1_17 _ f _)) g_17 dX2_doCallOrder_50 (fun H locs σ_18 eσ_18 hR => ?_)
      have h := h σ_18 eσ_18
      obtain ⟨v_19, ev_19⟩ : ∃ z : Int32, z = x4 + 1 := ⟨_, rfl⟩
      have h := h v_19 ev_19
      refine lv_iinc (pc := 51) (v := v_19) (lv' := [(4, .int v_19), (0, .ref (w.2.1 3)), (1, .ref (w.2.1 k1)), (2, .int x2), (3, .int x3)]) hx hb dX2_doCallOrder_51 hl (k := 4) rfl (by rw [ev_19]; rfl) (by decide) rfl (fun ls hl => ?_)
      refine lv_goto (pc := 54) (tgt := 33) hx hb dX2_doCallOrder_54 (by decide) ?_
      exact ih v_19 σ_18 _ _ _ hR (lv_sub hl [1, 2, 3, 4, 0] rfl) h
def fX2_doCallOrder_j22 (N : Nat) (k1 : Nat) (x2 : Int32) (x3 : Int32) (Q : St → Prop) (σ : St) : Prop := (((σ.1 3 11) = 0 → lo1 (fX2_doCallOrder_l33 N k1 x2 x3 Q) N 0 σ) ∧ (¬ (σ.1 3 11) = 0 → Q σ))
set_option maxHeartbeats 4000000 in
set_option maxRecDepth 100000 in
theorem bX2_doCallOrder_22 {p : Program} {e : Env} {s : State} {m : MethodId} {args : Array Value} {below : List Frame} {meth : Method} {c : Code} (l : Launch) (w : Wd) (N : Nat) (Q : St → Prop) (E : Cx 223 w (X1 w) cX2_doCallOrder 5 RX2 (.code yX2_doCallOrder cX2_doCallOrder 5 none) none p s m args meth c) (k1 : Nat) (x2 : Int32) (x3 : Int32) (hk1 : jobK k1) {σ : St} {H : Heap} {locs : List Loc} {ls : Array Slot} (hR : Rr 223 ev1 w σ s H locs) (hl : lv_has ls 5 [(0, .ref (w.2.1 3)), (1, .ref (w.2.1 k1)), (2, .int x2), (3, .int x3)]) (h : fX2_doCallOrder_j22 N k1 x2 x3 Q σ) : W p l e rmX2_doCallOrder s m args below meth c H locs 0 0 (MQ below (va_Qv Q (Rp 223 ev1 w) (Aw 223 w)) args s 0 0 (Aw 223 w)) (F0 m 22 ls []) := by
  obtain ⟨hx, hb, hml, hown, hts, hr, hlk, hK, hI, hX⟩ := id E
  unfold fX2_doCallOrder_j22 at h
  refine lv_aload_n (pc := 22) hx hb dX2_doCallOrder_22 rfl (lv_at hl 0 rfl) ?_
  refine gf1_3_11 (pc := 23) hx hb hts hown hK hR mw42 dX2_doCallOrder_23 ?_
  refine lv_if_eq (pc := 26) (tgt := 30) hx hb dX2_doCallOrder_26 (by decide) (fun c_6 => ?_) (fun c_6 => ?_)
  · have h := h.1 c_6
    refine lv_iconst (pc := 30) (v := 0) hx hb dX2_doCallOrder_30 (by decide) ?_
    refine lv_istore (pc := 31) (lv' := [(4, .int 0), (0, .ref (w.2.1 3)), (1, .ref (w.2.1 k1)), (2, .int x2), (3, .int x3)]) hx hb dX2_doCallOrder_31 hl (by decide) rfl (fun ls hl => ?_)
    exact bX2_doCallOrder_33 l w N Q E k1 x2 x3 hk1 N 0 σ _ _ _ hR (lv_sub hl [1, 2, 3, 4, 0] rfl) h
  · have h := h.2 c_6
    exact q_vret (pc := 29) E hR h dX2_doCallOrder_29
def fX2_doCallOrder (N : Nat) (k1 : Nat) (Q : St → Prop) (σ : St) : Prop := fX2_nextValue N k1 (fun r_2 σ_1 => fX2_nextByte N (fun r_4 σ_3 => ((r_4 ≤ 4 → fX2_doCallOrder_j22 N k1 r_2 r_4 Q σ_3) ∧ (¬ r_4 ≤ 4 → fX2_fail N 6 (fun σ_6 => fX2_doCallOrder_j22 N k1 r_2 r_4 Q σ_6) σ_3))) σ_1) σ
set_option maxHeartbeats 4000000 in
set_option maxRecDepth 100000 in
theorem bX2_doCallOrder_e {p : Program} {e : Env} {s : State} {m : MethodId} {args : Array Value} {below : List Frame} {meth : Method} {c : Code} (l : Launch) (w : Wd) (N : Nat) (Q : St → Prop) (E : Cx 223 w (X1 w) cX2_doCallOrder 5 RX2 (.code yX2_doCallOrder cX2_doCallOrder 5 none) none p s m args meth c) (k1 : Nat) (hk1 : jobK k1) {σ : St} {H : Heap} {locs : List Loc} {ls : Array Slot} (hR : Rr 223 ev1 w σ s H locs) (hl : lv_has ls 5 [(0, .ref (w.2.1 3)), (1, .ref (w.2.1 k1))]) (h : fX2_doCallOrder N k1 Q σ) : W p l e rmX2_doCallOrder s m args below meth c H locs 0 0 (MQ below (va_Qv Q (Rp 223 ev1 w) (Aw 223 w)) args s 0 0 (Aw 223 w)) (F0 m 0 ls []) := by
  obtain ⟨hx, hb, hml, hown, hts, hr, hlk, hK, hI, hX⟩ := id E
  unfold fX2_doCallOrder at h
  refine lv_aload_n (pc := 0) hx hb dX2_doCallOrder_0 rfl (lv_at hl 0 rfl) ?_
  refine lv_aload_n (pc := 1) hx hb dX2_doCallOrder_1 rfl (lv_at hl 1 rfl) ?_
  refine q_ci (pc := 2) hR (q_rV E (xp1 w) (As := [.ref (w.2.1 k1)]) (rest := []) (cX2_nextValue_met l w hI N k1 hk1 _ σ h) ckX2_nextValue cvX2_nextValue mw79 ⟨rfl, rfl, Nat.le_of_ble_eq_true rfl, Nat.le_of_ble_eq_true rfl⟩ hR (rc1_3 w) rfl hl.1 rfl (Nat.le_of_ble_eq_true rfl) dX2_doCallOrder_2) (fun r_2 σ_1 H locs h hR => ?_)
  refine lv_istore_n (pc := 5) (lv' := [(2, .int r_2), (0, .ref (w.2.1 3)), (1, .ref (w.2.1 k1))]) hx hb dX2_doCallOrder_5 rfl hl (by decide) rfl (fun ls hl => ?_)
  refine lv_aload_n (pc := 6) hx hb dX2_doCallOrder_6 rfl (lv_at hl 1 rfl) ?_
  refine q_ci (pc := 7) hR (q_rV E (xp1 w) (As := []) (rest := []) (cX2_nextByte_met l w hI N _ σ_1 h) ckX2_nextByte cvX2_nextByte mw68 ⟨rfl, rfl, Nat.le_of_ble_eq_true rfl, Nat.le_of_ble_eq_true rfl⟩ hR (rc1_3 w) rfl hl.1 rfl (Nat.le_of_ble_eq_true rfl) dX2_doCallOrder_7) (fun r_4 σ_3 H locs h hR => ?_)
  refine lv_istore_n (pc := 10) (lv' := [(3, .int r_4), (2, .int r_2), (0, .ref (w.2.1 3)), (1, .ref (w.2.1 k1))]) hx hb dX2_doCallOrder_10 rfl hl (by decide) rfl (fun ls hl => ?_)
  refine lv_iload_n (pc := 11) hx hb dX2_doCallOrder_11 rfl (lv_at hl 0 rfl) ?_
  refine lv_iconst (pc := 12) (v := 4) hx hb dX2_doCallOrder_12 (by decide) ?_
  refine lv_icmp_le (pc := 13) (tgt := 22) hx hb dX2_doCallOrder_13 (by decide) (fun c_5 => ?_) (fun c_5 => ?_)
  · have h := h.1 c_5
    exact bX2_doCallOrder_22 l w N Q E k1 r_2 r_4 hk1 hR (lv_sub hl [2, 3, 1, 0] rfl) h
  · have h := h.2 c_5
    refine lv_aload_n (pc := 16) hx hb dX2_doCallOrder_16 rfl (lv_at hl 2 rfl) ?_
    refine lv_bipush (pc := 17) (v := 6) hx hb dX2_doCallOrder_17 (by decide) ?_
    refine q_cv (pc := 19) hR (q_rV E (xp1 w) (As := [.int 6]) (rest := []) (cX2_fail_met l w hI N 6 _ σ_3 h) ckX2_fail cvX2_fail mw46 ⟨rfl, rfl, Nat.le_of_ble_eq_true rfl, Nat.le_of_ble_eq_true rfl⟩ hR (rc1_3 w) rfl hl.1 rfl (Nat.le_of_ble_eq_true rfl) dX2_doCallOrder_19) (fun σ_6 H locs h hR => ?_)
    exact bX2_doCallOrder_22 l w N Q E k1 r_2 r_4 hk1 hR (lv_sub hl [2, 3, 1, 0] rfl) h
theorem cX2_doCallOrder_met (l : Launch) (w : Wd) (hI : Ij 223 w) (N : Nat) (k1 : Nat) (hk1 : jobK k1) (Q : St → Prop) (σ : St) (h : fX2_doCallOrder N k1 Q σ) : Met l yX2_doCallOrder (.code yX2_doCallOrder cX2_doCallOrder 5 none :: Uw) rmX2_doCallOrder (va_Pc [.ref (w.2.1 3), .ref (w.2.1 k1)] (fun U => Rp 223 ev1 w σ U ∧ (X1 w) U)) (va_Qv Q (Rp 223 ev1 w) (Aw 223 w)) 0 0 (Aw 223 w) :=
  q_met (by decide) (Nat.le_of_ble_eq_true rfl) hI (fun p e s m below meth c ls E hl hR => bX2_doCallOrder_e l w N Q E k1 hk1 hR hl h)
-- GlulxStrings$Machine.nextDistance()I
abbrev rmX2_nextDistance : Room := { frames := 3, cells := 0, slots := 0, locals := 63 }
def fX2_nextDistance (N : Nat) (Q : Int32 → St → Prop) (σ : St) : Prop := fX2_nextByte N (fun r_2 σ_1 => ∀ v_3 : Int32, v_3 = r_2.toInt8.toInt32 → fX2_nextByte N (fun r_5 σ_4 => Q ((v_3 * 256) + r_5) σ_4) σ_1) σ
set_option maxHeartbeats 4000000 in
set_option maxRecDepth 100000 in
theorem bX2_nextDistance_e {p : Program} {e : Env} {s : State} {m : MethodId} {args : Array Value} {below : List Frame} {meth : Method} {c : Code} (l : Launch) (w : Wd) (N : Nat) (Q : Int32 → St → Prop) (E : Cx 223 w (X1 w) cX2_nextDistance 2 RX2 (.code yX2_nextDistance cX2_nextDistance 2 (some .int)) (some .int) p s m args meth c) {σ : St} {H : Heap} {locs : List Loc} {ls : Array Slot} (hR : Rr 223 ev1 w σ s H locs) (hl : lv_has ls 2 [(0, .ref (w.2.1 3))]) (h : fX2_nextDistance N Q σ) : W p l e rmX2_nextDistance s m args below meth c H locs 0 0 (MQ below (va_Qi Q (Rp 223 ev1 w) (Aw 223 w)) args s 0 0 (Aw 223 w)) (F0 m 0 ls []) := by
  obtain ⟨hx, hb, hml, hown, hts, hr, hlk, hK, hI, hX⟩ := id E
  unfold fX2_nextDistance at h
  refine lv_aload_n (pc := 0) hx hb dX2_nextDistance_0 rfl (lv_at hl 0 rfl) ?_
  refine q_ci (pc := 1) hR (q_rV E (xp1 w) (As := []) (rest := []) (cX2_nextByte_met l w hI N _ σ h) ckX2_nextByte cvX2_nextByte mw68 ⟨rfl, rfl, Nat.le_of_ble_eq_true rfl, Nat.le_of_ble_eq_true rfl⟩ hR (rc1_3 w) rfl hl.1 rfl (Nat.le_of_ble_eq_true rfl) dX2_nextDistance_1) (fun r_2 σ_1 H locs h hR => ?_)
  refine lv_i2b (pc := 4) (v := r_2.toInt8.toInt32) hx hb dX2_nextDistance_4 rfl ?_
  refine lv_topi (pc := 5) (fun v_3 ev_3 => ?_)
  have h := h v_3 ev_3
  refine lv_istore_n (pc := 5) (lv' := [(1, .int v_3), (0, .ref (w.2.1 3))]) hx hb dX2_nextDistance_5 rfl hl (by decide) rfl (fun ls hl => ?_)
  refine lv_iload_n (pc := 6) hx hb dX2_nextDistance_6 rfl (lv_at hl 0 rfl) ?_
  refine lv_sipush (pc := 7) (v := 256) hx hb dX2_nextDistance_7 (by decide) ?_
  refine lv_imul (pc := 10) hx hb dX2_nextDistance_10 ?_
  refine lv_aload_n (pc := 11) hx hb dX2_nextDistance_11 rfl (lv_at hl 1 rfl) ?_
  refine q_ci (pc := 12) hR (q_rV E (xp1 w) (As := []) (rest := [.int (v_3 * 256)]) (cX2_nextByte_met l w hI N _ σ_1 h) ckX2_nextByte cvX2_nextByte mw68 ⟨rfl, rfl, Nat.le_of_ble_eq_true rfl, Nat.le_of_ble_eq_true rfl⟩ hR (rc1_3 w) rfl hl.1 rfl (Nat.le_of_ble_eq_true rfl) dX2_nextDistance_12) (fun r_5 σ_4 H locs h hR => ?_)
  refine lv_iadd (pc := 15) hx hb dX2_nextDistance_15 ?_
  exact q_iret (pc := 16) E hR h dX2_nextDistance_16
theorem cX2_nextDistance_met (l : Launch) (w : Wd) (hI : Ij 223 w) (N : Nat) (Q : Int32 → St → Prop) (σ : St) (h : fX2_nextDistance N Q σ) : Met l yX2_nextDistance (.code yX2_nextDistance cX2_nextDistance 2 (some .int) :: Uw) rmX2_nextDistance (va_Pc [.ref (w.2.1 3)] (fun U => Rp 223 ev1 w σ U ∧ (X1 w) U)) (va_Qi Q (Rp 223 ev1 w) (Aw 223 w)) 0 0 (Aw 223 w) :=
  q_met (by decide) (Nat.le_of_ble_eq_true rfl) hI (fun p e s m below meth c ls E hl hR => bX2_nextDistance_e l w N Q E hR hl h)
-- GlulxStrings$Machine.valueFor(III)I
abbrev rmX2_valueFor : Room := { frames := 2, cells := 0, slots := 0, locals := 42 }
def fX2_valueFor_j70 (N : Nat) (Q : Int32 → St → Prop) (σ : St) : Prop := Q (σ.1 2 8) σ
set_option maxHeartbeats 4000000 in
set_option maxRecDepth 100000 in
theorem bX2_valueFor_70 {p : Program} {e : Env} {s : State} {m : MethodId} {args : Array Value} {below : List Frame} {meth : Method} {c : Code} (l : Launch) (w : Wd) (N : Nat) (Q : Int32 → St → Prop) (E : Cx 223 w (X1 w) cX2_valueFor 4 RX2 (.code yX2_valueFor cX2_valueFor 4 (some .int)) (some .int) p s m args meth c) {σ : St} {H : Heap} {locs : List Loc} {ls : Array Slot} (hR : Rr 223 ev1 w σ s H locs) (hl : lv_has ls 4 [(0, .ref (w.2.1 3))]) (h : fX2_valueFor_j70 N Q σ) : W p l e rmX2_valueFor s m args below meth c H locs 0 0 (MQ below (va_Qi Q (Rp 223 ev1 w) (Aw 223 w)) args s 0 0 (Aw 223 w)) (F0 m 70 ls []) := by
  obtain ⟨hx, hb, hml, hown, hts, hr, hlk, hK, hI, hX⟩ := id E
  unfold fX2_valueFor_j70 at h
  refine lv_aload_n (pc := 70) hx hb dX2_valueFor_70 rfl (lv_at hl 0 rfl) ?_
  refine gf1_3_1 (pc := 71) hx hb hts hown hK hR mw83 dX2_valueFor_71 ?_
  refine gf1_2_8 (pc := 74) hx hb hts hown hK hR mw84 dX2_valueFor_74 ?_
  exact q_iret (pc := 77) E hR h dX2_valueFor_77
def fX2_valueFor (N : Nat) (x1 : Int32) (x2 : Int32) (x3 : Int32) (Q : Int32 → St → Prop) (σ : St) : Prop := ((x1 = 7 → Q x2 σ) ∧ (¬ x1 = 7 → ((x1 = 8 → Q (x2 + x3) σ) ∧ (¬ x1 = 8 → ((x1 = 9 → Q (x2 - x3) σ) ∧ (¬ x1 = 9 → ((x1 = 13 → fX2_readByte N x2 (fun r_6 σ_5 => Q r_6 σ_5) σ) ∧ (¬ x1 = 13 → ((x1 = 14 → fX2_readFour N x2 (fun r_9 σ_8 => Q r_9 σ_8) σ) ∧ (¬ x1 = 14 → fX2_valueFor_j70 N Q σ))))))))))
set_option maxHeartbeats 4000000 in
set_option maxRecDepth 100000 in
theorem bX2_valueFor_e {p : Program} {e : Env} {s : State} {m : MethodId} {args : Array Value} {below : List Frame} {meth : Method} {c : Code} (l : Launch) (w : Wd) (N : Nat) (Q : Int32 → St → Prop) (E : Cx 223 w (X1 w) cX2_valueFor 4 RX2 (.code yX2_valueFor cX2_valueFor 4 (some .int)) (some .int) p s m args meth c) (x1 : Int32) (x2 : Int32) (x3 : Int32) {σ : St} {H : Heap} {locs : List Loc} {ls : Array Slot} (hR : Rr 223 ev1 w σ s H locs) (hl : lv_has ls 4 [(0, .ref (w.2.1 3)), (1, .int x1), (2, .int x2), (3, .int x3)]) (h : fX2_valueFor N x1 x2 x3 Q σ) : W p l e rmX2_valueFor s m args below meth c H locs 0 0 (MQ below (va_Qi Q (Rp 223 ev1 w) (Aw 223 w)) args s 0 0 (Aw 223 w)) (F0 m 0 ls []) := by
  obtain ⟨hx, hb, hml, hown, hts, hr, hlk, hK, hI, hX⟩ := id E
  unfold fX2_valueFor at h
  refine lv_iload_n (pc := 0) hx hb dX2_valueFor_0 rfl (lv_at hl 1 rfl) ?_
  by_cases c_1 : x1 = 7
  · refine lv_tableIn (pc := 1) (tgt := 48) (off := 47) hx hb dX2_valueFor_1 (by rw [c_1]; decide) (by rw [c_1]; decide) (by rw [c_1]; rfl) (by decide) ?_
    have h := h.1 c_1
    refine lv_iload_n (pc := 48) hx hb dX2_valueFor_48 rfl (lv_at hl 2 rfl) ?_
    exact q_iret (pc := 49) E hR h dX2_valueFor_49
  replace h := h.2 c_1
  by_cases c_2 : x1 = 8
  · refine lv_tableIn (pc := 1) (tgt := 50) (off := 49) hx hb dX2_valueFor_1 (by rw [c_2]; decide) (by rw [c_2]; decide) (by rw [c_2]; rfl) (by decide) ?_
    have h := h.1 c_2
    refine lv_iload_n (pc := 50) hx hb dX2_valueFor_50 rfl (lv_at hl 2 rfl) ?_
    refine lv_iload_n (pc := 51) hx hb dX2_valueFor_51 rfl (lv_at hl 3 rfl) ?_
    refine lv_iadd (pc := 52) hx hb dX2_valueFor_52 ?_
    exact q_iret (pc := 53) E hR h dX2_valueFor_53
  replace h := h.2 c_2
  by_cases c_3 : x1 = 9
  · refine lv_tableIn (pc := 1) (tgt := 54) (off := 53) hx hb dX2_valueFor_1 (by rw [c_3]; decide) (by rw [c_3]; decide) (by rw [c_3]; rfl) (by decide) ?_
    have h := h.1 c_3
    refine lv_iload_n (pc := 54) hx hb dX2_valueFor_54 rfl (lv_at hl 2 rfl) ?_
    refine lv_iload_n (pc := 55) hx hb dX2_valueFor_55 rfl (lv_at hl 3 rfl) ?_
    refine lv_isub (pc := 56) hx hb dX2_valueFor_56 ?_
    exact q_iret (pc := 57) E hR h dX2_valueFor_57
  replace h := h.2 c_3
  by_cases c_4 : x1 = 13
  · refine lv_tableIn (pc := 1) (tgt := 58) (off := 57) hx hb dX2_valueFor_1 (by rw [c_4]; decide) (by rw [c_4]; decide) (by rw [c_4]; rfl) (by decide) ?_
    have h := h.1 c_4
    refine lv_aload_n (pc := 58) hx hb dX2_valueFor_58 rfl (lv_at hl 0 rfl) ?_
    refine lv_iload_n (pc := 59) hx hb dX2_valueFor_59 rfl (lv_at hl 2 rfl) ?_
    refine q_ci (pc := 60) hR (q_rV E (xp1 w) (As := [.int x2]) (rest := []) (cX2_readByte_met l w hI N x2 _ σ h) ckX2_readByte cvX2_readByte mw60 ⟨rfl, rfl, Nat.le_of_ble_eq_true rfl, Nat.le_of_ble_eq_true rfl⟩ hR (rc1_3 w) rfl hl.1 rfl (Nat.le_of_ble_eq_true rfl) dX2_valueFor_60) (fun r_6 σ_5 H locs h hR => ?_)
    exact q_iret (pc := 63) E hR h dX2_valueFor_63
  replace h := h.2 c_4
  by_cases c_7 : x1 = 14
  · refine lv_tableIn (pc := 1) (tgt := 64) (off := 63) hx hb dX2_valueFor_1 (by rw [c_7]; decide) (by rw [c_7]; decide) (by rw [c_7]; rfl) (by decide) ?_
    have h := h.1 c_7
    refine lv_aload_n (pc := 64) hx hb dX2_valueFor_64 rfl (lv_at hl 0 rfl) ?_
    refine lv_iload_n (pc := 65) hx hb dX2_valueFor_65 rfl (lv_at hl 2 rfl) ?_
    refine q_ci (pc := 66) hR (q_rV E (xp1 w) (As := [.int x2]) (rest := []) (cX2_readFour_met l w hI N x2 _ σ h) ckX2_readFour cvX2_readFour mw65 ⟨rfl, rfl, Nat.le_of_ble_eq_true rfl, Nat.le_of_ble_eq_true rfl⟩ hR (rc1_3 w) rfl hl.1 rfl (Nat.le_of_ble_eq_true rfl) dX2_valueFor_66) (fun r_9 σ_8 H locs h hR => ?_)
    exact q_iret (pc := 69) E hR h dX2_valueFor_69
  replace h := h.2 c_7
  have hD : W p l e rmX2_valueFor s m args below meth c H locs 0 0 (MQ below (va_Qi Q (Rp 223 ev1 w) (Aw 223 w)) args s 0 0 (Aw 223 w)) (F0 m 70 ls []) := by
    exact bX2_valueFor_70 l w N Q E hR (lv_sub hl [0] rfl) h
  by_cases c_10 : x1 = 10
  · exact lv_tableIn (pc := 1) (tgt := 70) (off := 69) hx hb dX2_valueFor_1 (by rw [c_10]; decide) (by rw [c_10]; decide) (by rw [c_10]; rfl) (by decide) hD
  by_cases c_11 : x1 = 11
  · exact lv_tableIn (pc := 1) (tgt := 70) (off := 69) hx hb dX2_valueFor_1 (by rw [c_11]; decide) (by rw [c_11]; decide) (by rw [c_11]; rfl) (by decide) hD
  by_cases c_12 : x1 = 12
  · exact lv_tableIn (pc := 1) (tgt := 70) (off := 69) hx hb dX2_valueFor_1 (by rw [c_12]; decide) (by rw [c_12]; decide) (by rw [c_12]; rfl) (by decide) hD
  have nc_1 := ne_i (n := 7) (by decide) c_1
  have nc_2 := ne_i (n := 8) (by decide) c_2
  have nc_3 := ne_i (n := 9) (by decide) c_3
  have nc_4 := ne_i (n := 13) (by decide) c_4
  have nc_7 := ne_i (n := 14) (by decide) c_7
  have nc_10 := ne_i (n := 10) (by decide) c_10
  have nc_11 := ne_i (n := 11) (by decide) c_11
  have nc_12 := ne_i (n := 12) (by decide) c_12
  exact lv_tableOut (pc := 1) (tgt := 70) hx hb dX2_valueFor_1 (by omega) (by decide) hD
theorem cX2_valueFor_met (l : Launch) (w : Wd) (hI : Ij 223 w) (N : Nat) (x1 : Int32) (x2 : Int32) (x3 : Int32) (Q : Int32 → St → Prop) (σ : St) (h : fX2_valueFor N x1 x2 x3 Q σ) : Met l yX2_valueFor (.code yX2_valueFor cX2_valueFor 4 (some .int) :: Uw) rmX2_valueFor (va_Pc [.ref (w.2.1 3), .int x1, .int x2, .int x3] (fun U => Rp 223 ev1 w σ U ∧ (X1 w) U)) (va_Qi Q (Rp 223 ev1 w) (Aw 223 w)) 0 0 (Aw 223 w) :=
  q_met (by decide) (Nat.le_of_ble_eq_true rfl) hI (fun p e s m below meth c ls E hl hR => bX2_valueFor_e l w N Q E x1 x2 x3 hR hl h)
-- GlulxStrings$Machine.goesThere(III)Z
abbrev rmX2_goesThere : Room := { frames := 0, cells := 0, slots := 0, locals := 0 }
def fX2_goesThere (N : Nat) (x0 : Int32) (x1 : Int32) (x2 : Int32) (Q : Int32 → St → Prop) (σ : St) : Prop := ((x0 = 10 → ((x1 = 0 → Q 1 σ) ∧ (¬ x1 = 0 → Q 0 σ))) ∧ (¬ x0 = 10 → ((x0 = 11 → ((x1 = 0 → Q 0 σ) ∧ (¬ x1 = 0 → Q 1 σ))) ∧ (¬ x0 = 11 → ((x2 ≤ x1 → Q 0 σ) ∧ (¬ x2 ≤ x1 → Q 1 σ))))))
set_option maxHeartbeats 4000000 in
set_option maxRecDepth 100000 in
theorem bX2_goesThere_e {p : Program} {e : Env} {s : State} {m : MethodId} {args : Array Value} {below : List Frame} {meth : Method} {c : Code} (l : Launch) (w : Wd) (N : Nat) (Q : Int32 → St → Prop) (E : Cx 223 w (X1 w) cX2_goesThere 3 RX2 (.code yX2_goesThere cX2_goesThere 3 (some .boolean)) (some .boolean) p s m args meth c) (x0 : Int32) (x1 : Int32) (x2 : Int32) {σ : St} {H : Heap} {locs : List Loc} {ls : Array Slot} (hR : Rr 223 ev1 w σ s H locs) (hl : lv_has ls 3 [(0, .int x0), (1, .int x1), (2, .int x2)]) (h : fX2_goesThere N x0 x1 x2 Q σ) : W p l e rmX2_goesThere s m args below meth c H locs 0 0 (MQ below (va_Qi Q (Rp 223 ev1 w) (Aw 223 w)) args s 0 0 (Aw 223 w)) (F0 m 0 ls []) := by
  obtain ⟨hx, hb, hml, hown, hts, hr, hlk, hK, hI, hX⟩ := id E
  unfold fX2_goesThere at h
  refine lv_iload_n (pc := 0) hx hb dX2_goesThere_0 rfl (lv_at hl 0 rfl) ?_
  by_cases c_1 : x0 = 10
  · refine lv_lookup (pc := 1) (tgt := 28) (off := 27) hx hb dX2_goesThere_1 (by decide) (by rw [c_1]; rfl) (by decide) ?_
    have h := h.1 c_1
    refine lv_iload_n (pc := 28) hx hb dX2_goesThere_28 rfl (lv_at hl 1 rfl) ?_
    refine lv_if_ne (pc := 29) (tgt := 36) hx hb dX2_goesThere_29 (by decide) (fun c_2 => ?_) (fun c_2 => ?_)
    · have h := h.2 c_2
      refine lv_iconst (pc := 36) (v := 0) hx hb dX2_goesThere_36 (by decide) ?_
      exact q_zret (pc := 37) E hR h rfl dX2_goesThere_37
    · have h := h.1 c_2
      refine lv_iconst (pc := 32) (v := 1) hx hb dX2_goesThere_32 (by decide) ?_
      refine lv_goto (pc := 33) (tgt := 37) hx hb dX2_goesThere_33 (by decide) ?_
      exact q_zret (pc := 37) E hR h rfl dX2_goesThere_37
  replace h := h.2 c_1
  by_cases c_3 : x0 = 11
  · refine lv_lookup (pc := 1) (tgt := 38) (off := 37) hx hb dX2_goesThere_1 (by decide) (by rw [c_3]; rfl) (by decide) ?_
    have h := h.1 c_3
    refine lv_iload_n (pc := 38) hx hb dX2_goesThere_38 rfl (lv_at hl 1 rfl) ?_
    refine lv_if_eq (pc := 39) (tgt := 46) hx hb dX2_goesThere_39 (by decide) (fun c_4 => ?_) (fun c_4 => ?_)
    · have h := h.1 c_4
      refine lv_iconst (pc := 46) (v := 0) hx hb dX2_goesThere_46 (by decide) ?_
      exact q_zret (pc := 47) E hR h rfl dX2_goesThere_47
    · have h := h.2 c_4
      refine lv_iconst (pc := 42) (v := 1) hx hb dX2_goesThere_42 (by decide) ?_
      refine lv_goto (pc := 43) (tgt := 47) hx hb dX2_goesThere_43 (by decide) ?_
      exact q_zret (pc := 47) E hR h rfl dX2_goesThere_47
  replace h := h.2 c_3
  have nc_1 := ne_i (n := 10) (by decide) c_1
  have nc_3 := ne_i (n := 11) (by decide) c_3
  refine lv_lookup (pc := 1) (tgt := 48) (off := 47) hx hb dX2_goesThere_1 (by decide) (by simp [Op.lookupswitch.offset, Ne.symm nc_1, Ne.symm nc_3]) (by decide) ?_
  refine lv_iload_n (pc := 48) hx hb dX2_goesThere_48 rfl (lv_at hl 1 rfl) ?_
  refine lv_iload_n (pc := 49) hx hb dX2_goesThere_49 rfl (lv_at hl 2 rfl) ?_
  refine lv_icmp_ge (pc := 50) (tgt := 57) hx hb dX2_goesThere_50 (by decide) (fun c_5 => ?_) (fun c_5 => ?_)
  · have h := h.1 c_5
    refine lv_iconst (pc := 57) (v := 0) hx hb dX2_goesThere_57 (by decide) ?_
    exact q_zret (pc := 58) E hR h rfl dX2_goesThere_58
  · have h := h.2 c_5
    refine lv_iconst (pc := 53) (v := 1) hx hb dX2_goesThere_53 (by decide) ?_
    refine lv_goto (pc := 54) (tgt := 58) hx hb dX2_goesThere_54 (by decide) ?_
    exact q_zret (pc := 58) E hR h rfl dX2_goesThere_58
theorem cX2_goesThere_met (l : Launch) (w : Wd) (hI : Ij 223 w) (N : Nat) (x0 : Int32) (x1 : Int32) (x2 : Int32) (Q : Int32 → St → Prop) (σ : St) (h : fX2_goesThere N x0 x1 x2 Q σ) : Met l yX2_goesThere (.code yX2_goesThere cX2_goesThere 3 (some .boolean) :: Uw) rmX2_goesThere (va_Pc [.int x0, .int x1, .int x2] (fun U => Rp 223 ev1 w σ U ∧ (X1 w) U)) (va_Qi Q (Rp 223 ev1 w) (Aw 223 w)) 0 0 (Aw 223 w) :=
  q_met (by decide) (Nat.le_of_ble_eq_true rfl) hI (fun p e s m below meth c ls E hl hR => bX2_goesThere_e l w N Q E x0 x1 x2 hR hl h)
-- GlulxStrings$Machine.endFunction(LGlulxStrings$Job;I)V
abbrev rmX2_endFunction : Room := { frames := 1, cells := 0, slots := 0, locals := 22 }
def fX2_endFunction (N : Nat) (k1 : Nat) (x2 : Int32) (Q : St → Prop) (σ : St) : Prop := ∀ σ_1 : St, σ_1 = u1 σ 5 6 x2 → ∀ v_2 : Int32, v_2 = (σ_1.1 3 7) - 1 → ∀ σ_3 : St, σ_3 = u1 σ_1 3 7 v_2 → (((σ_3.1 3 7) ≤ 0 → Q σ_3) ∧ (¬ (σ_3.1 3 7) ≤ 0 → vp_in ((σ_3.1 3 7) - 1) 40 ∧ fX1_setLocal N (43 + ((σ_3.1 3 7) - 1).toNatClampNeg) (σ_3.1 k1 7) x2 (fun σ_6 => Q σ_6) σ_3))
set_option maxHeartbeats 4000000 in
set_option maxRecDepth 100000 in
theorem bX2_endFunction_e {p : Program} {e : Env} {s : State} {m : MethodId} {args : Array Value} {below : List Frame} {meth : Method} {c : Code} (l : Launch) (w : Wd) (N : Nat) (Q : St → Prop) (E : Cx 223 w (X1 w) cX2_endFunction 3 RX2 (.code yX2_endFunction cX2_endFunction 3 none) none p s m args meth c) (k1 : Nat) (x2 : Int32) (hk1 : jobK k1) {σ : St} {H : Heap} {locs : List Loc} {ls : Array Slot} (hR : Rr 223 ev1 w σ s H locs) (hl : lv_has ls 3 [(0, .ref (w.2.1 3)), (1, .ref (w.2.1 k1)), (2, .int x2)]) (h : fX2_endFunction N k1 x2 Q σ) : W p l e rmX2_endFunction s m args below meth c H locs 0 0 (MQ below (va_Qv Q (Rp 223 ev1 w) (Aw 223 w)) args s 0 0 (Aw 223 w)) (F0 m 0 ls []) := by
  obtain ⟨hx, hb, hml, hown, hts, hr, hlk, hK, hI, hX⟩ := id E
  unfold fX2_endFunction at h
  refine lv_aload_n (pc := 0) hx hb dX2_endFunction_0 rfl (lv_at hl 0 rfl) ?_
  refine gf1_3_2 (pc := 1) hx hb hts hown hK hR mw57 dX2_endFunction_1 ?_
  refine lv_iload_n (pc := 4) hx hb dX2_endFunction_4 rfl (lv_at hl 2 rfl) ?_
  refine pf1_5_6 (pc := 5) hx hb hts hown hK hI hR mw85 dX2_endFunction_5 (fun H locs σ_1 eσ_1 hR => ?_)
  have h := h σ_1 eσ_1
  refine lv_aload_n (pc := 8) hx hb dX2_endFunction_8 rfl (lv_at hl 0 rfl) ?_
  refine lv_dup (pc := 9) hx hb dX2_endFunction_9 rfl ?_
  refine gf1_3_7 (pc := 10) hx hb hts hown hK hR mw54 dX2_endFunction_10 ?_
  refine lv_iconst (pc := 13) (v := 1) hx hb dX2_endFunction_13 (by decide) ?_
  refine lv_isub (pc := 14) hx hb dX2_endFunction_14 ?_
  refine lv_topi (pc := 15) (fun v_2 ev_2 => ?_)
  have h := h v_2 ev_2
  refine pf1_3_7 (pc := 15) hx hb hts hown hK hI hR mw54 dX2_endFunction_15 (fun H locs σ_3 eσ_3 hR => ?_)
  have h := h σ_3 eσ_3
  refine lv_aload_n (pc := 18) hx hb dX2_endFunction_18 rfl (lv_at hl 0 rfl) ?_
  refine gf1_3_7 (pc := 19) hx hb hts hown hK hR mw54 dX2_endFunction_19 ?_
  refine lv_if_le (pc := 22) (tgt := 44) hx hb dX2_endFunction_22 (by decide) (fun c_4 => ?_) (fun c_4 => ?_)
  · have h := h.1 c_4
    exact q_vret (pc := 44) E hR h dX2_endFunction_44
  · have h := h.2 c_4
    refine lv_aload_n (pc := 25) hx hb dX2_endFunction_25 rfl (lv_at hl 0 rfl) ?_
    refine gf1_3_3 (pc := 26) hx hb hts hown hK hR mw55 dX2_endFunction_26 ?_
    refine lv_aload_n (pc := 29) hx hb dX2_endFunction_29 rfl (lv_at hl 0 rfl) ?_
    refine gf1_3_7 (pc := 30) hx hb hts hown hK hR mw54 dX2_endFunction_30 ?_
    refine lv_iconst (pc := 33) (v := 1) hx hb dX2_endFunction_33 (by decide) ?_
    refine lv_isub (pc := 34) hx hb dX2_endFunction_34 ?_
    have g_5 := h.1
    have h := h.2
    refine q_aald (pc := 35) hx hb hK hR (k := 15) lt1_15 4 rfl rfl (ar1_15 _ _ _) g_5 dX2_endFunction_35 ?_
    refine lv_aload_n (pc := 36) hx hb dX2_endFunction_36 rfl (lv_at hl 1 rfl) ?_
    refine gfj_7 (pc := 37) hk1 hx hb hts hown hK hR mw77 dX2_endFunction_37 ?_
    refine lv_iload_n (pc := 40) hx hb dX2_endFunction_40 rfl (lv_at hl 2 rfl) ?_
    refine q_cv (pc := 41) hR (q_rV E (xp1 w) (As := [.int (σ_3.1 k1 7), .int x2]) (rest := []) (cX1_setLocal_met l w hI N (43 + ((σ_3.1 3 7) - 1).toNatClampNeg) (σ_3.1 k1 7) x2 (jobK_in g_5) _ σ_3 h) ckX1_setLocal cvX1_setLocal mw75 ⟨rfl, rfl, Nat.le_of_ble_eq_true rfl, Nat.le_of_ble_eq_true rfl⟩ hR (rcj (jobK_in g_5)) rfl hl.1 rfl (Nat.le_of_ble_eq_true rfl) dX2_endFunction_41) (fun σ_6 H locs h hR => ?_)
    exact q_vret (pc := 44) E hR h dX2_endFunction_44
theorem cX2_endFunction_met (l : Launch) (w : Wd) (hI : Ij 223 w) (N : Nat) (k1 : Nat) (x2 : Int32) (hk1 : jobK k1) (Q : St → Prop) (σ : St) (h : fX2_endFunction N k1 x2 Q σ) : Met l yX2_endFunction (.code yX2_endFunction cX2_endFunction 3 none :: Uw) rmX2_endFunction (va_Pc [.ref (w.2.1 3), .ref (w.2.1 k1), .int x2] (fun U => Rp 223 ev1 w σ U ∧ (X1 w) U)) (va_Qv Q (Rp 223 ev1 w) (Aw 223 w)) 0 0 (Aw 223 w) :=
  q_met (by decide) (Nat.le_of_ble_eq_true rfl) hI (fun p e s m below meth c ls E hl hR => bX2_endFunction_e l w N Q E k1 x2 hk1 hR hl h)
-- GlulxStrings$Machine.putOut(I)V
abbrev rmX2_putOut : Room := { frames := 1, cells := 0, slots := 0, locals := 21 }
def fX2_putOut (N : Nat) (x1 : Int32) (Q : St → Prop) (σ : St) : Prop := (((σ.1 3 8) < 1000 → vp_in (σ.1 3 8) 1000 ∧ ∀ σ_3 : St, σ_3 = u1 σ 16 (σ.1 3 8).toNatClampNeg x1 → ∀ v_4 : Int32, v_4 = (σ_3.1 3 8) + 1 → ∀ σ_5 : St, σ_5 = u1 σ_3 3 8 v_4 → ∀ v_6 : Int32, v_6 = (σ_5.1 5 1) + 1 → ∀ σ_7 : St, σ_7 = u1 σ_5 5 1 v_6 → Q σ_7) ∧ (¬ (σ.1 3 8) < 1000 → fX2_fail N 9 (fun σ_8 => Q σ_8) σ))
set_option maxHeartbeats 4000000 in
set_option maxRecDepth 100000 in
theorem bX2_putOut_e {p : Program} {e : Env} {s : State} {m : MethodId} {args : Array Value} {below : List Frame} {meth : Method} {c : Code} (l : Launch) (w : Wd) (N : Nat) (Q : St → Prop) (E : Cx 223 w (X1 w) cX2_putOut 2 RX2 (.code yX2_putOut cX2_putOut 2 none) none p s m args meth c) (x1 : Int32) {σ : St} {H : Heap} {locs : List Loc} {ls : Array Slot} (hR : Rr 223 ev1 w σ s H locs) (hl : lv_has ls 2 [(0, .ref (w.2.1 3)), (1, .int x1)]) (h : fX2_putOut N x1 Q σ) : W p l e rmX2_putOut s m args below meth c H locs 0 0 (MQ below (va_Qv Q (Rp 223 ev1 w) (Aw 223 w)) args s 0 0 (Aw 223 w)) (F0 m 0 ls []) := by
  obtain ⟨hx, hb, hml, hown, hts, hr, hlk, hK, hI, hX⟩ := id E
  unfold fX2_putOut at h
  refine lv_aload_n (pc := 0) hx hb dX2_putOut_0 rfl (lv_at hl 0 rfl) ?_
  refine gf1_3_8 (pc := 1) hx hb hts hown hK hR mw86 dX2_putOut_1 ?_
  refine lv_sipush (pc := 4) (v := 1000) hx hb dX2_putOut_4 (by decide) ?_
  refine lv_icmp_lt (pc := 7) (tgt := 17) hx hb dX2_putOut_7 (by decide) (fun c_1 => ?_) (fun c_1 => ?_)
  · have h := h.1 c_1
    refine lv_aload_n (pc := 17) hx hb dX2_putOut_17 rfl (lv_at hl 0 rfl) ?_
    refine gf1_3_4 (pc := 18) hx hb hts hown hK hR mw87 dX2_putOut_18 ?_
    refine lv_aload_n (pc := 21) hx hb dX2_putOut_21 rfl (lv_at hl 0 rfl) ?_
    refine gf1_3_8 (pc := 22) hx hb hts hown hK hR mw86 dX2_putOut_22 ?_
    refine lv_iload_n (pc := 25) hx hb dX2_putOut_25 rfl (lv_at hl 1 rfl) ?_
    have g_2 := h.1
    have h := h.2
    refine q_iast (pc := 26) hx hb hK hI hR (k := 16) lt1_16 (fun f => (ar1_16 _ f _)) g_2 dX2_putOut_26 (fun H locs σ_3 eσ_3 hR => ?_)
    have h := h σ_3 eσ_3
    refine lv_aload_n (pc := 27) hx hb dX2_putOut_27 rfl (lv_at hl 0 rfl) ?_
    refine lv_dup (pc := 28) hx hb dX2_putOut_28 rfl ?_
    refine gf1_3_8 (pc := 29) hx hb hts hown hK hR mw86 dX2_putOut_29 ?_
    refine lv_iconst (pc := 32) (v := 1) hx hb dX2_putOut_32 (by decide) ?_
    refine lv_iadd (pc := 33) hx hb dX2_putOut_33 ?_
    refine lv_topi (pc := 34) (fun v_4 ev_4 => ?_)
    have h := h v_4 ev_4
    refine pf1_3_8 (pc := 34) hx hb hts hown hK hI hR mw86 dX2_putOut_34 (fun H locs σ_5 eσ_5 hR => ?_)
    have h := h σ_5 eσ_5
    refine lv_aload_n (pc := 37) hx hb dX2_putOut_37 rfl (lv_at hl 0 rfl) ?_
    refine gf1_3_2 (pc := 38) hx hb hts hown hK hR mw57 dX2_putOut_38 ?_
    refine lv_dup (pc := 41) hx hb dX2_putOut_41 rfl ?_
    refine gf1_5_1 (pc := 42) hx hb hts hown hK hR mw88 dX2_putOut_42 ?_
    refine lv_iconst (pc := 45) (v := 1) hx hb dX2_putOut_45 (by decide) ?_
    refine lv_iadd (pc := 46) hx hb dX2_putOut_46 ?_
    refine lv_topi (pc := 47) (fun v_6 ev_6 => ?_)
    have h := h v_6 ev_6
    refine pf1_5_1 (pc := 47) hx hb hts hown hK hI hR mw88 dX2_putOut_47 (fun H locs σ_7 eσ_7 hR => ?_)
    have h := h σ_7 eσ_7
    exact q_vret (pc := 50) E hR h dX2_putOut_50
  · have h := h.2 c_1
    refine lv_aload_n (pc := 10) hx hb dX2_putOut_10 rfl (lv_at hl 0 rfl) ?_
    refine lv_bipush (pc := 11) (v := 9) hx hb dX2_putOut_11 (by decide) ?_
    refine q_cv (pc := 13) hR (q_rV E (xp1 w) (As := [.int 9]) (rest := []) (cX2_fail_met l w hI N 9 _ σ h) ckX2_fail cvX2_fail mw46 ⟨rfl, rfl, Nat.le_of_ble_eq_true rfl, Nat.le_of_ble_eq_true rfl⟩ hR (rc1_3 w) rfl hl.1 rfl (Nat.le_of_ble_eq_true rfl) dX2_putOut_13) (fun σ_8 H locs h hR => ?_)
    exact q_vret (pc := 16) E hR h dX2_putOut_16
theorem cX2_putOut_met (l : Launch) (w : Wd) (hI : Ij 223 w) (N : Nat) (x1 : Int32) (Q : St → Prop) (σ : St) (h : fX2_putOut N x1 Q σ) : Met l yX2_putOut (.code yX2_putOut cX2_putOut 2 none :: Uw) rmX2_putOut (va_Pc [.ref (w.2.1 3), .int x1] (fun U => Rp 223 ev1 w σ U ∧ (X1 w) U)) (va_Qv Q (Rp 223 ev1 w) (Aw 223 w)) 0 0 (Aw 223 w) :=
  q_met (by decide) (Nat.le_of_ble_eq_true rfl) hI (fun p e s m below meth c ls E hl hR => bX2_putOut_e l w N Q E x1 hR hl h)
-- GlulxStrings$Machine.give(I)V
abbrev rmX2_give : Room := { frames := 3, cells := 0, slots := 0, locals := 72 }
def fX2_give (N : Nat) (x1 : Int32) (Q : St → Prop) (σ : St) : Prop := (((σ.1 3 11) = 0 → (((σ.1 3 9) = 2 → fX2_putOut N x1 (fun σ_13 => Q σ_13) σ) ∧ (¬ (σ.1 3 9) = 2 → (((σ.1 3 9) = 1 → vp_in 0 4 ∧ ∀ σ_7 : St, σ_7 = u1 σ 17 (0 : Int32).toNatClampNeg x1 → ∀ σ_8 : St, σ_8 = u1 σ_7 3 6 1 → fX2_callFunction N (σ_8.1 3 10) 255 (fun σ_9 => (((σ_9.1 3 11) = 0 → ∀ v_11 : Int32, v_11 = (σ_9.1 5 2) + 1 → ∀ σ_12 : St, σ_12 = u1 σ_9 5 2 v_11 → Q σ_12) ∧ (¬ (σ_9.1 3 11) = 0 → Q σ_9))) σ_8) ∧ (¬ (σ.1 3 9) = 1 → ∀ v_4 : Int32, v_4 = (σ.1 5 3) + 1 → ∀ σ_5 : St, σ_5 = u1 σ 5 3 v_4 → Q σ_5))))) ∧ (¬ (σ.1 3 11) = 0 → Q σ))
set_option maxHeartbeats 4000000 in
set_option maxRecDepth 100000 in
theorem bX2_give_e {p : Program} {e : Env} {s : State} {m : MethodId} {args : Array Value} {below : List Frame} {meth : Method} {c : Code} (l : Launch) (w : Wd) (N : Nat) (Q : St → Prop) (E : Cx 223 w (X1 w) cX2_give 2 RX2 (.code yX2_give cX2_give 2 none) none p s m args meth c) (x1 : Int32) {σ : St} {H : Heap} {locs : List Loc} {ls : Array Slot} (hR : Rr 223 ev1 w σ s H locs) (hl : lv_has ls 2 [(0, .ref (w.2.1 3)), (1, .int x1)]) (h : fX2_give N x1 Q σ) : W p l e rmX2_give s m args below meth c H locs 0 0 (MQ below (va_Qv Q (Rp 223 ev1 w) (Aw 223 w)) args s 0 0 (Aw 223 w)) (F0 m 0 ls []) := by
  obtain ⟨hx, hb, hml, hown, hts, hr, hlk, hK, hI, hX⟩ := id E
  unfold fX2_give at h
  refine lv_aload_n (pc := 0) hx hb dX2_give_0 rfl (lv_at hl 0 rfl) ?_
  refine gf1_3_11 (pc := 1) hx hb hts hown hK hR mw42 dX2_give_1 ?_
  refine lv_if_eq (pc := 4) (tgt := 8) hx hb dX2_give_4 (by decide) (fun c_1 => ?_) (fun c_1 => ?_)
  · have h := h.1 c_1
    refine lv_aload_n (pc := 8) hx hb dX2_give_8 rfl (lv_at hl 0 rfl) ?_
    refine gf1_3_9 (pc := 9) hx hb hts hown hK hR mw37 dX2_give_9 ?_
    refine lv_iconst (pc := 12) (v := 2) hx hb dX2_give_12 (by decide) ?_
    refine lv_icmp_ne (pc := 13) (tgt := 24) hx hb dX2_give_13 (by decide) (fun c_2 => ?_) (fun c_2 => ?_)
    · have h := h.2 c_2
      refine lv_aload_n (pc := 24) hx hb dX2_give_24 rfl (lv_at hl 0 rfl) ?_
      refine gf1_3_9 (pc := 25) hx hb hts hown hK hR mw37 dX2_give_25 ?_
      refine lv_iconst (pc := 28) (v := 1) hx hb dX2_give_28 (by decide) ?_
      refine lv_icmp_ne (pc := 29) (tgt := 78) hx hb dX2_give_29 (by decide) (fun c_3 => ?_) (fun c_3 => ?_)
      · have h := h.2 c_3
        refine lv_aload_n (pc := 78) hx hb dX2_give_78 rfl (lv_at hl 0 rfl) ?_
        refine gf1_3_2 (pc := 79) hx hb hts hown hK hR mw57 dX2_give_79 ?_
        refine lv_dup (pc := 82) hx hb dX2_give_82 rfl ?_
        refine gf1_5_3 (pc := 83) hx hb hts hown hK hR mw89 dX2_give_83 ?_
        refine lv_iconst (pc := 86) (v := 1) hx hb dX2_give_86 (by decide) ?_
        refine lv_iadd (pc := 87) hx hb dX2_give_87 ?_
        refine lv_topi (pc := 88) (fun v_4 ev_4 => ?_)
        have h := h v_4 ev_4
        refine pf1_5_3 (pc := 88) hx hb hts hown hK hI hR mw89 dX2_give_88 (fun H locs σ_5 eσ_5 hR => ?_)
        have h := h σ_5 eσ_5
        exact q_vret (pc := 91) E hR h dX2_give_91
      · have h := h.1 c_3
        refine lv_aload_n (pc := 32) hx hb dX2_give_32 rfl (lv_at hl 0 rfl) ?_
        refine gf1_3_5 (pc := 33) hx hb hts hown hK hR mw74 dX2_give_33 ?_
        refine lv_iconst (pc := 36) (v := 0) hx hb dX2_give_36 (by decide) ?_
        refine lv_iload_n (pc := 37) hx hb dX2_give_37 rfl (lv_at hl 1 rfl) ?_
        have g_6 := h.1
        have h := h.2
        refine q_iast (pc := 38) hx hb hK hI hR (k := 17) lt1_17 (fun f => (ar1_17 _ f _)) g_6 dX2_give_38 (fun H locs σ_7 eσ_7 hR => ?_)
        have h := h σ_7 eσ_7
        refine lv_aload_n (pc := 39) hx hb dX2_give_39 rfl (lv_at hl 0 rfl) ?_
        refine lv_iconst (pc := 40) (v := 1) hx hb dX2_give_40 (by decide) ?_
        refine pf1_3_6 (pc := 41) hx hb hts hown hK hI hR mw73 dX2_give_41 (fun H locs σ_8 eσ_8 hR => ?_)
        have h := h σ_8 eσ_8
        refine lv_aload_n (pc := 44) hx hb dX2_give_44 rfl (lv_at hl 0 rfl) ?_
        refine lv_aload_n (pc := 45) hx hb dX2_give_45 rfl (lv_at hl 0 rfl) ?_
        refine gf1_3_10 (pc := 46) hx hb hts hown hK hR mw38 dX2_give_46 ?_
        refine lv_sipush (pc := 49) (v := 255) hx hb dX2_give_49 (by decide) ?_
        refine q_cv (pc := 52) hR (q_rV E (xp1 w) (As := [.int (σ_8.1 3 10), .int 255]) (rest := []) (cX2_callFunction_met l w hI N (σ_8.1 3 10) 255 _ σ_8 h) ckX2_callFunction cvX2_callFunction mw82 ⟨rfl, rfl, Nat.le_of_ble_eq_true rfl, Nat.le_of_ble_eq_true rfl⟩ hR (rc1_3 w) rfl hl.1 rfl (Nat.le_of_ble_eq_true rfl) dX2_give_52) (fun σ_9 H locs h hR => ?_)
        refine lv_aload_n (pc := 55) hx hb dX2_give_55 rfl (lv_at hl 0 rfl) ?_
        refine gf1_3_11 (pc := 56) hx hb hts hown hK hR mw42 dX2_give_56 ?_
        refine lv_if_ne (pc := 59) (tgt := 91) hx hb dX2_give_59 (by decide) (fun c_10 => ?_) (fun c_10 => ?_)
        · have h := h.2 c_10
          exact q_vret (pc := 91) E hR h dX2_give_91
        · have h := h.1 c_10
          refine lv_aload_n (pc := 62) hx hb dX2_give_62 rfl (lv_at hl 0 rfl) ?_
          refine gf1_3_2 (pc := 63) hx hb hts hown hK hR mw57 dX2_give_63 ?_
          refine lv_dup (pc := 66) hx hb dX2_give_66 rfl ?_
          refine gf1_5_2 (pc := 67) hx hb hts hown hK hR mw90 dX2_give_67 ?_
          refine lv_iconst (pc := 70) (v := 1) hx hb dX2_give_70 (by decide) ?_
          refine lv_iadd (pc := 71) hx hb dX2_give_71 ?_
          refine lv_topi (pc := 72) (fun v_11 ev_11 => ?_)
          have h := h v_11 ev_11
          refine pf1_5_2 (pc := 72) hx hb hts hown hK hI hR mw90 dX2_give_72 (fun H locs σ_12 eσ_12 hR => ?_)
          have h := h σ_12 eσ_12
          refine lv_goto (pc := 75) (tgt := 91) hx hb dX2_give_75 (by decide) ?_
          exact q_vret (pc := 91) E hR h dX2_give_91
    · have h := h.1 c_2
      refine lv_aload_n (pc := 16) hx hb dX2_give_16 rfl (lv_at hl 0 rfl) ?_
      refine lv_iload_n (pc := 17) hx hb dX2_give_17 rfl (lv_at hl 1 rfl) ?_
      refine q_cv (pc := 18) hR (q_rV E (xp1 w) (As := [.int x1]) (rest := []) (cX2_putOut_met l w hI N x1 _ σ h) ckX2_putOut cvX2_putOut mw91 ⟨rfl, rfl, Nat.le_of_ble_eq_true rfl, Nat.le_of_ble_eq_true rfl⟩ hR (rc1_3 w) rfl hl.1 rfl (Nat.le_of_ble_eq_true rfl) dX2_give_18) (fun σ_13 H locs h hR => ?_)
      refine lv_goto (pc := 21) (tgt := 91) hx hb dX2_give_21 (by decide) ?_
      exact q_vret (pc := 91) E hR h dX2_give_91
  · have h := h.2 c_1
    exact q_vret (pc := 7) E hR h dX2_give_7
theorem cX2_give_met (l : Launch) (w : Wd) (hI : Ij 223 w) (N : Nat) (x1 : Int32) (Q : St → Prop) (σ : St) (h : fX2_give N x1 Q σ) : Met l yX2_give (.code yX2_give cX2_give 2 none :: Uw) rmX2_give (va_Pc [.ref (w.2.1 3), .int x1] (fun U => Rp 223 ev1 w σ U ∧ (X1 w) U)) (va_Qv Q (Rp 223 ev1 w) (Aw 223 w)) 0 0 (Aw 223 w) :=
  q_met (by decide) (Nat.le_of_ble_eq_true rfl) hI (fun p e s m below meth c ls E hl hR => bX2_give_e l w N Q E x1 hR hl h)
-- GlulxStrings$Memory.putByte(II)V
abbrev rmX3_putByte : Room := { frames := 0, cells := 0, slots := 0, locals := 0 }
def fX3_putByte (N : Nat) (x1 : Int32) (x2 : Int32) (Q : St → Prop) (σ : St) : Prop := ((x1 < 0 → Q σ) ∧ (¬ x1 < 0 → ((4096 ≤ x1 → Q σ) ∧ (¬ 4096 ≤ x1 → ∀ v_3 : Int32, v_3 = x2.toInt8.toInt32 → vp_in x1 4096 ∧ ∀ σ_5 : St, σ_5 = u1 σ 12 x1.toNatClampNeg (vp_nar .byte v_3) → Q σ_5))))
set_option maxHeartbeats 4000000 in
set_option maxRecDepth 100000 in
theorem bX3_putByte_e {p : Program} {e : Env} {s : State} {m : MethodId} {args : Array Value} {below : List Frame} {meth : Method} {c : Code} (l : Launch) (w : Wd) (N : Nat) (Q : St → Prop) (E : Cx 223 w (X1 w) cX3_putByte 3 RX3 (.code yX3_putByte cX3_putByte 3 none) none p s m args meth c) (x1 : Int32) (x2 : Int32) {σ : St} {H : Heap} {locs : List Loc} {ls : Array Slot} (hR : Rr 223 ev1 w σ s H locs) (hl : lv_has ls 3 [(0, .ref (w.2.1 1)), (1, .int x1), (2, .int x2)]) (h : fX3_putByte N x1 x2 Q σ) : W p l e rmX3_putByte s m args below meth c H locs 0 0 (MQ below (va_Qv Q (Rp 223 ev1 w) (Aw 223 w)) args s 0 0 (Aw 223 w)) (F0 m 0 ls []) := by
  obtain ⟨hx, hb, hml, hown, hts, hr, hlk, hK, hI, hX⟩ := id E
  unfold fX3_putByte at h
  refine lv_iload_n (pc := 0) hx hb dX3_putByte_0 rfl (lv_at hl 1 rfl) ?_
  refine lv_if_lt (pc := 1) (tgt := 19) hx hb dX3_putByte_1 (by decide) (fun c_1 => ?_) (fun c_1 => ?_)
  · have h := h.1 c_1
    exact q_vret (pc := 19) E hR h dX3_putByte_19
  · have h := h.2 c_1
    refine lv_iload_n (pc := 4) hx hb dX3_putByte_4 rfl (lv_at hl 1 rfl) ?_
    refine lv_sipush (pc := 5) (v := 4096) hx hb dX3_putByte_5 (by decide) ?_
    refine lv_icmp_ge (pc := 8) (tgt := 19) hx hb dX3_putByte_8 (by decide) (fun c_2 => ?_) (fun c_2 => ?_)
    · have h := h.1 c_2
      exact q_vret (pc := 19) E hR h dX3_putByte_19
    · have h := h.2 c_2
      refine lv_aload_n (pc := 11) hx hb dX3_putByte_11 rfl (lv_at hl 0 rfl) ?_
      refine gf1_1_0 (pc := 12) hx hb hts hown hK hR mw13 dX3_putByte_12 ?_
      refine lv_iload_n (pc := 15) hx hb dX3_putByte_15 rfl (lv_at hl 1 rfl) ?_
      refine lv_iload_n (pc := 16) hx hb dX3_putByte_16 rfl (lv_at hl 2 rfl) ?_
      refine lv_i2b (pc := 17) (v := x2.toInt8.toInt32) hx hb dX3_putByte_17 rfl ?_
      refine lv_topi (pc := 18) (fun v_3 ev_3 => ?_)
      have h := h v_3 ev_3
      have g_4 := h.1
      have h := h.2
      refine q_bast (pc := 18) hx hb hK hI hR (k := 12) lt1_12 (fun f => (ar1_12 _ f _)) g_4 dX3_putByte_18 (fun H locs σ_5 eσ_5 hR => ?_)
      have h := h σ_5 eσ_5
      exact q_vret (pc := 19) E hR h dX3_putByte_19
theorem cX3_putByte_met (l : Launch) (w : Wd) (hI : Ij 223 w) (N : Nat) (x1 : Int32) (x2 : Int32) (Q : St → Prop) (σ : St) (h : fX3_putByte N x1 x2 Q σ) : Met l yX3_putByte (.code yX3_putByte cX3_putByte 3 none :: Uw) rmX3_putByte (va_Pc [.ref (w.2.1 1), .int x1, .int x2] (fun U => Rp 223 ev1 w σ U ∧ (X1 w) U)) (va_Qv Q (Rp 223 ev1 w) (Aw 223 w)) 0 0 (Aw 223 w) :=
  q_met (by decide) (Nat.le_of_ble_eq_true rfl) hI (fun p e s m below meth c ls E hl hR => bX3_putByte_e l w N Q E x1 x2 hR hl h)
-- GlulxStrings$Machine.writeByte(II)V
abbrev rmX2_writeByte : Room := { frames := 1, cells := 0, slots := 0, locals := 22 }
def fX2_writeByte_j22 (N : Nat) (Q : St → Prop) (σ : St) : Prop := fX2_fail N 7 (fun σ_2 => Q σ_2) σ
set_option maxHeartbeats 4000000 in
set_option maxRecDepth 100000 in
theorem bX2_writeByte_22 {p : Program} {e : Env} {s : State} {m : MethodId} {args : Array Value} {below : List Frame} {meth : Method} {c : Code} (l : Launch) (w : Wd) (N : Nat) (Q : St → Prop) (E : Cx 223 w (X1 w) cX2_writeByte 3 RX2 (.code yX2_writeByte cX2_writeByte 3 none) none p s m args meth c) {σ : St} {H : Heap} {locs : List Loc} {ls : Array Slot} (hR : Rr 223 ev1 w σ s H locs) (hl : lv_has ls 3 [(0, .ref (w.2.1 3))]) (h : fX2_writeByte_j22 N Q σ) : W p l e rmX2_writeByte s m args below meth c H locs 0 0 (MQ below (va_Qv Q (Rp 223 ev1 w) (Aw 223 w)) args s 0 0 (Aw 223 w)) (F0 m 22 ls []) := by
  obtain ⟨hx, hb, hml, hown, hts, hr, hlk, hK, hI, hX⟩ := id E
  unfold fX2_writeByte_j22 at h
  refine lv_aload_n (pc := 22) hx hb dX2_writeByte_22 rfl (lv_at hl 0 rfl) ?_
  refine lv_bipush (pc := 23) (v := 7) hx hb dX2_writeByte_23 (by decide) ?_
  refine q_cv (pc := 25) hR (q_rV E (xp1 w) (As := [.int 7]) (rest := []) (cX2_fail_met l w hI N 7 _ σ h) ckX2_fail cvX2_fail mw46 ⟨rfl, rfl, Nat.le_of_ble_eq_true rfl, Nat.le_of_ble_eq_true rfl⟩ hR (rc1_3 w) rfl hl.1 rfl (Nat.le_of_ble_eq_true rfl) dX2_writeByte_25) (fun σ_2 H locs h hR => ?_)
  exact q_vret (pc := 28) E hR h dX2_writeByte_28
def fX2_writeByte (N : Nat) (x1 : Int32) (x2 : Int32) (Q : St → Prop) (σ : St) : Prop := ((x1 < (σ.1 1 1) → fX2_writeByte_j22 N Q σ) ∧ (¬ x1 < (σ.1 1 1) → fX3_has N x1 (fun r_3 σ_2 => ((r_3 = 0 → fX2_writeByte_j22 N Q σ_2) ∧ (¬ r_3 = 0 → fX3_putByte N x1 x2 (fun σ_5 => Q σ_5) σ_2))) σ))
set_option maxHeartbeats 4000000 in
set_option maxRecDepth 100000 in
theorem bX2_writeByte_e {p : Program} {e : Env} {s : State} {m : MethodId} {args : Array Value} {below : List Frame} {meth : Method} {c : Code} (l : Launch) (w : Wd) (N : Nat) (Q : St → Prop) (E : Cx 223 w (X1 w) cX2_writeByte 3 RX2 (.code yX2_writeByte cX2_writeByte 3 none) none p s m args meth c) (x1 : Int32) (x2 : Int32) {σ : St} {H : Heap} {locs : List Loc} {ls : Array Slot} (hR : Rr 223 ev1 w σ s H locs) (hl : lv_has ls 3 [(0, .ref (w.2.1 3)), (1, .int x1), (2, .int x2)]) (h : fX2_writeByte N x1 x2 Q σ) : W p l e rmX2_writeByte s m args below meth c H locs 0 0 (MQ below (va_Qv Q (Rp 223 ev1 w) (Aw 223 w)) args s 0 0 (Aw 223 w)) (F0 m 0 ls []) := by
  obtain ⟨hx, hb, hml, hown, hts, hr, hlk, hK, hI, hX⟩ := id E
  unfold fX2_writeByte at h
  refine lv_iload_n (pc := 0) hx hb dX2_writeByte_0 rfl (lv_at hl 1 rfl) ?_
  refine lv_aload_n (pc := 1) hx hb dX2_writeByte_1 rfl (lv_at hl 0 rfl) ?_
  refine gf1_3_0 (pc := 2) hx hb hts hown hK hR mw43 dX2_writeByte_2 ?_
  refine gf1_1_1 (pc := 5) hx hb hts hown hK hR mw92 dX2_writeByte_5 ?_
  refine lv_icmp_lt (pc := 8) (tgt := 22) hx hb dX2_writeByte_8 (by decide) (fun c_1 => ?_) (fun c_1 => ?_)
  · have h := h.1 c_1
    exact bX2_writeByte_22 l w N Q E hR (lv_sub hl [0] rfl) h
  · have h := h.2 c_1
    refine lv_aload_n (pc := 11) hx hb dX2_writeByte_11 rfl (lv_at hl 0 rfl) ?_
    refine gf1_3_0 (pc := 12) hx hb hts hown hK hR mw43 dX2_writeByte_12 ?_
    refine lv_iload_n (pc := 15) hx hb dX2_writeByte_15 rfl (lv_at hl 1 rfl) ?_
    refine q_ci (pc := 16) hR (q_rV E (xp1 w) (As := [.int x1]) (rest := []) (cX3_has_met l w hI N x1 _ σ h) ckX3_has cvX3_has mw44 ⟨rfl, rfl, Nat.le_of_ble_eq_true rfl, Nat.le_of_ble_eq_true rfl⟩ hR (rc1_1 w) rfl hl.1 rfl (Nat.le_of_ble_eq_true rfl) dX2_writeByte_16) (fun r_3 σ_2 H locs h hR => ?_)
    refine lv_if_ne (pc := 19) (tgt := 29) hx hb dX2_writeByte_19 (by decide) (fun c_4 => ?_) (fun c_4 => ?_)
    · have h := h.2 c_4
      refine lv_aload_n (pc := 29) hx hb dX2_writeByte_29 rfl (lv_at hl 0 rfl) ?_
      refine gf1_3_0 (pc := 30) hx hb hts hown hK hR mw43 dX2_writeByte_30 ?_
      refine lv_iload_n (pc := 33) hx hb dX2_writeByte_33 rfl (lv_at hl 1 rfl) ?_
      refine lv_iload_n (pc := 34) hx hb dX2_writeByte_34 rfl (lv_at hl 2 rfl) ?_
      refine q_cv (pc := 35) hR (q_rV E (xp1 w) (As := [.int x1, .int x2]) (rest := []) (cX3_putByte_met l w hI N x1 x2 _ σ_2 h) ckX3_putByte cvX3_putByte mw93 ⟨rfl, rfl, Nat.le_of_ble_eq_true rfl, Nat.le_of_ble_eq_true rfl⟩ hR (rc1_1 w) rfl hl.1 rfl (Nat.le_of_ble_eq_true rfl) dX2_writeByte_35) (fun σ_5 H locs h hR => ?_)
      exact q_vret (pc := 38) E hR h dX2_writeByte_38
    · have h := h.1 c_4
      exact bX2_writeByte_22 l w N Q E hR (lv_sub hl [0] rfl) h
theorem cX2_writeByte_met (l : Launch) (w : Wd) (hI : Ij 223 w) (N : Nat) (x1 : Int32) (x2 : Int32) (Q : St → Prop) (σ : St) (h : fX2_writeByte N x1 x2 Q σ) : Met l yX2_writeByte (.code yX2_writeByte cX2_writeByte 3 none :: Uw) rmX2_writeByte (va_Pc [.ref (w.2.1 3), .int x1, .int x2] (fun U => Rp 223 ev1 w σ U ∧ (X1 w) U)) (va_Qv Q (Rp 223 ev1 w) (Aw 223 w)) 0 0 (Aw 223 w) :=
  q_met (by decide) (Nat.le_of_ble_eq_true rfl) hI (fun p e s m below meth c ls E hl hR => bX2_writeByte_e l w N Q E x1 x2 hR hl h)
-- GlulxStrings$Machine.act(LGlulxStrings$Job;III)V
abbrev rmX2_act : Room := { frames := 4, cells := 0, slots := 0, locals := 93 }
def fX2_act_j145 (N : Nat) (Q : St → Prop) (σ : St) : Prop := ∀ σ_15 : St, σ_15 = u1 σ 3 7 0 → Q σ_15
set_option maxHeartbeats 4000000 in
set_option maxRecDepth 100000 in
theorem bX2_act_145 {p : Program} {e : Env} {s : State} {m : MethodId} {args : Array Value} {below : List Frame} {meth : Method} {c : Code} (l : Launch) (w : Wd) (N : Nat) (Q : St → Prop) (E : Cx 223 w (X1 w) cX2_act 5 RX2 (.code yX2_act cX2_act 5 none) none p s m args meth c) {σ : St} {H : Heap} {locs : List Loc} {ls : Array Slot} (hR : Rr 223 ev1 w σ s H locs) (hl : lv_has ls 5 [(0, .ref (w.2.1 3))]) (h : fX2_act_j145 N Q σ) : W p l e rmX2_act s m args below meth c H locs 0 0 (MQ below (va_Qv Q (Rp 223 ev1 w) (Aw 223 w)) args s 0 0 (Aw 223 w)) (F0 m 145 ls []) := by
  obtain ⟨hx, hb, hml, hown, hts, hr, hlk, hK, hI, hX⟩ := id E
  unfold fX2_act_j145 at h
  refine lv_aload_n (pc := 145) hx hb dX2_act_145 rfl (lv_at hl 0 rfl) ?_
  refine lv_iconst (pc := 146) (v := 0) hx hb dX2_act_146 (by decide) ?_
  refine pf1_3_7 (pc := 147) hx hb hts hown hK hI hR mw54 dX2_act_147 (fun H locs σ_15 eσ_15 hR => ?_)
  have h := h σ_15 eσ_15
  exact q_vret (pc := 150) E hR h dX2_act_150
def fX2_act (N : Nat) (k1 : Nat) (x2 : Int32) (x3 : Int32) (x4 : Int32) (Q : St → Prop) (σ : St) : Prop := ((x2 = 0 → fX2_endFunction N k1 x3 (fun σ_2 => Q σ_2) σ) ∧ (¬ x2 = 0 → ((x2 = 1 → fX2_give N x3 (fun σ_4 => Q σ_4) σ) ∧ (¬ x2 = 1 → ((x2 = 2 → fX2_beginString N x3 (fun σ_6 => Q σ_6) σ) ∧ (¬ x2 = 2 → ((x2 = 3 → fX2_begin N 4 x3 (fun σ_8 => Q σ_8) σ) ∧ (¬ x2 = 3 → ((x2 = 4 → fX2_setSystem N x3 x4 (fun σ_10 => Q σ_10) σ) ∧ (¬ x2 = 4 → ((x2 = 5 → fX8_tell N x3 (fun σ_12 => Q σ_12) σ) ∧ (¬ x2 = 5 → ((x2 = 15 → fX2_writeByte N x3 x4 (fun σ_14 => Q σ_14) σ) ∧ (¬ x2 = 15 → fX2_act_j145 N Q σ))))))))))))))
set_option maxHeartbeats 4000000 in
set_option maxRecDepth 100000 in
theorem bX2_act_e {p : Program} {e : Env} {s : State} {m : MethodId} {args : Array Value} {below : List Frame} {meth : Method} {c : Code} (l : Launch) (w : Wd) (N : Nat) (Q : St → Prop) (E : Cx 223 w (X1 w) cX2_act 5 RX2 (.code yX2_act cX2_act 5 none) none p s m args meth c) (k1 : Nat) (x2 : Int32) (x3 : Int32) (x4 : Int32) (hk1 : jobK k1) {σ : St} {H : Heap} {locs : List Loc} {ls : Array Slot} (hR : Rr 223 ev1 w σ s H locs) (hl : lv_has ls 5 [(0, .ref (w.2.1 3)), (1, .ref (w.2.1 k1)), (2, .int x2), (3, .int x3), (4, .int x4)]) (h : fX2_act N k1 x2 x3 x4 Q σ) : W p l e rmX2_act s m args below meth c H locs 0 0 (MQ below (va_Qv Q (Rp 223 ev1 w) (Aw 223 w)) args s 0 0 (Aw 223 w)) (F0 m 0 ls []) := by
  obtain ⟨hx, hb, hml, hown, hts, hr, hlk, hK, hI, hX⟩ := id E
  unfold fX2_act at h
  refine lv_iload_n (pc := 0) hx hb dX2_act_0 rfl (lv_at hl 2 rfl) ?_
  by_cases c_1 : x2 = 0
  · refine lv_tableIn (pc := 1) (tgt := 80) (off := 79) hx hb dX2_act_1 (by rw [c_1]; decide) (by rw [c_1]; decide) (by rw [c_1]; rfl) (by decide) ?_
    have h := h.1 c_1
    refine lv_aload_n (pc := 80) hx hb dX2_act_80 rfl (lv_at hl 0 rfl) ?_
    refine lv_aload_n (pc := 81) hx hb dX2_act_81 rfl (lv_at hl 1 rfl) ?_
    refine lv_iload_n (pc := 82) hx hb dX2_act_82 rfl (lv_at hl 3 rfl) ?_
    refine q_cv (pc := 83) hR (q_rV E (xp1 w) (As := [.ref (w.2.1 k1), .int x3]) (rest := []) (cX2_endFunction_met l w hI N k1 x3 hk1 _ σ h) ckX2_endFunction cvX2_endFunction mw94 ⟨rfl, rfl, Nat.le_of_ble_eq_true rfl, Nat.le_of_ble_eq_true rfl⟩ hR (rc1_3 w) rfl hl.1 rfl (Nat.le_of_ble_eq_true rfl) dX2_act_83) (fun σ_2 H locs h hR => ?_)
    refine lv_goto (pc := 86) (tgt := 150) hx hb dX2_act_86 (by decide) ?_
    exact q_vret (pc := 150) E hR h dX2_act_150
  replace h := h.2 c_1
  by_cases c_3 : x2 = 1
  · refine lv_tableIn (pc := 1) (tgt := 89) (off := 88) hx hb dX2_act_1 (by rw [c_3]; decide) (by rw [c_3]; decide) (by rw [c_3]; rfl) (by decide) ?_
    have h := h.1 c_3
    refine lv_aload_n (pc := 89) hx hb dX2_act_89 rfl (lv_at hl 0 rfl) ?_
    refine lv_iload_n (pc := 90) hx hb dX2_act_90 rfl (lv_at hl 3 rfl) ?_
    refine q_cv (pc := 91) hR (q_rV E (xp1 w) (As := [.int x3]) (rest := []) (cX2_give_met l w hI N x3 _ σ h) ckX2_give cvX2_give mw95 ⟨rfl, rfl, Nat.le_of_ble_eq_true rfl, Nat.le_of_ble_eq_true rfl⟩ hR (rc1_3 w) rfl hl.1 rfl (Nat.le_of_ble_eq_true rfl) dX2_act_91) (fun σ_4 H locs h hR => ?_)
    refine lv_goto (pc := 94) (tgt := 150) hx hb dX2_act_94 (by decide) ?_
    exact q_vret (pc := 150) E hR h dX2_act_150
  replace h := h.2 c_3
  by_cases c_5 : x2 = 2
  · refine lv_tableIn (pc := 1) (tgt := 97) (off := 96) hx hb dX2_act_1 (by rw [c_5]; decide) (by rw [c_5]; decide) (by rw [c_5]; rfl) (by decide) ?_
    have h := h.1 c_5
    refine lv_aload_n (pc := 97) hx hb dX2_act_97 rfl (lv_at hl 0 rfl) ?_
    refine lv_iload_n (pc := 98) hx hb dX2_act_98 rfl (lv_at hl 3 rfl) ?_
    refine q_cv (pc := 99) hR (q_rV E (xp1 w) (As := [.int x3]) (rest := []) (cX2_beginString_met l w hI N x3 _ σ h) ckX2_beginString cvX2_beginString mw96 ⟨rfl, rfl, Nat.le_of_ble_eq_true rfl, Nat.le_of_ble_eq_true rfl⟩ hR (rc1_3 w) rfl hl.1 rfl (Nat.le_of_ble_eq_true rfl) dX2_act_99) (fun σ_6 H locs h hR => ?_)
    refine lv_goto (pc := 102) (tgt := 150) hx hb dX2_act_102 (by decide) ?_
    exact q_vret (pc := 150) E hR h dX2_act_150
  replace h := h.2 c_5
  by_cases c_7 : x2 = 3
  · refine lv_tableIn (pc := 1) (tgt := 105) (off := 104) hx hb dX2_act_1 (by rw [c_7]; decide) (by rw [c_7]; decide) (by rw [c_7]; rfl) (by decide) ?_
    have h := h.1 c_7
    refine lv_aload_n (pc := 105) hx hb dX2_act_105 rfl (lv_at hl 0 rfl) ?_
    refine lv_iconst (pc := 106) (v := 4) hx hb dX2_act_106 (by decide) ?_
    refine lv_iload_n (pc := 107) hx hb dX2_act_107 rfl (lv_at hl 3 rfl) ?_
    refine q_cv (pc := 108) hR (q_rV E (xp1 w) (As := [.int 4, .int x3]) (rest := []) (cX2_begin_met l w hI N 4 x3 _ σ h) ckX2_begin cvX2_begin mw61 ⟨rfl, rfl, Nat.le_of_ble_eq_true rfl, Nat.le_of_ble_eq_true rfl⟩ hR (rc1_3 w) rfl hl.1 rfl (Nat.le_of_ble_eq_true rfl) dX2_act_108) (fun σ_8 H locs h hR => ?_)
    refine lv_goto (pc := 111) (tgt := 150) hx hb dX2_act_111 (by decide) ?_
    exact q_vret (pc := 150) E hR h dX2_act_150
  replace h := h.2 c_7
  by_cases c_9 : x2 = 4
  · refine lv_tableIn (pc := 1) (tgt := 114) (off := 113) hx hb dX2_act_1 (by rw [c_9]; decide) (by rw [c_9]; decide) (by rw [c_9]; rfl) (by decide) ?_
    have h := h.1 c_9
    refine lv_aload_n (pc := 114) hx hb dX2_act_114 rfl (lv_at hl 0 rfl) ?_
    refine lv_iload_n (pc := 115) hx hb dX2_act_115 rfl (lv_at hl 3 rfl) ?_
    refine lv_iload (pc := 116) hx hb dX2_act_116 (lv_at hl 4 rfl) ?_
    refine q_cv (pc := 118) hR (q_rV E (xp1 w) (As := [.int x3, .int x4]) (rest := []) (cX2_setSystem_met l w hI N x3 x4 _ σ h) ckX2_setSystem cvX2_setSystem mw97 ⟨rfl, rfl, Nat.le_of_ble_eq_true rfl, Nat.le_of_ble_eq_true rfl⟩ hR (rc1_3 w) rfl hl.1 rfl (Nat.le_of_ble_eq_true rfl) dX2_act_118) (fun σ_10 H locs h hR => ?_)
    refine lv_goto (pc := 121) (tgt := 150) hx hb dX2_act_121 (by decide) ?_
    exact q_vret (pc := 150) E hR h dX2_act_150
  replace h := h.2 c_9
  by_cases c_11 : x2 = 5
  · refine lv_tableIn (pc := 1) (tgt := 124) (off := 123) hx hb dX2_act_1 (by rw [c_11]; decide) (by rw [c_11]; decide) (by rw [c_11]; rfl) (by decide) ?_
    have h := h.1 c_11
    refine lv_aload_n (pc := 124) hx hb dX2_act_124 rfl (lv_at hl 0 rfl) ?_
    refine gf1_3_1 (pc := 125) hx hb hts hown hK hR mw83 dX2_act_125 ?_
    refine lv_iload_n (pc := 128) hx hb dX2_act_128 rfl (lv_at hl 3 rfl) ?_
    refine q_cv (pc := 129) hR (q_rV E (xp1 w) (As := [.int x3]) (rest := []) (cX8_tell_met l w hI N x3 _ σ h) ckX8_tell cvX8_tell mw98 ⟨rfl, rfl, Nat.le_of_ble_eq_true rfl, Nat.le_of_ble_eq_true rfl⟩ hR (rc1_2 w) rfl hl.1 rfl (Nat.le_of_ble_eq_true rfl) dX2_act_129) (fun σ_12 H locs h hR => ?_)
    refine lv_goto (pc := 132) (tgt := 150) hx hb dX2_act_132 (by decide) ?_
    exact q_vret (pc := 150) E hR h dX2_act_150
  replace h := h.2 c_11
  by_cases c_13 : x2 = 15
  · refine lv_tableIn (pc := 1) (tgt := 135) (off := 134) hx hb dX2_act_1 (by rw [c_13]; decide) (by rw [c_13]; decide) (by rw [c_13]; rfl) (by decide) ?_
    have h := h.1 c_13
    refine lv_aload_n (pc := 135) hx hb dX2_act_135 rfl (lv_at hl 0 rfl) ?_
    refine lv_iload_n (pc := 136) hx hb dX2_act_136 rfl (lv_at hl 3 rfl) ?_
    refine lv_iload (pc := 137) hx hb dX2_act_137 (lv_at hl 4 rfl) ?_
    refine q_cv (pc := 139) hR (q_rV E (xp1 w) (As := [.int x3, .int x4]) (rest := []) (cX2_writeByte_met l w hI N x3 x4 _ σ h) ckX2_writeByte cvX2_writeByte mw99 ⟨rfl, rfl, Nat.le_of_ble_eq_true rfl, Nat.le_of_ble_eq_true rfl⟩ hR (rc1_3 w) rfl hl.1 rfl (Nat.le_of_ble_eq_true rfl) dX2_act_139) (fun σ_14 H locs h hR => ?_)
    refine lv_goto (pc := 142) (tgt := 150) hx hb dX2_act_142 (by decide) ?_
    exact q_vret (pc := 150) E hR h dX2_act_150
  replace h := h.2 c_13
  have hD : W p l e rmX2_act s m args below meth c H locs 0 0 (MQ below (va_Qv Q (Rp 223 ev1 w) (Aw 223 w)) args s 0 0 (Aw 223 w)) (F0 m 145 ls []) := by
    exact bX2_act_145 l w N Q E hR (lv_sub hl [0] rfl) h
  by_cases c_15 : x2 = 6
  · exact lv_tableIn (pc := 1) (tgt := 145) (off := 144) hx hb dX2_act_1 (by rw [c_15]; decide) (by rw [c_15]; decide) (by rw [c_15]; rfl) (by decide) hD
  by_cases c_16 : x2 = 7
  · exact lv_tableIn (pc := 1) (tgt := 145) (off := 144) hx hb dX2_act_1 (by rw [c_16]; decide) (by rw [c_16]; decide) (by rw [c_16]; rfl) (by decide) hD
  by_cases c_17 : x2 = 8
  · exact lv_tableIn (pc := 1) (tgt := 145) (off := 144) hx hb dX2_act_1 (by rw [c_17]; decide) (by rw [c_17]; decide) (by rw [c_17]; rfl) (by decide) hD
  by_cases c_18 : x2 = 9
  · exact lv_tableIn (pc := 1) (tgt := 145) (off := 144) hx hb dX2_act_1 (by rw [c_18]; decide) (by rw [c_18]; decide) (by rw [c_18]; rfl) (by decide) hD
  by_cases c_19 : x2 = 10
  · exact lv_tableIn (pc := 1) (tgt := 145) (off := 144) hx hb dX2_act_1 (by rw [c_19]; decide) (by rw [c_19]; decide) (by rw [c_19]; rfl) (by decide) hD
  by_cases c_20 : x2 = 11
  · exact lv_tableIn (pc := 1) (tgt := 145) (off := 144) hx hb dX2_act_1 (by rw [c_20]; decide) (by rw [c_20]; decide) (by rw [c_20]; rfl) (by decide) hD
  by_cases c_21 : x2 = 12
  · exact lv_tableIn (pc := 1) (tgt := 145) (off := 144) hx hb dX2_act_1 (by rw [c_21]; decide) (by rw [c_21]; decide) (by rw [c_21]; rfl) (by decide) hD
  by_cases c_22 : x2 = 13
  · exact lv_tableIn (pc := 1) (tgt := 145) (off := 144) hx hb dX2_act_1 (by rw [c_22]; decide) (by rw [c_22]; decide) (by rw [c_22]; rfl) (by decide) hD
  by_cases c_23 : x2 = 14
  · exact lv_tableIn (pc := 1) (tgt := 145) (off := 144) hx hb dX2_act_1 (by rw [c_23]; decide) (by rw [c_23]; decide) (by rw [c_23]; rfl) (by decide) hD
  have nc_1 := ne_i (n := 0) (by decide) c_1
  have nc_3 := ne_i (n := 1) (by decide) c_3
  have nc_5 := ne_i (n := 2) (by decide) c_5
  have nc_7 := ne_i (n := 3) (by decide) c_7
  have nc_9 := ne_i (n := 4) (by decide) c_9
  have nc_11 := ne_i (n := 5) (by decide) c_11
  have nc_13 := ne_i (n := 15) (by decide) c_13
  have nc_15 := ne_i (n := 6) (by decide) c_15
  have nc_16 := ne_i (n := 7) (by decide) c_16
  have nc_17 := ne_i (n := 8) (by decide) c_17
  have nc_18 := ne_i (n := 9) (by decide) c_18
  have nc_19 := ne_i (n := 10) (by decide) c_19
  have nc_20 := ne_i (n := 11) (by decide) c_20
  have nc_21 := ne_i (n := 12) (by decide) c_21
  have nc_22 := ne_i (n := 13) (by decide) c_22
  have nc_23 := ne_i (n := 14) (by decide) c_23
  exact lv_tableOut (pc := 1) (tgt := 145) hx hb dX2_act_1 (by omega) (by decide) hD
theorem cX2_act_met (l : Launch) (w : Wd) (hI : Ij 223 w) (N : Nat) (k1 : Nat) (x2 : Int32) (x3 : Int32) (x4 : Int32) (hk1 : jobK k1) (Q : St → Prop) (σ : St) (h : fX2_act N k1 x2 x3 x4 Q σ) : Met l yX2_act (.code yX2_act cX2_act 5 none :: Uw) rmX2_act (va_Pc [.ref (w.2.1 3), .ref (w.2.1 k1), .int x2, .int x3, .int x4] (fun U => Rp 223 ev1 w σ U ∧ (X1 w) U)) (va_Qv Q (Rp 223 ev1 w) (Aw 223 w)) 0 0 (Aw 223 w) :=
  q_met (by decide) (Nat.le_of_ble_eq_true rfl) hI (fun p e s m below meth c ls E hl hR => bX2_act_e l w N Q E k1 x2 x3 x4 hk1 hR hl h)
