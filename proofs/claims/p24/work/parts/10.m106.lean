-- GlulxStrings.print(II)I
abbrev rmX11_print : Room := { frames := 7, cells := 0, slots := 0, locals := 168 }
def fX11_print (N : Nat) (x1 : Int32) (x2 : Int32) (Q : Int32 → St → Prop) (σ : St) : Prop := fX11_isStepCount N x2 (fun r_2 σ_1 => ((r_2 = 0 → Q (-2) σ_1) ∧ (¬ r_2 = 0 → (((σ_1.1 3 7) ≤ 0 → fX2_beginString N x1 (fun σ_5 => fX2_run N x2 (fun r_7 σ_6 => Q r_7 σ_6) σ_5) σ_1) ∧ (¬ (σ_1.1 3 7) ≤ 0 → Q (-3) σ_1))))) σ
set_option maxHeartbeats 4000000 in
set_option maxRecDepth 100000 in
theorem bX11_print_e {p : Program} {e : Env} {s : State} {m : MethodId} {args : Array Value} {below : List Frame} {meth : Method} {c : Code} (l : Launch) (w : Wd) (N : Nat) (Q : Int32 → St → Prop) (E : Cx 223 w (X1 w) cX11_print 3 RX11 (.code yX11_print cX11_print 3 (some .int)) (some .int) p s m args meth c) (x1 : Int32) (x2 : Int32) {σ : St} {H : Heap} {locs : List Loc} {ls : Array Slot} (hR : Rr 223 ev1 w σ s H locs) (hl : lv_has ls 3 [(0, .ref (w.2.1 0)), (1, .int x1), (2, .int x2)]) (h : fX11_print N x1 x2 Q σ) : W p l e rmX11_print s m args below meth c H locs 0 0 (MQ below (va_Qi Q (Rp 223 ev1 w) (Aw 223 w)) args s 0 0 (Aw 223 w)) (F0 m 0 ls []) := by
  obtain ⟨hx, hb, hml, hown, hts, hr, hlk, hK, hI, hX⟩ := id E
  unfold fX11_print at h
  refine lv_iload_n (pc := 0) hx hb dX11_print_0 rfl (lv_at hl 2 rfl) ?_
  refine q_ci (pc := 1) hR (q_rS E (xp1 w) (As := [.int x2]) (rest := []) (cX11_isStepCount_met l w hI N x2 _ σ h) ckX11_isStepCount csX11_isStepCount mw127 ⟨rfl, rfl, Nat.le_of_ble_eq_true rfl, Nat.le_of_ble_eq_true rfl⟩ hR rfl hl.1 rfl (Nat.le_of_ble_eq_true rfl) dX11_print_1) (fun r_2 σ_1 H locs h hR => ?_)
  refine lv_if_ne (pc := 4) (tgt := 10) hx hb dX11_print_4 (by decide) (fun c_3 => ?_) (fun c_3 => ?_)
  · have h := h.2 c_3
    refine lv_aload_n (pc := 10) hx hb dX11_print_10 rfl (lv_at hl 0 rfl) ?_
    refine gf1_0_2 (pc := 11) hx hb hts hown hK hR mw32 dX11_print_11 ?_
    refine gf1_3_7 (pc := 14) hx hb hts hown hK hR mw33 dX11_print_14 ?_
    refine lv_if_le (pc := 17) (tgt := 23) hx hb dX11_print_17 (by decide) (fun c_4 => ?_) (fun c_4 => ?_)
    · have h := h.1 c_4
      refine lv_aload_n (pc := 23) hx hb dX11_print_23 rfl (lv_at hl 0 rfl) ?_
      refine gf1_0_2 (pc := 24) hx hb hts hown hK hR mw32 dX11_print_24 ?_
      refine lv_iload_n (pc := 27) hx hb dX11_print_27 rfl (lv_at hl 1 rfl) ?_
      refine q_cv (pc := 28) hR (q_rV E (xp1 w) (As := [.int x1]) (rest := []) (cX2_beginString_met l w hI N x1 _ σ_1 h) ckX2_beginString cvX2_beginString mw128 ⟨rfl, rfl, Nat.le_of_ble_eq_true rfl, Nat.le_of_ble_eq_true rfl⟩ hR (rc1_3 w) rfl hl.1 rfl (Nat.le_of_ble_eq_true rfl) dX11_print_28) (fun σ_5 H locs h hR => ?_)
      refine lv_aload_n (pc := 31) hx hb dX11_print_31 rfl (lv_at hl 0 rfl) ?_
      refine gf1_0_2 (pc := 32) hx hb hts hown hK hR mw32 dX11_print_32 ?_
      refine lv_iload_n (pc := 35) hx hb dX11_print_35 rfl (lv_at hl 2 rfl) ?_
      refine q_ci (pc := 36) hR (q_rV E (xp1 w) (As := [.int x2]) (rest := []) (cX2_run_met l w hI N x2 _ σ_5 h) ckX2_run cvX2_run mw129 ⟨rfl, rfl, Nat.le_of_ble_eq_true rfl, Nat.le_of_ble_eq_true rfl⟩ hR (rc1_3 w) rfl hl.1 rfl (Nat.le_of_ble_eq_true rfl) dX11_print_36) (fun r_7 σ_6 H locs h hR => ?_)
      exact q_iret (pc := 39) E hR h dX11_print_39
    · have h := h.2 c_4
      refine lv_bipush (pc := 20) (v := (-3)) hx hb dX11_print_20 (by decide) ?_
      exact q_iret (pc := 22) E hR h dX11_print_22
  · have h := h.1 c_3
    refine lv_bipush (pc := 7) (v := (-2)) hx hb dX11_print_7 (by decide) ?_
    exact q_iret (pc := 9) E hR h dX11_print_9
theorem cX11_print_met (l : Launch) (w : Wd) (hI : Ij 223 w) (N : Nat) (x1 : Int32) (x2 : Int32) (Q : Int32 → St → Prop) (σ : St) (h : fX11_print N x1 x2 Q σ) : Met l yX11_print (.code yX11_print cX11_print 3 (some .int) :: Uw) rmX11_print (va_Pc [.ref (w.2.1 0), .int x1, .int x2] (fun U => Rp 223 ev1 w σ U ∧ (X1 w) U)) (va_Qi Q (Rp 223 ev1 w) (Aw 223 w)) 0 0 (Aw 223 w) :=
  q_met (by decide) (Nat.le_of_ble_eq_true rfl) hI (fun p e s m below meth c ls E hl hR => bX11_print_e l w N Q E x1 x2 hR hl h)
-- GlulxStrings.number(II)I
abbrev rmX11_number : Room := { frames := 7, cells := 0, slots := 0, locals := 168 }
def fX11_number (N : Nat) (x1 : Int32) (x2 : Int32) (Q : Int32 → St → Prop) (σ : St) : Prop := fX11_isStepCount N x2 (fun r_2 σ_1 => ((r_2 = 0 → Q (-2) σ_1) ∧ (¬ r_2 = 0 → (((σ_1.1 3 7) ≤ 0 → fX2_begin N 4 x1 (fun σ_5 => fX2_run N x2 (fun r_7 σ_6 => Q r_7 σ_6) σ_5) σ_1) ∧ (¬ (σ_1.1 3 7) ≤ 0 → Q (-3) σ_1))))) σ
set_option maxHeartbeats 4000000 in
set_option maxRecDepth 100000 in
theorem bX11_number_e {p : Program} {e : Env} {s : State} {m : MethodId} {args : Array Value} {below : List Frame} {meth : Method} {c : Code} (l : Launch) (w : Wd) (N : Nat) (Q : Int32 → St → Prop) (E : Cx 223 w (X1 w) cX11_number 3 RX11 (.code yX11_number cX11_number 3 (some .int)) (some .int) p s m args meth c) (x1 : Int32) (x2 : Int32) {σ : St} {H : Heap} {locs : List Loc} {ls : Array Slot} (hR : Rr 223 ev1 w σ s H locs) (hl : lv_has ls 3 [(0, .ref (w.2.1 0)), (1, .int x1), (2, .int x2)]) (h : fX11_number N x1 x2 Q σ) : W p l e rmX11_number s m args below meth c H locs 0 0 (MQ below (va_Qi Q (Rp 223 ev1 w) (Aw 223 w)) args s 0 0 (Aw 223 w)) (F0 m 0 ls []) := by
  obtain ⟨hx, hb, hml, hown, hts, hr, hlk, hK, hI, hX⟩ := id E
  unfold fX11_number at h
  refine lv_iload_n (pc := 0) hx hb dX11_number_0 rfl (lv_at hl 2 rfl) ?_
  refine q_ci (pc := 1) hR (q_rS E (xp1 w) (As := [.int x2]) (rest := []) (cX11_isStepCount_met l w hI N x2 _ σ h) ckX11_isStepCount csX11_isStepCount mw127 ⟨rfl, rfl, Nat.le_of_ble_eq_true rfl, Nat.le_of_ble_eq_true rfl⟩ hR rfl hl.1 rfl (Nat.le_of_ble_eq_true rfl) dX11_number_1) (fun r_2 σ_1 H locs h hR => ?_)
  refine lv_if_ne (pc := 4) (tgt := 10) hx hb dX11_number_4 (by decide) (fun c_3 => ?_) (fun c_3 => ?_)
  · have h := h.2 c_3
    refine lv_aload_n (pc := 10) hx hb dX11_number_10 rfl (lv_at hl 0 rfl) ?_
    refine gf1_0_2 (pc := 11) hx hb hts hown hK hR mw32 dX11_number_11 ?_
    refine gf1_3_7 (pc := 14) hx hb hts hown hK hR mw33 dX11_number_14 ?_
    refine lv_if_le (pc := 17) (tgt := 23) hx hb dX11_number_17 (by decide) (fun c_4 => ?_) (fun c_4 => ?_)
    · have h := h.1 c_4
      refine lv_aload_n (pc := 23) hx hb dX11_number_23 rfl (lv_at hl 0 rfl) ?_
      refine gf1_0_2 (pc := 24) hx hb hts hown hK hR mw32 dX11_number_24 ?_
      refine lv_iconst (pc := 27) (v := 4) hx hb dX11_number_27 (by decide) ?_
      refine lv_iload_n (pc := 28) hx hb dX11_number_28 rfl (lv_at hl 1 rfl) ?_
      refine q_cv (pc := 29) hR (q_rV E (xp1 w) (As := [.int 4, .int x1]) (rest := []) (cX2_begin_met l w hI N 4 x1 _ σ_1 h) ckX2_begin cvX2_begin mw130 ⟨rfl, rfl, Nat.le_of_ble_eq_true rfl, Nat.le_of_ble_eq_true rfl⟩ hR (rc1_3 w) rfl hl.1 rfl (Nat.le_of_ble_eq_true rfl) dX11_number_29) (fun σ_5 H locs h hR => ?_)
      refine lv_aload_n (pc := 32) hx hb dX11_number_32 rfl (lv_at hl 0 rfl) ?_
      refine gf1_0_2 (pc := 33) hx hb hts hown hK hR mw32 dX11_number_33 ?_
      refine lv_iload_n (pc := 36) hx hb dX11_number_36 rfl (lv_at hl 2 rfl) ?_
      refine q_ci (pc := 37) hR (q_rV E (xp1 w) (As := [.int x2]) (rest := []) (cX2_run_met l w hI N x2 _ σ_5 h) ckX2_run cvX2_run mw129 ⟨rfl, rfl, Nat.le_of_ble_eq_true rfl, Nat.le_of_ble_eq_true rfl⟩ hR (rc1_3 w) rfl hl.1 rfl (Nat.le_of_ble_eq_true rfl) dX11_number_37) (fun r_7 σ_6 H locs h hR => ?_)
      exact q_iret (pc := 40) E hR h dX11_number_40
    · have h := h.2 c_4
      refine lv_bipush (pc := 20) (v := (-3)) hx hb dX11_number_20 (by decide) ?_
      exact q_iret (pc := 22) E hR h dX11_number_22
  · have h := h.1 c_3
    refine lv_bipush (pc := 7) (v := (-2)) hx hb dX11_number_7 (by decide) ?_
    exact q_iret (pc := 9) E hR h dX11_number_9
theorem cX11_number_met (l : Launch) (w : Wd) (hI : Ij 223 w) (N : Nat) (x1 : Int32) (x2 : Int32) (Q : Int32 → St → Prop) (σ : St) (h : fX11_number N x1 x2 Q σ) : Met l yX11_number (.code yX11_number cX11_number 3 (some .int) :: Uw) rmX11_number (va_Pc [.ref (w.2.1 0), .int x1, .int x2] (fun U => Rp 223 ev1 w σ U ∧ (X1 w) U)) (va_Qi Q (Rp 223 ev1 w) (Aw 223 w)) 0 0 (Aw 223 w) :=
  q_met (by decide) (Nat.le_of_ble_eq_true rfl) hI (fun p e s m below meth c ls E hl hR => bX11_number_e l w N Q E x1 x2 hR hl h)
-- GlulxStrings$Machine.setArguments([II)V
abbrev rmX2_setArguments : Room := { frames := 0, cells := 0, slots := 0, locals := 0 }
def fX2_setArguments_l7 (N : Nat) (k1 : Nat) (x2 : Int32) (Q : St → Prop) (r7 : Int32 → St → Prop) (x3 : Int32) (σ : St) : Prop := ((x2 ≤ x3 → Q σ) ∧ (¬ x2 ≤ x3 → ((120 ≤ x3 → Q σ) ∧ (¬ 120 ≤ x3 → ((4 ≤ x3 → Q σ) ∧ (¬ 4 ≤ x3 → vp_in x3 120 ∧ ∀ v_6 : Int32, v_6 = σ.1 k1 x3.toNatClampNeg → vp_in x3 4 ∧ ∀ σ_8 : St, σ_8 = u1 σ 17 x3.toNatClampNeg v_6 → ∀ v_9 : Int32, v_9 = (σ_8.1 3 6) + 1 → ∀ σ_10 : St, σ_10 = u1 σ_8 3 6 v_9 → ∀ v_11 : Int32, v_11 = x3 + 1 → r7 v_11 σ_10))))))
set_option maxHeartbeats 4000000 in
set_option maxRecDepth 100000 in
theorem bX2_setArguments_7 {p : Program} {e : Env} {s : State} {m : MethodId} {args : Array Value} {below : List Frame} {meth : Method} {c : Code} (l : Launch) (w : Wd) (N : Nat) (Q : St → Prop) (E : Cx 223 w (X1 w) cX2_setArguments 4 RX2 (.code yX2_setArguments cX2_setArguments 4 none) none p s m args meth c) (k1 : Nat) (x2 : Int32) (hk1 : r120 k1) : ∀ (n : Nat) (x3 : Int32) (σ : St) (H : Heap) (locs : List Loc) (ls : Array Slot), Rr 223 ev1 w σ s H locs → lv_has ls 4 [(0, .ref (w.2.1 3)), (1, .ref (w.2.1 k1)), (2, .int x2), (3, .int x3)] → lo1 (fX2_setArguments_l7 N k1 x2 Q) n x3 σ → W p l e rmX2_setArguments s m args below meth c H locs 0 0 (MQ below (va_Qv Q (Rp 223 ev1 w) (Aw 223 w)) args s 0 0 (Aw 223 w)) (F0 m 7 ls []) := by
  obtain ⟨hx, hb, hml, hown, hts, hr, hlk, hK, hI, hX⟩ := id E
  intro n
  induction n with
  | zero => intro x3 σ H locs ls hR hl h; exact h.elim
  | succ n ih =>
    intro x3 σ H locs ls hR hl h
    have h : fX2_setArguments_l7 N k1 x2 Q (lo1 (fX2_setArguments_l7 N k1 x2 Q) n) x3 σ := h
    unfold fX2_setArguments_l7 at h
    refine lv_iload_n (pc := 7) hx hb dX2_setArguments_7 rfl (lv_at hl 3 rfl) ?_
    refine lv_iload_n (pc := 8) hx hb dX2_setArguments_8 rfl (lv_at hl 2 rfl) ?_
    refine lv_icmp_ge (pc := 9) (tgt := 48) hx hb dX2_setArguments_9 (by decide) (fun c_2 => ?_) (fun c_2 => ?_)
    · have h := h.1 c_2
      exact q_vret (pc := 48) E hR h dX2_setArguments_48
    · have h := h.2 c_2
      refine lv_iload_n (pc := 12) hx hb dX2_setArguments_12 rfl (lv_at hl 3 rfl) ?_
      refine lv_aload_n (pc := 13) hx hb dX2_setArguments_13 rfl (lv_at hl 1 rfl) ?_
      refine va_alen (pc := 14) (v := 120) hx hb hK hR.1 k1 0 (rg_ate (r120_lt hk1) (ev1_r120 hk1)) rfl (show Int32.ofNat 120 = 120 from by decide) dX2_setArguments_14 ?_
      refine lv_icmp_ge (pc := 15) (tgt := 48) hx hb dX2_setArguments_15 (by decide) (fun c_3 => ?_) (fun c_3 => ?_)
      · have h := h.1 c_3
        exact q_vret (pc := 48) E hR h dX2_setArguments_48
      · have h := h.2 c_3
        refine lv_iload_n (pc := 18) hx hb dX2_setArguments_18 rfl (lv_at hl 3 rfl) ?_
        refine lv_iconst (pc := 19) (v := 4) hx hb dX2_setArguments_19 (by decide) ?_
        refine lv_icmp_ge (pc := 20) (tgt := 48) hx hb dX2_setArguments_20 (by decide) (fun c_4 => ?_) (fun c_4 => ?_)
        · have h := h.1 c_4
          exact q_vret (pc := 48) E hR h dX2_setArguments_48
        · have h := h.2 c_4
          refine lv_aload_n (pc := 23) hx hb dX2_setArguments_23 rfl (lv_at hl 0 rfl) ?_
          refine gf1_3_5 (pc := 24) hx hb hts hown hK hR mw74 dX2_setArguments_24 ?_
          refine lv_iload_n (pc := 27) hx hb dX2_setArguments_27 rfl (lv_at hl 3 rfl) ?_
          refine lv_aload_n (pc := 28) hx hb dX2_setArguments_28 rfl (lv_at hl 1 rfl) ?_
          refine lv_iload_n (pc := 29) hx hb dX2_setArguments_29 rfl (lv_at hl 3 rfl) ?_
          have g_5 := h.1
          have h := h.2
          refine q_iald (pc := 30) hx hb hK hR (k := k1) (r120_lt hk1) (ev1_r120 hk1) g_5 dX2_setArguments_30 ?_
          refine lv_topi (pc := 31) (fun v_6 ev_6 => ?_)
          have h := h v_6 ev_6
          have g_7 := h.1
          have h := h.2
          refine q_iast (pc := 31) hx hb hK hI hR (k := 17) lt1_17 (fun f => (ar1_17 _ f _)) g_7 dX2_setArguments_31 (fun H locs σ_8 eσ_8 hR => ?_)
          have h := h σ_8 eσ_8
          refine lv_aload_n (pc := 32) hx hb dX2_setArguments_32 rfl (lv_at hl 0 rfl) ?_
          refine lv_dup (pc := 33) hx hb dX2_setArguments_33 rfl ?_
          refine gf1_3_6 (pc := 34) hx hb hts hown hK hR mw73 dX2_setArguments_34 ?_
          refine lv_iconst (pc := 37) (v := 1) hx hb dX2_setArguments_37 (by decide) ?_
          refine lv_iadd (pc := 38) hx hb dX2_setArguments_38 ?_
          refine lv_topi (pc := 39) (fun v_9 ev_9 => ?_)
          have h := h v_9 ev_9
          refine pf1_3_6 (pc := 39) hx hb hts hown hK hI hR mw73 dX2_setArguments_39 (fun H locs σ_10 eσ_10 hR => ?_)
          have h := h σ_10 eσ_10
          obtain ⟨v_11, ev_11⟩ : ∃ z : Int32, z = x3 + 1 := ⟨_, rfl⟩
          have h := h v_11 ev_11
          refine lv_iinc (pc := 42) (v := v_11) (lv' := [(3, .int v_11), (0, .ref (w.2.1 3)), (1, .ref (w.2.1 k1)), (2, .int x2)]) hx hb dX2_setArguments_42 hl (k := 3) rfl (by rw [ev_11]; rfl) (by decide) rfl (fun ls hl => ?_)
          refine lv_goto (pc := 45) (tgt := 7) hx hb dX2_setArguments_45 (by decide) ?_
          exact ih v_11 σ_10 _ _ _ hR (lv_sub hl [1, 2, 3, 0] rfl) h
def fX2_setArguments (N : Nat) (k1 : Nat) (x2 : Int32) (Q : St → Prop) (σ : St) : Prop := ∀ σ_1 : St, σ_1 = u1 σ 3 6 0 → lo1 (fX2_setArguments_l7 N k1 x2 Q) N 0 σ_1
set_option maxHeartbeats 4000000 in
set_option maxRecDepth 100000 in
theorem bX2_setArguments_e {p : Program} {e : Env} {s : State} {m : MethodId} {args : Array Value} {below : List Frame} {meth : Method} {c : Code} (l : Launch) (w : Wd) (N : Nat) (Q : St → Prop) (E : Cx 223 w (X1 w) cX2_setArguments 4 RX2 (.code yX2_setArguments cX2_setArguments 4 none) none p s m args meth c) (k1 : Nat) (x2 : Int32) (hk1 : r120 k1) {σ : St} {H : Heap} {locs : List Loc} {ls : Array Slot} (hR : Rr 223 ev1 w σ s H locs) (hl : lv_has ls 4 [(0, .ref (w.2.1 3)), (1, .ref (w.2.1 k1)), (2, .int x2)]) (h : fX2_setArguments N k1 x2 Q σ) : W p l e rmX2_setArguments s m args below meth c H locs 0 0 (MQ below (va_Qv Q (Rp 223 ev1 w) (Aw 223 w)) args s 0 0 (Aw 223 w)) (F0 m 0 ls []) := by
  obtain ⟨hx, hb, hml, hown, hts, hr, hlk, hK, hI, hX⟩ := id E
  unfold fX2_setArguments at h
  refine lv_aload_n (pc := 0) hx hb dX2_setArguments_0 rfl (lv_at hl 0 rfl) ?_
  refine lv_iconst (pc := 1) (v := 0) hx hb dX2_setArguments_1 (by decide) ?_
  refine pf1_3_6 (pc := 2) hx hb hts hown hK hI hR mw73 dX2_setArguments_2 (fun H locs σ_1 eσ_1 hR => ?_)
  have h := h σ_1 eσ_1
  refine lv_iconst (pc := 5) (v := 0) hx hb dX2_setArguments_5 (by decide) ?_
  refine lv_istore_n (pc := 6) (lv' := [(3, .int 0), (0, .ref (w.2.1 3)), (1, .ref (w.2.1 k1)), (2, .int x2)]) hx hb dX2_setArguments_6 rfl hl (by decide) rfl (fun ls hl => ?_)
  exact bX2_setArguments_7 l w N Q E k1 x2 hk1 N 0 σ_1 _ _ _ hR (lv_sub hl [1, 2, 3, 0] rfl) h
theorem cX2_setArguments_met (l : Launch) (w : Wd) (hI : Ij 223 w) (N : Nat) (k1 : Nat) (x2 : Int32) (hk1 : r120 k1) (Q : St → Prop) (σ : St) (h : fX2_setArguments N k1 x2 Q σ) : Met l yX2_setArguments (.code yX2_setArguments cX2_setArguments 4 none :: Uw) rmX2_setArguments (va_Pc [.ref (w.2.1 3), .ref (w.2.1 k1), .int x2] (fun U => Rp 223 ev1 w σ U ∧ (X1 w) U)) (va_Qv Q (Rp 223 ev1 w) (Aw 223 w)) 0 0 (Aw 223 w) :=
  q_met (by decide) (Nat.le_of_ble_eq_true rfl) hI (fun p e s m below meth c ls E hl hR => bX2_setArguments_e l w N Q E k1 x2 hk1 hR hl h)
-- GlulxStrings.call(II)I
abbrev rmX11_call : Room := { frames := 7, cells := 0, slots := 0, locals := 168 }
def fX11_call (N : Nat) (x1 : Int32) (x2 : Int32) (Q : Int32 → St → Prop) (σ : St) : Prop := fX11_isStepCount N x2 (fun r_2 σ_1 => ((r_2 = 0 → Q (-2) σ_1) ∧ (¬ r_2 = 0 → (((σ_1.1 0 7) ≤ 4 → (((σ_1.1 3 7) ≤ 0 → fX2_setArguments N 11 (σ_1.1 0 7) (fun σ_6 => ∀ σ_7 : St, σ_7 = u1 σ_6 0 7 0 → fX2_callFunction N x1 255 (fun σ_8 => fX2_run N x2 (fun r_10 σ_9 => Q r_10 σ_9) σ_8) σ_7) σ_1) ∧ (¬ (σ_1.1 3 7) ≤ 0 → Q (-3) σ_1))) ∧ (¬ (σ_1.1 0 7) ≤ 4 → Q (-2) σ_1))))) σ
set_option maxHeartbeats 4000000 in
set_option maxRecDepth 100000 in
theorem bX11_call_e {p : Program} {e : Env} {s : State} {m : MethodId} {args : Array Value} {below : List Frame} {meth : Method} {c : Code} (l : Launch) (w : Wd) (N : Nat) (Q : Int32 → St → Prop) (E : Cx 223 w (X1 w) cX11_call 3 RX11 (.code yX11_call cX11_call 3 (some .int)) (some .int) p s m args meth c) (x1 : Int32) (x2 : Int32) {σ : St} {H : Heap} {locs : List Loc} {ls : Array Slot} (hR : Rr 223 ev1 w σ s H locs) (hl : lv_has ls 3 [(0, .ref (w.2.1 0)), (1, .int x1), (2, .int x2)]) (h : fX11_call N x1 x2 Q σ) : W p l e rmX11_call s m args below meth c H locs 0 0 (MQ below (va_Qi Q (Rp 223 ev1 w) (Aw 223 w)) args s 0 0 (Aw 223 w)) (F0 m 0 ls []) := by
  obtain ⟨hx, hb, hml, hown, hts, hr, hlk, hK, hI, hX⟩ := id E
  unfold fX11_call at h
  refine lv_iload_n (pc := 0) hx hb dX11_call_0 rfl (lv_at hl 2 rfl) ?_
  refine q_ci (pc := 1) hR (q_rS E (xp1 w) (As := [.int x2]) (rest := []) (cX11_isStepCount_met l w hI N x2 _ σ h) ckX11_isStepCount csX11_isStepCount mw127 ⟨rfl, rfl, Nat.le_of_ble_eq_true rfl, Nat.le_of_ble_eq_true rfl⟩ hR rfl hl.1 rfl (Nat.le_of_ble_eq_true rfl) dX11_call_1) (fun r_2 σ_1 H locs h hR => ?_)
  refine lv_if_eq (pc := 4) (tgt := 15) hx hb dX11_call_4 (by decide) (fun c_3 => ?_) (fun c_3 => ?_)
  · have h := h.1 c_3
    refine lv_bipush (pc := 15) (v := (-2)) hx hb dX11_call_15 (by decide) ?_
    exact q_iret (pc := 17) E hR h dX11_call_17
  · have h := h.2 c_3
    refine lv_aload_n (pc := 7) hx hb dX11_call_7 rfl (lv_at hl 0 rfl) ?_
    refine gf1_0_7 (pc := 8) hx hb hts hown hK hR mw131 dX11_call_8 ?_
    refine lv_iconst (pc := 11) (v := 4) hx hb dX11_call_11 (by decide) ?_
    refine lv_icmp_le (pc := 12) (tgt := 18) hx hb dX11_call_12 (by decide) (fun c_4 => ?_) (fun c_4 => ?_)
    · have h := h.1 c_4
      refine lv_aload_n (pc := 18) hx hb dX11_call_18 rfl (lv_at hl 0 rfl) ?_
      refine gf1_0_2 (pc := 19) hx hb hts hown hK hR mw32 dX11_call_19 ?_
      refine gf1_3_7 (pc := 22) hx hb hts hown hK hR mw33 dX11_call_22 ?_
      refine lv_if_le (pc := 25) (tgt := 31) hx hb dX11_call_25 (by decide) (fun c_5 => ?_) (fun c_5 => ?_)
      · have h := h.1 c_5
        refine lv_aload_n (pc := 31) hx hb dX11_call_31 rfl (lv_at hl 0 rfl) ?_
        refine gf1_0_2 (pc := 32) hx hb hts hown hK hR mw32 dX11_call_32 ?_
        refine lv_aload_n (pc := 35) hx hb dX11_call_35 rfl (lv_at hl 0 rfl) ?_
        refine gf1_0_5 (pc := 36) hx hb hts hown hK hR mw132 dX11_call_36 ?_
        refine lv_aload_n (pc := 39) hx hb dX11_call_39 rfl (lv_at hl 0 rfl) ?_
        refine gf1_0_7 (pc := 40) hx hb hts hown hK hR mw131 dX11_call_40 ?_
        refine q_cv (pc := 43) hR (q_rV E (xp1 w) (As := [.ref (w.2.1 11), .int (σ_1.1 0 7)]) (rest := []) (cX2_setArguments_met l w hI N 11 (σ_1.1 0 7) r120_11 _ σ_1 h) ckX2_setArguments cvX2_setArguments mw133 ⟨rfl, rfl, Nat.le_of_ble_eq_true rfl, Nat.le_of_ble_eq_true rfl⟩ hR (rc1_3 w) rfl hl.1 rfl (Nat.le_of_ble_eq_true rfl) dX11_call_43) (fun σ_6 H locs h hR => ?_)
        refine lv_aload_n (pc := 46) hx hb dX11_call_46 rfl (lv_at hl 0 rfl) ?_
        refine lv_iconst (pc := 47) (v := 0) hx hb dX11_call_47 (by decide) ?_
        refine pf1_0_7 (pc := 48) hx hb hts hown hK hI hR mw131 dX11_call_48 (fun H locs σ_7 eσ_7 hR => ?_)
        have h := h σ_7 eσ_7
        refine lv_aload_n (pc := 51) hx hb dX11_call_51 rfl (lv_at hl 0 rfl) ?_
        refine gf1_0_2 (pc := 52) hx hb hts hown hK hR mw32 dX11_call_52 ?_
        refine lv_iload_n (pc := 55) hx hb dX11_call_55 rfl (lv_at hl 1 rfl) ?_
        refine lv_sipush (pc := 56) (v := 255) hx hb dX11_call_56 (by decide) ?_
        refine q_cv (pc := 59) hR (q_rV E (xp1 w) (As := [.int x1, .int 255]) (rest := []) (cX2_callFunction_met l w hI N x1 255 _ σ_7 h) ckX2_callFunction cvX2_callFunction mw134 ⟨rfl, rfl, Nat.le_of_ble_eq_true rfl, Nat.le_of_ble_eq_true rfl⟩ hR (rc1_3 w) rfl hl.1 rfl (Nat.le_of_ble_eq_true rfl) dX11_call_59) (fun σ_8 H locs h hR => ?_)
        refine lv_aload_n (pc := 62) hx hb dX11_call_62 rfl (lv_at hl 0 rfl) ?_
        refine gf1_0_2 (pc := 63) hx hb hts hown hK hR mw32 dX11_call_63 ?_
        refine lv_iload_n (pc := 66) hx hb dX11_call_66 rfl (lv_at hl 2 rfl) ?_
        refine q_ci (pc := 67) hR (q_rV E (xp1 w) (As := [.int x2]) (rest := []) (cX2_run_met l w hI N x2 _ σ_8 h) ckX2_run cvX2_run mw129 ⟨rfl, rfl, Nat.le_of_ble_eq_true rfl, Nat.le_of_ble_eq_true rfl⟩ hR (rc1_3 w) rfl hl.1 rfl (Nat.le_of_ble_eq_true rfl) dX11_call_67) (fun r_10 σ_9 H locs h hR => ?_)
        exact q_iret (pc := 70) E hR h dX11_call_70
      · have h := h.2 c_5
        refine lv_bipush (pc := 28) (v := (-3)) hx hb dX11_call_28 (by decide) ?_
        exact q_iret (pc := 30) E hR h dX11_call_30
    · have h := h.2 c_4
      refine lv_bipush (pc := 15) (v := (-2)) hx hb dX11_call_15 (by decide) ?_
      exact q_iret (pc := 17) E hR h dX11_call_17
theorem cX11_call_met (l : Launch) (w : Wd) (hI : Ij 223 w) (N : Nat) (x1 : Int32) (x2 : Int32) (Q : Int32 → St → Prop) (σ : St) (h : fX11_call N x1 x2 Q σ) : Met l yX11_call (.code yX11_call cX11_call 3 (some .int) :: Uw) rmX11_call (va_Pc [.ref (w.2.1 0), .int x1, .int x2] (fun U => Rp 223 ev1 w σ U ∧ (X1 w) U)) (va_Qi Q (Rp 223 ev1 w) (Aw 223 w)) 0 0 (Aw 223 w) :=
  q_met (by decide) (Nat.le_of_ble_eq_true rfl) hI (fun p e s m below meth c ls E hl hR => bX11_call_e l w N Q E x1 x2 hR hl h)
-- GlulxStrings.resume(I)I
abbrev rmX11_resume : Room := { frames := 7, cells := 0, slots := 0, locals := 168 }
def fX11_resume (N : Nat) (x1 : Int32) (Q : Int32 → St → Prop) (σ : St) : Prop := fX11_isStepCount N x1 (fun r_2 σ_1 => ((r_2 = 0 → Q (-2) σ_1) ∧ (¬ r_2 = 0 → (((σ_1.1 3 7) = 0 → Q (-3) σ_1) ∧ (¬ (σ_1.1 3 7) = 0 → fX2_run N x1 (fun r_6 σ_5 => Q r_6 σ_5) σ_1))))) σ
set_option maxHeartbeats 4000000 in
set_option maxRecDepth 100000 in
theorem bX11_resume_e {p : Program} {e : Env} {s : State} {m : MethodId} {args : Array Value} {below : List Frame} {meth : Method} {c : Code} (l : Launch) (w : Wd) (N : Nat) (Q : Int32 → St → Prop) (E : Cx 223 w (X1 w) cX11_resume 2 RX11 (.code yX11_resume cX11_resume 2 (some .int)) (some .int) p s m args meth c) (x1 : Int32) {σ : St} {H : Heap} {locs : List Loc} {ls : Array Slot} (hR : Rr 223 ev1 w σ s H locs) (hl : lv_has ls 2 [(0, .ref (w.2.1 0)), (1, .int x1)]) (h : fX11_resume N x1 Q σ) : W p l e rmX11_resume s m args below meth c H locs 0 0 (MQ below (va_Qi Q (Rp 223 ev1 w) (Aw 223 w)) args s 0 0 (Aw 223 w)) (F0 m 0 ls []) := by
  obtain ⟨hx, hb, hml, hown, hts, hr, hlk, hK, hI, hX⟩ := id E
  unfold fX11_resume at h
  refine lv_iload_n (pc := 0) hx hb dX11_resume_0 rfl (lv_at hl 1 rfl) ?_
  refine q_ci (pc := 1) hR (q_rS E (xp1 w) (As := [.int x1]) (rest := []) (cX11_isStepCount_met l w hI N x1 _ σ h) ckX11_isStepCount csX11_isStepCount mw127 ⟨rfl, rfl, Nat.le_of_ble_eq_true rfl, Nat.le_of_ble_eq_true rfl⟩ hR rfl hl.1 rfl (Nat.le_of_ble_eq_true rfl) dX11_resume_1) (fun r_2 σ_1 H locs h hR => ?_)
  refine lv_if_ne (pc := 4) (tgt := 10) hx hb dX11_resume_4 (by decide) (fun c_3 => ?_) (fun c_3 => ?_)
  · have h := h.2 c_3
    refine lv_aload_n (pc := 10) hx hb dX11_resume_10 rfl (lv_at hl 0 rfl) ?_
    refine gf1_0_2 (pc := 11) hx hb hts hown hK hR mw32 dX11_resume_11 ?_
    refine gf1_3_7 (pc := 14) hx hb hts hown hK hR mw33 dX11_resume_14 ?_
    refine lv_if_ne (pc := 17) (tgt := 23) hx hb dX11_resume_17 (by decide) (fun c_4 => ?_) (fun c_4 => ?_)
    · have h := h.2 c_4
      refine lv_aload_n (pc := 23) hx hb dX11_resume_23 rfl (lv_at hl 0 rfl) ?_
      refine gf1_0_2 (pc := 24) hx hb hts hown hK hR mw32 dX11_resume_24 ?_
      refine lv_iload_n (pc := 27) hx hb dX11_resume_27 rfl (lv_at hl 1 rfl) ?_
      refine q_ci (pc := 28) hR (q_rV E (xp1 w) (As := [.int x1]) (rest := []) (cX2_run_met l w hI N x1 _ σ_1 h) ckX2_run cvX2_run mw129 ⟨rfl, rfl, Nat.le_of_ble_eq_true rfl, Nat.le_of_ble_eq_true rfl⟩ hR (rc1_3 w) rfl hl.1 rfl (Nat.le_of_ble_eq_true rfl) dX11_resume_28) (fun r_6 σ_5 H locs h hR => ?_)
      exact q_iret (pc := 31) E hR h dX11_resume_31
    · have h := h.1 c_4
      refine lv_bipush (pc := 20) (v := (-3)) hx hb dX11_resume_20 (by decide) ?_
      exact q_iret (pc := 22) E hR h dX11_resume_22
  · have h := h.1 c_3
    refine lv_bipush (pc := 7) (v := (-2)) hx hb dX11_resume_7 (by decide) ?_
    exact q_iret (pc := 9) E hR h dX11_resume_9
theorem cX11_resume_met (l : Launch) (w : Wd) (hI : Ij 223 w) (N : Nat) (x1 : Int32) (Q : Int32 → St → Prop) (σ : St) (h : fX11_resume N x1 Q σ) : Met l yX11_resume (.code yX11_resume cX11_resume 2 (some .int) :: Uw) rmX11_resume (va_Pc [.ref (w.2.1 0), .int x1] (fun U => Rp 223 ev1 w σ U ∧ (X1 w) U)) (va_Qi Q (Rp 223 ev1 w) (Aw 223 w)) 0 0 (Aw 223 w) :=
  q_met (by decide) (Nat.le_of_ble_eq_true rfl) hI (fun p e s m below meth c ls E hl hR => bX11_resume_e l w N Q E x1 hR hl h)
-- GlulxStrings.stop()I
abbrev rmX11_stop : Room := { frames := 0, cells := 0, slots := 0, locals := 0 }
def fX11_stop (N : Nat) (Q : Int32 → St → Prop) (σ : St) : Prop := ∀ v_1 : Int32, v_1 = σ.1 3 7 → ∀ σ_2 : St, σ_2 = u1 σ 3 7 0 → Q v_1 σ_2
set_option maxHeartbeats 4000000 in
set_option maxRecDepth 100000 in
theorem bX11_stop_e {p : Program} {e : Env} {s : State} {m : MethodId} {args : Array Value} {below : List Frame} {meth : Method} {c : Code} (l : Launch) (w : Wd) (N : Nat) (Q : Int32 → St → Prop) (E : Cx 223 w (X1 w) cX11_stop 2 RX11 (.code yX11_stop cX11_stop 2 (some .int)) (some .int) p s m args meth c) {σ : St} {H : Heap} {locs : List Loc} {ls : Array Slot} (hR : Rr 223 ev1 w σ s H locs) (hl : lv_has ls 2 [(0, .ref (w.2.1 0))]) (h : fX11_stop N Q σ) : W p l e rmX11_stop s m args below meth c H locs 0 0 (MQ below (va_Qi Q (Rp 223 ev1 w) (Aw 223 w)) args s 0 0 (Aw 223 w)) (F0 m 0 ls []) := by
  obtain ⟨hx, hb, hml, hown, hts, hr, hlk, hK, hI, hX⟩ := id E
  unfold fX11_stop at h
  refine lv_aload_n (pc := 0) hx hb dX11_stop_0 rfl (lv_at hl 0 rfl) ?_
  refine gf1_0_2 (pc := 1) hx hb hts hown hK hR mw32 dX11_stop_1 ?_
  refine gf1_3_7 (pc := 4) hx hb hts hown hK hR mw33 dX11_stop_4 ?_
  refine lv_topi (pc := 7) (fun v_1 ev_1 => ?_)
  have h := h v_1 ev_1
  refine lv_istore_n (pc := 7) (lv' := [(1, .int v_1), (0, .ref (w.2.1 0))]) hx hb dX11_stop_7 rfl hl (by decide) rfl (fun ls hl => ?_)
  refine lv_aload_n (pc := 8) hx hb dX11_stop_8 rfl (lv_at hl 1 rfl) ?_
  refine gf1_0_2 (pc := 9) hx hb hts hown hK hR mw32 dX11_stop_9 ?_
  refine lv_iconst (pc := 12) (v := 0) hx hb dX11_stop_12 (by decide) ?_
  refine pf1_3_7 (pc := 13) hx hb hts hown hK hI hR mw33 dX11_stop_13 (fun H locs σ_2 eσ_2 hR => ?_)
  have h := h σ_2 eσ_2
  refine lv_iload_n (pc := 16) hx hb dX11_stop_16 rfl (lv_at hl 0 rfl) ?_
  exact q_iret (pc := 17) E hR h dX11_stop_17
theorem cX11_stop_met (l : Launch) (w : Wd) (hI : Ij 223 w) (N : Nat) (Q : Int32 → St → Prop) (σ : St) (h : fX11_stop N Q σ) : Met l yX11_stop (.code yX11_stop cX11_stop 2 (some .int) :: Uw) rmX11_stop (va_Pc [.ref (w.2.1 0)] (fun U => Rp 223 ev1 w σ U ∧ (X1 w) U)) (va_Qi Q (Rp 223 ev1 w) (Aw 223 w)) 0 0 (Aw 223 w) :=
  q_met (by decide) (Nat.le_of_ble_eq_true rfl) hI (fun p e s m below meth c ls E hl hR => bX11_stop_e l w N Q E hR hl h)
-- GlulxStrings.jobs()I
abbrev rmX11_jobs : Room := { frames := 0, cells := 0, slots := 0, locals := 0 }
def fX11_jobs (N : Nat) (Q : Int32 → St → Prop) (σ : St) : Prop := Q (σ.1 3 7) σ
set_option maxHeartbeats 4000000 in
set_option maxRecDepth 100000 in
theorem bX11_jobs_e {p : Program} {e : Env} {s : State} {m : MethodId} {args : Array Value} {below : List Frame} {meth : Method} {c : Code} (l : Launch) (w : Wd) (N : Nat) (Q : Int32 → St → Prop) (E : Cx 223 w (X1 w) cX11_jobs 1 RX11 (.code yX11_jobs cX11_jobs 1 (some .int)) (some .int) p s m args meth c) {σ : St} {H : Heap} {locs : List Loc} {ls : Array Slot} (hR : Rr 223 ev1 w σ s H locs) (hl : lv_has ls 1 [(0, .ref (w.2.1 0))]) (h : fX11_jobs N Q σ) : W p l e rmX11_jobs s m args below meth c H locs 0 0 (MQ below (va_Qi Q (Rp 223 ev1 w) (Aw 223 w)) args s 0 0 (Aw 223 w)) (F0 m 0 ls []) := by
  obtain ⟨hx, hb, hml, hown, hts, hr, hlk, hK, hI, hX⟩ := id E
  unfold fX11_jobs at h
  refine lv_aload_n (pc := 0) hx hb dX11_jobs_0 rfl (lv_at hl 0 rfl) ?_
  refine gf1_0_2 (pc := 1) hx hb hts hown hK hR mw32 dX11_jobs_1 ?_
  refine gf1_3_7 (pc := 4) hx hb hts hown hK hR mw33 dX11_jobs_4 ?_
  exact q_iret (pc := 7) E hR h dX11_jobs_7
theorem cX11_jobs_met (l : Launch) (w : Wd) (hI : Ij 223 w) (N : Nat) (Q : Int32 → St → Prop) (σ : St) (h : fX11_jobs N Q σ) : Met l yX11_jobs (.code yX11_jobs cX11_jobs 1 (some .int) :: Uw) rmX11_jobs (va_Pc [.ref (w.2.1 0)] (fun U => Rp 223 ev1 w σ U ∧ (X1 w) U)) (va_Qi Q (Rp 223 ev1 w) (Aw 223 w)) 0 0 (Aw 223 w) :=
  q_met (by decide) (Nat.le_of_ble_eq_true rfl) hI (fun p e s m below meth c ls E hl hR => bX11_jobs_e l w N Q E hR hl h)
-- GlulxStrings$Job.tellNode()I
abbrev rmX1_tellNode : Room := { frames := 0, cells := 0, slots := 0, locals := 0 }
def fX1_tellNode (N : Nat) (k0 : Nat) (Q : Int32 → St → Prop) (σ : St) : Prop := (((σ.1 k0 1) = 3 → (((σ.1 k0 5) = 0 → Q (σ.1 k0 6) σ) ∧ (¬ (σ.1 k0 5) = 0 → Q (-1) σ))) ∧ (¬ (σ.1 k0 1) = 3 → Q 0 σ))
set_option maxHeartbeats 4000000 in
set_option maxRecDepth 100000 in
theorem bX1_tellNode_e {p : Program} {e : Env} {s : State} {m : MethodId} {args : Array Value} {below : List Frame} {meth : Method} {c : Code} (l : Launch) (w : Wd) (N : Nat) (Q : Int32 → St → Prop) (E : Cx 223 w (X1 w) cX1_tellNode 1 RX1 (.code yX1_tellNode cX1_tellNode 1 (some .int)) (some .int) p s m args meth c) (k0 : Nat) (hk0 : jobK k0) {σ : St} {H : Heap} {locs : List Loc} {ls : Array Slot} (hR : Rr 223 ev1 w σ s H locs) (hl : lv_has ls 1 [(0, .ref (w.2.1 k0))]) (h : fX1_tellNode N k0 Q σ) : W p l e rmX1_tellNode s m args below meth c H locs 0 0 (MQ below (va_Qi Q (Rp 223 ev1 w) (Aw 223 w)) args s 0 0 (Aw 223 w)) (F0 m 0 ls []) := by
  obtain ⟨hx, hb, hml, hown, hts, hr, hlk, hK, hI, hX⟩ := id E
  unfold fX1_tellNode at h
  refine lv_aload_n (pc := 0) hx hb dX1_tellNode_0 rfl (lv_at hl 0 rfl) ?_
  refine gfj_1 (pc := 1) hk0 hx hb hts hown hK hR mw47 dX1_tellNode_1 ?_
  refine lv_iconst (pc := 4) (v := 3) hx hb dX1_tellNode_4 (by decide) ?_
  refine lv_icmp_eq (pc := 5) (tgt := 10) hx hb dX1_tellNode_5 (by decide) (fun c_1 => ?_) (fun c_1 => ?_)
  · have h := h.1 c_1
    refine lv_aload_n (pc := 10) hx hb dX1_tellNode_10 rfl (lv_at hl 0 rfl) ?_
    refine gfj_5 (pc := 11) hk0 hx hb hts hown hK hR mw51 dX1_tellNode_11 ?_
    refine lv_if_eq (pc := 14) (tgt := 21) hx hb dX1_tellNode_14 (by decide) (fun c_2 => ?_) (fun c_2 => ?_)
    · have h := h.1 c_2
      refine lv_aload_n (pc := 21) hx hb dX1_tellNode_21 rfl (lv_at hl 0 rfl) ?_
      refine gfj_6 (pc := 22) hk0 hx hb hts hown hK hR mw52 dX1_tellNode_22 ?_
      exact q_iret (pc := 25) E hR h dX1_tellNode_25
    · have h := h.2 c_2
      refine lv_iconst (pc := 17) (v := (-1)) hx hb dX1_tellNode_17 (by decide) ?_
      refine lv_goto (pc := 18) (tgt := 25) hx hb dX1_tellNode_18 (by decide) ?_
      exact q_iret (pc := 25) E hR h dX1_tellNode_25
  · have h := h.2 c_1
    refine lv_iconst (pc := 8) (v := 0) hx hb dX1_tellNode_8 (by decide) ?_
    exact q_iret (pc := 9) E hR h dX1_tellNode_9
theorem cX1_tellNode_met (l : Launch) (w : Wd) (hI : Ij 223 w) (N : Nat) (k0 : Nat) (hk0 : jobK k0) (Q : Int32 → St → Prop) (σ : St) (h : fX1_tellNode N k0 Q σ) : Met l yX1_tellNode (.code yX1_tellNode cX1_tellNode 1 (some .int) :: Uw) rmX1_tellNode (va_Pc [.ref (w.2.1 k0)] (fun U => Rp 223 ev1 w σ U ∧ (X1 w) U)) (va_Qi Q (Rp 223 ev1 w) (Aw 223 w)) 0 0 (Aw 223 w) :=
  q_met (by decide) (Nat.le_of_ble_eq_true rfl) hI (fun p e s m below meth c ls E hl hR => bX1_tellNode_e l w N Q E k0 hk0 hR hl h)
-- GlulxStrings$Job.tell(I)I
abbrev rmX1_tell : Room := { frames := 1, cells := 0, slots := 0, locals := 21 }
def fX1_tell (N : Nat) (k0 : Nat) (x1 : Int32) (Q : Int32 → St → Prop) (σ : St) : Prop := ((x1 = 0 → Q (σ.1 k0 1) σ) ∧ (¬ x1 = 0 → ((x1 = 1 → Q (σ.1 k0 2) σ) ∧ (¬ x1 = 1 → ((x1 = 2 → Q (σ.1 k0 3) σ) ∧ (¬ x1 = 2 → ((x1 = 3 → Q (σ.1 k0 4) σ) ∧ (¬ x1 = 3 → ((x1 = 4 → fX1_tellNode N k0 (fun r_7 σ_6 => Q r_7 σ_6) σ) ∧ (¬ x1 = 4 → ((x1 < 10 → Q 0 σ) ∧ (¬ x1 < 10 → fX1_hasLocal N k0 (x1 - 10) (fun r_10 σ_9 => ((r_10 = 0 → Q 0 σ_9) ∧ (¬ r_10 = 0 → vp_in (x1 - 10) 8 ∧ Q (σ_9.1 (k0 + 40) (x1 - 10).toNatClampNeg) σ_9))) σ))))))))))))
set_option maxHeartbeats 4000000 in
set_option maxRecDepth 100000 in
theorem bX1_tell_e {p : Program} {e : Env} {s : State} {m : MethodId} {args : Array Value} {below : List Frame} {meth : Method} {c : Code} (l : Launch) (w : Wd) (N : Nat) (Q : Int32 → St → Prop) (E : Cx 223 w (X1 w) cX1_tell 2 RX1 (.code yX1_tell cX1_tell 2 (some .int)) (some .int) p s m args meth c) (k0 : Nat) (x1 : Int32) (hk0 : jobK k0) {σ : St} {H : Heap} {locs : List Loc} {ls : Array Slot} (hR : Rr 223 ev1 w σ s H locs) (hl : lv_has ls 2 [(0, .ref (w.2.1 k0)), (1, .int x1)]) (h : fX1_tell N k0 x1 Q σ) : W p l e rmX1_tell s m args below meth c H locs 0 0 (MQ below (va_Qi Q (Rp 223 ev1 w) (Aw 223 w)) args s 0 0 (Aw 223 w)) (F0 m 0 ls []) := by
  obtain ⟨hx, hb, hml, hown, hts, hr, hlk, hK, hI, hX⟩ := id E
  unfold fX1_tell at h
  refine lv_iload_n (pc := 0) hx hb dX1_tell_0 rfl (lv_at hl 1 rfl) ?_
  by_cases c_1 : x1 = 0
  · refine lv_tableIn (pc := 1) (tgt := 36) (off := 35) hx hb dX1_tell_1 (by rw [c_1]; decide) (by rw [c_1]; decide) (by rw [c_1]; rfl) (by decide) ?_
    have h := h.1 c_1
    refine lv_aload_n (pc := 36) hx hb dX1_tell_36 rfl (lv_at hl 0 rfl) ?_
    refine gfj_1 (pc := 37) hk0 hx hb hts hown hK hR mw47 dX1_tell_37 ?_
    exact q_iret (pc := 40) E hR h dX1_tell_40
  replace h := h.2 c_1
  by_cases c_2 : x1 = 1
  · refine lv_tableIn (pc := 1) (tgt := 41) (off := 40) hx hb dX1_tell_1 (by rw [c_2]; decide) (by rw [c_2]; decide) (by rw [c_2]; rfl) (by decide) ?_
    have h := h.1 c_2
    refine lv_aload_n (pc := 41) hx hb dX1_tell_41 rfl (lv_at hl 0 rfl) ?_
    refine gfj_2 (pc := 42) hk0 hx hb hts hown hK hR mw48 dX1_tell_42 ?_
    exact q_iret (pc := 45) E hR h dX1_tell_45
  replace h := h.2 c_2
  by_cases c_3 : x1 = 2
  · refine lv_tableIn (pc := 1) (tgt := 46) (off := 45) hx hb dX1_tell_1 (by rw [c_3]; decide) (by rw [c_3]; decide) (by rw [c_3]; rfl) (by decide) ?_
    have h := h.1 c_3
    refine lv_aload_n (pc := 46) hx hb dX1_tell_46 rfl (lv_at hl 0 rfl) ?_
    refine gfj_3 (pc := 47) hk0 hx hb hts hown hK hR mw49 dX1_tell_47 ?_
    exact q_iret (pc := 50) E hR h dX1_tell_50
  replace h := h.2 c_3
  by_cases c_4 : x1 = 3
  · refine lv_tableIn (pc := 1) (tgt := 51) (off := 50) hx hb dX1_tell_1 (by rw [c_4]; decide) (by rw [c_4]; decide) (by rw [c_4]; rfl) (by decide) ?_
    have h := h.1 c_4
    refine lv_aload_n (pc := 51) hx hb dX1_tell_51 rfl (lv_at hl 0 rfl) ?_
    refine gfj_4 (pc := 52) hk0 hx hb hts hown hK hR mw50 dX1_tell_52 ?_
    exact q_iret (pc := 55) E hR h dX1_tell_55
  replace h := h.2 c_4
  by_cases c_5 : x1 = 4
  · refine lv_tableIn (pc := 1) (tgt := 56) (off := 55) hx hb dX1_tell_1 (by rw [c_5]; decide) (by rw [c_5]; decide) (by rw [c_5]; rfl) (by decide) ?_
    have h := h.1 c_5
    refine lv_aload_n (pc := 56) hx hb dX1_tell_56 rfl (lv_at hl 0 rfl) ?_
    refine q_ci (pc := 57) hR (q_rV E (xp1 w) (As := []) (rest := []) (cX1_tellNode_met l w hI N k0 hk0 _ σ h) ckX1_tellNode cvX1_tellNode mw135 ⟨rfl, rfl, Nat.le_of_ble_eq_true rfl, Nat.le_of_ble_eq_true rfl⟩ hR (rcj hk0) rfl hl.1 rfl (Nat.le_of_ble_eq_true rfl) dX1_tell_57) (fun r_7 σ_6 H locs h hR => ?_)
    exact q_iret (pc := 60) E hR h dX1_tell_60
  replace h := h.2 c_5
  have hD : W p l e rmX1_tell s m args below meth c H locs 0 0 (MQ below (va_Qi Q (Rp 223 ev1 w) (Aw 223 w)) args s 0 0 (Aw 223 w)) (F0 m 61 ls []) := by
    refine lv_iload_n (pc := 61) hx hb dX1_tell_61 rfl (lv_at hl 1 rfl) ?_
    refine lv_bipush (pc := 62) (v := 10) hx hb dX1_tell_62 (by decide) ?_
    refine lv_icmp_lt (pc := 64) (tgt := 90) hx hb dX1_tell_64 (by decide) (fun c_8 => ?_) (fun c_8 => ?_)
    · have h := h.1 c_8
      refine lv_iconst (pc := 90) (v := 0) hx hb dX1_tell_90 (by decide) ?_
      exact q_iret (pc := 91) E hR h dX1_tell_91
    · have h := h.2 c_8
      refine lv_aload_n (pc := 67) hx hb dX1_tell_67 rfl (lv_at hl 0 rfl) ?_
      refine lv_iload_n (pc := 68) hx hb dX1_tell_68 rfl (lv_at hl 1 rfl) ?_
      refine lv_bipush (pc := 69) (v := 10) hx hb dX1_tell_69 (by decide) ?_
      refine lv_isub (pc := 71) hx hb dX1_tell_71 ?_
      refine q_ci (pc := 72) hR (q_rV E (xp1 w) (As := [.int (x1 - 10)]) (rest := []) (cX1_hasLocal_met l w hI N k0 (x1 - 10) hk0 _ σ h) ckX1_hasLocal cvX1_hasLocal mw136 ⟨rfl, rfl, Nat.le_of_ble_eq_true rfl, Nat.le_of_ble_eq_true rfl⟩ hR (rcj hk0) rfl hl.1 rfl (Nat.le_of_ble_eq_true rfl) dX1_tell_72) (fun r_10 σ_9 H locs h hR => ?_)
      refine lv_if_eq (pc := 75) (tgt := 90) hx hb dX1_tell_75 (by decide) (fun c_11 => ?_) (fun c_11 => ?_)
      · have h := h.1 c_11
        refine lv_iconst (pc := 90) (v := 0) hx hb dX1_tell_90 (by decide) ?_
        exact q_iret (pc := 91) E hR h dX1_tell_91
      · have h := h.2 c_11
        refine lv_aload_n (pc := 78) hx hb dX1_tell_78 rfl (lv_at hl 0 rfl) ?_
        refine gfj_0 (pc := 79) hk0 hx hb hts hown hK hR mw71 dX1_tell_79 ?_
        refine lv_iload_n (pc := 82) hx hb dX1_tell_82 rfl (lv_at hl 1 rfl) ?_
        refine lv_bipush (pc := 83) (v := 10) hx hb dX1_tell_83 (by decide) ?_
        refine lv_isub (pc := 85) hx hb dX1_tell_85 ?_
        have g_12 := h.1
        have h := h.2
        refine q_iald (pc := 86) hx hb hK hR (k := (k0 + 40)) (loc8_lt (loc8_of hk0)) (ev1_loc8 (loc8_of hk0)) g_12 dX1_tell_86 ?_
        refine lv_goto (pc := 87) (tgt := 91) hx hb dX1_tell_87 (by decide) ?_
        exact q_iret (pc := 91) E hR h dX1_tell_91
  have nc_1 := ne_i (n := 0) (by decide) c_1
  have nc_2 := ne_i (n := 1) (by decide) c_2
  have nc_3 := ne_i (n := 2) (by decide) c_3
  have nc_4 := ne_i (n := 3) (by decide) c_4
  have nc_5 := ne_i (n := 4) (by decide) c_5
  exact lv_tableOut (pc := 1) (tgt := 61) hx hb dX1_tell_1 (by omega) (by decide) hD
theorem cX1_tell_met (l : Launch) (w : Wd) (hI : Ij 223 w) (N : Nat) (k0 : Nat) (x1 : Int32) (hk0 : jobK k0) (Q : Int32 → St → Prop) (σ : St) (h : fX1_tell N k0 x1 Q σ) : Met l yX1_tell (.code yX1_tell cX1_tell 2 (some .int) :: Uw) rmX1_tell (va_Pc [.ref (w.2.1 k0), .int x1] (fun U => Rp 223 ev1 w σ U ∧ (X1 w) U)) (va_Qi Q (Rp 223 ev1 w) (Aw 223 w)) 0 0 (Aw 223 w) :=
  q_met (by decide) (Nat.le_of_ble_eq_true rfl) hI (fun p e s m below meth c ls E hl hR => bX1_tell_e l w N Q E k0 x1 hk0 hR hl h)
-- GlulxStrings.job(II)I
abbrev rmX11_job : Room := { frames := 2, cells := 0, slots := 0, locals := 42 }
def fX11_job (N : Nat) (x1 : Int32) (x2 : Int32) (Q : Int32 → St → Prop) (σ : St) : Prop := ((x1 < 0 → Q 0 σ) ∧ (¬ x1 < 0 → ((x1 < (σ.1 3 7) → vp_in x1 40 ∧ fX1_tell N (43 + x1.toNatClampNeg) x2 (fun r_5 σ_4 => Q r_5 σ_4) σ) ∧ (¬ x1 < (σ.1 3 7) → Q 0 σ))))
set_option maxHeartbeats 4000000 in
set_option maxRecDepth 100000 in
theorem bX11_job_e {p : Program} {e : Env} {s : State} {m : MethodId} {args : Array Value} {below : List Frame} {meth : Method} {c : Code} (l : Launch) (w : Wd) (N : Nat) (Q : Int32 → St → Prop) (E : Cx 223 w (X1 w) cX11_job 3 RX11 (.code yX11_job cX11_job 3 (some .int)) (some .int) p s m args meth c) (x1 : Int32) (x2 : Int32) {σ : St} {H : Heap} {locs : List Loc} {ls : Array Slot} (hR : Rr 223 ev1 w σ s H locs) (hl : lv_has ls 3 [(0, .ref (w.2.1 0)), (1, .int x1), (2, .int x2)]) (h : fX11_job N x1 x2 Q σ) : W p l e rmX11_job s m args below meth c H locs 0 0 (MQ below (va_Qi Q (Rp 223 ev1 w) (Aw 223 w)) args s 0 0 (Aw 223 w)) (F0 m 0 ls []) := by
  obtain ⟨hx, hb, hml, hown, hts, hr, hlk, hK, hI, hX⟩ := id E
  unfold fX11_job at h
  refine lv_iload_n (pc := 0) hx hb dX11_job_0 rfl (lv_at hl 1 rfl) ?_
  refine lv_if_lt (pc := 1) (tgt := 15) hx hb dX11_job_1 (by decide) (fun c_1 => ?_) (fun c_1 => ?_)
  · have h := h.1 c_1
    refine lv_iconst (pc := 15) (v := 0) hx hb dX11_job_15 (by decide) ?_
    exact q_iret (pc := 16) E hR h dX11_job_16
  · have h := h.2 c_1
    refine lv_iload_n (pc := 4) hx hb dX11_job_4 rfl (lv_at hl 1 rfl) ?_
    refine lv_aload_n (pc := 5) hx hb dX11_job_5 rfl (lv_at hl 0 rfl) ?_
    refine gf1_0_2 (pc := 6) hx hb hts hown hK hR mw32 dX11_job_6 ?_
    refine gf1_3_7 (pc := 9) hx hb hts hown hK hR mw33 dX11_job_9 ?_
    refine lv_icmp_lt (pc := 12) (tgt := 17) hx hb dX11_job_12 (by decide) (fun c_2 => ?_) (fun c_2 => ?_)
    · have h := h.1 c_2
      refine lv_aload_n (pc := 17) hx hb dX11_job_17 rfl (lv_at hl 0 rfl) ?_
      refine gf1_0_2 (pc := 18) hx hb hts hown hK hR mw32 dX11_job_18 ?_
      refine gf1_3_3 (pc := 21) hx hb hts hown hK hR mw137 dX11_job_21 ?_
      refine lv_iload_n (pc := 24) hx hb dX11_job_24 rfl (lv_at hl 1 rfl) ?_
      have g_3 := h.1
      have h := h.2
      refine q_aald (pc := 25) hx hb hK hR (k := 15) lt1_15 4 rfl rfl (ar1_15 _ _ _) g_3 dX11_job_25 ?_
      refine lv_iload_n (pc := 26) hx hb dX11_job_26 rfl (lv_at hl 2 rfl) ?_
      refine q_ci (pc := 27) hR (q_rV E (xp1 w) (As := [.int x2]) (rest := []) (cX1_tell_met l w hI N (43 + x1.toNatClampNeg) x2 (jobK_in g_3) _ σ h) ckX1_tell cvX1_tell mw138 ⟨rfl, rfl, Nat.le_of_ble_eq_true rfl, Nat.le_of_ble_eq_true rfl⟩ hR (rcj (jobK_in g_3)) rfl hl.1 rfl (Nat.le_of_ble_eq_true rfl) dX11_job_27) (fun r_5 σ_4 H locs h hR => ?_)
      exact q_iret (pc := 30) E hR h dX11_job_30
    · have h := h.2 c_2
      refine lv_iconst (pc := 15) (v := 0) hx hb dX11_job_15 (by decide) ?_
      exact q_iret (pc := 16) E hR h dX11_job_16
theorem cX11_job_met (l : Launch) (w : Wd) (hI : Ij 223 w) (N : Nat) (x1 : Int32) (x2 : Int32) (Q : Int32 → St → Prop) (σ : St) (h : fX11_job N x1 x2 Q σ) : Met l yX11_job (.code yX11_job cX11_job 3 (some .int) :: Uw) rmX11_job (va_Pc [.ref (w.2.1 0), .int x1, .int x2] (fun U => Rp 223 ev1 w σ U ∧ (X1 w) U)) (va_Qi Q (Rp 223 ev1 w) (Aw 223 w)) 0 0 (Aw 223 w) :=
  q_met (by decide) (Nat.le_of_ble_eq_true rfl) hI (fun p e s m below meth c ls E hl hR => bX11_job_e l w N Q E x1 x2 hR hl h)
-- GlulxStrings.at(I)I
abbrev rmX11_at : Room := { frames := 0, cells := 0, slots := 0, locals := 0 }
def fX11_at (N : Nat) (x1 : Int32) (Q : Int32 → St → Prop) (σ : St) : Prop := ((x1 < 0 → Q (-1) σ) ∧ (¬ x1 < 0 → (((σ.1 3 8) ≤ x1 → Q (-1) σ) ∧ (¬ (σ.1 3 8) ≤ x1 → vp_in x1 1000 ∧ Q (σ.1 16 x1.toNatClampNeg) σ))))
set_option maxHeartbeats 4000000 in
set_option maxRecDepth 100000 in
theorem bX11_at_e {p : Program} {e : Env} {s : State} {m : MethodId} {args : Array Value} {below : List Frame} {meth : Method} {c : Code} (l : Launch) (w : Wd) (N : Nat) (Q : Int32 → St → Prop) (E : Cx 223 w (X1 w) cX11_at 2 RX11 (.code yX11_at cX11_at 2 (some .int)) (some .int) p s m args meth c) (x1 : Int32) {σ : St} {H : Heap} {locs : List Loc} {ls : Array Slot} (hR : Rr 223 ev1 w σ s H locs) (hl : lv_has ls 2 [(0, .ref (w.2.1 0)), (1, .int x1)]) (h : fX11_at N x1 Q σ) : W p l e rmX11_at s m args below meth c H locs 0 0 (MQ below (va_Qi Q (Rp 223 ev1 w) (Aw 223 w)) args s 0 0 (Aw 223 w)) (F0 m 0 ls []) := by
  obtain ⟨hx, hb, hml, hown, hts, hr, hlk, hK, hI, hX⟩ := id E
  unfold fX11_at at h
  refine lv_iload_n (pc := 0) hx hb dX11_at_0 rfl (lv_at hl 1 rfl) ?_
  refine lv_if_lt (pc := 1) (tgt := 27) hx hb dX11_at_1 (by decide) (fun c_1 => ?_) (fun c_1 => ?_)
  · have h := h.1 c_1
    refine lv_iconst (pc := 27) (v := (-1)) hx hb dX11_at_27 (by decide) ?_
    exact q_iret (pc := 28) E hR h dX11_at_28
  · have h := h.2 c_1
    refine lv_iload_n (pc := 4) hx hb dX11_at_4 rfl (lv_at hl 1 rfl) ?_
    refine lv_aload_n (pc := 5) hx hb dX11_at_5 rfl (lv_at hl 0 rfl) ?_
    refine gf1_0_2 (pc := 6) hx hb hts hown hK hR mw32 dX11_at_6 ?_
    refine gf1_3_8 (pc := 9) hx hb hts hown hK hR mw139 dX11_at_9 ?_
    refine lv_icmp_ge (pc := 12) (tgt := 27) hx hb dX11_at_12 (by decide) (fun c_2 => ?_) (fun c_2 => ?_)
    · have h := h.1 c_2
      refine lv_iconst (pc := 27) (v := (-1)) hx hb dX11_at_27 (by decide) ?_
      exact q_iret (pc := 28) E hR h dX11_at_28
    · have h := h.2 c_2
      refine lv_aload_n (pc := 15) hx hb dX11_at_15 rfl (lv_at hl 0 rfl) ?_
      refine gf1_0_2 (pc := 16) hx hb hts hown hK hR mw32 dX11_at_16 ?_
      refine gf1_3_4 (pc := 19) hx hb hts hown hK hR mw140 dX11_at_19 ?_
      refine lv_iload_n (pc := 22) hx hb dX11_at_22 rfl (lv_at hl 1 rfl) ?_
      have g_3 := h.1
      have h := h.2
      refine q_iald (pc := 23) hx hb hK hR (k := 16) lt1_16 (ar1_16 _ _ _) g_3 dX11_at_23 ?_
      refine lv_goto (pc := 24) (tgt := 28) hx hb dX11_at_24 (by decide) ?_
      exact q_iret (pc := 28) E hR h dX11_at_28
theorem cX11_at_met (l : Launch) (w : Wd) (hI : Ij 223 w) (N : Nat) (x1 : Int32) (Q : Int32 → St → Prop) (σ : St) (h : fX11_at N x1 Q σ) : Met l yX11_at (.code yX11_at cX11_at 2 (some .int) :: Uw) rmX11_at (va_Pc [.ref (w.2.1 0), .int x1] (fun U => Rp 223 ev1 w σ U ∧ (X1 w) U)) (va_Qi Q (Rp 223 ev1 w) (Aw 223 w)) 0 0 (Aw 223 w) :=
  q_met (by decide) (Nat.le_of_ble_eq_true rfl) hI (fun p e s m below meth c ls E hl hR => bX11_at_e l w N Q E x1 hR hl h)
-- GlulxStrings.clear()I
abbrev rmX11_clear : Room := { frames := 0, cells := 0, slots := 0, locals := 0 }
def fX11_clear (N : Nat) (Q : Int32 → St → Prop) (σ : St) : Prop := ∀ v_1 : Int32, v_1 = σ.1 3 8 → ∀ σ_2 : St, σ_2 = u1 σ 3 8 0 → Q v_1 σ_2
set_option maxHeartbeats 4000000 in
set_option maxRecDepth 100000 in
theorem bX11_clear_e {p : Program} {e : Env} {s : State} {m : MethodId} {args : Array Value} {below : List Frame} {meth : Method} {c : Code} (l : Launch) (w : Wd) (N : Nat) (Q : Int32 → St → Prop) (E : Cx 223 w (X1 w) cX11_clear 2 RX11 (.code yX11_clear cX11_clear 2 (some .int)) (some .int) p s m args meth c) {σ : St} {H : Heap} {locs : List Loc} {ls : Array Slot} (hR : Rr 223 ev1 w σ s H locs) (hl : lv_has ls 2 [(0, .ref (w.2.1 0))]) (h : fX11_clear N Q σ) : W p l e rmX11_clear s m args below meth c H locs 0 0 (MQ below (va_Qi Q (Rp 223 ev1 w) (Aw 223 w)) args s 0 0 (Aw 223 w)) (F0 m 0 ls []) := by
  obtain ⟨hx, hb, hml, hown, hts, hr, hlk, hK, hI, hX⟩ := id E
  unfold fX11_clear at h
  refine lv_aload_n (pc := 0) hx hb dX11_clear_0 rfl (lv_at hl 0 rfl) ?_
  refine gf1_0_2 (pc := 1) hx hb hts hown hK hR mw32 dX11_clear_1 ?_
  refine gf1_3_8 (pc := 4) hx hb hts hown hK hR mw139 dX11_clear_4 ?_
  refine lv_topi (pc := 7) (fun v_1 ev_1 => ?_)
  have h := h v_1 ev_1
  refine lv_istore_n (pc := 7) (lv' := [(1, .int v_1), (0, .ref (w.2.1 0))]) hx hb dX11_clear_7 rfl hl (by decide) rfl (fun ls hl => ?_)
  refine lv_aload_n (pc := 8) hx hb dX11_clear_8 rfl (lv_at hl 1 rfl) ?_
  refine gf1_0_2 (pc := 9) hx hb hts hown hK hR mw32 dX11_clear_9 ?_
  refine lv_iconst (pc := 12) (v := 0) hx hb dX11_clear_12 (by decide) ?_
  refine pf1_3_8 (pc := 13) hx hb hts hown hK hI hR mw139 dX11_clear_13 (fun H locs σ_2 eσ_2 hR => ?_)
  have h := h σ_2 eσ_2
  refine lv_iload_n (pc := 16) hx hb dX11_clear_16 rfl (lv_at hl 0 rfl) ?_
  exact q_iret (pc := 17) E hR h dX11_clear_17
theorem cX11_clear_met (l : Launch) (w : Wd) (hI : Ij 223 w) (N : Nat) (Q : Int32 → St → Prop) (σ : St) (h : fX11_clear N Q σ) : Met l yX11_clear (.code yX11_clear cX11_clear 2 (some .int) :: Uw) rmX11_clear (va_Pc [.ref (w.2.1 0)] (fun U => Rp 223 ev1 w σ U ∧ (X1 w) U)) (va_Qi Q (Rp 223 ev1 w) (Aw 223 w)) 0 0 (Aw 223 w) :=
  q_met (by decide) (Nat.le_of_ble_eq_true rfl) hI (fun p e s m below meth c ls E hl hR => bX11_clear_e l w N Q E hR hl h)
-- GlulxStrings$Tally.tell(I)I
abbrev rmX9_tell : Room := { frames := 0, cells := 0, slots := 0, locals := 0 }
def fX9_tell (N : Nat) (x1 : Int32) (Q : Int32 → St → Prop) (σ : St) : Prop := ((x1 = 0 → Q (σ.1 5 0) σ) ∧ (¬ x1 = 0 → ((x1 = 1 → Q (σ.1 5 1) σ) ∧ (¬ x1 = 1 → ((x1 = 2 → Q (σ.1 5 2) σ) ∧ (¬ x1 = 2 → ((x1 = 3 → Q (σ.1 5 3) σ) ∧ (¬ x1 = 3 → ((x1 = 4 → Q (σ.1 5 4) σ) ∧ (¬ x1 = 4 → ((x1 = 5 → Q (σ.1 5 5) σ) ∧ (¬ x1 = 5 → ((x1 = 6 → Q (σ.1 5 6) σ) ∧ (¬ x1 = 6 → ((x1 = 7 → Q (σ.1 5 7) σ) ∧ (¬ x1 = 7 → Q (-2) σ))))))))))))))))
set_option maxHeartbeats 4000000 in
set_option maxRecDepth 100000 in
theorem bX9_tell_e {p : Program} {e : Env} {s : State} {m : MethodId} {args : Array Value} {below : List Frame} {meth : Method} {c : Code} (l : Launch) (w : Wd) (N : Nat) (Q : Int32 → St → Prop) (E : Cx 223 w (X1 w) cX9_tell 2 RX9 (.code yX9_tell cX9_tell 2 (some .int)) (some .int) p s m args meth c) (x1 : Int32) {σ : St} {H : Heap} {locs : List Loc} {ls : Array Slot} (hR : Rr 223 ev1 w σ s H locs) (hl : lv_has ls 2 [(0, .ref (w.2.1 5)), (1, .int x1)]) (h : fX9_tell N x1 Q σ) : W p l e rmX9_tell s m args below meth c H locs 0 0 (MQ below (va_Qi Q (Rp 223 ev1 w) (Aw 223 w)) args s 0 0 (Aw 223 w)) (F0 m 0 ls []) := by
  obtain ⟨hx, hb, hml, hown, hts, hr, hlk, hK, hI, hX⟩ := id E
  unfold fX9_tell at h
  refine lv_iload_n (pc := 0) hx hb dX9_tell_0 rfl (lv_at hl 1 rfl) ?_
  by_cases c_1 : x1 = 0
  · refine lv_tableIn (pc := 1) (tgt := 48) (off := 47) hx hb dX9_tell_1 (by rw [c_1]; decide) (by rw [c_1]; decide) (by rw [c_1]; rfl) (by decide) ?_
    have h := h.1 c_1
    refine lv_aload_n (pc := 48) hx hb dX9_tell_48 rfl (lv_at hl 0 rfl) ?_
    refine gf1_5_0 (pc := 49) hx hb hts hown hK hR mw141 dX9_tell_49 ?_
    exact q_iret (pc := 52) E hR h dX9_tell_52
  replace h := h.2 c_1
  by_cases c_2 : x1 = 1
  · refine lv_tableIn (pc := 1) (tgt := 53) (off := 52) hx hb dX9_tell_1 (by rw [c_2]; decide) (by rw [c_2]; decide) (by rw [c_2]; rfl) (by decide) ?_
    have h := h.1 c_2
    refine lv_aload_n (pc := 53) hx hb dX9_tell_53 rfl (lv_at hl 0 rfl) ?_
    refine gf1_5_1 (pc := 54) hx hb hts hown hK hR mw142 dX9_tell_54 ?_
    exact q_iret (pc := 57) E hR h dX9_tell_57
  replace h := h.2 c_2
  by_cases c_3 : x1 = 2
  · refine lv_tableIn (pc := 1) (tgt := 58) (off := 57) hx hb dX9_tell_1 (by rw [c_3]; decide) (by rw [c_3]; decide) (by rw [c_3]; rfl) (by decide) ?_
    have h := h.1 c_3
    refine lv_aload_n (pc := 58) hx hb dX9_tell_58 rfl (lv_at hl 0 rfl) ?_
    refine gf1_5_2 (pc := 59) hx hb hts hown hK hR mw143 dX9_tell_59 ?_
    exact q_iret (pc := 62) E hR h dX9_tell_62
  replace h := h.2 c_3
  by_cases c_4 : x1 = 3
  · refine lv_tableIn (pc := 1) (tgt := 63) (off := 62) hx hb dX9_tell_1 (by rw [c_4]; decide) (by rw [c_4]; decide) (by rw [c_4]; rfl) (by decide) ?_
    have h := h.1 c_4
    refine lv_aload_n (pc := 63) hx hb dX9_tell_63 rfl (lv_at hl 0 rfl) ?_
    refine gf1_5_3 (pc := 64) hx hb hts hown hK hR mw144 dX9_tell_64 ?_
    exact q_iret (pc := 67) E hR h dX9_tell_67
  replace h := h.2 c_4
  by_cases c_5 : x1 = 4
  · refine lv_tableIn (pc := 1) (tgt := 68) (off := 67) hx hb dX9_tell_1 (by rw [c_5]; decide) (by rw [c_5]; decide) (by rw [c_5]; rfl) (by decide) ?_
    have h := h.1 c_5
    refine lv_aload_n (pc := 68) hx hb dX9_tell_68 rfl (lv_at hl 0 rfl) ?_
    refine gf1_5_4 (pc := 69) hx hb hts hown hK hR mw145 dX9_tell_69 ?_
    exact q_iret (pc := 72) E hR h dX9_tell_72
  replace h := h.2 c_5
  by_cases c_6 : x1 = 5
  · refine lv_tableIn (pc := 1) (tgt := 73) (off := 72) hx hb dX9_tell_1 (by rw [c_6]; decide) (by rw [c_6]; decide) (by rw [c_6]; rfl) (by decide) ?_
    have h := h.1 c_6
    refine lv_aload_n (pc := 73) hx hb dX9_tell_73 rfl (lv_at hl 0 rfl) ?_
    refine gf1_5_5 (pc := 74) hx hb hts hown hK hR mw146 dX9_tell_74 ?_
    exact q_iret (pc := 77) E hR h dX9_tell_77
  replace h := h.2 c_6
  by_cases c_7 : x1 = 6
  · refine lv_tableIn (pc := 1) (tgt := 78) (off := 77) hx hb dX9_tell_1 (by rw [c_7]; decide) (by rw [c_7]; decide) (by rw [c_7]; rfl) (by decide) ?_
    have h := h.1 c_7
    refine lv_aload_n (pc := 78) hx hb dX9_tell_78 rfl (lv_at hl 0 rfl) ?_
    refine gf1_5_6 (pc := 79) hx hb hts hown hK hR mw147 dX9_tell_79 ?_
    exact q_iret (pc := 82) E hR h dX9_tell_82
  replace h := h.2 c_7
  by_cases c_8 : x1 = 7
  · refine lv_tableIn (pc := 1) (tgt := 83) (off := 82) hx hb dX9_tell_1 (by rw [c_8]; decide) (by rw [c_8]; decide) (by rw [c_8]; rfl) (by decide) ?_
    have h := h.1 c_8
    refine lv_aload_n (pc := 83) hx hb dX9_tell_83 rfl (lv_at hl 0 rfl) ?_
    refine gf1_5_7 (pc := 84) hx hb hts hown hK hR mw148 dX9_tell_84 ?_
    exact q_iret (pc := 87) E hR h dX9_tell_87
  replace h := h.2 c_8
  have hD : W p l e rmX9_tell s m args below meth c H locs 0 0 (MQ below (va_Qi Q (Rp 223 ev1 w) (Aw 223 w)) args s 0 0 (Aw 223 w)) (F0 m 88 ls []) := by
    refine lv_bipush (pc := 88) (v := (-2)) hx hb dX9_tell_88 (by decide) ?_
    exact q_iret (pc := 90) E hR h dX9_tell_90
  have nc_1 := ne_i (n := 0) (by decide) c_1
  have nc_2 := ne_i (n := 1) (by decide) c_2
  have nc_3 := ne_i (n := 2) (by decide) c_3
  have nc_4 := ne_i (n := 3) (by decide) c_4
  have nc_5 := ne_i (n := 4) (by decide) c_5
  have nc_6 := ne_i (n := 5) (by decide) c_6
  have nc_7 := ne_i (n := 6) (by decide) c_7
  have nc_8 := ne_i (n := 7) (by decide) c_8
  exact lv_tableOut (pc := 1) (tgt := 88) hx hb dX9_tell_1 (by omega) (by decide) hD
theorem cX9_tell_met (l : Launch) (w : Wd) (hI : Ij 223 w) (N : Nat) (x1 : Int32) (Q : Int32 → St → Prop) (σ : St) (h : fX9_tell N x1 Q σ) : Met l yX9_tell (.code yX9_tell cX9_tell 2 (some .int) :: Uw) rmX9_tell (va_Pc [.ref (w.2.1 5), .int x1] (fun U => Rp 223 ev1 w σ U ∧ (X1 w) U)) (va_Qi Q (Rp 223 ev1 w) (Aw 223 w)) 0 0 (Aw 223 w) :=
  q_met (by decide) (Nat.le_of_ble_eq_true rfl) hI (fun p e s m below meth c ls E hl hR => bX9_tell_e l w N Q E x1 hR hl h)
-- GlulxStrings.told(I)I
abbrev rmX11_told : Room := { frames := 6, cells := 0, slots := 0, locals := 128 }
def fX11_told (N : Nat) (x1 : Int32) (Q : Int32 → St → Prop) (σ : St) : Prop := ((x1 = 8 → Q (σ.1 3 9) σ) ∧ (¬ x1 = 8 → ((x1 = 9 → Q (σ.1 3 10) σ) ∧ (¬ x1 = 9 → ((x1 = 10 → Q (σ.1 2 8) σ) ∧ (¬ x1 = 10 → ((x1 = 11 → Q (σ.1 1 1) σ) ∧ (¬ x1 = 11 → ((x1 = 12 → Q (σ.1 3 8) σ) ∧ (¬ x1 = 12 → ((x1 = 13 → Q (σ.1 0 6) σ) ∧ (¬ x1 = 13 → ((x1 = 14 → Q (σ.1 0 7) σ) ∧ (¬ x1 = 14 → ((x1 = 15 → fX8_cachedNodes N (fun r_10 σ_9 => Q r_10 σ_9) σ) ∧ (¬ x1 = 15 → ((x1 = 16 → Q (σ.1 6 5) σ) ∧ (¬ x1 = 16 → ((x1 = 17 → Q (σ.1 7 4) σ) ∧ (¬ x1 = 17 → fX9_tell N x1 (fun r_14 σ_13 => Q r_14 σ_13) σ))))))))))))))))))))
set_option maxHeartbeats 4000000 in
set_option maxRecDepth 100000 in
theorem bX11_told_e {p : Program} {e : Env} {s : State} {m : MethodId} {args : Array Value} {below : List Frame} {meth : Method} {c : Code} (l : Launch) (w : Wd) (N : Nat) (Q : Int32 → St → Prop) (E : Cx 223 w (X1 w) cX11_told 2 RX11 (.code yX11_told cX11_told 2 (some .int)) (some .int) p s m args meth c) (x1 : Int32) {σ : St} {H : Heap} {locs : List Loc} {ls : Array Slot} (hR : Rr 223 ev1 w σ s H locs) (hl : lv_has ls 2 [(0, .ref (w.2.1 0)), (1, .int x1)]) (h : fX11_told N x1 Q σ) : W p l e rmX11_told s m args below meth c H locs 0 0 (MQ below (va_Qi Q (Rp 223 ev1 w) (Aw 223 w)) args s 0 0 (Aw 223 w)) (F0 m 0 ls []) := by
  obtain ⟨hx, hb, hml, hown, hts, hr, hlk, hK, hI, hX⟩ := id E
  unfold fX11_told at h
  refine lv_iload_n (pc := 0) hx hb dX11_told_0 rfl (lv_at hl 1 rfl) ?_
  by_cases c_1 : x1 = 8
  · refine lv_tableIn (pc := 1) (tgt := 56) (off := 55) hx hb dX11_told_1 (by rw [c_1]; decide) (by rw [c_1]; decide) (by rw [c_1]; rfl) (by decide) ?_
    have h := h.1 c_1
    refine lv_aload_n (pc := 56) hx hb dX11_told_56 rfl (lv_at hl 0 rfl) ?_
    refine gf1_0_2 (pc := 57) hx hb hts hown hK hR mw32 dX11_told_57 ?_
    refine gf1_3_9 (pc := 60) hx hb hts hown hK hR mw149 dX11_told_60 ?_
    exact q_iret (pc := 63) E hR h dX11_told_63
  replace h := h.2 c_1
  by_cases c_2 : x1 = 9
  · refine lv_tableIn (pc := 1) (tgt := 64) (off := 63) hx hb dX11_told_1 (by rw [c_2]; decide) (by rw [c_2]; decide) (by rw [c_2]; rfl) (by decide) ?_
    have h := h.1 c_2
    refine lv_aload_n (pc := 64) hx hb dX11_told_64 rfl (lv_at hl 0 rfl) ?_
    refine gf1_0_2 (pc := 65) hx hb hts hown hK hR mw32 dX11_told_65 ?_
    refine gf1_3_10 (pc := 68) hx hb hts hown hK hR mw150 dX11_told_68 ?_
    exact q_iret (pc := 71) E hR h dX11_told_71
  replace h := h.2 c_2
  by_cases c_3 : x1 = 10
  · refine lv_tableIn (pc := 1) (tgt := 72) (off := 71) hx hb dX11_told_1 (by rw [c_3]; decide) (by rw [c_3]; decide) (by rw [c_3]; rfl) (by decide) ?_
    have h := h.1 c_3
    refine lv_aload_n (pc := 72) hx hb dX11_told_72 rfl (lv_at hl 0 rfl) ?_
    refine gf1_0_1 (pc := 73) hx hb hts hown hK hR mw9 dX11_told_73 ?_
    refine gf1_2_8 (pc := 76) hx hb hts hown hK hR mw151 dX11_told_76 ?_
    exact q_iret (pc := 79) E hR h dX11_told_79
  replace h := h.2 c_3
  by_cases c_4 : x1 = 11
  · refine lv_tableIn (pc := 1) (tgt := 80) (off := 79) hx hb dX11_told_1 (by rw [c_4]; decide) (by rw [c_4]; decide) (by rw [c_4]; rfl) (by decide) ?_
    have h := h.1 c_4
    refine lv_aload_n (pc := 80) hx hb dX11_told_80 rfl (lv_at hl 0 rfl) ?_
    refine gf1_0_0 (pc := 81) hx hb hts hown hK hR mw6 dX11_told_81 ?_
    refine gf1_1_1 (pc := 84) hx hb hts hown hK hR mw11 dX11_told_84 ?_
    exact q_iret (pc := 87) E hR h dX11_told_87
  replace h := h.2 c_4
  by_cases c_5 : x1 = 12
  · refine lv_tableIn (pc := 1) (tgt := 88) (off := 87) hx hb dX11_told_1 (by rw [c_5]; decide) (by rw [c_5]; decide) (by rw [c_5]; rfl) (by decide) ?_
    have h := h.1 c_5
    refine lv_aload_n (pc := 88) hx hb dX11_told_88 rfl (lv_at hl 0 rfl) ?_
    refine gf1_0_2 (pc := 89) hx hb hts hown hK hR mw32 dX11_told_89 ?_
    refine gf1_3_8 (pc := 92) hx hb hts hown hK hR mw139 dX11_told_92 ?_
    exact q_iret (pc := 95) E hR h dX11_told_95
  replace h := h.2 c_5
  by_cases c_6 : x1 = 13
  · refine lv_tableIn (pc := 1) (tgt := 96) (off := 95) hx hb dX11_told_1 (by rw [c_6]; decide) (by rw [c_6]; decide) (by rw [c_6]; rfl) (by decide) ?_
    have h := h.1 c_6
    refine lv_aload_n (pc := 96) hx hb dX11_told_96 rfl (lv_at hl 0 rfl) ?_
    refine gf1_0_6 (pc := 97) hx hb hts hown hK hR mw0 dX11_told_97 ?_
    exact q_iret (pc := 100) E hR h dX11_told_100
  replace h := h.2 c_6
  by_cases c_7 : x1 = 14
  · refine lv_tableIn (pc := 1) (tgt := 101) (off := 100) hx hb dX11_told_1 (by rw [c_7]; decide) (by rw [c_7]; decide) (by rw [c_7]; rfl) (by decide) ?_
    have h := h.1 c_7
    refine lv_aload_n (pc := 101) hx hb dX11_told_101 rfl (lv_at hl 0 rfl) ?_
    refine gf1_0_7 (pc := 102) hx hb hts hown hK hR mw131 dX11_told_102 ?_
    exact q_iret (pc := 105) E hR h dX11_told_105
  replace h := h.2 c_7
  by_cases c_8 : x1 = 15
  · refine lv_tableIn (pc := 1) (tgt := 106) (off := 105) hx hb dX11_told_1 (by rw [c_8]; decide) (by rw [c_8]; decide) (by rw [c_8]; rfl) (by decide) ?_
    have h := h.1 c_8
    refine lv_aload_n (pc := 106) hx hb dX11_told_106 rfl (lv_at hl 0 rfl) ?_
    refine gf1_0_1 (pc := 107) hx hb hts hown hK hR mw9 dX11_told_107 ?_
    refine q_ci (pc := 110) hR (q_rV E (xp1 w) (As := []) (rest := []) (cX8_cachedNodes_met l w hI N _ σ h) ckX8_cachedNodes cvX8_cachedNodes mw35 ⟨rfl, rfl, Nat.le_of_ble_eq_true rfl, Nat.le_of_ble_eq_true rfl⟩ hR (rc1_2 w) rfl hl.1 rfl (Nat.le_of_ble_eq_true rfl) dX11_told_110) (fun r_10 σ_9 H locs h hR => ?_)
    exact q_iret (pc := 113) E hR h dX11_told_113
  replace h := h.2 c_8
  by_cases c_11 : x1 = 16
  · refine lv_tableIn (pc := 1) (tgt := 114) (off := 113) hx hb dX11_told_1 (by rw [c_11]; decide) (by rw [c_11]; decide) (by rw [c_11]; rfl) (by decide) ?_
    have h := h.1 c_11
    refine lv_aload_n (pc := 114) hx hb dX11_told_114 rfl (lv_at hl 0 rfl) ?_
    refine gf1_0_3 (pc := 115) hx hb hts hown hK hR mw152 dX11_told_115 ?_
    refine gf1_4_2 (pc := 118) hx hb hts hown hK hR mw153 dX11_told_118 ?_
    refine gf1_6_5 (pc := 121) hx hb hts hown hK hR mw154 dX11_told_121 ?_
    exact q_iret (pc := 124) E hR h dX11_told_124
  replace h := h.2 c_11
  by_cases c_12 : x1 = 17
  · refine lv_tableIn (pc := 1) (tgt := 125) (off := 124) hx hb dX11_told_1 (by rw [c_12]; decide) (by rw [c_12]; decide) (by rw [c_12]; rfl) (by decide) ?_
    have h := h.1 c_12
    refine lv_aload_n (pc := 125) hx hb dX11_told_125 rfl (lv_at hl 0 rfl) ?_
    refine gf1_0_3 (pc := 126) hx hb hts hown hK hR mw152 dX11_told_126 ?_
    refine gf1_4_3 (pc := 129) hx hb hts hown hK hR mw155 dX11_told_129 ?_
    refine gf1_7_4 (pc := 132) hx hb hts hown hK hR mw156 dX11_told_132 ?_
    exact q_iret (pc := 135) E hR h dX11_told_135
  replace h := h.2 c_12
  have hD : W p l e rmX11_told s m args below meth c H locs 0 0 (MQ below (va_Qi Q (Rp 223 ev1 w) (Aw 223 w)) args s 0 0 (Aw 223 w)) (F0 m 136 ls []) := by
    refine lv_aload_n (pc := 136) hx hb dX11_told_136 rfl (lv_at hl 0 rfl) ?_
    refine gf1_0_2 (pc := 137) hx hb hts hown hK hR mw32 dX11_told_137 ?_
    refine gf1_3_2 (pc := 140) hx hb hts hown hK hR mw157 dX11_told_140 ?_
    refine lv_iload_n (pc := 143) hx hb dX11_told_143 rfl (lv_at hl 1 rfl) ?_
    refine q_ci (pc := 144) hR (q_rV E (xp1 w) (As := [.int x1]) (rest := []) (cX9_tell_met l w hI N x1 _ σ h) ckX9_tell cvX9_tell mw158 ⟨rfl, rfl, Nat.le_of_ble_eq_true rfl, Nat.le_of_ble_eq_true rfl⟩ hR (rc1_5 w) rfl hl.1 rfl (Nat.le_of_ble_eq_true rfl) dX11_told_144) (fun r_14 σ_13 H locs h hR => ?_)
    exact q_iret (pc := 147) E hR h dX11_told_147
  have nc_1 := ne_i (n := 8) (by decide) c_1
  have nc_2 := ne_i (n := 9) (by decide) c_2
  have nc_3 := ne_i (n := 10) (by decide) c_3
  have nc_4 := ne_i (n := 11) (by decide) c_4
  have nc_5 := ne_i (n := 12) (by decide) c_5
  have nc_6 := ne_i (n := 13) (by decide) c_6
  have nc_7 := ne_i (n := 14) (by decide) c_7
  have nc_8 := ne_i (n := 15) (by decide) c_8
  have nc_11 := ne_i (n := 16) (by decide) c_11
  have nc_12 := ne_i (n := 17) (by decide) c_12
  exact lv_tableOut (pc := 1) (tgt := 136) hx hb dX11_told_1 (by omega) (by decide) hD
theorem cX11_told_met (l : Launch) (w : Wd) (hI : Ij 223 w) (N : Nat) (x1 : Int32) (Q : Int32 → St → Prop) (σ : St) (h : fX11_told N x1 Q σ) : Met l yX11_told (.code yX11_told cX11_told 2 (some .int) :: Uw) rmX11_told (va_Pc [.ref (w.2.1 0), .int x1] (fun U => Rp 223 ev1 w σ U ∧ (X1 w) U)) (va_Qi Q (Rp 223 ev1 w) (Aw 223 w)) 0 0 (Aw 223 w) :=
  q_met (by decide) (Nat.le_of_ble_eq_true rfl) hI (fun p e s m below meth c ls E hl hR => bX11_told_e l w N Q E x1 hR hl h)
