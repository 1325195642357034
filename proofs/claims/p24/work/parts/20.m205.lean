-- GlulxStringsModel.failed()I
abbrev rmX12_failed : Room := { frames := 0, cells := 0, slots := 0, locals := 0 }
def fX12_failed (N : Nat) (Q : Int32 → St → Prop) (σ : St) : Prop := ∀ σ_1 : St, σ_1 = u1 σ 0 14 0 → ∀ v_2 : Int32, v_2 = (σ_1.1 0 29) + 1 → ∀ σ_3 : St, σ_3 = u1 σ_1 0 29 v_2 → ∀ v_4 : Int32, v_4 = σ_3.1 0 9 → ∀ σ_5 : St, σ_5 = u1 σ_3 0 30 v_4 → Q ((-10) - (σ_5.1 0 9)) σ_5
set_option maxHeartbeats 4000000 in
set_option maxRecDepth 100000 in
theorem bX12_failed_e {p : Program} {e : Env} {s : State} {m : MethodId} {args : Array Value} {below : List Frame} {meth : Method} {c : Code} (l : Launch) (w : Wd) (N : Nat) (Q : Int32 → St → Prop) (E : Cx 38 w X2 cX12_failed 1 RX12 (.code yX12_failed cX12_failed 1 (some .int)) (some .int) p s m args meth c) {σ : St} {H : Heap} {locs : List Loc} {ls : Array Slot} (hR : Rr 38 ev2 w σ s H locs) (hl : lv_has ls 1 [(0, .ref (w.2.1 0))]) (h : fX12_failed N Q σ) : W p l e rmX12_failed s m args below meth c H locs 0 0 (MQ below (va_Qi Q (Rp 38 ev2 w) (Aw 38 w)) args s 0 0 (Aw 38 w)) (F0 m 0 ls []) := by
  obtain ⟨hx, hb, hml, hown, hts, hr, hlk, hK, hI, hX⟩ := id E
  unfold fX12_failed at h
  refine lv_aload_n (pc := 0) hx hb dX12_failed_0 rfl (lv_at hl 0 rfl) ?_
  refine lv_iconst (pc := 1) (v := 0) hx hb dX12_failed_1 (by decide) ?_
  refine pf2_0_14 (pc := 2) hx hb hts hown hK hI hR mw282 dX12_failed_2 (fun H locs σ_1 eσ_1 hR => ?_)
  have h := h σ_1 eσ_1
  refine lv_aload_n (pc := 5) hx hb dX12_failed_5 rfl (lv_at hl 0 rfl) ?_
  refine lv_dup (pc := 6) hx hb dX12_failed_6 rfl ?_
  refine gf2_0_29 (pc := 7) hx hb hts hown hK hR mw321 dX12_failed_7 ?_
  refine lv_iconst (pc := 10) (v := 1) hx hb dX12_failed_10 (by decide) ?_
  refine lv_iadd (pc := 11) hx hb dX12_failed_11 ?_
  refine lv_topi (pc := 12) (fun v_2 ev_2 => ?_)
  have h := h v_2 ev_2
  refine pf2_0_29 (pc := 12) hx hb hts hown hK hI hR mw321 dX12_failed_12 (fun H locs σ_3 eσ_3 hR => ?_)
  have h := h σ_3 eσ_3
  refine lv_aload_n (pc := 15) hx hb dX12_failed_15 rfl (lv_at hl 0 rfl) ?_
  refine lv_aload_n (pc := 16) hx hb dX12_failed_16 rfl (lv_at hl 0 rfl) ?_
  refine gf2_0_9 (pc := 17) hx hb hts hown hK hR mw270 dX12_failed_17 ?_
  refine lv_topi (pc := 20) (fun v_4 ev_4 => ?_)
  have h := h v_4 ev_4
  refine pf2_0_30 (pc := 20) hx hb hts hown hK hI hR mw322 dX12_failed_20 (fun H locs σ_5 eσ_5 hR => ?_)
  have h := h σ_5 eσ_5
  refine lv_bipush (pc := 23) (v := (-10)) hx hb dX12_failed_23 (by decide) ?_
  refine lv_aload_n (pc := 25) hx hb dX12_failed_25 rfl (lv_at hl 0 rfl) ?_
  refine gf2_0_9 (pc := 26) hx hb hts hown hK hR mw270 dX12_failed_26 ?_
  refine lv_isub (pc := 29) hx hb dX12_failed_29 ?_
  exact q_iret (pc := 30) E hR h dX12_failed_30
theorem cX12_failed_met (l : Launch) (w : Wd) (hI : Ij 38 w) (N : Nat) (Q : Int32 → St → Prop) (σ : St) (h : fX12_failed N Q σ) : Met l yX12_failed (.code yX12_failed cX12_failed 1 (some .int) :: Uw) rmX12_failed (va_Pc [.ref (w.2.1 0)] (fun U => Rp 38 ev2 w σ U ∧ X2 U)) (va_Qi Q (Rp 38 ev2 w) (Aw 38 w)) 0 0 (Aw 38 w) :=
  q_met (by decide) (Nat.le_of_ble_eq_true rfl) hI (fun p e s m below meth c ls E hl hR => bX12_failed_e l w N Q E hR hl h)
-- GlulxStringsModel.runs(I)I
abbrev rmX12_runs : Room := { frames := 8, cells := 0, slots := 0, locals := 205 }
def fX12_runs_j46 (N : Nat) (x2 : Int32) (Q : Int32 → St → Prop) (σ : St) : Prop := (((σ.1 0 9) ≤ 0 → (((σ.1 0 14) = 0 → Q ((σ.1 0 26) - x2) σ) ∧ (¬ (σ.1 0 14) = 0 → Q (-5) σ))) ∧ (¬ (σ.1 0 9) ≤ 0 → fX12_failed N (fun r_6 σ_5 => Q r_6 σ_5) σ))
set_option maxHeartbeats 4000000 in
set_option maxRecDepth 100000 in
theorem bX12_runs_46 {p : Program} {e : Env} {s : State} {m : MethodId} {args : Array Value} {below : List Frame} {meth : Method} {c : Code} (l : Launch) (w : Wd) (N : Nat) (Q : Int32 → St → Prop) (E : Cx 38 w X2 cX12_runs 4 RX12 (.code yX12_runs cX12_runs 4 (some .int)) (some .int) p s m args meth c) (x2 : Int32) {σ : St} {H : Heap} {locs : List Loc} {ls : Array Slot} (hR : Rr 38 ev2 w σ s H locs) (hl : lv_has ls 4 [(0, .ref (w.2.1 0)), (2, .int x2)]) (h : fX12_runs_j46 N x2 Q σ) : W p l e rmX12_runs s m args below meth c H locs 0 0 (MQ below (va_Qi Q (Rp 38 ev2 w) (Aw 38 w)) args s 0 0 (Aw 38 w)) (F0 m 46 ls []) := by
  obtain ⟨hx, hb, hml, hown, hts, hr, hlk, hK, hI, hX⟩ := id E
  unfold fX12_runs_j46 at h
  refine lv_aload_n (pc := 46) hx hb dX12_runs_46 rfl (lv_at hl 0 rfl) ?_
  refine gf2_0_9 (pc := 47) hx hb hts hown hK hR mw270 dX12_runs_47 ?_
  refine lv_if_le (pc := 50) (tgt := 60) hx hb dX12_runs_50 (by decide) (fun c_3 => ?_) (fun c_3 => ?_)
  · have h := h.1 c_3
    refine lv_aload_n (pc := 60) hx hb dX12_runs_60 rfl (lv_at hl 0 rfl) ?_
    refine gf2_0_14 (pc := 61) hx hb hts hown hK hR mw282 dX12_runs_61 ?_
    refine lv_if_ne (pc := 64) (tgt := 76) hx hb dX12_runs_64 (by decide) (fun c_4 => ?_) (fun c_4 => ?_)
    · have h := h.2 c_4
      refine lv_bipush (pc := 76) (v := (-5)) hx hb dX12_runs_76 (by decide) ?_
      exact q_iret (pc := 78) E hR h dX12_runs_78
    · have h := h.1 c_4
      refine lv_aload_n (pc := 67) hx hb dX12_runs_67 rfl (lv_at hl 0 rfl) ?_
      refine gf2_0_26 (pc := 68) hx hb hts hown hK hR mw306 dX12_runs_68 ?_
      refine lv_iload_n (pc := 71) hx hb dX12_runs_71 rfl (lv_at hl 1 rfl) ?_
      refine lv_isub (pc := 72) hx hb dX12_runs_72 ?_
      refine lv_goto (pc := 73) (tgt := 78) hx hb dX12_runs_73 (by decide) ?_
      exact q_iret (pc := 78) E hR h dX12_runs_78
  · have h := h.2 c_3
    refine lv_aload_n (pc := 53) hx hb dX12_runs_53 rfl (lv_at hl 0 rfl) ?_
    refine q_ci (pc := 54) hR (q_rV E (xp2 w) (As := []) (rest := []) (cX12_failed_met l w hI N _ σ h) ckX12_failed cvX12_failed mw323 ⟨rfl, rfl, Nat.le_of_ble_eq_true rfl, Nat.le_of_ble_eq_true rfl⟩ hR (rc2_0 w) rfl hl.1 rfl (Nat.le_of_ble_eq_true rfl) dX12_runs_54) (fun r_6 σ_5 H locs h hR => ?_)
    refine lv_goto (pc := 57) (tgt := 78) hx hb dX12_runs_57 (by decide) ?_
    exact q_iret (pc := 78) E hR h dX12_runs_78
def fX12_runs_l7 (N : Nat) (x1 : Int32) (x2 : Int32) (Q : Int32 → St → Prop) (r7 : Int32 → St → Prop) (x3 : Int32) (σ : St) : Prop := ((x1 ≤ x3 → fX12_runs_j46 N x2 Q σ) ∧ (¬ x1 ≤ x3 → (((σ.1 0 14) ≤ 0 → fX12_runs_j46 N x2 Q σ) ∧ (¬ (σ.1 0 14) ≤ 0 → (((σ.1 0 9) = 0 → ∀ v_5 : Int32, v_5 = (σ.1 0 25) + 1 → ∀ σ_6 : St, σ_6 = u1 σ 0 25 v_5 → fX12_step N (fun σ_7 => ∀ v_8 : Int32, v_8 = x3 + 1 → r7 v_8 σ_7) σ_6) ∧ (¬ (σ.1 0 9) = 0 → fX12_runs_j46 N x2 Q σ))))))
set_option maxHeartbeats 4000000 in
set_option maxRecDepth 100000 in
theorem bX12_runs_7 {p : Program} {e : Env} {s : State} {m : MethodId} {args : Array Value} {below : List Frame} {meth : Method} {c : Code} (l : Launch) (w : Wd) (N : Nat) (Q : Int32 → St → Prop) (E : Cx 38 w X2 cX12_runs 4 RX12 (.code yX12_runs cX12_runs 4 (some .int)) (some .int) p s m args meth c) (x1 : Int32) (x2 : Int32) : ∀ (n : Nat) (x3 : Int32) (σ : St) (H : Heap) (locs : List Loc) (ls : Array Slot), Rr 38 ev2 w σ s H locs → lv_has ls 4 [(0, .ref (w.2.1 0)), (1, .int x1), (2, .int x2), (3, .int x3)] → lo1 (fX12_runs_l7 N x1 x2 Q) n x3 σ → W p l e rmX12_runs s m args below meth c H locs 0 0 (MQ below (va_Qi Q (Rp 38 ev2 w) (Aw 38 w)) args s 0 0 (Aw 38 w)) (F0 m 7 ls []) := by
  obtain ⟨hx, hb, hml, hown, hts, hr, hlk, hK, hI, hX⟩ := id E
  intro n
  induction n with
  | zero => intro x3 σ H locs ls hR hl h; exact h.elim
  | succ n ih =>
    intro x3 σ H locs ls hR hl h
    have h : fX12_runs_l7 N x1 x2 Q (lo1 (fX12_runs_l7 N x1 x2 Q) n) x3 σ := h
    unfold fX12_runs_l7 at h
    refine lv_iload_n (pc := 7) hx hb dX12_runs_7 rfl (lv_at hl 3 rfl) ?_
    refine lv_iload_n (pc := 8) hx hb dX12_runs_8 rfl (lv_at hl 1 rfl) ?_
    refine lv_icmp_ge (pc := 9) (tgt := 46) hx hb dX12_runs_9 (by decide) (fun c_2 => ?_) (fun c_2 => ?_)
    · have h := h.1 c_2
      exact bX12_runs_46 l w N Q E x2 hR (lv_sub hl [0, 2] rfl) h
    · have h := h.2 c_2
      refine lv_aload_n (pc := 12) hx hb dX12_runs_12 rfl (lv_at hl 0 rfl) ?_
      refine gf2_0_14 (pc := 13) hx hb hts hown hK hR mw282 dX12_runs_13 ?_
      refine lv_if_le (pc := 16) (tgt := 46) hx hb dX12_runs_16 (by decide) (fun c_3 => ?_) (fun c_3 => ?_)
      · have h := h.1 c_3
        exact bX12_runs_46 l w N Q E x2 hR (lv_sub hl [0, 2] rfl) h
      · have h := h.2 c_3
        refine lv_aload_n (pc := 19) hx hb dX12_runs_19 rfl (lv_at hl 0 rfl) ?_
        refine gf2_0_9 (pc := 20) hx hb hts hown hK hR mw270 dX12_runs_20 ?_
        refine lv_if_ne (pc := 23) (tgt := 46) hx hb dX12_runs_23 (by decide) (fun c_4 => ?_) (fun c_4 => ?_)
        · have h := h.2 c_4
          exact bX12_runs_46 l w N Q E x2 hR (lv_sub hl [0, 2] rfl) h
        · have h := h.1 c_4
          refine lv_aload_n (pc := 26) hx hb dX12_runs_26 rfl (lv_at hl 0 rfl) ?_
          refine lv_dup (pc := 27) hx hb dX12_runs_27 rfl ?_
          refine gf2_0_25 (pc := 28) hx hb hts hown hK hR mw324 dX12_runs_28 ?_
          refine lv_iconst (pc := 31) (v := 1) hx hb dX12_runs_31 (by decide) ?_
          refine lv_iadd (pc := 32) hx hb dX12_runs_32 ?_
          refine lv_topi (pc := 33) (fun v_5 ev_5 => ?_)
          have h := h v_5 ev_5
          refine pf2_0_25 (pc := 33) hx hb hts hown hK hI hR mw324 dX12_runs_33 (fun H locs σ_6 eσ_6 hR => ?_)
          have h := h σ_6 eσ_6
          refine lv_aload_n (pc := 36) hx hb dX12_runs_36 rfl (lv_at hl 0 rfl) ?_
          refine q_cv (pc := 37) hR (q_rV E (xp2 w) (As := []) (rest := []) (cX12_step_met l w hI N _ σ_6 h) ckX12_step cvX12_step mw325 ⟨rfl, rfl, Nat.le_of_ble_eq_true rfl, Nat.le_of_ble_eq_true rfl⟩ hR (rc2_0 w) rfl hl.1 rfl (Nat.le_of_ble_eq_true rfl) dX12_runs_37) (fun σ_7 H locs h hR => ?_)
          obtain ⟨v_8, ev_8⟩ : ∃ z : Int32, z = x3 + 1 := ⟨_, rfl⟩
          have h := h v_8 ev_8
          refine lv_iinc (pc := 40) (v := v_8) (lv' := [(3, .int v_8), (0, .ref (w.2.1 0)), (1, .int x1), (2, .int x2)]) hx hb dX12_runs_40 hl (k := 3) rfl (by rw [ev_8]; rfl) (by decide) rfl (fun ls hl => ?_)
          refine lv_goto (pc := 43) (tgt := 7) hx hb dX12_runs_43 (by decide) ?_
          exact ih v_8 σ_7 _ _ _ hR (lv_sub hl [1, 2, 3, 0] rfl) h
def fX12_runs (N : Nat) (x1 : Int32) (Q : Int32 → St → Prop) (σ : St) : Prop := ∀ v_1 : Int32, v_1 = σ.1 0 26 → lo1 (fX12_runs_l7 N x1 v_1 Q) N 0 σ
set_option maxHeartbeats 4000000 in
set_option maxRecDepth 100000 in
theorem bX12_runs_e {p : Program} {e : Env} {s : State} {m : MethodId} {args : Array Value} {below : List Frame} {meth : Method} {c : Code} (l : Launch) (w : Wd) (N : Nat) (Q : Int32 → St → Prop) (E : Cx 38 w X2 cX12_runs 4 RX12 (.code yX12_runs cX12_runs 4 (some .int)) (some .int) p s m args meth c) (x1 : Int32) {σ : St} {H : Heap} {locs : List Loc} {ls : Array Slot} (hR : Rr 38 ev2 w σ s H locs) (hl : lv_has ls 4 [(0, .ref (w.2.1 0)), (1, .int x1)]) (h : fX12_runs N x1 Q σ) : W p l e rmX12_runs s m args below meth c H locs 0 0 (MQ below (va_Qi Q (Rp 38 ev2 w) (Aw 38 w)) args s 0 0 (Aw 38 w)) (F0 m 0 ls []) := by
  obtain ⟨hx, hb, hml, hown, hts, hr, hlk, hK, hI, hX⟩ := id E
  unfold fX12_runs at h
  refine lv_aload_n (pc := 0) hx hb dX12_runs_0 rfl (lv_at hl 0 rfl) ?_
  refine gf2_0_26 (pc := 1) hx hb hts hown hK hR mw306 dX12_runs_1 ?_
  refine lv_topi (pc := 4) (fun v_1 ev_1 => ?_)
  have h := h v_1 ev_1
  refine lv_istore_n (pc := 4) (lv' := [(2, .int v_1), (0, .ref (w.2.1 0)), (1, .int x1)]) hx hb dX12_runs_4 rfl hl (by decide) rfl (fun ls hl => ?_)
  refine lv_iconst (pc := 5) (v := 0) hx hb dX12_runs_5 (by decide) ?_
  refine lv_istore_n (pc := 6) (lv' := [(3, .int 0), (2, .int v_1), (0, .ref (w.2.1 0)), (1, .int x1)]) hx hb dX12_runs_6 rfl hl (by decide) rfl (fun ls hl => ?_)
  exact bX12_runs_7 l w N Q E x1 v_1 N 0 σ _ _ _ hR (lv_sub hl [2, 3, 1, 0] rfl) h
theorem cX12_runs_met (l : Launch) (w : Wd) (hI : Ij 38 w) (N : Nat) (x1 : Int32) (Q : Int32 → St → Prop) (σ : St) (h : fX12_runs N x1 Q σ) : Met l yX12_runs (.code yX12_runs cX12_runs 4 (some .int) :: Uw) rmX12_runs (va_Pc [.ref (w.2.1 0), .int x1] (fun U => Rp 38 ev2 w σ U ∧ X2 U)) (va_Qi Q (Rp 38 ev2 w) (Aw 38 w)) 0 0 (Aw 38 w) :=
  q_met (by decide) (Nat.le_of_ble_eq_true rfl) hI (fun p e s m below meth c ls E hl hR => bX12_runs_e l w N Q E x1 hR hl h)
-- GlulxStringsModel.print(II)I
abbrev rmX12_print : Room := { frames := 9, cells := 0, slots := 0, locals := 228 }
def fX12_print (N : Nat) (x1 : Int32) (x2 : Int32) (Q : Int32 → St → Prop) (σ : St) : Prop := fX12_in N x2.toInt64 0 100000 (fun r_2 σ_1 => ((r_2 = 0 → Q (-2) σ_1) ∧ (¬ r_2 = 0 → (((σ_1.1 0 14) ≤ 0 → ∀ σ_5 : St, σ_5 = u1 σ_1 0 9 0 → fX12_prints N x1 (fun σ_6 => fX12_runs N x2 (fun r_8 σ_7 => Q r_8 σ_7) σ_6) σ_5) ∧ (¬ (σ_1.1 0 14) ≤ 0 → Q (-3) σ_1))))) σ
set_option maxHeartbeats 4000000 in
set_option maxRecDepth 100000 in
theorem bX12_print_e {p : Program} {e : Env} {s : State} {m : MethodId} {args : Array Value} {below : List Frame} {meth : Method} {c : Code} (l : Launch) (w : Wd) (N : Nat) (Q : Int32 → St → Prop) (E : Cx 38 w X2 cX12_print 3 RX12 (.code yX12_print cX12_print 3 (some .int)) (some .int) p s m args meth c) (x1 : Int32) (x2 : Int32) {σ : St} {H : Heap} {locs : List Loc} {ls : Array Slot} (hR : Rr 38 ev2 w σ s H locs) (hl : lv_has ls 3 [(0, .ref (w.2.1 0)), (1, .int x1), (2, .int x2)]) (h : fX12_print N x1 x2 Q σ) : W p l e rmX12_print s m args below meth c H locs 0 0 (MQ below (va_Qi Q (Rp 38 ev2 w) (Aw 38 w)) args s 0 0 (Aw 38 w)) (F0 m 0 ls []) := by
  obtain ⟨hx, hb, hml, hown, hts, hr, hlk, hK, hI, hX⟩ := id E
  unfold fX12_print at h
  refine lv_iload_n (pc := 0) hx hb dX12_print_0 rfl (lv_at hl 2 rfl) ?_
  refine lv_i2l (pc := 1) (v := x2.toInt64) hx hb dX12_print_1 rfl ?_
  refine lv_lconst (pc := 2) (v := 0) hx hb dX12_print_2 (by decide) ?_
  refine lv_ldc2 (pc := 3) (v := 100000) hx hb hown (hts _ (Uin mw326)) dX12_print_3 ?_
  refine q_ci (pc := 6) hR (q_rS E (xp2 w) (As := [.long x2.toInt64, .long 0, .long 100000]) (rest := []) (cX12_in_met l w hI N x2.toInt64 0 100000 _ σ h) ckX12_in csX12_in mw258 ⟨rfl, rfl, Nat.le_of_ble_eq_true rfl, Nat.le_of_ble_eq_true rfl⟩ hR rfl hl.1 rfl (Nat.le_of_ble_eq_true rfl) dX12_print_6) (fun r_2 σ_1 H locs h hR => ?_)
  refine lv_if_ne (pc := 9) (tgt := 15) hx hb dX12_print_9 (by decide) (fun c_3 => ?_) (fun c_3 => ?_)
  · have h := h.2 c_3
    refine lv_aload_n (pc := 15) hx hb dX12_print_15 rfl (lv_at hl 0 rfl) ?_
    refine gf2_0_14 (pc := 16) hx hb hts hown hK hR mw282 dX12_print_16 ?_
    refine lv_if_le (pc := 19) (tgt := 25) hx hb dX12_print_19 (by decide) (fun c_4 => ?_) (fun c_4 => ?_)
    · have h := h.1 c_4
      refine lv_aload_n (pc := 25) hx hb dX12_print_25 rfl (lv_at hl 0 rfl) ?_
      refine lv_iconst (pc := 26) (v := 0) hx hb dX12_print_26 (by decide) ?_
      refine pf2_0_9 (pc := 27) hx hb hts hown hK hI hR mw270 dX12_print_27 (fun H locs σ_5 eσ_5 hR => ?_)
      have h := h σ_5 eσ_5
      refine lv_aload_n (pc := 30) hx hb dX12_print_30 rfl (lv_at hl 0 rfl) ?_
      refine lv_iload_n (pc := 31) hx hb dX12_print_31 rfl (lv_at hl 1 rfl) ?_
      refine q_cv (pc := 32) hR (q_rV E (xp2 w) (As := [.int x1]) (rest := []) (cX12_prints_met l w hI N x1 _ σ_5 h) ckX12_prints cvX12_prints mw308 ⟨rfl, rfl, Nat.le_of_ble_eq_true rfl, Nat.le_of_ble_eq_true rfl⟩ hR (rc2_0 w) rfl hl.1 rfl (Nat.le_of_ble_eq_true rfl) dX12_print_32) (fun σ_6 H locs h hR => ?_)
      refine lv_aload_n (pc := 35) hx hb dX12_print_35 rfl (lv_at hl 0 rfl) ?_
      refine lv_iload_n (pc := 36) hx hb dX12_print_36 rfl (lv_at hl 2 rfl) ?_
      refine q_ci (pc := 37) hR (q_rV E (xp2 w) (As := [.int x2]) (rest := []) (cX12_runs_met l w hI N x2 _ σ_6 h) ckX12_runs cvX12_runs mw327 ⟨rfl, rfl, Nat.le_of_ble_eq_true rfl, Nat.le_of_ble_eq_true rfl⟩ hR (rc2_0 w) rfl hl.1 rfl (Nat.le_of_ble_eq_true rfl) dX12_print_37) (fun r_8 σ_7 H locs h hR => ?_)
      exact q_iret (pc := 40) E hR h dX12_print_40
    · have h := h.2 c_4
      refine lv_bipush (pc := 22) (v := (-3)) hx hb dX12_print_22 (by decide) ?_
      exact q_iret (pc := 24) E hR h dX12_print_24
  · have h := h.1 c_3
    refine lv_bipush (pc := 12) (v := (-2)) hx hb dX12_print_12 (by decide) ?_
    exact q_iret (pc := 14) E hR h dX12_print_14
theorem cX12_print_met (l : Launch) (w : Wd) (hI : Ij 38 w) (N : Nat) (x1 : Int32) (x2 : Int32) (Q : Int32 → St → Prop) (σ : St) (h : fX12_print N x1 x2 Q σ) : Met l yX12_print (.code yX12_print cX12_print 3 (some .int) :: Uw) rmX12_print (va_Pc [.ref (w.2.1 0), .int x1, .int x2] (fun U => Rp 38 ev2 w σ U ∧ X2 U)) (va_Qi Q (Rp 38 ev2 w) (Aw 38 w)) 0 0 (Aw 38 w) :=
  q_met (by decide) (Nat.le_of_ble_eq_true rfl) hI (fun p e s m below meth c ls E hl hR => bX12_print_e l w N Q E x1 x2 hR hl h)
-- GlulxStringsModel.number(II)I
abbrev rmX12_number : Room := { frames := 9, cells := 0, slots := 0, locals := 228 }
def fX12_number (N : Nat) (x1 : Int32) (x2 : Int32) (Q : Int32 → St → Prop) (σ : St) : Prop := fX12_in N x2.toInt64 0 100000 (fun r_2 σ_1 => ((r_2 = 0 → Q (-2) σ_1) ∧ (¬ r_2 = 0 → (((σ_1.1 0 14) ≤ 0 → ∀ σ_5 : St, σ_5 = u1 σ_1 0 9 0 → fX12_lays N 4 x1 (fun σ_6 => fX12_runs N x2 (fun r_8 σ_7 => Q r_8 σ_7) σ_6) σ_5) ∧ (¬ (σ_1.1 0 14) ≤ 0 → Q (-3) σ_1))))) σ
set_option maxHeartbeats 4000000 in
set_option maxRecDepth 100000 in
theorem bX12_number_e {p : Program} {e : Env} {s : State} {m : MethodId} {args : Array Value} {below : List Frame} {meth : Method} {c : Code} (l : Launch) (w : Wd) (N : Nat) (Q : Int32 → St → Prop) (E : Cx 38 w X2 cX12_number 3 RX12 (.code yX12_number cX12_number 3 (some .int)) (some .int) p s m args meth c) (x1 : Int32) (x2 : Int32) {σ : St} {H : Heap} {locs : List Loc} {ls : Array Slot} (hR : Rr 38 ev2 w σ s H locs) (hl : lv_has ls 3 [(0, .ref (w.2.1 0)), (1, .int x1), (2, .int x2)]) (h : fX12_number N x1 x2 Q σ) : W p l e rmX12_number s m args below meth c H locs 0 0 (MQ below (va_Qi Q (Rp 38 ev2 w) (Aw 38 w)) args s 0 0 (Aw 38 w)) (F0 m 0 ls []) := by
  obtain ⟨hx, hb, hml, hown, hts, hr, hlk, hK, hI, hX⟩ := id E
  unfold fX12_number at h
  refine lv_iload_n (pc := 0) hx hb dX12_number_0 rfl (lv_at hl 2 rfl) ?_
  refine lv_i2l (pc := 1) (v := x2.toInt64) hx hb dX12_number_1 rfl ?_
  refine lv_lconst (pc := 2) (v := 0) hx hb dX12_number_2 (by decide) ?_
  refine lv_ldc2 (pc := 3) (v := 100000) hx hb hown (hts _ (Uin mw326)) dX12_number_3 ?_
  refine q_ci (pc := 6) hR (q_rS E (xp2 w) (As := [.long x2.toInt64, .long 0, .long 100000]) (rest := []) (cX12_in_met l w hI N x2.toInt64 0 100000 _ σ h) ckX12_in csX12_in mw258 ⟨rfl, rfl, Nat.le_of_ble_eq_true rfl, Nat.le_of_ble_eq_true rfl⟩ hR rfl hl.1 rfl (Nat.le_of_ble_eq_true rfl) dX12_number_6) (fun r_2 σ_1 H locs h hR => ?_)
  refine lv_if_ne (pc := 9) (tgt := 15) hx hb dX12_number_9 (by decide) (fun c_3 => ?_) (fun c_3 => ?_)
  · have h := h.2 c_3
    refine lv_aload_n (pc := 15) hx hb dX12_number_15 rfl (lv_at hl 0 rfl) ?_
    refine gf2_0_14 (pc := 16) hx hb hts hown hK hR mw282 dX12_number_16 ?_
    refine lv_if_le (pc := 19) (tgt := 25) hx hb dX12_number_19 (by decide) (fun c_4 => ?_) (fun c_4 => ?_)
    · have h := h.1 c_4
      refine lv_aload_n (pc := 25) hx hb dX12_number_25 rfl (lv_at hl 0 rfl) ?_
      refine lv_iconst (pc := 26) (v := 0) hx hb dX12_number_26 (by decide) ?_
      refine pf2_0_9 (pc := 27) hx hb hts hown hK hI hR mw270 dX12_number_27 (fun H locs σ_5 eσ_5 hR => ?_)
      have h := h σ_5 eσ_5
      refine lv_aload_n (pc := 30) hx hb dX12_number_30 rfl (lv_at hl 0 rfl) ?_
      refine lv_iconst (pc := 31) (v := 4) hx hb dX12_number_31 (by decide) ?_
      refine lv_iload_n (pc := 32) hx hb dX12_number_32 rfl (lv_at hl 1 rfl) ?_
      refine q_cv (pc := 33) hR (q_rV E (xp2 w) (As := [.int 4, .int x1]) (rest := []) (cX12_lays_met l w hI N 4 x1 _ σ_5 h) ckX12_lays cvX12_lays mw295 ⟨rfl, rfl, Nat.le_of_ble_eq_true rfl, Nat.le_of_ble_eq_true rfl⟩ hR (rc2_0 w) rfl hl.1 rfl (Nat.le_of_ble_eq_true rfl) dX12_number_33) (fun σ_6 H locs h hR => ?_)
      refine lv_aload_n (pc := 36) hx hb dX12_number_36 rfl (lv_at hl 0 rfl) ?_
      refine lv_iload_n (pc := 37) hx hb dX12_number_37 rfl (lv_at hl 2 rfl) ?_
      refine q_ci (pc := 38) hR (q_rV E (xp2 w) (As := [.int x2]) (rest := []) (cX12_runs_met l w hI N x2 _ σ_6 h) ckX12_runs cvX12_runs mw327 ⟨rfl, rfl, Nat.le_of_ble_eq_true rfl, Nat.le_of_ble_eq_true rfl⟩ hR (rc2_0 w) rfl hl.1 rfl (Nat.le_of_ble_eq_true rfl) dX12_number_38) (fun r_8 σ_7 H locs h hR => ?_)
      exact q_iret (pc := 41) E hR h dX12_number_41
    · have h := h.2 c_4
      refine lv_bipush (pc := 22) (v := (-3)) hx hb dX12_number_22 (by decide) ?_
      exact q_iret (pc := 24) E hR h dX12_number_24
  · have h := h.1 c_3
    refine lv_bipush (pc := 12) (v := (-2)) hx hb dX12_number_12 (by decide) ?_
    exact q_iret (pc := 14) E hR h dX12_number_14
theorem cX12_number_met (l : Launch) (w : Wd) (hI : Ij 38 w) (N : Nat) (x1 : Int32) (x2 : Int32) (Q : Int32 → St → Prop) (σ : St) (h : fX12_number N x1 x2 Q σ) : Met l yX12_number (.code yX12_number cX12_number 3 (some .int) :: Uw) rmX12_number (va_Pc [.ref (w.2.1 0), .int x1, .int x2] (fun U => Rp 38 ev2 w σ U ∧ X2 U)) (va_Qi Q (Rp 38 ev2 w) (Aw 38 w)) 0 0 (Aw 38 w) :=
  q_met (by decide) (Nat.le_of_ble_eq_true rfl) hI (fun p e s m below meth c ls E hl hR => bX12_number_e l w N Q E x1 x2 hR hl h)
-- GlulxStringsModel.call(II)I
abbrev rmX12_call : Room := { frames := 9, cells := 0, slots := 0, locals := 228 }
def fX12_call_l35 (N : Nat) (x1 : Int32) (x2 : Int32) (Q : Int32 → St → Prop) (r35 : Int32 → St → Prop) (x3 : Int32) (σ : St) : Prop := (((σ.1 0 5) ≤ x3 → ∀ σ_7 : St, σ_7 = u1 σ 0 9 0 → fX12_called N x1 (σ_7.1 0 5) 255 (fun σ_8 => ∀ σ_9 : St, σ_9 = u1 σ_8 0 5 0 → fX12_runs N x2 (fun r_11 σ_10 => Q r_11 σ_10) σ_9) σ_7) ∧ (¬ (σ.1 0 5) ≤ x3 → vp_in x3 120 ∧ ∀ v_13 : Int32, v_13 = σ.1 3 x3.toNatClampNeg → vp_in x3 4 ∧ ∀ σ_15 : St, σ_15 = u1 σ 15 x3.toNatClampNeg v_13 → ∀ v_16 : Int32, v_16 = x3 + 1 → r35 v_16 σ_15))
set_option maxHeartbeats 4000000 in
set_option maxRecDepth 100000 in
theorem bX12_call_35 {p : Program} {e : Env} {s : State} {m : MethodId} {args : Array Value} {below : List Frame} {meth : Method} {c : Code} (l : Launch) (w : Wd) (N : Nat) (Q : Int32 → St → Prop) (E : Cx 38 w X2 cX12_call 4 RX12 (.code yX12_call cX12_call 4 (some .int)) (some .int) p s m args meth c) (x1 : Int32) (x2 : Int32) : ∀ (n : Nat) (x3 : Int32) (σ : St) (H : Heap) (locs : List Loc) (ls : Array Slot), Rr 38 ev2 w σ s H locs → lv_has ls 4 [(0, .ref (w.2.1 0)), (1, .int x1), (2, .int x2), (3, .int x3)] → lo1 (fX12_call_l35 N x1 x2 Q) n x3 σ → W p l e rmX12_call s m args below meth c H locs 0 0 (MQ below (va_Qi Q (Rp 38 ev2 w) (Aw 38 w)) args s 0 0 (Aw 38 w)) (F0 m 35 ls []) := by
  obtain ⟨hx, hb, hml, hown, hts, hr, hlk, hK, hI, hX⟩ := id E
  intro n
  induction n with
  | zero => intro x3 σ H locs ls hR hl h; exact h.elim
  | succ n ih =>
    intro x3 σ H locs ls hR hl h
    have h : fX12_call_l35 N x1 x2 Q (lo1 (fX12_call_l35 N x1 x2 Q) n) x3 σ := h
    unfold fX12_call_l35 at h
    refine lv_iload_n (pc := 35) hx hb dX12_call_35 rfl (lv_at hl 3 rfl) ?_
    refine lv_aload_n (pc := 36) hx hb dX12_call_36 rfl (lv_at hl 0 rfl) ?_
    refine gf2_0_5 (pc := 37) hx hb hts hown hK hR mw328 dX12_call_37 ?_
    refine lv_icmp_ge (pc := 40) (tgt := 61) hx hb dX12_call_40 (by decide) (fun c_6 => ?_) (fun c_6 => ?_)
    · have h := h.1 c_6
      refine lv_aload_n (pc := 61) hx hb dX12_call_61 rfl (lv_at hl 0 rfl) ?_
      refine lv_iconst (pc := 62) (v := 0) hx hb dX12_call_62 (by decide) ?_
      refine pf2_0_9 (pc := 63) hx hb hts hown hK hI hR mw270 dX12_call_63 (fun H locs σ_7 eσ_7 hR => ?_)
      have h := h σ_7 eσ_7
      refine lv_aload_n (pc := 66) hx hb dX12_call_66 rfl (lv_at hl 0 rfl) ?_
      refine lv_iload_n (pc := 67) hx hb dX12_call_67 rfl (lv_at hl 1 rfl) ?_
      refine lv_aload_n (pc := 68) hx hb dX12_call_68 rfl (lv_at hl 0 rfl) ?_
      refine gf2_0_5 (pc := 69) hx hb hts hown hK hR mw328 dX12_call_69 ?_
      refine lv_sipush (pc := 72) (v := 255) hx hb dX12_call_72 (by decide) ?_
      refine q_cv (pc := 75) hR (q_rV E (xp2 w) (As := [.int x1, .int (σ_7.1 0 5), .int 255]) (rest := []) (cX12_called_met l w hI N x1 (σ_7.1 0 5) 255 _ σ_7 h) ckX12_called cvX12_called mw302 ⟨rfl, rfl, Nat.le_of_ble_eq_true rfl, Nat.le_of_ble_eq_true rfl⟩ hR (rc2_0 w) rfl hl.1 rfl (Nat.le_of_ble_eq_true rfl) dX12_call_75) (fun σ_8 H locs h hR => ?_)
      refine lv_aload_n (pc := 78) hx hb dX12_call_78 rfl (lv_at hl 0 rfl) ?_
      refine lv_iconst (pc := 79) (v := 0) hx hb dX12_call_79 (by decide) ?_
      refine pf2_0_5 (pc := 80) hx hb hts hown hK hI hR mw328 dX12_call_80 (fun H locs σ_9 eσ_9 hR => ?_)
      have h := h σ_9 eσ_9
      refine lv_aload_n (pc := 83) hx hb dX12_call_83 rfl (lv_at hl 0 rfl) ?_
      refine lv_iload_n (pc := 84) hx hb dX12_call_84 rfl (lv_at hl 2 rfl) ?_
      refine q_ci (pc := 85) hR (q_rV E (xp2 w) (As := [.int x2]) (rest := []) (cX12_runs_met l w hI N x2 _ σ_9 h) ckX12_runs cvX12_runs mw327 ⟨rfl, rfl, Nat.le_of_ble_eq_true rfl, Nat.le_of_ble_eq_true rfl⟩ hR (rc2_0 w) rfl hl.1 rfl (Nat.le_of_ble_eq_true rfl) dX12_call_85) (fun r_11 σ_10 H locs h hR => ?_)
      exact q_iret (pc := 88) E hR h dX12_call_88
    · have h := h.2 c_6
      refine lv_aload_n (pc := 43) hx hb dX12_call_43 rfl (lv_at hl 0 rfl) ?_
      refine gf2_0_33 (pc := 44) hx hb hts hown hK hR mw300 dX12_call_44 ?_
      refine lv_iload_n (pc := 47) hx hb dX12_call_47 rfl (lv_at hl 3 rfl) ?_
      refine lv_aload_n (pc := 48) hx hb dX12_call_48 rfl (lv_at hl 0 rfl) ?_
      refine gf2_0_4 (pc := 49) hx hb hts hown hK hR mw329 dX12_call_49 ?_
      refine lv_iload_n (pc := 52) hx hb dX12_call_52 rfl (lv_at hl 3 rfl) ?_
      have g_12 := h.1
      have h := h.2
      refine q_iald (pc := 53) hx hb hK hR (k := 3) lt2_3 (ar2_3 _ _ _) g_12 dX12_call_53 ?_
      refine lv_topi (pc := 54) (fun v_13 ev_13 => ?_)
      have h := h v_13 ev_13
      have g_14 := h.1
      have h := h.2
      refine q_iast (pc := 54) hx hb hK hI hR (k := 15) lt2_15 (fun f => (ar2_15 _ f _)) g_14 dX12_call_54 (fun H locs σ_15 eσ_15 hR => ?_)
      have h := h σ_15 eσ_15
      obtain ⟨v_16, ev_16⟩ : ∃ z : Int32, z = x3 + 1 := ⟨_, rfl⟩
      have h := h v_16 ev_16
      refine lv_iinc (pc := 55) (v := v_16) (lv' := [(3, .int v_16), (0, .ref (w.2.1 0)), (1, .int x1), (2, .int x2)]) hx hb dX12_call_55 hl (k := 3) rfl (by rw [ev_16]; rfl) (by decide) rfl (fun ls hl => ?_)
      refine lv_goto (pc := 58) (tgt := 35) hx hb dX12_call_58 (by decide) ?_
      exact ih v_16 σ_15 _ _ _ hR (lv_sub hl [1, 2, 3, 0] rfl) h
def fX12_call (N : Nat) (x1 : Int32) (x2 : Int32) (Q : Int32 → St → Prop) (σ : St) : Prop := fX12_in N x2.toInt64 0 100000 (fun r_2 σ_1 => ((r_2 = 0 → Q (-2) σ_1) ∧ (¬ r_2 = 0 → (((σ_1.1 0 5) ≤ 4 → (((σ_1.1 0 14) ≤ 0 → lo1 (fX12_call_l35 N x1 x2 Q) N 0 σ_1) ∧ (¬ (σ_1.1 0 14) ≤ 0 → Q (-3) σ_1))) ∧ (¬ (σ_1.1 0 5) ≤ 4 → Q (-2) σ_1))))) σ
set_option maxHeartbeats 4000000 in
set_option maxRecDepth 100000 in
theorem bX12_call_e {p : Program} {e : Env} {s : State} {m : MethodId} {args : Array Value} {below : List Frame} {meth : Method} {c : Code} (l : Launch) (w : Wd) (N : Nat) (Q : Int32 → St → Prop) (E : Cx 38 w X2 cX12_call 4 RX12 (.code yX12_call cX12_call 4 (some .int)) (some .int) p s m args meth c) (x1 : Int32) (x2 : Int32) {σ : St} {H : Heap} {locs : List Loc} {ls : Array Slot} (hR : Rr 38 ev2 w σ s H locs) (hl : lv_has ls 4 [(0, .ref (w.2.1 0)), (1, .int x1), (2, .int x2)]) (h : fX12_call N x1 x2 Q σ) : W p l e rmX12_call s m args below meth c H locs 0 0 (MQ below (va_Qi Q (Rp 38 ev2 w) (Aw 38 w)) args s 0 0 (Aw 38 w)) (F0 m 0 ls []) := by
  obtain ⟨hx, hb, hml, hown, hts, hr, hlk, hK, hI, hX⟩ := id E
  unfold fX12_call at h
  refine lv_iload_n (pc := 0) hx hb dX12_call_0 rfl (lv_at hl 2 rfl) ?_
  refine lv_i2l (pc := 1) (v := x2.toInt64) hx hb dX12_call_1 rfl ?_
  refine lv_lconst (pc := 2) (v := 0) hx hb dX12_call_2 (by decide) ?_
  refine lv_ldc2 (pc := 3) (v := 100000) hx hb hown (hts _ (Uin mw326)) dX12_call_3 ?_
  refine q_ci (pc := 6) hR (q_rS E (xp2 w) (As := [.long x2.toInt64, .long 0, .long 100000]) (rest := []) (cX12_in_met l w hI N x2.toInt64 0 100000 _ σ h) ckX12_in csX12_in mw258 ⟨rfl, rfl, Nat.le_of_ble_eq_true rfl, Nat.le_of_ble_eq_true rfl⟩ hR rfl hl.1 rfl (Nat.le_of_ble_eq_true rfl) dX12_call_6) (fun r_2 σ_1 H locs h hR => ?_)
  refine lv_if_eq (pc := 9) (tgt := 20) hx hb dX12_call_9 (by decide) (fun c_3 => ?_) (fun c_3 => ?_)
  · have h := h.1 c_3
    refine lv_bipush (pc := 20) (v := (-2)) hx hb dX12_call_20 (by decide) ?_
    exact q_iret (pc := 22) E hR h dX12_call_22
  · have h := h.2 c_3
    refine lv_aload_n (pc := 12) hx hb dX12_call_12 rfl (lv_at hl 0 rfl) ?_
    refine gf2_0_5 (pc := 13) hx hb hts hown hK hR mw328 dX12_call_13 ?_
    refine lv_iconst (pc := 16) (v := 4) hx hb dX12_call_16 (by decide) ?_
    refine lv_icmp_le (pc := 17) (tgt := 23) hx hb dX12_call_17 (by decide) (fun c_4 => ?_) (fun c_4 => ?_)
    · have h := h.1 c_4
      refine lv_aload_n (pc := 23) hx hb dX12_call_23 rfl (lv_at hl 0 rfl) ?_
      refine gf2_0_14 (pc := 24) hx hb hts hown hK hR mw282 dX12_call_24 ?_
      refine lv_if_le (pc := 27) (tgt := 33) hx hb dX12_call_27 (by decide) (fun c_5 => ?_) (fun c_5 => ?_)
      · have h := h.1 c_5
        refine lv_iconst (pc := 33) (v := 0) hx hb dX12_call_33 (by decide) ?_
        refine lv_istore_n (pc := 34) (lv' := [(3, .int 0), (0, .ref (w.2.1 0)), (1, .int x1), (2, .int x2)]) hx hb dX12_call_34 rfl hl (by decide) rfl (fun ls hl => ?_)
        exact bX12_call_35 l w N Q E x1 x2 N 0 σ_1 _ _ _ hR (lv_sub hl [1, 2, 3, 0] rfl) h
      · have h := h.2 c_5
        refine lv_bipush (pc := 30) (v := (-3)) hx hb dX12_call_30 (by decide) ?_
        exact q_iret (pc := 32) E hR h dX12_call_32
    · have h := h.2 c_4
      refine lv_bipush (pc := 20) (v := (-2)) hx hb dX12_call_20 (by decide) ?_
      exact q_iret (pc := 22) E hR h dX12_call_22
theorem cX12_call_met (l : Launch) (w : Wd) (hI : Ij 38 w) (N : Nat) (x1 : Int32) (x2 : Int32) (Q : Int32 → St → Prop) (σ : St) (h : fX12_call N x1 x2 Q σ) : Met l yX12_call (.code yX12_call cX12_call 4 (some .int) :: Uw) rmX12_call (va_Pc [.ref (w.2.1 0), .int x1, .int x2] (fun U => Rp 38 ev2 w σ U ∧ X2 U)) (va_Qi Q (Rp 38 ev2 w) (Aw 38 w)) 0 0 (Aw 38 w) :=
  q_met (by decide) (Nat.le_of_ble_eq_true rfl) hI (fun p e s m below meth c ls E hl hR => bX12_call_e l w N Q E x1 x2 hR hl h)
-- GlulxStringsModel.resume(I)I
abbrev rmX12_resume : Room := { frames := 9, cells := 0, slots := 0, locals := 228 }
def fX12_resume (N : Nat) (x1 : Int32) (Q : Int32 → St → Prop) (σ : St) : Prop := fX12_in N x1.toInt64 0 100000 (fun r_2 σ_1 => ((r_2 = 0 → Q (-2) σ_1) ∧ (¬ r_2 = 0 → (((σ_1.1 0 14) = 0 → Q (-3) σ_1) ∧ (¬ (σ_1.1 0 14) = 0 → ∀ σ_5 : St, σ_5 = u1 σ_1 0 9 0 → fX12_runs N x1 (fun r_7 σ_6 => Q r_7 σ_6) σ_5))))) σ
set_option maxHeartbeats 4000000 in
set_option maxRecDepth 100000 in
theorem bX12_resume_e {p : Program} {e : Env} {s : State} {m : MethodId} {args : Array Value} {below : List Frame} {meth : Method} {c : Code} (l : Launch) (w : Wd) (N : Nat) (Q : Int32 → St → Prop) (E : Cx 38 w X2 cX12_resume 2 RX12 (.code yX12_resume cX12_resume 2 (some .int)) (some .int) p s m args meth c) (x1 : Int32) {σ : St} {H : Heap} {locs : List Loc} {ls : Array Slot} (hR : Rr 38 ev2 w σ s H locs) (hl : lv_has ls 2 [(0, .ref (w.2.1 0)), (1, .int x1)]) (h : fX12_resume N x1 Q σ) : W p l e rmX12_resume s m args below meth c H locs 0 0 (MQ below (va_Qi Q (Rp 38 ev2 w) (Aw 38 w)) args s 0 0 (Aw 38 w)) (F0 m 0 ls []) := by
  obtain ⟨hx, hb, hml, hown, hts, hr, hlk, hK, hI, hX⟩ := id E
  unfold fX12_resume at h
  refine lv_iload_n (pc := 0) hx hb dX12_resume_0 rfl (lv_at hl 1 rfl) ?_
  refine lv_i2l (pc := 1) (v := x1.toInt64) hx hb dX12_resume_1 rfl ?_
  refine lv_lconst (pc := 2) (v := 0) hx hb dX12_resume_2 (by decide) ?_
  refine lv_ldc2 (pc := 3) (v := 100000) hx hb hown (hts _ (Uin mw326)) dX12_resume_3 ?_
  refine q_ci (pc := 6) hR (q_rS E (xp2 w) (As := [.long x1.toInt64, .long 0, .long 100000]) (rest := []) (cX12_in_met l w hI N x1.toInt64 0 100000 _ σ h) ckX12_in csX12_in mw258 ⟨rfl, rfl, Nat.le_of_ble_eq_true rfl, Nat.le_of_ble_eq_true rfl⟩ hR rfl hl.1 rfl (Nat.le_of_ble_eq_true rfl) dX12_resume_6) (fun r_2 σ_1 H locs h hR => ?_)
  refine lv_if_ne (pc := 9) (tgt := 15) hx hb dX12_resume_9 (by decide) (fun c_3 => ?_) (fun c_3 => ?_)
  · have h := h.2 c_3
    refine lv_aload_n (pc := 15) hx hb dX12_resume_15 rfl (lv_at hl 0 rfl) ?_
    refine gf2_0_14 (pc := 16) hx hb hts hown hK hR mw282 dX12_resume_16 ?_
    refine lv_if_ne (pc := 19) (tgt := 25) hx hb dX12_resume_19 (by decide) (fun c_4 => ?_) (fun c_4 => ?_)
    · have h := h.2 c_4
      refine lv_aload_n (pc := 25) hx hb dX12_resume_25 rfl (lv_at hl 0 rfl) ?_
      refine lv_iconst (pc := 26) (v := 0) hx hb dX12_resume_26 (by decide) ?_
      refine pf2_0_9 (pc := 27) hx hb hts hown hK hI hR mw270 dX12_resume_27 (fun H locs σ_5 eσ_5 hR => ?_)
      have h := h σ_5 eσ_5
      refine lv_aload_n (pc := 30) hx hb dX12_resume_30 rfl (lv_at hl 0 rfl) ?_
      refine lv_iload_n (pc := 31) hx hb dX12_resume_31 rfl (lv_at hl 1 rfl) ?_
      refine q_ci (pc := 32) hR (q_rV E (xp2 w) (As := [.int x1]) (rest := []) (cX12_runs_met l w hI N x1 _ σ_5 h) ckX12_runs cvX12_runs mw327 ⟨rfl, rfl, Nat.le_of_ble_eq_true rfl, Nat.le_of_ble_eq_true rfl⟩ hR (rc2_0 w) rfl hl.1 rfl (Nat.le_of_ble_eq_true rfl) dX12_resume_32) (fun r_7 σ_6 H locs h hR => ?_)
      exact q_iret (pc := 35) E hR h dX12_resume_35
    · have h := h.1 c_4
      refine lv_bipush (pc := 22) (v := (-3)) hx hb dX12_resume_22 (by decide) ?_
      exact q_iret (pc := 24) E hR h dX12_resume_24
  · have h := h.1 c_3
    refine lv_bipush (pc := 12) (v := (-2)) hx hb dX12_resume_12 (by decide) ?_
    exact q_iret (pc := 14) E hR h dX12_resume_14
theorem cX12_resume_met (l : Launch) (w : Wd) (hI : Ij 38 w) (N : Nat) (x1 : Int32) (Q : Int32 → St → Prop) (σ : St) (h : fX12_resume N x1 Q σ) : Met l yX12_resume (.code yX12_resume cX12_resume 2 (some .int) :: Uw) rmX12_resume (va_Pc [.ref (w.2.1 0), .int x1] (fun U => Rp 38 ev2 w σ U ∧ X2 U)) (va_Qi Q (Rp 38 ev2 w) (Aw 38 w)) 0 0 (Aw 38 w) :=
  q_met (by decide) (Nat.le_of_ble_eq_true rfl) hI (fun p e s m below meth c ls E hl hR => bX12_resume_e l w N Q E x1 hR hl h)
-- GlulxStringsModel.stop()I
abbrev rmX12_stop : Room := { frames := 0, cells := 0, slots := 0, locals := 0 }
def fX12_stop (N : Nat) (Q : Int32 → St → Prop) (σ : St) : Prop := ∀ v_1 : Int32, v_1 = σ.1 0 14 → ∀ σ_2 : St, σ_2 = u1 σ 0 14 0 → Q v_1 σ_2
set_option maxHeartbeats 4000000 in
set_option maxRecDepth 100000 in
theorem bX12_stop_e {p : Program} {e : Env} {s : State} {m : MethodId} {args : Array Value} {below : List Frame} {meth : Method} {c : Code} (l : Launch) (w : Wd) (N : Nat) (Q : Int32 → St → Prop) (E : Cx 38 w X2 cX12_stop 2 RX12 (.code yX12_stop cX12_stop 2 (some .int)) (some .int) p s m args meth c) {σ : St} {H : Heap} {locs : List Loc} {ls : Array Slot} (hR : Rr 38 ev2 w σ s H locs) (hl : lv_has ls 2 [(0, .ref (w.2.1 0))]) (h : fX12_stop N Q σ) : W p l e rmX12_stop s m args below meth c H locs 0 0 (MQ below (va_Qi Q (Rp 38 ev2 w) (Aw 38 w)) args s 0 0 (Aw 38 w)) (F0 m 0 ls []) := by
  obtain ⟨hx, hb, hml, hown, hts, hr, hlk, hK, hI, hX⟩ := id E
  unfold fX12_stop at h
  refine lv_aload_n (pc := 0) hx hb dX12_stop_0 rfl (lv_at hl 0 rfl) ?_
  refine gf2_0_14 (pc := 1) hx hb hts hown hK hR mw282 dX12_stop_1 ?_
  refine lv_topi (pc := 4) (fun v_1 ev_1 => ?_)
  have h := h v_1 ev_1
  refine lv_istore_n (pc := 4) (lv' := [(1, .int v_1), (0, .ref (w.2.1 0))]) hx hb dX12_stop_4 rfl hl (by decide) rfl (fun ls hl => ?_)
  refine lv_aload_n (pc := 5) hx hb dX12_stop_5 rfl (lv_at hl 1 rfl) ?_
  refine lv_iconst (pc := 6) (v := 0) hx hb dX12_stop_6 (by decide) ?_
  refine pf2_0_14 (pc := 7) hx hb hts hown hK hI hR mw282 dX12_stop_7 (fun H locs σ_2 eσ_2 hR => ?_)
  have h := h σ_2 eσ_2
  refine lv_iload_n (pc := 10) hx hb dX12_stop_10 rfl (lv_at hl 0 rfl) ?_
  exact q_iret (pc := 11) E hR h dX12_stop_11
theorem cX12_stop_met (l : Launch) (w : Wd) (hI : Ij 38 w) (N : Nat) (Q : Int32 → St → Prop) (σ : St) (h : fX12_stop N Q σ) : Met l yX12_stop (.code yX12_stop cX12_stop 2 (some .int) :: Uw) rmX12_stop (va_Pc [.ref (w.2.1 0)] (fun U => Rp 38 ev2 w σ U ∧ X2 U)) (va_Qi Q (Rp 38 ev2 w) (Aw 38 w)) 0 0 (Aw 38 w) :=
  q_met (by decide) (Nat.le_of_ble_eq_true rfl) hI (fun p e s m below meth c ls E hl hR => bX12_stop_e l w N Q E hR hl h)
-- GlulxStringsModel.jobs()I
abbrev rmX12_jobs : Room := { frames := 0, cells := 0, slots := 0, locals := 0 }
def fX12_jobs (N : Nat) (Q : Int32 → St → Prop) (σ : St) : Prop := Q (σ.1 0 14) σ
set_option maxHeartbeats 4000000 in
set_option maxRecDepth 100000 in
theorem bX12_jobs_e {p : Program} {e : Env} {s : State} {m : MethodId} {args : Array Value} {below : List Frame} {meth : Method} {c : Code} (l : Launch) (w : Wd) (N : Nat) (Q : Int32 → St → Prop) (E : Cx 38 w X2 cX12_jobs 1 RX12 (.code yX12_jobs cX12_jobs 1 (some .int)) (some .int) p s m args meth c) {σ : St} {H : Heap} {locs : List Loc} {ls : Array Slot} (hR : Rr 38 ev2 w σ s H locs) (hl : lv_has ls 1 [(0, .ref (w.2.1 0))]) (h : fX12_jobs N Q σ) : W p l e rmX12_jobs s m args below meth c H locs 0 0 (MQ below (va_Qi Q (Rp 38 ev2 w) (Aw 38 w)) args s 0 0 (Aw 38 w)) (F0 m 0 ls []) := by
  obtain ⟨hx, hb, hml, hown, hts, hr, hlk, hK, hI, hX⟩ := id E
  unfold fX12_jobs at h
  refine lv_aload_n (pc := 0) hx hb dX12_jobs_0 rfl (lv_at hl 0 rfl) ?_
  refine gf2_0_14 (pc := 1) hx hb hts hown hK hR mw282 dX12_jobs_1 ?_
  exact q_iret (pc := 4) E hR h dX12_jobs_4
theorem cX12_jobs_met (l : Launch) (w : Wd) (hI : Ij 38 w) (N : Nat) (Q : Int32 → St → Prop) (σ : St) (h : fX12_jobs N Q σ) : Met l yX12_jobs (.code yX12_jobs cX12_jobs 1 (some .int) :: Uw) rmX12_jobs (va_Pc [.ref (w.2.1 0)] (fun U => Rp 38 ev2 w σ U ∧ X2 U)) (va_Qi Q (Rp 38 ev2 w) (Aw 38 w)) 0 0 (Aw 38 w) :=
  q_met (by decide) (Nat.le_of_ble_eq_true rfl) hI (fun p e s m below meth c ls E hl hR => bX12_jobs_e l w N Q E hR hl h)
-- GlulxStringsModel.job(II)I
abbrev rmX12_job : Room := { frames := 1, cells := 0, slots := 0, locals := 25 }
def fX12_job (N : Nat) (x1 : Int32) (x2 : Int32) (Q : Int32 → St → Prop) (σ : St) : Prop := fX12_in N x1.toInt64 0 (((σ.1 0 14) - 1).toInt64) (fun r_2 σ_1 => ((r_2 = 0 → Q 0 σ_1) ∧ (¬ r_2 = 0 → ((x2 = 0 → vp_in x1 40 ∧ Q (σ_1.1 6 x1.toNatClampNeg) σ_1) ∧ (¬ x2 = 0 → ((x2 = 1 → vp_in x1 40 ∧ Q (σ_1.1 7 x1.toNatClampNeg) σ_1) ∧ (¬ x2 = 1 → ((x2 = 2 → vp_in x1 40 ∧ Q (σ_1.1 8 x1.toNatClampNeg) σ_1) ∧ (¬ x2 = 2 → ((x2 = 3 → vp_in x1 40 ∧ Q (σ_1.1 9 x1.toNatClampNeg) σ_1) ∧ (¬ x2 = 3 → ((x2 = 4 → vp_in x1 40 ∧ (((σ_1.1 6 x1.toNatClampNeg) = 3 → vp_in x1 40 ∧ (((σ_1.1 11 x1.toNatClampNeg) = 0 → vp_in x1 40 ∧ Q (σ_1.1 12 x1.toNatClampNeg) σ_1) ∧ (¬ (σ_1.1 11 x1.toNatClampNeg) = 0 → Q (-1) σ_1))) ∧ (¬ (σ_1.1 6 x1.toNatClampNeg) = 3 → Q 0 σ_1))) ∧ (¬ x2 = 4 → vp_in x1 40 ∧ fX12_in N x2.toInt64 10 (9 + ((σ_1.1 9 x1.toNatClampNeg).toInt64)) (fun r_11 σ_10 => ((r_11 = 0 → Q 0 σ_10) ∧ (¬ r_11 = 0 → vp_in (((8 * x1) + x2) - 10) 320 ∧ Q (σ_10.1 10 (((8 * x1) + x2) - 10).toNatClampNeg) σ_10))) σ_1))))))))))))) σ
set_option maxHeartbeats 4000000 in
set_option maxRecDepth 100000 in
theorem bX12_job_e {p : Program} {e : Env} {s : State} {m : MethodId} {args : Array Value} {below : List Frame} {meth : Method} {c : Code} (l : Launch) (w : Wd) (N : Nat) (Q : Int32 → St → Prop) (E : Cx 38 w X2 cX12_job 3 RX12 (.code yX12_job cX12_job 3 (some .int)) (some .int) p s m args meth c) (x1 : Int32) (x2 : Int32) {σ : St} {H : Heap} {locs : List Loc} {ls : Array Slot} (hR : Rr 38 ev2 w σ s H locs) (hl : lv_has ls 3 [(0, .ref (w.2.1 0)), (1, .int x1), (2, .int x2)]) (h : fX12_job N x1 x2 Q σ) : W p l e rmX12_job s m args below meth c H locs 0 0 (MQ below (va_Qi Q (Rp 38 ev2 w) (Aw 38 w)) args s 0 0 (Aw 38 w)) (F0 m 0 ls []) := by
  obtain ⟨hx, hb, hml, hown, hts, hr, hlk, hK, hI, hX⟩ := id E
  unfold fX12_job at h
  refine lv_iload_n (pc := 0) hx hb dX12_job_0 rfl (lv_at hl 1 rfl) ?_
  refine lv_i2l (pc := 1) (v := x1.toInt64) hx hb dX12_job_1 rfl ?_
  refine lv_lconst (pc := 2) (v := 0) hx hb dX12_job_2 (by decide) ?_
  refine lv_aload_n (pc := 3) hx hb dX12_job_3 rfl (lv_at hl 0 rfl) ?_
  refine gf2_0_14 (pc := 4) hx hb hts hown hK hR mw282 dX12_job_4 ?_
  refine lv_iconst (pc := 7) (v := 1) hx hb dX12_job_7 (by decide) ?_
  refine lv_isub (pc := 8) hx hb dX12_job_8 ?_
  refine lv_i2l (pc := 9) (v := ((σ.1 0 14) - 1).toInt64) hx hb dX12_job_9 rfl ?_
  refine q_ci (pc := 10) hR (q_rS E (xp2 w) (As := [.long x1.toInt64, .long 0, .long (((σ.1 0 14) - 1).toInt64)]) (rest := []) (cX12_in_met l w hI N x1.toInt64 0 (((σ.1 0 14) - 1).toInt64) _ σ h) ckX12_in csX12_in mw258 ⟨rfl, rfl, Nat.le_of_ble_eq_true rfl, Nat.le_of_ble_eq_true rfl⟩ hR rfl hl.1 rfl (Nat.le_of_ble_eq_true rfl) dX12_job_10) (fun r_2 σ_1 H locs h hR => ?_)
  refine lv_if_ne (pc := 13) (tgt := 18) hx hb dX12_job_13 (by decide) (fun c_3 => ?_) (fun c_3 => ?_)
  · have h := h.2 c_3
    refine lv_iload_n (pc := 18) hx hb dX12_job_18 rfl (lv_at hl 2 rfl) ?_
    refine lv_if_ne (pc := 19) (tgt := 29) hx hb dX12_job_19 (by decide) (fun c_4 => ?_) (fun c_4 => ?_)
    · have h := h.2 c_4
      refine lv_iload_n (pc := 29) hx hb dX12_job_29 rfl (lv_at hl 2 rfl) ?_
      refine lv_iconst (pc := 30) (v := 1) hx hb dX12_job_30 (by decide) ?_
      refine lv_icmp_ne (pc := 31) (tgt := 41) hx hb dX12_job_31 (by decide) (fun c_5 => ?_) (fun c_5 => ?_)
      · have h := h.2 c_5
        refine lv_iload_n (pc := 41) hx hb dX12_job_41 rfl (lv_at hl 2 rfl) ?_
        refine lv_iconst (pc := 42) (v := 2) hx hb dX12_job_42 (by decide) ?_
        refine lv_icmp_ne (pc := 43) (tgt := 53) hx hb dX12_job_43 (by decide) (fun c_6 => ?_) (fun c_6 => ?_)
        · have h := h.2 c_6
          refine lv_iload_n (pc := 53) hx hb dX12_job_53 rfl (lv_at hl 2 rfl) ?_
          refine lv_iconst (pc := 54) (v := 3) hx hb dX12_job_54 (by decide) ?_
          refine lv_icmp_ne (pc := 55) (tgt := 65) hx hb dX12_job_55 (by decide) (fun c_7 => ?_) (fun c_7 => ?_)
          · have h := h.2 c_7
            refine lv_iload_n (pc := 65) hx hb dX12_job_65 rfl (lv_at hl 2 rfl) ?_
            refine lv_iconst (pc := 66) (v := 4) hx hb dX12_job_66 (by decide) ?_
            refine lv_icmp_ne (pc := 67) (tgt := 104) hx hb dX12_job_67 (by decide) (fun c_8 => ?_) (fun c_8 => ?_)
            · have h := h.2 c_8
              refine lv_iload_n (pc := 104) hx hb dX12_job_104 rfl (lv_at hl 2 rfl) ?_
              refine lv_i2l (pc := 105) (v := x2.toInt64) hx hb dX12_job_105 rfl ?_
              refine lv_ldc2 (pc := 106) (v := 10) hx hb hown (hts _ (Uin mw316)) dX12_job_106 ?_
              refine lv_ldc2 (pc := 109) (v := 9) hx hb hown (hts _ (Uin mw273)) dX12_job_109 ?_
              refine lv_aload_n (pc := 112) hx hb dX12_job_112 rfl (lv_at hl 0 rfl) ?_
              refine gf2_0_18 (pc := 113) hx hb hts hown hK hR mw290 dX12_job_113 ?_
              refine lv_iload_n (pc := 116) hx hb dX12_job_116 rfl (lv_at hl 1 rfl) ?_
              have g_9 := h.1
              have h := h.2
              refine q_iald (pc := 117) hx hb hK hR (k := 9) lt2_9 (ar2_9 _ _ _) g_9 dX12_job_117 ?_
              refine lv_i2l (pc := 118) (v := (σ_1.1 9 x1.toNatClampNeg).toInt64) hx hb dX12_job_118 rfl ?_
              refine lv_ladd (pc := 119) hx hb dX12_job_119 ?_
              refine q_ci (pc := 120) hR (q_rS E (xp2 w) (As := [.long x2.toInt64, .long 10, .long (9 + ((σ_1.1 9 x1.toNatClampNeg).toInt64))]) (rest := []) (cX12_in_met l w hI N x2.toInt64 10 (9 + ((σ_1.1 9 x1.toNatClampNeg).toInt64)) _ σ_1 h) ckX12_in csX12_in mw258 ⟨rfl, rfl, Nat.le_of_ble_eq_true rfl, Nat.le_of_ble_eq_true rfl⟩ hR rfl hl.1 rfl (Nat.le_of_ble_eq_true rfl) dX12_job_120) (fun r_11 σ_10 H locs h hR => ?_)
              refine lv_if_eq (pc := 123) (tgt := 143) hx hb dX12_job_123 (by decide) (fun c_12 => ?_) (fun c_12 => ?_)
              · have h := h.1 c_12
                refine lv_iconst (pc := 143) (v := 0) hx hb dX12_job_143 (by decide) ?_
                exact q_iret (pc := 144) E hR h dX12_job_144
              · have h := h.2 c_12
                refine lv_aload_n (pc := 126) hx hb dX12_job_126 rfl (lv_at hl 0 rfl) ?_
                refine gf2_0_19 (pc := 127) hx hb hts hown hK hR mw299 dX12_job_127 ?_
                refine lv_bipush (pc := 130) (v := 8) hx hb dX12_job_130 (by decide) ?_
                refine lv_iload_n (pc := 132) hx hb dX12_job_132 rfl (lv_at hl 1 rfl) ?_
                refine lv_imul (pc := 133) hx hb dX12_job_133 ?_
                refine lv_iload_n (pc := 134) hx hb dX12_job_134 rfl (lv_at hl 2 rfl) ?_
                refine lv_iadd (pc := 135) hx hb dX12_job_135 ?_
                refine lv_bipush (pc := 136) (v := 10) hx hb dX12_job_136 (by decide) ?_
                refine lv_isub (pc := 138) hx hb dX12_job_138 ?_
                have g_13 := h.1
                have h := h.2
                refine q_iald (pc := 139) hx hb hK hR (k := 10) lt2_10 (ar2_10 _ _ _) g_13 dX12_job_139 ?_
                refine lv_goto (pc := 140) (tgt := 144) hx hb dX12_job_140 (by decide) ?_
                exact q_iret (pc := 144) E hR h dX12_job_144
            · have h := h.1 c_8
              refine lv_aload_n (pc := 70) hx hb dX12_job_70 rfl (lv_at hl 0 rfl) ?_
              refine gf2_0_15 (pc := 71) hx hb hts hown hK hR mw287 dX12_job_71 ?_
              refine lv_iload_n (pc := 74) hx hb dX12_job_74 rfl (lv_at hl 1 rfl) ?_
              have g_14 := h.1
              have h := h.2
              refine q_iald (pc := 75) hx hb hK hR (k := 6) lt2_6 (ar2_6 _ _ _) g_14 dX12_job_75 ?_
              refine lv_iconst (pc := 76) (v := 3) hx hb dX12_job_76 (by decide) ?_
              refine lv_icmp_eq (pc := 77) (tgt := 84) hx hb dX12_job_77 (by decide) (fun c_15 => ?_) (fun c_15 => ?_)
              · have h := h.1 c_15
                refine lv_aload_n (pc := 84) hx hb dX12_job_84 rfl (lv_at hl 0 rfl) ?_
                refine gf2_0_20 (pc := 85) hx hb hts hown hK hR mw291 dX12_job_85 ?_
                refine lv_iload_n (pc := 88) hx hb dX12_job_88 rfl (lv_at hl 1 rfl) ?_
                have g_16 := h.1
                have h := h.2
                refine q_zald (pc := 89) hx hb hK hR (k := 11) lt2_11 (ar2_11 _ _ _) g_16 dX12_job_89 ?_
                refine lv_if_eq (pc := 90) (tgt := 97) hx hb dX12_job_90 (by decide) (fun c_17 => ?_) (fun c_17 => ?_)
                · have h := h.1 c_17
                  refine lv_aload_n (pc := 97) hx hb dX12_job_97 rfl (lv_at hl 0 rfl) ?_
                  refine gf2_0_21 (pc := 98) hx hb hts hown hK hR mw292 dX12_job_98 ?_
                  refine lv_iload_n (pc := 101) hx hb dX12_job_101 rfl (lv_at hl 1 rfl) ?_
                  have g_18 := h.1
                  have h := h.2
                  refine q_iald (pc := 102) hx hb hK hR (k := 12) lt2_12 (ar2_12 _ _ _) g_18 dX12_job_102 ?_
                  exact q_iret (pc := 103) E hR h dX12_job_103
                · have h := h.2 c_17
                  refine lv_iconst (pc := 93) (v := (-1)) hx hb dX12_job_93 (by decide) ?_
                  refine lv_goto (pc := 94) (tgt := 103) hx hb dX12_job_94 (by decide) ?_
                  exact q_iret (pc := 103) E hR h dX12_job_103
              · have h := h.2 c_15
                refine lv_iconst (pc := 80) (v := 0) hx hb dX12_job_80 (by decide) ?_
                refine lv_goto (pc := 81) (tgt := 103) hx hb dX12_job_81 (by decide) ?_
                exact q_iret (pc := 103) E hR h dX12_job_103
          · have h := h.1 c_7
            refine lv_aload_n (pc := 58) hx hb dX12_job_58 rfl (lv_at hl 0 rfl) ?_
            refine gf2_0_18 (pc := 59) hx hb hts hown hK hR mw290 dX12_job_59 ?_
            refine lv_iload_n (pc := 62) hx hb dX12_job_62 rfl (lv_at hl 1 rfl) ?_
            have g_19 := h.1
            have h := h.2
            refine q_iald (pc := 63) hx hb hK hR (k := 9) lt2_9 (ar2_9 _ _ _) g_19 dX12_job_63 ?_
            exact q_iret (pc := 64) E hR h dX12_job_64
        · have h := h.1 c_6
          refine lv_aload_n (pc := 46) hx hb dX12_job_46 rfl (lv_at hl 0 rfl) ?_
          refine gf2_0_17 (pc := 47) hx hb hts hown hK hR mw289 dX12_job_47 ?_
          refine lv_iload_n (pc := 50) hx hb dX12_job_50 rfl (lv_at hl 1 rfl) ?_
          have g_20 := h.1
          have h := h.2
          refine q_iald (pc := 51) hx hb hK hR (k := 8) lt2_8 (ar2_8 _ _ _) g_20 dX12_job_51 ?_
          exact q_iret (pc := 52) E hR h dX12_job_52
      · have h := h.1 c_5
        refine lv_aload_n (pc := 34) hx hb dX12_job_34 rfl (lv_at hl 0 rfl) ?_
        refine gf2_0_16 (pc := 35) hx hb hts hown hK hR mw288 dX12_job_35 ?_
        refine lv_iload_n (pc := 38) hx hb dX12_job_38 rfl (lv_at hl 1 rfl) ?_
        have g_21 := h.1
        have h := h.2
        refine q_iald (pc := 39) hx hb hK hR (k := 7) lt2_7 (ar2_7 _ _ _) g_21 dX12_job_39 ?_
        exact q_iret (pc := 40) E hR h dX12_job_40
    · have h := h.1 c_4
      refine lv_aload_n (pc := 22) hx hb dX12_job_22 rfl (lv_at hl 0 rfl) ?_
      refine gf2_0_15 (pc := 23) hx hb hts hown hK hR mw287 dX12_job_23 ?_
      refine lv_iload_n (pc := 26) hx hb dX12_job_26 rfl (lv_at hl 1 rfl) ?_
      have g_22 := h.1
      have h := h.2
      refine q_iald (pc := 27) hx hb hK hR (k := 6) lt2_6 (ar2_6 _ _ _) g_22 dX12_job_27 ?_
      exact q_iret (pc := 28) E hR h dX12_job_28
  · have h := h.1 c_3
    refine lv_iconst (pc := 16) (v := 0) hx hb dX12_job_16 (by decide) ?_
    exact q_iret (pc := 17) E hR h dX12_job_17
theorem cX12_job_met (l : Launch) (w : Wd) (hI : Ij 38 w) (N : Nat) (x1 : Int32) (x2 : Int32) (Q : Int32 → St → Prop) (σ : St) (h : fX12_job N x1 x2 Q σ) : Met l yX12_job (.code yX12_job cX12_job 3 (some .int) :: Uw) rmX12_job (va_Pc [.ref (w.2.1 0), .int x1, .int x2] (fun U => Rp 38 ev2 w σ U ∧ X2 U)) (va_Qi Q (Rp 38 ev2 w) (Aw 38 w)) 0 0 (Aw 38 w) :=
  q_met (by decide) (Nat.le_of_ble_eq_true rfl) hI (fun p e s m below meth c ls E hl hR => bX12_job_e l w N Q E x1 x2 hR hl h)
-- GlulxStringsModel.at(I)I
abbrev rmX12_at : Room := { frames := 1, cells := 0, slots := 0, locals := 25 }
def fX12_at (N : Nat) (x1 : Int32) (Q : Int32 → St → Prop) (σ : St) : Prop := fX12_in N x1.toInt64 0 (((σ.1 0 24) - 1).toInt64) (fun r_2 σ_1 => ((r_2 = 0 → Q (-1) σ_1) ∧ (¬ r_2 = 0 → vp_in x1 1000 ∧ Q (σ_1.1 14 x1.toNatClampNeg) σ_1))) σ
set_option maxHeartbeats 4000000 in
set_option maxRecDepth 100000 in
theorem bX12_at_e {p : Program} {e : Env} {s : State} {m : MethodId} {args : Array Value} {below : List Frame} {meth : Method} {c : Code} (l : Launch) (w : Wd) (N : Nat) (Q : Int32 → St → Prop) (E : Cx 38 w X2 cX12_at 2 RX12 (.code yX12_at cX12_at 2 (some .int)) (some .int) p s m args meth c) (x1 : Int32) {σ : St} {H : Heap} {locs : List Loc} {ls : Array Slot} (hR : Rr 38 ev2 w σ s H locs) (hl : lv_has ls 2 [(0, .ref (w.2.1 0)), (1, .int x1)]) (h : fX12_at N x1 Q σ) : W p l e rmX12_at s m args below meth c H locs 0 0 (MQ below (va_Qi Q (Rp 38 ev2 w) (Aw 38 w)) args s 0 0 (Aw 38 w)) (F0 m 0 ls []) := by
  obtain ⟨hx, hb, hml, hown, hts, hr, hlk, hK, hI, hX⟩ := id E
  unfold fX12_at at h
  refine lv_iload_n (pc := 0) hx hb dX12_at_0 rfl (lv_at hl 1 rfl) ?_
  refine lv_i2l (pc := 1) (v := x1.toInt64) hx hb dX12_at_1 rfl ?_
  refine lv_lconst (pc := 2) (v := 0) hx hb dX12_at_2 (by decide) ?_
  refine lv_aload_n (pc := 3) hx hb dX12_at_3 rfl (lv_at hl 0 rfl) ?_
  refine gf2_0_24 (pc := 4) hx hb hts hown hK hR mw304 dX12_at_4 ?_
  refine lv_iconst (pc := 7) (v := 1) hx hb dX12_at_7 (by decide) ?_
  refine lv_isub (pc := 8) hx hb dX12_at_8 ?_
  refine lv_i2l (pc := 9) (v := ((σ.1 0 24) - 1).toInt64) hx hb dX12_at_9 rfl ?_
  refine q_ci (pc := 10) hR (q_rS E (xp2 w) (As := [.long x1.toInt64, .long 0, .long (((σ.1 0 24) - 1).toInt64)]) (rest := []) (cX12_in_met l w hI N x1.toInt64 0 (((σ.1 0 24) - 1).toInt64) _ σ h) ckX12_in csX12_in mw258 ⟨rfl, rfl, Nat.le_of_ble_eq_true rfl, Nat.le_of_ble_eq_true rfl⟩ hR rfl hl.1 rfl (Nat.le_of_ble_eq_true rfl) dX12_at_10) (fun r_2 σ_1 H locs h hR => ?_)
  refine lv_if_eq (pc := 13) (tgt := 25) hx hb dX12_at_13 (by decide) (fun c_3 => ?_) (fun c_3 => ?_)
  · have h := h.1 c_3
    refine lv_iconst (pc := 25) (v := (-1)) hx hb dX12_at_25 (by decide) ?_
    exact q_iret (pc := 26) E hR h dX12_at_26
  · have h := h.2 c_3
    refine lv_aload_n (pc := 16) hx hb dX12_at_16 rfl (lv_at hl 0 rfl) ?_
    refine gf2_0_23 (pc := 17) hx hb hts hown hK hR mw305 dX12_at_17 ?_
    refine lv_iload_n (pc := 20) hx hb dX12_at_20 rfl (lv_at hl 1 rfl) ?_
    have g_4 := h.1
    have h := h.2
    refine q_iald (pc := 21) hx hb hK hR (k := 14) lt2_14 (ar2_14 _ _ _) g_4 dX12_at_21 ?_
    refine lv_goto (pc := 22) (tgt := 26) hx hb dX12_at_22 (by decide) ?_
    exact q_iret (pc := 26) E hR h dX12_at_26
theorem cX12_at_met (l : Launch) (w : Wd) (hI : Ij 38 w) (N : Nat) (x1 : Int32) (Q : Int32 → St → Prop) (σ : St) (h : fX12_at N x1 Q σ) : Met l yX12_at (.code yX12_at cX12_at 2 (some .int) :: Uw) rmX12_at (va_Pc [.ref (w.2.1 0), .int x1] (fun U => Rp 38 ev2 w σ U ∧ X2 U)) (va_Qi Q (Rp 38 ev2 w) (Aw 38 w)) 0 0 (Aw 38 w) :=
  q_met (by decide) (Nat.le_of_ble_eq_true rfl) hI (fun p e s m below meth c ls E hl hR => bX12_at_e l w N Q E x1 hR hl h)
-- GlulxStringsModel.clear()I
abbrev rmX12_clear : Room := { frames := 0, cells := 0, slots := 0, locals := 0 }
def fX12_clear (N : Nat) (Q : Int32 → St → Prop) (σ : St) : Prop := ∀ v_1 : Int32, v_1 = σ.1 0 24 → ∀ σ_2 : St, σ_2 = u1 σ 0 24 0 → Q v_1 σ_2
set_option maxHeartbeats 4000000 in
set_option maxRecDepth 100000 in
theorem bX12_clear_e {p : Program} {e : Env} {s : State} {m : MethodId} {args : Array Value} {below : List Frame} {meth : Method} {c : Code} (l : Launch) (w : Wd) (N : Nat) (Q : Int32 → St → Prop) (E : Cx 38 w X2 cX12_clear 2 RX12 (.code yX12_clear cX12_clear 2 (some .int)) (some .int) p s m args meth c) {σ : St} {H : Heap} {locs : List Loc} {ls : Array Slot} (hR : Rr 38 ev2 w σ s H locs) (hl : lv_has ls 2 [(0, .ref (w.2.1 0))]) (h : fX12_clear N Q σ) : W p l e rmX12_clear s m args below meth c H locs 0 0 (MQ below (va_Qi Q (Rp 38 ev2 w) (Aw 38 w)) args s 0 0 (Aw 38 w)) (F0 m 0 ls []) := by
  obtain ⟨hx, hb, hml, hown, hts, hr, hlk, hK, hI, hX⟩ := id E
  unfold fX12_clear at h
  refine lv_aload_n (pc := 0) hx hb dX12_clear_0 rfl (lv_at hl 0 rfl) ?_
  refine gf2_0_24 (pc := 1) hx hb hts hown hK hR mw304 dX12_clear_1 ?_
  refine lv_topi (pc := 4) (fun v_1 ev_1 => ?_)
  have h := h v_1 ev_1
  refine lv_istore_n (pc := 4) (lv' := [(1, .int v_1), (0, .ref (w.2.1 0))]) hx hb dX12_clear_4 rfl hl (by decide) rfl (fun ls hl => ?_)
  refine lv_aload_n (pc := 5) hx hb dX12_clear_5 rfl (lv_at hl 1 rfl) ?_
  refine lv_iconst (pc := 6) (v := 0) hx hb dX12_clear_6 (by decide) ?_
  refine pf2_0_24 (pc := 7) hx hb hts hown hK hI hR mw304 dX12_clear_7 (fun H locs σ_2 eσ_2 hR => ?_)
  have h := h σ_2 eσ_2
  refine lv_iload_n (pc := 10) hx hb dX12_clear_10 rfl (lv_at hl 0 rfl) ?_
  exact q_iret (pc := 11) E hR h dX12_clear_11
theorem cX12_clear_met (l : Launch) (w : Wd) (hI : Ij 38 w) (N : Nat) (Q : Int32 → St → Prop) (σ : St) (h : fX12_clear N Q σ) : Met l yX12_clear (.code yX12_clear cX12_clear 2 (some .int) :: Uw) rmX12_clear (va_Pc [.ref (w.2.1 0)] (fun U => Rp 38 ev2 w σ U ∧ X2 U)) (va_Qi Q (Rp 38 ev2 w) (Aw 38 w)) 0 0 (Aw 38 w) :=
  q_met (by decide) (Nat.le_of_ble_eq_true rfl) hI (fun p e s m below meth c ls E hl hR => bX12_clear_e l w N Q E hR hl h)
-- GlulxStringsModel.told(I)I
abbrev rmX12_told : Room := { frames := 0, cells := 0, slots := 0, locals := 0 }
def fX12_told (N : Nat) (x1 : Int32) (Q : Int32 → St → Prop) (σ : St) : Prop := ((x1 = 0 → Q (σ.1 0 25) σ) ∧ (¬ x1 = 0 → ((x1 = 1 → Q (σ.1 0 26) σ) ∧ (¬ x1 = 1 → ((x1 = 2 → Q (σ.1 0 27) σ) ∧ (¬ x1 = 2 → ((x1 = 3 → Q (σ.1 0 28) σ) ∧ (¬ x1 = 3 → ((x1 = 4 → Q (σ.1 0 29) σ) ∧ (¬ x1 = 4 → ((x1 = 5 → Q (σ.1 0 30) σ) ∧ (¬ x1 = 5 → ((x1 = 6 → Q (σ.1 0 31) σ) ∧ (¬ x1 = 6 → ((x1 = 7 → Q (σ.1 0 32) σ) ∧ (¬ x1 = 7 → ((x1 = 8 → Q (σ.1 0 12) σ) ∧ (¬ x1 = 8 → ((x1 = 9 → Q (σ.1 0 13) σ) ∧ (¬ x1 = 9 → ((x1 = 10 → Q (σ.1 0 6) σ) ∧ (¬ x1 = 10 → ((x1 = 11 → Q (σ.1 0 1) σ) ∧ (¬ x1 = 11 → ((x1 = 12 → Q (σ.1 0 24) σ) ∧ (¬ x1 = 12 → ((x1 = 13 → Q (σ.1 0 3) σ) ∧ (¬ x1 = 13 → ((x1 = 14 → Q (σ.1 0 5) σ) ∧ (¬ x1 = 14 → ((x1 = 15 → Q (σ.1 0 7) σ) ∧ (¬ x1 = 15 → ((x1 = 16 → Q (σ.1 0 36) σ) ∧ (¬ x1 = 16 → ((x1 = 17 → Q (σ.1 0 41) σ) ∧ (¬ x1 = 17 → Q (-2) σ))))))))))))))))))))))))))))))))))))
set_option maxHeartbeats 4000000 in
set_option maxRecDepth 100000 in
theorem bX12_told_e {p : Program} {e : Env} {s : State} {m : MethodId} {args : Array Value} {below : List Frame} {meth : Method} {c : Code} (l : Launch) (w : Wd) (N : Nat) (Q : Int32 → St → Prop) (E : Cx 38 w X2 cX12_told 2 RX12 (.code yX12_told cX12_told 2 (some .int)) (some .int) p s m args meth c) (x1 : Int32) {σ : St} {H : Heap} {locs : List Loc} {ls : Array Slot} (hR : Rr 38 ev2 w σ s H locs) (hl : lv_has ls 2 [(0, .ref (w.2.1 0)), (1, .int x1)]) (h : fX12_told N x1 Q σ) : W p l e rmX12_told s m args below meth c H locs 0 0 (MQ below (va_Qi Q (Rp 38 ev2 w) (Aw 38 w)) args s 0 0 (Aw 38 w)) (F0 m 0 ls []) := by
  obtain ⟨hx, hb, hml, hown, hts, hr, hlk, hK, hI, hX⟩ := id E
  unfold fX12_told at h
  refine lv_iload_n (pc := 0) hx hb dX12_told_0 rfl (lv_at hl 1 rfl) ?_
  by_cases c_1 : x1 = 0
  · refine lv_tableIn (pc := 1) (tgt := 88) (off := 87) hx hb dX12_told_1 (by rw [c_1]; decide) (by rw [c_1]; decide) (by rw [c_1]; rfl) (by decide) ?_
    have h := h.1 c_1
    refine lv_aload_n (pc := 88) hx hb dX12_told_88 rfl (lv_at hl 0 rfl) ?_
    refine gf2_0_25 (pc := 89) hx hb hts hown hK hR mw324 dX12_told_89 ?_
    exact q_iret (pc := 92) E hR h dX12_told_92
  replace h := h.2 c_1
  by_cases c_2 : x1 = 1
  · refine lv_tableIn (pc := 1) (tgt := 93) (off := 92) hx hb dX12_told_1 (by rw [c_2]; decide) (by rw [c_2]; decide) (by rw [c_2]; rfl) (by decide) ?_
    have h := h.1 c_2
    refine lv_aload_n (pc := 93) hx hb dX12_told_93 rfl (lv_at hl 0 rfl) ?_
    refine gf2_0_26 (pc := 94) hx hb hts hown hK hR mw306 dX12_told_94 ?_
    exact q_iret (pc := 97) E hR h dX12_told_97
  replace h := h.2 c_2
  by_cases c_3 : x1 = 2
  · refine lv_tableIn (pc := 1) (tgt := 98) (off := 97) hx hb dX12_told_1 (by rw [c_3]; decide) (by rw [c_3]; decide) (by rw [c_3]; rfl) (by decide) ?_
    have h := h.1 c_3
    refine lv_aload_n (pc := 98) hx hb dX12_told_98 rfl (lv_at hl 0 rfl) ?_
    refine gf2_0_27 (pc := 99) hx hb hts hown hK hR mw303 dX12_told_99 ?_
    exact q_iret (pc := 102) E hR h dX12_told_102
  replace h := h.2 c_3
  by_cases c_4 : x1 = 3
  · refine lv_tableIn (pc := 1) (tgt := 103) (off := 102) hx hb dX12_told_1 (by rw [c_4]; decide) (by rw [c_4]; decide) (by rw [c_4]; rfl) (by decide) ?_
    have h := h.1 c_4
    refine lv_aload_n (pc := 103) hx hb dX12_told_103 rfl (lv_at hl 0 rfl) ?_
    refine gf2_0_28 (pc := 104) hx hb hts hown hK hR mw301 dX12_told_104 ?_
    exact q_iret (pc := 107) E hR h dX12_told_107
  replace h := h.2 c_4
  by_cases c_5 : x1 = 4
  · refine lv_tableIn (pc := 1) (tgt := 108) (off := 107) hx hb dX12_told_1 (by rw [c_5]; decide) (by rw [c_5]; decide) (by rw [c_5]; rfl) (by decide) ?_
    have h := h.1 c_5
    refine lv_aload_n (pc := 108) hx hb dX12_told_108 rfl (lv_at hl 0 rfl) ?_
    refine gf2_0_29 (pc := 109) hx hb hts hown hK hR mw321 dX12_told_109 ?_
    exact q_iret (pc := 112) E hR h dX12_told_112
  replace h := h.2 c_5
  by_cases c_6 : x1 = 5
  · refine lv_tableIn (pc := 1) (tgt := 113) (off := 112) hx hb dX12_told_1 (by rw [c_6]; decide) (by rw [c_6]; decide) (by rw [c_6]; rfl) (by decide) ?_
    have h := h.1 c_6
    refine lv_aload_n (pc := 113) hx hb dX12_told_113 rfl (lv_at hl 0 rfl) ?_
    refine gf2_0_30 (pc := 114) hx hb hts hown hK hR mw322 dX12_told_114 ?_
    exact q_iret (pc := 117) E hR h dX12_told_117
  replace h := h.2 c_6
  by_cases c_7 : x1 = 6
  · refine lv_tableIn (pc := 1) (tgt := 118) (off := 117) hx hb dX12_told_1 (by rw [c_7]; decide) (by rw [c_7]; decide) (by rw [c_7]; rfl) (by decide) ?_
    have h := h.1 c_7
    refine lv_aload_n (pc := 118) hx hb dX12_told_118 rfl (lv_at hl 0 rfl) ?_
    refine gf2_0_31 (pc := 119) hx hb hts hown hK hR mw310 dX12_told_119 ?_
    exact q_iret (pc := 122) E hR h dX12_told_122
  replace h := h.2 c_7
  by_cases c_8 : x1 = 7
  · refine lv_tableIn (pc := 1) (tgt := 123) (off := 122) hx hb dX12_told_1 (by rw [c_8]; decide) (by rw [c_8]; decide) (by rw [c_8]; rfl) (by decide) ?_
    have h := h.1 c_8
    refine lv_aload_n (pc := 123) hx hb dX12_told_123 rfl (lv_at hl 0 rfl) ?_
    refine gf2_0_32 (pc := 124) hx hb hts hown hK hR mw294 dX12_told_124 ?_
    exact q_iret (pc := 127) E hR h dX12_told_127
  replace h := h.2 c_8
  by_cases c_9 : x1 = 8
  · refine lv_tableIn (pc := 1) (tgt := 128) (off := 127) hx hb dX12_told_1 (by rw [c_9]; decide) (by rw [c_9]; decide) (by rw [c_9]; rfl) (by decide) ?_
    have h := h.1 c_9
    refine lv_aload_n (pc := 128) hx hb dX12_told_128 rfl (lv_at hl 0 rfl) ?_
    refine gf2_0_12 (pc := 129) hx hb hts hown hK hR mw285 dX12_told_129 ?_
    exact q_iret (pc := 132) E hR h dX12_told_132
  replace h := h.2 c_9
  by_cases c_10 : x1 = 9
  · refine lv_tableIn (pc := 1) (tgt := 133) (off := 132) hx hb dX12_told_1 (by rw [c_10]; decide) (by rw [c_10]; decide) (by rw [c_10]; rfl) (by decide) ?_
    have h := h.1 c_10
    refine lv_aload_n (pc := 133) hx hb dX12_told_133 rfl (lv_at hl 0 rfl) ?_
    refine gf2_0_13 (pc := 134) hx hb hts hown hK hR mw286 dX12_told_134 ?_
    exact q_iret (pc := 137) E hR h dX12_told_137
  replace h := h.2 c_10
  by_cases c_11 : x1 = 10
  · refine lv_tableIn (pc := 1) (tgt := 138) (off := 137) hx hb dX12_told_1 (by rw [c_11]; decide) (by rw [c_11]; decide) (by rw [c_11]; rfl) (by decide) ?_
    have h := h.1 c_11
    refine lv_aload_n (pc := 138) hx hb dX12_told_138 rfl (lv_at hl 0 rfl) ?_
    refine gf2_0_6 (pc := 139) hx hb hts hown hK hR mw264 dX12_told_139 ?_
    exact q_iret (pc := 142) E hR h dX12_told_142
  replace h := h.2 c_11
  by_cases c_12 : x1 = 11
  · refine lv_tableIn (pc := 1) (tgt := 143) (off := 142) hx hb dX12_told_1 (by rw [c_12]; decide) (by rw [c_12]; decide) (by rw [c_12]; rfl) (by decide) ?_
    have h := h.1 c_12
    refine lv_aload_n (pc := 143) hx hb dX12_told_143 rfl (lv_at hl 0 rfl) ?_
    refine gf2_0_1 (pc := 144) hx hb hts hown hK hR mw268 dX12_told_144 ?_
    exact q_iret (pc := 147) E hR h dX12_told_147
  replace h := h.2 c_12
  by_cases c_13 : x1 = 12
  · refine lv_tableIn (pc := 1) (tgt := 148) (off := 147) hx hb dX12_told_1 (by rw [c_13]; decide) (by rw [c_13]; decide) (by rw [c_13]; rfl) (by decide) ?_
    have h := h.1 c_13
    refine lv_aload_n (pc := 148) hx hb dX12_told_148 rfl (lv_at hl 0 rfl) ?_
    refine gf2_0_24 (pc := 149) hx hb hts hown hK hR mw304 dX12_told_149 ?_
    exact q_iret (pc := 152) E hR h dX12_told_152
  replace h := h.2 c_13
  by_cases c_14 : x1 = 13
  · refine lv_tableIn (pc := 1) (tgt := 153) (off := 152) hx hb dX12_told_1 (by rw [c_14]; decide) (by rw [c_14]; decide) (by rw [c_14]; rfl) (by decide) ?_
    have h := h.1 c_14
    refine lv_aload_n (pc := 153) hx hb dX12_told_153 rfl (lv_at hl 0 rfl) ?_
    refine gf2_0_3 (pc := 154) hx hb hts hown hK hR mw259 dX12_told_154 ?_
    exact q_iret (pc := 157) E hR h dX12_told_157
  replace h := h.2 c_14
  by_cases c_15 : x1 = 14
  · refine lv_tableIn (pc := 1) (tgt := 158) (off := 157) hx hb dX12_told_1 (by rw [c_15]; decide) (by rw [c_15]; decide) (by rw [c_15]; rfl) (by decide) ?_
    have h := h.1 c_15
    refine lv_aload_n (pc := 158) hx hb dX12_told_158 rfl (lv_at hl 0 rfl) ?_
    refine gf2_0_5 (pc := 159) hx hb hts hown hK hR mw328 dX12_told_159 ?_
    exact q_iret (pc := 162) E hR h dX12_told_162
  replace h := h.2 c_15
  by_cases c_16 : x1 = 15
  · refine lv_tableIn (pc := 1) (tgt := 163) (off := 162) hx hb dX12_told_1 (by rw [c_16]; decide) (by rw [c_16]; decide) (by rw [c_16]; rfl) (by decide) ?_
    have h := h.1 c_16
    refine lv_aload_n (pc := 163) hx hb dX12_told_163 rfl (lv_at hl 0 rfl) ?_
    refine gf2_0_7 (pc := 164) hx hb hts hown hK hR mw263 dX12_told_164 ?_
    exact q_iret (pc := 167) E hR h dX12_told_167
  replace h := h.2 c_16
  by_cases c_17 : x1 = 16
  · refine lv_tableIn (pc := 1) (tgt := 168) (off := 167) hx hb dX12_told_1 (by rw [c_17]; decide) (by rw [c_17]; decide) (by rw [c_17]; rfl) (by decide) ?_
    have h := h.1 c_17
    refine lv_aload_n (pc := 168) hx hb dX12_told_168 rfl (lv_at hl 0 rfl) ?_
    refine gf2_0_36 (pc := 169) hx hb hts hown hK hR mw330 dX12_told_169 ?_
    exact q_iret (pc := 172) E hR h dX12_told_172
  replace h := h.2 c_17
  by_cases c_18 : x1 = 17
  · refine lv_tableIn (pc := 1) (tgt := 173) (off := 172) hx hb dX12_told_1 (by rw [c_18]; decide) (by rw [c_18]; decide) (by rw [c_18]; rfl) (by decide) ?_
    have h := h.1 c_18
    refine lv_aload_n (pc := 173) hx hb dX12_told_173 rfl (lv_at hl 0 rfl) ?_
    refine gf2_0_41 (pc := 174) hx hb hts hown hK hR mw331 dX12_told_174 ?_
    exact q_iret (pc := 177) E hR h dX12_told_177
  replace h := h.2 c_18
  have hD : W p l e rmX12_told s m args below meth c H locs 0 0 (MQ below (va_Qi Q (Rp 38 ev2 w) (Aw 38 w)) args s 0 0 (Aw 38 w)) (F0 m 178 ls []) := by
    refine lv_bipush (pc := 178) (v := (-2)) hx hb dX12_told_178 (by decide) ?_
    exact q_iret (pc := 180) E hR h dX12_told_180
  have nc_1 := ne_i (n := 0) (by decide) c_1
  have nc_2 := ne_i (n := 1) (by decide) c_2
  have nc_3 := ne_i (n := 2) (by decide) c_3
  have nc_4 := ne_i (n := 3) (by decide) c_4
  have nc_5 := ne_i (n := 4) (by decide) c_5
  have nc_6 := ne_i (n := 5) (by decide) c_6
  have nc_7 := ne_i (n := 6) (by decide) c_7
  have nc_8 := ne_i (n := 7) (by decide) c_8
  have nc_9 := ne_i (n := 8) (by decide) c_9
  have nc_10 := ne_i (n := 9) (by decide) c_10
  have nc_11 := ne_i (n := 10) (by decide) c_11
  have nc_12 := ne_i (n := 11) (by decide) c_12
  have nc_13 := ne_i (n := 12) (by decide) c_13
  have nc_14 := ne_i (n := 13) (by decide) c_14
  have nc_15 := ne_i (n := 14) (by decide) c_15
  have nc_16 := ne_i (n := 15) (by decide) c_16
  have nc_17 := ne_i (n := 16) (by decide) c_17
  have nc_18 := ne_i (n := 17) (by decide) c_18
  exact lv_tableOut (pc := 1) (tgt := 178) hx hb dX12_told_1 (by omega) (by decide) hD
theorem cX12_told_met (l : Launch) (w : Wd) (hI : Ij 38 w) (N : Nat) (x1 : Int32) (Q : Int32 → St → Prop) (σ : St) (h : fX12_told N x1 Q σ) : Met l yX12_told (.code yX12_told cX12_told 2 (some .int) :: Uw) rmX12_told (va_Pc [.ref (w.2.1 0), .int x1] (fun U => Rp 38 ev2 w σ U ∧ X2 U)) (va_Qi Q (Rp 38 ev2 w) (Aw 38 w)) 0 0 (Aw 38 w) :=
  q_met (by decide) (Nat.le_of_ble_eq_true rfl) hI (fun p e s m below meth c ls E hl hR => bX12_told_e l w N Q E x1 hR hl h)
