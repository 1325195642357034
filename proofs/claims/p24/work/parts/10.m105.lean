-- GlulxStrings$Machine.doLeaf(II)V
abbrev rmX2_doLeaf : Room := { frames := 4, cells := 0, slots := 0, locals := 96 }
def fX2_doLeaf_j106 (N : Nat) (x1 : Int32) (x2 : Int32) (Q : St → Prop) (σ : St) : Prop := fX2_enterThing N x1 x2 (fun σ_14 => Q σ_14) σ
set_option maxHeartbeats 4000000 in
set_option maxRecDepth 100000 in
theorem bX2_doLeaf_106 {p : Program} {e : Env} {s : State} {m : MethodId} {args : Array Value} {below : List Frame} {meth : Method} {c : Code} (l : Launch) (w : Wd) (N : Nat) (Q : St → Prop) (E : Cx 223 w (X1 w) cX2_doLeaf 3 RX2 (.code yX2_doLeaf cX2_doLeaf 3 none) none p s m args meth c) (x1 : Int32) (x2 : Int32) {σ : St} {H : Heap} {locs : List Loc} {ls : Array Slot} (hR : Rr 223 ev1 w σ s H locs) (hl : lv_has ls 3 [(0, .ref (w.2.1 3)), (1, .int x1), (2, .int x2)]) (h : fX2_doLeaf_j106 N x1 x2 Q σ) : W p l e rmX2_doLeaf s m args below meth c H locs 0 0 (MQ below (va_Qv Q (Rp 223 ev1 w) (Aw 223 w)) args s 0 0 (Aw 223 w)) (F0 m 106 ls []) := by
  obtain ⟨hx, hb, hml, hown, hts, hr, hlk, hK, hI, hX⟩ := id E
  unfold fX2_doLeaf_j106 at h
  refine lv_aload_n (pc := 106) hx hb dX2_doLeaf_106 rfl (lv_at hl 0 rfl) ?_
  refine lv_iload_n (pc := 107) hx hb dX2_doLeaf_107 rfl (lv_at hl 1 rfl) ?_
  refine lv_iload_n (pc := 108) hx hb dX2_doLeaf_108 rfl (lv_at hl 2 rfl) ?_
  refine q_cv (pc := 109) hR (q_rV E (xp1 w) (As := [.int x1, .int x2]) (rest := []) (cX2_enterThing_met l w hI N x1 x2 _ σ h) ckX2_enterThing cvX2_enterThing mw111 ⟨rfl, rfl, Nat.le_of_ble_eq_true rfl, Nat.le_of_ble_eq_true rfl⟩ hR (rc1_3 w) rfl hl.1 rfl (Nat.le_of_ble_eq_true rfl) dX2_doLeaf_109) (fun σ_14 H locs h hR => ?_)
  refine lv_goto (pc := 112) (tgt := 120) hx hb dX2_doLeaf_112 (by decide) ?_
  exact q_vret (pc := 120) E hR h dX2_doLeaf_120
def fX2_doLeaf_j115 (N : Nat) (Q : St → Prop) (σ : St) : Prop := fX2_fail N 3 (fun σ_17 => Q σ_17) σ
set_option maxHeartbeats 4000000 in
set_option maxRecDepth 100000 in
theorem bX2_doLeaf_115 {p : Program} {e : Env} {s : State} {m : MethodId} {args : Array Value} {below : List Frame} {meth : Method} {c : Code} (l : Launch) (w : Wd) (N : Nat) (Q : St → Prop) (E : Cx 223 w (X1 w) cX2_doLeaf 3 RX2 (.code yX2_doLeaf cX2_doLeaf 3 none) none p s m args meth c) {σ : St} {H : Heap} {locs : List Loc} {ls : Array Slot} (hR : Rr 223 ev1 w σ s H locs) (hl : lv_has ls 3 [(0, .ref (w.2.1 3))]) (h : fX2_doLeaf_j115 N Q σ) : W p l e rmX2_doLeaf s m args below meth c H locs 0 0 (MQ below (va_Qv Q (Rp 223 ev1 w) (Aw 223 w)) args s 0 0 (Aw 223 w)) (F0 m 115 ls []) := by
  obtain ⟨hx, hb, hml, hown, hts, hr, hlk, hK, hI, hX⟩ := id E
  unfold fX2_doLeaf_j115 at h
  refine lv_aload_n (pc := 115) hx hb dX2_doLeaf_115 rfl (lv_at hl 0 rfl) ?_
  refine lv_iconst (pc := 116) (v := 3) hx hb dX2_doLeaf_116 (by decide) ?_
  refine q_cv (pc := 117) hR (q_rV E (xp1 w) (As := [.int 3]) (rest := []) (cX2_fail_met l w hI N 3 _ σ h) ckX2_fail cvX2_fail mw46 ⟨rfl, rfl, Nat.le_of_ble_eq_true rfl, Nat.le_of_ble_eq_true rfl⟩ hR (rc1_3 w) rfl hl.1 rfl (Nat.le_of_ble_eq_true rfl) dX2_doLeaf_117) (fun σ_17 H locs h hR => ?_)
  exact q_vret (pc := 120) E hR h dX2_doLeaf_120
def fX2_doLeaf (N : Nat) (x1 : Int32) (x2 : Int32) (Q : St → Prop) (σ : St) : Prop := ((x2 = 2 → fX2_readByte N (x1 + 1) (fun r_3 σ_2 => fX2_give N r_3 (fun σ_4 => Q σ_4) σ_2) σ) ∧ (¬ x2 = 2 → ((x2 = 3 → fX2_begin N 1 (x1 + 1) (fun σ_6 => Q σ_6) σ) ∧ (¬ x2 = 3 → ((x2 = 4 → fX2_readFour N (x1 + 1) (fun r_9 σ_8 => fX2_give N r_9 (fun σ_10 => Q σ_10) σ_8) σ) ∧ (¬ x2 = 4 → ((x2 = 5 → fX2_begin N 2 (x1 + 1) (fun σ_12 => Q σ_12) σ) ∧ (¬ x2 = 5 → ((x2 = 8 → fX2_doLeaf_j106 N x1 x2 Q σ) ∧ (¬ x2 = 8 → ((x2 = 9 → fX2_doLeaf_j106 N x1 x2 Q σ) ∧ (¬ x2 = 9 → ((x2 = 10 → fX2_doLeaf_j106 N x1 x2 Q σ) ∧ (¬ x2 = 10 → ((x2 = 11 → fX2_doLeaf_j106 N x1 x2 Q σ) ∧ (¬ x2 = 11 → fX2_doLeaf_j115 N Q σ))))))))))))))))
set_option maxHeartbeats 4000000 in
set_option maxRecDepth 100000 in
theorem bX2_doLeaf_e {p : Program} {e : Env} {s : State} {m : MethodId} {args : Array Value} {below : List Frame} {meth : Method} {c : Code} (l : Launch) (w : Wd) (N : Nat) (Q : St → Prop) (E : Cx 223 w (X1 w) cX2_doLeaf 3 RX2 (.code yX2_doLeaf cX2_doLeaf 3 none) none p s m args meth c) (x1 : Int32) (x2 : Int32) {σ : St} {H : Heap} {locs : List Loc} {ls : Array Slot} (hR : Rr 223 ev1 w σ s H locs) (hl : lv_has ls 3 [(0, .ref (w.2.1 3)), (1, .int x1), (2, .int x2)]) (h : fX2_doLeaf N x1 x2 Q σ) : W p l e rmX2_doLeaf s m args below meth c H locs 0 0 (MQ below (va_Qv Q (Rp 223 ev1 w) (Aw 223 w)) args s 0 0 (Aw 223 w)) (F0 m 0 ls []) := by
  obtain ⟨hx, hb, hml, hown, hts, hr, hlk, hK, hI, hX⟩ := id E
  unfold fX2_doLeaf at h
  refine lv_iload_n (pc := 0) hx hb dX2_doLeaf_0 rfl (lv_at hl 2 rfl) ?_
  by_cases c_1 : x2 = 2
  · refine lv_tableIn (pc := 1) (tgt := 56) (off := 55) hx hb dX2_doLeaf_1 (by rw [c_1]; decide) (by rw [c_1]; decide) (by rw [c_1]; rfl) (by decide) ?_
    have h := h.1 c_1
    refine lv_aload_n (pc := 56) hx hb dX2_doLeaf_56 rfl (lv_at hl 0 rfl) ?_
    refine lv_aload_n (pc := 57) hx hb dX2_doLeaf_57 rfl (lv_at hl 0 rfl) ?_
    refine lv_iload_n (pc := 58) hx hb dX2_doLeaf_58 rfl (lv_at hl 1 rfl) ?_
    refine lv_iconst (pc := 59) (v := 1) hx hb dX2_doLeaf_59 (by decide) ?_
    refine lv_iadd (pc := 60) hx hb dX2_doLeaf_60 ?_
    refine q_ci (pc := 61) hR (q_rV E (xp1 w) (As := [.int (x1 + 1)]) (rest := [.ref (w.2.1 3)]) (cX2_readByte_met l w hI N (x1 + 1) _ σ h) ckX2_readByte cvX2_readByte mw60 ⟨rfl, rfl, Nat.le_of_ble_eq_true rfl, Nat.le_of_ble_eq_true rfl⟩ hR (rc1_3 w) rfl hl.1 rfl (Nat.le_of_ble_eq_true rfl) dX2_doLeaf_61) (fun r_3 σ_2 H locs h hR => ?_)
    refine q_cv (pc := 64) hR (q_rV E (xp1 w) (As := [.int r_3]) (rest := []) (cX2_give_met l w hI N r_3 _ σ_2 h) ckX2_give cvX2_give mw95 ⟨rfl, rfl, Nat.le_of_ble_eq_true rfl, Nat.le_of_ble_eq_true rfl⟩ hR (rc1_3 w) rfl hl.1 rfl (Nat.le_of_ble_eq_true rfl) dX2_doLeaf_64) (fun σ_4 H locs h hR => ?_)
    refine lv_goto (pc := 67) (tgt := 120) hx hb dX2_doLeaf_67 (by decide) ?_
    exact q_vret (pc := 120) E hR h dX2_doLeaf_120
  replace h := h.2 c_1
  by_cases c_5 : x2 = 3
  · refine lv_tableIn (pc := 1) (tgt := 70) (off := 69) hx hb dX2_doLeaf_1 (by rw [c_5]; decide) (by rw [c_5]; decide) (by rw [c_5]; rfl) (by decide) ?_
    have h := h.1 c_5
    refine lv_aload_n (pc := 70) hx hb dX2_doLeaf_70 rfl (lv_at hl 0 rfl) ?_
    refine lv_iconst (pc := 71) (v := 1) hx hb dX2_doLeaf_71 (by decide) ?_
    refine lv_iload_n (pc := 72) hx hb dX2_doLeaf_72 rfl (lv_at hl 1 rfl) ?_
    refine lv_iconst (pc := 73) (v := 1) hx hb dX2_doLeaf_73 (by decide) ?_
    refine lv_iadd (pc := 74) hx hb dX2_doLeaf_74 ?_
    refine q_cv (pc := 75) hR (q_rV E (xp1 w) (As := [.int 1, .int (x1 + 1)]) (rest := []) (cX2_begin_met l w hI N 1 (x1 + 1) _ σ h) ckX2_begin cvX2_begin mw61 ⟨rfl, rfl, Nat.le_of_ble_eq_true rfl, Nat.le_of_ble_eq_true rfl⟩ hR (rc1_3 w) rfl hl.1 rfl (Nat.le_of_ble_eq_true rfl) dX2_doLeaf_75) (fun σ_6 H locs h hR => ?_)
    refine lv_goto (pc := 78) (tgt := 120) hx hb dX2_doLeaf_78 (by decide) ?_
    exact q_vret (pc := 120) E hR h dX2_doLeaf_120
  replace h := h.2 c_5
  by_cases c_7 : x2 = 4
  · refine lv_tableIn (pc := 1) (tgt := 81) (off := 80) hx hb dX2_doLeaf_1 (by rw [c_7]; decide) (by rw [c_7]; decide) (by rw [c_7]; rfl) (by decide) ?_
    have h := h.1 c_7
    refine lv_aload_n (pc := 81) hx hb dX2_doLeaf_81 rfl (lv_at hl 0 rfl) ?_
    refine lv_aload_n (pc := 82) hx hb dX2_doLeaf_82 rfl (lv_at hl 0 rfl) ?_
    refine lv_iload_n (pc := 83) hx hb dX2_doLeaf_83 rfl (lv_at hl 1 rfl) ?_
    refine lv_iconst (pc := 84) (v := 1) hx hb dX2_doLeaf_84 (by decide) ?_
    refine lv_iadd (pc := 85) hx hb dX2_doLeaf_85 ?_
    refine q_ci (pc := 86) hR (q_rV E (xp1 w) (As := [.int (x1 + 1)]) (rest := [.ref (w.2.1 3)]) (cX2_readFour_met l w hI N (x1 + 1) _ σ h) ckX2_readFour cvX2_readFour mw65 ⟨rfl, rfl, Nat.le_of_ble_eq_true rfl, Nat.le_of_ble_eq_true rfl⟩ hR (rc1_3 w) rfl hl.1 rfl (Nat.le_of_ble_eq_true rfl) dX2_doLeaf_86) (fun r_9 σ_8 H locs h hR => ?_)
    refine q_cv (pc := 89) hR (q_rV E (xp1 w) (As := [.int r_9]) (rest := []) (cX2_give_met l w hI N r_9 _ σ_8 h) ckX2_give cvX2_give mw95 ⟨rfl, rfl, Nat.le_of_ble_eq_true rfl, Nat.le_of_ble_eq_true rfl⟩ hR (rc1_3 w) rfl hl.1 rfl (Nat.le_of_ble_eq_true rfl) dX2_doLeaf_89) (fun σ_10 H locs h hR => ?_)
    refine lv_goto (pc := 92) (tgt := 120) hx hb dX2_doLeaf_92 (by decide) ?_
    exact q_vret (pc := 120) E hR h dX2_doLeaf_120
  replace h := h.2 c_7
  by_cases c_11 : x2 = 5
  · refine lv_tableIn (pc := 1) (tgt := 95) (off := 94) hx hb dX2_doLeaf_1 (by rw [c_11]; decide) (by rw [c_11]; decide) (by rw [c_11]; rfl) (by decide) ?_
    have h := h.1 c_11
    refine lv_aload_n (pc := 95) hx hb dX2_doLeaf_95 rfl (lv_at hl 0 rfl) ?_
    refine lv_iconst (pc := 96) (v := 2) hx hb dX2_doLeaf_96 (by decide) ?_
    refine lv_iload_n (pc := 97) hx hb dX2_doLeaf_97 rfl (lv_at hl 1 rfl) ?_
    refine lv_iconst (pc := 98) (v := 1) hx hb dX2_doLeaf_98 (by decide) ?_
    refine lv_iadd (pc := 99) hx hb dX2_doLeaf_99 ?_
    refine q_cv (pc := 100) hR (q_rV E (xp1 w) (As := [.int 2, .int (x1 + 1)]) (rest := []) (cX2_begin_met l w hI N 2 (x1 + 1) _ σ h) ckX2_begin cvX2_begin mw61 ⟨rfl, rfl, Nat.le_of_ble_eq_true rfl, Nat.le_of_ble_eq_true rfl⟩ hR (rc1_3 w) rfl hl.1 rfl (Nat.le_of_ble_eq_true rfl) dX2_doLeaf_100) (fun σ_12 H locs h hR => ?_)
    refine lv_goto (pc := 103) (tgt := 120) hx hb dX2_doLeaf_103 (by decide) ?_
    exact q_vret (pc := 120) E hR h dX2_doLeaf_120
  replace h := h.2 c_11
  by_cases c_13 : x2 = 8
  · refine lv_tableIn (pc := 1) (tgt := 106) (off := 105) hx hb dX2_doLeaf_1 (by rw [c_13]; decide) (by rw [c_13]; decide) (by rw [c_13]; rfl) (by decide) ?_
    have h := h.1 c_13
    exact bX2_doLeaf_106 l w N Q E x1 x2 hR (lv_sub hl [0, 1, 2] rfl) h
  replace h := h.2 c_13
  by_cases c_14 : x2 = 9
  · refine lv_tableIn (pc := 1) (tgt := 106) (off := 105) hx hb dX2_doLeaf_1 (by rw [c_14]; decide) (by rw [c_14]; decide) (by rw [c_14]; rfl) (by decide) ?_
    have h := h.1 c_14
    exact bX2_doLeaf_106 l w N Q E x1 x2 hR (lv_sub hl [0, 1, 2] rfl) h
  replace h := h.2 c_14
  by_cases c_15 : x2 = 10
  · refine lv_tableIn (pc := 1) (tgt := 106) (off := 105) hx hb dX2_doLeaf_1 (by rw [c_15]; decide) (by rw [c_15]; decide) (by rw [c_15]; rfl) (by decide) ?_
    have h := h.1 c_15
    exact bX2_doLeaf_106 l w N Q E x1 x2 hR (lv_sub hl [0, 1, 2] rfl) h
  replace h := h.2 c_15
  by_cases c_16 : x2 = 11
  · refine lv_tableIn (pc := 1) (tgt := 106) (off := 105) hx hb dX2_doLeaf_1 (by rw [c_16]; decide) (by rw [c_16]; decide) (by rw [c_16]; rfl) (by decide) ?_
    have h := h.1 c_16
    exact bX2_doLeaf_106 l w N Q E x1 x2 hR (lv_sub hl [0, 1, 2] rfl) h
  replace h := h.2 c_16
  have hD : W p l e rmX2_doLeaf s m args below meth c H locs 0 0 (MQ below (va_Qv Q (Rp 223 ev1 w) (Aw 223 w)) args s 0 0 (Aw 223 w)) (F0 m 115 ls []) := by
    exact bX2_doLeaf_115 l w N Q E hR (lv_sub hl [0] rfl) h
  by_cases c_17 : x2 = 6
  · exact lv_tableIn (pc := 1) (tgt := 115) (off := 114) hx hb dX2_doLeaf_1 (by rw [c_17]; decide) (by rw [c_17]; decide) (by rw [c_17]; rfl) (by decide) hD
  by_cases c_18 : x2 = 7
  · exact lv_tableIn (pc := 1) (tgt := 115) (off := 114) hx hb dX2_doLeaf_1 (by rw [c_18]; decide) (by rw [c_18]; decide) (by rw [c_18]; rfl) (by decide) hD
  have nc_1 := ne_i (n := 2) (by decide) c_1
  have nc_5 := ne_i (n := 3) (by decide) c_5
  have nc_7 := ne_i (n := 4) (by decide) c_7
  have nc_11 := ne_i (n := 5) (by decide) c_11
  have nc_13 := ne_i (n := 8) (by decide) c_13
  have nc_14 := ne_i (n := 9) (by decide) c_14
  have nc_15 := ne_i (n := 10) (by decide) c_15
  have nc_16 := ne_i (n := 11) (by decide) c_16
  have nc_17 := ne_i (n := 6) (by decide) c_17
  have nc_18 := ne_i (n := 7) (by decide) c_18
  exact lv_tableOut (pc := 1) (tgt := 115) hx hb dX2_doLeaf_1 (by omega) (by decide) hD
theorem cX2_doLeaf_met (l : Launch) (w : Wd) (hI : Ij 223 w) (N : Nat) (x1 : Int32) (x2 : Int32) (Q : St → Prop) (σ : St) (h : fX2_doLeaf N x1 x2 Q σ) : Met l yX2_doLeaf (.code yX2_doLeaf cX2_doLeaf 3 none :: Uw) rmX2_doLeaf (va_Pc [.ref (w.2.1 3), .int x1, .int x2] (fun U => Rp 223 ev1 w σ U ∧ (X1 w) U)) (va_Qv Q (Rp 223 ev1 w) (Aw 223 w)) 0 0 (Aw 223 w) :=
  q_met (by decide) (Nat.le_of_ble_eq_true rfl) hI (fun p e s m below meth c ls E hl hR => bX2_doLeaf_e l w N Q E x1 x2 hR hl h)
-- GlulxStrings$Machine.stepPacked(LGlulxStrings$Job;)V
abbrev rmX2_stepPacked : Room := { frames := 5, cells := 0, slots := 0, locals := 118 }
def fX2_stepPacked_j44 (N : Nat) (k1 : Nat) (t0 : Int32) (Q : St → Prop) (σ : St) : Prop := (((σ.1 3 11) = 0 → fX2_readByte N t0 (fun r_5 σ_4 => (((σ_4.1 3 11) = 0 → ((r_5 = 0 → fX2_followBranch N k1 t0 (fun σ_13 => Q σ_13) σ_4) ∧ (¬ r_5 = 0 → ((r_5 = 1 → ∀ v_11 : Int32, v_11 = (σ_4.1 3 7) - 1 → ∀ σ_12 : St, σ_12 = u1 σ_4 3 7 v_11 → Q σ_12) ∧ (¬ r_5 = 1 → ∀ σ_9 : St, σ_9 = u1 σ_4 k1 5 1 → fX2_doLeaf N t0 r_5 (fun σ_10 => Q σ_10) σ_9))))) ∧ (¬ (σ_4.1 3 11) = 0 → Q σ_4))) σ) ∧ (¬ (σ.1 3 11) = 0 → Q σ))
set_option maxHeartbeats 4000000 in
set_option maxRecDepth 100000 in
theorem bX2_stepPacked_44 {p : Program} {e : Env} {s : State} {m : MethodId} {args : Array Value} {below : List Frame} {meth : Method} {c : Code} (l : Launch) (w : Wd) (N : Nat) (Q : St → Prop) (E : Cx 223 w (X1 w) cX2_stepPacked 4 RX2 (.code yX2_stepPacked cX2_stepPacked 4 none) none p s m args meth c) (k1 : Nat) (t0 : Int32) (hk1 : jobK k1) {σ : St} {H : Heap} {locs : List Loc} {ls : Array Slot} (hR : Rr 223 ev1 w σ s H locs) (hl : lv_has ls 4 [(0, .ref (w.2.1 3)), (1, .ref (w.2.1 k1))]) (h : fX2_stepPacked_j44 N k1 t0 Q σ) : W p l e rmX2_stepPacked s m args below meth c H locs 0 0 (MQ below (va_Qv Q (Rp 223 ev1 w) (Aw 223 w)) args s 0 0 (Aw 223 w)) (F0 m 44 ls [.int t0]) := by
  obtain ⟨hx, hb, hml, hown, hts, hr, hlk, hK, hI, hX⟩ := id E
  unfold fX2_stepPacked_j44 at h
  refine lv_istore_n (pc := 44) (lv' := [(2, .int t0), (0, .ref (w.2.1 3)), (1, .ref (w.2.1 k1))]) hx hb dX2_stepPacked_44 rfl hl (by decide) rfl (fun ls hl => ?_)
  refine lv_aload_n (pc := 45) hx hb dX2_stepPacked_45 rfl (lv_at hl 1 rfl) ?_
  refine gf1_3_11 (pc := 46) hx hb hts hown hK hR mw42 dX2_stepPacked_46 ?_
  refine lv_if_eq (pc := 49) (tgt := 53) hx hb dX2_stepPacked_49 (by decide) (fun c_3 => ?_) (fun c_3 => ?_)
  · have h := h.1 c_3
    refine lv_aload_n (pc := 53) hx hb dX2_stepPacked_53 rfl (lv_at hl 1 rfl) ?_
    refine lv_iload_n (pc := 54) hx hb dX2_stepPacked_54 rfl (lv_at hl 0 rfl) ?_
    refine q_ci (pc := 55) hR (q_rV E (xp1 w) (As := [.int t0]) (rest := []) (cX2_readByte_met l w hI N t0 _ σ h) ckX2_readByte cvX2_readByte mw60 ⟨rfl, rfl, Nat.le_of_ble_eq_true rfl, Nat.le_of_ble_eq_true rfl⟩ hR (rc1_3 w) rfl hl.1 rfl (Nat.le_of_ble_eq_true rfl) dX2_stepPacked_55) (fun r_5 σ_4 H locs h hR => ?_)
    refine lv_istore_n (pc := 58) (lv' := [(3, .int r_5), (2, .int t0), (0, .ref (w.2.1 3)), (1, .ref (w.2.1 k1))]) hx hb dX2_stepPacked_58 rfl hl (by decide) rfl (fun ls hl => ?_)
    refine lv_aload_n (pc := 59) hx hb dX2_stepPacked_59 rfl (lv_at hl 2 rfl) ?_
    refine gf1_3_11 (pc := 60) hx hb hts hown hK hR mw42 dX2_stepPacked_60 ?_
    refine lv_if_eq (pc := 63) (tgt := 67) hx hb dX2_stepPacked_63 (by decide) (fun c_6 => ?_) (fun c_6 => ?_)
    · have h := h.1 c_6
      refine lv_iload_n (pc := 67) hx hb dX2_stepPacked_67 rfl (lv_at hl 0 rfl) ?_
      refine lv_if_ne (pc := 68) (tgt := 80) hx hb dX2_stepPacked_68 (by decide) (fun c_7 => ?_) (fun c_7 => ?_)
      · have h := h.2 c_7
        refine lv_iload_n (pc := 80) hx hb dX2_stepPacked_80 rfl (lv_at hl 0 rfl) ?_
        refine lv_iconst (pc := 81) (v := 1) hx hb dX2_stepPacked_81 (by decide) ?_
        refine lv_icmp_ne (pc := 82) (tgt := 98) hx hb dX2_stepPacked_82 (by decide) (fun c_8 => ?_) (fun c_8 => ?_)
        · have h := h.2 c_8
          refine lv_aload_n (pc := 98) hx hb dX2_stepPacked_98 rfl (lv_at hl 3 rfl) ?_
          refine lv_iconst (pc := 99) (v := 1) hx hb dX2_stepPacked_99 (by decide) ?_
          refine pfj_5 (pc := 100) hk1 hx hb hts hown hK hI hR mw109 rfl rfl dX2_stepPacked_100 (fun H locs σ_9 eσ_9 hR => ?_)
          have h := h σ_9 eσ_9
          refine lv_aload_n (pc := 103) hx hb dX2_stepPacked_103 rfl (lv_at hl 2 rfl) ?_
          refine lv_iload_n (pc := 104) hx hb dX2_stepPacked_104 rfl (lv_at hl 1 rfl) ?_
          refine lv_iload_n (pc := 105) hx hb dX2_stepPacked_105 rfl (lv_at hl 0 rfl) ?_
          refine q_cv (pc := 106) hR (q_rV E (xp1 w) (As := [.int t0, .int r_5]) (rest := []) (cX2_doLeaf_met l w hI N t0 r_5 _ σ_9 h) ckX2_doLeaf cvX2_doLeaf mw112 ⟨rfl, rfl, Nat.le_of_ble_eq_true rfl, Nat.le_of_ble_eq_true rfl⟩ hR (rc1_3 w) rfl hl.1 rfl (Nat.le_of_ble_eq_true rfl) dX2_stepPacked_106) (fun σ_10 H locs h hR => ?_)
          exact q_vret (pc := 109) E hR h dX2_stepPacked_109
        · have h := h.1 c_8
          refine lv_aload_n (pc := 85) hx hb dX2_stepPacked_85 rfl (lv_at hl 2 rfl) ?_
          refine lv_dup (pc := 86) hx hb dX2_stepPacked_86 rfl ?_
          refine gf1_3_7 (pc := 87) hx hb hts hown hK hR mw54 dX2_stepPacked_87 ?_
          refine lv_iconst (pc := 90) (v := 1) hx hb dX2_stepPacked_90 (by decide) ?_
          refine lv_isub (pc := 91) hx hb dX2_stepPacked_91 ?_
          refine lv_topi (pc := 92) (fun v_11 ev_11 => ?_)
          have h := h v_11 ev_11
          refine pf1_3_7 (pc := 92) hx hb hts hown hK hI hR mw54 dX2_stepPacked_92 (fun H locs σ_12 eσ_12 hR => ?_)
          have h := h σ_12 eσ_12
          refine lv_goto (pc := 95) (tgt := 109) hx hb dX2_stepPacked_95 (by decide) ?_
          exact q_vret (pc := 109) E hR h dX2_stepPacked_109
      · have h := h.1 c_7
        refine lv_aload_n (pc := 71) hx hb dX2_stepPacked_71 rfl (lv_at hl 2 rfl) ?_
        refine lv_aload_n (pc := 72) hx hb dX2_stepPacked_72 rfl (lv_at hl 3 rfl) ?_
        refine lv_iload_n (pc := 73) hx hb dX2_stepPacked_73 rfl (lv_at hl 1 rfl) ?_
        refine q_cv (pc := 74) hR (q_rV E (xp1 w) (As := [.ref (w.2.1 k1), .int t0]) (rest := []) (cX2_followBranch_met l w hI N k1 t0 hk1 _ σ_4 h) ckX2_followBranch cvX2_followBranch mw113 ⟨rfl, rfl, Nat.le_of_ble_eq_true rfl, Nat.le_of_ble_eq_true rfl⟩ hR (rc1_3 w) rfl hl.1 rfl (Nat.le_of_ble_eq_true rfl) dX2_stepPacked_74) (fun σ_13 H locs h hR => ?_)
        refine lv_goto (pc := 77) (tgt := 109) hx hb dX2_stepPacked_77 (by decide) ?_
        exact q_vret (pc := 109) E hR h dX2_stepPacked_109
    · have h := h.2 c_6
      exact q_vret (pc := 66) E hR h dX2_stepPacked_66
  · have h := h.2 c_3
    exact q_vret (pc := 52) E hR h dX2_stepPacked_52
def fX2_stepPacked (N : Nat) (k1 : Nat) (Q : St → Prop) (σ : St) : Prop := (((σ.1 2 8) = 0 → fX2_fail N 2 (fun σ_5 => Q σ_5) σ) ∧ (¬ (σ.1 2 8) = 0 → (((σ.1 k1 5) = 0 → fX2_stepPacked_j44 N k1 (σ.1 k1 6) Q σ) ∧ (¬ (σ.1 k1 5) = 0 → fX2_readFour N ((σ.1 2 8) + 8) (fun r_4 σ_3 => fX2_stepPacked_j44 N k1 r_4 Q σ_3) σ))))
set_option maxHeartbeats 4000000 in
set_option maxRecDepth 100000 in
theorem bX2_stepPacked_e {p : Program} {e : Env} {s : State} {m : MethodId} {args : Array Value} {below : List Frame} {meth : Method} {c : Code} (l : Launch) (w : Wd) (N : Nat) (Q : St → Prop) (E : Cx 223 w (X1 w) cX2_stepPacked 4 RX2 (.code yX2_stepPacked cX2_stepPacked 4 none) none p s m args meth c) (k1 : Nat) (hk1 : jobK k1) {σ : St} {H : Heap} {locs : List Loc} {ls : Array Slot} (hR : Rr 223 ev1 w σ s H locs) (hl : lv_has ls 4 [(0, .ref (w.2.1 3)), (1, .ref (w.2.1 k1))]) (h : fX2_stepPacked N k1 Q σ) : W p l e rmX2_stepPacked s m args below meth c H locs 0 0 (MQ below (va_Qv Q (Rp 223 ev1 w) (Aw 223 w)) args s 0 0 (Aw 223 w)) (F0 m 0 ls []) := by
  obtain ⟨hx, hb, hml, hown, hts, hr, hlk, hK, hI, hX⟩ := id E
  unfold fX2_stepPacked at h
  refine lv_aload_n (pc := 0) hx hb dX2_stepPacked_0 rfl (lv_at hl 0 rfl) ?_
  refine gf1_3_1 (pc := 1) hx hb hts hown hK hR mw83 dX2_stepPacked_1 ?_
  refine gf1_2_8 (pc := 4) hx hb hts hown hK hR mw84 dX2_stepPacked_4 ?_
  refine lv_if_ne (pc := 7) (tgt := 16) hx hb dX2_stepPacked_7 (by decide) (fun c_1 => ?_) (fun c_1 => ?_)
  · have h := h.2 c_1
    refine lv_aload_n (pc := 16) hx hb dX2_stepPacked_16 rfl (lv_at hl 1 rfl) ?_
    refine gfj_5 (pc := 17) hk1 hx hb hts hown hK hR mw109 dX2_stepPacked_17 ?_
    refine lv_if_eq (pc := 20) (tgt := 40) hx hb dX2_stepPacked_20 (by decide) (fun c_2 => ?_) (fun c_2 => ?_)
    · have h := h.1 c_2
      refine lv_aload_n (pc := 40) hx hb dX2_stepPacked_40 rfl (lv_at hl 1 rfl) ?_
      refine gfj_6 (pc := 41) hk1 hx hb hts hown hK hR mw108 dX2_stepPacked_41 ?_
      exact bX2_stepPacked_44 l w N Q E k1 (σ.1 k1 6) hk1 hR (lv_sub hl [0, 1] rfl) h
    · have h := h.2 c_2
      refine lv_aload_n (pc := 23) hx hb dX2_stepPacked_23 rfl (lv_at hl 0 rfl) ?_
      refine lv_aload_n (pc := 24) hx hb dX2_stepPacked_24 rfl (lv_at hl 0 rfl) ?_
      refine gf1_3_1 (pc := 25) hx hb hts hown hK hR mw83 dX2_stepPacked_25 ?_
      refine gf1_2_8 (pc := 28) hx hb hts hown hK hR mw84 dX2_stepPacked_28 ?_
      refine lv_bipush (pc := 31) (v := 8) hx hb dX2_stepPacked_31 (by decide) ?_
      refine lv_iadd (pc := 33) hx hb dX2_stepPacked_33 ?_
      refine q_ci (pc := 34) hR (q_rV E (xp1 w) (As := [.int ((σ.1 2 8) + 8)]) (rest := []) (cX2_readFour_met l w hI N ((σ.1 2 8) + 8) _ σ h) ckX2_readFour cvX2_readFour mw65 ⟨rfl, rfl, Nat.le_of_ble_eq_true rfl, Nat.le_of_ble_eq_true rfl⟩ hR (rc1_3 w) rfl hl.1 rfl (Nat.le_of_ble_eq_true rfl) dX2_stepPacked_34) (fun r_4 σ_3 H locs h hR => ?_)
      refine lv_goto (pc := 37) (tgt := 44) hx hb dX2_stepPacked_37 (by decide) ?_
      exact bX2_stepPacked_44 l w N Q E k1 r_4 hk1 hR (lv_sub hl [0, 1] rfl) h
  · have h := h.1 c_1
    refine lv_aload_n (pc := 10) hx hb dX2_stepPacked_10 rfl (lv_at hl 0 rfl) ?_
    refine lv_iconst (pc := 11) (v := 2) hx hb dX2_stepPacked_11 (by decide) ?_
    refine q_cv (pc := 12) hR (q_rV E (xp1 w) (As := [.int 2]) (rest := []) (cX2_fail_met l w hI N 2 _ σ h) ckX2_fail cvX2_fail mw46 ⟨rfl, rfl, Nat.le_of_ble_eq_true rfl, Nat.le_of_ble_eq_true rfl⟩ hR (rc1_3 w) rfl hl.1 rfl (Nat.le_of_ble_eq_true rfl) dX2_stepPacked_12) (fun σ_5 H locs h hR => ?_)
    exact q_vret (pc := 15) E hR h dX2_stepPacked_15
theorem cX2_stepPacked_met (l : Launch) (w : Wd) (hI : Ij 223 w) (N : Nat) (k1 : Nat) (hk1 : jobK k1) (Q : St → Prop) (σ : St) (h : fX2_stepPacked N k1 Q σ) : Met l yX2_stepPacked (.code yX2_stepPacked cX2_stepPacked 4 none :: Uw) rmX2_stepPacked (va_Pc [.ref (w.2.1 3), .ref (w.2.1 k1)] (fun U => Rp 223 ev1 w σ U ∧ (X1 w) U)) (va_Qv Q (Rp 223 ev1 w) (Aw 223 w)) 0 0 (Aw 223 w) :=
  q_met (by decide) (Nat.le_of_ble_eq_true rfl) hI (fun p e s m below meth c ls E hl hR => bX2_stepPacked_e l w N Q E k1 hk1 hR hl h)
-- GlulxStrings$Machine.digitCount(J)I
abbrev rmX2_digitCount : Room := { frames := 0, cells := 0, slots := 0, locals := 0 }
def fX2_digitCount_l8 (N : Nat) (Q : Int32 → St → Prop) (r8 : Int32 → Int64 → St → Prop) (x2 : Int32) (x3 : Int64) (σ : St) : Prop := ((x3 ≤ 0 → Q x2 σ) ∧ (¬ x3 ≤ 0 → ((20 ≤ x2 → Q x2 σ) ∧ (¬ 20 ≤ x2 → ∀ v_4 : Int64, v_4 = x3 / 10 → ∀ v_5 : Int32, v_5 = x2 + 1 → r8 v_5 v_4 σ))))
set_option maxHeartbeats 4000000 in
set_option maxRecDepth 100000 in
theorem bX2_digitCount_8 {p : Program} {e : Env} {s : State} {m : MethodId} {args : Array Value} {below : List Frame} {meth : Method} {c : Code} (l : Launch) (w : Wd) (N : Nat) (Q : Int32 → St → Prop) (E : Cx 223 w (X1 w) cX2_digitCount 5 RX2 (.code yX2_digitCount cX2_digitCount 5 (some .int)) (some .int) p s m args meth c) : ∀ (n : Nat) (x2 : Int32) (x3 : Int64) (σ : St) (H : Heap) (locs : List Loc) (ls : Array Slot), Rr 223 ev1 w σ s H locs → lv_has ls 5 [(2, .int x2), (3, .long x3)] → lo2 (fX2_digitCount_l8 N Q) n x2 x3 σ → W p l e rmX2_digitCount s m args below meth c H locs 0 0 (MQ below (va_Qi Q (Rp 223 ev1 w) (Aw 223 w)) args s 0 0 (Aw 223 w)) (F0 m 8 ls []) := by
  obtain ⟨hx, hb, hml, hown, hts, hr, hlk, hK, hI, hX⟩ := id E
  intro n
  induction n with
  | zero => intro x2 x3 σ H locs ls hR hl h; exact h.elim
  | succ n ih =>
    intro x2 x3 σ H locs ls hR hl h
    have h : fX2_digitCount_l8 N Q (lo2 (fX2_digitCount_l8 N Q) n) x2 x3 σ := h
    unfold fX2_digitCount_l8 at h
    refine lv_lload_n (pc := 8) hx hb dX2_digitCount_8 rfl (lv_at hl 1 rfl) ?_
    refine lv_lconst (pc := 9) (v := 0) hx hb dX2_digitCount_9 (by decide) ?_
    refine W.lcmp (pc := 10) hx hb dX2_digitCount_10 ?_
    refine lv_if_le (pc := 11) (tgt := 32) hx hb dX2_digitCount_11 (by decide) (fun c_2 => ?_) (fun c_2 => ?_)
    · have c_2 := (lc_le _ _).mp c_2
      have h := h.1 c_2
      refine lv_iload_n (pc := 32) hx hb dX2_digitCount_32 rfl (lv_at hl 0 rfl) ?_
      exact q_iret (pc := 33) E hR h dX2_digitCount_33
    · have c_2 := mt (lc_le _ _).mpr c_2
      have h := h.2 c_2
      refine lv_iload_n (pc := 14) hx hb dX2_digitCount_14 rfl (lv_at hl 0 rfl) ?_
      refine lv_bipush (pc := 15) (v := 20) hx hb dX2_digitCount_15 (by decide) ?_
      refine lv_icmp_ge (pc := 17) (tgt := 32) hx hb dX2_digitCount_17 (by decide) (fun c_3 => ?_) (fun c_3 => ?_)
      · have h := h.1 c_3
        refine lv_iload_n (pc := 32) hx hb dX2_digitCount_32 rfl (lv_at hl 0 rfl) ?_
        exact q_iret (pc := 33) E hR h dX2_digitCount_33
      · have h := h.2 c_3
        refine lv_lload_n (pc := 20) hx hb dX2_digitCount_20 rfl (lv_at hl 1 rfl) ?_
        refine lv_ldc2 (pc := 21) (v := 10) hx hb hown (hts _ (Uin mw114)) dX2_digitCount_21 ?_
        refine lv_ldiv (pc := 24) hx hb dX2_digitCount_24 (by decide) ?_
        refine lv_topl (pc := 25) (fun v_4 ev_4 => ?_)
        have h := h v_4 ev_4
        refine lv_lstore_n (pc := 25) (lv' := [(3, .long v_4), (2, .int x2)]) hx hb dX2_digitCount_25 rfl hl (by decide) rfl (fun ls hl => ?_)
        obtain ⟨v_5, ev_5⟩ : ∃ z : Int32, z = x2 + 1 := ⟨_, rfl⟩
        have h := h v_5 ev_5
        refine lv_iinc (pc := 26) (v := v_5) (lv' := [(2, .int v_5), (3, .long v_4)]) hx hb dX2_digitCount_26 hl (k := 1) rfl (by rw [ev_5]; rfl) (by decide) rfl (fun ls hl => ?_)
        refine lv_goto (pc := 29) (tgt := 8) hx hb dX2_digitCount_29 (by decide) ?_
        exact ih v_5 v_4 σ _ _ _ hR (lv_sub hl [0, 1] rfl) h
def fX2_digitCount (N : Nat) (x0 : Int64) (Q : Int32 → St → Prop) (σ : St) : Prop := ∀ v_1 : Int64, v_1 = x0 / 10 → lo2 (fX2_digitCount_l8 N Q) N 1 v_1 σ
set_option maxHeartbeats 4000000 in
set_option maxRecDepth 100000 in
theorem bX2_digitCount_e {p : Program} {e : Env} {s : State} {m : MethodId} {args : Array Value} {below : List Frame} {meth : Method} {c : Code} (l : Launch) (w : Wd) (N : Nat) (Q : Int32 → St → Prop) (E : Cx 223 w (X1 w) cX2_digitCount 5 RX2 (.code yX2_digitCount cX2_digitCount 5 (some .int)) (some .int) p s m args meth c) (x0 : Int64) {σ : St} {H : Heap} {locs : List Loc} {ls : Array Slot} (hR : Rr 223 ev1 w σ s H locs) (hl : lv_has ls 5 [(0, .long x0)]) (h : fX2_digitCount N x0 Q σ) : W p l e rmX2_digitCount s m args below meth c H locs 0 0 (MQ below (va_Qi Q (Rp 223 ev1 w) (Aw 223 w)) args s 0 0 (Aw 223 w)) (F0 m 0 ls []) := by
  obtain ⟨hx, hb, hml, hown, hts, hr, hlk, hK, hI, hX⟩ := id E
  unfold fX2_digitCount at h
  refine lv_iconst (pc := 0) (v := 1) hx hb dX2_digitCount_0 (by decide) ?_
  refine lv_istore_n (pc := 1) (lv' := [(2, .int 1), (0, .long x0)]) hx hb dX2_digitCount_1 rfl hl (by decide) rfl (fun ls hl => ?_)
  refine lv_lload_n (pc := 2) hx hb dX2_digitCount_2 rfl (lv_at hl 1 rfl) ?_
  refine lv_ldc2 (pc := 3) (v := 10) hx hb hown (hts _ (Uin mw114)) dX2_digitCount_3 ?_
  refine lv_ldiv (pc := 6) hx hb dX2_digitCount_6 (by decide) ?_
  refine lv_topl (pc := 7) (fun v_1 ev_1 => ?_)
  have h := h v_1 ev_1
  refine lv_lstore_n (pc := 7) (lv' := [(3, .long v_1), (2, .int 1), (0, .long x0)]) hx hb dX2_digitCount_7 rfl hl (by decide) rfl (fun ls hl => ?_)
  exact bX2_digitCount_8 l w N Q E N 1 v_1 σ _ _ _ hR (lv_sub hl [1, 0] rfl) h
theorem cX2_digitCount_met (l : Launch) (w : Wd) (hI : Ij 223 w) (N : Nat) (x0 : Int64) (Q : Int32 → St → Prop) (σ : St) (h : fX2_digitCount N x0 Q σ) : Met l yX2_digitCount (.code yX2_digitCount cX2_digitCount 5 (some .int) :: Uw) rmX2_digitCount (va_Pc [.long x0] (fun U => Rp 223 ev1 w σ U ∧ (X1 w) U)) (va_Qi Q (Rp 223 ev1 w) (Aw 223 w)) 0 0 (Aw 223 w) :=
  q_met (by decide) (Nat.le_of_ble_eq_true rfl) hI (fun p e s m below meth c ls E hl hR => bX2_digitCount_e l w N Q E x0 hR hl h)
-- GlulxStrings$Machine.stepNumber(LGlulxStrings$Job;)V
abbrev rmX2_stepNumber : Room := { frames := 4, cells := 0, slots := 0, locals := 93 }
def fX2_stepNumber_l100 (N : Nat) (x5 : Int32) (Q : St → Prop) (r100 : Int64 → Int32 → St → Prop) (x2 : Int64) (x7 : Int32) (σ : St) : Prop := ((x5 ≤ x7 → fX2_give N (48 + ((x2 - x2 / 10 * 10).toInt32)) (fun σ_12 => Q σ_12) σ) ∧ (¬ x5 ≤ x7 → ∀ v_13 : Int64, v_13 = x2 / 10 → ∀ v_14 : Int32, v_14 = x7 + 1 → r100 v_13 v_14 σ))
set_option maxHeartbeats 4000000 in
set_option maxRecDepth 100000 in
theorem bX2_stepNumber_100 {p : Program} {e : Env} {s : State} {m : MethodId} {args : Array Value} {below : List Frame} {meth : Method} {c : Code} (l : Launch) (w : Wd) (N : Nat) (Q : St → Prop) (E : Cx 223 w (X1 w) cX2_stepNumber 8 RX2 (.code yX2_stepNumber cX2_stepNumber 8 none) none p s m args meth c) (x5 : Int32) : ∀ (n : Nat) (x2 : Int64) (x7 : Int32) (σ : St) (H : Heap) (locs : List Loc) (ls : Array Slot), Rr 223 ev1 w σ s H locs → lv_has ls 8 [(0, .ref (w.2.1 3)), (2, .long x2), (5, .int x5), (7, .int x7)] → lo2 (fX2_stepNumber_l100 N x5 Q) n x2 x7 σ → W p l e rmX2_stepNumber s m args below meth c H locs 0 0 (MQ below (va_Qv Q (Rp 223 ev1 w) (Aw 223 w)) args s 0 0 (Aw 223 w)) (F0 m 100 ls []) := by
  obtain ⟨hx, hb, hml, hown, hts, hr, hlk, hK, hI, hX⟩ := id E
  intro n
  induction n with
  | zero => intro x2 x7 σ H locs ls hR hl h; exact h.elim
  | succ n ih =>
    intro x2 x7 σ H locs ls hR hl h
    have h : fX2_stepNumber_l100 N x5 Q (lo2 (fX2_stepNumber_l100 N x5 Q) n) x2 x7 σ := h
    unfold fX2_stepNumber_l100 at h
    refine lv_iload (pc := 100) hx hb dX2_stepNumber_100 (lv_at hl 3 rfl) ?_
    refine lv_iload (pc := 102) hx hb dX2_stepNumber_102 (lv_at hl 2 rfl) ?_
    refine lv_icmp_ge (pc := 104) (tgt := 119) hx hb dX2_stepNumber_104 (by decide) (fun c_11 => ?_) (fun c_11 => ?_)
    · have h := h.1 c_11
      refine lv_aload_n (pc := 119) hx hb dX2_stepNumber_119 rfl (lv_at hl 0 rfl) ?_
      refine lv_bipush (pc := 120) (v := 48) hx hb dX2_stepNumber_120 (by decide) ?_
      refine lv_lload_n (pc := 122) hx hb dX2_stepNumber_122 rfl (lv_at hl 1 rfl) ?_
      refine lv_ldc2 (pc := 123) (v := 10) hx hb hown (hts _ (Uin mw114)) dX2_stepNumber_123 ?_
      refine lv_lrem (pc := 126) hx hb dX2_stepNumber_126 (by decide) ?_
      refine lv_l2i (pc := 127) (v := (x2 - x2 / 10 * 10).toInt32) hx hb dX2_stepNumber_127 rfl ?_
      refine lv_iadd (pc := 128) hx hb dX2_stepNumber_128 ?_
      refine q_cv (pc := 129) hR (q_rV E (xp1 w) (As := [.int (48 + ((x2 - x2 / 10 * 10).toInt32))]) (rest := []) (cX2_give_met l w hI N (48 + ((x2 - x2 / 10 * 10).toInt32)) _ σ h) ckX2_give cvX2_give mw95 ⟨rfl, rfl, Nat.le_of_ble_eq_true rfl, Nat.le_of_ble_eq_true rfl⟩ hR (rc1_3 w) rfl hl.1 rfl (Nat.le_of_ble_eq_true rfl) dX2_stepNumber_129) (fun σ_12 H locs h hR => ?_)
      exact q_vret (pc := 132) E hR h dX2_stepNumber_132
    · have h := h.2 c_11
      refine lv_lload_n (pc := 107) hx hb dX2_stepNumber_107 rfl (lv_at hl 1 rfl) ?_
      refine lv_ldc2 (pc := 108) (v := 10) hx hb hown (hts _ (Uin mw114)) dX2_stepNumber_108 ?_
      refine lv_ldiv (pc := 111) hx hb dX2_stepNumber_111 (by decide) ?_
      refine lv_topl (pc := 112) (fun v_13 ev_13 => ?_)
      have h := h v_13 ev_13
      refine lv_lstore_n (pc := 112) (lv' := [(2, .long v_13), (0, .ref (w.2.1 3)), (5, .int x5), (7, .int x7)]) hx hb dX2_stepNumber_112 rfl hl (by decide) rfl (fun ls hl => ?_)
      obtain ⟨v_14, ev_14⟩ : ∃ z : Int32, z = x7 + 1 := ⟨_, rfl⟩
      have h := h v_14 ev_14
      refine lv_iinc (pc := 113) (v := v_14) (lv' := [(7, .int v_14), (2, .long v_13), (0, .ref (w.2.1 3)), (5, .int x5)]) hx hb dX2_stepNumber_113 hl (k := 3) rfl (by rw [ev_14]; rfl) (by decide) rfl (fun ls hl => ?_)
      refine lv_goto (pc := 116) (tgt := 100) hx hb dX2_stepNumber_116 (by decide) ?_
      exact ih v_13 v_14 σ _ _ _ hR (lv_sub hl [2, 1, 3, 0] rfl) h
def fX2_stepNumber_j73 (N : Nat) (k1 : Nat) (x2 : Int64) (x5 : Int32) (t0 : Int32) (Q : St → Prop) (σ : St) : Prop := ∀ v_8 : Int32, v_8 = (σ.1 k1 3) + 1 → ∀ σ_9 : St, σ_9 = u1 σ k1 3 v_8 → ((t0 = 0 → lo2 (fX2_stepNumber_l100 N x5 Q) N x2 0 σ_9) ∧ (¬ t0 = 0 → fX2_give N 45 (fun σ_11 => Q σ_11) σ_9))
set_option maxHeartbeats 4000000 in
set_option maxRecDepth 100000 in
theorem bX2_stepNumber_73 {p : Program} {e : Env} {s : State} {m : MethodId} {args : Array Value} {below : List Frame} {meth : Method} {c : Code} (l : Launch) (w : Wd) (N : Nat) (Q : St → Prop) (E : Cx 223 w (X1 w) cX2_stepNumber 8 RX2 (.code yX2_stepNumber cX2_stepNumber 8 none) none p s m args meth c) (k1 : Nat) (x2 : Int64) (x5 : Int32) (t0 : Int32) (hk1 : jobK k1) {σ : St} {H : Heap} {locs : List Loc} {ls : Array Slot} (hR : Rr 223 ev1 w σ s H locs) (hl : lv_has ls 8 [(0, .ref (w.2.1 3)), (1, .ref (w.2.1 k1)), (2, .long x2), (5, .int x5)]) (h : fX2_stepNumber_j73 N k1 x2 x5 t0 Q σ) : W p l e rmX2_stepNumber s m args below meth c H locs 0 0 (MQ below (va_Qv Q (Rp 223 ev1 w) (Aw 223 w)) args s 0 0 (Aw 223 w)) (F0 m 73 ls [.int t0]) := by
  obtain ⟨hx, hb, hml, hown, hts, hr, hlk, hK, hI, hX⟩ := id E
  unfold fX2_stepNumber_j73 at h
  refine lv_istore (pc := 73) (lv' := [(6, .int t0), (0, .ref (w.2.1 3)), (1, .ref (w.2.1 k1)), (2, .long x2), (5, .int x5)]) hx hb dX2_stepNumber_73 hl (by decide) rfl (fun ls hl => ?_)
  refine lv_aload_n (pc := 75) hx hb dX2_stepNumber_75 rfl (lv_at hl 2 rfl) ?_
  refine lv_dup (pc := 76) hx hb dX2_stepNumber_76 rfl ?_
  refine gfj_3 (pc := 77) hk1 hx hb hts hown hK hR mw107 dX2_stepNumber_77 ?_
  refine lv_iconst (pc := 80) (v := 1) hx hb dX2_stepNumber_80 (by decide) ?_
  refine lv_iadd (pc := 81) hx hb dX2_stepNumber_81 ?_
  refine lv_topi (pc := 82) (fun v_8 ev_8 => ?_)
  have h := h v_8 ev_8
  refine pfj_3 (pc := 82) hk1 hx hb hts hown hK hI hR mw107 dX2_stepNumber_82 (fun H locs σ_9 eσ_9 hR => ?_)
  have h := h σ_9 eσ_9
  refine lv_iload (pc := 85) hx hb dX2_stepNumber_85 (lv_at hl 0 rfl) ?_
  refine lv_if_eq (pc := 87) (tgt := 97) hx hb dX2_stepNumber_87 (by decide) (fun c_10 => ?_) (fun c_10 => ?_)
  · have h := h.1 c_10
    refine lv_iconst (pc := 97) (v := 0) hx hb dX2_stepNumber_97 (by decide) ?_
    refine lv_istore (pc := 98) (lv' := [(7, .int 0), (6, .int t0), (0, .ref (w.2.1 3)), (1, .ref (w.2.1 k1)), (2, .long x2), (5, .int x5)]) hx hb dX2_stepNumber_98 hl (by decide) rfl (fun ls hl => ?_)
    exact bX2_stepNumber_100 l w N Q E x5 N x2 0 σ_9 _ _ _ hR (lv_sub hl [2, 4, 5, 0] rfl) h
  · have h := h.2 c_10
    refine lv_aload_n (pc := 90) hx hb dX2_stepNumber_90 rfl (lv_at hl 1 rfl) ?_
    refine lv_bipush (pc := 91) (v := 45) hx hb dX2_stepNumber_91 (by decide) ?_
    refine q_cv (pc := 93) hR (q_rV E (xp1 w) (As := [.int 45]) (rest := []) (cX2_give_met l w hI N 45 _ σ_9 h) ckX2_give cvX2_give mw95 ⟨rfl, rfl, Nat.le_of_ble_eq_true rfl, Nat.le_of_ble_eq_true rfl⟩ hR (rc1_3 w) rfl hl.1 rfl (Nat.le_of_ble_eq_true rfl) dX2_stepNumber_93) (fun σ_11 H locs h hR => ?_)
    exact q_vret (pc := 96) E hR h dX2_stepNumber_96
def fX2_stepNumber_j72 (N : Nat) (k1 : Nat) (x2 : Int64) (x5 : Int32) (Q : St → Prop) (σ : St) : Prop := fX2_stepNumber_j73 N k1 x2 x5 0 Q σ
set_option maxHeartbeats 4000000 in
set_option maxRecDepth 100000 in
theorem bX2_stepNumber_72 {p : Program} {e : Env} {s : State} {m : MethodId} {args : Array Value} {below : List Frame} {meth : Method} {c : Code} (l : Launch) (w : Wd) (N : Nat) (Q : St → Prop) (E : Cx 223 w (X1 w) cX2_stepNumber 8 RX2 (.code yX2_stepNumber cX2_stepNumber 8 none) none p s m args meth c) (k1 : Nat) (x2 : Int64) (x5 : Int32) (hk1 : jobK k1) {σ : St} {H : Heap} {locs : List Loc} {ls : Array Slot} (hR : Rr 223 ev1 w σ s H locs) (hl : lv_has ls 8 [(0, .ref (w.2.1 3)), (1, .ref (w.2.1 k1)), (2, .long x2), (5, .int x5)]) (h : fX2_stepNumber_j72 N k1 x2 x5 Q σ) : W p l e rmX2_stepNumber s m args below meth c H locs 0 0 (MQ below (va_Qv Q (Rp 223 ev1 w) (Aw 223 w)) args s 0 0 (Aw 223 w)) (F0 m 72 ls []) := by
  obtain ⟨hx, hb, hml, hown, hts, hr, hlk, hK, hI, hX⟩ := id E
  unfold fX2_stepNumber_j72 at h
  refine lv_iconst (pc := 72) (v := 0) hx hb dX2_stepNumber_72 (by decide) ?_
  exact bX2_stepNumber_73 l w N Q E k1 x2 x5 0 hk1 hR (lv_sub hl [0, 1, 2, 3] rfl) h
def fX2_stepNumber_j21 (N : Nat) (k1 : Nat) (x2 : Int64) (t0 : Int32) (Q : St → Prop) (σ : St) : Prop := fX2_digitCount N x2 (fun r_4 σ_3 => ∀ v_5 : Int32, v_5 = ((t0 + r_4) - 1) - (σ_3.1 k1 3) → ((0 ≤ v_5 → ((t0 = 1 → (((σ_3.1 k1 3) = 0 → fX2_stepNumber_j73 N k1 x2 v_5 1 Q σ_3) ∧ (¬ (σ_3.1 k1 3) = 0 → fX2_stepNumber_j72 N k1 x2 v_5 Q σ_3))) ∧ (¬ t0 = 1 → fX2_stepNumber_j72 N k1 x2 v_5 Q σ_3))) ∧ (¬ 0 ≤ v_5 → ∀ v_9 : Int32, v_9 = (σ_3.1 3 7) - 1 → ∀ σ_10 : St, σ_10 = u1 σ_3 3 7 v_9 → Q σ_10))) σ
set_option maxHeartbeats 4000000 in
set_option maxRecDepth 100000 in
theorem bX2_stepNumber_21 {p : Program} {e : Env} {s : State} {m : MethodId} {args : Array Value} {below : List Frame} {meth : Method} {c : Code} (l : Launch) (w : Wd) (N : Nat) (Q : St → Prop) (E : Cx 223 w (X1 w) cX2_stepNumber 8 RX2 (.code yX2_stepNumber cX2_stepNumber 8 none) none p s m args meth c) (k1 : Nat) (x2 : Int64) (t0 : Int32) (hk1 : jobK k1) {σ : St} {H : Heap} {locs : List Loc} {ls : Array Slot} (hR : Rr 223 ev1 w σ s H locs) (hl : lv_has ls 8 [(0, .ref (w.2.1 3)), (1, .ref (w.2.1 k1)), (2, .long x2)]) (h : fX2_stepNumber_j21 N k1 x2 t0 Q σ) : W p l e rmX2_stepNumber s m args below meth c H locs 0 0 (MQ below (va_Qv Q (Rp 223 ev1 w) (Aw 223 w)) args s 0 0 (Aw 223 w)) (F0 m 21 ls [.int t0]) := by
  obtain ⟨hx, hb, hml, hown, hts, hr, hlk, hK, hI, hX⟩ := id E
  unfold fX2_stepNumber_j21 at h
  refine lv_istore (pc := 21) (lv' := [(4, .int t0), (0, .ref (w.2.1 3)), (1, .ref (w.2.1 k1)), (2, .long x2)]) hx hb dX2_stepNumber_21 hl (by decide) rfl (fun ls hl => ?_)
  refine lv_iload (pc := 23) hx hb dX2_stepNumber_23 (lv_at hl 0 rfl) ?_
  refine lv_lload_n (pc := 25) hx hb dX2_stepNumber_25 rfl (lv_at hl 3 rfl) ?_
  refine q_ci (pc := 26) hR (q_rS E (xp1 w) (As := [.long x2]) (rest := [.int t0]) (cX2_digitCount_met l w hI N x2 _ σ h) ckX2_digitCount csX2_digitCount mw116 ⟨rfl, rfl, Nat.le_of_ble_eq_true rfl, Nat.le_of_ble_eq_true rfl⟩ hR rfl hl.1 rfl (Nat.le_of_ble_eq_true rfl) dX2_stepNumber_26) (fun r_4 σ_3 H locs h hR => ?_)
  refine lv_iadd (pc := 29) hx hb dX2_stepNumber_29 ?_
  refine lv_iconst (pc := 30) (v := 1) hx hb dX2_stepNumber_30 (by decide) ?_
  refine lv_isub (pc := 31) hx hb dX2_stepNumber_31 ?_
  refine lv_aload_n (pc := 32) hx hb dX2_stepNumber_32 rfl (lv_at hl 2 rfl) ?_
  refine gfj_3 (pc := 33) hk1 hx hb hts hown hK hR mw107 dX2_stepNumber_33 ?_
  refine lv_isub (pc := 36) hx hb dX2_stepNumber_36 ?_
  refine lv_topi (pc := 37) (fun v_5 ev_5 => ?_)
  have h := h v_5 ev_5
  refine lv_istore (pc := 37) (lv' := [(5, .int v_5), (4, .int t0), (0, .ref (w.2.1 3)), (1, .ref (w.2.1 k1)), (2, .long x2)]) hx hb dX2_stepNumber_37 hl (by decide) rfl (fun ls hl => ?_)
  refine lv_iload (pc := 39) hx hb dX2_stepNumber_39 (lv_at hl 0 rfl) ?_
  refine lv_if_ge (pc := 41) (tgt := 55) hx hb dX2_stepNumber_41 (by decide) (fun c_6 => ?_) (fun c_6 => ?_)
  · have h := h.1 c_6
    refine lv_iload (pc := 55) hx hb dX2_stepNumber_55 (lv_at hl 1 rfl) ?_
    refine lv_iconst (pc := 57) (v := 1) hx hb dX2_stepNumber_57 (by decide) ?_
    refine lv_icmp_ne (pc := 58) (tgt := 72) hx hb dX2_stepNumber_58 (by decide) (fun c_7 => ?_) (fun c_7 => ?_)
    · have h := h.2 c_7
      exact bX2_stepNumber_72 l w N Q E k1 x2 v_5 hk1 hR (lv_sub hl [2, 3, 4, 0] rfl) h
    · have h := h.1 c_7
      refine lv_aload_n (pc := 61) hx hb dX2_stepNumber_61 rfl (lv_at hl 3 rfl) ?_
      refine gfj_3 (pc := 62) hk1 hx hb hts hown hK hR mw107 dX2_stepNumber_62 ?_
      refine lv_if_ne (pc := 65) (tgt := 72) hx hb dX2_stepNumber_65 (by decide) (fun c_8 => ?_) (fun c_8 => ?_)
      · have h := h.2 c_8
        exact bX2_stepNumber_72 l w N Q E k1 x2 v_5 hk1 hR (lv_sub hl [2, 3, 4, 0] rfl) h
      · have h := h.1 c_8
        refine lv_iconst (pc := 68) (v := 1) hx hb dX2_stepNumber_68 (by decide) ?_
        refine lv_goto (pc := 69) (tgt := 73) hx hb dX2_stepNumber_69 (by decide) ?_
        exact bX2_stepNumber_73 l w N Q E k1 x2 v_5 1 hk1 hR (lv_sub hl [2, 3, 4, 0] rfl) h
  · have h := h.2 c_6
    refine lv_aload_n (pc := 44) hx hb dX2_stepNumber_44 rfl (lv_at hl 2 rfl) ?_
    refine lv_dup (pc := 45) hx hb dX2_stepNumber_45 rfl ?_
    refine gf1_3_7 (pc := 46) hx hb hts hown hK hR mw54 dX2_stepNumber_46 ?_
    refine lv_iconst (pc := 49) (v := 1) hx hb dX2_stepNumber_49 (by decide) ?_
    refine lv_isub (pc := 50) hx hb dX2_stepNumber_50 ?_
    refine lv_topi (pc := 51) (fun v_9 ev_9 => ?_)
    have h := h v_9 ev_9
    refine pf1_3_7 (pc := 51) hx hb hts hown hK hI hR mw54 dX2_stepNumber_51 (fun H locs σ_10 eσ_10 hR => ?_)
    have h := h σ_10 eσ_10
    exact q_vret (pc := 54) E hR h dX2_stepNumber_54
def fX2_stepNumber (N : Nat) (k1 : Nat) (Q : St → Prop) (σ : St) : Prop := ∀ v_1 : Int64, v_1 = (if 0 < ((σ.1 k1 2).toInt64) then ((σ.1 k1 2).toInt64) else -((σ.1 k1 2).toInt64)) → ((0 ≤ (σ.1 k1 2) → fX2_stepNumber_j21 N k1 v_1 0 Q σ) ∧ (¬ 0 ≤ (σ.1 k1 2) → fX2_stepNumber_j21 N k1 v_1 1 Q σ))
set_option maxHeartbeats 4000000 in
set_option maxRecDepth 100000 in
theorem bX2_stepNumber_e {p : Program} {e : Env} {s : State} {m : MethodId} {args : Array Value} {below : List Frame} {meth : Method} {c : Code} (l : Launch) (w : Wd) (N : Nat) (Q : St → Prop) (E : Cx 223 w (X1 w) cX2_stepNumber 8 RX2 (.code yX2_stepNumber cX2_stepNumber 8 none) none p s m args meth c) (k1 : Nat) (hk1 : jobK k1) {σ : St} {H : Heap} {locs : List Loc} {ls : Array Slot} (hR : Rr 223 ev1 w σ s H locs) (hl : lv_has ls 8 [(0, .ref (w.2.1 3)), (1, .ref (w.2.1 k1))]) (h : fX2_stepNumber N k1 Q σ) : W p l e rmX2_stepNumber s m args below meth c H locs 0 0 (MQ below (va_Qv Q (Rp 223 ev1 w) (Aw 223 w)) args s 0 0 (Aw 223 w)) (F0 m 0 ls []) := by
  obtain ⟨hx, hb, hml, hown, hts, hr, hlk, hK, hI, hX⟩ := id E
  unfold fX2_stepNumber at h
  refine lv_aload_n (pc := 0) hx hb dX2_stepNumber_0 rfl (lv_at hl 1 rfl) ?_
  refine gfj_2 (pc := 1) hk1 hx hb hts hown hK hR mw81 dX2_stepNumber_1 ?_
  refine lv_i2l (pc := 4) (v := (σ.1 k1 2).toInt64) hx hb dX2_stepNumber_4 rfl ?_
  refine va_mabs_long (pc := 5) hx hb (hml.trans hl.1.symm) hown (hts _ (Uin mw115)) (hts _ (Uin mwAbsS)) (hts _ (Uin mwMathI)) (hts _ (Uin mwAbsC)) (Nat.le_of_ble_eq_true rfl) (Nat.le_of_ble_eq_true rfl) (Nat.zero_le _) (Nat.zero_le _) dX2_stepNumber_5 ?_
  refine lv_topl (pc := 8) (fun v_1 ev_1 => ?_)
  have h := h v_1 ev_1
  refine lv_lstore_n (pc := 8) (lv' := [(2, .long v_1), (0, .ref (w.2.1 3)), (1, .ref (w.2.1 k1))]) hx hb dX2_stepNumber_8 rfl hl (by decide) rfl (fun ls hl => ?_)
  refine lv_aload_n (pc := 9) hx hb dX2_stepNumber_9 rfl (lv_at hl 2 rfl) ?_
  refine gfj_2 (pc := 10) hk1 hx hb hts hown hK hR mw81 dX2_stepNumber_10 ?_
  refine lv_if_ge (pc := 13) (tgt := 20) hx hb dX2_stepNumber_13 (by decide) (fun c_2 => ?_) (fun c_2 => ?_)
  · have h := h.1 c_2
    refine lv_iconst (pc := 20) (v := 0) hx hb dX2_stepNumber_20 (by decide) ?_
    exact bX2_stepNumber_21 l w N Q E k1 v_1 0 hk1 hR (lv_sub hl [1, 2, 0] rfl) h
  · have h := h.2 c_2
    refine lv_iconst (pc := 16) (v := 1) hx hb dX2_stepNumber_16 (by decide) ?_
    refine lv_goto (pc := 17) (tgt := 21) hx hb dX2_stepNumber_17 (by decide) ?_
    exact bX2_stepNumber_21 l w N Q E k1 v_1 1 hk1 hR (lv_sub hl [1, 2, 0] rfl) h
theorem cX2_stepNumber_met (l : Launch) (w : Wd) (hI : Ij 223 w) (N : Nat) (k1 : Nat) (hk1 : jobK k1) (Q : St → Prop) (σ : St) (h : fX2_stepNumber N k1 Q σ) : Met l yX2_stepNumber (.code yX2_stepNumber cX2_stepNumber 8 none :: Uw) rmX2_stepNumber (va_Pc [.ref (w.2.1 3), .ref (w.2.1 k1)] (fun U => Rp 223 ev1 w σ U ∧ (X1 w) U)) (va_Qv Q (Rp 223 ev1 w) (Aw 223 w)) 0 0 (Aw 223 w) :=
  q_met (by decide) (Nat.le_of_ble_eq_true rfl) hI (fun p e s m below meth c ls E hl hR => bX2_stepNumber_e l w N Q E k1 hk1 hR hl h)
-- GlulxStrings$Machine.endInFault()I
abbrev rmX2_endInFault : Room := { frames := 0, cells := 0, slots := 0, locals := 0 }
def fX2_endInFault (N : Nat) (Q : Int32 → St → Prop) (σ : St) : Prop := ∀ v_1 : Int32, v_1 = σ.1 3 11 → ∀ σ_2 : St, σ_2 = u1 σ 3 11 0 → ∀ σ_3 : St, σ_3 = u1 σ_2 3 7 0 → ∀ v_4 : Int32, v_4 = (σ_3.1 5 4) + 1 → ∀ σ_5 : St, σ_5 = u1 σ_3 5 4 v_4 → ∀ σ_6 : St, σ_6 = u1 σ_5 5 5 v_1 → Q ((-10) - v_1) σ_6
set_option maxHeartbeats 4000000 in
set_option maxRecDepth 100000 in
theorem bX2_endInFault_e {p : Program} {e : Env} {s : State} {m : MethodId} {args : Array Value} {below : List Frame} {meth : Method} {c : Code} (l : Launch) (w : Wd) (N : Nat) (Q : Int32 → St → Prop) (E : Cx 223 w (X1 w) cX2_endInFault 2 RX2 (.code yX2_endInFault cX2_endInFault 2 (some .int)) (some .int) p s m args meth c) {σ : St} {H : Heap} {locs : List Loc} {ls : Array Slot} (hR : Rr 223 ev1 w σ s H locs) (hl : lv_has ls 2 [(0, .ref (w.2.1 3))]) (h : fX2_endInFault N Q σ) : W p l e rmX2_endInFault s m args below meth c H locs 0 0 (MQ below (va_Qi Q (Rp 223 ev1 w) (Aw 223 w)) args s 0 0 (Aw 223 w)) (F0 m 0 ls []) := by
  obtain ⟨hx, hb, hml, hown, hts, hr, hlk, hK, hI, hX⟩ := id E
  unfold fX2_endInFault at h
  refine lv_aload_n (pc := 0) hx hb dX2_endInFault_0 rfl (lv_at hl 0 rfl) ?_
  refine gf1_3_11 (pc := 1) hx hb hts hown hK hR mw42 dX2_endInFault_1 ?_
  refine lv_topi (pc := 4) (fun v_1 ev_1 => ?_)
  have h := h v_1 ev_1
  refine lv_istore_n (pc := 4) (lv' := [(1, .int v_1), (0, .ref (w.2.1 3))]) hx hb dX2_endInFault_4 rfl hl (by decide) rfl (fun ls hl => ?_)
  refine lv_aload_n (pc := 5) hx hb dX2_endInFault_5 rfl (lv_at hl 1 rfl) ?_
  refine lv_iconst (pc := 6) (v := 0) hx hb dX2_endInFault_6 (by decide) ?_
  refine pf1_3_11 (pc := 7) hx hb hts hown hK hI hR mw42 dX2_endInFault_7 (fun H locs σ_2 eσ_2 hR => ?_)
  have h := h σ_2 eσ_2
  refine lv_aload_n (pc := 10) hx hb dX2_endInFault_10 rfl (lv_at hl 1 rfl) ?_
  refine lv_iconst (pc := 11) (v := 0) hx hb dX2_endInFault_11 (by decide) ?_
  refine pf1_3_7 (pc := 12) hx hb hts hown hK hI hR mw54 dX2_endInFault_12 (fun H locs σ_3 eσ_3 hR => ?_)
  have h := h σ_3 eσ_3
  refine lv_aload_n (pc := 15) hx hb dX2_endInFault_15 rfl (lv_at hl 1 rfl) ?_
  refine gf1_3_2 (pc := 16) hx hb hts hown hK hR mw57 dX2_endInFault_16 ?_
  refine lv_dup (pc := 19) hx hb dX2_endInFault_19 rfl ?_
  refine gf1_5_4 (pc := 20) hx hb hts hown hK hR mw117 dX2_endInFault_20 ?_
  refine lv_iconst (pc := 23) (v := 1) hx hb dX2_endInFault_23 (by decide) ?_
  refine lv_iadd (pc := 24) hx hb dX2_endInFault_24 ?_
  refine lv_topi (pc := 25) (fun v_4 ev_4 => ?_)
  have h := h v_4 ev_4
  refine pf1_5_4 (pc := 25) hx hb hts hown hK hI hR mw117 dX2_endInFault_25 (fun H locs σ_5 eσ_5 hR => ?_)
  have h := h σ_5 eσ_5
  refine lv_aload_n (pc := 28) hx hb dX2_endInFault_28 rfl (lv_at hl 1 rfl) ?_
  refine gf1_3_2 (pc := 29) hx hb hts hown hK hR mw57 dX2_endInFault_29 ?_
  refine lv_iload_n (pc := 32) hx hb dX2_endInFault_32 rfl (lv_at hl 0 rfl) ?_
  refine pf1_5_5 (pc := 33) hx hb hts hown hK hI hR mw118 dX2_endInFault_33 (fun H locs σ_6 eσ_6 hR => ?_)
  have h := h σ_6 eσ_6
  refine lv_bipush (pc := 36) (v := (-10)) hx hb dX2_endInFault_36 (by decide) ?_
  refine lv_iload_n (pc := 38) hx hb dX2_endInFault_38 rfl (lv_at hl 0 rfl) ?_
  refine lv_isub (pc := 39) hx hb dX2_endInFault_39 ?_
  exact q_iret (pc := 40) E hR h dX2_endInFault_40
theorem cX2_endInFault_met (l : Launch) (w : Wd) (hI : Ij 223 w) (N : Nat) (Q : Int32 → St → Prop) (σ : St) (h : fX2_endInFault N Q σ) : Met l yX2_endInFault (.code yX2_endInFault cX2_endInFault 2 (some .int) :: Uw) rmX2_endInFault (va_Pc [.ref (w.2.1 3)] (fun U => Rp 223 ev1 w σ U ∧ (X1 w) U)) (va_Qi Q (Rp 223 ev1 w) (Aw 223 w)) 0 0 (Aw 223 w) :=
  q_met (by decide) (Nat.le_of_ble_eq_true rfl) hI (fun p e s m below meth c ls E hl hR => bX2_endInFault_e l w N Q E hR hl h)
-- GlulxStrings$Machine.run(I)I
abbrev rmX2_run : Room := { frames := 6, cells := 0, slots := 0, locals := 144 }
def fX2_run_j140 (N : Nat) (x2 : Int32) (Q : Int32 → St → Prop) (σ : St) : Prop := (((σ.1 3 11) = 0 → (((σ.1 3 7) ≤ 0 → Q ((σ.1 5 1) - x2) σ) ∧ (¬ (σ.1 3 7) ≤ 0 → Q (-5) σ))) ∧ (¬ (σ.1 3 11) = 0 → fX2_endInFault N (fun r_6 σ_5 => Q r_6 σ_5) σ))
set_option maxHeartbeats 4000000 in
set_option maxRecDepth 100000 in
theorem bX2_run_140 {p : Program} {e : Env} {s : State} {m : MethodId} {args : Array Value} {below : List Frame} {meth : Method} {c : Code} (l : Launch) (w : Wd) (N : Nat) (Q : Int32 → St → Prop) (E : Cx 223 w (X1 w) cX2_run 5 RX2 (.code yX2_run cX2_run 5 (some .int)) (some .int) p s m args meth c) (x2 : Int32) {σ : St} {H : Heap} {locs : List Loc} {ls : Array Slot} (hR : Rr 223 ev1 w σ s H locs) (hl : lv_has ls 5 [(0, .ref (w.2.1 3)), (2, .int x2)]) (h : fX2_run_j140 N x2 Q σ) : W p l e rmX2_run s m args below meth c H locs 0 0 (MQ below (va_Qi Q (Rp 223 ev1 w) (Aw 223 w)) args s 0 0 (Aw 223 w)) (F0 m 140 ls []) := by
  obtain ⟨hx, hb, hml, hown, hts, hr, hlk, hK, hI, hX⟩ := id E
  unfold fX2_run_j140 at h
  refine lv_aload_n (pc := 140) hx hb dX2_run_140 rfl (lv_at hl 0 rfl) ?_
  refine gf1_3_11 (pc := 141) hx hb hts hown hK hR mw42 dX2_run_141 ?_
  refine lv_if_eq (pc := 144) (tgt := 152) hx hb dX2_run_144 (by decide) (fun c_3 => ?_) (fun c_3 => ?_)
  · have h := h.1 c_3
    refine lv_aload_n (pc := 152) hx hb dX2_run_152 rfl (lv_at hl 0 rfl) ?_
    refine gf1_3_7 (pc := 153) hx hb hts hown hK hR mw54 dX2_run_153 ?_
    refine lv_if_le (pc := 156) (tgt := 164) hx hb dX2_run_156 (by decide) (fun c_4 => ?_) (fun c_4 => ?_)
    · have h := h.1 c_4
      refine lv_aload_n (pc := 164) hx hb dX2_run_164 rfl (lv_at hl 0 rfl) ?_
      refine gf1_3_2 (pc := 165) hx hb hts hown hK hR mw57 dX2_run_165 ?_
      refine gf1_5_1 (pc := 168) hx hb hts hown hK hR mw88 dX2_run_168 ?_
      refine lv_iload_n (pc := 171) hx hb dX2_run_171 rfl (lv_at hl 1 rfl) ?_
      refine lv_isub (pc := 172) hx hb dX2_run_172 ?_
      exact q_iret (pc := 173) E hR h dX2_run_173
    · have h := h.2 c_4
      refine lv_bipush (pc := 159) (v := (-5)) hx hb dX2_run_159 (by decide) ?_
      refine lv_goto (pc := 161) (tgt := 173) hx hb dX2_run_161 (by decide) ?_
      exact q_iret (pc := 173) E hR h dX2_run_173
  · have h := h.2 c_3
    refine lv_aload_n (pc := 147) hx hb dX2_run_147 rfl (lv_at hl 0 rfl) ?_
    refine q_ci (pc := 148) hR (q_rV E (xp1 w) (As := []) (rest := []) (cX2_endInFault_met l w hI N _ σ h) ckX2_endInFault cvX2_endInFault mw119 ⟨rfl, rfl, Nat.le_of_ble_eq_true rfl, Nat.le_of_ble_eq_true rfl⟩ hR (rc1_3 w) rfl hl.1 rfl (Nat.le_of_ble_eq_true rfl) dX2_run_148) (fun r_6 σ_5 H locs h hR => ?_)
    exact q_iret (pc := 151) E hR h dX2_run_151
def fX2_run_j134 (N : Nat) (r10 : Int32 → St → Prop) (x1 : Int32) (x2 : Int32) (x3 : Int32) (Q : Int32 → St → Prop) (σ : St) : Prop := ∀ v_11 : Int32, v_11 = x3 + 1 → r10 v_11 σ
set_option maxHeartbeats 4000000 in
set_option maxRecDepth 100000 in
theorem bX2_run_134 {p : Program} {e : Env} {s : State} {m : MethodId} {args : Array Value} {below : List Frame} {meth : Method} {c : Code} (l : Launch) (w : Wd) (N : Nat) (Q : Int32 → St → Prop) (E : Cx 223 w (X1 w) cX2_run 5 RX2 (.code yX2_run cX2_run 5 (some .int)) (some .int) p s m args meth c) (x1 : Int32) (x2 : Int32) (x3 : Int32) (r10 : Int32 → St → Prop) (hr10 : ∀ (x3 : Int32) (σ : St) (H : Heap) (locs : List Loc) (ls : Array Slot), Rr 223 ev1 w σ s H locs → lv_has ls 5 [(0, .ref (w.2.1 3)), (1, .int x1), (2, .int x2), (3, .int x3)] → r10 x3 σ → W p l e rmX2_run s m args below meth c H locs 0 0 (MQ below (va_Qi Q (Rp 223 ev1 w) (Aw 223 w)) args s 0 0 (Aw 223 w)) (F0 m 10 ls [])) {σ : St} {H : Heap} {locs : List Loc} {ls : Array Slot} (hR : Rr 223 ev1 w σ s H locs) (hl : lv_has ls 5 [(0, .ref (w.2.1 3)), (1, .int x1), (2, .int x2), (3, .int x3)]) (h : fX2_run_j134 N r10 x1 x2 x3 Q σ) : W p l e rmX2_run s m args below meth c H locs 0 0 (MQ below (va_Qi Q (Rp 223 ev1 w) (Aw 223 w)) args s 0 0 (Aw 223 w)) (F0 m 134 ls []) := by
  obtain ⟨hx, hb, hml, hown, hts, hr, hlk, hK, hI, hX⟩ := id E
  unfold fX2_run_j134 at h
  obtain ⟨v_11, ev_11⟩ : ∃ z : Int32, z = x3 + 1 := ⟨_, rfl⟩
  have h := h v_11 ev_11
  refine lv_iinc (pc := 134) (v := v_11) (lv' := [(3, .int v_11), (0, .ref (w.2.1 3)), (1, .int x1), (2, .int x2)]) hx hb dX2_run_134 hl (k := 3) rfl (by rw [ev_11]; rfl) (by decide) rfl (fun ls hl => ?_)
  refine lv_goto (pc := 137) (tgt := 10) hx hb dX2_run_137 (by decide) ?_
  exact hr10 v_11 σ _ _ _ hR (lv_sub hl [1, 2, 3, 0] rfl) h
def fX2_run_l10 (N : Nat) (x1 : Int32) (x2 : Int32) (Q : Int32 → St → Prop) (r10 : Int32 → St → Prop) (x3 : Int32) (σ : St) : Prop := ((x1 ≤ x3 → fX2_run_j140 N x2 Q σ) ∧ (¬ x1 ≤ x3 → (((σ.1 3 7) ≤ 0 → fX2_run_j140 N x2 Q σ) ∧ (¬ (σ.1 3 7) ≤ 0 → (((σ.1 3 11) = 0 → ∀ v_5 : Int32, v_5 = (σ.1 5 0) + 1 → ∀ σ_6 : St, σ_6 = u1 σ 5 0 v_5 → vp_in ((σ_6.1 3 7) - 1) 40 ∧ ∀ v_8 : Int32, v_8 = σ_6.1 (43 + ((σ_6.1 3 7) - 1).toNatClampNeg) 1 → ((v_8 = 0 → fX2_doOrder N (43 + ((σ_6.1 3 7) - 1).toNatClampNeg) (fun σ_10 => fX2_run_j134 N r10 x1 x2 x3 Q σ_10) σ_6) ∧ (¬ v_8 = 0 → ((v_8 = 1 → fX2_stepPlain N (43 + ((σ_6.1 3 7) - 1).toNatClampNeg) (fun σ_12 => fX2_run_j134 N r10 x1 x2 x3 Q σ_12) σ_6) ∧ (¬ v_8 = 1 → ((v_8 = 2 → fX2_stepWide N (43 + ((σ_6.1 3 7) - 1).toNatClampNeg) (fun σ_14 => fX2_run_j134 N r10 x1 x2 x3 Q σ_14) σ_6) ∧ (¬ v_8 = 2 → ((v_8 = 3 → fX2_stepPacked N (43 + ((σ_6.1 3 7) - 1).toNatClampNeg) (fun σ_16 => fX2_run_j134 N r10 x1 x2 x3 Q σ_16) σ_6) ∧ (¬ v_8 = 3 → fX2_stepNumber N (43 + ((σ_6.1 3 7) - 1).toNatClampNeg) (fun σ_17 => fX2_run_j134 N r10 x1 x2 x3 Q σ_17) σ_6))))))))) ∧ (¬ (σ.1 3 11) = 0 → fX2_run_j140 N x2 Q σ))))))
set_option maxHeartbeats 4000000 in
set_option maxRecDepth 100000 in
theorem bX2_run_10 {p : Program} {e : Env} {s : State} {m : MethodId} {args : Array Value} {below : List Frame} {meth : Method} {c : Code} (l : Launch) (w : Wd) (N : Nat) (Q : Int32 → St → Prop) (E : Cx 223 w (X1 w) cX2_run 5 RX2 (.code yX2_run cX2_run 5 (some .int)) (some .int) p s m args meth c) (x1 : Int32) (x2 : Int32) : ∀ (n : Nat) (x3 : Int32) (σ : St) (H : Heap) (locs : List Loc) (ls : Array Slot), Rr 223 ev1 w σ s H locs → lv_has ls 5 [(0, .ref (w.2.1 3)), (1, .int x1), (2, .int x2), (3, .int x3)] → lo1 (fX2_run_l10 N x1 x2 Q) n x3 σ → W p l e rmX2_run s m args below meth c H locs 0 0 (MQ below (va_Qi Q (Rp 223 ev1 w) (Aw 223 w)) args s 0 0 (Aw 223 w)) (F0 m 10 ls []) := by
  obtain ⟨hx, hb, hml, hown, hts, hr, hlk, hK, hI, hX⟩ := id E
  intro n
  induction n with
  | zero => intro x3 σ H locs ls hR hl h; exact h.elim
  | succ n ih =>
    intro x3 σ H locs ls hR hl h
    have h : fX2_run_l10 N x1 x2 Q (lo1 (fX2_run_l10 N x1 x2 Q) n) x3 σ := h
    unfold fX2_run_l10 at h
    refine lv_iload_n (pc := 10) hx hb dX2_run_10 rfl (lv_at hl 3 rfl) ?_
    refine lv_iload_n (pc := 11) hx hb dX2_run_11 rfl (lv_at hl 1 rfl) ?_
    refine lv_icmp_ge (pc := 12) (tgt := 140) hx hb dX2_run_12 (by decide) (fun c_2 => ?_) (fun c_2 => ?_)
    · have h := h.1 c_2
      exact bX2_run_140 l w N Q E x2 hR (lv_sub hl [0, 2] rfl) h
    · have h := h.2 c_2
      refine lv_aload_n (pc := 15) hx hb dX2_run_15 rfl (lv_at hl 0 rfl) ?_
      refine gf1_3_7 (pc := 16) hx hb hts hown hK hR mw54 dX2_run_16 ?_
      refine lv_if_le (pc := 19) (tgt := 140) hx hb dX2_run_19 (by decide) (fun c_3 => ?_) (fun c_3 => ?_)
      · have h := h.1 c_3
        exact bX2_run_140 l w N Q E x2 hR (lv_sub hl [0, 2] rfl) h
      · have h := h.2 c_3
        refine lv_aload_n (pc := 22) hx hb dX2_run_22 rfl (lv_at hl 0 rfl) ?_
        refine gf1_3_11 (pc := 23) hx hb hts hown hK hR mw42 dX2_run_23 ?_
        refine lv_if_ne (pc := 26) (tgt := 140) hx hb dX2_run_26 (by decide) (fun c_4 => ?_) (fun c_4 => ?_)
        · have h := h.2 c_4
          exact bX2_run_140 l w N Q E x2 hR (lv_sub hl [0, 2] rfl) h
        · have h := h.1 c_4
          refine lv_aload_n (pc := 29) hx hb dX2_run_29 rfl (lv_at hl 0 rfl) ?_
          refine gf1_3_2 (pc := 30) hx hb hts hown hK hR mw57 dX2_run_30 ?_
          refine lv_dup (pc := 33) hx hb dX2_run_33 rfl ?_
          refine gf1_5_0 (pc := 34) hx hb hts hown hK hR mw120 dX2_run_34 ?_
          refine lv_iconst (pc := 37) (v := 1) hx hb dX2_run_37 (by decide) ?_
          refine lv_iadd (pc := 38) hx hb dX2_run_38 ?_
          refine lv_topi (pc := 39) (fun v_5 ev_5 => ?_)
          have h := h v_5 ev_5
          refine pf1_5_0 (pc := 39) hx hb hts hown hK hI hR mw120 dX2_run_39 (fun H locs σ_6 eσ_6 hR => ?_)
          have h := h σ_6 eσ_6
          refine lv_aload_n (pc := 42) hx hb dX2_run_42 rfl (lv_at hl 0 rfl) ?_
          refine gf1_3_3 (pc := 43) hx hb hts hown hK hR mw55 dX2_run_43 ?_
          refine lv_aload_n (pc := 46) hx hb dX2_run_46 rfl (lv_at hl 0 rfl) ?_
          refine gf1_3_7 (pc := 47) hx hb hts hown hK hR mw54 dX2_run_47 ?_
          refine lv_iconst (pc := 50) (v := 1) hx hb dX2_run_50 (by decide) ?_
          refine lv_isub (pc := 51) hx hb dX2_run_51 ?_
          have g_7 := h.1
          have h := h.2
          refine q_aald (pc := 52) hx hb hK hR (k := 15) lt1_15 4 rfl rfl (ar1_15 _ _ _) g_7 dX2_run_52 ?_
          refine lv_astore (pc := 53) (lv' := [(4, .ref (w.2.1 (43 + ((σ_6.1 3 7) - 1).toNatClampNeg))), (0, .ref (w.2.1 3)), (1, .int x1), (2, .int x2), (3, .int x3)]) hx hb dX2_run_53 hl (by decide) rfl (fun ls hl => ?_)
          refine lv_aload (pc := 55) hx hb dX2_run_55 (lv_at hl 0 rfl) ?_
          refine gfj_1 (pc := 57) (jobK_in g_7) hx hb hts hown hK hR mw121 dX2_run_57 ?_
          refine lv_topi (pc := 60) (fun v_8 ev_8 => ?_)
          have h := h v_8 ev_8
          by_cases c_9 : v_8 = 0
          · refine lv_tableIn (pc := 60) (tgt := 92) (off := 32) hx hb dX2_run_60 (by rw [c_9]; decide) (by rw [c_9]; decide) (by rw [c_9]; rfl) (by decide) ?_
            have h := h.1 c_9
            refine lv_aload_n (pc := 92) hx hb dX2_run_92 rfl (lv_at hl 1 rfl) ?_
            refine lv_aload (pc := 93) hx hb dX2_run_93 (lv_at hl 0 rfl) ?_
            refine q_cv (pc := 95) hR (q_rV E (xp1 w) (As := [.ref (w.2.1 (43 + ((σ_6.1 3 7) - 1).toNatClampNeg))]) (rest := []) (cX2_doOrder_met l w hI N (43 + ((σ_6.1 3 7) - 1).toNatClampNeg) (jobK_in g_7) _ σ_6 h) ckX2_doOrder cvX2_doOrder mw122 ⟨rfl, rfl, Nat.le_of_ble_eq_true rfl, Nat.le_of_ble_eq_true rfl⟩ hR (rc1_3 w) rfl hl.1 rfl (Nat.le_of_ble_eq_true rfl) dX2_run_95) (fun σ_10 H locs h hR => ?_)
            refine lv_goto (pc := 98) (tgt := 134) hx hb dX2_run_98 (by decide) ?_
            exact bX2_run_134 l w N Q E x1 x2 x3 _ ih hR (lv_sub hl [1, 2, 3, 4] rfl) h
          replace h := h.2 c_9
          by_cases c_11 : v_8 = 1
          · refine lv_tableIn (pc := 60) (tgt := 101) (off := 41) hx hb dX2_run_60 (by rw [c_11]; decide) (by rw [c_11]; decide) (by rw [c_11]; rfl) (by decide) ?_
            have h := h.1 c_11
            refine lv_aload_n (pc := 101) hx hb dX2_run_101 rfl (lv_at hl 1 rfl) ?_
            refine lv_aload (pc := 102) hx hb dX2_run_102 (lv_at hl 0 rfl) ?_
            refine q_cv (pc := 104) hR (q_rV E (xp1 w) (As := [.ref (w.2.1 (43 + ((σ_6.1 3 7) - 1).toNatClampNeg))]) (rest := []) (cX2_stepPlain_met l w hI N (43 + ((σ_6.1 3 7) - 1).toNatClampNeg) (jobK_in g_7) _ σ_6 h) ckX2_stepPlain cvX2_stepPlain mw123 ⟨rfl, rfl, Nat.le_of_ble_eq_true rfl, Nat.le_of_ble_eq_true rfl⟩ hR (rc1_3 w) rfl hl.1 rfl (Nat.le_of_ble_eq_true rfl) dX2_run_104) (fun σ_12 H locs h hR => ?_)
            refine lv_goto (pc := 107) (tgt := 134) hx hb dX2_run_107 (by decide) ?_
            exact bX2_run_134 l w N Q E x1 x2 x3 _ ih hR (lv_sub hl [1, 2, 3, 4] rfl) h
          replace h := h.2 c_11
          by_cases c_13 : v_8 = 2
          · refine lv_tableIn (pc := 60) (tgt := 110) (off := 50) hx hb dX2_run_60 (by rw [c_13]; decide) (by rw [c_13]; decide) (by rw [c_13]; rfl) (by decide) ?_
            have h := h.1 c_13
            refine lv_aload_n (pc := 110) hx hb dX2_run_110 rfl (lv_at hl 1 rfl) ?_
            refine lv_aload (pc := 111) hx hb dX2_run_111 (lv_at hl 0 rfl) ?_
            refine q_cv (pc := 113) hR (q_rV E (xp1 w) (As := [.ref (w.2.1 (43 + ((σ_6.1 3 7) - 1).toNatClampNeg))]) (rest := []) (cX2_stepWide_met l w hI N (43 + ((σ_6.1 3 7) - 1).toNatClampNeg) (jobK_in g_7) _ σ_6 h) ckX2_stepWide cvX2_stepWide mw124 ⟨rfl, rfl, Nat.le_of_ble_eq_true rfl, Nat.le_of_ble_eq_true rfl⟩ hR (rc1_3 w) rfl hl.1 rfl (Nat.le_of_ble_eq_true rfl) dX2_run_113) (fun σ_14 H locs h hR => ?_)
            refine lv_goto (pc := 116) (tgt := 134) hx hb dX2_run_116 (by decide) ?_
            exact bX2_run_134 l w N Q E x1 x2 x3 _ ih hR (lv_sub hl [1, 2, 3, 4] rfl) h
          replace h := h.2 c_13
          by_cases c_15 : v_8 = 3
          · refine lv_tableIn (pc := 60) (tgt := 119) (off := 59) hx hb dX2_run_60 (by rw [c_15]; decide) (by rw [c_15]; decide) (by rw [c_15]; rfl) (by decide) ?_
            have h := h.1 c_15
            refine lv_aload_n (pc := 119) hx hb dX2_run_119 rfl (lv_at hl 1 rfl) ?_
            refine lv_aload (pc := 120) hx hb dX2_run_120 (lv_at hl 0 rfl) ?_
            refine q_cv (pc := 122) hR (q_rV E (xp1 w) (As := [.ref (w.2.1 (43 + ((σ_6.1 3 7) - 1).toNatClampNeg))]) (rest := []) (cX2_stepPacked_met l w hI N (43 + ((σ_6.1 3 7) - 1).toNatClampNeg) (jobK_in g_7) _ σ_6 h) ckX2_stepPacked cvX2_stepPacked mw125 ⟨rfl, rfl, Nat.le_of_ble_eq_true rfl, Nat.le_of_ble_eq_true rfl⟩ hR (rc1_3 w) rfl hl.1 rfl (Nat.le_of_ble_eq_true rfl) dX2_run_122) (fun σ_16 H locs h hR => ?_)
            refine lv_goto (pc := 125) (tgt := 134) hx hb dX2_run_125 (by decide) ?_
            exact bX2_run_134 l w N Q E x1 x2 x3 _ ih hR (lv_sub hl [1, 2, 3, 4] rfl) h
          replace h := h.2 c_15
          have hD : W p l e rmX2_run s m args below meth c H locs 0 0 (MQ below (va_Qi Q (Rp 223 ev1 w) (Aw 223 w)) args s 0 0 (Aw 223 w)) (F0 m 128 ls []) := by
            refine lv_aload_n (pc := 128) hx hb dX2_run_128 rfl (lv_at hl 1 rfl) ?_
            refine lv_aload (pc := 129) hx hb dX2_run_129 (lv_at hl 0 rfl) ?_
            refine q_cv (pc := 131) hR (q_rV E (xp1 w) (As := [.ref (w.2.1 (43 + ((σ_6.1 3 7) - 1).toNatClampNeg))]) (rest := []) (cX2_stepNumber_met l w hI N (43 + ((σ_6.1 3 7) - 1).toNatClampNeg) (jobK_in g_7) _ σ_6 h) ckX2_stepNumber cvX2_stepNumber mw126 ⟨rfl, rfl, Nat.le_of_ble_eq_true rfl, Nat.le_of_ble_eq_true rfl⟩ hR (rc1_3 w) rfl hl.1 rfl (Nat.le_of_ble_eq_true rfl) dX2_run_131) (fun σ_17 H locs h hR => ?_)
            exact bX2_run_134 l w N Q E x1 x2 x3 _ ih hR (lv_sub hl [1, 2, 3, 4] rfl) h
          have nc_9 := ne_i (n := 0) (by decide) c_9
          have nc_11 := ne_i (n := 1) (by decide) c_11
          have nc_13 := ne_i (n := 2) (by decide) c_13
          have nc_15 := ne_i (n := 3) (by decide) c_15
          exact lv_tableOut (pc := 60) (tgt := 128) hx hb dX2_run_60 (by omega) (by decide) hD
def fX2_run (N : Nat) (x1 : Int32) (Q : Int32 → St → Prop) (σ : St) : Prop := ∀ v_1 : Int32, v_1 = σ.1 5 1 → lo1 (fX2_run_l10 N x1 v_1 Q) N 0 σ
set_option maxHeartbeats 4000000 in
set_option maxRecDepth 100000 in
theorem bX2_run_e {p : Program} {e : Env} {s : State} {m : MethodId} {args : Array Value} {below : List Frame} {meth : Method} {c : Code} (l : Launch) (w : Wd) (N : Nat) (Q : Int32 → St → Prop) (E : Cx 223 w (X1 w) cX2_run 5 RX2 (.code yX2_run cX2_run 5 (some .int)) (some .int) p s m args meth c) (x1 : Int32) {σ : St} {H : Heap} {locs : List Loc} {ls : Array Slot} (hR : Rr 223 ev1 w σ s H locs) (hl : lv_has ls 5 [(0, .ref (w.2.1 3)), (1, .int x1)]) (h : fX2_run N x1 Q σ) : W p l e rmX2_run s m args below meth c H locs 0 0 (MQ below (va_Qi Q (Rp 223 ev1 w) (Aw 223 w)) args s 0 0 (Aw 223 w)) (F0 m 0 ls []) := by
  obtain ⟨hx, hb, hml, hown, hts, hr, hlk, hK, hI, hX⟩ := id E
  unfold fX2_run at h
  refine lv_aload_n (pc := 0) hx hb dX2_run_0 rfl (lv_at hl 0 rfl) ?_
  refine gf1_3_2 (pc := 1) hx hb hts hown hK hR mw57 dX2_run_1 ?_
  refine gf1_5_1 (pc := 4) hx hb hts hown hK hR mw88 dX2_run_4 ?_
  refine lv_topi (pc := 7) (fun v_1 ev_1 => ?_)
  have h := h v_1 ev_1
  refine lv_istore_n (pc := 7) (lv' := [(2, .int v_1), (0, .ref (w.2.1 3)), (1, .int x1)]) hx hb dX2_run_7 rfl hl (by decide) rfl (fun ls hl => ?_)
  refine lv_iconst (pc := 8) (v := 0) hx hb dX2_run_8 (by decide) ?_
  refine lv_istore_n (pc := 9) (lv' := [(3, .int 0), (2, .int v_1), (0, .ref (w.2.1 3)), (1, .int x1)]) hx hb dX2_run_9 rfl hl (by decide) rfl (fun ls hl => ?_)
  exact bX2_run_10 l w N Q E x1 v_1 N 0 σ _ _ _ hR (lv_sub hl [2, 3, 1, 0] rfl) h
theorem cX2_run_met (l : Launch) (w : Wd) (hI : Ij 223 w) (N : Nat) (x1 : Int32) (Q : Int32 → St → Prop) (σ : St) (h : fX2_run N x1 Q σ) : Met l yX2_run (.code yX2_run cX2_run 5 (some .int) :: Uw) rmX2_run (va_Pc [.ref (w.2.1 3), .int x1] (fun U => Rp 223 ev1 w σ U ∧ (X1 w) U)) (va_Qi Q (Rp 223 ev1 w) (Aw 223 w)) 0 0 (Aw 223 w) :=
  q_met (by decide) (Nat.le_of_ble_eq_true rfl) hI (fun p e s m below meth c ls E hl hR => bX2_run_e l w N Q E x1 hR hl h)
