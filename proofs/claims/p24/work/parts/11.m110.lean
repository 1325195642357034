-- GlulxStrings$BestTree.putBranch(LGlulxStrings$Memory;I)V
abbrev rmX0_putBranch : Room := { frames := 2, cells := 0, slots := 0, locals := 44 }
def fX0_putBranch (N : Nat) (x2 : Int32) (Q : St → Prop) (σ : St) : Prop := vp_in x2 121 ∧ fX3_putByte N (σ.1 35 x2.toNatClampNeg) 0 (fun σ_2 => vp_in x2 121 ∧ vp_in x2 121 ∧ vp_in (σ_2.1 31 x2.toNatClampNeg) 121 ∧ fX3_putFour N ((σ_2.1 35 x2.toNatClampNeg) + 1) (σ_2.1 35 (σ_2.1 31 x2.toNatClampNeg).toNatClampNeg) (fun σ_6 => vp_in x2 121 ∧ vp_in x2 121 ∧ vp_in (σ_6.1 32 x2.toNatClampNeg) 121 ∧ fX3_putFour N ((σ_6.1 35 x2.toNatClampNeg) + 5) (σ_6.1 35 (σ_6.1 32 x2.toNatClampNeg).toNatClampNeg) (fun σ_10 => Q σ_10) σ_6) σ_2) σ
set_option maxHeartbeats 4000000 in
set_option maxRecDepth 100000 in
theorem bX0_putBranch_e {p : Program} {e : Env} {s : State} {m : MethodId} {args : Array Value} {below : List Frame} {meth : Method} {c : Code} (l : Launch) (w : Wd) (N : Nat) (Q : St → Prop) (E : Cx 223 w (X1 w) cX0_putBranch 3 RX0 (.code yX0_putBranch cX0_putBranch 3 none) none p s m args meth c) (x2 : Int32) {σ : St} {H : Heap} {locs : List Loc} {ls : Array Slot} (hR : Rr 223 ev1 w σ s H locs) (hl : lv_has ls 3 [(0, .ref (w.2.1 9)), (1, .ref (w.2.1 1)), (2, .int x2)]) (h : fX0_putBranch N x2 Q σ) : W p l e rmX0_putBranch s m args below meth c H locs 0 0 (MQ below (va_Qv Q (Rp 223 ev1 w) (Aw 223 w)) args s 0 0 (Aw 223 w)) (F0 m 0 ls []) := by
  obtain ⟨hx, hb, hml, hown, hts, hr, hlk, hK, hI, hX⟩ := id E
  unfold fX0_putBranch at h
  refine lv_aload_n (pc := 0) hx hb dX0_putBranch_0 rfl (lv_at hl 1 rfl) ?_
  refine lv_aload_n (pc := 1) hx hb dX0_putBranch_1 rfl (lv_at hl 0 rfl) ?_
  refine gf1_9_6 (pc := 2) hx hb hts hown hK hR mw213 dX0_putBranch_2 ?_
  refine lv_iload_n (pc := 5) hx hb dX0_putBranch_5 rfl (lv_at hl 2 rfl) ?_
  have g_1 := h.1
  have h := h.2
  refine q_iald (pc := 6) hx hb hK hR (k := 35) lt1_35 (ar1_35 _ _ _) g_1 dX0_putBranch_6 ?_
  refine lv_iconst (pc := 7) (v := 0) hx hb dX0_putBranch_7 (by decide) ?_
  refine q_cv (pc := 8) hR (q_rV E (xp1 w) (As := [.int (σ.1 35 x2.toNatClampNeg), .int 0]) (rest := []) (cX3_putByte_met l w hI N (σ.1 35 x2.toNatClampNeg) 0 _ σ h) ckX3_putByte cvX3_putByte mw218 ⟨rfl, rfl, Nat.le_of_ble_eq_true rfl, Nat.le_of_ble_eq_true rfl⟩ hR (rc1_1 w) rfl hl.1 rfl (Nat.le_of_ble_eq_true rfl) dX0_putBranch_8) (fun σ_2 H locs h hR => ?_)
  refine lv_aload_n (pc := 11) hx hb dX0_putBranch_11 rfl (lv_at hl 1 rfl) ?_
  refine lv_aload_n (pc := 12) hx hb dX0_putBranch_12 rfl (lv_at hl 0 rfl) ?_
  refine gf1_9_6 (pc := 13) hx hb hts hown hK hR mw213 dX0_putBranch_13 ?_
  refine lv_iload_n (pc := 16) hx hb dX0_putBranch_16 rfl (lv_at hl 2 rfl) ?_
  have g_3 := h.1
  have h := h.2
  refine q_iald (pc := 17) hx hb hK hR (k := 35) lt1_35 (ar1_35 _ _ _) g_3 dX0_putBranch_17 ?_
  refine lv_iconst (pc := 18) (v := 1) hx hb dX0_putBranch_18 (by decide) ?_
  refine lv_iadd (pc := 19) hx hb dX0_putBranch_19 ?_
  refine lv_aload_n (pc := 20) hx hb dX0_putBranch_20 rfl (lv_at hl 0 rfl) ?_
  refine gf1_9_6 (pc := 21) hx hb hts hown hK hR mw213 dX0_putBranch_21 ?_
  refine lv_aload_n (pc := 24) hx hb dX0_putBranch_24 rfl (lv_at hl 0 rfl) ?_
  refine gf1_9_2 (pc := 25) hx hb hts hown hK hR mw202 dX0_putBranch_25 ?_
  refine lv_iload_n (pc := 28) hx hb dX0_putBranch_28 rfl (lv_at hl 2 rfl) ?_
  have g_4 := h.1
  have h := h.2
  refine q_iald (pc := 29) hx hb hK hR (k := 31) lt1_31 (ar1_31 _ _ _) g_4 dX0_putBranch_29 ?_
  have g_5 := h.1
  have h := h.2
  refine q_iald (pc := 30) hx hb hK hR (k := 35) lt1_35 (ar1_35 _ _ _) g_5 dX0_putBranch_30 ?_
  refine q_cv (pc := 31) hR (q_rV E (xp1 w) (As := [.int ((σ_2.1 35 x2.toNatClampNeg) + 1), .int (σ_2.1 35 (σ_2.1 31 x2.toNatClampNeg).toNatClampNeg)]) (rest := []) (cX3_putFour_met l w hI N ((σ_2.1 35 x2.toNatClampNeg) + 1) (σ_2.1 35 (σ_2.1 31 x2.toNatClampNeg).toNatClampNeg) _ σ_2 h) ckX3_putFour cvX3_putFour mw219 ⟨rfl, rfl, Nat.le_of_ble_eq_true rfl, Nat.le_of_ble_eq_true rfl⟩ hR (rc1_1 w) rfl hl.1 rfl (Nat.le_of_ble_eq_true rfl) dX0_putBranch_31) (fun σ_6 H locs h hR => ?_)
  refine lv_aload_n (pc := 34) hx hb dX0_putBranch_34 rfl (lv_at hl 1 rfl) ?_
  refine lv_aload_n (pc := 35) hx hb dX0_putBranch_35 rfl (lv_at hl 0 rfl) ?_
  refine gf1_9_6 (pc := 36) hx hb hts hown hK hR mw213 dX0_putBranch_36 ?_
  refine lv_iload_n (pc := 39) hx hb dX0_putBranch_39 rfl (lv_at hl 2 rfl) ?_
  have g_7 := h.1
  have h := h.2
  refine q_iald (pc := 40) hx hb hK hR (k := 35) lt1_35 (ar1_35 _ _ _) g_7 dX0_putBranch_40 ?_
  refine lv_iconst (pc := 41) (v := 5) hx hb dX0_putBranch_41 (by decide) ?_
  refine lv_iadd (pc := 42) hx hb dX0_putBranch_42 ?_
  refine lv_aload_n (pc := 43) hx hb dX0_putBranch_43 rfl (lv_at hl 0 rfl) ?_
  refine gf1_9_6 (pc := 44) hx hb hts hown hK hR mw213 dX0_putBranch_44 ?_
  refine lv_aload_n (pc := 47) hx hb dX0_putBranch_47 rfl (lv_at hl 0 rfl) ?_
  refine gf1_9_3 (pc := 48) hx hb hts hown hK hR mw203 dX0_putBranch_48 ?_
  refine lv_iload_n (pc := 51) hx hb dX0_putBranch_51 rfl (lv_at hl 2 rfl) ?_
  have g_8 := h.1
  have h := h.2
  refine q_iald (pc := 52) hx hb hK hR (k := 32) lt1_32 (ar1_32 _ _ _) g_8 dX0_putBranch_52 ?_
  have g_9 := h.1
  have h := h.2
  refine q_iald (pc := 53) hx hb hK hR (k := 35) lt1_35 (ar1_35 _ _ _) g_9 dX0_putBranch_53 ?_
  refine q_cv (pc := 54) hR (q_rV E (xp1 w) (As := [.int ((σ_6.1 35 x2.toNatClampNeg) + 5), .int (σ_6.1 35 (σ_6.1 32 x2.toNatClampNeg).toNatClampNeg)]) (rest := []) (cX3_putFour_met l w hI N ((σ_6.1 35 x2.toNatClampNeg) + 5) (σ_6.1 35 (σ_6.1 32 x2.toNatClampNeg).toNatClampNeg) _ σ_6 h) ckX3_putFour cvX3_putFour mw219 ⟨rfl, rfl, Nat.le_of_ble_eq_true rfl, Nat.le_of_ble_eq_true rfl⟩ hR (rc1_1 w) rfl hl.1 rfl (Nat.le_of_ble_eq_true rfl) dX0_putBranch_54) (fun σ_10 H locs h hR => ?_)
  exact q_vret (pc := 57) E hR h dX0_putBranch_57
theorem cX0_putBranch_met (l : Launch) (w : Wd) (hI : Ij 223 w) (N : Nat) (x2 : Int32) (Q : St → Prop) (σ : St) (h : fX0_putBranch N x2 Q σ) : Met l yX0_putBranch (.code yX0_putBranch cX0_putBranch 3 none :: Uw) rmX0_putBranch (va_Pc [.ref (w.2.1 9), .ref (w.2.1 1), .int x2] (fun U => Rp 223 ev1 w σ U ∧ (X1 w) U)) (va_Qv Q (Rp 223 ev1 w) (Aw 223 w)) 0 0 (Aw 223 w) :=
  q_met (by decide) (Nat.le_of_ble_eq_true rfl) hI (fun p e s m below meth c ls E hl hR => bX0_putBranch_e l w N Q E x2 hR hl h)
-- GlulxStrings$Pieces.putBytes(LGlulxStrings$Memory;II)V
abbrev rmX7_putBytes : Room := { frames := 1, cells := 0, slots := 0, locals := 22 }
def fX7_putBytes_j44 (N : Nat) (x2 : Int32) (x3 : Int32) (Q : St → Prop) (σ : St) : Prop := vp_in x2 60 ∧ fX3_putByte N (x3 + (σ.1 21 x2.toNatClampNeg)) 0 (fun σ_4 => Q σ_4) σ
set_option maxHeartbeats 4000000 in
set_option maxRecDepth 100000 in
theorem bX7_putBytes_44 {p : Program} {e : Env} {s : State} {m : MethodId} {args : Array Value} {below : List Frame} {meth : Method} {c : Code} (l : Launch) (w : Wd) (N : Nat) (Q : St → Prop) (E : Cx 223 w (X1 w) cX7_putBytes 5 RX7 (.code yX7_putBytes cX7_putBytes 5 none) none p s m args meth c) (x2 : Int32) (x3 : Int32) {σ : St} {H : Heap} {locs : List Loc} {ls : Array Slot} (hR : Rr 223 ev1 w σ s H locs) (hl : lv_has ls 5 [(0, .ref (w.2.1 6)), (1, .ref (w.2.1 1)), (2, .int x2), (3, .int x3)]) (h : fX7_putBytes_j44 N x2 x3 Q σ) : W p l e rmX7_putBytes s m args below meth c H locs 0 0 (MQ below (va_Qv Q (Rp 223 ev1 w) (Aw 223 w)) args s 0 0 (Aw 223 w)) (F0 m 44 ls []) := by
  obtain ⟨hx, hb, hml, hown, hts, hr, hlk, hK, hI, hX⟩ := id E
  unfold fX7_putBytes_j44 at h
  refine lv_aload_n (pc := 44) hx hb dX7_putBytes_44 rfl (lv_at hl 1 rfl) ?_
  refine lv_iload_n (pc := 45) hx hb dX7_putBytes_45 rfl (lv_at hl 3 rfl) ?_
  refine lv_aload_n (pc := 46) hx hb dX7_putBytes_46 rfl (lv_at hl 0 rfl) ?_
  refine gf1_6_3 (pc := 47) hx hb hts hown hK hR mw162 dX7_putBytes_47 ?_
  refine lv_iload_n (pc := 50) hx hb dX7_putBytes_50 rfl (lv_at hl 2 rfl) ?_
  have g_3 := h.1
  have h := h.2
  refine q_iald (pc := 51) hx hb hK hR (k := 21) lt1_21 (ar1_21 _ _ _) g_3 dX7_putBytes_51 ?_
  refine lv_iadd (pc := 52) hx hb dX7_putBytes_52 ?_
  refine lv_iconst (pc := 53) (v := 0) hx hb dX7_putBytes_53 (by decide) ?_
  refine q_cv (pc := 54) hR (q_rV E (xp1 w) (As := [.int (x3 + (σ.1 21 x2.toNatClampNeg)), .int 0]) (rest := []) (cX3_putByte_met l w hI N (x3 + (σ.1 21 x2.toNatClampNeg)) 0 _ σ h) ckX3_putByte cvX3_putByte mw220 ⟨rfl, rfl, Nat.le_of_ble_eq_true rfl, Nat.le_of_ble_eq_true rfl⟩ hR (rc1_1 w) rfl hl.1 rfl (Nat.le_of_ble_eq_true rfl) dX7_putBytes_54) (fun σ_4 H locs h hR => ?_)
  exact q_vret (pc := 57) E hR h dX7_putBytes_57
def fX7_putBytes_l3 (N : Nat) (x2 : Int32) (x3 : Int32) (Q : St → Prop) (r3 : Int32 → St → Prop) (x4 : Int32) (σ : St) : Prop := vp_in x2 60 ∧ (((σ.1 21 x2.toNatClampNeg) ≤ x4 → fX7_putBytes_j44 N x2 x3 Q σ) ∧ (¬ (σ.1 21 x2.toNatClampNeg) ≤ x4 → ((20 ≤ x4 → fX7_putBytes_j44 N x2 x3 Q σ) ∧ (¬ 20 ≤ x4 → vp_in x2 60 ∧ vp_in x4 20 ∧ fX3_putByte N (x3 + x4) (σ.1 (123 + x2.toNatClampNeg) x4.toNatClampNeg) (fun σ_6 => ∀ v_7 : Int32, v_7 = x4 + 1 → r3 v_7 σ_6) σ))))
set_option maxHeartbeats 4000000 in
set_option maxRecDepth 100000 in
theorem bX7_putBytes_3 {p : Program} {e : Env} {s : State} {m : MethodId} {args : Array Value} {below : List Frame} {meth : Method} {c : Code} (l : Launch) (w : Wd) (N : Nat) (Q : St → Prop) (E : Cx 223 w (X1 w) cX7_putBytes 5 RX7 (.code yX7_putBytes cX7_putBytes 5 none) none p s m args meth c) (x2 : Int32) (x3 : Int32) : ∀ (n : Nat) (x4 : Int32) (σ : St) (H : Heap) (locs : List Loc) (ls : Array Slot), Rr 223 ev1 w σ s H locs → lv_has ls 5 [(0, .ref (w.2.1 6)), (1, .ref (w.2.1 1)), (2, .int x2), (3, .int x3), (4, .int x4)] → lo1 (fX7_putBytes_l3 N x2 x3 Q) n x4 σ → W p l e rmX7_putBytes s m args below meth c H locs 0 0 (MQ below (va_Qv Q (Rp 223 ev1 w) (Aw 223 w)) args s 0 0 (Aw 223 w)) (F0 m 3 ls []) := by
  obtain ⟨hx, hb, hml, hown, hts, hr, hlk, hK, hI, hX⟩ := id E
  intro n
  induction n with
  | zero => intro x4 σ H locs ls hR hl h; exact h.elim
  | succ n ih =>
    intro x4 σ H locs ls hR hl h
    have h : fX7_putBytes_l3 N x2 x3 Q (lo1 (fX7_putBytes_l3 N x2 x3 Q) n) x4 σ := h
    unfold fX7_putBytes_l3 at h
    refine lv_iload (pc := 3) hx hb dX7_putBytes_3 (lv_at hl 4 rfl) ?_
    refine lv_aload_n (pc := 5) hx hb dX7_putBytes_5 rfl (lv_at hl 0 rfl) ?_
    refine gf1_6_3 (pc := 6) hx hb hts hown hK hR mw162 dX7_putBytes_6 ?_
    refine lv_iload_n (pc := 9) hx hb dX7_putBytes_9 rfl (lv_at hl 2 rfl) ?_
    have g_1 := h.1
    have h := h.2
    refine q_iald (pc := 10) hx hb hK hR (k := 21) lt1_21 (ar1_21 _ _ _) g_1 dX7_putBytes_10 ?_
    refine lv_icmp_ge (pc := 11) (tgt := 44) hx hb dX7_putBytes_11 (by decide) (fun c_2 => ?_) (fun c_2 => ?_)
    · have h := h.1 c_2
      exact bX7_putBytes_44 l w N Q E x2 x3 hR (lv_sub hl [0, 1, 2, 3] rfl) h
    · have h := h.2 c_2
      refine lv_iload (pc := 14) hx hb dX7_putBytes_14 (lv_at hl 4 rfl) ?_
      refine lv_bipush (pc := 16) (v := 20) hx hb dX7_putBytes_16 (by decide) ?_
      refine lv_icmp_ge (pc := 18) (tgt := 44) hx hb dX7_putBytes_18 (by decide) (fun c_3 => ?_) (fun c_3 => ?_)
      · have h := h.1 c_3
        exact bX7_putBytes_44 l w N Q E x2 x3 hR (lv_sub hl [0, 1, 2, 3] rfl) h
      · have h := h.2 c_3
        refine lv_aload_n (pc := 21) hx hb dX7_putBytes_21 rfl (lv_at hl 1 rfl) ?_
        refine lv_iload_n (pc := 22) hx hb dX7_putBytes_22 rfl (lv_at hl 3 rfl) ?_
        refine lv_iload (pc := 23) hx hb dX7_putBytes_23 (lv_at hl 4 rfl) ?_
        refine lv_iadd (pc := 25) hx hb dX7_putBytes_25 ?_
        refine lv_aload_n (pc := 26) hx hb dX7_putBytes_26 rfl (lv_at hl 0 rfl) ?_
        refine gf1_6_2 (pc := 27) hx hb hts hown hK hR mw165 dX7_putBytes_27 ?_
        refine lv_iload_n (pc := 30) hx hb dX7_putBytes_30 rfl (lv_at hl 2 rfl) ?_
        have g_4 := h.1
        have h := h.2
        refine q_aald (pc := 31) hx hb hK hR (k := 20) lt1_20 5 rfl rfl (ar1_20 _ _ _) g_4 dX7_putBytes_31 ?_
        refine lv_iload (pc := 32) hx hb dX7_putBytes_32 (lv_at hl 4 rfl) ?_
        have g_5 := h.1
        have h := h.2
        refine q_iald (pc := 34) hx hb hK hR (k := (123 + x2.toNatClampNeg)) (r20_lt (r20_in g_4)) (ev1_r20 (r20_in g_4)) g_5 dX7_putBytes_34 ?_
        refine q_cv (pc := 35) hR (q_rV E (xp1 w) (As := [.int (x3 + x4), .int (σ.1 (123 + x2.toNatClampNeg) x4.toNatClampNeg)]) (rest := []) (cX3_putByte_met l w hI N (x3 + x4) (σ.1 (123 + x2.toNatClampNeg) x4.toNatClampNeg) _ σ h) ckX3_putByte cvX3_putByte mw220 ⟨rfl, rfl, Nat.le_of_ble_eq_true rfl, Nat.le_of_ble_eq_true rfl⟩ hR (rc1_1 w) rfl hl.1 rfl (Nat.le_of_ble_eq_true rfl) dX7_putBytes_35) (fun σ_6 H locs h hR => ?_)
        obtain ⟨v_7, ev_7⟩ : ∃ z : Int32, z = x4 + 1 := ⟨_, rfl⟩
        have h := h v_7 ev_7
        refine lv_iinc (pc := 38) (v := v_7) (lv' := [(4, .int v_7), (0, .ref (w.2.1 6)), (1, .ref (w.2.1 1)), (2, .int x2), (3, .int x3)]) hx hb dX7_putBytes_38 hl (k := 4) rfl (by rw [ev_7]; rfl) (by decide) rfl (fun ls hl => ?_)
        refine lv_goto (pc := 41) (tgt := 3) hx hb dX7_putBytes_41 (by decide) ?_
        exact ih v_7 σ_6 _ _ _ hR (lv_sub hl [1, 2, 3, 4, 0] rfl) h
def fX7_putBytes (N : Nat) (x2 : Int32) (x3 : Int32) (Q : St → Prop) (σ : St) : Prop := lo1 (fX7_putBytes_l3 N x2 x3 Q) N 0 σ
set_option maxHeartbeats 4000000 in
set_option maxRecDepth 100000 in
theorem bX7_putBytes_e {p : Program} {e : Env} {s : State} {m : MethodId} {args : Array Value} {below : List Frame} {meth : Method} {c : Code} (l : Launch) (w : Wd) (N : Nat) (Q : St → Prop) (E : Cx 223 w (X1 w) cX7_putBytes 5 RX7 (.code yX7_putBytes cX7_putBytes 5 none) none p s m args meth c) (x2 : Int32) (x3 : Int32) {σ : St} {H : Heap} {locs : List Loc} {ls : Array Slot} (hR : Rr 223 ev1 w σ s H locs) (hl : lv_has ls 5 [(0, .ref (w.2.1 6)), (1, .ref (w.2.1 1)), (2, .int x2), (3, .int x3)]) (h : fX7_putBytes N x2 x3 Q σ) : W p l e rmX7_putBytes s m args below meth c H locs 0 0 (MQ below (va_Qv Q (Rp 223 ev1 w) (Aw 223 w)) args s 0 0 (Aw 223 w)) (F0 m 0 ls []) := by
  obtain ⟨hx, hb, hml, hown, hts, hr, hlk, hK, hI, hX⟩ := id E
  unfold fX7_putBytes at h
  refine lv_iconst (pc := 0) (v := 0) hx hb dX7_putBytes_0 (by decide) ?_
  refine lv_istore (pc := 1) (lv' := [(4, .int 0), (0, .ref (w.2.1 6)), (1, .ref (w.2.1 1)), (2, .int x2), (3, .int x3)]) hx hb dX7_putBytes_1 hl (by decide) rfl (fun ls hl => ?_)
  exact bX7_putBytes_3 l w N Q E x2 x3 N 0 σ _ _ _ hR (lv_sub hl [1, 2, 3, 4, 0] rfl) h
theorem cX7_putBytes_met (l : Launch) (w : Wd) (hI : Ij 223 w) (N : Nat) (x2 : Int32) (x3 : Int32) (Q : St → Prop) (σ : St) (h : fX7_putBytes N x2 x3 Q σ) : Met l yX7_putBytes (.code yX7_putBytes cX7_putBytes 5 none :: Uw) rmX7_putBytes (va_Pc [.ref (w.2.1 6), .ref (w.2.1 1), .int x2, .int x3] (fun U => Rp 223 ev1 w σ U ∧ (X1 w) U)) (va_Qv Q (Rp 223 ev1 w) (Aw 223 w)) 0 0 (Aw 223 w) :=
  q_met (by decide) (Nat.le_of_ble_eq_true rfl) hI (fun p e s m below meth c ls E hl hR => bX7_putBytes_e l w N Q E x2 x3 hR hl h)
-- GlulxStrings$Pieces.putFours(LGlulxStrings$Memory;II)V
abbrev rmX7_putFours : Room := { frames := 2, cells := 0, slots := 0, locals := 44 }
def fX7_putFours_j46 (N : Nat) (x2 : Int32) (x3 : Int32) (Q : St → Prop) (σ : St) : Prop := vp_in x2 60 ∧ fX3_putFour N (x3 + (4 * (σ.1 21 x2.toNatClampNeg))) 0 (fun σ_4 => Q σ_4) σ
set_option maxHeartbeats 4000000 in
set_option maxRecDepth 100000 in
theorem bX7_putFours_46 {p : Program} {e : Env} {s : State} {m : MethodId} {args : Array Value} {below : List Frame} {meth : Method} {c : Code} (l : Launch) (w : Wd) (N : Nat) (Q : St → Prop) (E : Cx 223 w (X1 w) cX7_putFours 5 RX7 (.code yX7_putFours cX7_putFours 5 none) none p s m args meth c) (x2 : Int32) (x3 : Int32) {σ : St} {H : Heap} {locs : List Loc} {ls : Array Slot} (hR : Rr 223 ev1 w σ s H locs) (hl : lv_has ls 5 [(0, .ref (w.2.1 6)), (1, .ref (w.2.1 1)), (2, .int x2), (3, .int x3)]) (h : fX7_putFours_j46 N x2 x3 Q σ) : W p l e rmX7_putFours s m args below meth c H locs 0 0 (MQ below (va_Qv Q (Rp 223 ev1 w) (Aw 223 w)) args s 0 0 (Aw 223 w)) (F0 m 46 ls []) := by
  obtain ⟨hx, hb, hml, hown, hts, hr, hlk, hK, hI, hX⟩ := id E
  unfold fX7_putFours_j46 at h
  refine lv_aload_n (pc := 46) hx hb dX7_putFours_46 rfl (lv_at hl 1 rfl) ?_
  refine lv_iload_n (pc := 47) hx hb dX7_putFours_47 rfl (lv_at hl 3 rfl) ?_
  refine lv_iconst (pc := 48) (v := 4) hx hb dX7_putFours_48 (by decide) ?_
  refine lv_aload_n (pc := 49) hx hb dX7_putFours_49 rfl (lv_at hl 0 rfl) ?_
  refine gf1_6_3 (pc := 50) hx hb hts hown hK hR mw162 dX7_putFours_50 ?_
  refine lv_iload_n (pc := 53) hx hb dX7_putFours_53 rfl (lv_at hl 2 rfl) ?_
  have g_3 := h.1
  have h := h.2
  refine q_iald (pc := 54) hx hb hK hR (k := 21) lt1_21 (ar1_21 _ _ _) g_3 dX7_putFours_54 ?_
  refine lv_imul (pc := 55) hx hb dX7_putFours_55 ?_
  refine lv_iadd (pc := 56) hx hb dX7_putFours_56 ?_
  refine lv_iconst (pc := 57) (v := 0) hx hb dX7_putFours_57 (by decide) ?_
  refine q_cv (pc := 58) hR (q_rV E (xp1 w) (As := [.int (x3 + (4 * (σ.1 21 x2.toNatClampNeg))), .int 0]) (rest := []) (cX3_putFour_met l w hI N (x3 + (4 * (σ.1 21 x2.toNatClampNeg))) 0 _ σ h) ckX3_putFour cvX3_putFour mw221 ⟨rfl, rfl, Nat.le_of_ble_eq_true rfl, Nat.le_of_ble_eq_true rfl⟩ hR (rc1_1 w) rfl hl.1 rfl (Nat.le_of_ble_eq_true rfl) dX7_putFours_58) (fun σ_4 H locs h hR => ?_)
  exact q_vret (pc := 61) E hR h dX7_putFours_61
def fX7_putFours_l3 (N : Nat) (x2 : Int32) (x3 : Int32) (Q : St → Prop) (r3 : Int32 → St → Prop) (x4 : Int32) (σ : St) : Prop := vp_in x2 60 ∧ (((σ.1 21 x2.toNatClampNeg) ≤ x4 → fX7_putFours_j46 N x2 x3 Q σ) ∧ (¬ (σ.1 21 x2.toNatClampNeg) ≤ x4 → ((20 ≤ x4 → fX7_putFours_j46 N x2 x3 Q σ) ∧ (¬ 20 ≤ x4 → vp_in x2 60 ∧ vp_in x4 20 ∧ fX3_putFour N (x3 + (4 * x4)) (σ.1 (123 + x2.toNatClampNeg) x4.toNatClampNeg) (fun σ_6 => ∀ v_7 : Int32, v_7 = x4 + 1 → r3 v_7 σ_6) σ))))
set_option maxHeartbeats 4000000 in
set_option maxRecDepth 100000 in
theorem bX7_putFours_3 {p : Program} {e : Env} {s : State} {m : MethodId} {args : Array Value} {below : List Frame} {meth : Method} {c : Code} (l : Launch) (w : Wd) (N : Nat) (Q : St → Prop) (E : Cx 223 w (X1 w) cX7_putFours 5 RX7 (.code yX7_putFours cX7_putFours 5 none) none p s m args meth c) (x2 : Int32) (x3 : Int32) : ∀ (n : Nat) (x4 : Int32) (σ : St) (H : Heap) (locs : List Loc) (ls : Array Slot), Rr 223 ev1 w σ s H locs → lv_has ls 5 [(0, .ref (w.2.1 6)), (1, .ref (w.2.1 1)), (2, .int x2), (3, .int x3), (4, .int x4)] → lo1 (fX7_putFours_l3 N x2 x3 Q) n x4 σ → W p l e rmX7_putFours s m args below meth c H locs 0 0 (MQ below (va_Qv Q (Rp 223 ev1 w) (Aw 223 w)) args s 0 0 (Aw 223 w)) (F0 m 3 ls []) := by
  obtain ⟨hx, hb, hml, hown, hts, hr, hlk, hK, hI, hX⟩ := id E
  intro n
  induction n with
  | zero => intro x4 σ H locs ls hR hl h; exact h.elim
  | succ n ih =>
    intro x4 σ H locs ls hR hl h
    have h : fX7_putFours_l3 N x2 x3 Q (lo1 (fX7_putFours_l3 N x2 x3 Q) n) x4 σ := h
    unfold fX7_putFours_l3 at h
    refine lv_iload (pc := 3) hx hb dX7_putFours_3 (lv_at hl 4 rfl) ?_
    refine lv_aload_n (pc := 5) hx hb dX7_putFours_5 rfl (lv_at hl 0 rfl) ?_
    refine gf1_6_3 (pc := 6) hx hb hts hown hK hR mw162 dX7_putFours_6 ?_
    refine lv_iload_n (pc := 9) hx hb dX7_putFours_9 rfl (lv_at hl 2 rfl) ?_
    have g_1 := h.1
    have h := h.2
    refine q_iald (pc := 10) hx hb hK hR (k := 21) lt1_21 (ar1_21 _ _ _) g_1 dX7_putFours_10 ?_
    refine lv_icmp_ge (pc := 11) (tgt := 46) hx hb dX7_putFours_11 (by decide) (fun c_2 => ?_) (fun c_2 => ?_)
    · have h := h.1 c_2
      exact bX7_putFours_46 l w N Q E x2 x3 hR (lv_sub hl [0, 1, 2, 3] rfl) h
    · have h := h.2 c_2
      refine lv_iload (pc := 14) hx hb dX7_putFours_14 (lv_at hl 4 rfl) ?_
      refine lv_bipush (pc := 16) (v := 20) hx hb dX7_putFours_16 (by decide) ?_
      refine lv_icmp_ge (pc := 18) (tgt := 46) hx hb dX7_putFours_18 (by decide) (fun c_3 => ?_) (fun c_3 => ?_)
      · have h := h.1 c_3
        exact bX7_putFours_46 l w N Q E x2 x3 hR (lv_sub hl [0, 1, 2, 3] rfl) h
      · have h := h.2 c_3
        refine lv_aload_n (pc := 21) hx hb dX7_putFours_21 rfl (lv_at hl 1 rfl) ?_
        refine lv_iload_n (pc := 22) hx hb dX7_putFours_22 rfl (lv_at hl 3 rfl) ?_
        refine lv_iconst (pc := 23) (v := 4) hx hb dX7_putFours_23 (by decide) ?_
        refine lv_iload (pc := 24) hx hb dX7_putFours_24 (lv_at hl 4 rfl) ?_
        refine lv_imul (pc := 26) hx hb dX7_putFours_26 ?_
        refine lv_iadd (pc := 27) hx hb dX7_putFours_27 ?_
        refine lv_aload_n (pc := 28) hx hb dX7_putFours_28 rfl (lv_at hl 0 rfl) ?_
        refine gf1_6_2 (pc := 29) hx hb hts hown hK hR mw165 dX7_putFours_29 ?_
        refine lv_iload_n (pc := 32) hx hb dX7_putFours_32 rfl (lv_at hl 2 rfl) ?_
        have g_4 := h.1
        have h := h.2
        refine q_aald (pc := 33) hx hb hK hR (k := 20) lt1_20 5 rfl rfl (ar1_20 _ _ _) g_4 dX7_putFours_33 ?_
        refine lv_iload (pc := 34) hx hb dX7_putFours_34 (lv_at hl 4 rfl) ?_
        have g_5 := h.1
        have h := h.2
        refine q_iald (pc := 36) hx hb hK hR (k := (123 + x2.toNatClampNeg)) (r20_lt (r20_in g_4)) (ev1_r20 (r20_in g_4)) g_5 dX7_putFours_36 ?_
        refine q_cv (pc := 37) hR (q_rV E (xp1 w) (As := [.int (x3 + (4 * x4)), .int (σ.1 (123 + x2.toNatClampNeg) x4.toNatClampNeg)]) (rest := []) (cX3_putFour_met l w hI N (x3 + (4 * x4)) (σ.1 (123 + x2.toNatClampNeg) x4.toNatClampNeg) _ σ h) ckX3_putFour cvX3_putFour mw221 ⟨rfl, rfl, Nat.le_of_ble_eq_true rfl, Nat.le_of_ble_eq_true rfl⟩ hR (rc1_1 w) rfl hl.1 rfl (Nat.le_of_ble_eq_true rfl) dX7_putFours_37) (fun σ_6 H locs h hR => ?_)
        obtain ⟨v_7, ev_7⟩ : ∃ z : Int32, z = x4 + 1 := ⟨_, rfl⟩
        have h := h v_7 ev_7
        refine lv_iinc (pc := 40) (v := v_7) (lv' := [(4, .int v_7), (0, .ref (w.2.1 6)), (1, .ref (w.2.1 1)), (2, .int x2), (3, .int x3)]) hx hb dX7_putFours_40 hl (k := 4) rfl (by rw [ev_7]; rfl) (by decide) rfl (fun ls hl => ?_)
        refine lv_goto (pc := 43) (tgt := 3) hx hb dX7_putFours_43 (by decide) ?_
        exact ih v_7 σ_6 _ _ _ hR (lv_sub hl [1, 2, 3, 4, 0] rfl) h
def fX7_putFours (N : Nat) (x2 : Int32) (x3 : Int32) (Q : St → Prop) (σ : St) : Prop := lo1 (fX7_putFours_l3 N x2 x3 Q) N 0 σ
set_option maxHeartbeats 4000000 in
set_option maxRecDepth 100000 in
theorem bX7_putFours_e {p : Program} {e : Env} {s : State} {m : MethodId} {args : Array Value} {below : List Frame} {meth : Method} {c : Code} (l : Launch) (w : Wd) (N : Nat) (Q : St → Prop) (E : Cx 223 w (X1 w) cX7_putFours 5 RX7 (.code yX7_putFours cX7_putFours 5 none) none p s m args meth c) (x2 : Int32) (x3 : Int32) {σ : St} {H : Heap} {locs : List Loc} {ls : Array Slot} (hR : Rr 223 ev1 w σ s H locs) (hl : lv_has ls 5 [(0, .ref (w.2.1 6)), (1, .ref (w.2.1 1)), (2, .int x2), (3, .int x3)]) (h : fX7_putFours N x2 x3 Q σ) : W p l e rmX7_putFours s m args below meth c H locs 0 0 (MQ below (va_Qv Q (Rp 223 ev1 w) (Aw 223 w)) args s 0 0 (Aw 223 w)) (F0 m 0 ls []) := by
  obtain ⟨hx, hb, hml, hown, hts, hr, hlk, hK, hI, hX⟩ := id E
  unfold fX7_putFours at h
  refine lv_iconst (pc := 0) (v := 0) hx hb dX7_putFours_0 (by decide) ?_
  refine lv_istore (pc := 1) (lv' := [(4, .int 0), (0, .ref (w.2.1 6)), (1, .ref (w.2.1 1)), (2, .int x2), (3, .int x3)]) hx hb dX7_putFours_1 hl (by decide) rfl (fun ls hl => ?_)
  exact bX7_putFours_3 l w N Q E x2 x3 N 0 σ _ _ _ hR (lv_sub hl [1, 2, 3, 4, 0] rfl) h
theorem cX7_putFours_met (l : Launch) (w : Wd) (hI : Ij 223 w) (N : Nat) (x2 : Int32) (x3 : Int32) (Q : St → Prop) (σ : St) (h : fX7_putFours N x2 x3 Q σ) : Met l yX7_putFours (.code yX7_putFours cX7_putFours 5 none :: Uw) rmX7_putFours (va_Pc [.ref (w.2.1 6), .ref (w.2.1 1), .int x2, .int x3] (fun U => Rp 223 ev1 w σ U ∧ (X1 w) U)) (va_Qv Q (Rp 223 ev1 w) (Aw 223 w)) 0 0 (Aw 223 w) :=
  q_met (by decide) (Nat.le_of_ble_eq_true rfl) hI (fun p e s m below meth c ls E hl hR => bX7_putFours_e l w N Q E x2 x3 hR hl h)
-- GlulxStrings$Pieces.putNode(LGlulxStrings$Memory;II)V
abbrev rmX7_putNode : Room := { frames := 3, cells := 0, slots := 0, locals := 68 }
def fX7_putNode (N : Nat) (x2 : Int32) (x3 : Int32) (Q : St → Prop) (σ : St) : Prop := vp_in x2 60 ∧ fX3_putByte N x3 (σ.1 18 x2.toNatClampNeg) (fun σ_2 => vp_in x2 60 ∧ ∀ v_4 : Int32, v_4 = σ_2.1 18 x2.toNatClampNeg → ((v_4 = 2 → vp_in x2 60 ∧ vp_in 0 20 ∧ fX3_putByte N (x3 + 1) (σ_2.1 (123 + x2.toNatClampNeg) (0 : Int32).toNatClampNeg) (fun σ_8 => Q σ_8) σ_2) ∧ (¬ v_4 = 2 → ((v_4 = 3 → fX7_putBytes N x2 (x3 + 1) (fun σ_10 => Q σ_10) σ_2) ∧ (¬ v_4 = 3 → ((v_4 = 4 → vp_in x2 60 ∧ vp_in 0 20 ∧ fX3_putFour N (x3 + 1) (σ_2.1 (123 + x2.toNatClampNeg) (0 : Int32).toNatClampNeg) (fun σ_14 => Q σ_14) σ_2) ∧ (¬ v_4 = 4 → ((v_4 = 5 → fX7_putFours N x2 (x3 + 1) (fun σ_16 => Q σ_16) σ_2) ∧ (¬ v_4 = 5 → vp_in x2 60 ∧ fX3_putFour N (x3 + 1) (σ_2.1 19 x2.toNatClampNeg) (fun σ_18 => Q σ_18) σ_2))))))))) σ
set_option maxHeartbeats 4000000 in
set_option maxRecDepth 100000 in
theorem bX7_putNode_e {p : Program} {e : Env} {s : State} {m : MethodId} {args : Array Value} {below : List Frame} {meth : Method} {c : Code} (l : Launch) (w : Wd) (N : Nat) (Q : St → Prop) (E : Cx 223 w (X1 w) cX7_putNode 4 RX7 (.code yX7_putNode cX7_putNode 4 none) none p s m args meth c) (x2 : Int32) (x3 : Int32) {σ : St} {H : Heap} {locs : List Loc} {ls : Array Slot} (hR : Rr 223 ev1 w σ s H locs) (hl : lv_has ls 4 [(0, .ref (w.2.1 6)), (1, .ref (w.2.1 1)), (2, .int x2), (3, .int x3)]) (h : fX7_putNode N x2 x3 Q σ) : W p l e rmX7_putNode s m args below meth c H locs 0 0 (MQ below (va_Qv Q (Rp 223 ev1 w) (Aw 223 w)) args s 0 0 (Aw 223 w)) (F0 m 0 ls []) := by
  obtain ⟨hx, hb, hml, hown, hts, hr, hlk, hK, hI, hX⟩ := id E
  unfold fX7_putNode at h
  refine lv_aload_n (pc := 0) hx hb dX7_putNode_0 rfl (lv_at hl 1 rfl) ?_
  refine lv_iload_n (pc := 1) hx hb dX7_putNode_1 rfl (lv_at hl 3 rfl) ?_
  refine lv_aload_n (pc := 2) hx hb dX7_putNode_2 rfl (lv_at hl 0 rfl) ?_
  refine gf1_6_0 (pc := 3) hx hb hts hown hK hR mw161 dX7_putNode_3 ?_
  refine lv_iload_n (pc := 6) hx hb dX7_putNode_6 rfl (lv_at hl 2 rfl) ?_
  have g_1 := h.1
  have h := h.2
  refine q_iald (pc := 7) hx hb hK hR (k := 18) lt1_18 (ar1_18 _ _ _) g_1 dX7_putNode_7 ?_
  refine q_cv (pc := 8) hR (q_rV E (xp1 w) (As := [.int x3, .int (σ.1 18 x2.toNatClampNeg)]) (rest := []) (cX3_putByte_met l w hI N x3 (σ.1 18 x2.toNatClampNeg) _ σ h) ckX3_putByte cvX3_putByte mw220 ⟨rfl, rfl, Nat.le_of_ble_eq_true rfl, Nat.le_of_ble_eq_true rfl⟩ hR (rc1_1 w) rfl hl.1 rfl (Nat.le_of_ble_eq_true rfl) dX7_putNode_8) (fun σ_2 H locs h hR => ?_)
  refine lv_aload_n (pc := 11) hx hb dX7_putNode_11 rfl (lv_at hl 0 rfl) ?_
  refine gf1_6_0 (pc := 12) hx hb hts hown hK hR mw161 dX7_putNode_12 ?_
  refine lv_iload_n (pc := 15) hx hb dX7_putNode_15 rfl (lv_at hl 2 rfl) ?_
  have g_3 := h.1
  have h := h.2
  refine q_iald (pc := 16) hx hb hK hR (k := 18) lt1_18 (ar1_18 _ _ _) g_3 dX7_putNode_16 ?_
  refine lv_topi (pc := 17) (fun v_4 ev_4 => ?_)
  have h := h v_4 ev_4
  by_cases c_5 : v_4 = 2
  · refine lv_tableIn (pc := 17) (tgt := 48) (off := 31) hx hb dX7_putNode_17 (by rw [c_5]; decide) (by rw [c_5]; decide) (by rw [c_5]; rfl) (by decide) ?_
    have h := h.1 c_5
    refine lv_aload_n (pc := 48) hx hb dX7_putNode_48 rfl (lv_at hl 1 rfl) ?_
    refine lv_iload_n (pc := 49) hx hb dX7_putNode_49 rfl (lv_at hl 3 rfl) ?_
    refine lv_iconst (pc := 50) (v := 1) hx hb dX7_putNode_50 (by decide) ?_
    refine lv_iadd (pc := 51) hx hb dX7_putNode_51 ?_
    refine lv_aload_n (pc := 52) hx hb dX7_putNode_52 rfl (lv_at hl 0 rfl) ?_
    refine gf1_6_2 (pc := 53) hx hb hts hown hK hR mw165 dX7_putNode_53 ?_
    refine lv_iload_n (pc := 56) hx hb dX7_putNode_56 rfl (lv_at hl 2 rfl) ?_
    have g_6 := h.1
    have h := h.2
    refine q_aald (pc := 57) hx hb hK hR (k := 20) lt1_20 5 rfl rfl (ar1_20 _ _ _) g_6 dX7_putNode_57 ?_
    refine lv_iconst (pc := 58) (v := 0) hx hb dX7_putNode_58 (by decide) ?_
    have g_7 := h.1
    have h := h.2
    refine q_iald (pc := 59) hx hb hK hR (k := (123 + x2.toNatClampNeg)) (r20_lt (r20_in g_6)) (ev1_r20 (r20_in g_6)) g_7 dX7_putNode_59 ?_
    refine q_cv (pc := 60) hR (q_rV E (xp1 w) (As := [.int (x3 + 1), .int (σ_2.1 (123 + x2.toNatClampNeg) (0 : Int32).toNatClampNeg)]) (rest := []) (cX3_putByte_met l w hI N (x3 + 1) (σ_2.1 (123 + x2.toNatClampNeg) (0 : Int32).toNatClampNeg) _ σ_2 h) ckX3_putByte cvX3_putByte mw220 ⟨rfl, rfl, Nat.le_of_ble_eq_true rfl, Nat.le_of_ble_eq_true rfl⟩ hR (rc1_1 w) rfl hl.1 rfl (Nat.le_of_ble_eq_true rfl) dX7_putNode_60) (fun σ_8 H locs h hR => ?_)
    refine lv_goto (pc := 63) (tgt := 121) hx hb dX7_putNode_63 (by decide) ?_
    exact q_vret (pc := 121) E hR h dX7_putNode_121
  replace h := h.2 c_5
  by_cases c_9 : v_4 = 3
  · refine lv_tableIn (pc := 17) (tgt := 66) (off := 49) hx hb dX7_putNode_17 (by rw [c_9]; decide) (by rw [c_9]; decide) (by rw [c_9]; rfl) (by decide) ?_
    have h := h.1 c_9
    refine lv_aload_n (pc := 66) hx hb dX7_putNode_66 rfl (lv_at hl 0 rfl) ?_
    refine lv_aload_n (pc := 67) hx hb dX7_putNode_67 rfl (lv_at hl 1 rfl) ?_
    refine lv_iload_n (pc := 68) hx hb dX7_putNode_68 rfl (lv_at hl 2 rfl) ?_
    refine lv_iload_n (pc := 69) hx hb dX7_putNode_69 rfl (lv_at hl 3 rfl) ?_
    refine lv_iconst (pc := 70) (v := 1) hx hb dX7_putNode_70 (by decide) ?_
    refine lv_iadd (pc := 71) hx hb dX7_putNode_71 ?_
    refine q_cv (pc := 72) hR (q_rV E (xp1 w) (As := [.ref (w.2.1 1), .int x2, .int (x3 + 1)]) (rest := []) (cX7_putBytes_met l w hI N x2 (x3 + 1) _ σ_2 h) ckX7_putBytes cvX7_putBytes mw222 ⟨rfl, rfl, Nat.le_of_ble_eq_true rfl, Nat.le_of_ble_eq_true rfl⟩ hR (rc1_6 w) rfl hl.1 rfl (Nat.le_of_ble_eq_true rfl) dX7_putNode_72) (fun σ_10 H locs h hR => ?_)
    refine lv_goto (pc := 75) (tgt := 121) hx hb dX7_putNode_75 (by decide) ?_
    exact q_vret (pc := 121) E hR h dX7_putNode_121
  replace h := h.2 c_9
  by_cases c_11 : v_4 = 4
  · refine lv_tableIn (pc := 17) (tgt := 78) (off := 61) hx hb dX7_putNode_17 (by rw [c_11]; decide) (by rw [c_11]; decide) (by rw [c_11]; rfl) (by decide) ?_
    have h := h.1 c_11
    refine lv_aload_n (pc := 78) hx hb dX7_putNode_78 rfl (lv_at hl 1 rfl) ?_
    refine lv_iload_n (pc := 79) hx hb dX7_putNode_79 rfl (lv_at hl 3 rfl) ?_
    refine lv_iconst (pc := 80) (v := 1) hx hb dX7_putNode_80 (by decide) ?_
    refine lv_iadd (pc := 81) hx hb dX7_putNode_81 ?_
    refine lv_aload_n (pc := 82) hx hb dX7_putNode_82 rfl (lv_at hl 0 rfl) ?_
    refine gf1_6_2 (pc := 83) hx hb hts hown hK hR mw165 dX7_putNode_83 ?_
    refine lv_iload_n (pc := 86) hx hb dX7_putNode_86 rfl (lv_at hl 2 rfl) ?_
    have g_12 := h.1
    have h := h.2
    refine q_aald (pc := 87) hx hb hK hR (k := 20) lt1_20 5 rfl rfl (ar1_20 _ _ _) g_12 dX7_putNode_87 ?_
    refine lv_iconst (pc := 88) (v := 0) hx hb dX7_putNode_88 (by decide) ?_
    have g_13 := h.1
    have h := h.2
    refine q_iald (pc := 89) hx hb hK hR (k := (123 + x2.toNatClampNeg)) (r20_lt (r20_in g_12)) (ev1_r20 (r20_in g_12)) g_13 dX7_putNode_89 ?_
    refine q_cv (pc := 90) hR (q_rV E (xp1 w) (As := [.int (x3 + 1), .int (σ_2.1 (123 + x2.toNatClampNeg) (0 : Int32).toNatClampNeg)]) (rest := []) (cX3_putFour_met l w hI N (x3 + 1) (σ_2.1 (123 + x2.toNatClampNeg) (0 : Int32).toNatClampNeg) _ σ_2 h) ckX3_putFour cvX3_putFour mw221 ⟨rfl, rfl, Nat.le_of_ble_eq_true rfl, Nat.le_of_ble_eq_true rfl⟩ hR (rc1_1 w) rfl hl.1 rfl (Nat.le_of_ble_eq_true rfl) dX7_putNode_90) (fun σ_14 H locs h hR => ?_)
    refine lv_goto (pc := 93) (tgt := 121) hx hb dX7_putNode_93 (by decide) ?_
    exact q_vret (pc := 121) E hR h dX7_putNode_121
  replace h := h.2 c_11
  by_cases c_15 : v_4 = 5
  · refine lv_tableIn (pc := 17) (tgt := 96) (off := 79) hx hb dX7_putNode_17 (by rw [c_15]; decide) (by rw [c_15]; decide) (by rw [c_15]; rfl) (by decide) ?_
    have h := h.1 c_15
    refine lv_aload_n (pc := 96) hx hb dX7_putNode_96 rfl (lv_at hl 0 rfl) ?_
    refine lv_aload_n (pc := 97) hx hb dX7_putNode_97 rfl (lv_at hl 1 rfl) ?_
    refine lv_iload_n (pc := 98) hx hb dX7_putNode_98 rfl (lv_at hl 2 rfl) ?_
    refine lv_iload_n (pc := 99) hx hb dX7_putNode_99 rfl (lv_at hl 3 rfl) ?_
    refine lv_iconst (pc := 100) (v := 1) hx hb dX7_putNode_100 (by decide) ?_
    refine lv_iadd (pc := 101) hx hb dX7_putNode_101 ?_
    refine q_cv (pc := 102) hR (q_rV E (xp1 w) (As := [.ref (w.2.1 1), .int x2, .int (x3 + 1)]) (rest := []) (cX7_putFours_met l w hI N x2 (x3 + 1) _ σ_2 h) ckX7_putFours cvX7_putFours mw223 ⟨rfl, rfl, Nat.le_of_ble_eq_true rfl, Nat.le_of_ble_eq_true rfl⟩ hR (rc1_6 w) rfl hl.1 rfl (Nat.le_of_ble_eq_true rfl) dX7_putNode_102) (fun σ_16 H locs h hR => ?_)
    refine lv_goto (pc := 105) (tgt := 121) hx hb dX7_putNode_105 (by decide) ?_
    exact q_vret (pc := 121) E hR h dX7_putNode_121
  replace h := h.2 c_15
  have hD : W p l e rmX7_putNode s m args below meth c H locs 0 0 (MQ below (va_Qv Q (Rp 223 ev1 w) (Aw 223 w)) args s 0 0 (Aw 223 w)) (F0 m 108 ls []) := by
    refine lv_aload_n (pc := 108) hx hb dX7_putNode_108 rfl (lv_at hl 1 rfl) ?_
    refine lv_iload_n (pc := 109) hx hb dX7_putNode_109 rfl (lv_at hl 3 rfl) ?_
    refine lv_iconst (pc := 110) (v := 1) hx hb dX7_putNode_110 (by decide) ?_
    refine lv_iadd (pc := 111) hx hb dX7_putNode_111 ?_
    refine lv_aload_n (pc := 112) hx hb dX7_putNode_112 rfl (lv_at hl 0 rfl) ?_
    refine gf1_6_1 (pc := 113) hx hb hts hown hK hR mw164 dX7_putNode_113 ?_
    refine lv_iload_n (pc := 116) hx hb dX7_putNode_116 rfl (lv_at hl 2 rfl) ?_
    have g_17 := h.1
    have h := h.2
    refine q_iald (pc := 117) hx hb hK hR (k := 19) lt1_19 (ar1_19 _ _ _) g_17 dX7_putNode_117 ?_
    refine q_cv (pc := 118) hR (q_rV E (xp1 w) (As := [.int (x3 + 1), .int (σ_2.1 19 x2.toNatClampNeg)]) (rest := []) (cX3_putFour_met l w hI N (x3 + 1) (σ_2.1 19 x2.toNatClampNeg) _ σ_2 h) ckX3_putFour cvX3_putFour mw221 ⟨rfl, rfl, Nat.le_of_ble_eq_true rfl, Nat.le_of_ble_eq_true rfl⟩ hR (rc1_1 w) rfl hl.1 rfl (Nat.le_of_ble_eq_true rfl) dX7_putNode_118) (fun σ_18 H locs h hR => ?_)
    exact q_vret (pc := 121) E hR h dX7_putNode_121
  have nc_5 := ne_i (n := 2) (by decide) c_5
  have nc_9 := ne_i (n := 3) (by decide) c_9
  have nc_11 := ne_i (n := 4) (by decide) c_11
  have nc_15 := ne_i (n := 5) (by decide) c_15
  exact lv_tableOut (pc := 17) (tgt := 108) hx hb dX7_putNode_17 (by omega) (by decide) hD
theorem cX7_putNode_met (l : Launch) (w : Wd) (hI : Ij 223 w) (N : Nat) (x2 : Int32) (x3 : Int32) (Q : St → Prop) (σ : St) (h : fX7_putNode N x2 x3 Q σ) : Met l yX7_putNode (.code yX7_putNode cX7_putNode 4 none :: Uw) rmX7_putNode (va_Pc [.ref (w.2.1 6), .ref (w.2.1 1), .int x2, .int x3] (fun U => Rp 223 ev1 w σ U ∧ (X1 w) U)) (va_Qv Q (Rp 223 ev1 w) (Aw 223 w)) 0 0 (Aw 223 w) :=
  q_met (by decide) (Nat.le_of_ble_eq_true rfl) hI (fun p e s m below meth c ls E hl hR => bX7_putNode_e l w N Q E x2 x3 hR hl h)
-- GlulxStrings$BestTree.putNodes(LGlulxStrings$Memory;LGlulxStrings$Pieces;I)V
abbrev rmX0_putNodes : Room := { frames := 4, cells := 0, slots := 0, locals := 91 }
def fX0_putNodes_j107 (N : Nat) (r35 : Int32 → St → Prop) (x4 : Int32) (Q : St → Prop) (σ : St) : Prop := ∀ v_13 : Int32, v_13 = x4 + 1 → r35 v_13 σ
set_option maxHeartbeats 4000000 in
set_option maxRecDepth 100000 in
theorem bX0_putNodes_107 {p : Program} {e : Env} {s : State} {m : MethodId} {args : Array Value} {below : List Frame} {meth : Method} {c : Code} (l : Launch) (w : Wd) (N : Nat) (Q : St → Prop) (E : Cx 223 w (X1 w) cX0_putNodes 5 RX0 (.code yX0_putNodes cX0_putNodes 5 none) none p s m args meth c) (x4 : Int32) (r35 : Int32 → St → Prop) (hr35 : ∀ (x4 : Int32) (σ : St) (H : Heap) (locs : List Loc) (ls : Array Slot), Rr 223 ev1 w σ s H locs → lv_has ls 5 [(0, .ref (w.2.1 9)), (1, .ref (w.2.1 1)), (2, .ref (w.2.1 6)), (4, .int x4)] → r35 x4 σ → W p l e rmX0_putNodes s m args below meth c H locs 0 0 (MQ below (va_Qv Q (Rp 223 ev1 w) (Aw 223 w)) args s 0 0 (Aw 223 w)) (F0 m 35 ls [])) {σ : St} {H : Heap} {locs : List Loc} {ls : Array Slot} (hR : Rr 223 ev1 w σ s H locs) (hl : lv_has ls 5 [(0, .ref (w.2.1 9)), (1, .ref (w.2.1 1)), (2, .ref (w.2.1 6)), (4, .int x4)]) (h : fX0_putNodes_j107 N r35 x4 Q σ) : W p l e rmX0_putNodes s m args below meth c H locs 0 0 (MQ below (va_Qv Q (Rp 223 ev1 w) (Aw 223 w)) args s 0 0 (Aw 223 w)) (F0 m 107 ls []) := by
  obtain ⟨hx, hb, hml, hown, hts, hr, hlk, hK, hI, hX⟩ := id E
  unfold fX0_putNodes_j107 at h
  obtain ⟨v_13, ev_13⟩ : ∃ z : Int32, z = x4 + 1 := ⟨_, rfl⟩
  have h := h v_13 ev_13
  refine lv_iinc (pc := 107) (v := v_13) (lv' := [(4, .int v_13), (0, .ref (w.2.1 9)), (1, .ref (w.2.1 1)), (2, .ref (w.2.1 6))]) hx hb dX0_putNodes_107 hl (k := 3) rfl (by rw [ev_13]; rfl) (by decide) rfl (fun ls hl => ?_)
  refine lv_goto (pc := 110) (tgt := 35) hx hb dX0_putNodes_110 (by decide) ?_
  exact hr35 v_13 σ _ _ _ hR (lv_sub hl [1, 2, 3, 0] rfl) h
def fX0_putNodes_l35 (N : Nat) (Q : St → Prop) (r35 : Int32 → St → Prop) (x4 : Int32) (σ : St) : Prop := (((σ.1 9 9) ≤ x4 → Q σ) ∧ (¬ (σ.1 9 9) ≤ x4 → ((x4 < (σ.1 9 10) → vp_in x4 121 ∧ ((0 ≤ (σ.1 34 x4.toNatClampNeg) → vp_in x4 121 ∧ vp_in x4 121 ∧ fX7_putNode N (σ.1 34 x4.toNatClampNeg) (σ.1 35 x4.toNatClampNeg) (fun σ_12 => fX0_putNodes_j107 N r35 x4 Q σ_12) σ) ∧ (¬ 0 ≤ (σ.1 34 x4.toNatClampNeg) → vp_in x4 121 ∧ fX3_putByte N (σ.1 35 x4.toNatClampNeg) 1 (fun σ_14 => fX0_putNodes_j107 N r35 x4 Q σ_14) σ))) ∧ (¬ x4 < (σ.1 9 10) → fX0_putBranch N x4 (fun σ_15 => fX0_putNodes_j107 N r35 x4 Q σ_15) σ))))
set_option maxHeartbeats 4000000 in
set_option maxRecDepth 100000 in
theorem bX0_putNodes_35 {p : Program} {e : Env} {s : State} {m : MethodId} {args : Array Value} {below : List Frame} {meth : Method} {c : Code} (l : Launch) (w : Wd) (N : Nat) (Q : St → Prop) (E : Cx 223 w (X1 w) cX0_putNodes 5 RX0 (.code yX0_putNodes cX0_putNodes 5 none) none p s m args meth c) : ∀ (n : Nat) (x4 : Int32) (σ : St) (H : Heap) (locs : List Loc) (ls : Array Slot), Rr 223 ev1 w σ s H locs → lv_has ls 5 [(0, .ref (w.2.1 9)), (1, .ref (w.2.1 1)), (2, .ref (w.2.1 6)), (4, .int x4)] → lo1 (fX0_putNodes_l35 N Q) n x4 σ → W p l e rmX0_putNodes s m args below meth c H locs 0 0 (MQ below (va_Qv Q (Rp 223 ev1 w) (Aw 223 w)) args s 0 0 (Aw 223 w)) (F0 m 35 ls []) := by
  obtain ⟨hx, hb, hml, hown, hts, hr, hlk, hK, hI, hX⟩ := id E
  intro n
  induction n with
  | zero => intro x4 σ H locs ls hR hl h; exact h.elim
  | succ n ih =>
    intro x4 σ H locs ls hR hl h
    have h : fX0_putNodes_l35 N Q (lo1 (fX0_putNodes_l35 N Q) n) x4 σ := h
    unfold fX0_putNodes_l35 at h
    refine lv_iload (pc := 35) hx hb dX0_putNodes_35 (lv_at hl 3 rfl) ?_
    refine lv_aload_n (pc := 37) hx hb dX0_putNodes_37 rfl (lv_at hl 0 rfl) ?_
    refine gf1_9_9 (pc := 38) hx hb hts hown hK hR mw194 dX0_putNodes_38 ?_
    refine lv_icmp_ge (pc := 41) (tgt := 113) hx hb dX0_putNodes_41 (by decide) (fun c_6 => ?_) (fun c_6 => ?_)
    · have h := h.1 c_6
      exact q_vret (pc := 113) E hR h dX0_putNodes_113
    · have h := h.2 c_6
      refine lv_iload (pc := 44) hx hb dX0_putNodes_44 (lv_at hl 3 rfl) ?_
      refine lv_aload_n (pc := 46) hx hb dX0_putNodes_46 rfl (lv_at hl 0 rfl) ?_
      refine gf1_9_10 (pc := 47) hx hb hts hown hK hR mw195 dX0_putNodes_47 ?_
      refine lv_icmp_lt (pc := 50) (tgt := 63) hx hb dX0_putNodes_50 (by decide) (fun c_7 => ?_) (fun c_7 => ?_)
      · have h := h.1 c_7
        refine lv_aload_n (pc := 63) hx hb dX0_putNodes_63 rfl (lv_at hl 0 rfl) ?_
        refine gf1_9_5 (pc := 64) hx hb hts hown hK hR mw199 dX0_putNodes_64 ?_
        refine lv_iload (pc := 67) hx hb dX0_putNodes_67 (lv_at hl 3 rfl) ?_
        have g_8 := h.1
        have h := h.2
        refine q_iald (pc := 69) hx hb hK hR (k := 34) lt1_34 (ar1_34 _ _ _) g_8 dX0_putNodes_69 ?_
        refine lv_if_ge (pc := 70) (tgt := 88) hx hb dX0_putNodes_70 (by decide) (fun c_9 => ?_) (fun c_9 => ?_)
        · have h := h.1 c_9
          refine lv_aload_n (pc := 88) hx hb dX0_putNodes_88 rfl (lv_at hl 2 rfl) ?_
          refine lv_aload_n (pc := 89) hx hb dX0_putNodes_89 rfl (lv_at hl 1 rfl) ?_
          refine lv_aload_n (pc := 90) hx hb dX0_putNodes_90 rfl (lv_at hl 0 rfl) ?_
          refine gf1_9_5 (pc := 91) hx hb hts hown hK hR mw199 dX0_putNodes_91 ?_
          refine lv_iload (pc := 94) hx hb dX0_putNodes_94 (lv_at hl 3 rfl) ?_
          have g_10 := h.1
          have h := h.2
          refine q_iald (pc := 96) hx hb hK hR (k := 34) lt1_34 (ar1_34 _ _ _) g_10 dX0_putNodes_96 ?_
          refine lv_aload_n (pc := 97) hx hb dX0_putNodes_97 rfl (lv_at hl 0 rfl) ?_
          refine gf1_9_6 (pc := 98) hx hb hts hown hK hR mw213 dX0_putNodes_98 ?_
          refine lv_iload (pc := 101) hx hb dX0_putNodes_101 (lv_at hl 3 rfl) ?_
          have g_11 := h.1
          have h := h.2
          refine q_iald (pc := 103) hx hb hK hR (k := 35) lt1_35 (ar1_35 _ _ _) g_11 dX0_putNodes_103 ?_
          refine q_cv (pc := 104) hR (q_rV E (xp1 w) (As := [.ref (w.2.1 1), .int (σ.1 34 x4.toNatClampNeg), .int (σ.1 35 x4.toNatClampNeg)]) (rest := []) (cX7_putNode_met l w hI N (σ.1 34 x4.toNatClampNeg) (σ.1 35 x4.toNatClampNeg) _ σ h) ckX7_putNode cvX7_putNode mw225 ⟨rfl, rfl, Nat.le_of_ble_eq_true rfl, Nat.le_of_ble_eq_true rfl⟩ hR (rc1_6 w) rfl hl.1 rfl (Nat.le_of_ble_eq_true rfl) dX0_putNodes_104) (fun σ_12 H locs h hR => ?_)
          exact bX0_putNodes_107 l w N Q E x4 _ ih hR (lv_sub hl [0, 1, 2, 3] rfl) h
        · have h := h.2 c_9
          refine lv_aload_n (pc := 73) hx hb dX0_putNodes_73 rfl (lv_at hl 1 rfl) ?_
          refine lv_aload_n (pc := 74) hx hb dX0_putNodes_74 rfl (lv_at hl 0 rfl) ?_
          refine gf1_9_6 (pc := 75) hx hb hts hown hK hR mw213 dX0_putNodes_75 ?_
          refine lv_iload (pc := 78) hx hb dX0_putNodes_78 (lv_at hl 3 rfl) ?_
          have g_13 := h.1
          have h := h.2
          refine q_iald (pc := 80) hx hb hK hR (k := 35) lt1_35 (ar1_35 _ _ _) g_13 dX0_putNodes_80 ?_
          refine lv_iconst (pc := 81) (v := 1) hx hb dX0_putNodes_81 (by decide) ?_
          refine q_cv (pc := 82) hR (q_rV E (xp1 w) (As := [.int (σ.1 35 x4.toNatClampNeg), .int 1]) (rest := []) (cX3_putByte_met l w hI N (σ.1 35 x4.toNatClampNeg) 1 _ σ h) ckX3_putByte cvX3_putByte mw218 ⟨rfl, rfl, Nat.le_of_ble_eq_true rfl, Nat.le_of_ble_eq_true rfl⟩ hR (rc1_1 w) rfl hl.1 rfl (Nat.le_of_ble_eq_true rfl) dX0_putNodes_82) (fun σ_14 H locs h hR => ?_)
          refine lv_goto (pc := 85) (tgt := 107) hx hb dX0_putNodes_85 (by decide) ?_
          exact bX0_putNodes_107 l w N Q E x4 _ ih hR (lv_sub hl [0, 1, 2, 3] rfl) h
      · have h := h.2 c_7
        refine lv_aload_n (pc := 53) hx hb dX0_putNodes_53 rfl (lv_at hl 0 rfl) ?_
        refine lv_aload_n (pc := 54) hx hb dX0_putNodes_54 rfl (lv_at hl 1 rfl) ?_
        refine lv_iload (pc := 55) hx hb dX0_putNodes_55 (lv_at hl 3 rfl) ?_
        refine q_cv (pc := 57) hR (q_rV E (xp1 w) (As := [.ref (w.2.1 1), .int x4]) (rest := []) (cX0_putBranch_met l w hI N x4 _ σ h) ckX0_putBranch cvX0_putBranch mw226 ⟨rfl, rfl, Nat.le_of_ble_eq_true rfl, Nat.le_of_ble_eq_true rfl⟩ hR (rc1_9 w) rfl hl.1 rfl (Nat.le_of_ble_eq_true rfl) dX0_putNodes_57) (fun σ_15 H locs h hR => ?_)
        refine lv_goto (pc := 60) (tgt := 107) hx hb dX0_putNodes_60 (by decide) ?_
        exact bX0_putNodes_107 l w N Q E x4 _ ih hR (lv_sub hl [0, 1, 2, 3] rfl) h
def fX0_putNodes (N : Nat) (x3 : Int32) (Q : St → Prop) (σ : St) : Prop := fX0_size N (fun r_2 σ_1 => fX3_putFour N x3 r_2 (fun σ_3 => fX3_putFour N (x3 + 4) (σ_3.1 9 9) (fun σ_4 => fX3_putFour N (x3 + 8) (x3 + 12) (fun σ_5 => lo1 (fX0_putNodes_l35 N Q) N 0 σ_5) σ_4) σ_3) σ_1) σ
set_option maxHeartbeats 4000000 in
set_option maxRecDepth 100000 in
theorem bX0_putNodes_e {p : Program} {e : Env} {s : State} {m : MethodId} {args : Array Value} {below : List Frame} {meth : Method} {c : Code} (l : Launch) (w : Wd) (N : Nat) (Q : St → Prop) (E : Cx 223 w (X1 w) cX0_putNodes 5 RX0 (.code yX0_putNodes cX0_putNodes 5 none) none p s m args meth c) (x3 : Int32) {σ : St} {H : Heap} {locs : List Loc} {ls : Array Slot} (hR : Rr 223 ev1 w σ s H locs) (hl : lv_has ls 5 [(0, .ref (w.2.1 9)), (1, .ref (w.2.1 1)), (2, .ref (w.2.1 6)), (3, .int x3)]) (h : fX0_putNodes N x3 Q σ) : W p l e rmX0_putNodes s m args below meth c H locs 0 0 (MQ below (va_Qv Q (Rp 223 ev1 w) (Aw 223 w)) args s 0 0 (Aw 223 w)) (F0 m 0 ls []) := by
  obtain ⟨hx, hb, hml, hown, hts, hr, hlk, hK, hI, hX⟩ := id E
  unfold fX0_putNodes at h
  refine lv_aload_n (pc := 0) hx hb dX0_putNodes_0 rfl (lv_at hl 1 rfl) ?_
  refine lv_iload_n (pc := 1) hx hb dX0_putNodes_1 rfl (lv_at hl 3 rfl) ?_
  refine lv_aload_n (pc := 2) hx hb dX0_putNodes_2 rfl (lv_at hl 0 rfl) ?_
  refine q_ci (pc := 3) hR (q_rV E (xp1 w) (As := []) (rest := [.int x3, .ref (w.2.1 1)]) (cX0_size_met l w hI N _ σ h) ckX0_size cvX0_size mw224 ⟨rfl, rfl, Nat.le_of_ble_eq_true rfl, Nat.le_of_ble_eq_true rfl⟩ hR (rc1_9 w) rfl hl.1 rfl (Nat.le_of_ble_eq_true rfl) dX0_putNodes_3) (fun r_2 σ_1 H locs h hR => ?_)
  refine q_cv (pc := 6) hR (q_rV E (xp1 w) (As := [.int x3, .int r_2]) (rest := []) (cX3_putFour_met l w hI N x3 r_2 _ σ_1 h) ckX3_putFour cvX3_putFour mw219 ⟨rfl, rfl, Nat.le_of_ble_eq_true rfl, Nat.le_of_ble_eq_true rfl⟩ hR (rc1_1 w) rfl hl.1 rfl (Nat.le_of_ble_eq_true rfl) dX0_putNodes_6) (fun σ_3 H locs h hR => ?_)
  refine lv_aload_n (pc := 9) hx hb dX0_putNodes_9 rfl (lv_at hl 1 rfl) ?_
  refine lv_iload_n (pc := 10) hx hb dX0_putNodes_10 rfl (lv_at hl 3 rfl) ?_
  refine lv_iconst (pc := 11) (v := 4) hx hb dX0_putNodes_11 (by decide) ?_
  refine lv_iadd (pc := 12) hx hb dX0_putNodes_12 ?_
  refine lv_aload_n (pc := 13) hx hb dX0_putNodes_13 rfl (lv_at hl 0 rfl) ?_
  refine gf1_9_9 (pc := 14) hx hb hts hown hK hR mw194 dX0_putNodes_14 ?_
  refine q_cv (pc := 17) hR (q_rV E (xp1 w) (As := [.int (x3 + 4), .int (σ_3.1 9 9)]) (rest := []) (cX3_putFour_met l w hI N (x3 + 4) (σ_3.1 9 9) _ σ_3 h) ckX3_putFour cvX3_putFour mw219 ⟨rfl, rfl, Nat.le_of_ble_eq_true rfl, Nat.le_of_ble_eq_true rfl⟩ hR (rc1_1 w) rfl hl.1 rfl (Nat.le_of_ble_eq_true rfl) dX0_putNodes_17) (fun σ_4 H locs h hR => ?_)
  refine lv_aload_n (pc := 20) hx hb dX0_putNodes_20 rfl (lv_at hl 1 rfl) ?_
  refine lv_iload_n (pc := 21) hx hb dX0_putNodes_21 rfl (lv_at hl 3 rfl) ?_
  refine lv_bipush (pc := 22) (v := 8) hx hb dX0_putNodes_22 (by decide) ?_
  refine lv_iadd (pc := 24) hx hb dX0_putNodes_24 ?_
  refine lv_iload_n (pc := 25) hx hb dX0_putNodes_25 rfl (lv_at hl 3 rfl) ?_
  refine lv_bipush (pc := 26) (v := 12) hx hb dX0_putNodes_26 (by decide) ?_
  refine lv_iadd (pc := 28) hx hb dX0_putNodes_28 ?_
  refine q_cv (pc := 29) hR (q_rV E (xp1 w) (As := [.int (x3 + 8), .int (x3 + 12)]) (rest := []) (cX3_putFour_met l w hI N (x3 + 8) (x3 + 12) _ σ_4 h) ckX3_putFour cvX3_putFour mw219 ⟨rfl, rfl, Nat.le_of_ble_eq_true rfl, Nat.le_of_ble_eq_true rfl⟩ hR (rc1_1 w) rfl hl.1 rfl (Nat.le_of_ble_eq_true rfl) dX0_putNodes_29) (fun σ_5 H locs h hR => ?_)
  refine lv_iconst (pc := 32) (v := 0) hx hb dX0_putNodes_32 (by decide) ?_
  refine lv_istore (pc := 33) (lv' := [(4, .int 0), (0, .ref (w.2.1 9)), (1, .ref (w.2.1 1)), (2, .ref (w.2.1 6)), (3, .int x3)]) hx hb dX0_putNodes_33 hl (by decide) rfl (fun ls hl => ?_)
  exact bX0_putNodes_35 l w N Q E N 0 σ_5 _ _ _ hR (lv_sub hl [1, 2, 3, 0] rfl) h
theorem cX0_putNodes_met (l : Launch) (w : Wd) (hI : Ij 223 w) (N : Nat) (x3 : Int32) (Q : St → Prop) (σ : St) (h : fX0_putNodes N x3 Q σ) : Met l yX0_putNodes (.code yX0_putNodes cX0_putNodes 5 none :: Uw) rmX0_putNodes (va_Pc [.ref (w.2.1 9), .ref (w.2.1 1), .ref (w.2.1 6), .int x3] (fun U => Rp 223 ev1 w σ U ∧ (X1 w) U)) (va_Qv Q (Rp 223 ev1 w) (Aw 223 w)) 0 0 (Aw 223 w) :=
  q_met (by decide) (Nat.le_of_ble_eq_true rfl) hI (fun p e s m below meth c ls E hl hR => bX0_putNodes_e l w N Q E x3 hR hl h)
-- GlulxStrings$Packer.putBits(III)I
abbrev rmX5_putBits : Room := { frames := 1, cells := 0, slots := 0, locals := 22 }
def fX5_putBits_l6 (N : Nat) (x1 : Int32) (x2 : Int32) (Q : Int32 → St → Prop) (r6 : Int32 → Int32 → St → Prop) (x4 : Int32) (x5 : Int32) (σ : St) : Prop := vp_in x1 121 ∧ (((σ.1 36 x1.toNatClampNeg) ≤ x5 → Q x4 σ) ∧ (¬ (σ.1 36 x1.toNatClampNeg) ≤ x5 → fX3_byteOf N (x2 + (x4 / 8)) (fun r_4 σ_3 => vp_in x1 121 ∧ ∀ v_6 : Int32, v_6 = (((σ_3.2 37 x1.toNatClampNeg) >>> (x5.toInt64 &&& 63)) &&& 1).toInt32 → fX3_putByte N (x2 + (x4 / 8)) (r_4 ||| (v_6 <<< ((x4 - x4 / 8 * 8) &&& 31))) (fun σ_7 => ∀ v_8 : Int32, v_8 = x4 + 1 → ∀ v_9 : Int32, v_9 = x5 + 1 → r6 v_8 v_9 σ_7) σ_3) σ))
set_option maxHeartbeats 4000000 in
set_option maxRecDepth 100000 in
theorem bX5_putBits_6 {p : Program} {e : Env} {s : State} {m : MethodId} {args : Array Value} {below : List Frame} {meth : Method} {c : Code} (l : Launch) (w : Wd) (N : Nat) (Q : Int32 → St → Prop) (E : Cx 223 w (X1 w) cX5_putBits 8 RX5 (.code yX5_putBits cX5_putBits 8 (some .int)) (some .int) p s m args meth c) (x1 : Int32) (x2 : Int32) : ∀ (n : Nat) (x4 : Int32) (x5 : Int32) (σ : St) (H : Heap) (locs : List Loc) (ls : Array Slot), Rr 223 ev1 w σ s H locs → lv_has ls 8 [(0, .ref (w.2.1 4)), (1, .int x1), (2, .int x2), (4, .int x4), (5, .int x5)] → lo2 (fX5_putBits_l6 N x1 x2 Q) n x4 x5 σ → W p l e rmX5_putBits s m args below meth c H locs 0 0 (MQ below (va_Qi Q (Rp 223 ev1 w) (Aw 223 w)) args s 0 0 (Aw 223 w)) (F0 m 6 ls []) := by
  obtain ⟨hx, hb, hml, hown, hts, hr, hlk, hK, hI, hX⟩ := id E
  intro n
  induction n with
  | zero => intro x4 x5 σ H locs ls hR hl h; exact h.elim
  | succ n ih =>
    intro x4 x5 σ H locs ls hR hl h
    have h : fX5_putBits_l6 N x1 x2 Q (lo2 (fX5_putBits_l6 N x1 x2 Q) n) x4 x5 σ := h
    unfold fX5_putBits_l6 at h
    refine lv_iload (pc := 6) hx hb dX5_putBits_6 (lv_at hl 4 rfl) ?_
    refine lv_aload_n (pc := 8) hx hb dX5_putBits_8 rfl (lv_at hl 0 rfl) ?_
    refine gf1_4_5 (pc := 9) hx hb hts hown hK hR mw204 dX5_putBits_9 ?_
    refine gf1_9_7 (pc := 12) hx hb hts hown hK hR mw216 dX5_putBits_12 ?_
    refine lv_iload_n (pc := 15) hx hb dX5_putBits_15 rfl (lv_at hl 1 rfl) ?_
    have g_1 := h.1
    have h := h.2
    refine q_iald (pc := 16) hx hb hK hR (k := 36) lt1_36 (ar1_36 _ _ _) g_1 dX5_putBits_16 ?_
    refine lv_icmp_ge (pc := 17) (tgt := 87) hx hb dX5_putBits_17 (by decide) (fun c_2 => ?_) (fun c_2 => ?_)
    · have h := h.1 c_2
      refine lv_iload (pc := 87) hx hb dX5_putBits_87 (lv_at hl 3 rfl) ?_
      exact q_iret (pc := 89) E hR h dX5_putBits_89
    · have h := h.2 c_2
      refine lv_aload_n (pc := 20) hx hb dX5_putBits_20 rfl (lv_at hl 0 rfl) ?_
      refine gf1_4_0 (pc := 21) hx hb hts hown hK hR mw227 dX5_putBits_21 ?_
      refine lv_iload_n (pc := 24) hx hb dX5_putBits_24 rfl (lv_at hl 2 rfl) ?_
      refine lv_iload (pc := 25) hx hb dX5_putBits_25 (lv_at hl 3 rfl) ?_
      refine lv_bipush (pc := 27) (v := 8) hx hb dX5_putBits_27 (by decide) ?_
      refine lv_idiv (pc := 29) hx hb dX5_putBits_29 (by decide) ?_
      refine lv_iadd (pc := 30) hx hb dX5_putBits_30 ?_
      refine q_ci (pc := 31) hR (q_rV E (xp1 w) (As := [.int (x2 + (x4 / 8))]) (rest := []) (cX3_byteOf_met l w hI N (x2 + (x4 / 8)) _ σ h) ckX3_byteOf cvX3_byteOf mw228 ⟨rfl, rfl, Nat.le_of_ble_eq_true rfl, Nat.le_of_ble_eq_true rfl⟩ hR (rc1_1 w) rfl hl.1 rfl (Nat.le_of_ble_eq_true rfl) dX5_putBits_31) (fun r_4 σ_3 H locs h hR => ?_)
      refine lv_istore (pc := 34) (lv' := [(6, .int r_4), (0, .ref (w.2.1 4)), (1, .int x1), (2, .int x2), (4, .int x4), (5, .int x5)]) hx hb dX5_putBits_34 hl (by decide) rfl (fun ls hl => ?_)
      refine lv_aload_n (pc := 36) hx hb dX5_putBits_36 rfl (lv_at hl 1 rfl) ?_
      refine gf1_4_5 (pc := 37) hx hb hts hown hK hR mw204 dX5_putBits_37 ?_
      refine gf1_9_8 (pc := 40) hx hb hts hown hK hR mw229 dX5_putBits_40 ?_
      refine lv_iload_n (pc := 43) hx hb dX5_putBits_43 rfl (lv_at hl 2 rfl) ?_
      have g_5 := h.1
      have h := h.2
      refine q_lald (pc := 44) hx hb hK hR (k := 37) lt1_37 (ar1_37 _ _ _) g_5 dX5_putBits_44 ?_
      refine lv_iload (pc := 45) hx hb dX5_putBits_45 (lv_at hl 5 rfl) ?_
      refine lv_lshr (pc := 47) (v := (σ_3.2 37 x1.toNatClampNeg) >>> (x5.toInt64 &&& 63)) hx hb dX5_putBits_47 rfl ?_
      refine lv_lconst (pc := 48) (v := 1) hx hb dX5_putBits_48 (by decide) ?_
      refine lv_land (pc := 49) hx hb dX5_putBits_49 ?_
      refine lv_l2i (pc := 50) (v := (((σ_3.2 37 x1.toNatClampNeg) >>> (x5.toInt64 &&& 63)) &&& 1).toInt32) hx hb dX5_putBits_50 rfl ?_
      refine lv_topi (pc := 51) (fun v_6 ev_6 => ?_)
      have h := h v_6 ev_6
      refine lv_istore (pc := 51) (lv' := [(7, .int v_6), (6, .int r_4), (0, .ref (w.2.1 4)), (1, .int x1), (2, .int x2), (4, .int x4), (5, .int x5)]) hx hb dX5_putBits_51 hl (by decide) rfl (fun ls hl => ?_)
      refine lv_aload_n (pc := 53) hx hb dX5_putBits_53 rfl (lv_at hl 2 rfl) ?_
      refine gf1_4_0 (pc := 54) hx hb hts hown hK hR mw227 dX5_putBits_54 ?_
      refine lv_iload_n (pc := 57) hx hb dX5_putBits_57 rfl (lv_at hl 4 rfl) ?_
      refine lv_iload (pc := 58) hx hb dX5_putBits_58 (lv_at hl 5 rfl) ?_
      refine lv_bipush (pc := 60) (v := 8) hx hb dX5_putBits_60 (by decide) ?_
      refine lv_idiv (pc := 62) hx hb dX5_putBits_62 (by decide) ?_
      refine lv_iadd (pc := 63) hx hb dX5_putBits_63 ?_
      refine lv_iload (pc := 64) hx hb dX5_putBits_64 (lv_at hl 1 rfl) ?_
      refine lv_iload (pc := 66) hx hb dX5_putBits_66 (lv_at hl 0 rfl) ?_
      refine lv_iload (pc := 68) hx hb dX5_putBits_68 (lv_at hl 5 rfl) ?_
      refine lv_bipush (pc := 70) (v := 8) hx hb dX5_putBits_70 (by decide) ?_
      refine lv_irem (pc := 72) hx hb dX5_putBits_72 (by decide) ?_
      refine lv_ishl (pc := 73) hx hb dX5_putBits_73 ?_
      refine lv_ior (pc := 74) hx hb dX5_putBits_74 ?_
      refine q_cv (pc := 75) hR (q_rV E (xp1 w) (As := [.int (x2 + (x4 / 8)), .int (r_4 ||| (v_6 <<< ((x4 - x4 / 8 * 8) &&& 31)))]) (rest := []) (cX3_putByte_met l w hI N (x2 + (x4 / 8)) (r_4 ||| (v_6 <<< ((x4 - x4 / 8 * 8) &&& 31))) _ σ_3 h) ckX3_putByte cvX3_putByte mw230 ⟨rfl, rfl, Nat.le_of_ble_eq_true rfl, Nat.le_of_ble_eq_true rfl⟩ hR (rc1_1 w) rfl hl.1 rfl (Nat.le_of_ble_eq_true rfl) dX5_putBits_75) (fun σ_7 H locs h hR => ?_)
      obtain ⟨v_8, ev_8⟩ : ∃ z : Int32, z = x4 + 1 := ⟨_, rfl⟩
      have h := h v_8 ev_8
      refine lv_iinc (pc := 78) (v := v_8) (lv' := [(4, .int v_8), (7, .int v_6), (6, .int r_4), (0, .ref (w.2.1 4)), (1, .int x1), (2, .int x2), (5, .int x5)]) hx hb dX5_putBits_78 hl (k := 5) rfl (by rw [ev_8]; rfl) (by decide) rfl (fun ls hl => ?_)
      obtain ⟨v_9, ev_9⟩ : ∃ z : Int32, z = x5 + 1 := ⟨_, rfl⟩
      have h := h v_9 ev_9
      refine lv_iinc (pc := 81) (v := v_9) (lv' := [(5, .int v_9), (4, .int v_8), (7, .int v_6), (6, .int r_4), (0, .ref (w.2.1 4)), (1, .int x1), (2, .int x2)]) hx hb dX5_putBits_81 hl (k := 6) rfl (by rw [ev_9]; rfl) (by decide) rfl (fun ls hl => ?_)
      refine lv_goto (pc := 84) (tgt := 6) hx hb dX5_putBits_84 (by decide) ?_
      exact ih v_8 v_9 σ_7 _ _ _ hR (lv_sub hl [4, 5, 6, 1, 0] rfl) h
def fX5_putBits (N : Nat) (x1 : Int32) (x2 : Int32) (x3 : Int32) (Q : Int32 → St → Prop) (σ : St) : Prop := lo2 (fX5_putBits_l6 N x1 x2 Q) N x3 0 σ
set_option maxHeartbeats 4000000 in
set_option maxRecDepth 100000 in
theorem bX5_putBits_e {p : Program} {e : Env} {s : State} {m : MethodId} {args : Array Value} {below : List Frame} {meth : Method} {c : Code} (l : Launch) (w : Wd) (N : Nat) (Q : Int32 → St → Prop) (E : Cx 223 w (X1 w) cX5_putBits 8 RX5 (.code yX5_putBits cX5_putBits 8 (some .int)) (some .int) p s m args meth c) (x1 : Int32) (x2 : Int32) (x3 : Int32) {σ : St} {H : Heap} {locs : List Loc} {ls : Array Slot} (hR : Rr 223 ev1 w σ s H locs) (hl : lv_has ls 8 [(0, .ref (w.2.1 4)), (1, .int x1), (2, .int x2), (3, .int x3)]) (h : fX5_putBits N x1 x2 x3 Q σ) : W p l e rmX5_putBits s m args below meth c H locs 0 0 (MQ below (va_Qi Q (Rp 223 ev1 w) (Aw 223 w)) args s 0 0 (Aw 223 w)) (F0 m 0 ls []) := by
  obtain ⟨hx, hb, hml, hown, hts, hr, hlk, hK, hI, hX⟩ := id E
  unfold fX5_putBits at h
  refine lv_iload_n (pc := 0) hx hb dX5_putBits_0 rfl (lv_at hl 3 rfl) ?_
  refine lv_istore (pc := 1) (lv' := [(4, .int x3), (0, .ref (w.2.1 4)), (1, .int x1), (2, .int x2), (3, .int x3)]) hx hb dX5_putBits_1 hl (by decide) rfl (fun ls hl => ?_)
  refine lv_iconst (pc := 3) (v := 0) hx hb dX5_putBits_3 (by decide) ?_
  refine lv_istore (pc := 4) (lv' := [(5, .int 0), (4, .int x3), (0, .ref (w.2.1 4)), (1, .int x1), (2, .int x2), (3, .int x3)]) hx hb dX5_putBits_4 hl (by decide) rfl (fun ls hl => ?_)
  exact bX5_putBits_6 l w N Q E x1 x2 N x3 0 σ _ _ _ hR (lv_sub hl [2, 3, 4, 1, 0] rfl) h
theorem cX5_putBits_met (l : Launch) (w : Wd) (hI : Ij 223 w) (N : Nat) (x1 : Int32) (x2 : Int32) (x3 : Int32) (Q : Int32 → St → Prop) (σ : St) (h : fX5_putBits N x1 x2 x3 Q σ) : Met l yX5_putBits (.code yX5_putBits cX5_putBits 8 (some .int) :: Uw) rmX5_putBits (va_Pc [.ref (w.2.1 4), .int x1, .int x2, .int x3] (fun U => Rp 223 ev1 w σ U ∧ (X1 w) U)) (va_Qi Q (Rp 223 ev1 w) (Aw 223 w)) 0 0 (Aw 223 w) :=
  q_met (by decide) (Nat.le_of_ble_eq_true rfl) hI (fun p e s m below meth c ls E hl hR => bX5_putBits_e l w N Q E x1 x2 x3 hR hl h)
-- GlulxStrings$Packer.putText(II)V
abbrev rmX5_putText : Room := { frames := 2, cells := 0, slots := 0, locals := 49 }
def fX5_putText_l53 (N : Nat) (x1 : Int32) (x2 : Int32) (Q : St → Prop) (r53 : Int32 → Int32 → St → Prop) (x3 : Int32) (x4 : Int32) (σ : St) : Prop := vp_in x1 20 ∧ (((σ.1 39 x1.toNatClampNeg) ≤ x4 → fX5_putBits N 0 (x2 + 1) x3 (fun r_7 σ_6 => Q σ_6) σ) ∧ (¬ (σ.1 39 x1.toNatClampNeg) ≤ x4 → vp_in x1 20 ∧ vp_in x4 120 ∧ vp_in (σ.1 (203 + x1.toNatClampNeg) x4.toNatClampNeg) 60 ∧ fX5_putBits N (σ.1 42 (σ.1 (203 + x1.toNatClampNeg) x4.toNatClampNeg).toNatClampNeg) (x2 + 1) x3 (fun r_12 σ_11 => ∀ v_13 : Int32, v_13 = x4 + 1 → r53 r_12 v_13 σ_11) σ))
set_option maxHeartbeats 4000000 in
set_option maxRecDepth 100000 in
theorem bX5_putText_53 {p : Program} {e : Env} {s : State} {m : MethodId} {args : Array Value} {below : List Frame} {meth : Method} {c : Code} (l : Launch) (w : Wd) (N : Nat) (Q : St → Prop) (E : Cx 223 w (X1 w) cX5_putText 5 RX5 (.code yX5_putText cX5_putText 5 none) none p s m args meth c) (x1 : Int32) (x2 : Int32) : ∀ (n : Nat) (x3 : Int32) (x4 : Int32) (σ : St) (H : Heap) (locs : List Loc) (ls : Array Slot), Rr 223 ev1 w σ s H locs → lv_has ls 5 [(0, .ref (w.2.1 4)), (1, .int x1), (2, .int x2), (3, .int x3), (4, .int x4)] → lo2 (fX5_putText_l53 N x1 x2 Q) n x3 x4 σ → W p l e rmX5_putText s m args below meth c H locs 0 0 (MQ below (va_Qv Q (Rp 223 ev1 w) (Aw 223 w)) args s 0 0 (Aw 223 w)) (F0 m 53 ls []) := by
  obtain ⟨hx, hb, hml, hown, hts, hr, hlk, hK, hI, hX⟩ := id E
  intro n
  induction n with
  | zero => intro x3 x4 σ H locs ls hR hl h; exact h.elim
  | succ n ih =>
    intro x3 x4 σ H locs ls hR hl h
    have h : fX5_putText_l53 N x1 x2 Q (lo2 (fX5_putText_l53 N x1 x2 Q) n) x3 x4 σ := h
    unfold fX5_putText_l53 at h
    refine lv_iload (pc := 53) hx hb dX5_putText_53 (lv_at hl 4 rfl) ?_
    refine lv_aload_n (pc := 55) hx hb dX5_putText_55 rfl (lv_at hl 0 rfl) ?_
    refine gf1_4_7 (pc := 56) hx hb hts hown hK hR mw191 dX5_putText_56 ?_
    refine lv_iload_n (pc := 59) hx hb dX5_putText_59 rfl (lv_at hl 1 rfl) ?_
    have g_4 := h.1
    have h := h.2
    refine q_iald (pc := 60) hx hb hK hR (k := 39) lt1_39 (ar1_39 _ _ _) g_4 dX5_putText_60 ?_
    refine lv_icmp_ge (pc := 61) (tgt := 93) hx hb dX5_putText_61 (by decide) (fun c_5 => ?_) (fun c_5 => ?_)
    · have h := h.1 c_5
      refine lv_aload_n (pc := 93) hx hb dX5_putText_93 rfl (lv_at hl 0 rfl) ?_
      refine lv_iconst (pc := 94) (v := 0) hx hb dX5_putText_94 (by decide) ?_
      refine lv_iload_n (pc := 95) hx hb dX5_putText_95 rfl (lv_at hl 2 rfl) ?_
      refine lv_iconst (pc := 96) (v := 1) hx hb dX5_putText_96 (by decide) ?_
      refine lv_iadd (pc := 97) hx hb dX5_putText_97 ?_
      refine lv_iload_n (pc := 98) hx hb dX5_putText_98 rfl (lv_at hl 3 rfl) ?_
      refine q_ci (pc := 99) hR (q_rV E (xp1 w) (As := [.int 0, .int (x2 + 1), .int x3]) (rest := []) (cX5_putBits_met l w hI N 0 (x2 + 1) x3 _ σ h) ckX5_putBits cvX5_putBits mw232 ⟨rfl, rfl, Nat.le_of_ble_eq_true rfl, Nat.le_of_ble_eq_true rfl⟩ hR (rc1_4 w) rfl hl.1 rfl (Nat.le_of_ble_eq_true rfl) dX5_putText_99) (fun r_7 σ_6 H locs h hR => ?_)
      refine lv_pop (pc := 102) hx hb dX5_putText_102 rfl ?_
      exact q_vret (pc := 103) E hR h dX5_putText_103
    · have h := h.2 c_5
      refine lv_aload_n (pc := 64) hx hb dX5_putText_64 rfl (lv_at hl 0 rfl) ?_
      refine lv_aload_n (pc := 65) hx hb dX5_putText_65 rfl (lv_at hl 0 rfl) ?_
      refine gf1_4_10 (pc := 66) hx hb hts hown hK hR mw210 dX5_putText_66 ?_
      refine lv_aload_n (pc := 69) hx hb dX5_putText_69 rfl (lv_at hl 0 rfl) ?_
      refine gf1_4_6 (pc := 70) hx hb hts hown hK hR mw192 dX5_putText_70 ?_
      refine lv_iload_n (pc := 73) hx hb dX5_putText_73 rfl (lv_at hl 1 rfl) ?_
      have g_8 := h.1
      have h := h.2
      refine q_aald (pc := 74) hx hb hK hR (k := 38) lt1_38 5 rfl rfl (ar1_38 _ _ _) g_8 dX5_putText_74 ?_
      refine lv_iload (pc := 75) hx hb dX5_putText_75 (lv_at hl 4 rfl) ?_
      have g_9 := h.1
      have h := h.2
      refine q_iald (pc := 77) hx hb hK hR (k := (203 + x1.toNatClampNeg)) (r120_lt (r120_in8 g_8)) (ev1_r120 (r120_in8 g_8)) g_9 dX5_putText_77 ?_
      have g_10 := h.1
      have h := h.2
      refine q_iald (pc := 78) hx hb hK hR (k := 42) lt1_42 (ar1_42 _ _ _) g_10 dX5_putText_78 ?_
      refine lv_iload_n (pc := 79) hx hb dX5_putText_79 rfl (lv_at hl 2 rfl) ?_
      refine lv_iconst (pc := 80) (v := 1) hx hb dX5_putText_80 (by decide) ?_
      refine lv_iadd (pc := 81) hx hb dX5_putText_81 ?_
      refine lv_iload_n (pc := 82) hx hb dX5_putText_82 rfl (lv_at hl 3 rfl) ?_
      refine q_ci (pc := 83) hR (q_rV E (xp1 w) (As := [.int (σ.1 42 (σ.1 (203 + x1.toNatClampNeg) x4.toNatClampNeg).toNatClampNeg), .int (x2 + 1), .int x3]) (rest := []) (cX5_putBits_met l w hI N (σ.1 42 (σ.1 (203 + x1.toNatClampNeg) x4.toNatClampNeg).toNatClampNeg) (x2 + 1) x3 _ σ h) ckX5_putBits cvX5_putBits mw232 ⟨rfl, rfl, Nat.le_of_ble_eq_true rfl, Nat.le_of_ble_eq_true rfl⟩ hR (rc1_4 w) rfl hl.1 rfl (Nat.le_of_ble_eq_true rfl) dX5_putText_83) (fun r_12 σ_11 H locs h hR => ?_)
      refine lv_istore_n (pc := 86) (lv' := [(3, .int r_12), (0, .ref (w.2.1 4)), (1, .int x1), (2, .int x2), (4, .int x4)]) hx hb dX5_putText_86 rfl hl (by decide) rfl (fun ls hl => ?_)
      obtain ⟨v_13, ev_13⟩ : ∃ z : Int32, z = x4 + 1 := ⟨_, rfl⟩
      have h := h v_13 ev_13
      refine lv_iinc (pc := 87) (v := v_13) (lv' := [(4, .int v_13), (3, .int r_12), (0, .ref (w.2.1 4)), (1, .int x1), (2, .int x2)]) hx hb dX5_putText_87 hl (k := 4) rfl (by rw [ev_13]; rfl) (by decide) rfl (fun ls hl => ?_)
      refine lv_goto (pc := 90) (tgt := 53) hx hb dX5_putText_90 (by decide) ?_
      exact ih r_12 v_13 σ_11 _ _ _ hR (lv_sub hl [2, 3, 4, 1, 0] rfl) h
def fX5_putText_l13 (N : Nat) (x1 : Int32) (x2 : Int32) (Q : St → Prop) (r13 : Int32 → St → Prop) (x3 : Int32) (σ : St) : Prop := vp_in x1 20 ∧ (((((σ.1 40 x1.toNatClampNeg) + 7) / 8) ≤ x3 → lo2 (fX5_putText_l53 N x1 x2 Q) N 0 0 σ) ∧ (¬ (((σ.1 40 x1.toNatClampNeg) + 7) / 8) ≤ x3 → fX3_putByte N ((x2 + 1) + x3) 0 (fun σ_4 => ∀ v_5 : Int32, v_5 = x3 + 1 → r13 v_5 σ_4) σ))
set_option maxHeartbeats 4000000 in
set_option maxRecDepth 100000 in
theorem bX5_putText_13 {p : Program} {e : Env} {s : State} {m : MethodId} {args : Array Value} {below : List Frame} {meth : Method} {c : Code} (l : Launch) (w : Wd) (N : Nat) (Q : St → Prop) (E : Cx 223 w (X1 w) cX5_putText 5 RX5 (.code yX5_putText cX5_putText 5 none) none p s m args meth c) (x1 : Int32) (x2 : Int32) : ∀ (n : Nat) (x3 : Int32) (σ : St) (H : Heap) (locs : List Loc) (ls : Array Slot), Rr 223 ev1 w σ s H locs → lv_has ls 5 [(0, .ref (w.2.1 4)), (1, .int x1), (2, .int x2), (3, .int x3)] → lo1 (fX5_putText_l13 N x1 x2 Q) n x3 σ → W p l e rmX5_putText s m args below meth c H locs 0 0 (MQ below (va_Qv Q (Rp 223 ev1 w) (Aw 223 w)) args s 0 0 (Aw 223 w)) (F0 m 13 ls []) := by
  obtain ⟨hx, hb, hml, hown, hts, hr, hlk, hK, hI, hX⟩ := id E
  intro n
  induction n with
  | zero => intro x3 σ H locs ls hR hl h; exact h.elim
  | succ n ih =>
    intro x3 σ H locs ls hR hl h
    have h : fX5_putText_l13 N x1 x2 Q (lo1 (fX5_putText_l13 N x1 x2 Q) n) x3 σ := h
    unfold fX5_putText_l13 at h
    refine lv_iload_n (pc := 13) hx hb dX5_putText_13 rfl (lv_at hl 3 rfl) ?_
    refine lv_aload_n (pc := 14) hx hb dX5_putText_14 rfl (lv_at hl 0 rfl) ?_
    refine gf1_4_8 (pc := 15) hx hb hts hown hK hR mw231 dX5_putText_15 ?_
    refine lv_iload_n (pc := 18) hx hb dX5_putText_18 rfl (lv_at hl 1 rfl) ?_
    have g_2 := h.1
    have h := h.2
    refine q_iald (pc := 19) hx hb hK hR (k := 40) lt1_40 (ar1_40 _ _ _) g_2 dX5_putText_19 ?_
    refine lv_bipush (pc := 20) (v := 7) hx hb dX5_putText_20 (by decide) ?_
    refine lv_iadd (pc := 22) hx hb dX5_putText_22 ?_
    refine lv_bipush (pc := 23) (v := 8) hx hb dX5_putText_23 (by decide) ?_
    refine lv_idiv (pc := 25) hx hb dX5_putText_25 (by decide) ?_
    refine lv_icmp_ge (pc := 26) (tgt := 48) hx hb dX5_putText_26 (by decide) (fun c_3 => ?_) (fun c_3 => ?_)
    · have h := h.1 c_3
      refine lv_iconst (pc := 48) (v := 0) hx hb dX5_putText_48 (by decide) ?_
      refine lv_istore_n (pc := 49) (lv' := [(3, .int 0), (0, .ref (w.2.1 4)), (1, .int x1), (2, .int x2)]) hx hb dX5_putText_49 rfl hl (by decide) rfl (fun ls hl => ?_)
      refine lv_iconst (pc := 50) (v := 0) hx hb dX5_putText_50 (by decide) ?_
      refine lv_istore (pc := 51) (lv' := [(4, .int 0), (3, .int 0), (0, .ref (w.2.1 4)), (1, .int x1), (2, .int x2)]) hx hb dX5_putText_51 hl (by decide) rfl (fun ls hl => ?_)
      exact bX5_putText_53 l w N Q E x1 x2 N 0 0 σ _ _ _ hR (lv_sub hl [2, 3, 4, 1, 0] rfl) h
    · have h := h.2 c_3
      refine lv_aload_n (pc := 29) hx hb dX5_putText_29 rfl (lv_at hl 0 rfl) ?_
      refine gf1_4_0 (pc := 30) hx hb hts hown hK hR mw227 dX5_putText_30 ?_
      refine lv_iload_n (pc := 33) hx hb dX5_putText_33 rfl (lv_at hl 2 rfl) ?_
      refine lv_iconst (pc := 34) (v := 1) hx hb dX5_putText_34 (by decide) ?_
      refine lv_iadd (pc := 35) hx hb dX5_putText_35 ?_
      refine lv_iload_n (pc := 36) hx hb dX5_putText_36 rfl (lv_at hl 3 rfl) ?_
      refine lv_iadd (pc := 37) hx hb dX5_putText_37 ?_
      refine lv_iconst (pc := 38) (v := 0) hx hb dX5_putText_38 (by decide) ?_
      refine q_cv (pc := 39) hR (q_rV E (xp1 w) (As := [.int ((x2 + 1) + x3), .int 0]) (rest := []) (cX3_putByte_met l w hI N ((x2 + 1) + x3) 0 _ σ h) ckX3_putByte cvX3_putByte mw230 ⟨rfl, rfl, Nat.le_of_ble_eq_true rfl, Nat.le_of_ble_eq_true rfl⟩ hR (rc1_1 w) rfl hl.1 rfl (Nat.le_of_ble_eq_true rfl) dX5_putText_39) (fun σ_4 H locs h hR => ?_)
      obtain ⟨v_5, ev_5⟩ : ∃ z : Int32, z = x3 + 1 := ⟨_, rfl⟩
      have h := h v_5 ev_5
      refine lv_iinc (pc := 42) (v := v_5) (lv' := [(3, .int v_5), (0, .ref (w.2.1 4)), (1, .int x1), (2, .int x2)]) hx hb dX5_putText_42 hl (k := 3) rfl (by rw [ev_5]; rfl) (by decide) rfl (fun ls hl => ?_)
      refine lv_goto (pc := 45) (tgt := 13) hx hb dX5_putText_45 (by decide) ?_
      exact ih v_5 σ_4 _ _ _ hR (lv_sub hl [1, 2, 3, 0] rfl) h
def fX5_putText (N : Nat) (x1 : Int32) (x2 : Int32) (Q : St → Prop) (σ : St) : Prop := fX3_putByte N x2 225 (fun σ_1 => lo1 (fX5_putText_l13 N x1 x2 Q) N 0 σ_1) σ
set_option maxHeartbeats 4000000 in
set_option maxRecDepth 100000 in
theorem bX5_putText_e {p : Program} {e : Env} {s : State} {m : MethodId} {args : Array Value} {below : List Frame} {meth : Method} {c : Code} (l : Launch) (w : Wd) (N : Nat) (Q : St → Prop) (E : Cx 223 w (X1 w) cX5_putText 5 RX5 (.code yX5_putText cX5_putText 5 none) none p s m args meth c) (x1 : Int32) (x2 : Int32) {σ : St} {H : Heap} {locs : List Loc} {ls : Array Slot} (hR : Rr 223 ev1 w σ s H locs) (hl : lv_has ls 5 [(0, .ref (w.2.1 4)), (1, .int x1), (2, .int x2)]) (h : fX5_putText N x1 x2 Q σ) : W p l e rmX5_putText s m args below meth c H locs 0 0 (MQ below (va_Qv Q (Rp 223 ev1 w) (Aw 223 w)) args s 0 0 (Aw 223 w)) (F0 m 0 ls []) := by
  obtain ⟨hx, hb, hml, hown, hts, hr, hlk, hK, hI, hX⟩ := id E
  unfold fX5_putText at h
  refine lv_aload_n (pc := 0) hx hb dX5_putText_0 rfl (lv_at hl 0 rfl) ?_
  refine gf1_4_0 (pc := 1) hx hb hts hown hK hR mw227 dX5_putText_1 ?_
  refine lv_iload_n (pc := 4) hx hb dX5_putText_4 rfl (lv_at hl 2 rfl) ?_
  refine lv_sipush (pc := 5) (v := 225) hx hb dX5_putText_5 (by decide) ?_
  refine q_cv (pc := 8) hR (q_rV E (xp1 w) (As := [.int x2, .int 225]) (rest := []) (cX3_putByte_met l w hI N x2 225 _ σ h) ckX3_putByte cvX3_putByte mw230 ⟨rfl, rfl, Nat.le_of_ble_eq_true rfl, Nat.le_of_ble_eq_true rfl⟩ hR (rc1_1 w) rfl hl.1 rfl (Nat.le_of_ble_eq_true rfl) dX5_putText_8) (fun σ_1 H locs h hR => ?_)
  refine lv_iconst (pc := 11) (v := 0) hx hb dX5_putText_11 (by decide) ?_
  refine lv_istore_n (pc := 12) (lv' := [(3, .int 0), (0, .ref (w.2.1 4)), (1, .int x1), (2, .int x2)]) hx hb dX5_putText_12 rfl hl (by decide) rfl (fun ls hl => ?_)
  exact bX5_putText_13 l w N Q E x1 x2 N 0 σ_1 _ _ _ hR (lv_sub hl [1, 2, 3, 0] rfl) h
theorem cX5_putText_met (l : Launch) (w : Wd) (hI : Ij 223 w) (N : Nat) (x1 : Int32) (x2 : Int32) (Q : St → Prop) (σ : St) (h : fX5_putText N x1 x2 Q σ) : Met l yX5_putText (.code yX5_putText cX5_putText 5 none :: Uw) rmX5_putText (va_Pc [.ref (w.2.1 4), .int x1, .int x2] (fun U => Rp 223 ev1 w σ U ∧ (X1 w) U)) (va_Qv Q (Rp 223 ev1 w) (Aw 223 w)) 0 0 (Aw 223 w) :=
  q_met (by decide) (Nat.le_of_ble_eq_true rfl) hI (fun p e s m below meth c ls E hl hR => bX5_putText_e l w N Q E x1 x2 hR hl h)
