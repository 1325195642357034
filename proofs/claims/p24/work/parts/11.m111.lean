-- GlulxStrings$Packer.putTexts(I)V
abbrev rmX5_putTexts : Room := { frames := 3, cells := 0, slots := 0, locals := 73 }
def fX5_putTexts_l4 (N : Nat) (Q : St → Prop) (r4 : Int32 → Int32 → St → Prop) (x2 : Int32) (x3 : Int32) (σ : St) : Prop := (((σ.1 7 4) ≤ x3 → Q σ) ∧ (¬ (σ.1 7 4) ≤ x3 → vp_in x3 20 ∧ ∀ σ_3 : St, σ_3 = u1 σ 25 x3.toNatClampNeg x2 → vp_in x3 20 ∧ ∀ v_5 : Int32, v_5 = σ_3.1 40 x3.toNatClampNeg → vp_in x3 20 ∧ ∀ σ_7 : St, σ_7 = u1 σ_3 26 x3.toNatClampNeg v_5 → fX5_putText N x3 x2 (fun σ_8 => vp_in x3 20 ∧ ∀ v_10 : Int32, v_10 = x2 + (1 + (((σ_8.1 40 x3.toNatClampNeg) + 7) / 8)) → ∀ v_11 : Int32, v_11 = x3 + 1 → r4 v_10 v_11 σ_8) σ_7))
set_option maxHeartbeats 4000000 in
set_option maxRecDepth 100000 in
theorem bX5_putTexts_4 {p : Program} {e : Env} {s : State} {m : MethodId} {args : Array Value} {below : List Frame} {meth : Method} {c : Code} (l : Launch) (w : Wd) (N : Nat) (Q : St → Prop) (E : Cx 223 w (X1 w) cX5_putTexts 4 RX5 (.code yX5_putTexts cX5_putTexts 4 none) none p s m args meth c) : ∀ (n : Nat) (x2 : Int32) (x3 : Int32) (σ : St) (H : Heap) (locs : List Loc) (ls : Array Slot), Rr 223 ev1 w σ s H locs → lv_has ls 4 [(0, .ref (w.2.1 4)), (2, .int x2), (3, .int x3)] → lo2 (fX5_putTexts_l4 N Q) n x2 x3 σ → W p l e rmX5_putTexts s m args below meth c H locs 0 0 (MQ below (va_Qv Q (Rp 223 ev1 w) (Aw 223 w)) args s 0 0 (Aw 223 w)) (F0 m 4 ls []) := by
  obtain ⟨hx, hb, hml, hown, hts, hr, hlk, hK, hI, hX⟩ := id E
  intro n
  induction n with
  | zero => intro x2 x3 σ H locs ls hR hl h; exact h.elim
  | succ n ih =>
    intro x2 x3 σ H locs ls hR hl h
    have h : fX5_putTexts_l4 N Q (lo2 (fX5_putTexts_l4 N Q) n) x2 x3 σ := h
    unfold fX5_putTexts_l4 at h
    refine lv_iload_n (pc := 4) hx hb dX5_putTexts_4 rfl (lv_at hl 2 rfl) ?_
    refine lv_aload_n (pc := 5) hx hb dX5_putTexts_5 rfl (lv_at hl 0 rfl) ?_
    refine gf1_4_3 (pc := 6) hx hb hts hown hK hR mw185 dX5_putTexts_6 ?_
    refine gf1_7_4 (pc := 9) hx hb hts hown hK hR mw186 dX5_putTexts_9 ?_
    refine lv_icmp_ge (pc := 12) (tgt := 69) hx hb dX5_putTexts_12 (by decide) (fun c_1 => ?_) (fun c_1 => ?_)
    · have h := h.1 c_1
      exact q_vret (pc := 69) E hR h dX5_putTexts_69
    · have h := h.2 c_1
      refine lv_aload_n (pc := 15) hx hb dX5_putTexts_15 rfl (lv_at hl 0 rfl) ?_
      refine gf1_4_3 (pc := 16) hx hb hts hown hK hR mw185 dX5_putTexts_16 ?_
      refine gf1_7_2 (pc := 19) hx hb hts hown hK hR mw233 dX5_putTexts_19 ?_
      refine lv_iload_n (pc := 22) hx hb dX5_putTexts_22 rfl (lv_at hl 2 rfl) ?_
      refine lv_iload_n (pc := 23) hx hb dX5_putTexts_23 rfl (lv_at hl 1 rfl) ?_
      have g_2 := h.1
      have h := h.2
      refine q_iast (pc := 24) hx hb hK hI hR (k := 25) lt1_25 (fun f => (ar1_25 _ f _)) g_2 dX5_putTexts_24 (fun H locs σ_3 eσ_3 hR => ?_)
      have h := h σ_3 eσ_3
      refine lv_aload_n (pc := 25) hx hb dX5_putTexts_25 rfl (lv_at hl 0 rfl) ?_
      refine gf1_4_3 (pc := 26) hx hb hts hown hK hR mw185 dX5_putTexts_26 ?_
      refine gf1_7_3 (pc := 29) hx hb hts hown hK hR mw234 dX5_putTexts_29 ?_
      refine lv_iload_n (pc := 32) hx hb dX5_putTexts_32 rfl (lv_at hl 2 rfl) ?_
      refine lv_aload_n (pc := 33) hx hb dX5_putTexts_33 rfl (lv_at hl 0 rfl) ?_
      refine gf1_4_8 (pc := 34) hx hb hts hown hK hR mw231 dX5_putTexts_34 ?_
      refine lv_iload_n (pc := 37) hx hb dX5_putTexts_37 rfl (lv_at hl 2 rfl) ?_
      have g_4 := h.1
      have h := h.2
      refine q_iald (pc := 38) hx hb hK hR (k := 40) lt1_40 (ar1_40 _ _ _) g_4 dX5_putTexts_38 ?_
      refine lv_topi (pc := 39) (fun v_5 ev_5 => ?_)
      have h := h v_5 ev_5
      have g_6 := h.1
      have h := h.2
      refine q_iast (pc := 39) hx hb hK hI hR (k := 26) lt1_26 (fun f => (ar1_26 _ f _)) g_6 dX5_putTexts_39 (fun H locs σ_7 eσ_7 hR => ?_)
      have h := h σ_7 eσ_7
      refine lv_aload_n (pc := 40) hx hb dX5_putTexts_40 rfl (lv_at hl 0 rfl) ?_
      refine lv_iload_n (pc := 41) hx hb dX5_putTexts_41 rfl (lv_at hl 2 rfl) ?_
      refine lv_iload_n (pc := 42) hx hb dX5_putTexts_42 rfl (lv_at hl 1 rfl) ?_
      refine q_cv (pc := 43) hR (q_rV E (xp1 w) (As := [.int x3, .int x2]) (rest := []) (cX5_putText_met l w hI N x3 x2 _ σ_7 h) ckX5_putText cvX5_putText mw235 ⟨rfl, rfl, Nat.le_of_ble_eq_true rfl, Nat.le_of_ble_eq_true rfl⟩ hR (rc1_4 w) rfl hl.1 rfl (Nat.le_of_ble_eq_true rfl) dX5_putTexts_43) (fun σ_8 H locs h hR => ?_)
      refine lv_iload_n (pc := 46) hx hb dX5_putTexts_46 rfl (lv_at hl 1 rfl) ?_
      refine lv_iconst (pc := 47) (v := 1) hx hb dX5_putTexts_47 (by decide) ?_
      refine lv_aload_n (pc := 48) hx hb dX5_putTexts_48 rfl (lv_at hl 0 rfl) ?_
      refine gf1_4_8 (pc := 49) hx hb hts hown hK hR mw231 dX5_putTexts_49 ?_
      refine lv_iload_n (pc := 52) hx hb dX5_putTexts_52 rfl (lv_at hl 2 rfl) ?_
      have g_9 := h.1
      have h := h.2
      refine q_iald (pc := 53) hx hb hK hR (k := 40) lt1_40 (ar1_40 _ _ _) g_9 dX5_putTexts_53 ?_
      refine lv_bipush (pc := 54) (v := 7) hx hb dX5_putTexts_54 (by decide) ?_
      refine lv_iadd (pc := 56) hx hb dX5_putTexts_56 ?_
      refine lv_bipush (pc := 57) (v := 8) hx hb dX5_putTexts_57 (by decide) ?_
      refine lv_idiv (pc := 59) hx hb dX5_putTexts_59 (by decide) ?_
      refine lv_iadd (pc := 60) hx hb dX5_putTexts_60 ?_
      refine lv_iadd (pc := 61) hx hb dX5_putTexts_61 ?_
      refine lv_topi (pc := 62) (fun v_10 ev_10 => ?_)
      have h := h v_10 ev_10
      refine lv_istore_n (pc := 62) (lv' := [(2, .int v_10), (0, .ref (w.2.1 4)), (3, .int x3)]) hx hb dX5_putTexts_62 rfl hl (by decide) rfl (fun ls hl => ?_)
      obtain ⟨v_11, ev_11⟩ : ∃ z : Int32, z = x3 + 1 := ⟨_, rfl⟩
      have h := h v_11 ev_11
      refine lv_iinc (pc := 63) (v := v_11) (lv' := [(3, .int v_11), (2, .int v_10), (0, .ref (w.2.1 4))]) hx hb dX5_putTexts_63 hl (k := 2) rfl (by rw [ev_11]; rfl) (by decide) rfl (fun ls hl => ?_)
      refine lv_goto (pc := 66) (tgt := 4) hx hb dX5_putTexts_66 (by decide) ?_
      exact ih v_10 v_11 σ_8 _ _ _ hR (lv_sub hl [2, 1, 0] rfl) h
def fX5_putTexts (N : Nat) (x1 : Int32) (Q : St → Prop) (σ : St) : Prop := lo2 (fX5_putTexts_l4 N Q) N x1 0 σ
set_option maxHeartbeats 4000000 in
set_option maxRecDepth 100000 in
theorem bX5_putTexts_e {p : Program} {e : Env} {s : State} {m : MethodId} {args : Array Value} {below : List Frame} {meth : Method} {c : Code} (l : Launch) (w : Wd) (N : Nat) (Q : St → Prop) (E : Cx 223 w (X1 w) cX5_putTexts 4 RX5 (.code yX5_putTexts cX5_putTexts 4 none) none p s m args meth c) (x1 : Int32) {σ : St} {H : Heap} {locs : List Loc} {ls : Array Slot} (hR : Rr 223 ev1 w σ s H locs) (hl : lv_has ls 4 [(0, .ref (w.2.1 4)), (1, .int x1)]) (h : fX5_putTexts N x1 Q σ) : W p l e rmX5_putTexts s m args below meth c H locs 0 0 (MQ below (va_Qv Q (Rp 223 ev1 w) (Aw 223 w)) args s 0 0 (Aw 223 w)) (F0 m 0 ls []) := by
  obtain ⟨hx, hb, hml, hown, hts, hr, hlk, hK, hI, hX⟩ := id E
  unfold fX5_putTexts at h
  refine lv_iload_n (pc := 0) hx hb dX5_putTexts_0 rfl (lv_at hl 1 rfl) ?_
  refine lv_istore_n (pc := 1) (lv' := [(2, .int x1), (0, .ref (w.2.1 4)), (1, .int x1)]) hx hb dX5_putTexts_1 rfl hl (by decide) rfl (fun ls hl => ?_)
  refine lv_iconst (pc := 2) (v := 0) hx hb dX5_putTexts_2 (by decide) ?_
  refine lv_istore_n (pc := 3) (lv' := [(3, .int 0), (2, .int x1), (0, .ref (w.2.1 4)), (1, .int x1)]) hx hb dX5_putTexts_3 rfl hl (by decide) rfl (fun ls hl => ?_)
  exact bX5_putTexts_4 l w N Q E N x1 0 σ _ _ _ hR (lv_sub hl [2, 1, 0] rfl) h
theorem cX5_putTexts_met (l : Launch) (w : Wd) (hI : Ij 223 w) (N : Nat) (x1 : Int32) (Q : St → Prop) (σ : St) (h : fX5_putTexts N x1 Q σ) : Met l yX5_putTexts (.code yX5_putTexts cX5_putTexts 4 none :: Uw) rmX5_putTexts (va_Pc [.ref (w.2.1 4), .int x1] (fun U => Rp 223 ev1 w σ U ∧ (X1 w) U)) (va_Qv Q (Rp 223 ev1 w) (Aw 223 w)) 0 0 (Aw 223 w) :=
  q_met (by decide) (Nat.le_of_ble_eq_true rfl) hI (fun p e s m below meth c ls E hl hR => bX5_putTexts_e l w N Q E x1 hR hl h)
-- GlulxStrings$Packer.keepBits()V
abbrev rmX5_keepBits : Room := { frames := 0, cells := 0, slots := 0, locals := 0 }
def fX5_keepBits_j69 (N : Nat) (r15 : Int32 → St → Prop) (x1 : Int32) (Q : St → Prop) (σ : St) : Prop := ∀ v_8 : Int32, v_8 = x1 + 1 → r15 v_8 σ
set_option maxHeartbeats 4000000 in
set_option maxRecDepth 100000 in
theorem bX5_keepBits_69 {p : Program} {e : Env} {s : State} {m : MethodId} {args : Array Value} {below : List Frame} {meth : Method} {c : Code} (l : Launch) (w : Wd) (N : Nat) (Q : St → Prop) (E : Cx 223 w (X1 w) cX5_keepBits 3 RX5 (.code yX5_keepBits cX5_keepBits 3 none) none p s m args meth c) (x1 : Int32) (r15 : Int32 → St → Prop) (hr15 : ∀ (x1 : Int32) (σ : St) (H : Heap) (locs : List Loc) (ls : Array Slot), Rr 223 ev1 w σ s H locs → lv_has ls 3 [(0, .ref (w.2.1 4)), (1, .int x1)] → r15 x1 σ → W p l e rmX5_keepBits s m args below meth c H locs 0 0 (MQ below (va_Qv Q (Rp 223 ev1 w) (Aw 223 w)) args s 0 0 (Aw 223 w)) (F0 m 15 ls [])) {σ : St} {H : Heap} {locs : List Loc} {ls : Array Slot} (hR : Rr 223 ev1 w σ s H locs) (hl : lv_has ls 3 [(0, .ref (w.2.1 4)), (1, .int x1)]) (h : fX5_keepBits_j69 N r15 x1 Q σ) : W p l e rmX5_keepBits s m args below meth c H locs 0 0 (MQ below (va_Qv Q (Rp 223 ev1 w) (Aw 223 w)) args s 0 0 (Aw 223 w)) (F0 m 69 ls []) := by
  obtain ⟨hx, hb, hml, hown, hts, hr, hlk, hK, hI, hX⟩ := id E
  unfold fX5_keepBits_j69 at h
  obtain ⟨v_8, ev_8⟩ : ∃ z : Int32, z = x1 + 1 := ⟨_, rfl⟩
  have h := h v_8 ev_8
  refine lv_iinc (pc := 69) (v := v_8) (lv' := [(1, .int v_8), (0, .ref (w.2.1 4))]) hx hb dX5_keepBits_69 hl (k := 1) rfl (by rw [ev_8]; rfl) (by decide) rfl (fun ls hl => ?_)
  refine lv_goto (pc := 72) (tgt := 15) hx hb dX5_keepBits_72 (by decide) ?_
  exact hr15 v_8 σ _ _ _ hR (lv_sub hl [1, 0] rfl) h
def fX5_keepBits_l15 (N : Nat) (Q : St → Prop) (r15 : Int32 → St → Prop) (x1 : Int32) (σ : St) : Prop := (((σ.1 9 10) ≤ x1 → Q σ) ∧ (¬ (σ.1 9 10) ≤ x1 → vp_in x1 121 ∧ ∀ v_6 : Int32, v_6 = σ.1 34 x1.toNatClampNeg → ((v_6 < 0 → fX5_keepBits_j69 N r15 x1 Q σ) ∧ (¬ v_6 < 0 → (((σ.1 6 5) ≤ v_6 → fX5_keepBits_j69 N r15 x1 Q σ) ∧ (¬ (σ.1 6 5) ≤ v_6 → vp_in x1 121 ∧ ∀ v_10 : Int32, v_10 = σ.1 36 x1.toNatClampNeg → vp_in v_6 60 ∧ ∀ σ_12 : St, σ_12 = u1 σ 22 v_6.toNatClampNeg v_10 → fX5_keepBits_j69 N r15 x1 Q σ_12))))))
set_option maxHeartbeats 4000000 in
set_option maxRecDepth 100000 in
theorem bX5_keepBits_15 {p : Program} {e : Env} {s : State} {m : MethodId} {args : Array Value} {below : List Frame} {meth : Method} {c : Code} (l : Launch) (w : Wd) (N : Nat) (Q : St → Prop) (E : Cx 223 w (X1 w) cX5_keepBits 3 RX5 (.code yX5_keepBits cX5_keepBits 3 none) none p s m args meth c) : ∀ (n : Nat) (x1 : Int32) (σ : St) (H : Heap) (locs : List Loc) (ls : Array Slot), Rr 223 ev1 w σ s H locs → lv_has ls 3 [(0, .ref (w.2.1 4)), (1, .int x1)] → lo1 (fX5_keepBits_l15 N Q) n x1 σ → W p l e rmX5_keepBits s m args below meth c H locs 0 0 (MQ below (va_Qv Q (Rp 223 ev1 w) (Aw 223 w)) args s 0 0 (Aw 223 w)) (F0 m 15 ls []) := by
  obtain ⟨hx, hb, hml, hown, hts, hr, hlk, hK, hI, hX⟩ := id E
  intro n
  induction n with
  | zero => intro x1 σ H locs ls hR hl h; exact h.elim
  | succ n ih =>
    intro x1 σ H locs ls hR hl h
    have h : fX5_keepBits_l15 N Q (lo1 (fX5_keepBits_l15 N Q) n) x1 σ := h
    unfold fX5_keepBits_l15 at h
    refine lv_iload_n (pc := 15) hx hb dX5_keepBits_15 rfl (lv_at hl 1 rfl) ?_
    refine lv_aload_n (pc := 16) hx hb dX5_keepBits_16 rfl (lv_at hl 0 rfl) ?_
    refine gf1_4_5 (pc := 17) hx hb hts hown hK hR mw204 dX5_keepBits_17 ?_
    refine gf1_9_10 (pc := 20) hx hb hts hown hK hR mw237 dX5_keepBits_20 ?_
    refine lv_icmp_ge (pc := 23) (tgt := 75) hx hb dX5_keepBits_23 (by decide) (fun c_4 => ?_) (fun c_4 => ?_)
    · have h := h.1 c_4
      exact q_vret (pc := 75) E hR h dX5_keepBits_75
    · have h := h.2 c_4
      refine lv_aload_n (pc := 26) hx hb dX5_keepBits_26 rfl (lv_at hl 0 rfl) ?_
      refine gf1_4_5 (pc := 27) hx hb hts hown hK hR mw204 dX5_keepBits_27 ?_
      refine gf1_9_5 (pc := 30) hx hb hts hown hK hR mw238 dX5_keepBits_30 ?_
      refine lv_iload_n (pc := 33) hx hb dX5_keepBits_33 rfl (lv_at hl 1 rfl) ?_
      have g_5 := h.1
      have h := h.2
      refine q_iald (pc := 34) hx hb hK hR (k := 34) lt1_34 (ar1_34 _ _ _) g_5 dX5_keepBits_34 ?_
      refine lv_topi (pc := 35) (fun v_6 ev_6 => ?_)
      have h := h v_6 ev_6
      refine lv_istore_n (pc := 35) (lv' := [(2, .int v_6), (0, .ref (w.2.1 4)), (1, .int x1)]) hx hb dX5_keepBits_35 rfl hl (by decide) rfl (fun ls hl => ?_)
      refine lv_iload_n (pc := 36) hx hb dX5_keepBits_36 rfl (lv_at hl 0 rfl) ?_
      refine lv_if_lt (pc := 37) (tgt := 69) hx hb dX5_keepBits_37 (by decide) (fun c_7 => ?_) (fun c_7 => ?_)
      · have h := h.1 c_7
        exact bX5_keepBits_69 l w N Q E x1 _ ih hR (lv_sub hl [1, 2] rfl) h
      · have h := h.2 c_7
        refine lv_iload_n (pc := 40) hx hb dX5_keepBits_40 rfl (lv_at hl 0 rfl) ?_
        refine lv_aload_n (pc := 41) hx hb dX5_keepBits_41 rfl (lv_at hl 1 rfl) ?_
        refine gf1_4_2 (pc := 42) hx hb hts hown hK hR mw207 dX5_keepBits_42 ?_
        refine gf1_6_5 (pc := 45) hx hb hts hown hK hR mw208 dX5_keepBits_45 ?_
        refine lv_icmp_ge (pc := 48) (tgt := 69) hx hb dX5_keepBits_48 (by decide) (fun c_8 => ?_) (fun c_8 => ?_)
        · have h := h.1 c_8
          exact bX5_keepBits_69 l w N Q E x1 _ ih hR (lv_sub hl [1, 2] rfl) h
        · have h := h.2 c_8
          refine lv_aload_n (pc := 51) hx hb dX5_keepBits_51 rfl (lv_at hl 1 rfl) ?_
          refine gf1_4_2 (pc := 52) hx hb hts hown hK hR mw207 dX5_keepBits_52 ?_
          refine gf1_6_4 (pc := 55) hx hb hts hown hK hR mw239 dX5_keepBits_55 ?_
          refine lv_iload_n (pc := 58) hx hb dX5_keepBits_58 rfl (lv_at hl 0 rfl) ?_
          refine lv_aload_n (pc := 59) hx hb dX5_keepBits_59 rfl (lv_at hl 1 rfl) ?_
          refine gf1_4_5 (pc := 60) hx hb hts hown hK hR mw204 dX5_keepBits_60 ?_
          refine gf1_9_7 (pc := 63) hx hb hts hown hK hR mw216 dX5_keepBits_63 ?_
          refine lv_iload_n (pc := 66) hx hb dX5_keepBits_66 rfl (lv_at hl 2 rfl) ?_
          have g_9 := h.1
          have h := h.2
          refine q_iald (pc := 67) hx hb hK hR (k := 36) lt1_36 (ar1_36 _ _ _) g_9 dX5_keepBits_67 ?_
          refine lv_topi (pc := 68) (fun v_10 ev_10 => ?_)
          have h := h v_10 ev_10
          have g_11 := h.1
          have h := h.2
          refine q_iast (pc := 68) hx hb hK hI hR (k := 22) lt1_22 (fun f => (ar1_22 _ f _)) g_11 dX5_keepBits_68 (fun H locs σ_12 eσ_12 hR => ?_)
          have h := h σ_12 eσ_12
          exact bX5_keepBits_69 l w N Q E x1 _ ih hR (lv_sub hl [1, 2] rfl) h
def fX5_keepBits (N : Nat) (Q : St → Prop) (σ : St) : Prop := vp_in 0 121 ∧ ∀ v_2 : Int32, v_2 = σ.1 36 (0 : Int32).toNatClampNeg → ∀ σ_3 : St, σ_3 = u1 σ 4 11 v_2 → lo1 (fX5_keepBits_l15 N Q) N 1 σ_3
set_option maxHeartbeats 4000000 in
set_option maxRecDepth 100000 in
theorem bX5_keepBits_e {p : Program} {e : Env} {s : State} {m : MethodId} {args : Array Value} {below : List Frame} {meth : Method} {c : Code} (l : Launch) (w : Wd) (N : Nat) (Q : St → Prop) (E : Cx 223 w (X1 w) cX5_keepBits 3 RX5 (.code yX5_keepBits cX5_keepBits 3 none) none p s m args meth c) {σ : St} {H : Heap} {locs : List Loc} {ls : Array Slot} (hR : Rr 223 ev1 w σ s H locs) (hl : lv_has ls 3 [(0, .ref (w.2.1 4))]) (h : fX5_keepBits N Q σ) : W p l e rmX5_keepBits s m args below meth c H locs 0 0 (MQ below (va_Qv Q (Rp 223 ev1 w) (Aw 223 w)) args s 0 0 (Aw 223 w)) (F0 m 0 ls []) := by
  obtain ⟨hx, hb, hml, hown, hts, hr, hlk, hK, hI, hX⟩ := id E
  unfold fX5_keepBits at h
  refine lv_aload_n (pc := 0) hx hb dX5_keepBits_0 rfl (lv_at hl 0 rfl) ?_
  refine lv_aload_n (pc := 1) hx hb dX5_keepBits_1 rfl (lv_at hl 0 rfl) ?_
  refine gf1_4_5 (pc := 2) hx hb hts hown hK hR mw204 dX5_keepBits_2 ?_
  refine gf1_9_7 (pc := 5) hx hb hts hown hK hR mw216 dX5_keepBits_5 ?_
  refine lv_iconst (pc := 8) (v := 0) hx hb dX5_keepBits_8 (by decide) ?_
  have g_1 := h.1
  have h := h.2
  refine q_iald (pc := 9) hx hb hK hR (k := 36) lt1_36 (ar1_36 _ _ _) g_1 dX5_keepBits_9 ?_
  refine lv_topi (pc := 10) (fun v_2 ev_2 => ?_)
  have h := h v_2 ev_2
  refine pf1_4_11 (pc := 10) hx hb hts hown hK hI hR mw236 dX5_keepBits_10 (fun H locs σ_3 eσ_3 hR => ?_)
  have h := h σ_3 eσ_3
  refine lv_iconst (pc := 13) (v := 1) hx hb dX5_keepBits_13 (by decide) ?_
  refine lv_istore_n (pc := 14) (lv' := [(1, .int 1), (0, .ref (w.2.1 4))]) hx hb dX5_keepBits_14 rfl hl (by decide) rfl (fun ls hl => ?_)
  exact bX5_keepBits_15 l w N Q E N 1 σ_3 _ _ _ hR (lv_sub hl [1, 0] rfl) h
theorem cX5_keepBits_met (l : Launch) (w : Wd) (hI : Ij 223 w) (N : Nat) (Q : St → Prop) (σ : St) (h : fX5_keepBits N Q σ) : Met l yX5_keepBits (.code yX5_keepBits cX5_keepBits 3 none :: Uw) rmX5_keepBits (va_Pc [.ref (w.2.1 4)] (fun U => Rp 223 ev1 w σ U ∧ (X1 w) U)) (va_Qv Q (Rp 223 ev1 w) (Aw 223 w)) 0 0 (Aw 223 w) :=
  q_met (by decide) (Nat.le_of_ble_eq_true rfl) hI (fun p e s m below meth c ls E hl hR => bX5_keepBits_e l w N Q E hR hl h)
-- GlulxStrings$Packer.pack(I)I
abbrev rmX5_pack : Room := { frames := 5, cells := 0, slots := 0, locals := 115 }
def fX5_pack_l29 (N : Nat) (x1 : Int32) (Q : Int32 → St → Prop) (r29 : Int32 → Int32 → Int32 → St → Prop) (x2 : Int32) (x3 : Int32) (x4 : Int32) (σ : St) : Prop := (((σ.1 7 4) ≤ x4 → ((x1 ≤ (4096 - x2) → fX0_putNodes N x1 (fun σ_8 => fX0_size N (fun r_10 σ_9 => fX5_putTexts N (x1 + r_10) (fun σ_11 => fX5_keepBits N (fun σ_12 => fX8_dropIfTouched N x1 (x1 + x2) (fun σ_13 => Q x3 σ_13) σ_12) σ_11) σ_9) σ_8) σ) ∧ (¬ x1 ≤ (4096 - x2) → Q (-4) σ))) ∧ (¬ (σ.1 7 4) ≤ x4 → fX5_countBits N x4 (fun r_15 σ_14 => vp_in x4 20 ∧ ∀ σ_17 : St, σ_17 = u1 σ_14 40 x4.toNatClampNeg r_15 → vp_in x4 20 ∧ ∀ v_19 : Int32, v_19 = x3 + (σ_17.1 40 x4.toNatClampNeg) → vp_in x4 20 ∧ ∀ v_21 : Int32, v_21 = x2 + (1 + (((σ_17.1 40 x4.toNatClampNeg) + 7) / 8)) → ∀ v_22 : Int32, v_22 = x4 + 1 → r29 v_21 v_19 v_22 σ_17) σ))
set_option maxHeartbeats 4000000 in
set_option maxRecDepth 100000 in
theorem bX5_pack_29 {p : Program} {e : Env} {s : State} {m : MethodId} {args : Array Value} {below : List Frame} {meth : Method} {c : Code} (l : Launch) (w : Wd) (N : Nat) (Q : Int32 → St → Prop) (E : Cx 223 w (X1 w) cX5_pack 5 RX5 (.code yX5_pack cX5_pack 5 (some .int)) (some .int) p s m args meth c) (x1 : Int32) : ∀ (n : Nat) (x2 : Int32) (x3 : Int32) (x4 : Int32) (σ : St) (H : Heap) (locs : List Loc) (ls : Array Slot), Rr 223 ev1 w σ s H locs → lv_has ls 5 [(0, .ref (w.2.1 4)), (1, .int x1), (2, .int x2), (3, .int x3), (4, .int x4)] → lo3 (fX5_pack_l29 N x1 Q) n x2 x3 x4 σ → W p l e rmX5_pack s m args below meth c H locs 0 0 (MQ below (va_Qi Q (Rp 223 ev1 w) (Aw 223 w)) args s 0 0 (Aw 223 w)) (F0 m 29 ls []) := by
  obtain ⟨hx, hb, hml, hown, hts, hr, hlk, hK, hI, hX⟩ := id E
  intro n
  induction n with
  | zero => intro x2 x3 x4 σ H locs ls hR hl h; exact h.elim
  | succ n ih =>
    intro x2 x3 x4 σ H locs ls hR hl h
    have h : fX5_pack_l29 N x1 Q (lo3 (fX5_pack_l29 N x1 Q) n) x2 x3 x4 σ := h
    unfold fX5_pack_l29 at h
    refine lv_iload (pc := 29) hx hb dX5_pack_29 (lv_at hl 4 rfl) ?_
    refine lv_aload_n (pc := 31) hx hb dX5_pack_31 rfl (lv_at hl 0 rfl) ?_
    refine gf1_4_3 (pc := 32) hx hb hts hown hK hR mw185 dX5_pack_32 ?_
    refine gf1_7_4 (pc := 35) hx hb hts hown hK hR mw186 dX5_pack_35 ?_
    refine lv_icmp_ge (pc := 38) (tgt := 88) hx hb dX5_pack_38 (by decide) (fun c_6 => ?_) (fun c_6 => ?_)
    · have h := h.1 c_6
      refine lv_iload_n (pc := 88) hx hb dX5_pack_88 rfl (lv_at hl 1 rfl) ?_
      refine lv_sipush (pc := 89) (v := 4096) hx hb dX5_pack_89 (by decide) ?_
      refine lv_iload_n (pc := 92) hx hb dX5_pack_92 rfl (lv_at hl 2 rfl) ?_
      refine lv_isub (pc := 93) hx hb dX5_pack_93 ?_
      refine lv_icmp_le (pc := 94) (tgt := 100) hx hb dX5_pack_94 (by decide) (fun c_7 => ?_) (fun c_7 => ?_)
      · have h := h.1 c_7
        refine lv_aload_n (pc := 100) hx hb dX5_pack_100 rfl (lv_at hl 0 rfl) ?_
        refine gf1_4_5 (pc := 101) hx hb hts hown hK hR mw204 dX5_pack_101 ?_
        refine lv_aload_n (pc := 104) hx hb dX5_pack_104 rfl (lv_at hl 0 rfl) ?_
        refine gf1_4_0 (pc := 105) hx hb hts hown hK hR mw227 dX5_pack_105 ?_
        refine lv_aload_n (pc := 108) hx hb dX5_pack_108 rfl (lv_at hl 0 rfl) ?_
        refine gf1_4_2 (pc := 109) hx hb hts hown hK hR mw207 dX5_pack_109 ?_
        refine lv_iload_n (pc := 112) hx hb dX5_pack_112 rfl (lv_at hl 1 rfl) ?_
        refine q_cv (pc := 113) hR (q_rV E (xp1 w) (As := [.ref (w.2.1 1), .ref (w.2.1 6), .int x1]) (rest := []) (cX0_putNodes_met l w hI N x1 _ σ h) ckX0_putNodes cvX0_putNodes mw244 ⟨rfl, rfl, Nat.le_of_ble_eq_true rfl, Nat.le_of_ble_eq_true rfl⟩ hR (rc1_9 w) rfl hl.1 rfl (Nat.le_of_ble_eq_true rfl) dX5_pack_113) (fun σ_8 H locs h hR => ?_)
        refine lv_aload_n (pc := 116) hx hb dX5_pack_116 rfl (lv_at hl 0 rfl) ?_
        refine lv_iload_n (pc := 117) hx hb dX5_pack_117 rfl (lv_at hl 1 rfl) ?_
        refine lv_aload_n (pc := 118) hx hb dX5_pack_118 rfl (lv_at hl 0 rfl) ?_
        refine gf1_4_5 (pc := 119) hx hb hts hown hK hR mw204 dX5_pack_119 ?_
        refine q_ci (pc := 122) hR (q_rV E (xp1 w) (As := []) (rest := [.int x1, .ref (w.2.1 4)]) (cX0_size_met l w hI N _ σ_8 h) ckX0_size cvX0_size mw243 ⟨rfl, rfl, Nat.le_of_ble_eq_true rfl, Nat.le_of_ble_eq_true rfl⟩ hR (rc1_9 w) rfl hl.1 rfl (Nat.le_of_ble_eq_true rfl) dX5_pack_122) (fun r_10 σ_9 H locs h hR => ?_)
        refine lv_iadd (pc := 125) hx hb dX5_pack_125 ?_
        refine q_cv (pc := 126) hR (q_rV E (xp1 w) (As := [.int (x1 + r_10)]) (rest := []) (cX5_putTexts_met l w hI N (x1 + r_10) _ σ_9 h) ckX5_putTexts cvX5_putTexts mw245 ⟨rfl, rfl, Nat.le_of_ble_eq_true rfl, Nat.le_of_ble_eq_true rfl⟩ hR (rc1_4 w) rfl hl.1 rfl (Nat.le_of_ble_eq_true rfl) dX5_pack_126) (fun σ_11 H locs h hR => ?_)
        refine lv_aload_n (pc := 129) hx hb dX5_pack_129 rfl (lv_at hl 0 rfl) ?_
        refine q_cv (pc := 130) hR (q_rV E (xp1 w) (As := []) (rest := []) (cX5_keepBits_met l w hI N _ σ_11 h) ckX5_keepBits cvX5_keepBits mw246 ⟨rfl, rfl, Nat.le_of_ble_eq_true rfl, Nat.le_of_ble_eq_true rfl⟩ hR (rc1_4 w) rfl hl.1 rfl (Nat.le_of_ble_eq_true rfl) dX5_pack_130) (fun σ_12 H locs h hR => ?_)
        refine lv_aload_n (pc := 133) hx hb dX5_pack_133 rfl (lv_at hl 0 rfl) ?_
        refine gf1_4_1 (pc := 134) hx hb hts hown hK hR mw247 dX5_pack_134 ?_
        refine lv_iload_n (pc := 137) hx hb dX5_pack_137 rfl (lv_at hl 1 rfl) ?_
        refine lv_iload_n (pc := 138) hx hb dX5_pack_138 rfl (lv_at hl 1 rfl) ?_
        refine lv_iload_n (pc := 139) hx hb dX5_pack_139 rfl (lv_at hl 2 rfl) ?_
        refine lv_iadd (pc := 140) hx hb dX5_pack_140 ?_
        refine q_cv (pc := 141) hR (q_rV E (xp1 w) (As := [.int x1, .int (x1 + x2)]) (rest := []) (cX8_dropIfTouched_met l w hI N x1 (x1 + x2) _ σ_12 h) ckX8_dropIfTouched cvX8_dropIfTouched mw248 ⟨rfl, rfl, Nat.le_of_ble_eq_true rfl, Nat.le_of_ble_eq_true rfl⟩ hR (rc1_2 w) rfl hl.1 rfl (Nat.le_of_ble_eq_true rfl) dX5_pack_141) (fun σ_13 H locs h hR => ?_)
        refine lv_iload_n (pc := 144) hx hb dX5_pack_144 rfl (lv_at hl 3 rfl) ?_
        exact q_iret (pc := 145) E hR h dX5_pack_145
      · have h := h.2 c_7
        refine lv_bipush (pc := 97) (v := (-4)) hx hb dX5_pack_97 (by decide) ?_
        exact q_iret (pc := 99) E hR h dX5_pack_99
    · have h := h.2 c_6
      refine lv_aload_n (pc := 41) hx hb dX5_pack_41 rfl (lv_at hl 0 rfl) ?_
      refine gf1_4_8 (pc := 42) hx hb hts hown hK hR mw231 dX5_pack_42 ?_
      refine lv_iload (pc := 45) hx hb dX5_pack_45 (lv_at hl 4 rfl) ?_
      refine lv_aload_n (pc := 47) hx hb dX5_pack_47 rfl (lv_at hl 0 rfl) ?_
      refine lv_iload (pc := 48) hx hb dX5_pack_48 (lv_at hl 4 rfl) ?_
      refine q_ci (pc := 50) hR (q_rV E (xp1 w) (As := [.int x4]) (rest := [.int x4, .ref (w.2.1 40)]) (cX5_countBits_met l w hI N x4 _ σ h) ckX5_countBits cvX5_countBits mw249 ⟨rfl, rfl, Nat.le_of_ble_eq_true rfl, Nat.le_of_ble_eq_true rfl⟩ hR (rc1_4 w) rfl hl.1 rfl (Nat.le_of_ble_eq_true rfl) dX5_pack_50) (fun r_15 σ_14 H locs h hR => ?_)
      have g_16 := h.1
      have h := h.2
      refine q_iast (pc := 53) hx hb hK hI hR (k := 40) lt1_40 (fun f => (ar1_40 _ f _)) g_16 dX5_pack_53 (fun H locs σ_17 eσ_17 hR => ?_)
      have h := h σ_17 eσ_17
      refine lv_iload_n (pc := 54) hx hb dX5_pack_54 rfl (lv_at hl 3 rfl) ?_
      refine lv_aload_n (pc := 55) hx hb dX5_pack_55 rfl (lv_at hl 0 rfl) ?_
      refine gf1_4_8 (pc := 56) hx hb hts hown hK hR mw231 dX5_pack_56 ?_
      refine lv_iload (pc := 59) hx hb dX5_pack_59 (lv_at hl 4 rfl) ?_
      have g_18 := h.1
      have h := h.2
      refine q_iald (pc := 61) hx hb hK hR (k := 40) lt1_40 (ar1_40 _ _ _) g_18 dX5_pack_61 ?_
      refine lv_iadd (pc := 62) hx hb dX5_pack_62 ?_
      refine lv_topi (pc := 63) (fun v_19 ev_19 => ?_)
      have h := h v_19 ev_19
      refine lv_istore_n (pc := 63) (lv' := [(3, .int v_19), (0, .ref (w.2.1 4)), (1, .int x1), (2, .int x2), (4, .int x4)]) hx hb dX5_pack_63 rfl hl (by decide) rfl (fun ls hl => ?_)
      refine lv_iload_n (pc := 64) hx hb dX5_pack_64 rfl (lv_at hl 3 rfl) ?_
      refine lv_iconst (pc := 65) (v := 1) hx hb dX5_pack_65 (by decide) ?_
      refine lv_aload_n (pc := 66) hx hb dX5_pack_66 rfl (lv_at hl 1 rfl) ?_
      refine gf1_4_8 (pc := 67) hx hb hts hown hK hR mw231 dX5_pack_67 ?_
      refine lv_iload (pc := 70) hx hb dX5_pack_70 (lv_at hl 4 rfl) ?_
      have g_20 := h.1
      have h := h.2
      refine q_iald (pc := 72) hx hb hK hR (k := 40) lt1_40 (ar1_40 _ _ _) g_20 dX5_pack_72 ?_
      refine lv_bipush (pc := 73) (v := 7) hx hb dX5_pack_73 (by decide) ?_
      refine lv_iadd (pc := 75) hx hb dX5_pack_75 ?_
      refine lv_bipush (pc := 76) (v := 8) hx hb dX5_pack_76 (by decide) ?_
      refine lv_idiv (pc := 78) hx hb dX5_pack_78 (by decide) ?_
      refine lv_iadd (pc := 79) hx hb dX5_pack_79 ?_
      refine lv_iadd (pc := 80) hx hb dX5_pack_80 ?_
      refine lv_topi (pc := 81) (fun v_21 ev_21 => ?_)
      have h := h v_21 ev_21
      refine lv_istore_n (pc := 81) (lv' := [(2, .int v_21), (3, .int v_19), (0, .ref (w.2.1 4)), (1, .int x1), (4, .int x4)]) hx hb dX5_pack_81 rfl hl (by decide) rfl (fun ls hl => ?_)
      obtain ⟨v_22, ev_22⟩ : ∃ z : Int32, z = x4 + 1 := ⟨_, rfl⟩
      have h := h v_22 ev_22
      refine lv_iinc (pc := 82) (v := v_22) (lv' := [(4, .int v_22), (2, .int v_21), (3, .int v_19), (0, .ref (w.2.1 4)), (1, .int x1)]) hx hb dX5_pack_82 hl (k := 4) rfl (by rw [ev_22]; rfl) (by decide) rfl (fun ls hl => ?_)
      refine lv_goto (pc := 85) (tgt := 29) hx hb dX5_pack_85 (by decide) ?_
      exact ih v_21 v_19 v_22 σ_17 _ _ _ hR (lv_sub hl [3, 4, 1, 2, 0] rfl) h
def fX5_pack (N : Nat) (x1 : Int32) (Q : Int32 → St → Prop) (σ : St) : Prop := fX5_partTexts N (fun σ_1 => fX5_growTree N (fun σ_2 => fX0_spread N x1 (fun σ_3 => fX0_size N (fun r_5 σ_4 => lo3 (fX5_pack_l29 N x1 Q) N r_5 0 0 σ_4) σ_3) σ_2) σ_1) σ
set_option maxHeartbeats 4000000 in
set_option maxRecDepth 100000 in
theorem bX5_pack_e {p : Program} {e : Env} {s : State} {m : MethodId} {args : Array Value} {below : List Frame} {meth : Method} {c : Code} (l : Launch) (w : Wd) (N : Nat) (Q : Int32 → St → Prop) (E : Cx 223 w (X1 w) cX5_pack 5 RX5 (.code yX5_pack cX5_pack 5 (some .int)) (some .int) p s m args meth c) (x1 : Int32) {σ : St} {H : Heap} {locs : List Loc} {ls : Array Slot} (hR : Rr 223 ev1 w σ s H locs) (hl : lv_has ls 5 [(0, .ref (w.2.1 4)), (1, .int x1)]) (h : fX5_pack N x1 Q σ) : W p l e rmX5_pack s m args below meth c H locs 0 0 (MQ below (va_Qi Q (Rp 223 ev1 w) (Aw 223 w)) args s 0 0 (Aw 223 w)) (F0 m 0 ls []) := by
  obtain ⟨hx, hb, hml, hown, hts, hr, hlk, hK, hI, hX⟩ := id E
  unfold fX5_pack at h
  refine lv_aload_n (pc := 0) hx hb dX5_pack_0 rfl (lv_at hl 0 rfl) ?_
  refine q_cv (pc := 1) hR (q_rV E (xp1 w) (As := []) (rest := []) (cX5_partTexts_met l w hI N _ σ h) ckX5_partTexts cvX5_partTexts mw240 ⟨rfl, rfl, Nat.le_of_ble_eq_true rfl, Nat.le_of_ble_eq_true rfl⟩ hR (rc1_4 w) rfl hl.1 rfl (Nat.le_of_ble_eq_true rfl) dX5_pack_1) (fun σ_1 H locs h hR => ?_)
  refine lv_aload_n (pc := 4) hx hb dX5_pack_4 rfl (lv_at hl 0 rfl) ?_
  refine q_cv (pc := 5) hR (q_rV E (xp1 w) (As := []) (rest := []) (cX5_growTree_met l w hI N _ σ_1 h) ckX5_growTree cvX5_growTree mw241 ⟨rfl, rfl, Nat.le_of_ble_eq_true rfl, Nat.le_of_ble_eq_true rfl⟩ hR (rc1_4 w) rfl hl.1 rfl (Nat.le_of_ble_eq_true rfl) dX5_pack_5) (fun σ_2 H locs h hR => ?_)
  refine lv_aload_n (pc := 8) hx hb dX5_pack_8 rfl (lv_at hl 0 rfl) ?_
  refine gf1_4_5 (pc := 9) hx hb hts hown hK hR mw204 dX5_pack_9 ?_
  refine lv_iload_n (pc := 12) hx hb dX5_pack_12 rfl (lv_at hl 1 rfl) ?_
  refine q_cv (pc := 13) hR (q_rV E (xp1 w) (As := [.int x1]) (rest := []) (cX0_spread_met l w hI N x1 _ σ_2 h) ckX0_spread cvX0_spread mw242 ⟨rfl, rfl, Nat.le_of_ble_eq_true rfl, Nat.le_of_ble_eq_true rfl⟩ hR (rc1_9 w) rfl hl.1 rfl (Nat.le_of_ble_eq_true rfl) dX5_pack_13) (fun σ_3 H locs h hR => ?_)
  refine lv_aload_n (pc := 16) hx hb dX5_pack_16 rfl (lv_at hl 0 rfl) ?_
  refine gf1_4_5 (pc := 17) hx hb hts hown hK hR mw204 dX5_pack_17 ?_
  refine q_ci (pc := 20) hR (q_rV E (xp1 w) (As := []) (rest := []) (cX0_size_met l w hI N _ σ_3 h) ckX0_size cvX0_size mw243 ⟨rfl, rfl, Nat.le_of_ble_eq_true rfl, Nat.le_of_ble_eq_true rfl⟩ hR (rc1_9 w) rfl hl.1 rfl (Nat.le_of_ble_eq_true rfl) dX5_pack_20) (fun r_5 σ_4 H locs h hR => ?_)
  refine lv_istore_n (pc := 23) (lv' := [(2, .int r_5), (0, .ref (w.2.1 4)), (1, .int x1)]) hx hb dX5_pack_23 rfl hl (by decide) rfl (fun ls hl => ?_)
  refine lv_iconst (pc := 24) (v := 0) hx hb dX5_pack_24 (by decide) ?_
  refine lv_istore_n (pc := 25) (lv' := [(3, .int 0), (2, .int r_5), (0, .ref (w.2.1 4)), (1, .int x1)]) hx hb dX5_pack_25 rfl hl (by decide) rfl (fun ls hl => ?_)
  refine lv_iconst (pc := 26) (v := 0) hx hb dX5_pack_26 (by decide) ?_
  refine lv_istore (pc := 27) (lv' := [(4, .int 0), (3, .int 0), (2, .int r_5), (0, .ref (w.2.1 4)), (1, .int x1)]) hx hb dX5_pack_27 hl (by decide) rfl (fun ls hl => ?_)
  exact bX5_pack_29 l w N Q E x1 N r_5 0 0 σ_4 _ _ _ hR (lv_sub hl [3, 4, 2, 1, 0] rfl) h
theorem cX5_pack_met (l : Launch) (w : Wd) (hI : Ij 223 w) (N : Nat) (x1 : Int32) (Q : Int32 → St → Prop) (σ : St) (h : fX5_pack N x1 Q σ) : Met l yX5_pack (.code yX5_pack cX5_pack 5 (some .int) :: Uw) rmX5_pack (va_Pc [.ref (w.2.1 4), .int x1] (fun U => Rp 223 ev1 w σ U ∧ (X1 w) U)) (va_Qi Q (Rp 223 ev1 w) (Aw 223 w)) 0 0 (Aw 223 w) :=
  q_met (by decide) (Nat.le_of_ble_eq_true rfl) hI (fun p e s m below meth c ls E hl hR => bX5_pack_e l w N Q E x1 hR hl h)
-- GlulxStrings.tree(I)I
abbrev rmX11_tree : Room := { frames := 6, cells := 0, slots := 0, locals := 139 }
def fX11_tree (N : Nat) (x1 : Int32) (Q : Int32 → St → Prop) (σ : St) : Prop := ((0 ≤ x1 → (((σ.1 7 4) = 0 → Q (-3) σ) ∧ (¬ (σ.1 7 4) = 0 → fX5_pack N x1 (fun r_4 σ_3 => Q r_4 σ_3) σ))) ∧ (¬ 0 ≤ x1 → Q (-2) σ))
set_option maxHeartbeats 4000000 in
set_option maxRecDepth 100000 in
theorem bX11_tree_e {p : Program} {e : Env} {s : State} {m : MethodId} {args : Array Value} {below : List Frame} {meth : Method} {c : Code} (l : Launch) (w : Wd) (N : Nat) (Q : Int32 → St → Prop) (E : Cx 223 w (X1 w) cX11_tree 2 RX11 (.code yX11_tree cX11_tree 2 (some .int)) (some .int) p s m args meth c) (x1 : Int32) {σ : St} {H : Heap} {locs : List Loc} {ls : Array Slot} (hR : Rr 223 ev1 w σ s H locs) (hl : lv_has ls 2 [(0, .ref (w.2.1 0)), (1, .int x1)]) (h : fX11_tree N x1 Q σ) : W p l e rmX11_tree s m args below meth c H locs 0 0 (MQ below (va_Qi Q (Rp 223 ev1 w) (Aw 223 w)) args s 0 0 (Aw 223 w)) (F0 m 0 ls []) := by
  obtain ⟨hx, hb, hml, hown, hts, hr, hlk, hK, hI, hX⟩ := id E
  unfold fX11_tree at h
  refine lv_iload_n (pc := 0) hx hb dX11_tree_0 rfl (lv_at hl 1 rfl) ?_
  refine lv_if_ge (pc := 1) (tgt := 7) hx hb dX11_tree_1 (by decide) (fun c_1 => ?_) (fun c_1 => ?_)
  · have h := h.1 c_1
    refine lv_aload_n (pc := 7) hx hb dX11_tree_7 rfl (lv_at hl 0 rfl) ?_
    refine gf1_0_3 (pc := 8) hx hb hts hown hK hR mw152 dX11_tree_8 ?_
    refine gf1_4_3 (pc := 11) hx hb hts hown hK hR mw155 dX11_tree_11 ?_
    refine gf1_7_4 (pc := 14) hx hb hts hown hK hR mw156 dX11_tree_14 ?_
    refine lv_if_ne (pc := 17) (tgt := 23) hx hb dX11_tree_17 (by decide) (fun c_2 => ?_) (fun c_2 => ?_)
    · have h := h.2 c_2
      refine lv_aload_n (pc := 23) hx hb dX11_tree_23 rfl (lv_at hl 0 rfl) ?_
      refine gf1_0_3 (pc := 24) hx hb hts hown hK hR mw152 dX11_tree_24 ?_
      refine lv_iload_n (pc := 27) hx hb dX11_tree_27 rfl (lv_at hl 1 rfl) ?_
      refine q_ci (pc := 28) hR (q_rV E (xp1 w) (As := [.int x1]) (rest := []) (cX5_pack_met l w hI N x1 _ σ h) ckX5_pack cvX5_pack mw250 ⟨rfl, rfl, Nat.le_of_ble_eq_true rfl, Nat.le_of_ble_eq_true rfl⟩ hR (rc1_4 w) rfl hl.1 rfl (Nat.le_of_ble_eq_true rfl) dX11_tree_28) (fun r_4 σ_3 H locs h hR => ?_)
      exact q_iret (pc := 31) E hR h dX11_tree_31
    · have h := h.1 c_2
      refine lv_bipush (pc := 20) (v := (-3)) hx hb dX11_tree_20 (by decide) ?_
      exact q_iret (pc := 22) E hR h dX11_tree_22
  · have h := h.2 c_1
    refine lv_bipush (pc := 4) (v := (-2)) hx hb dX11_tree_4 (by decide) ?_
    exact q_iret (pc := 6) E hR h dX11_tree_6
theorem cX11_tree_met (l : Launch) (w : Wd) (hI : Ij 223 w) (N : Nat) (x1 : Int32) (Q : Int32 → St → Prop) (σ : St) (h : fX11_tree N x1 Q σ) : Met l yX11_tree (.code yX11_tree cX11_tree 2 (some .int) :: Uw) rmX11_tree (va_Pc [.ref (w.2.1 0), .int x1] (fun U => Rp 223 ev1 w σ U ∧ (X1 w) U)) (va_Qi Q (Rp 223 ev1 w) (Aw 223 w)) 0 0 (Aw 223 w) :=
  q_met (by decide) (Nat.le_of_ble_eq_true rfl) hI (fun p e s m below meth c ls E hl hR => bX11_tree_e l w N Q E x1 hR hl h)
-- GlulxStrings.laid(II)I
abbrev rmX11_laid : Room := { frames := 3, cells := 0, slots := 0, locals := 76 }
def fX11_laid (N : Nat) (x1 : Int32) (x2 : Int32) (Q : Int32 → St → Prop) (σ : St) : Prop := ((x1 < 0 → Q (-2) σ) ∧ (¬ x1 < 0 → ((x1 < (σ.1 7 4) → ((x2 = 0 → vp_in x1 20 ∧ Q (σ.1 25 x1.toNatClampNeg) σ) ∧ (¬ x2 = 0 → ((x2 = 1 → vp_in x1 20 ∧ Q (σ.1 26 x1.toNatClampNeg) σ) ∧ (¬ x2 = 1 → ((x2 = 2 → vp_in x1 20 ∧ vp_in x1 20 ∧ fX6_part N (183 + x1.toNatClampNeg) (σ.1 24 x1.toNatClampNeg) (fun r_11 σ_10 => Q r_11 σ_10) σ) ∧ (¬ x2 = 2 → Q (-2) σ))))))) ∧ (¬ x1 < (σ.1 7 4) → Q (-2) σ))))
set_option maxHeartbeats 4000000 in
set_option maxRecDepth 100000 in
theorem bX11_laid_e {p : Program} {e : Env} {s : State} {m : MethodId} {args : Array Value} {below : List Frame} {meth : Method} {c : Code} (l : Launch) (w : Wd) (N : Nat) (Q : Int32 → St → Prop) (E : Cx 223 w (X1 w) cX11_laid 3 RX11 (.code yX11_laid cX11_laid 3 (some .int)) (some .int) p s m args meth c) (x1 : Int32) (x2 : Int32) {σ : St} {H : Heap} {locs : List Loc} {ls : Array Slot} (hR : Rr 223 ev1 w σ s H locs) (hl : lv_has ls 3 [(0, .ref (w.2.1 0)), (1, .int x1), (2, .int x2)]) (h : fX11_laid N x1 x2 Q σ) : W p l e rmX11_laid s m args below meth c H locs 0 0 (MQ below (va_Qi Q (Rp 223 ev1 w) (Aw 223 w)) args s 0 0 (Aw 223 w)) (F0 m 0 ls []) := by
  obtain ⟨hx, hb, hml, hown, hts, hr, hlk, hK, hI, hX⟩ := id E
  unfold fX11_laid at h
  refine lv_iload_n (pc := 0) hx hb dX11_laid_0 rfl (lv_at hl 1 rfl) ?_
  refine lv_if_lt (pc := 1) (tgt := 18) hx hb dX11_laid_1 (by decide) (fun c_1 => ?_) (fun c_1 => ?_)
  · have h := h.1 c_1
    refine lv_bipush (pc := 18) (v := (-2)) hx hb dX11_laid_18 (by decide) ?_
    exact q_iret (pc := 20) E hR h dX11_laid_20
  · have h := h.2 c_1
    refine lv_iload_n (pc := 4) hx hb dX11_laid_4 rfl (lv_at hl 1 rfl) ?_
    refine lv_aload_n (pc := 5) hx hb dX11_laid_5 rfl (lv_at hl 0 rfl) ?_
    refine gf1_0_3 (pc := 6) hx hb hts hown hK hR mw152 dX11_laid_6 ?_
    refine gf1_4_3 (pc := 9) hx hb hts hown hK hR mw155 dX11_laid_9 ?_
    refine gf1_7_4 (pc := 12) hx hb hts hown hK hR mw156 dX11_laid_12 ?_
    refine lv_icmp_lt (pc := 15) (tgt := 21) hx hb dX11_laid_15 (by decide) (fun c_2 => ?_) (fun c_2 => ?_)
    · have h := h.1 c_2
      refine lv_iload_n (pc := 21) hx hb dX11_laid_21 rfl (lv_at hl 2 rfl) ?_
      by_cases c_3 : x2 = 0
      · refine lv_tableIn (pc := 22) (tgt := 48) (off := 26) hx hb dX11_laid_22 (by rw [c_3]; decide) (by rw [c_3]; decide) (by rw [c_3]; rfl) (by decide) ?_
        have h := h.1 c_3
        refine lv_aload_n (pc := 48) hx hb dX11_laid_48 rfl (lv_at hl 0 rfl) ?_
        refine gf1_0_3 (pc := 49) hx hb hts hown hK hR mw152 dX11_laid_49 ?_
        refine gf1_4_3 (pc := 52) hx hb hts hown hK hR mw155 dX11_laid_52 ?_
        refine gf1_7_2 (pc := 55) hx hb hts hown hK hR mw251 dX11_laid_55 ?_
        refine lv_iload_n (pc := 58) hx hb dX11_laid_58 rfl (lv_at hl 1 rfl) ?_
        have g_4 := h.1
        have h := h.2
        refine q_iald (pc := 59) hx hb hK hR (k := 25) lt1_25 (ar1_25 _ _ _) g_4 dX11_laid_59 ?_
        exact q_iret (pc := 60) E hR h dX11_laid_60
      replace h := h.2 c_3
      by_cases c_5 : x2 = 1
      · refine lv_tableIn (pc := 22) (tgt := 61) (off := 39) hx hb dX11_laid_22 (by rw [c_5]; decide) (by rw [c_5]; decide) (by rw [c_5]; rfl) (by decide) ?_
        have h := h.1 c_5
        refine lv_aload_n (pc := 61) hx hb dX11_laid_61 rfl (lv_at hl 0 rfl) ?_
        refine gf1_0_3 (pc := 62) hx hb hts hown hK hR mw152 dX11_laid_62 ?_
        refine gf1_4_3 (pc := 65) hx hb hts hown hK hR mw155 dX11_laid_65 ?_
        refine gf1_7_3 (pc := 68) hx hb hts hown hK hR mw252 dX11_laid_68 ?_
        refine lv_iload_n (pc := 71) hx hb dX11_laid_71 rfl (lv_at hl 1 rfl) ?_
        have g_6 := h.1
        have h := h.2
        refine q_iald (pc := 72) hx hb hK hR (k := 26) lt1_26 (ar1_26 _ _ _) g_6 dX11_laid_72 ?_
        exact q_iret (pc := 73) E hR h dX11_laid_73
      replace h := h.2 c_5
      by_cases c_7 : x2 = 2
      · refine lv_tableIn (pc := 22) (tgt := 74) (off := 52) hx hb dX11_laid_22 (by rw [c_7]; decide) (by rw [c_7]; decide) (by rw [c_7]; rfl) (by decide) ?_
        have h := h.1 c_7
        refine lv_aload_n (pc := 74) hx hb dX11_laid_74 rfl (lv_at hl 0 rfl) ?_
        refine gf1_0_3 (pc := 75) hx hb hts hown hK hR mw152 dX11_laid_75 ?_
        refine gf1_4_4 (pc := 78) hx hb hts hown hK hR mw180 dX11_laid_78 ?_
        refine lv_aload_n (pc := 81) hx hb dX11_laid_81 rfl (lv_at hl 0 rfl) ?_
        refine gf1_0_3 (pc := 82) hx hb hts hown hK hR mw152 dX11_laid_82 ?_
        refine gf1_4_3 (pc := 85) hx hb hts hown hK hR mw155 dX11_laid_85 ?_
        refine gf1_7_0 (pc := 88) hx hb hts hown hK hR mw253 dX11_laid_88 ?_
        refine lv_iload_n (pc := 91) hx hb dX11_laid_91 rfl (lv_at hl 1 rfl) ?_
        have g_8 := h.1
        have h := h.2
        refine q_aald (pc := 92) hx hb hK hR (k := 23) lt1_23 5 rfl rfl (ar1_23 _ _ _) g_8 dX11_laid_92 ?_
        refine lv_aload_n (pc := 93) hx hb dX11_laid_93 rfl (lv_at hl 0 rfl) ?_
        refine gf1_0_3 (pc := 94) hx hb hts hown hK hR mw152 dX11_laid_94 ?_
        refine gf1_4_3 (pc := 97) hx hb hts hown hK hR mw155 dX11_laid_97 ?_
        refine gf1_7_1 (pc := 100) hx hb hts hown hK hR mw254 dX11_laid_100 ?_
        refine lv_iload_n (pc := 103) hx hb dX11_laid_103 rfl (lv_at hl 1 rfl) ?_
        have g_9 := h.1
        have h := h.2
        refine q_iald (pc := 104) hx hb hK hR (k := 24) lt1_24 (ar1_24 _ _ _) g_9 dX11_laid_104 ?_
        refine q_ci (pc := 105) hR (q_rV E (xp1 w) (As := [.ref (w.2.1 (183 + x1.toNatClampNeg)), .int (σ.1 24 x1.toNatClampNeg)]) (rest := []) (cX6_part_met l w hI N (183 + x1.toNatClampNeg) (σ.1 24 x1.toNatClampNeg) (r120_in3 g_8) _ σ h) ckX6_part cvX6_part mw181 ⟨rfl, rfl, Nat.le_of_ble_eq_true rfl, Nat.le_of_ble_eq_true rfl⟩ hR (rc1_8 w) rfl hl.1 rfl (Nat.le_of_ble_eq_true rfl) dX11_laid_105) (fun r_11 σ_10 H locs h hR => ?_)
        exact q_iret (pc := 108) E hR h dX11_laid_108
      replace h := h.2 c_7
      have hD : W p l e rmX11_laid s m args below meth c H locs 0 0 (MQ below (va_Qi Q (Rp 223 ev1 w) (Aw 223 w)) args s 0 0 (Aw 223 w)) (F0 m 109 ls []) := by
        refine lv_bipush (pc := 109) (v := (-2)) hx hb dX11_laid_109 (by decide) ?_
        exact q_iret (pc := 111) E hR h dX11_laid_111
      have nc_3 := ne_i (n := 0) (by decide) c_3
      have nc_5 := ne_i (n := 1) (by decide) c_5
      have nc_7 := ne_i (n := 2) (by decide) c_7
      exact lv_tableOut (pc := 22) (tgt := 109) hx hb dX11_laid_22 (by omega) (by decide) hD
    · have h := h.2 c_2
      refine lv_bipush (pc := 18) (v := (-2)) hx hb dX11_laid_18 (by decide) ?_
      exact q_iret (pc := 20) E hR h dX11_laid_20
theorem cX11_laid_met (l : Launch) (w : Wd) (hI : Ij 223 w) (N : Nat) (x1 : Int32) (x2 : Int32) (Q : Int32 → St → Prop) (σ : St) (h : fX11_laid N x1 x2 Q σ) : Met l yX11_laid (.code yX11_laid cX11_laid 3 (some .int) :: Uw) rmX11_laid (va_Pc [.ref (w.2.1 0), .int x1, .int x2] (fun U => Rp 223 ev1 w σ U ∧ (X1 w) U)) (va_Qi Q (Rp 223 ev1 w) (Aw 223 w)) 0 0 (Aw 223 w) :=
  q_met (by decide) (Nat.le_of_ble_eq_true rfl) hI (fun p e s m below meth c ls E hl hR => bX11_laid_e l w N Q E x1 x2 hR hl h)
-- GlulxStrings.bits(I)I
abbrev rmX11_bits : Room := { frames := 0, cells := 0, slots := 0, locals := 0 }
def fX11_bits (N : Nat) (x1 : Int32) (Q : Int32 → St → Prop) (σ : St) : Prop := ((x1 = (-1) → Q (σ.1 4 11) σ) ∧ (¬ x1 = (-1) → ((x1 < 0 → Q (-2) σ) ∧ (¬ x1 < 0 → ((x1 < (σ.1 6 5) → vp_in x1 60 ∧ Q (σ.1 22 x1.toNatClampNeg) σ) ∧ (¬ x1 < (σ.1 6 5) → Q (-2) σ))))))
set_option maxHeartbeats 4000000 in
set_option maxRecDepth 100000 in
theorem bX11_bits_e {p : Program} {e : Env} {s : State} {m : MethodId} {args : Array Value} {below : List Frame} {meth : Method} {c : Code} (l : Launch) (w : Wd) (N : Nat) (Q : Int32 → St → Prop) (E : Cx 223 w (X1 w) cX11_bits 2 RX11 (.code yX11_bits cX11_bits 2 (some .int)) (some .int) p s m args meth c) (x1 : Int32) {σ : St} {H : Heap} {locs : List Loc} {ls : Array Slot} (hR : Rr 223 ev1 w σ s H locs) (hl : lv_has ls 2 [(0, .ref (w.2.1 0)), (1, .int x1)]) (h : fX11_bits N x1 Q σ) : W p l e rmX11_bits s m args below meth c H locs 0 0 (MQ below (va_Qi Q (Rp 223 ev1 w) (Aw 223 w)) args s 0 0 (Aw 223 w)) (F0 m 0 ls []) := by
  obtain ⟨hx, hb, hml, hown, hts, hr, hlk, hK, hI, hX⟩ := id E
  unfold fX11_bits at h
  refine lv_iload_n (pc := 0) hx hb dX11_bits_0 rfl (lv_at hl 1 rfl) ?_
  refine lv_iconst (pc := 1) (v := (-1)) hx hb dX11_bits_1 (by decide) ?_
  refine lv_icmp_ne (pc := 2) (tgt := 13) hx hb dX11_bits_2 (by decide) (fun c_1 => ?_) (fun c_1 => ?_)
  · have h := h.2 c_1
    refine lv_iload_n (pc := 13) hx hb dX11_bits_13 rfl (lv_at hl 1 rfl) ?_
    refine lv_if_lt (pc := 14) (tgt := 31) hx hb dX11_bits_14 (by decide) (fun c_2 => ?_) (fun c_2 => ?_)
    · have h := h.1 c_2
      refine lv_bipush (pc := 31) (v := (-2)) hx hb dX11_bits_31 (by decide) ?_
      exact q_iret (pc := 33) E hR h dX11_bits_33
    · have h := h.2 c_2
      refine lv_iload_n (pc := 17) hx hb dX11_bits_17 rfl (lv_at hl 1 rfl) ?_
      refine lv_aload_n (pc := 18) hx hb dX11_bits_18 rfl (lv_at hl 0 rfl) ?_
      refine gf1_0_3 (pc := 19) hx hb hts hown hK hR mw152 dX11_bits_19 ?_
      refine gf1_4_2 (pc := 22) hx hb hts hown hK hR mw153 dX11_bits_22 ?_
      refine gf1_6_5 (pc := 25) hx hb hts hown hK hR mw154 dX11_bits_25 ?_
      refine lv_icmp_lt (pc := 28) (tgt := 34) hx hb dX11_bits_28 (by decide) (fun c_3 => ?_) (fun c_3 => ?_)
      · have h := h.1 c_3
        refine lv_aload_n (pc := 34) hx hb dX11_bits_34 rfl (lv_at hl 0 rfl) ?_
        refine gf1_0_3 (pc := 35) hx hb hts hown hK hR mw152 dX11_bits_35 ?_
        refine gf1_4_2 (pc := 38) hx hb hts hown hK hR mw153 dX11_bits_38 ?_
        refine gf1_6_4 (pc := 41) hx hb hts hown hK hR mw255 dX11_bits_41 ?_
        refine lv_iload_n (pc := 44) hx hb dX11_bits_44 rfl (lv_at hl 1 rfl) ?_
        have g_4 := h.1
        have h := h.2
        refine q_iald (pc := 45) hx hb hK hR (k := 22) lt1_22 (ar1_22 _ _ _) g_4 dX11_bits_45 ?_
        exact q_iret (pc := 46) E hR h dX11_bits_46
      · have h := h.2 c_3
        refine lv_bipush (pc := 31) (v := (-2)) hx hb dX11_bits_31 (by decide) ?_
        exact q_iret (pc := 33) E hR h dX11_bits_33
  · have h := h.1 c_1
    refine lv_aload_n (pc := 5) hx hb dX11_bits_5 rfl (lv_at hl 0 rfl) ?_
    refine gf1_0_3 (pc := 6) hx hb hts hown hK hR mw152 dX11_bits_6 ?_
    refine gf1_4_11 (pc := 9) hx hb hts hown hK hR mw256 dX11_bits_9 ?_
    exact q_iret (pc := 12) E hR h dX11_bits_12
theorem cX11_bits_met (l : Launch) (w : Wd) (hI : Ij 223 w) (N : Nat) (x1 : Int32) (Q : Int32 → St → Prop) (σ : St) (h : fX11_bits N x1 Q σ) : Met l yX11_bits (.code yX11_bits cX11_bits 2 (some .int) :: Uw) rmX11_bits (va_Pc [.ref (w.2.1 0), .int x1] (fun U => Rp 223 ev1 w σ U ∧ (X1 w) U)) (va_Qi Q (Rp 223 ev1 w) (Aw 223 w)) 0 0 (Aw 223 w) :=
  q_met (by decide) (Nat.le_of_ble_eq_true rfl) hI (fun p e s m below meth c ls E hl hR => bX11_bits_e l w N Q E x1 hR hl h)
-- GlulxStrings.forget()I
abbrev rmX11_forget : Room := { frames := 0, cells := 0, slots := 0, locals := 0 }
def fX11_forget (N : Nat) (Q : Int32 → St → Prop) (σ : St) : Prop := ∀ v_1 : Int32, v_1 = σ.1 6 5 → ∀ σ_2 : St, σ_2 = u1 σ 6 5 0 → ∀ σ_3 : St, σ_3 = u1 σ_2 7 4 0 → Q v_1 σ_3
set_option maxHeartbeats 4000000 in
set_option maxRecDepth 100000 in
theorem bX11_forget_e {p : Program} {e : Env} {s : State} {m : MethodId} {args : Array Value} {below : List Frame} {meth : Method} {c : Code} (l : Launch) (w : Wd) (N : Nat) (Q : Int32 → St → Prop) (E : Cx 223 w (X1 w) cX11_forget 2 RX11 (.code yX11_forget cX11_forget 2 (some .int)) (some .int) p s m args meth c) {σ : St} {H : Heap} {locs : List Loc} {ls : Array Slot} (hR : Rr 223 ev1 w σ s H locs) (hl : lv_has ls 2 [(0, .ref (w.2.1 0))]) (h : fX11_forget N Q σ) : W p l e rmX11_forget s m args below meth c H locs 0 0 (MQ below (va_Qi Q (Rp 223 ev1 w) (Aw 223 w)) args s 0 0 (Aw 223 w)) (F0 m 0 ls []) := by
  obtain ⟨hx, hb, hml, hown, hts, hr, hlk, hK, hI, hX⟩ := id E
  unfold fX11_forget at h
  refine lv_aload_n (pc := 0) hx hb dX11_forget_0 rfl (lv_at hl 0 rfl) ?_
  refine gf1_0_3 (pc := 1) hx hb hts hown hK hR mw152 dX11_forget_1 ?_
  refine gf1_4_2 (pc := 4) hx hb hts hown hK hR mw153 dX11_forget_4 ?_
  refine gf1_6_5 (pc := 7) hx hb hts hown hK hR mw154 dX11_forget_7 ?_
  refine lv_topi (pc := 10) (fun v_1 ev_1 => ?_)
  have h := h v_1 ev_1
  refine lv_istore_n (pc := 10) (lv' := [(1, .int v_1), (0, .ref (w.2.1 0))]) hx hb dX11_forget_10 rfl hl (by decide) rfl (fun ls hl => ?_)
  refine lv_aload_n (pc := 11) hx hb dX11_forget_11 rfl (lv_at hl 1 rfl) ?_
  refine gf1_0_3 (pc := 12) hx hb hts hown hK hR mw152 dX11_forget_12 ?_
  refine gf1_4_2 (pc := 15) hx hb hts hown hK hR mw153 dX11_forget_15 ?_
  refine lv_iconst (pc := 18) (v := 0) hx hb dX11_forget_18 (by decide) ?_
  refine pf1_6_5 (pc := 19) hx hb hts hown hK hI hR mw154 dX11_forget_19 (fun H locs σ_2 eσ_2 hR => ?_)
  have h := h σ_2 eσ_2
  refine lv_aload_n (pc := 22) hx hb dX11_forget_22 rfl (lv_at hl 1 rfl) ?_
  refine gf1_0_3 (pc := 23) hx hb hts hown hK hR mw152 dX11_forget_23 ?_
  refine gf1_4_3 (pc := 26) hx hb hts hown hK hR mw155 dX11_forget_26 ?_
  refine lv_iconst (pc := 29) (v := 0) hx hb dX11_forget_29 (by decide) ?_
  refine pf1_7_4 (pc := 30) hx hb hts hown hK hI hR mw156 dX11_forget_30 (fun H locs σ_3 eσ_3 hR => ?_)
  have h := h σ_3 eσ_3
  refine lv_iload_n (pc := 33) hx hb dX11_forget_33 rfl (lv_at hl 0 rfl) ?_
  exact q_iret (pc := 34) E hR h dX11_forget_34
theorem cX11_forget_met (l : Launch) (w : Wd) (hI : Ij 223 w) (N : Nat) (Q : Int32 → St → Prop) (σ : St) (h : fX11_forget N Q σ) : Met l yX11_forget (.code yX11_forget cX11_forget 2 (some .int) :: Uw) rmX11_forget (va_Pc [.ref (w.2.1 0)] (fun U => Rp 223 ev1 w σ U ∧ (X1 w) U)) (va_Qi Q (Rp 223 ev1 w) (Aw 223 w)) 0 0 (Aw 223 w) :=
  q_met (by decide) (Nat.le_of_ble_eq_true rfl) hI (fun p e s m below meth c ls E hl hR => bX11_forget_e l w N Q E hR hl h)
