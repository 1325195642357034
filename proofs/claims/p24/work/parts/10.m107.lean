-- GlulxStrings.sign(I)I
abbrev rmX11_sign : Room := { frames := 0, cells := 0, slots := 0, locals := 0 }
def fX11_sign (N : Nat) (x1 : Int32) (Q : Int32 → St → Prop) (σ : St) : Prop := (((σ.1 0 7) < 120 → vp_in (σ.1 0 7) 120 ∧ ∀ σ_3 : St, σ_3 = u1 σ 11 (σ.1 0 7).toNatClampNeg x1 → ∀ v_4 : Int32, v_4 = (σ_3.1 0 7) + 1 → ∀ σ_5 : St, σ_5 = u1 σ_3 0 7 v_4 → Q (σ_5.1 0 7) σ_5) ∧ (¬ (σ.1 0 7) < 120 → Q (-4) σ))
set_option maxHeartbeats 4000000 in
set_option maxRecDepth 100000 in
theorem bX11_sign_e {p : Program} {e : Env} {s : State} {m : MethodId} {args : Array Value} {below : List Frame} {meth : Method} {c : Code} (l : Launch) (w : Wd) (N : Nat) (Q : Int32 → St → Prop) (E : Cx 223 w (X1 w) cX11_sign 2 RX11 (.code yX11_sign cX11_sign 2 (some .int)) (some .int) p s m args meth c) (x1 : Int32) {σ : St} {H : Heap} {locs : List Loc} {ls : Array Slot} (hR : Rr 223 ev1 w σ s H locs) (hl : lv_has ls 2 [(0, .ref (w.2.1 0)), (1, .int x1)]) (h : fX11_sign N x1 Q σ) : W p l e rmX11_sign s m args below meth c H locs 0 0 (MQ below (va_Qi Q (Rp 223 ev1 w) (Aw 223 w)) args s 0 0 (Aw 223 w)) (F0 m 0 ls []) := by
  obtain ⟨hx, hb, hml, hown, hts, hr, hlk, hK, hI, hX⟩ := id E
  unfold fX11_sign at h
  refine lv_aload_n (pc := 0) hx hb dX11_sign_0 rfl (lv_at hl 0 rfl) ?_
  refine gf1_0_7 (pc := 1) hx hb hts hown hK hR mw131 dX11_sign_1 ?_
  refine lv_bipush (pc := 4) (v := 120) hx hb dX11_sign_4 (by decide) ?_
  refine lv_icmp_lt (pc := 6) (tgt := 12) hx hb dX11_sign_6 (by decide) (fun c_1 => ?_) (fun c_1 => ?_)
  · have h := h.1 c_1
    refine lv_aload_n (pc := 12) hx hb dX11_sign_12 rfl (lv_at hl 0 rfl) ?_
    refine gf1_0_5 (pc := 13) hx hb hts hown hK hR mw132 dX11_sign_13 ?_
    refine lv_aload_n (pc := 16) hx hb dX11_sign_16 rfl (lv_at hl 0 rfl) ?_
    refine gf1_0_7 (pc := 17) hx hb hts hown hK hR mw131 dX11_sign_17 ?_
    refine lv_iload_n (pc := 20) hx hb dX11_sign_20 rfl (lv_at hl 1 rfl) ?_
    have g_2 := h.1
    have h := h.2
    refine q_iast (pc := 21) hx hb hK hI hR (k := 11) lt1_11 (fun f => (ar1_11 _ f _)) g_2 dX11_sign_21 (fun H locs σ_3 eσ_3 hR => ?_)
    have h := h σ_3 eσ_3
    refine lv_aload_n (pc := 22) hx hb dX11_sign_22 rfl (lv_at hl 0 rfl) ?_
    refine lv_dup (pc := 23) hx hb dX11_sign_23 rfl ?_
    refine gf1_0_7 (pc := 24) hx hb hts hown hK hR mw131 dX11_sign_24 ?_
    refine lv_iconst (pc := 27) (v := 1) hx hb dX11_sign_27 (by decide) ?_
    refine lv_iadd (pc := 28) hx hb dX11_sign_28 ?_
    refine lv_topi (pc := 29) (fun v_4 ev_4 => ?_)
    have h := h v_4 ev_4
    refine pf1_0_7 (pc := 29) hx hb hts hown hK hI hR mw131 dX11_sign_29 (fun H locs σ_5 eσ_5 hR => ?_)
    have h := h σ_5 eσ_5
    refine lv_aload_n (pc := 32) hx hb dX11_sign_32 rfl (lv_at hl 0 rfl) ?_
    refine gf1_0_7 (pc := 33) hx hb hts hown hK hR mw131 dX11_sign_33 ?_
    exact q_iret (pc := 36) E hR h dX11_sign_36
  · have h := h.2 c_1
    refine lv_bipush (pc := 9) (v := (-4)) hx hb dX11_sign_9 (by decide) ?_
    exact q_iret (pc := 11) E hR h dX11_sign_11
theorem cX11_sign_met (l : Launch) (w : Wd) (hI : Ij 223 w) (N : Nat) (x1 : Int32) (Q : Int32 → St → Prop) (σ : St) (h : fX11_sign N x1 Q σ) : Met l yX11_sign (.code yX11_sign cX11_sign 2 (some .int) :: Uw) rmX11_sign (va_Pc [.ref (w.2.1 0), .int x1] (fun U => Rp 223 ev1 w σ U ∧ (X1 w) U)) (va_Qi Q (Rp 223 ev1 w) (Aw 223 w)) 0 0 (Aw 223 w) :=
  q_met (by decide) (Nat.le_of_ble_eq_true rfl) hI (fun p e s m below meth c ls E hl hR => bX11_sign_e l w N Q E x1 hR hl h)
-- GlulxStrings$Pieces.areSigns([IIZ)Z
abbrev rmX7_areSigns : Room := { frames := 0, cells := 0, slots := 0, locals := 0 }
def fX7_areSigns_j40 (N : Nat) (r2 : Int32 → St → Prop) (k0 : Nat) (x1 : Int32) (x2 : Int32) (x3 : Int32) (Q : Int32 → St → Prop) (σ : St) : Prop := ∀ v_6 : Int32, v_6 = x3 + 1 → r2 v_6 σ
set_option maxHeartbeats 4000000 in
set_option maxRecDepth 100000 in
theorem bX7_areSigns_40 {p : Program} {e : Env} {s : State} {m : MethodId} {args : Array Value} {below : List Frame} {meth : Method} {c : Code} (l : Launch) (w : Wd) (N : Nat) (Q : Int32 → St → Prop) (E : Cx 223 w (X1 w) cX7_areSigns 4 RX7 (.code yX7_areSigns cX7_areSigns 4 (some .boolean)) (some .boolean) p s m args meth c) (k0 : Nat) (x1 : Int32) (x2 : Int32) (x3 : Int32) (hk0 : r120 k0) (r2 : Int32 → St → Prop) (hr2 : ∀ (x3 : Int32) (σ : St) (H : Heap) (locs : List Loc) (ls : Array Slot), Rr 223 ev1 w σ s H locs → lv_has ls 4 [(0, .ref (w.2.1 k0)), (1, .int x1), (2, .int x2), (3, .int x3)] → r2 x3 σ → W p l e rmX7_areSigns s m args below meth c H locs 0 0 (MQ below (va_Qi Q (Rp 223 ev1 w) (Aw 223 w)) args s 0 0 (Aw 223 w)) (F0 m 2 ls [])) {σ : St} {H : Heap} {locs : List Loc} {ls : Array Slot} (hR : Rr 223 ev1 w σ s H locs) (hl : lv_has ls 4 [(0, .ref (w.2.1 k0)), (1, .int x1), (2, .int x2), (3, .int x3)]) (h : fX7_areSigns_j40 N r2 k0 x1 x2 x3 Q σ) : W p l e rmX7_areSigns s m args below meth c H locs 0 0 (MQ below (va_Qi Q (Rp 223 ev1 w) (Aw 223 w)) args s 0 0 (Aw 223 w)) (F0 m 40 ls []) := by
  obtain ⟨hx, hb, hml, hown, hts, hr, hlk, hK, hI, hX⟩ := id E
  unfold fX7_areSigns_j40 at h
  obtain ⟨v_6, ev_6⟩ : ∃ z : Int32, z = x3 + 1 := ⟨_, rfl⟩
  have h := h v_6 ev_6
  refine lv_iinc (pc := 40) (v := v_6) (lv' := [(3, .int v_6), (0, .ref (w.2.1 k0)), (1, .int x1), (2, .int x2)]) hx hb dX7_areSigns_40 hl (k := 3) rfl (by rw [ev_6]; rfl) (by decide) rfl (fun ls hl => ?_)
  refine lv_goto (pc := 43) (tgt := 2) hx hb dX7_areSigns_43 (by decide) ?_
  exact hr2 v_6 σ _ _ _ hR (lv_sub hl [1, 2, 3, 0] rfl) h
def fX7_areSigns_l2 (N : Nat) (k0 : Nat) (x1 : Int32) (x2 : Int32) (Q : Int32 → St → Prop) (r2 : Int32 → St → Prop) (x3 : Int32) (σ : St) : Prop := ((x1 ≤ x3 → Q 1 σ) ∧ (¬ x1 ≤ x3 → ((120 ≤ x3 → Q 1 σ) ∧ (¬ 120 ≤ x3 → vp_in x3 120 ∧ (((σ.1 k0 x3.toNatClampNeg) = 0 → Q 0 σ) ∧ (¬ (σ.1 k0 x3.toNatClampNeg) = 0 → ((x2 = 0 → fX7_areSigns_j40 N r2 k0 x1 x2 x3 Q σ) ∧ (¬ x2 = 0 → vp_in x3 120 ∧ (((σ.1 k0 x3.toNatClampNeg) < 0 → Q 0 σ) ∧ (¬ (σ.1 k0 x3.toNatClampNeg) < 0 → vp_in x3 120 ∧ (((σ.1 k0 x3.toNatClampNeg) ≤ 255 → fX7_areSigns_j40 N r2 k0 x1 x2 x3 Q σ) ∧ (¬ (σ.1 k0 x3.toNatClampNeg) ≤ 255 → Q 0 σ))))))))))))
set_option maxHeartbeats 4000000 in
set_option maxRecDepth 100000 in
theorem bX7_areSigns_2 {p : Program} {e : Env} {s : State} {m : MethodId} {args : Array Value} {below : List Frame} {meth : Method} {c : Code} (l : Launch) (w : Wd) (N : Nat) (Q : Int32 → St → Prop) (E : Cx 223 w (X1 w) cX7_areSigns 4 RX7 (.code yX7_areSigns cX7_areSigns 4 (some .boolean)) (some .boolean) p s m args meth c) (k0 : Nat) (x1 : Int32) (x2 : Int32) (hk0 : r120 k0) : ∀ (n : Nat) (x3 : Int32) (σ : St) (H : Heap) (locs : List Loc) (ls : Array Slot), Rr 223 ev1 w σ s H locs → lv_has ls 4 [(0, .ref (w.2.1 k0)), (1, .int x1), (2, .int x2), (3, .int x3)] → lo1 (fX7_areSigns_l2 N k0 x1 x2 Q) n x3 σ → W p l e rmX7_areSigns s m args below meth c H locs 0 0 (MQ below (va_Qi Q (Rp 223 ev1 w) (Aw 223 w)) args s 0 0 (Aw 223 w)) (F0 m 2 ls []) := by
  obtain ⟨hx, hb, hml, hown, hts, hr, hlk, hK, hI, hX⟩ := id E
  intro n
  induction n with
  | zero => intro x3 σ H locs ls hR hl h; exact h.elim
  | succ n ih =>
    intro x3 σ H locs ls hR hl h
    have h : fX7_areSigns_l2 N k0 x1 x2 Q (lo1 (fX7_areSigns_l2 N k0 x1 x2 Q) n) x3 σ := h
    unfold fX7_areSigns_l2 at h
    refine lv_iload_n (pc := 2) hx hb dX7_areSigns_2 rfl (lv_at hl 3 rfl) ?_
    refine lv_iload_n (pc := 3) hx hb dX7_areSigns_3 rfl (lv_at hl 1 rfl) ?_
    refine lv_icmp_ge (pc := 4) (tgt := 46) hx hb dX7_areSigns_4 (by decide) (fun c_1 => ?_) (fun c_1 => ?_)
    · have h := h.1 c_1
      refine lv_iconst (pc := 46) (v := 1) hx hb dX7_areSigns_46 (by decide) ?_
      exact q_zret (pc := 47) E hR h rfl dX7_areSigns_47
    · have h := h.2 c_1
      refine lv_iload_n (pc := 7) hx hb dX7_areSigns_7 rfl (lv_at hl 3 rfl) ?_
      refine lv_aload_n (pc := 8) hx hb dX7_areSigns_8 rfl (lv_at hl 0 rfl) ?_
      refine va_alen (pc := 9) (v := 120) hx hb hK hR.1 k0 0 (rg_ate (r120_lt hk0) (ev1_r120 hk0)) rfl (show Int32.ofNat 120 = 120 from by decide) dX7_areSigns_9 ?_
      refine lv_icmp_ge (pc := 10) (tgt := 46) hx hb dX7_areSigns_10 (by decide) (fun c_2 => ?_) (fun c_2 => ?_)
      · have h := h.1 c_2
        refine lv_iconst (pc := 46) (v := 1) hx hb dX7_areSigns_46 (by decide) ?_
        exact q_zret (pc := 47) E hR h rfl dX7_areSigns_47
      · have h := h.2 c_2
        refine lv_aload_n (pc := 13) hx hb dX7_areSigns_13 rfl (lv_at hl 0 rfl) ?_
        refine lv_iload_n (pc := 14) hx hb dX7_areSigns_14 rfl (lv_at hl 3 rfl) ?_
        have g_3 := h.1
        have h := h.2
        refine q_iald (pc := 15) hx hb hK hR (k := k0) (r120_lt hk0) (ev1_r120 hk0) g_3 dX7_areSigns_15 ?_
        refine lv_if_eq (pc := 16) (tgt := 38) hx hb dX7_areSigns_16 (by decide) (fun c_4 => ?_) (fun c_4 => ?_)
        · have h := h.1 c_4
          refine lv_iconst (pc := 38) (v := 0) hx hb dX7_areSigns_38 (by decide) ?_
          exact q_zret (pc := 39) E hR h rfl dX7_areSigns_39
        · have h := h.2 c_4
          refine lv_iload_n (pc := 19) hx hb dX7_areSigns_19 rfl (lv_at hl 2 rfl) ?_
          refine lv_if_eq (pc := 20) (tgt := 40) hx hb dX7_areSigns_20 (by decide) (fun c_5 => ?_) (fun c_5 => ?_)
          · have h := h.1 c_5
            exact bX7_areSigns_40 l w N Q E k0 x1 x2 x3 hk0 _ ih hR (lv_sub hl [0, 1, 2, 3] rfl) h
          · have h := h.2 c_5
            refine lv_aload_n (pc := 23) hx hb dX7_areSigns_23 rfl (lv_at hl 0 rfl) ?_
            refine lv_iload_n (pc := 24) hx hb dX7_areSigns_24 rfl (lv_at hl 3 rfl) ?_
            have g_6 := h.1
            have h := h.2
            refine q_iald (pc := 25) hx hb hK hR (k := k0) (r120_lt hk0) (ev1_r120 hk0) g_6 dX7_areSigns_25 ?_
            refine lv_if_lt (pc := 26) (tgt := 38) hx hb dX7_areSigns_26 (by decide) (fun c_7 => ?_) (fun c_7 => ?_)
            · have h := h.1 c_7
              refine lv_iconst (pc := 38) (v := 0) hx hb dX7_areSigns_38 (by decide) ?_
              exact q_zret (pc := 39) E hR h rfl dX7_areSigns_39
            · have h := h.2 c_7
              refine lv_aload_n (pc := 29) hx hb dX7_areSigns_29 rfl (lv_at hl 0 rfl) ?_
              refine lv_iload_n (pc := 30) hx hb dX7_areSigns_30 rfl (lv_at hl 3 rfl) ?_
              have g_8 := h.1
              have h := h.2
              refine q_iald (pc := 31) hx hb hK hR (k := k0) (r120_lt hk0) (ev1_r120 hk0) g_8 dX7_areSigns_31 ?_
              refine lv_sipush (pc := 32) (v := 255) hx hb dX7_areSigns_32 (by decide) ?_
              refine lv_icmp_le (pc := 35) (tgt := 40) hx hb dX7_areSigns_35 (by decide) (fun c_9 => ?_) (fun c_9 => ?_)
              · have h := h.1 c_9
                exact bX7_areSigns_40 l w N Q E k0 x1 x2 x3 hk0 _ ih hR (lv_sub hl [0, 1, 2, 3] rfl) h
              · have h := h.2 c_9
                refine lv_iconst (pc := 38) (v := 0) hx hb dX7_areSigns_38 (by decide) ?_
                exact q_zret (pc := 39) E hR h rfl dX7_areSigns_39
def fX7_areSigns (N : Nat) (k0 : Nat) (x1 : Int32) (x2 : Int32) (Q : Int32 → St → Prop) (σ : St) : Prop := lo1 (fX7_areSigns_l2 N k0 x1 x2 Q) N 0 σ
set_option maxHeartbeats 4000000 in
set_option maxRecDepth 100000 in
theorem bX7_areSigns_e {p : Program} {e : Env} {s : State} {m : MethodId} {args : Array Value} {below : List Frame} {meth : Method} {c : Code} (l : Launch) (w : Wd) (N : Nat) (Q : Int32 → St → Prop) (E : Cx 223 w (X1 w) cX7_areSigns 4 RX7 (.code yX7_areSigns cX7_areSigns 4 (some .boolean)) (some .boolean) p s m args meth c) (k0 : Nat) (x1 : Int32) (x2 : Int32) (hk0 : r120 k0) {σ : St} {H : Heap} {locs : List Loc} {ls : Array Slot} (hR : Rr 223 ev1 w σ s H locs) (hl : lv_has ls 4 [(0, .ref (w.2.1 k0)), (1, .int x1), (2, .int x2)]) (h : fX7_areSigns N k0 x1 x2 Q σ) : W p l e rmX7_areSigns s m args below meth c H locs 0 0 (MQ below (va_Qi Q (Rp 223 ev1 w) (Aw 223 w)) args s 0 0 (Aw 223 w)) (F0 m 0 ls []) := by
  obtain ⟨hx, hb, hml, hown, hts, hr, hlk, hK, hI, hX⟩ := id E
  unfold fX7_areSigns at h
  refine lv_iconst (pc := 0) (v := 0) hx hb dX7_areSigns_0 (by decide) ?_
  refine lv_istore_n (pc := 1) (lv' := [(3, .int 0), (0, .ref (w.2.1 k0)), (1, .int x1), (2, .int x2)]) hx hb dX7_areSigns_1 rfl hl (by decide) rfl (fun ls hl => ?_)
  exact bX7_areSigns_2 l w N Q E k0 x1 x2 hk0 N 0 σ _ _ _ hR (lv_sub hl [1, 2, 3, 0] rfl) h
theorem cX7_areSigns_met (l : Launch) (w : Wd) (hI : Ij 223 w) (N : Nat) (k0 : Nat) (x1 : Int32) (x2 : Int32) (hk0 : r120 k0) (Q : Int32 → St → Prop) (σ : St) (h : fX7_areSigns N k0 x1 x2 Q σ) : Met l yX7_areSigns (.code yX7_areSigns cX7_areSigns 4 (some .boolean) :: Uw) rmX7_areSigns (va_Pc [.ref (w.2.1 k0), .int x1, .int x2] (fun U => Rp 223 ev1 w σ U ∧ (X1 w) U)) (va_Qi Q (Rp 223 ev1 w) (Aw 223 w)) 0 0 (Aw 223 w) :=
  q_met (by decide) (Nat.le_of_ble_eq_true rfl) hI (fun p e s m below meth c ls E hl hR => bX7_areSigns_e l w N Q E k0 x1 x2 hk0 hR hl h)
-- GlulxStrings$Pieces.isPiece(I[II)Z
abbrev rmX7_isPiece : Room := { frames := 1, cells := 0, slots := 0, locals := 23 }
def fX7_isPiece_j140 (N : Nat) (x2 : Int32) (Q : Int32 → St → Prop) (σ : St) : Prop := ((x2 = 1 → Q 1 σ) ∧ (¬ x2 = 1 → Q 0 σ))
set_option maxHeartbeats 4000000 in
set_option maxRecDepth 100000 in
theorem bX7_isPiece_140 {p : Program} {e : Env} {s : State} {m : MethodId} {args : Array Value} {below : List Frame} {meth : Method} {c : Code} (l : Launch) (w : Wd) (N : Nat) (Q : Int32 → St → Prop) (E : Cx 223 w (X1 w) cX7_isPiece 3 RX7 (.code yX7_isPiece cX7_isPiece 3 (some .boolean)) (some .boolean) p s m args meth c) (x2 : Int32) {σ : St} {H : Heap} {locs : List Loc} {ls : Array Slot} (hR : Rr 223 ev1 w σ s H locs) (hl : lv_has ls 3 [(2, .int x2)]) (h : fX7_isPiece_j140 N x2 Q σ) : W p l e rmX7_isPiece s m args below meth c H locs 0 0 (MQ below (va_Qi Q (Rp 223 ev1 w) (Aw 223 w)) args s 0 0 (Aw 223 w)) (F0 m 140 ls []) := by
  obtain ⟨hx, hb, hml, hown, hts, hr, hlk, hK, hI, hX⟩ := id E
  unfold fX7_isPiece_j140 at h
  refine lv_iload_n (pc := 140) hx hb dX7_isPiece_140 rfl (lv_at hl 0 rfl) ?_
  refine lv_iconst (pc := 141) (v := 1) hx hb dX7_isPiece_141 (by decide) ?_
  refine lv_icmp_ne (pc := 142) (tgt := 149) hx hb dX7_isPiece_142 (by decide) (fun c_24 => ?_) (fun c_24 => ?_)
  · have h := h.2 c_24
    refine lv_iconst (pc := 149) (v := 0) hx hb dX7_isPiece_149 (by decide) ?_
    exact q_zret (pc := 150) E hR h rfl dX7_isPiece_150
  · have h := h.1 c_24
    refine lv_iconst (pc := 145) (v := 1) hx hb dX7_isPiece_145 (by decide) ?_
    refine lv_goto (pc := 146) (tgt := 150) hx hb dX7_isPiece_146 (by decide) ?_
    exact q_zret (pc := 150) E hR h rfl dX7_isPiece_150
def fX7_isPiece (N : Nat) (x0 : Int32) (k1 : Nat) (x2 : Int32) (Q : Int32 → St → Prop) (σ : St) : Prop := ((x0 = 2 → ((x2 = 1 → fX7_areSigns N k1 x2 1 (fun r_4 σ_3 => ((r_4 = 0 → Q 0 σ_3) ∧ (¬ r_4 = 0 → Q 1 σ_3))) σ) ∧ (¬ x2 = 1 → Q 0 σ))) ∧ (¬ x0 = 2 → ((x0 = 3 → ((x2 < 2 → Q 0 σ) ∧ (¬ x2 < 2 → ((20 < x2 → Q 0 σ) ∧ (¬ 20 < x2 → fX7_areSigns N k1 x2 1 (fun r_10 σ_9 => ((r_10 = 0 → Q 0 σ_9) ∧ (¬ r_10 = 0 → Q 1 σ_9))) σ))))) ∧ (¬ x0 = 3 → ((x0 = 4 → ((x2 = 1 → fX7_areSigns N k1 x2 0 (fun r_15 σ_14 => ((r_15 = 0 → Q 0 σ_14) ∧ (¬ r_15 = 0 → Q 1 σ_14))) σ) ∧ (¬ x2 = 1 → Q 0 σ))) ∧ (¬ x0 = 4 → ((x0 = 5 → ((x2 < 2 → Q 0 σ) ∧ (¬ x2 < 2 → ((20 < x2 → Q 0 σ) ∧ (¬ 20 < x2 → fX7_areSigns N k1 x2 0 (fun r_21 σ_20 => ((r_21 = 0 → Q 0 σ_20) ∧ (¬ r_21 = 0 → Q 1 σ_20))) σ))))) ∧ (¬ x0 = 5 → ((x0 = 8 → fX7_isPiece_j140 N x2 Q σ) ∧ (¬ x0 = 8 → ((x0 = 9 → fX7_isPiece_j140 N x2 Q σ) ∧ (¬ x0 = 9 → Q 0 σ))))))))))))
set_option maxHeartbeats 4000000 in
set_option maxRecDepth 100000 in
theorem bX7_isPiece_e {p : Program} {e : Env} {s : State} {m : MethodId} {args : Array Value} {below : List Frame} {meth : Method} {c : Code} (l : Launch) (w : Wd) (N : Nat) (Q : Int32 → St → Prop) (E : Cx 223 w (X1 w) cX7_isPiece 3 RX7 (.code yX7_isPiece cX7_isPiece 3 (some .boolean)) (some .boolean) p s m args meth c) (x0 : Int32) (k1 : Nat) (x2 : Int32) (hk1 : r120 k1) {σ : St} {H : Heap} {locs : List Loc} {ls : Array Slot} (hR : Rr 223 ev1 w σ s H locs) (hl : lv_has ls 3 [(0, .int x0), (1, .ref (w.2.1 k1)), (2, .int x2)]) (h : fX7_isPiece N x0 k1 x2 Q σ) : W p l e rmX7_isPiece s m args below meth c H locs 0 0 (MQ below (va_Qi Q (Rp 223 ev1 w) (Aw 223 w)) args s 0 0 (Aw 223 w)) (F0 m 0 ls []) := by
  obtain ⟨hx, hb, hml, hown, hts, hr, hlk, hK, hI, hX⟩ := id E
  unfold fX7_isPiece at h
  refine lv_iload_n (pc := 0) hx hb dX7_isPiece_0 rfl (lv_at hl 0 rfl) ?_
  by_cases c_1 : x0 = 2
  · refine lv_tableIn (pc := 1) (tgt := 48) (off := 47) hx hb dX7_isPiece_1 (by rw [c_1]; decide) (by rw [c_1]; decide) (by rw [c_1]; rfl) (by decide) ?_
    have h := h.1 c_1
    refine lv_iload_n (pc := 48) hx hb dX7_isPiece_48 rfl (lv_at hl 2 rfl) ?_
    refine lv_iconst (pc := 49) (v := 1) hx hb dX7_isPiece_49 (by decide) ?_
    refine lv_icmp_ne (pc := 50) (tgt := 66) hx hb dX7_isPiece_50 (by decide) (fun c_2 => ?_) (fun c_2 => ?_)
    · have h := h.2 c_2
      refine lv_iconst (pc := 66) (v := 0) hx hb dX7_isPiece_66 (by decide) ?_
      exact q_zret (pc := 67) E hR h rfl dX7_isPiece_67
    · have h := h.1 c_2
      refine lv_aload_n (pc := 53) hx hb dX7_isPiece_53 rfl (lv_at hl 1 rfl) ?_
      refine lv_iload_n (pc := 54) hx hb dX7_isPiece_54 rfl (lv_at hl 2 rfl) ?_
      refine lv_iconst (pc := 55) (v := 1) hx hb dX7_isPiece_55 (by decide) ?_
      refine q_ci (pc := 56) hR (q_rS E (xp1 w) (As := [.ref (w.2.1 k1), .int x2, .int 1]) (rest := []) (cX7_areSigns_met l w hI N k1 x2 1 hk1 _ σ h) ckX7_areSigns csX7_areSigns mw159 ⟨rfl, rfl, Nat.le_of_ble_eq_true rfl, Nat.le_of_ble_eq_true rfl⟩ hR rfl hl.1 rfl (Nat.le_of_ble_eq_true rfl) dX7_isPiece_56) (fun r_4 σ_3 H locs h hR => ?_)
      refine lv_if_eq (pc := 59) (tgt := 66) hx hb dX7_isPiece_59 (by decide) (fun c_5 => ?_) (fun c_5 => ?_)
      · have h := h.1 c_5
        refine lv_iconst (pc := 66) (v := 0) hx hb dX7_isPiece_66 (by decide) ?_
        exact q_zret (pc := 67) E hR h rfl dX7_isPiece_67
      · have h := h.2 c_5
        refine lv_iconst (pc := 62) (v := 1) hx hb dX7_isPiece_62 (by decide) ?_
        refine lv_goto (pc := 63) (tgt := 67) hx hb dX7_isPiece_63 (by decide) ?_
        exact q_zret (pc := 67) E hR h rfl dX7_isPiece_67
  replace h := h.2 c_1
  by_cases c_6 : x0 = 3
  · refine lv_tableIn (pc := 1) (tgt := 68) (off := 67) hx hb dX7_isPiece_1 (by rw [c_6]; decide) (by rw [c_6]; decide) (by rw [c_6]; rfl) (by decide) ?_
    have h := h.1 c_6
    refine lv_iload_n (pc := 68) hx hb dX7_isPiece_68 rfl (lv_at hl 2 rfl) ?_
    refine lv_iconst (pc := 69) (v := 2) hx hb dX7_isPiece_69 (by decide) ?_
    refine lv_icmp_lt (pc := 70) (tgt := 92) hx hb dX7_isPiece_70 (by decide) (fun c_7 => ?_) (fun c_7 => ?_)
    · have h := h.1 c_7
      refine lv_iconst (pc := 92) (v := 0) hx hb dX7_isPiece_92 (by decide) ?_
      exact q_zret (pc := 93) E hR h rfl dX7_isPiece_93
    · have h := h.2 c_7
      refine lv_iload_n (pc := 73) hx hb dX7_isPiece_73 rfl (lv_at hl 2 rfl) ?_
      refine lv_bipush (pc := 74) (v := 20) hx hb dX7_isPiece_74 (by decide) ?_
      refine lv_icmp_gt (pc := 76) (tgt := 92) hx hb dX7_isPiece_76 (by decide) (fun c_8 => ?_) (fun c_8 => ?_)
      · have h := h.1 c_8
        refine lv_iconst (pc := 92) (v := 0) hx hb dX7_isPiece_92 (by decide) ?_
        exact q_zret (pc := 93) E hR h rfl dX7_isPiece_93
      · have h := h.2 c_8
        refine lv_aload_n (pc := 79) hx hb dX7_isPiece_79 rfl (lv_at hl 1 rfl) ?_
        refine lv_iload_n (pc := 80) hx hb dX7_isPiece_80 rfl (lv_at hl 2 rfl) ?_
        refine lv_iconst (pc := 81) (v := 1) hx hb dX7_isPiece_81 (by decide) ?_
        refine q_ci (pc := 82) hR (q_rS E (xp1 w) (As := [.ref (w.2.1 k1), .int x2, .int 1]) (rest := []) (cX7_areSigns_met l w hI N k1 x2 1 hk1 _ σ h) ckX7_areSigns csX7_areSigns mw159 ⟨rfl, rfl, Nat.le_of_ble_eq_true rfl, Nat.le_of_ble_eq_true rfl⟩ hR rfl hl.1 rfl (Nat.le_of_ble_eq_true rfl) dX7_isPiece_82) (fun r_10 σ_9 H locs h hR => ?_)
        refine lv_if_eq (pc := 85) (tgt := 92) hx hb dX7_isPiece_85 (by decide) (fun c_11 => ?_) (fun c_11 => ?_)
        · have h := h.1 c_11
          refine lv_iconst (pc := 92) (v := 0) hx hb dX7_isPiece_92 (by decide) ?_
          exact q_zret (pc := 93) E hR h rfl dX7_isPiece_93
        · have h := h.2 c_11
          refine lv_iconst (pc := 88) (v := 1) hx hb dX7_isPiece_88 (by decide) ?_
          refine lv_goto (pc := 89) (tgt := 93) hx hb dX7_isPiece_89 (by decide) ?_
          exact q_zret (pc := 93) E hR h rfl dX7_isPiece_93
  replace h := h.2 c_6
  by_cases c_12 : x0 = 4
  · refine lv_tableIn (pc := 1) (tgt := 94) (off := 93) hx hb dX7_isPiece_1 (by rw [c_12]; decide) (by rw [c_12]; decide) (by rw [c_12]; rfl) (by decide) ?_
    have h := h.1 c_12
    refine lv_iload_n (pc := 94) hx hb dX7_isPiece_94 rfl (lv_at hl 2 rfl) ?_
    refine lv_iconst (pc := 95) (v := 1) hx hb dX7_isPiece_95 (by decide) ?_
    refine lv_icmp_ne (pc := 96) (tgt := 112) hx hb dX7_isPiece_96 (by decide) (fun c_13 => ?_) (fun c_13 => ?_)
    · have h := h.2 c_13
      refine lv_iconst (pc := 112) (v := 0) hx hb dX7_isPiece_112 (by decide) ?_
      exact q_zret (pc := 113) E hR h rfl dX7_isPiece_113
    · have h := h.1 c_13
      refine lv_aload_n (pc := 99) hx hb dX7_isPiece_99 rfl (lv_at hl 1 rfl) ?_
      refine lv_iload_n (pc := 100) hx hb dX7_isPiece_100 rfl (lv_at hl 2 rfl) ?_
      refine lv_iconst (pc := 101) (v := 0) hx hb dX7_isPiece_101 (by decide) ?_
      refine q_ci (pc := 102) hR (q_rS E (xp1 w) (As := [.ref (w.2.1 k1), .int x2, .int 0]) (rest := []) (cX7_areSigns_met l w hI N k1 x2 0 hk1 _ σ h) ckX7_areSigns csX7_areSigns mw159 ⟨rfl, rfl, Nat.le_of_ble_eq_true rfl, Nat.le_of_ble_eq_true rfl⟩ hR rfl hl.1 rfl (Nat.le_of_ble_eq_true rfl) dX7_isPiece_102) (fun r_15 σ_14 H locs h hR => ?_)
      refine lv_if_eq (pc := 105) (tgt := 112) hx hb dX7_isPiece_105 (by decide) (fun c_16 => ?_) (fun c_16 => ?_)
      · have h := h.1 c_16
        refine lv_iconst (pc := 112) (v := 0) hx hb dX7_isPiece_112 (by decide) ?_
        exact q_zret (pc := 113) E hR h rfl dX7_isPiece_113
      · have h := h.2 c_16
        refine lv_iconst (pc := 108) (v := 1) hx hb dX7_isPiece_108 (by decide) ?_
        refine lv_goto (pc := 109) (tgt := 113) hx hb dX7_isPiece_109 (by decide) ?_
        exact q_zret (pc := 113) E hR h rfl dX7_isPiece_113
  replace h := h.2 c_12
  by_cases c_17 : x0 = 5
  · refine lv_tableIn (pc := 1) (tgt := 114) (off := 113) hx hb dX7_isPiece_1 (by rw [c_17]; decide) (by rw [c_17]; decide) (by rw [c_17]; rfl) (by decide) ?_
    have h := h.1 c_17
    refine lv_iload_n (pc := 114) hx hb dX7_isPiece_114 rfl (lv_at hl 2 rfl) ?_
    refine lv_iconst (pc := 115) (v := 2) hx hb dX7_isPiece_115 (by decide) ?_
    refine lv_icmp_lt (pc := 116) (tgt := 138) hx hb dX7_isPiece_116 (by decide) (fun c_18 => ?_) (fun c_18 => ?_)
    · have h := h.1 c_18
      refine lv_iconst (pc := 138) (v := 0) hx hb dX7_isPiece_138 (by decide) ?_
      exact q_zret (pc := 139) E hR h rfl dX7_isPiece_139
    · have h := h.2 c_18
      refine lv_iload_n (pc := 119) hx hb dX7_isPiece_119 rfl (lv_at hl 2 rfl) ?_
      refine lv_bipush (pc := 120) (v := 20) hx hb dX7_isPiece_120 (by decide) ?_
      refine lv_icmp_gt (pc := 122) (tgt := 138) hx hb dX7_isPiece_122 (by decide) (fun c_19 => ?_) (fun c_19 => ?_)
      · have h := h.1 c_19
        refine lv_iconst (pc := 138) (v := 0) hx hb dX7_isPiece_138 (by decide) ?_
        exact q_zret (pc := 139) E hR h rfl dX7_isPiece_139
      · have h := h.2 c_19
        refine lv_aload_n (pc := 125) hx hb dX7_isPiece_125 rfl (lv_at hl 1 rfl) ?_
        refine lv_iload_n (pc := 126) hx hb dX7_isPiece_126 rfl (lv_at hl 2 rfl) ?_
        refine lv_iconst (pc := 127) (v := 0) hx hb dX7_isPiece_127 (by decide) ?_
        refine q_ci (pc := 128) hR (q_rS E (xp1 w) (As := [.ref (w.2.1 k1), .int x2, .int 0]) (rest := []) (cX7_areSigns_met l w hI N k1 x2 0 hk1 _ σ h) ckX7_areSigns csX7_areSigns mw159 ⟨rfl, rfl, Nat.le_of_ble_eq_true rfl, Nat.le_of_ble_eq_true rfl⟩ hR rfl hl.1 rfl (Nat.le_of_ble_eq_true rfl) dX7_isPiece_128) (fun r_21 σ_20 H locs h hR => ?_)
        refine lv_if_eq (pc := 131) (tgt := 138) hx hb dX7_isPiece_131 (by decide) (fun c_22 => ?_) (fun c_22 => ?_)
        · have h := h.1 c_22
          refine lv_iconst (pc := 138) (v := 0) hx hb dX7_isPiece_138 (by decide) ?_
          exact q_zret (pc := 139) E hR h rfl dX7_isPiece_139
        · have h := h.2 c_22
          refine lv_iconst (pc := 134) (v := 1) hx hb dX7_isPiece_134 (by decide) ?_
          refine lv_goto (pc := 135) (tgt := 139) hx hb dX7_isPiece_135 (by decide) ?_
          exact q_zret (pc := 139) E hR h rfl dX7_isPiece_139
  replace h := h.2 c_17
  by_cases c_23 : x0 = 8
  · refine lv_tableIn (pc := 1) (tgt := 140) (off := 139) hx hb dX7_isPiece_1 (by rw [c_23]; decide) (by rw [c_23]; decide) (by rw [c_23]; rfl) (by decide) ?_
    have h := h.1 c_23
    exact bX7_isPiece_140 l w N Q E x2 hR (lv_sub hl [2] rfl) h
  replace h := h.2 c_23
  by_cases c_24 : x0 = 9
  · refine lv_tableIn (pc := 1) (tgt := 140) (off := 139) hx hb dX7_isPiece_1 (by rw [c_24]; decide) (by rw [c_24]; decide) (by rw [c_24]; rfl) (by decide) ?_
    have h := h.1 c_24
    exact bX7_isPiece_140 l w N Q E x2 hR (lv_sub hl [2] rfl) h
  replace h := h.2 c_24
  have hD : W p l e rmX7_isPiece s m args below meth c H locs 0 0 (MQ below (va_Qi Q (Rp 223 ev1 w) (Aw 223 w)) args s 0 0 (Aw 223 w)) (F0 m 151 ls []) := by
    refine lv_iconst (pc := 151) (v := 0) hx hb dX7_isPiece_151 (by decide) ?_
    exact q_zret (pc := 152) E hR h rfl dX7_isPiece_152
  by_cases c_25 : x0 = 6
  · exact lv_tableIn (pc := 1) (tgt := 151) (off := 150) hx hb dX7_isPiece_1 (by rw [c_25]; decide) (by rw [c_25]; decide) (by rw [c_25]; rfl) (by decide) hD
  by_cases c_26 : x0 = 7
  · exact lv_tableIn (pc := 1) (tgt := 151) (off := 150) hx hb dX7_isPiece_1 (by rw [c_26]; decide) (by rw [c_26]; decide) (by rw [c_26]; rfl) (by decide) hD
  have nc_1 := ne_i (n := 2) (by decide) c_1
  have nc_6 := ne_i (n := 3) (by decide) c_6
  have nc_12 := ne_i (n := 4) (by decide) c_12
  have nc_17 := ne_i (n := 5) (by decide) c_17
  have nc_23 := ne_i (n := 8) (by decide) c_23
  have nc_24 := ne_i (n := 9) (by decide) c_24
  have nc_25 := ne_i (n := 6) (by decide) c_25
  have nc_26 := ne_i (n := 7) (by decide) c_26
  exact lv_tableOut (pc := 1) (tgt := 151) hx hb dX7_isPiece_1 (by omega) (by decide) hD
theorem cX7_isPiece_met (l : Launch) (w : Wd) (hI : Ij 223 w) (N : Nat) (x0 : Int32) (k1 : Nat) (x2 : Int32) (hk1 : r120 k1) (Q : Int32 → St → Prop) (σ : St) (h : fX7_isPiece N x0 k1 x2 Q σ) : Met l yX7_isPiece (.code yX7_isPiece cX7_isPiece 3 (some .boolean) :: Uw) rmX7_isPiece (va_Pc [.int x0, .ref (w.2.1 k1), .int x2] (fun U => Rp 223 ev1 w σ U ∧ (X1 w) U)) (va_Qi Q (Rp 223 ev1 w) (Aw 223 w)) 0 0 (Aw 223 w) :=
  q_met (by decide) (Nat.le_of_ble_eq_true rfl) hI (fun p e s m below meth c ls E hl hR => bX7_isPiece_e l w N Q E x0 k1 x2 hk1 hR hl h)
-- GlulxStrings$Pieces.add(I[II)I
abbrev rmX7_add : Room := { frames := 0, cells := 0, slots := 0, locals := 0 }
def fX7_add_j128 (N : Nat) (x4 : Int32) (Q : Int32 → St → Prop) (σ : St) : Prop := ∀ v_20 : Int32, v_20 = (σ.1 6 5) + 1 → ∀ σ_21 : St, σ_21 = u1 σ 6 5 v_20 → Q x4 σ_21
set_option maxHeartbeats 4000000 in
set_option maxRecDepth 100000 in
theorem bX7_add_128 {p : Program} {e : Env} {s : State} {m : MethodId} {args : Array Value} {below : List Frame} {meth : Method} {c : Code} (l : Launch) (w : Wd) (N : Nat) (Q : Int32 → St → Prop) (E : Cx 223 w (X1 w) cX7_add 6 RX7 (.code yX7_add cX7_add 6 (some .int)) (some .int) p s m args meth c) (x4 : Int32) {σ : St} {H : Heap} {locs : List Loc} {ls : Array Slot} (hR : Rr 223 ev1 w σ s H locs) (hl : lv_has ls 6 [(0, .ref (w.2.1 6)), (4, .int x4)]) (h : fX7_add_j128 N x4 Q σ) : W p l e rmX7_add s m args below meth c H locs 0 0 (MQ below (va_Qi Q (Rp 223 ev1 w) (Aw 223 w)) args s 0 0 (Aw 223 w)) (F0 m 128 ls []) := by
  obtain ⟨hx, hb, hml, hown, hts, hr, hlk, hK, hI, hX⟩ := id E
  unfold fX7_add_j128 at h
  refine lv_aload_n (pc := 128) hx hb dX7_add_128 rfl (lv_at hl 0 rfl) ?_
  refine lv_dup (pc := 129) hx hb dX7_add_129 rfl ?_
  refine gf1_6_5 (pc := 130) hx hb hts hown hK hR mw160 dX7_add_130 ?_
  refine lv_iconst (pc := 133) (v := 1) hx hb dX7_add_133 (by decide) ?_
  refine lv_iadd (pc := 134) hx hb dX7_add_134 ?_
  refine lv_topi (pc := 135) (fun v_20 ev_20 => ?_)
  have h := h v_20 ev_20
  refine pf1_6_5 (pc := 135) hx hb hts hown hK hI hR mw160 dX7_add_135 (fun H locs σ_21 eσ_21 hR => ?_)
  have h := h σ_21 eσ_21
  refine lv_iload (pc := 138) hx hb dX7_add_138 (lv_at hl 1 rfl) ?_
  exact q_iret (pc := 140) E hR h dX7_add_140
def fX7_add_j97 (N : Nat) (x4 : Int32) (Q : Int32 → St → Prop) (σ : St) : Prop := vp_in x4 60 ∧ vp_in 0 20 ∧ ∀ v_13 : Int32, v_13 = σ.1 (123 + x4.toNatClampNeg) (0 : Int32).toNatClampNeg → vp_in x4 60 ∧ ∀ σ_15 : St, σ_15 = u1 σ 19 x4.toNatClampNeg v_13 → vp_in x4 60 ∧ ∀ v_17 : Int32, v_17 = (-1000) - x4 → vp_in 0 20 ∧ ∀ σ_19 : St, σ_19 = u1 σ_15 (123 + x4.toNatClampNeg) (0 : Int32).toNatClampNeg v_17 → fX7_add_j128 N x4 Q σ_19
set_option maxHeartbeats 4000000 in
set_option maxRecDepth 100000 in
theorem bX7_add_97 {p : Program} {e : Env} {s : State} {m : MethodId} {args : Array Value} {below : List Frame} {meth : Method} {c : Code} (l : Launch) (w : Wd) (N : Nat) (Q : Int32 → St → Prop) (E : Cx 223 w (X1 w) cX7_add 6 RX7 (.code yX7_add cX7_add 6 (some .int)) (some .int) p s m args meth c) (x4 : Int32) {σ : St} {H : Heap} {locs : List Loc} {ls : Array Slot} (hR : Rr 223 ev1 w σ s H locs) (hl : lv_has ls 6 [(0, .ref (w.2.1 6)), (4, .int x4)]) (h : fX7_add_j97 N x4 Q σ) : W p l e rmX7_add s m args below meth c H locs 0 0 (MQ below (va_Qi Q (Rp 223 ev1 w) (Aw 223 w)) args s 0 0 (Aw 223 w)) (F0 m 97 ls []) := by
  obtain ⟨hx, hb, hml, hown, hts, hr, hlk, hK, hI, hX⟩ := id E
  unfold fX7_add_j97 at h
  refine lv_aload_n (pc := 97) hx hb dX7_add_97 rfl (lv_at hl 0 rfl) ?_
  refine gf1_6_1 (pc := 98) hx hb hts hown hK hR mw164 dX7_add_98 ?_
  refine lv_iload (pc := 101) hx hb dX7_add_101 (lv_at hl 1 rfl) ?_
  refine lv_aload_n (pc := 103) hx hb dX7_add_103 rfl (lv_at hl 0 rfl) ?_
  refine gf1_6_2 (pc := 104) hx hb hts hown hK hR mw165 dX7_add_104 ?_
  refine lv_iload (pc := 107) hx hb dX7_add_107 (lv_at hl 1 rfl) ?_
  have g_11 := h.1
  have h := h.2
  refine q_aald (pc := 109) hx hb hK hR (k := 20) lt1_20 5 rfl rfl (ar1_20 _ _ _) g_11 dX7_add_109 ?_
  refine lv_iconst (pc := 110) (v := 0) hx hb dX7_add_110 (by decide) ?_
  have g_12 := h.1
  have h := h.2
  refine q_iald (pc := 111) hx hb hK hR (k := (123 + x4.toNatClampNeg)) (r20_lt (r20_in g_11)) (ev1_r20 (r20_in g_11)) g_12 dX7_add_111 ?_
  refine lv_topi (pc := 112) (fun v_13 ev_13 => ?_)
  have h := h v_13 ev_13
  have g_14 := h.1
  have h := h.2
  refine q_iast (pc := 112) hx hb hK hI hR (k := 19) lt1_19 (fun f => (ar1_19 _ f _)) g_14 dX7_add_112 (fun H locs σ_15 eσ_15 hR => ?_)
  have h := h σ_15 eσ_15
  refine lv_aload_n (pc := 113) hx hb dX7_add_113 rfl (lv_at hl 0 rfl) ?_
  refine gf1_6_2 (pc := 114) hx hb hts hown hK hR mw165 dX7_add_114 ?_
  refine lv_iload (pc := 117) hx hb dX7_add_117 (lv_at hl 1 rfl) ?_
  have g_16 := h.1
  have h := h.2
  refine q_aald (pc := 119) hx hb hK hR (k := 20) lt1_20 5 rfl rfl (ar1_20 _ _ _) g_16 dX7_add_119 ?_
  refine lv_iconst (pc := 120) (v := 0) hx hb dX7_add_120 (by decide) ?_
  refine lv_sipush (pc := 121) (v := (-1000)) hx hb dX7_add_121 (by decide) ?_
  refine lv_iload (pc := 124) hx hb dX7_add_124 (lv_at hl 1 rfl) ?_
  refine lv_isub (pc := 126) hx hb dX7_add_126 ?_
  refine lv_topi (pc := 127) (fun v_17 ev_17 => ?_)
  have h := h v_17 ev_17
  have g_18 := h.1
  have h := h.2
  refine q_iast (pc := 127) hx hb hK hI hR (k := (123 + x4.toNatClampNeg)) (r20_lt (r20_in g_16)) (fun f => (ev1_r20 (r20_in g_16))) g_18 dX7_add_127 (fun H locs σ_19 eσ_19 hR => ?_)
  have h := h σ_19 eσ_19
  exact bX7_add_128 l w N Q E x4 hR (lv_sub hl [0, 1] rfl) h
def fX7_add_j85 (N : Nat) (x1 : Int32) (x4 : Int32) (Q : Int32 → St → Prop) (σ : St) : Prop := ((x1 = 8 → fX7_add_j97 N x4 Q σ) ∧ (¬ x1 = 8 → ((x1 = 9 → fX7_add_j97 N x4 Q σ) ∧ (¬ x1 = 9 → fX7_add_j128 N x4 Q σ))))
set_option maxHeartbeats 4000000 in
set_option maxRecDepth 100000 in
theorem bX7_add_85 {p : Program} {e : Env} {s : State} {m : MethodId} {args : Array Value} {below : List Frame} {meth : Method} {c : Code} (l : Launch) (w : Wd) (N : Nat) (Q : Int32 → St → Prop) (E : Cx 223 w (X1 w) cX7_add 6 RX7 (.code yX7_add cX7_add 6 (some .int)) (some .int) p s m args meth c) (x1 : Int32) (x4 : Int32) {σ : St} {H : Heap} {locs : List Loc} {ls : Array Slot} (hR : Rr 223 ev1 w σ s H locs) (hl : lv_has ls 6 [(0, .ref (w.2.1 6)), (1, .int x1), (4, .int x4)]) (h : fX7_add_j85 N x1 x4 Q σ) : W p l e rmX7_add s m args below meth c H locs 0 0 (MQ below (va_Qi Q (Rp 223 ev1 w) (Aw 223 w)) args s 0 0 (Aw 223 w)) (F0 m 85 ls []) := by
  obtain ⟨hx, hb, hml, hown, hts, hr, hlk, hK, hI, hX⟩ := id E
  unfold fX7_add_j85 at h
  refine lv_iload_n (pc := 85) hx hb dX7_add_85 rfl (lv_at hl 1 rfl) ?_
  refine lv_bipush (pc := 86) (v := 8) hx hb dX7_add_86 (by decide) ?_
  refine lv_icmp_eq (pc := 88) (tgt := 97) hx hb dX7_add_88 (by decide) (fun c_10 => ?_) (fun c_10 => ?_)
  · have h := h.1 c_10
    exact bX7_add_97 l w N Q E x4 hR (lv_sub hl [0, 2] rfl) h
  · have h := h.2 c_10
    refine lv_iload_n (pc := 91) hx hb dX7_add_91 rfl (lv_at hl 1 rfl) ?_
    refine lv_bipush (pc := 92) (v := 9) hx hb dX7_add_92 (by decide) ?_
    refine lv_icmp_ne (pc := 94) (tgt := 128) hx hb dX7_add_94 (by decide) (fun c_11 => ?_) (fun c_11 => ?_)
    · have h := h.2 c_11
      exact bX7_add_128 l w N Q E x4 hR (lv_sub hl [0, 2] rfl) h
    · have h := h.1 c_11
      exact bX7_add_97 l w N Q E x4 hR (lv_sub hl [0, 2] rfl) h
def fX7_add_l45 (N : Nat) (x1 : Int32) (k2 : Nat) (x3 : Int32) (x4 : Int32) (Q : Int32 → St → Prop) (r45 : Int32 → St → Prop) (x5 : Int32) (σ : St) : Prop := ((x3 ≤ x5 → fX7_add_j85 N x1 x4 Q σ) ∧ (¬ x3 ≤ x5 → ((20 ≤ x5 → fX7_add_j85 N x1 x4 Q σ) ∧ (¬ 20 ≤ x5 → ((120 ≤ x5 → fX7_add_j85 N x1 x4 Q σ) ∧ (¬ 120 ≤ x5 → vp_in x4 60 ∧ vp_in x5 120 ∧ ∀ v_14 : Int32, v_14 = σ.1 k2 x5.toNatClampNeg → vp_in x5 20 ∧ ∀ σ_16 : St, σ_16 = u1 σ (123 + x4.toNatClampNeg) x5.toNatClampNeg v_14 → ∀ v_17 : Int32, v_17 = x5 + 1 → r45 v_17 σ_16))))))
set_option maxHeartbeats 4000000 in
set_option maxRecDepth 100000 in
theorem bX7_add_45 {p : Program} {e : Env} {s : State} {m : MethodId} {args : Array Value} {below : List Frame} {meth : Method} {c : Code} (l : Launch) (w : Wd) (N : Nat) (Q : Int32 → St → Prop) (E : Cx 223 w (X1 w) cX7_add 6 RX7 (.code yX7_add cX7_add 6 (some .int)) (some .int) p s m args meth c) (x1 : Int32) (k2 : Nat) (x3 : Int32) (x4 : Int32) (hk2 : r120 k2) : ∀ (n : Nat) (x5 : Int32) (σ : St) (H : Heap) (locs : List Loc) (ls : Array Slot), Rr 223 ev1 w σ s H locs → lv_has ls 6 [(0, .ref (w.2.1 6)), (1, .int x1), (2, .ref (w.2.1 k2)), (3, .int x3), (4, .int x4), (5, .int x5)] → lo1 (fX7_add_l45 N x1 k2 x3 x4 Q) n x5 σ → W p l e rmX7_add s m args below meth c H locs 0 0 (MQ below (va_Qi Q (Rp 223 ev1 w) (Aw 223 w)) args s 0 0 (Aw 223 w)) (F0 m 45 ls []) := by
  obtain ⟨hx, hb, hml, hown, hts, hr, hlk, hK, hI, hX⟩ := id E
  intro n
  induction n with
  | zero => intro x5 σ H locs ls hR hl h; exact h.elim
  | succ n ih =>
    intro x5 σ H locs ls hR hl h
    have h : fX7_add_l45 N x1 k2 x3 x4 Q (lo1 (fX7_add_l45 N x1 k2 x3 x4 Q) n) x5 σ := h
    unfold fX7_add_l45 at h
    refine lv_iload (pc := 45) hx hb dX7_add_45 (lv_at hl 5 rfl) ?_
    refine lv_iload_n (pc := 47) hx hb dX7_add_47 rfl (lv_at hl 3 rfl) ?_
    refine lv_icmp_ge (pc := 48) (tgt := 85) hx hb dX7_add_48 (by decide) (fun c_9 => ?_) (fun c_9 => ?_)
    · have h := h.1 c_9
      exact bX7_add_85 l w N Q E x1 x4 hR (lv_sub hl [0, 1, 4] rfl) h
    · have h := h.2 c_9
      refine lv_iload (pc := 51) hx hb dX7_add_51 (lv_at hl 5 rfl) ?_
      refine lv_bipush (pc := 53) (v := 20) hx hb dX7_add_53 (by decide) ?_
      refine lv_icmp_ge (pc := 55) (tgt := 85) hx hb dX7_add_55 (by decide) (fun c_10 => ?_) (fun c_10 => ?_)
      · have h := h.1 c_10
        exact bX7_add_85 l w N Q E x1 x4 hR (lv_sub hl [0, 1, 4] rfl) h
      · have h := h.2 c_10
        refine lv_iload (pc := 58) hx hb dX7_add_58 (lv_at hl 5 rfl) ?_
        refine lv_aload_n (pc := 60) hx hb dX7_add_60 rfl (lv_at hl 2 rfl) ?_
        refine va_alen (pc := 61) (v := 120) hx hb hK hR.1 k2 0 (rg_ate (r120_lt hk2) (ev1_r120 hk2)) rfl (show Int32.ofNat 120 = 120 from by decide) dX7_add_61 ?_
        refine lv_icmp_ge (pc := 62) (tgt := 85) hx hb dX7_add_62 (by decide) (fun c_11 => ?_) (fun c_11 => ?_)
        · have h := h.1 c_11
          exact bX7_add_85 l w N Q E x1 x4 hR (lv_sub hl [0, 1, 4] rfl) h
        · have h := h.2 c_11
          refine lv_aload_n (pc := 65) hx hb dX7_add_65 rfl (lv_at hl 0 rfl) ?_
          refine gf1_6_2 (pc := 66) hx hb hts hown hK hR mw165 dX7_add_66 ?_
          refine lv_iload (pc := 69) hx hb dX7_add_69 (lv_at hl 4 rfl) ?_
          have g_12 := h.1
          have h := h.2
          refine q_aald (pc := 71) hx hb hK hR (k := 20) lt1_20 5 rfl rfl (ar1_20 _ _ _) g_12 dX7_add_71 ?_
          refine lv_iload (pc := 72) hx hb dX7_add_72 (lv_at hl 5 rfl) ?_
          refine lv_aload_n (pc := 74) hx hb dX7_add_74 rfl (lv_at hl 2 rfl) ?_
          refine lv_iload (pc := 75) hx hb dX7_add_75 (lv_at hl 5 rfl) ?_
          have g_13 := h.1
          have h := h.2
          refine q_iald (pc := 77) hx hb hK hR (k := k2) (r120_lt hk2) (ev1_r120 hk2) g_13 dX7_add_77 ?_
          refine lv_topi (pc := 78) (fun v_14 ev_14 => ?_)
          have h := h v_14 ev_14
          have g_15 := h.1
          have h := h.2
          refine q_iast (pc := 78) hx hb hK hI hR (k := (123 + x4.toNatClampNeg)) (r20_lt (r20_in g_12)) (fun f => (ev1_r20 (r20_in g_12))) g_15 dX7_add_78 (fun H locs σ_16 eσ_16 hR => ?_)
          have h := h σ_16 eσ_16
          obtain ⟨v_17, ev_17⟩ : ∃ z : Int32, z = x5 + 1 := ⟨_, rfl⟩
          have h := h v_17 ev_17
          refine lv_iinc (pc := 79) (v := v_17) (lv' := [(5, .int v_17), (0, .ref (w.2.1 6)), (1, .int x1), (2, .ref (w.2.1 k2)), (3, .int x3), (4, .int x4)]) hx hb dX7_add_79 hl (k := 5) rfl (by rw [ev_17]; rfl) (by decide) rfl (fun ls hl => ?_)
          refine lv_goto (pc := 82) (tgt := 45) hx hb dX7_add_82 (by decide) ?_
          exact ih v_17 σ_16 _ _ _ hR (lv_sub hl [1, 2, 3, 4, 5, 0] rfl) h
def fX7_add (N : Nat) (x1 : Int32) (k2 : Nat) (x3 : Int32) (Q : Int32 → St → Prop) (σ : St) : Prop := (((σ.1 6 5) < 60 → ∀ v_2 : Int32, v_2 = σ.1 6 5 → vp_in v_2 60 ∧ ∀ σ_4 : St, σ_4 = u1 σ 18 v_2.toNatClampNeg x1 → vp_in v_2 60 ∧ ∀ σ_6 : St, σ_6 = u1 σ_4 21 v_2.toNatClampNeg x3 → vp_in v_2 60 ∧ ∀ σ_8 : St, σ_8 = u1 σ_6 22 v_2.toNatClampNeg (-1) → lo1 (fX7_add_l45 N x1 k2 x3 v_2 Q) N 0 σ_8) ∧ (¬ (σ.1 6 5) < 60 → Q (-4) σ))
set_option maxHeartbeats 4000000 in
set_option maxRecDepth 100000 in
theorem bX7_add_e {p : Program} {e : Env} {s : State} {m : MethodId} {args : Array Value} {below : List Frame} {meth : Method} {c : Code} (l : Launch) (w : Wd) (N : Nat) (Q : Int32 → St → Prop) (E : Cx 223 w (X1 w) cX7_add 6 RX7 (.code yX7_add cX7_add 6 (some .int)) (some .int) p s m args meth c) (x1 : Int32) (k2 : Nat) (x3 : Int32) (hk2 : r120 k2) {σ : St} {H : Heap} {locs : List Loc} {ls : Array Slot} (hR : Rr 223 ev1 w σ s H locs) (hl : lv_has ls 6 [(0, .ref (w.2.1 6)), (1, .int x1), (2, .ref (w.2.1 k2)), (3, .int x3)]) (h : fX7_add N x1 k2 x3 Q σ) : W p l e rmX7_add s m args below meth c H locs 0 0 (MQ below (va_Qi Q (Rp 223 ev1 w) (Aw 223 w)) args s 0 0 (Aw 223 w)) (F0 m 0 ls []) := by
  obtain ⟨hx, hb, hml, hown, hts, hr, hlk, hK, hI, hX⟩ := id E
  unfold fX7_add at h
  refine lv_aload_n (pc := 0) hx hb dX7_add_0 rfl (lv_at hl 0 rfl) ?_
  refine gf1_6_5 (pc := 1) hx hb hts hown hK hR mw160 dX7_add_1 ?_
  refine lv_bipush (pc := 4) (v := 60) hx hb dX7_add_4 (by decide) ?_
  refine lv_icmp_lt (pc := 6) (tgt := 12) hx hb dX7_add_6 (by decide) (fun c_1 => ?_) (fun c_1 => ?_)
  · have h := h.1 c_1
    refine lv_aload_n (pc := 12) hx hb dX7_add_12 rfl (lv_at hl 0 rfl) ?_
    refine gf1_6_5 (pc := 13) hx hb hts hown hK hR mw160 dX7_add_13 ?_
    refine lv_topi (pc := 16) (fun v_2 ev_2 => ?_)
    have h := h v_2 ev_2
    refine lv_istore (pc := 16) (lv' := [(4, .int v_2), (0, .ref (w.2.1 6)), (1, .int x1), (2, .ref (w.2.1 k2)), (3, .int x3)]) hx hb dX7_add_16 hl (by decide) rfl (fun ls hl => ?_)
    refine lv_aload_n (pc := 18) hx hb dX7_add_18 rfl (lv_at hl 1 rfl) ?_
    refine gf1_6_0 (pc := 19) hx hb hts hown hK hR mw161 dX7_add_19 ?_
    refine lv_iload (pc := 22) hx hb dX7_add_22 (lv_at hl 0 rfl) ?_
    refine lv_iload_n (pc := 24) hx hb dX7_add_24 rfl (lv_at hl 2 rfl) ?_
    have g_3 := h.1
    have h := h.2
    refine q_iast (pc := 25) hx hb hK hI hR (k := 18) lt1_18 (fun f => (ar1_18 _ f _)) g_3 dX7_add_25 (fun H locs σ_4 eσ_4 hR => ?_)
    have h := h σ_4 eσ_4
    refine lv_aload_n (pc := 26) hx hb dX7_add_26 rfl (lv_at hl 1 rfl) ?_
    refine gf1_6_3 (pc := 27) hx hb hts hown hK hR mw162 dX7_add_27 ?_
    refine lv_iload (pc := 30) hx hb dX7_add_30 (lv_at hl 0 rfl) ?_
    refine lv_iload_n (pc := 32) hx hb dX7_add_32 rfl (lv_at hl 4 rfl) ?_
    have g_5 := h.1
    have h := h.2
    refine q_iast (pc := 33) hx hb hK hI hR (k := 21) lt1_21 (fun f => (ar1_21 _ f _)) g_5 dX7_add_33 (fun H locs σ_6 eσ_6 hR => ?_)
    have h := h σ_6 eσ_6
    refine lv_aload_n (pc := 34) hx hb dX7_add_34 rfl (lv_at hl 1 rfl) ?_
    refine gf1_6_4 (pc := 35) hx hb hts hown hK hR mw163 dX7_add_35 ?_
    refine lv_iload (pc := 38) hx hb dX7_add_38 (lv_at hl 0 rfl) ?_
    refine lv_iconst (pc := 40) (v := (-1)) hx hb dX7_add_40 (by decide) ?_
    have g_7 := h.1
    have h := h.2
    refine q_iast (pc := 41) hx hb hK hI hR (k := 22) lt1_22 (fun f => (ar1_22 _ f _)) g_7 dX7_add_41 (fun H locs σ_8 eσ_8 hR => ?_)
    have h := h σ_8 eσ_8
    refine lv_iconst (pc := 42) (v := 0) hx hb dX7_add_42 (by decide) ?_
    refine lv_istore (pc := 43) (lv' := [(5, .int 0), (4, .int v_2), (0, .ref (w.2.1 6)), (1, .int x1), (2, .ref (w.2.1 k2)), (3, .int x3)]) hx hb dX7_add_43 hl (by decide) rfl (fun ls hl => ?_)
    exact bX7_add_45 l w N Q E x1 k2 x3 v_2 hk2 N 0 σ_8 _ _ _ hR (lv_sub hl [2, 3, 4, 5, 1, 0] rfl) h
  · have h := h.2 c_1
    refine lv_bipush (pc := 9) (v := (-4)) hx hb dX7_add_9 (by decide) ?_
    exact q_iret (pc := 11) E hR h dX7_add_11
theorem cX7_add_met (l : Launch) (w : Wd) (hI : Ij 223 w) (N : Nat) (x1 : Int32) (k2 : Nat) (x3 : Int32) (hk2 : r120 k2) (Q : Int32 → St → Prop) (σ : St) (h : fX7_add N x1 k2 x3 Q σ) : Met l yX7_add (.code yX7_add cX7_add 6 (some .int) :: Uw) rmX7_add (va_Pc [.ref (w.2.1 6), .int x1, .ref (w.2.1 k2), .int x3] (fun U => Rp 223 ev1 w σ U ∧ (X1 w) U)) (va_Qi Q (Rp 223 ev1 w) (Aw 223 w)) 0 0 (Aw 223 w) :=
  q_met (by decide) (Nat.le_of_ble_eq_true rfl) hI (fun p e s m below meth c ls E hl hR => bX7_add_e l w N Q E x1 k2 x3 hk2 hR hl h)
-- GlulxStrings.piece(I)I
abbrev rmX11_piece : Room := { frames := 2, cells := 0, slots := 0, locals := 45 }
def fX11_piece (N : Nat) (x1 : Int32) (Q : Int32 → St → Prop) (σ : St) : Prop := ∀ v_1 : Int32, v_1 = σ.1 0 7 → ∀ σ_2 : St, σ_2 = u1 σ 0 7 0 → fX7_isPiece N x1 11 v_1 (fun r_4 σ_3 => ((r_4 = 0 → Q (-2) σ_3) ∧ (¬ r_4 = 0 → fX7_add N x1 11 v_1 (fun r_7 σ_6 => Q r_7 σ_6) σ_3))) σ_2
set_option maxHeartbeats 4000000 in
set_option maxRecDepth 100000 in
theorem bX11_piece_e {p : Program} {e : Env} {s : State} {m : MethodId} {args : Array Value} {below : List Frame} {meth : Method} {c : Code} (l : Launch) (w : Wd) (N : Nat) (Q : Int32 → St → Prop) (E : Cx 223 w (X1 w) cX11_piece 3 RX11 (.code yX11_piece cX11_piece 3 (some .int)) (some .int) p s m args meth c) (x1 : Int32) {σ : St} {H : Heap} {locs : List Loc} {ls : Array Slot} (hR : Rr 223 ev1 w σ s H locs) (hl : lv_has ls 3 [(0, .ref (w.2.1 0)), (1, .int x1)]) (h : fX11_piece N x1 Q σ) : W p l e rmX11_piece s m args below meth c H locs 0 0 (MQ below (va_Qi Q (Rp 223 ev1 w) (Aw 223 w)) args s 0 0 (Aw 223 w)) (F0 m 0 ls []) := by
  obtain ⟨hx, hb, hml, hown, hts, hr, hlk, hK, hI, hX⟩ := id E
  unfold fX11_piece at h
  refine lv_aload_n (pc := 0) hx hb dX11_piece_0 rfl (lv_at hl 0 rfl) ?_
  refine gf1_0_7 (pc := 1) hx hb hts hown hK hR mw131 dX11_piece_1 ?_
  refine lv_topi (pc := 4) (fun v_1 ev_1 => ?_)
  have h := h v_1 ev_1
  refine lv_istore_n (pc := 4) (lv' := [(2, .int v_1), (0, .ref (w.2.1 0)), (1, .int x1)]) hx hb dX11_piece_4 rfl hl (by decide) rfl (fun ls hl => ?_)
  refine lv_aload_n (pc := 5) hx hb dX11_piece_5 rfl (lv_at hl 1 rfl) ?_
  refine lv_iconst (pc := 6) (v := 0) hx hb dX11_piece_6 (by decide) ?_
  refine pf1_0_7 (pc := 7) hx hb hts hown hK hI hR mw131 dX11_piece_7 (fun H locs σ_2 eσ_2 hR => ?_)
  have h := h σ_2 eσ_2
  refine lv_iload_n (pc := 10) hx hb dX11_piece_10 rfl (lv_at hl 2 rfl) ?_
  refine lv_aload_n (pc := 11) hx hb dX11_piece_11 rfl (lv_at hl 1 rfl) ?_
  refine gf1_0_5 (pc := 12) hx hb hts hown hK hR mw132 dX11_piece_12 ?_
  refine lv_iload_n (pc := 15) hx hb dX11_piece_15 rfl (lv_at hl 0 rfl) ?_
  refine q_ci (pc := 16) hR (q_rS E (xp1 w) (As := [.int x1, .ref (w.2.1 11), .int v_1]) (rest := []) (cX7_isPiece_met l w hI N x1 11 v_1 r120_11 _ σ_2 h) ckX7_isPiece csX7_isPiece mw166 ⟨rfl, rfl, Nat.le_of_ble_eq_true rfl, Nat.le_of_ble_eq_true rfl⟩ hR rfl hl.1 rfl (Nat.le_of_ble_eq_true rfl) dX11_piece_16) (fun r_4 σ_3 H locs h hR => ?_)
  refine lv_if_ne (pc := 19) (tgt := 25) hx hb dX11_piece_19 (by decide) (fun c_5 => ?_) (fun c_5 => ?_)
  · have h := h.2 c_5
    refine lv_aload_n (pc := 25) hx hb dX11_piece_25 rfl (lv_at hl 1 rfl) ?_
    refine gf1_0_3 (pc := 26) hx hb hts hown hK hR mw152 dX11_piece_26 ?_
    refine gf1_4_2 (pc := 29) hx hb hts hown hK hR mw153 dX11_piece_29 ?_
    refine lv_iload_n (pc := 32) hx hb dX11_piece_32 rfl (lv_at hl 2 rfl) ?_
    refine lv_aload_n (pc := 33) hx hb dX11_piece_33 rfl (lv_at hl 1 rfl) ?_
    refine gf1_0_5 (pc := 34) hx hb hts hown hK hR mw132 dX11_piece_34 ?_
    refine lv_iload_n (pc := 37) hx hb dX11_piece_37 rfl (lv_at hl 0 rfl) ?_
    refine q_ci (pc := 38) hR (q_rV E (xp1 w) (As := [.int x1, .ref (w.2.1 11), .int v_1]) (rest := []) (cX7_add_met l w hI N x1 11 v_1 r120_11 _ σ_3 h) ckX7_add cvX7_add mw167 ⟨rfl, rfl, Nat.le_of_ble_eq_true rfl, Nat.le_of_ble_eq_true rfl⟩ hR (rc1_6 w) rfl hl.1 rfl (Nat.le_of_ble_eq_true rfl) dX11_piece_38) (fun r_7 σ_6 H locs h hR => ?_)
    exact q_iret (pc := 41) E hR h dX11_piece_41
  · have h := h.1 c_5
    refine lv_bipush (pc := 22) (v := (-2)) hx hb dX11_piece_22 (by decide) ?_
    exact q_iret (pc := 24) E hR h dX11_piece_24
theorem cX11_piece_met (l : Launch) (w : Wd) (hI : Ij 223 w) (N : Nat) (x1 : Int32) (Q : Int32 → St → Prop) (σ : St) (h : fX11_piece N x1 Q σ) : Met l yX11_piece (.code yX11_piece cX11_piece 3 (some .int) :: Uw) rmX11_piece (va_Pc [.ref (w.2.1 0), .int x1] (fun U => Rp 223 ev1 w σ U ∧ (X1 w) U)) (va_Qi Q (Rp 223 ev1 w) (Aw 223 w)) 0 0 (Aw 223 w) :=
  q_met (by decide) (Nat.le_of_ble_eq_true rfl) hI (fun p e s m below meth c ls E hl hR => bX11_piece_e l w N Q E x1 hR hl h)
-- GlulxStrings$Pieces.standsAt(I[III)Z
abbrev rmX7_standsAt : Room := { frames := 0, cells := 0, slots := 0, locals := 0 }
def fX7_standsAt_l29 (N : Nat) (x1 : Int32) (k2 : Nat) (x3 : Int32) (Q : Int32 → St → Prop) (r29 : Int32 → St → Prop) (x5 : Int32) (σ : St) : Prop := vp_in x1 60 ∧ (((σ.1 21 x1.toNatClampNeg) ≤ x5 → Q 1 σ) ∧ (¬ (σ.1 21 x1.toNatClampNeg) ≤ x5 → ((20 ≤ x5 → Q 1 σ) ∧ (¬ 20 ≤ x5 → vp_in (x3 + x5) 120 ∧ vp_in x1 60 ∧ vp_in x5 20 ∧ (((σ.1 k2 (x3 + x5).toNatClampNeg) = (σ.1 (123 + x1.toNatClampNeg) x5.toNatClampNeg) → ∀ v_12 : Int32, v_12 = x5 + 1 → r29 v_12 σ) ∧ (¬ (σ.1 k2 (x3 + x5).toNatClampNeg) = (σ.1 (123 + x1.toNatClampNeg) x5.toNatClampNeg) → Q 0 σ))))))
set_option maxHeartbeats 4000000 in
set_option maxRecDepth 100000 in
theorem bX7_standsAt_29 {p : Program} {e : Env} {s : State} {m : MethodId} {args : Array Value} {below : List Frame} {meth : Method} {c : Code} (l : Launch) (w : Wd) (N : Nat) (Q : Int32 → St → Prop) (E : Cx 223 w (X1 w) cX7_standsAt 6 RX7 (.code yX7_standsAt cX7_standsAt 6 (some .boolean)) (some .boolean) p s m args meth c) (x1 : Int32) (k2 : Nat) (x3 : Int32) (hk2 : r120 k2) : ∀ (n : Nat) (x5 : Int32) (σ : St) (H : Heap) (locs : List Loc) (ls : Array Slot), Rr 223 ev1 w σ s H locs → lv_has ls 6 [(0, .ref (w.2.1 6)), (1, .int x1), (2, .ref (w.2.1 k2)), (3, .int x3), (5, .int x5)] → lo1 (fX7_standsAt_l29 N x1 k2 x3 Q) n x5 σ → W p l e rmX7_standsAt s m args below meth c H locs 0 0 (MQ below (va_Qi Q (Rp 223 ev1 w) (Aw 223 w)) args s 0 0 (Aw 223 w)) (F0 m 29 ls []) := by
  obtain ⟨hx, hb, hml, hown, hts, hr, hlk, hK, hI, hX⟩ := id E
  intro n
  induction n with
  | zero => intro x5 σ H locs ls hR hl h; exact h.elim
  | succ n ih =>
    intro x5 σ H locs ls hR hl h
    have h : fX7_standsAt_l29 N x1 k2 x3 Q (lo1 (fX7_standsAt_l29 N x1 k2 x3 Q) n) x5 σ := h
    unfold fX7_standsAt_l29 at h
    refine lv_iload (pc := 29) hx hb dX7_standsAt_29 (lv_at hl 4 rfl) ?_
    refine lv_aload_n (pc := 31) hx hb dX7_standsAt_31 rfl (lv_at hl 0 rfl) ?_
    refine gf1_6_3 (pc := 32) hx hb hts hown hK hR mw162 dX7_standsAt_32 ?_
    refine lv_iload_n (pc := 35) hx hb dX7_standsAt_35 rfl (lv_at hl 1 rfl) ?_
    have g_5 := h.1
    have h := h.2
    refine q_iald (pc := 36) hx hb hK hR (k := 21) lt1_21 (ar1_21 _ _ _) g_5 dX7_standsAt_36 ?_
    refine lv_icmp_ge (pc := 37) (tgt := 73) hx hb dX7_standsAt_37 (by decide) (fun c_6 => ?_) (fun c_6 => ?_)
    · have h := h.1 c_6
      refine lv_iconst (pc := 73) (v := 1) hx hb dX7_standsAt_73 (by decide) ?_
      exact q_zret (pc := 74) E hR h rfl dX7_standsAt_74
    · have h := h.2 c_6
      refine lv_iload (pc := 40) hx hb dX7_standsAt_40 (lv_at hl 4 rfl) ?_
      refine lv_bipush (pc := 42) (v := 20) hx hb dX7_standsAt_42 (by decide) ?_
      refine lv_icmp_ge (pc := 44) (tgt := 73) hx hb dX7_standsAt_44 (by decide) (fun c_7 => ?_) (fun c_7 => ?_)
      · have h := h.1 c_7
        refine lv_iconst (pc := 73) (v := 1) hx hb dX7_standsAt_73 (by decide) ?_
        exact q_zret (pc := 74) E hR h rfl dX7_standsAt_74
      · have h := h.2 c_7
        refine lv_aload_n (pc := 47) hx hb dX7_standsAt_47 rfl (lv_at hl 2 rfl) ?_
        refine lv_iload_n (pc := 48) hx hb dX7_standsAt_48 rfl (lv_at hl 3 rfl) ?_
        refine lv_iload (pc := 49) hx hb dX7_standsAt_49 (lv_at hl 4 rfl) ?_
        refine lv_iadd (pc := 51) hx hb dX7_standsAt_51 ?_
        have g_8 := h.1
        have h := h.2
        refine q_iald (pc := 52) hx hb hK hR (k := k2) (r120_lt hk2) (ev1_r120 hk2) g_8 dX7_standsAt_52 ?_
        refine lv_aload_n (pc := 53) hx hb dX7_standsAt_53 rfl (lv_at hl 0 rfl) ?_
        refine gf1_6_2 (pc := 54) hx hb hts hown hK hR mw165 dX7_standsAt_54 ?_
        refine lv_iload_n (pc := 57) hx hb dX7_standsAt_57 rfl (lv_at hl 1 rfl) ?_
        have g_9 := h.1
        have h := h.2
        refine q_aald (pc := 58) hx hb hK hR (k := 20) lt1_20 5 rfl rfl (ar1_20 _ _ _) g_9 dX7_standsAt_58 ?_
        refine lv_iload (pc := 59) hx hb dX7_standsAt_59 (lv_at hl 4 rfl) ?_
        have g_10 := h.1
        have h := h.2
        refine q_iald (pc := 61) hx hb hK hR (k := (123 + x1.toNatClampNeg)) (r20_lt (r20_in g_9)) (ev1_r20 (r20_in g_9)) g_10 dX7_standsAt_61 ?_
        refine lv_icmp_eq (pc := 62) (tgt := 67) hx hb dX7_standsAt_62 (by decide) (fun c_11 => ?_) (fun c_11 => ?_)
        · have h := h.1 c_11
          obtain ⟨v_12, ev_12⟩ : ∃ z : Int32, z = x5 + 1 := ⟨_, rfl⟩
          have h := h v_12 ev_12
          refine lv_iinc (pc := 67) (v := v_12) (lv' := [(5, .int v_12), (0, .ref (w.2.1 6)), (1, .int x1), (2, .ref (w.2.1 k2)), (3, .int x3)]) hx hb dX7_standsAt_67 hl (k := 4) rfl (by rw [ev_12]; rfl) (by decide) rfl (fun ls hl => ?_)
          refine lv_goto (pc := 70) (tgt := 29) hx hb dX7_standsAt_70 (by decide) ?_
          exact ih v_12 σ _ _ _ hR (lv_sub hl [1, 2, 3, 4, 0] rfl) h
        · have h := h.2 c_11
          refine lv_iconst (pc := 65) (v := 0) hx hb dX7_standsAt_65 (by decide) ?_
          exact q_zret (pc := 66) E hR h rfl dX7_standsAt_66
def fX7_standsAt (N : Nat) (x1 : Int32) (k2 : Nat) (x3 : Int32) (x4 : Int32) (Q : Int32 → St → Prop) (σ : St) : Prop := ((x3 < 0 → Q 0 σ) ∧ (¬ x3 < 0 → ((120 < x4 → Q 0 σ) ∧ (¬ 120 < x4 → vp_in x1 60 ∧ (((σ.1 21 x1.toNatClampNeg) ≤ (x4 - x3) → lo1 (fX7_standsAt_l29 N x1 k2 x3 Q) N 0 σ) ∧ (¬ (σ.1 21 x1.toNatClampNeg) ≤ (x4 - x3) → Q 0 σ))))))
set_option maxHeartbeats 4000000 in
set_option maxRecDepth 100000 in
theorem bX7_standsAt_e {p : Program} {e : Env} {s : State} {m : MethodId} {args : Array Value} {below : List Frame} {meth : Method} {c : Code} (l : Launch) (w : Wd) (N : Nat) (Q : Int32 → St → Prop) (E : Cx 223 w (X1 w) cX7_standsAt 6 RX7 (.code yX7_standsAt cX7_standsAt 6 (some .boolean)) (some .boolean) p s m args meth c) (x1 : Int32) (k2 : Nat) (x3 : Int32) (x4 : Int32) (hk2 : r120 k2) {σ : St} {H : Heap} {locs : List Loc} {ls : Array Slot} (hR : Rr 223 ev1 w σ s H locs) (hl : lv_has ls 6 [(0, .ref (w.2.1 6)), (1, .int x1), (2, .ref (w.2.1 k2)), (3, .int x3), (4, .int x4)]) (h : fX7_standsAt N x1 k2 x3 x4 Q σ) : W p l e rmX7_standsAt s m args below meth c H locs 0 0 (MQ below (va_Qi Q (Rp 223 ev1 w) (Aw 223 w)) args s 0 0 (Aw 223 w)) (F0 m 0 ls []) := by
  obtain ⟨hx, hb, hml, hown, hts, hr, hlk, hK, hI, hX⟩ := id E
  unfold fX7_standsAt at h
  refine lv_iload_n (pc := 0) hx hb dX7_standsAt_0 rfl (lv_at hl 3 rfl) ?_
  refine lv_if_lt (pc := 1) (tgt := 24) hx hb dX7_standsAt_1 (by decide) (fun c_1 => ?_) (fun c_1 => ?_)
  · have h := h.1 c_1
    refine lv_iconst (pc := 24) (v := 0) hx hb dX7_standsAt_24 (by decide) ?_
    exact q_zret (pc := 25) E hR h rfl dX7_standsAt_25
  · have h := h.2 c_1
    refine lv_iload (pc := 4) hx hb dX7_standsAt_4 (lv_at hl 4 rfl) ?_
    refine lv_aload_n (pc := 6) hx hb dX7_standsAt_6 rfl (lv_at hl 2 rfl) ?_
    refine va_alen (pc := 7) (v := 120) hx hb hK hR.1 k2 0 (rg_ate (r120_lt hk2) (ev1_r120 hk2)) rfl (show Int32.ofNat 120 = 120 from by decide) dX7_standsAt_7 ?_
    refine lv_icmp_gt (pc := 8) (tgt := 24) hx hb dX7_standsAt_8 (by decide) (fun c_2 => ?_) (fun c_2 => ?_)
    · have h := h.1 c_2
      refine lv_iconst (pc := 24) (v := 0) hx hb dX7_standsAt_24 (by decide) ?_
      exact q_zret (pc := 25) E hR h rfl dX7_standsAt_25
    · have h := h.2 c_2
      refine lv_aload_n (pc := 11) hx hb dX7_standsAt_11 rfl (lv_at hl 0 rfl) ?_
      refine gf1_6_3 (pc := 12) hx hb hts hown hK hR mw162 dX7_standsAt_12 ?_
      refine lv_iload_n (pc := 15) hx hb dX7_standsAt_15 rfl (lv_at hl 1 rfl) ?_
      have g_3 := h.1
      have h := h.2
      refine q_iald (pc := 16) hx hb hK hR (k := 21) lt1_21 (ar1_21 _ _ _) g_3 dX7_standsAt_16 ?_
      refine lv_iload (pc := 17) hx hb dX7_standsAt_17 (lv_at hl 4 rfl) ?_
      refine lv_iload_n (pc := 19) hx hb dX7_standsAt_19 rfl (lv_at hl 3 rfl) ?_
      refine lv_isub (pc := 20) hx hb dX7_standsAt_20 ?_
      refine lv_icmp_le (pc := 21) (tgt := 26) hx hb dX7_standsAt_21 (by decide) (fun c_4 => ?_) (fun c_4 => ?_)
      · have h := h.1 c_4
        refine lv_iconst (pc := 26) (v := 0) hx hb dX7_standsAt_26 (by decide) ?_
        refine lv_istore (pc := 27) (lv' := [(5, .int 0), (0, .ref (w.2.1 6)), (1, .int x1), (2, .ref (w.2.1 k2)), (3, .int x3), (4, .int x4)]) hx hb dX7_standsAt_27 hl (by decide) rfl (fun ls hl => ?_)
        exact bX7_standsAt_29 l w N Q E x1 k2 x3 hk2 N 0 σ _ _ _ hR (lv_sub hl [1, 2, 3, 4, 0] rfl) h
      · have h := h.2 c_4
        refine lv_iconst (pc := 24) (v := 0) hx hb dX7_standsAt_24 (by decide) ?_
        exact q_zret (pc := 25) E hR h rfl dX7_standsAt_25
theorem cX7_standsAt_met (l : Launch) (w : Wd) (hI : Ij 223 w) (N : Nat) (x1 : Int32) (k2 : Nat) (x3 : Int32) (x4 : Int32) (hk2 : r120 k2) (Q : Int32 → St → Prop) (σ : St) (h : fX7_standsAt N x1 k2 x3 x4 Q σ) : Met l yX7_standsAt (.code yX7_standsAt cX7_standsAt 6 (some .boolean) :: Uw) rmX7_standsAt (va_Pc [.ref (w.2.1 6), .int x1, .ref (w.2.1 k2), .int x3, .int x4] (fun U => Rp 223 ev1 w σ U ∧ (X1 w) U)) (va_Qi Q (Rp 223 ev1 w) (Aw 223 w)) 0 0 (Aw 223 w) :=
  q_met (by decide) (Nat.le_of_ble_eq_true rfl) hI (fun p e s m below meth c ls E hl hR => bX7_standsAt_e l w N Q E x1 k2 x3 x4 hk2 hR hl h)
-- GlulxStrings$Parting.choose([III)V
abbrev rmX6_choose : Room := { frames := 1, cells := 0, slots := 0, locals := 25 }
def fX6_choose_j144 (N : Nat) (r21 : Int32 → Int32 → St → Prop) (k1 : Nat) (x2 : Int32) (x3 : Int32) (x4 : Int32) (x5 : Int32) (Q : St → Prop) (σ : St) : Prop := ∀ v_16 : Int32, v_16 = x5 + 1 → r21 x4 v_16 σ
set_option maxHeartbeats 4000000 in
set_option maxRecDepth 100000 in
theorem bX6_choose_144 {p : Program} {e : Env} {s : State} {m : MethodId} {args : Array Value} {below : List Frame} {meth : Method} {c : Code} (l : Launch) (w : Wd) (N : Nat) (Q : St → Prop) (E : Cx 223 w (X1 w) cX6_choose 9 RX6 (.code yX6_choose cX6_choose 9 none) none p s m args meth c) (k1 : Nat) (x2 : Int32) (x3 : Int32) (x4 : Int32) (x5 : Int32) (hk1 : r120 k1) (r21 : Int32 → Int32 → St → Prop) (hr21 : ∀ (x4 : Int32) (x5 : Int32) (σ : St) (H : Heap) (locs : List Loc) (ls : Array Slot), Rr 223 ev1 w σ s H locs → lv_has ls 9 [(0, .ref (w.2.1 8)), (1, .ref (w.2.1 k1)), (2, .int x2), (3, .int x3), (4, .int x4), (5, .int x5)] → r21 x4 x5 σ → W p l e rmX6_choose s m args below meth c H locs 0 0 (MQ below (va_Qv Q (Rp 223 ev1 w) (Aw 223 w)) args s 0 0 (Aw 223 w)) (F0 m 21 ls [])) {σ : St} {H : Heap} {locs : List Loc} {ls : Array Slot} (hR : Rr 223 ev1 w σ s H locs) (hl : lv_has ls 9 [(0, .ref (w.2.1 8)), (1, .ref (w.2.1 k1)), (2, .int x2), (3, .int x3), (4, .int x4), (5, .int x5)]) (h : fX6_choose_j144 N r21 k1 x2 x3 x4 x5 Q σ) : W p l e rmX6_choose s m args below meth c H locs 0 0 (MQ below (va_Qv Q (Rp 223 ev1 w) (Aw 223 w)) args s 0 0 (Aw 223 w)) (F0 m 144 ls []) := by
  obtain ⟨hx, hb, hml, hown, hts, hr, hlk, hK, hI, hX⟩ := id E
  unfold fX6_choose_j144 at h
  obtain ⟨v_16, ev_16⟩ : ∃ z : Int32, z = x5 + 1 := ⟨_, rfl⟩
  have h := h v_16 ev_16
  refine lv_iinc (pc := 144) (v := v_16) (lv' := [(5, .int v_16), (0, .ref (w.2.1 8)), (1, .ref (w.2.1 k1)), (2, .int x2), (3, .int x3), (4, .int x4)]) hx hb dX6_choose_144 hl (k := 5) rfl (by rw [ev_16]; rfl) (by decide) rfl (fun ls hl => ?_)
  refine lv_goto (pc := 147) (tgt := 21) hx hb dX6_choose_147 (by decide) ?_
  exact hr21 x4 v_16 σ _ _ _ hR (lv_sub hl [1, 2, 3, 4, 5, 0] rfl) h
def fX6_choose_j110 (N : Nat) (r21 : Int32 → Int32 → St → Prop) (k1 : Nat) (x2 : Int32) (x3 : Int32) (x4 : Int32) (x5 : Int32) (x6 : Int32) (x7 : Int32) (t0 : Int32) (Q : St → Prop) (σ : St) : Prop := ((121 ≤ x7 → fX6_choose_j144 N r21 k1 x2 x3 x4 x5 Q σ) ∧ (¬ 121 ≤ x7 → ((t0 = 0 → fX6_choose_j144 N r21 k1 x2 x3 x4 x5 Q σ) ∧ (¬ t0 = 0 → vp_in x2 121 ∧ ∀ σ_18 : St, σ_18 = u1 σ 27 x2.toNatClampNeg x7 → vp_in x2 121 ∧ ∀ σ_20 : St, σ_20 = u1 σ_18 28 x2.toNatClampNeg x5 → fX6_choose_j144 N r21 k1 x2 x3 x6 x5 Q σ_20))))
set_option maxHeartbeats 4000000 in
set_option maxRecDepth 100000 in
theorem bX6_choose_110 {p : Program} {e : Env} {s : State} {m : MethodId} {args : Array Value} {below : List Frame} {meth : Method} {c : Code} (l : Launch) (w : Wd) (N : Nat) (Q : St → Prop) (E : Cx 223 w (X1 w) cX6_choose 9 RX6 (.code yX6_choose cX6_choose 9 none) none p s m args meth c) (k1 : Nat) (x2 : Int32) (x3 : Int32) (x4 : Int32) (x5 : Int32) (x6 : Int32) (x7 : Int32) (t0 : Int32) (hk1 : r120 k1) (r21 : Int32 → Int32 → St → Prop) (hr21 : ∀ (x4 : Int32) (x5 : Int32) (σ : St) (H : Heap) (locs : List Loc) (ls : Array Slot), Rr 223 ev1 w σ s H locs → lv_has ls 9 [(0, .ref (w.2.1 8)), (1, .ref (w.2.1 k1)), (2, .int x2), (3, .int x3), (4, .int x4), (5, .int x5)] → r21 x4 x5 σ → W p l e rmX6_choose s m args below meth c H locs 0 0 (MQ below (va_Qv Q (Rp 223 ev1 w) (Aw 223 w)) args s 0 0 (Aw 223 w)) (F0 m 21 ls [])) {σ : St} {H : Heap} {locs : List Loc} {ls : Array Slot} (hR : Rr 223 ev1 w σ s H locs) (hl : lv_has ls 9 [(0, .ref (w.2.1 8)), (1, .ref (w.2.1 k1)), (2, .int x2), (3, .int x3), (4, .int x4), (5, .int x5), (6, .int x6), (7, .int x7)]) (h : fX6_choose_j110 N r21 k1 x2 x3 x4 x5 x6 x7 t0 Q σ) : W p l e rmX6_choose s m args below meth c H locs 0 0 (MQ below (va_Qv Q (Rp 223 ev1 w) (Aw 223 w)) args s 0 0 (Aw 223 w)) (F0 m 110 ls [.int t0]) := by
  obtain ⟨hx, hb, hml, hown, hts, hr, hlk, hK, hI, hX⟩ := id E
  unfold fX6_choose_j110 at h
  refine lv_istore (pc := 110) (lv' := [(8, .int t0), (0, .ref (w.2.1 8)), (1, .ref (w.2.1 k1)), (2, .int x2), (3, .int x3), (4, .int x4), (5, .int x5), (6, .int x6), (7, .int x7)]) hx hb dX6_choose_110 hl (by decide) rfl (fun ls hl => ?_)
  refine lv_iload (pc := 112) hx hb dX6_choose_112 (lv_at hl 8 rfl) ?_
  refine lv_bipush (pc := 114) (v := 121) hx hb dX6_choose_114 (by decide) ?_
  refine lv_icmp_ge (pc := 116) (tgt := 144) hx hb dX6_choose_116 (by decide) (fun c_15 => ?_) (fun c_15 => ?_)
  · have h := h.1 c_15
    exact bX6_choose_144 l w N Q E k1 x2 x3 x4 x5 hk1 r21 hr21 hR (lv_sub hl [1, 2, 3, 4, 5, 6] rfl) h
  · have h := h.2 c_15
    refine lv_iload (pc := 119) hx hb dX6_choose_119 (lv_at hl 0 rfl) ?_
    refine lv_if_eq (pc := 121) (tgt := 144) hx hb dX6_choose_121 (by decide) (fun c_16 => ?_) (fun c_16 => ?_)
    · have h := h.1 c_16
      exact bX6_choose_144 l w N Q E k1 x2 x3 x4 x5 hk1 r21 hr21 hR (lv_sub hl [1, 2, 3, 4, 5, 6] rfl) h
    · have h := h.2 c_16
      refine lv_aload_n (pc := 124) hx hb dX6_choose_124 rfl (lv_at hl 1 rfl) ?_
      refine gf1_8_1 (pc := 125) hx hb hts hown hK hR mw168 dX6_choose_125 ?_
      refine lv_iload_n (pc := 128) hx hb dX6_choose_128 rfl (lv_at hl 3 rfl) ?_
      refine lv_iload (pc := 129) hx hb dX6_choose_129 (lv_at hl 8 rfl) ?_
      have g_17 := h.1
      have h := h.2
      refine q_iast (pc := 131) hx hb hK hI hR (k := 27) lt1_27 (fun f => (ar1_27 _ f _)) g_17 dX6_choose_131 (fun H locs σ_18 eσ_18 hR => ?_)
      have h := h σ_18 eσ_18
      refine lv_aload_n (pc := 132) hx hb dX6_choose_132 rfl (lv_at hl 1 rfl) ?_
      refine gf1_8_2 (pc := 133) hx hb hts hown hK hR mw169 dX6_choose_133 ?_
      refine lv_iload_n (pc := 136) hx hb dX6_choose_136 rfl (lv_at hl 3 rfl) ?_
      refine lv_iload (pc := 137) hx hb dX6_choose_137 (lv_at hl 6 rfl) ?_
      have g_19 := h.1
      have h := h.2
      refine q_iast (pc := 139) hx hb hK hI hR (k := 28) lt1_28 (fun f => (ar1_28 _ f _)) g_19 dX6_choose_139 (fun H locs σ_20 eσ_20 hR => ?_)
      have h := h σ_20 eσ_20
      refine lv_iload (pc := 140) hx hb dX6_choose_140 (lv_at hl 7 rfl) ?_
      refine lv_istore (pc := 142) (lv' := [(4, .int x6), (8, .int t0), (0, .ref (w.2.1 8)), (1, .ref (w.2.1 k1)), (2, .int x2), (3, .int x3), (5, .int x5), (6, .int x6), (7, .int x7)]) hx hb dX6_choose_142 hl (by decide) rfl (fun ls hl => ?_)
      exact bX6_choose_144 l w N Q E k1 x2 x3 x6 x5 hk1 r21 hr21 hR (lv_sub hl [2, 3, 4, 5, 0, 6] rfl) h
def fX6_choose_j105 (N : Nat) (r21 : Int32 → Int32 → St → Prop) (k1 : Nat) (x2 : Int32) (x3 : Int32) (x4 : Int32) (x5 : Int32) (x6 : Int32) (x7 : Int32) (Q : St → Prop) (σ : St) : Prop := fX6_choose_j110 N r21 k1 x2 x3 x4 x5 x6 x7 1 Q σ
set_option maxHeartbeats 4000000 in
set_option maxRecDepth 100000 in
theorem bX6_choose_105 {p : Program} {e : Env} {s : State} {m : MethodId} {args : Array Value} {below : List Frame} {meth : Method} {c : Code} (l : Launch) (w : Wd) (N : Nat) (Q : St → Prop) (E : Cx 223 w (X1 w) cX6_choose 9 RX6 (.code yX6_choose cX6_choose 9 none) none p s m args meth c) (k1 : Nat) (x2 : Int32) (x3 : Int32) (x4 : Int32) (x5 : Int32) (x6 : Int32) (x7 : Int32) (hk1 : r120 k1) (r21 : Int32 → Int32 → St → Prop) (hr21 : ∀ (x4 : Int32) (x5 : Int32) (σ : St) (H : Heap) (locs : List Loc) (ls : Array Slot), Rr 223 ev1 w σ s H locs → lv_has ls 9 [(0, .ref (w.2.1 8)), (1, .ref (w.2.1 k1)), (2, .int x2), (3, .int x3), (4, .int x4), (5, .int x5)] → r21 x4 x5 σ → W p l e rmX6_choose s m args below meth c H locs 0 0 (MQ below (va_Qv Q (Rp 223 ev1 w) (Aw 223 w)) args s 0 0 (Aw 223 w)) (F0 m 21 ls [])) {σ : St} {H : Heap} {locs : List Loc} {ls : Array Slot} (hR : Rr 223 ev1 w σ s H locs) (hl : lv_has ls 9 [(0, .ref (w.2.1 8)), (1, .ref (w.2.1 k1)), (2, .int x2), (3, .int x3), (4, .int x4), (5, .int x5), (6, .int x6), (7, .int x7)]) (h : fX6_choose_j105 N r21 k1 x2 x3 x4 x5 x6 x7 Q σ) : W p l e rmX6_choose s m args below meth c H locs 0 0 (MQ below (va_Qv Q (Rp 223 ev1 w) (Aw 223 w)) args s 0 0 (Aw 223 w)) (F0 m 105 ls []) := by
  obtain ⟨hx, hb, hml, hown, hts, hr, hlk, hK, hI, hX⟩ := id E
  unfold fX6_choose_j105 at h
  refine lv_iconst (pc := 105) (v := 1) hx hb dX6_choose_105 (by decide) ?_
  refine lv_goto (pc := 106) (tgt := 110) hx hb dX6_choose_106 (by decide) ?_
  exact bX6_choose_110 l w N Q E k1 x2 x3 x4 x5 x6 x7 1 hk1 r21 hr21 hR (lv_sub hl [0, 1, 2, 3, 4, 5, 6, 7] rfl) h
def fX6_choose_j109 (N : Nat) (r21 : Int32 → Int32 → St → Prop) (k1 : Nat) (x2 : Int32) (x3 : Int32) (x4 : Int32) (x5 : Int32) (x6 : Int32) (x7 : Int32) (Q : St → Prop) (σ : St) : Prop := fX6_choose_j110 N r21 k1 x2 x3 x4 x5 x6 x7 0 Q σ
set_option maxHeartbeats 4000000 in
set_option maxRecDepth 100000 in
theorem bX6_choose_109 {p : Program} {e : Env} {s : State} {m : MethodId} {args : Array Value} {below : List Frame} {meth : Method} {c : Code} (l : Launch) (w : Wd) (N : Nat) (Q : St → Prop) (E : Cx 223 w (X1 w) cX6_choose 9 RX6 (.code yX6_choose cX6_choose 9 none) none p s m args meth c) (k1 : Nat) (x2 : Int32) (x3 : Int32) (x4 : Int32) (x5 : Int32) (x6 : Int32) (x7 : Int32) (hk1 : r120 k1) (r21 : Int32 → Int32 → St → Prop) (hr21 : ∀ (x4 : Int32) (x5 : Int32) (σ : St) (H : Heap) (locs : List Loc) (ls : Array Slot), Rr 223 ev1 w σ s H locs → lv_has ls 9 [(0, .ref (w.2.1 8)), (1, .ref (w.2.1 k1)), (2, .int x2), (3, .int x3), (4, .int x4), (5, .int x5)] → r21 x4 x5 σ → W p l e rmX6_choose s m args below meth c H locs 0 0 (MQ below (va_Qv Q (Rp 223 ev1 w) (Aw 223 w)) args s 0 0 (Aw 223 w)) (F0 m 21 ls [])) {σ : St} {H : Heap} {locs : List Loc} {ls : Array Slot} (hR : Rr 223 ev1 w σ s H locs) (hl : lv_has ls 9 [(0, .ref (w.2.1 8)), (1, .ref (w.2.1 k1)), (2, .int x2), (3, .int x3), (4, .int x4), (5, .int x5), (6, .int x6), (7, .int x7)]) (h : fX6_choose_j109 N r21 k1 x2 x3 x4 x5 x6 x7 Q σ) : W p l e rmX6_choose s m args below meth c H locs 0 0 (MQ below (va_Qv Q (Rp 223 ev1 w) (Aw 223 w)) args s 0 0 (Aw 223 w)) (F0 m 109 ls []) := by
  obtain ⟨hx, hb, hml, hown, hts, hr, hlk, hK, hI, hX⟩ := id E
  unfold fX6_choose_j109 at h
  refine lv_iconst (pc := 109) (v := 0) hx hb dX6_choose_109 (by decide) ?_
  exact bX6_choose_110 l w N Q E k1 x2 x3 x4 x5 x6 x7 0 hk1 r21 hr21 hR (lv_sub hl [0, 1, 2, 3, 4, 5, 6, 7] rfl) h
def fX6_choose_l21 (N : Nat) (k1 : Nat) (x2 : Int32) (x3 : Int32) (Q : St → Prop) (r21 : Int32 → Int32 → St → Prop) (x4 : Int32) (x5 : Int32) (σ : St) : Prop := (((σ.1 6 5) ≤ x5 → Q σ) ∧ (¬ (σ.1 6 5) ≤ x5 → fX7_standsAt N x5 k1 x2 x3 (fun r_7 σ_6 => ((r_7 = 0 → fX6_choose_j144 N r21 k1 x2 x3 x4 x5 Q σ_6) ∧ (¬ r_7 = 0 → vp_in x5 60 ∧ ∀ v_10 : Int32, v_10 = σ_6.1 21 x5.toNatClampNeg → vp_in (x2 + v_10) 121 ∧ ∀ v_12 : Int32, v_12 = (σ_6.1 27 (x2 + v_10).toNatClampNeg) + 1 → vp_in x2 121 ∧ ((v_12 < (σ_6.1 27 x2.toNatClampNeg) → fX6_choose_j105 N r21 k1 x2 x3 x4 x5 v_10 v_12 Q σ_6) ∧ (¬ v_12 < (σ_6.1 27 x2.toNatClampNeg) → vp_in x2 121 ∧ ((v_12 = (σ_6.1 27 x2.toNatClampNeg) → ((v_10 ≤ x4 → fX6_choose_j109 N r21 k1 x2 x3 x4 x5 v_10 v_12 Q σ_6) ∧ (¬ v_10 ≤ x4 → fX6_choose_j105 N r21 k1 x2 x3 x4 x5 v_10 v_12 Q σ_6))) ∧ (¬ v_12 = (σ_6.1 27 x2.toNatClampNeg) → fX6_choose_j109 N r21 k1 x2 x3 x4 x5 v_10 v_12 Q σ_6))))))) σ))
set_option maxHeartbeats 4000000 in
set_option maxRecDepth 100000 in
theorem bX6_choose_21 {p : Program} {e : Env} {s : State} {m : MethodId} {args : Array Value} {below : List Frame} {meth : Method} {c : Code} (l : Launch) (w : Wd) (N : Nat) (Q : St → Prop) (E : Cx 223 w (X1 w) cX6_choose 9 RX6 (.code yX6_choose cX6_choose 9 none) none p s m args meth c) (k1 : Nat) (x2 : Int32) (x3 : Int32) (hk1 : r120 k1) : ∀ (n : Nat) (x4 : Int32) (x5 : Int32) (σ : St) (H : Heap) (locs : List Loc) (ls : Array Slot), Rr 223 ev1 w σ s H locs → lv_has ls 9 [(0, .ref (w.2.1 8)), (1, .ref (w.2.1 k1)), (2, .int x2), (3, .int x3), (4, .int x4), (5, .int x5)] → lo2 (fX6_choose_l21 N k1 x2 x3 Q) n x4 x5 σ → W p l e rmX6_choose s m args below meth c H locs 0 0 (MQ below (va_Qv Q (Rp 223 ev1 w) (Aw 223 w)) args s 0 0 (Aw 223 w)) (F0 m 21 ls []) := by
  obtain ⟨hx, hb, hml, hown, hts, hr, hlk, hK, hI, hX⟩ := id E
  intro n
  induction n with
  | zero => intro x4 x5 σ H locs ls hR hl h; exact h.elim
  | succ n ih =>
    intro x4 x5 σ H locs ls hR hl h
    have h : fX6_choose_l21 N k1 x2 x3 Q (lo2 (fX6_choose_l21 N k1 x2 x3 Q) n) x4 x5 σ := h
    unfold fX6_choose_l21 at h
    refine lv_iload (pc := 21) hx hb dX6_choose_21 (lv_at hl 5 rfl) ?_
    refine lv_aload_n (pc := 23) hx hb dX6_choose_23 rfl (lv_at hl 0 rfl) ?_
    refine gf1_8_0 (pc := 24) hx hb hts hown hK hR mw170 dX6_choose_24 ?_
    refine gf1_6_5 (pc := 27) hx hb hts hown hK hR mw171 dX6_choose_27 ?_
    refine lv_icmp_ge (pc := 30) (tgt := 150) hx hb dX6_choose_30 (by decide) (fun c_5 => ?_) (fun c_5 => ?_)
    · have h := h.1 c_5
      exact q_vret (pc := 150) E hR h dX6_choose_150
    · have h := h.2 c_5
      refine lv_aload_n (pc := 33) hx hb dX6_choose_33 rfl (lv_at hl 0 rfl) ?_
      refine gf1_8_0 (pc := 34) hx hb hts hown hK hR mw170 dX6_choose_34 ?_
      refine lv_iload (pc := 37) hx hb dX6_choose_37 (lv_at hl 5 rfl) ?_
      refine lv_aload_n (pc := 39) hx hb dX6_choose_39 rfl (lv_at hl 1 rfl) ?_
      refine lv_iload_n (pc := 40) hx hb dX6_choose_40 rfl (lv_at hl 2 rfl) ?_
      refine lv_iload_n (pc := 41) hx hb dX6_choose_41 rfl (lv_at hl 3 rfl) ?_
      refine q_ci (pc := 42) hR (q_rV E (xp1 w) (As := [.int x5, .ref (w.2.1 k1), .int x2, .int x3]) (rest := []) (cX7_standsAt_met l w hI N x5 k1 x2 x3 hk1 _ σ h) ckX7_standsAt cvX7_standsAt mw172 ⟨rfl, rfl, Nat.le_of_ble_eq_true rfl, Nat.le_of_ble_eq_true rfl⟩ hR (rc1_6 w) rfl hl.1 rfl (Nat.le_of_ble_eq_true rfl) dX6_choose_42) (fun r_7 σ_6 H locs h hR => ?_)
      refine lv_if_ne (pc := 45) (tgt := 51) hx hb dX6_choose_45 (by decide) (fun c_8 => ?_) (fun c_8 => ?_)
      · have h := h.2 c_8
        refine lv_aload_n (pc := 51) hx hb dX6_choose_51 rfl (lv_at hl 0 rfl) ?_
        refine gf1_8_0 (pc := 52) hx hb hts hown hK hR mw170 dX6_choose_52 ?_
        refine gf1_6_3 (pc := 55) hx hb hts hown hK hR mw173 dX6_choose_55 ?_
        refine lv_iload (pc := 58) hx hb dX6_choose_58 (lv_at hl 5 rfl) ?_
        have g_9 := h.1
        have h := h.2
        refine q_iald (pc := 60) hx hb hK hR (k := 21) lt1_21 (ar1_21 _ _ _) g_9 dX6_choose_60 ?_
        refine lv_topi (pc := 61) (fun v_10 ev_10 => ?_)
        have h := h v_10 ev_10
        refine lv_istore (pc := 61) (lv' := [(6, .int v_10), (0, .ref (w.2.1 8)), (1, .ref (w.2.1 k1)), (2, .int x2), (3, .int x3), (4, .int x4), (5, .int x5)]) hx hb dX6_choose_61 hl (by decide) rfl (fun ls hl => ?_)
        refine lv_aload_n (pc := 63) hx hb dX6_choose_63 rfl (lv_at hl 1 rfl) ?_
        refine gf1_8_1 (pc := 64) hx hb hts hown hK hR mw168 dX6_choose_64 ?_
        refine lv_iload_n (pc := 67) hx hb dX6_choose_67 rfl (lv_at hl 3 rfl) ?_
        refine lv_iload (pc := 68) hx hb dX6_choose_68 (lv_at hl 0 rfl) ?_
        refine lv_iadd (pc := 70) hx hb dX6_choose_70 ?_
        have g_11 := h.1
        have h := h.2
        refine q_iald (pc := 71) hx hb hK hR (k := 27) lt1_27 (ar1_27 _ _ _) g_11 dX6_choose_71 ?_
        refine lv_iconst (pc := 72) (v := 1) hx hb dX6_choose_72 (by decide) ?_
        refine lv_iadd (pc := 73) hx hb dX6_choose_73 ?_
        refine lv_topi (pc := 74) (fun v_12 ev_12 => ?_)
        have h := h v_12 ev_12
        refine lv_istore (pc := 74) (lv' := [(7, .int v_12), (6, .int v_10), (0, .ref (w.2.1 8)), (1, .ref (w.2.1 k1)), (2, .int x2), (3, .int x3), (4, .int x4), (5, .int x5)]) hx hb dX6_choose_74 hl (by decide) rfl (fun ls hl => ?_)
        refine lv_iload (pc := 76) hx hb dX6_choose_76 (lv_at hl 0 rfl) ?_
        refine lv_aload_n (pc := 78) hx hb dX6_choose_78 rfl (lv_at hl 2 rfl) ?_
        refine gf1_8_1 (pc := 79) hx hb hts hown hK hR mw168 dX6_choose_79 ?_
        refine lv_iload_n (pc := 82) hx hb dX6_choose_82 rfl (lv_at hl 4 rfl) ?_
        have g_13 := h.1
        have h := h.2
        refine q_iald (pc := 83) hx hb hK hR (k := 27) lt1_27 (ar1_27 _ _ _) g_13 dX6_choose_83 ?_
        refine lv_icmp_lt (pc := 84) (tgt := 105) hx hb dX6_choose_84 (by decide) (fun c_14 => ?_) (fun c_14 => ?_)
        · have h := h.1 c_14
          exact bX6_choose_105 l w N Q E k1 x2 x3 x4 x5 v_10 v_12 hk1 _ ih hR (lv_sub hl [2, 3, 4, 5, 6, 7, 1, 0] rfl) h
        · have h := h.2 c_14
          refine lv_iload (pc := 87) hx hb dX6_choose_87 (lv_at hl 0 rfl) ?_
          refine lv_aload_n (pc := 89) hx hb dX6_choose_89 rfl (lv_at hl 2 rfl) ?_
          refine gf1_8_1 (pc := 90) hx hb hts hown hK hR mw168 dX6_choose_90 ?_
          refine lv_iload_n (pc := 93) hx hb dX6_choose_93 rfl (lv_at hl 4 rfl) ?_
          have g_15 := h.1
          have h := h.2
          refine q_iald (pc := 94) hx hb hK hR (k := 27) lt1_27 (ar1_27 _ _ _) g_15 dX6_choose_94 ?_
          refine lv_icmp_ne (pc := 95) (tgt := 109) hx hb dX6_choose_95 (by decide) (fun c_16 => ?_) (fun c_16 => ?_)
          · have h := h.2 c_16
            exact bX6_choose_109 l w N Q E k1 x2 x3 x4 x5 v_10 v_12 hk1 _ ih hR (lv_sub hl [2, 3, 4, 5, 6, 7, 1, 0] rfl) h
          · have h := h.1 c_16
            refine lv_iload (pc := 98) hx hb dX6_choose_98 (lv_at hl 1 rfl) ?_
            refine lv_iload (pc := 100) hx hb dX6_choose_100 (lv_at hl 6 rfl) ?_
            refine lv_icmp_le (pc := 102) (tgt := 109) hx hb dX6_choose_102 (by decide) (fun c_17 => ?_) (fun c_17 => ?_)
            · have h := h.1 c_17
              exact bX6_choose_109 l w N Q E k1 x2 x3 x4 x5 v_10 v_12 hk1 _ ih hR (lv_sub hl [2, 3, 4, 5, 6, 7, 1, 0] rfl) h
            · have h := h.2 c_17
              exact bX6_choose_105 l w N Q E k1 x2 x3 x4 x5 v_10 v_12 hk1 _ ih hR (lv_sub hl [2, 3, 4, 5, 6, 7, 1, 0] rfl) h
      · have h := h.1 c_8
        refine lv_goto (pc := 48) (tgt := 144) hx hb dX6_choose_48 (by decide) ?_
        exact bX6_choose_144 l w N Q E k1 x2 x3 x4 x5 hk1 _ ih hR (lv_sub hl [0, 1, 2, 3, 4, 5] rfl) h
def fX6_choose (N : Nat) (k1 : Nat) (x2 : Int32) (x3 : Int32) (Q : St → Prop) (σ : St) : Prop := vp_in x2 121 ∧ ∀ σ_2 : St, σ_2 = u1 σ 27 x2.toNatClampNeg 121 → vp_in x2 121 ∧ ∀ σ_4 : St, σ_4 = u1 σ_2 28 x2.toNatClampNeg (-1) → lo2 (fX6_choose_l21 N k1 x2 x3 Q) N 0 0 σ_4
set_option maxHeartbeats 4000000 in
set_option maxRecDepth 100000 in
theorem bX6_choose_e {p : Program} {e : Env} {s : State} {m : MethodId} {args : Array Value} {below : List Frame} {meth : Method} {c : Code} (l : Launch) (w : Wd) (N : Nat) (Q : St → Prop) (E : Cx 223 w (X1 w) cX6_choose 9 RX6 (.code yX6_choose cX6_choose 9 none) none p s m args meth c) (k1 : Nat) (x2 : Int32) (x3 : Int32) (hk1 : r120 k1) {σ : St} {H : Heap} {locs : List Loc} {ls : Array Slot} (hR : Rr 223 ev1 w σ s H locs) (hl : lv_has ls 9 [(0, .ref (w.2.1 8)), (1, .ref (w.2.1 k1)), (2, .int x2), (3, .int x3)]) (h : fX6_choose N k1 x2 x3 Q σ) : W p l e rmX6_choose s m args below meth c H locs 0 0 (MQ below (va_Qv Q (Rp 223 ev1 w) (Aw 223 w)) args s 0 0 (Aw 223 w)) (F0 m 0 ls []) := by
  obtain ⟨hx, hb, hml, hown, hts, hr, hlk, hK, hI, hX⟩ := id E
  unfold fX6_choose at h
  refine lv_aload_n (pc := 0) hx hb dX6_choose_0 rfl (lv_at hl 0 rfl) ?_
  refine gf1_8_1 (pc := 1) hx hb hts hown hK hR mw168 dX6_choose_1 ?_
  refine lv_iload_n (pc := 4) hx hb dX6_choose_4 rfl (lv_at hl 2 rfl) ?_
  refine lv_bipush (pc := 5) (v := 121) hx hb dX6_choose_5 (by decide) ?_
  have g_1 := h.1
  have h := h.2
  refine q_iast (pc := 7) hx hb hK hI hR (k := 27) lt1_27 (fun f => (ar1_27 _ f _)) g_1 dX6_choose_7 (fun H locs σ_2 eσ_2 hR => ?_)
  have h := h σ_2 eσ_2
  refine lv_aload_n (pc := 8) hx hb dX6_choose_8 rfl (lv_at hl 0 rfl) ?_
  refine gf1_8_2 (pc := 9) hx hb hts hown hK hR mw169 dX6_choose_9 ?_
  refine lv_iload_n (pc := 12) hx hb dX6_choose_12 rfl (lv_at hl 2 rfl) ?_
  refine lv_iconst (pc := 13) (v := (-1)) hx hb dX6_choose_13 (by decide) ?_
  have g_3 := h.1
  have h := h.2
  refine q_iast (pc := 14) hx hb hK hI hR (k := 28) lt1_28 (fun f => (ar1_28 _ f _)) g_3 dX6_choose_14 (fun H locs σ_4 eσ_4 hR => ?_)
  have h := h σ_4 eσ_4
  refine lv_iconst (pc := 15) (v := 0) hx hb dX6_choose_15 (by decide) ?_
  refine lv_istore (pc := 16) (lv' := [(4, .int 0), (0, .ref (w.2.1 8)), (1, .ref (w.2.1 k1)), (2, .int x2), (3, .int x3)]) hx hb dX6_choose_16 hl (by decide) rfl (fun ls hl => ?_)
  refine lv_iconst (pc := 18) (v := 0) hx hb dX6_choose_18 (by decide) ?_
  refine lv_istore (pc := 19) (lv' := [(5, .int 0), (4, .int 0), (0, .ref (w.2.1 8)), (1, .ref (w.2.1 k1)), (2, .int x2), (3, .int x3)]) hx hb dX6_choose_19 hl (by decide) rfl (fun ls hl => ?_)
  exact bX6_choose_21 l w N Q E k1 x2 x3 hk1 N 0 0 σ_4 _ _ _ hR (lv_sub hl [2, 3, 4, 5, 1, 0] rfl) h
theorem cX6_choose_met (l : Launch) (w : Wd) (hI : Ij 223 w) (N : Nat) (k1 : Nat) (x2 : Int32) (x3 : Int32) (hk1 : r120 k1) (Q : St → Prop) (σ : St) (h : fX6_choose N k1 x2 x3 Q σ) : Met l yX6_choose (.code yX6_choose cX6_choose 9 none :: Uw) rmX6_choose (va_Pc [.ref (w.2.1 8), .ref (w.2.1 k1), .int x2, .int x3] (fun U => Rp 223 ev1 w σ U ∧ (X1 w) U)) (va_Qv Q (Rp 223 ev1 w) (Aw 223 w)) 0 0 (Aw 223 w) :=
  q_met (by decide) (Nat.le_of_ble_eq_true rfl) hI (fun p e s m below meth c ls E hl hR => bX6_choose_e l w N Q E k1 x2 x3 hk1 hR hl h)
