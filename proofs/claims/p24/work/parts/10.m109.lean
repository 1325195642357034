-- GlulxStrings$BestTree.takeLeast()I
abbrev rmX0_takeLeast : Room := { frames := 0, cells := 0, slots := 0, locals := 0 }
def fX0_takeLeast_j42 (N : Nat) (r4 : Int32 → Int32 → St → Prop) (x1 : Int32) (x2 : Int32) (Q : Int32 → St → Prop) (σ : St) : Prop := ∀ v_7 : Int32, v_7 = x2 + 1 → r4 x1 v_7 σ
set_option maxHeartbeats 4000000 in
set_option maxRecDepth 100000 in
theorem bX0_takeLeast_42 {p : Program} {e : Env} {s : State} {m : MethodId} {args : Array Value} {below : List Frame} {meth : Method} {c : Code} (l : Launch) (w : Wd) (N : Nat) (Q : Int32 → St → Prop) (E : Cx 223 w (X1 w) cX0_takeLeast 3 RX0 (.code yX0_takeLeast cX0_takeLeast 3 (some .int)) (some .int) p s m args meth c) (x1 : Int32) (x2 : Int32) (r4 : Int32 → Int32 → St → Prop) (hr4 : ∀ (x1 : Int32) (x2 : Int32) (σ : St) (H : Heap) (locs : List Loc) (ls : Array Slot), Rr 223 ev1 w σ s H locs → lv_has ls 3 [(0, .ref (w.2.1 9)), (1, .int x1), (2, .int x2)] → r4 x1 x2 σ → W p l e rmX0_takeLeast s m args below meth c H locs 0 0 (MQ below (va_Qi Q (Rp 223 ev1 w) (Aw 223 w)) args s 0 0 (Aw 223 w)) (F0 m 4 ls [])) {σ : St} {H : Heap} {locs : List Loc} {ls : Array Slot} (hR : Rr 223 ev1 w σ s H locs) (hl : lv_has ls 3 [(0, .ref (w.2.1 9)), (1, .int x1), (2, .int x2)]) (h : fX0_takeLeast_j42 N r4 x1 x2 Q σ) : W p l e rmX0_takeLeast s m args below meth c H locs 0 0 (MQ below (va_Qi Q (Rp 223 ev1 w) (Aw 223 w)) args s 0 0 (Aw 223 w)) (F0 m 42 ls []) := by
  obtain ⟨hx, hb, hml, hown, hts, hr, hlk, hK, hI, hX⟩ := id E
  unfold fX0_takeLeast_j42 at h
  obtain ⟨v_7, ev_7⟩ : ∃ z : Int32, z = x2 + 1 := ⟨_, rfl⟩
  have h := h v_7 ev_7
  refine lv_iinc (pc := 42) (v := v_7) (lv' := [(2, .int v_7), (0, .ref (w.2.1 9)), (1, .int x1)]) hx hb dX0_takeLeast_42 hl (k := 2) rfl (by rw [ev_7]; rfl) (by decide) rfl (fun ls hl => ?_)
  refine lv_goto (pc := 45) (tgt := 4) hx hb dX0_takeLeast_45 (by decide) ?_
  exact hr4 x1 v_7 σ _ _ _ hR (lv_sub hl [1, 2, 0] rfl) h
def fX0_takeLeast_j40 (N : Nat) (r4 : Int32 → Int32 → St → Prop) (x2 : Int32) (Q : Int32 → St → Prop) (σ : St) : Prop := fX0_takeLeast_j42 N r4 x2 x2 Q σ
set_option maxHeartbeats 4000000 in
set_option maxRecDepth 100000 in
theorem bX0_takeLeast_40 {p : Program} {e : Env} {s : State} {m : MethodId} {args : Array Value} {below : List Frame} {meth : Method} {c : Code} (l : Launch) (w : Wd) (N : Nat) (Q : Int32 → St → Prop) (E : Cx 223 w (X1 w) cX0_takeLeast 3 RX0 (.code yX0_takeLeast cX0_takeLeast 3 (some .int)) (some .int) p s m args meth c) (x2 : Int32) (r4 : Int32 → Int32 → St → Prop) (hr4 : ∀ (x1 : Int32) (x2 : Int32) (σ : St) (H : Heap) (locs : List Loc) (ls : Array Slot), Rr 223 ev1 w σ s H locs → lv_has ls 3 [(0, .ref (w.2.1 9)), (1, .int x1), (2, .int x2)] → r4 x1 x2 σ → W p l e rmX0_takeLeast s m args below meth c H locs 0 0 (MQ below (va_Qi Q (Rp 223 ev1 w) (Aw 223 w)) args s 0 0 (Aw 223 w)) (F0 m 4 ls [])) {σ : St} {H : Heap} {locs : List Loc} {ls : Array Slot} (hR : Rr 223 ev1 w σ s H locs) (hl : lv_has ls 3 [(0, .ref (w.2.1 9)), (2, .int x2)]) (h : fX0_takeLeast_j40 N r4 x2 Q σ) : W p l e rmX0_takeLeast s m args below meth c H locs 0 0 (MQ below (va_Qi Q (Rp 223 ev1 w) (Aw 223 w)) args s 0 0 (Aw 223 w)) (F0 m 40 ls []) := by
  obtain ⟨hx, hb, hml, hown, hts, hr, hlk, hK, hI, hX⟩ := id E
  unfold fX0_takeLeast_j40 at h
  refine lv_iload_n (pc := 40) hx hb dX0_takeLeast_40 rfl (lv_at hl 1 rfl) ?_
  refine lv_istore_n (pc := 41) (lv' := [(1, .int x2), (0, .ref (w.2.1 9)), (2, .int x2)]) hx hb dX0_takeLeast_41 rfl hl (by decide) rfl (fun ls hl => ?_)
  exact bX0_takeLeast_42 l w N Q E x2 x2 r4 hr4 hR (lv_sub hl [1, 0, 2] rfl) h
def fX0_takeLeast_l4 (N : Nat) (Q : Int32 → St → Prop) (r4 : Int32 → Int32 → St → Prop) (x1 : Int32) (x2 : Int32) (σ : St) : Prop := (((σ.1 9 9) ≤ x2 → ((x1 < 0 → Q x1 σ) ∧ (¬ x1 < 0 → vp_in x1 121 ∧ ∀ σ_4 : St, σ_4 = u1 σ 30 x1.toNatClampNeg (vp_nar .boolean 1) → Q x1 σ_4))) ∧ (¬ (σ.1 9 9) ≤ x2 → vp_in x2 121 ∧ (((σ.1 30 x2.toNatClampNeg) = 0 → ((x1 < 0 → fX0_takeLeast_j40 N r4 x2 Q σ) ∧ (¬ x1 < 0 → vp_in x2 121 ∧ vp_in x1 121 ∧ (((σ.1 29 x1.toNatClampNeg) ≤ (σ.1 29 x2.toNatClampNeg) → fX0_takeLeast_j42 N r4 x1 x2 Q σ) ∧ (¬ (σ.1 29 x1.toNatClampNeg) ≤ (σ.1 29 x2.toNatClampNeg) → fX0_takeLeast_j40 N r4 x2 Q σ))))) ∧ (¬ (σ.1 30 x2.toNatClampNeg) = 0 → fX0_takeLeast_j42 N r4 x1 x2 Q σ))))
set_option maxHeartbeats 4000000 in
set_option maxRecDepth 100000 in
theorem bX0_takeLeast_4 {p : Program} {e : Env} {s : State} {m : MethodId} {args : Array Value} {below : List Frame} {meth : Method} {c : Code} (l : Launch) (w : Wd) (N : Nat) (Q : Int32 → St → Prop) (E : Cx 223 w (X1 w) cX0_takeLeast 3 RX0 (.code yX0_takeLeast cX0_takeLeast 3 (some .int)) (some .int) p s m args meth c) : ∀ (n : Nat) (x1 : Int32) (x2 : Int32) (σ : St) (H : Heap) (locs : List Loc) (ls : Array Slot), Rr 223 ev1 w σ s H locs → lv_has ls 3 [(0, .ref (w.2.1 9)), (1, .int x1), (2, .int x2)] → lo2 (fX0_takeLeast_l4 N Q) n x1 x2 σ → W p l e rmX0_takeLeast s m args below meth c H locs 0 0 (MQ below (va_Qi Q (Rp 223 ev1 w) (Aw 223 w)) args s 0 0 (Aw 223 w)) (F0 m 4 ls []) := by
  obtain ⟨hx, hb, hml, hown, hts, hr, hlk, hK, hI, hX⟩ := id E
  intro n
  induction n with
  | zero => intro x1 x2 σ H locs ls hR hl h; exact h.elim
  | succ n ih =>
    intro x1 x2 σ H locs ls hR hl h
    have h : fX0_takeLeast_l4 N Q (lo2 (fX0_takeLeast_l4 N Q) n) x1 x2 σ := h
    unfold fX0_takeLeast_l4 at h
    refine lv_iload_n (pc := 4) hx hb dX0_takeLeast_4 rfl (lv_at hl 2 rfl) ?_
    refine lv_aload_n (pc := 5) hx hb dX0_takeLeast_5 rfl (lv_at hl 0 rfl) ?_
    refine gf1_9_9 (pc := 6) hx hb hts hown hK hR mw194 dX0_takeLeast_6 ?_
    refine lv_icmp_ge (pc := 9) (tgt := 48) hx hb dX0_takeLeast_9 (by decide) (fun c_1 => ?_) (fun c_1 => ?_)
    · have h := h.1 c_1
      refine lv_iload_n (pc := 48) hx hb dX0_takeLeast_48 rfl (lv_at hl 1 rfl) ?_
      refine lv_if_lt (pc := 49) (tgt := 59) hx hb dX0_takeLeast_49 (by decide) (fun c_2 => ?_) (fun c_2 => ?_)
      · have h := h.1 c_2
        refine lv_iload_n (pc := 59) hx hb dX0_takeLeast_59 rfl (lv_at hl 1 rfl) ?_
        exact q_iret (pc := 60) E hR h dX0_takeLeast_60
      · have h := h.2 c_2
        refine lv_aload_n (pc := 52) hx hb dX0_takeLeast_52 rfl (lv_at hl 0 rfl) ?_
        refine gf1_9_1 (pc := 53) hx hb hts hown hK hR mw198 dX0_takeLeast_53 ?_
        refine lv_iload_n (pc := 56) hx hb dX0_takeLeast_56 rfl (lv_at hl 1 rfl) ?_
        refine lv_iconst (pc := 57) (v := 1) hx hb dX0_takeLeast_57 (by decide) ?_
        have g_3 := h.1
        have h := h.2
        refine q_zast (pc := 58) hx hb hK hI hR (k := 30) lt1_30 (fun f => (ar1_30 _ f _)) g_3 dX0_takeLeast_58 (fun H locs σ_4 eσ_4 hR => ?_)
        have h := h σ_4 eσ_4
        refine lv_iload_n (pc := 59) hx hb dX0_takeLeast_59 rfl (lv_at hl 1 rfl) ?_
        exact q_iret (pc := 60) E hR h dX0_takeLeast_60
    · have h := h.2 c_1
      refine lv_aload_n (pc := 12) hx hb dX0_takeLeast_12 rfl (lv_at hl 0 rfl) ?_
      refine gf1_9_1 (pc := 13) hx hb hts hown hK hR mw198 dX0_takeLeast_13 ?_
      refine lv_iload_n (pc := 16) hx hb dX0_takeLeast_16 rfl (lv_at hl 2 rfl) ?_
      have g_5 := h.1
      have h := h.2
      refine q_zald (pc := 17) hx hb hK hR (k := 30) lt1_30 (ar1_30 _ _ _) g_5 dX0_takeLeast_17 ?_
      refine lv_if_ne (pc := 18) (tgt := 42) hx hb dX0_takeLeast_18 (by decide) (fun c_6 => ?_) (fun c_6 => ?_)
      · have h := h.2 c_6
        exact bX0_takeLeast_42 l w N Q E x1 x2 _ ih hR (lv_sub hl [0, 1, 2] rfl) h
      · have h := h.1 c_6
        refine lv_iload_n (pc := 21) hx hb dX0_takeLeast_21 rfl (lv_at hl 1 rfl) ?_
        refine lv_if_lt (pc := 22) (tgt := 40) hx hb dX0_takeLeast_22 (by decide) (fun c_7 => ?_) (fun c_7 => ?_)
        · have h := h.1 c_7
          exact bX0_takeLeast_40 l w N Q E x2 _ ih hR (lv_sub hl [0, 2] rfl) h
        · have h := h.2 c_7
          refine lv_aload_n (pc := 25) hx hb dX0_takeLeast_25 rfl (lv_at hl 0 rfl) ?_
          refine gf1_9_0 (pc := 26) hx hb hts hown hK hR mw196 dX0_takeLeast_26 ?_
          refine lv_iload_n (pc := 29) hx hb dX0_takeLeast_29 rfl (lv_at hl 2 rfl) ?_
          have g_8 := h.1
          have h := h.2
          refine q_iald (pc := 30) hx hb hK hR (k := 29) lt1_29 (ar1_29 _ _ _) g_8 dX0_takeLeast_30 ?_
          refine lv_aload_n (pc := 31) hx hb dX0_takeLeast_31 rfl (lv_at hl 0 rfl) ?_
          refine gf1_9_0 (pc := 32) hx hb hts hown hK hR mw196 dX0_takeLeast_32 ?_
          refine lv_iload_n (pc := 35) hx hb dX0_takeLeast_35 rfl (lv_at hl 1 rfl) ?_
          have g_9 := h.1
          have h := h.2
          refine q_iald (pc := 36) hx hb hK hR (k := 29) lt1_29 (ar1_29 _ _ _) g_9 dX0_takeLeast_36 ?_
          refine lv_icmp_ge (pc := 37) (tgt := 42) hx hb dX0_takeLeast_37 (by decide) (fun c_10 => ?_) (fun c_10 => ?_)
          · have h := h.1 c_10
            exact bX0_takeLeast_42 l w N Q E x1 x2 _ ih hR (lv_sub hl [0, 1, 2] rfl) h
          · have h := h.2 c_10
            exact bX0_takeLeast_40 l w N Q E x2 _ ih hR (lv_sub hl [0, 2] rfl) h
def fX0_takeLeast (N : Nat) (Q : Int32 → St → Prop) (σ : St) : Prop := lo2 (fX0_takeLeast_l4 N Q) N (-1) 0 σ
set_option maxHeartbeats 4000000 in
set_option maxRecDepth 100000 in
theorem bX0_takeLeast_e {p : Program} {e : Env} {s : State} {m : MethodId} {args : Array Value} {below : List Frame} {meth : Method} {c : Code} (l : Launch) (w : Wd) (N : Nat) (Q : Int32 → St → Prop) (E : Cx 223 w (X1 w) cX0_takeLeast 3 RX0 (.code yX0_takeLeast cX0_takeLeast 3 (some .int)) (some .int) p s m args meth c) {σ : St} {H : Heap} {locs : List Loc} {ls : Array Slot} (hR : Rr 223 ev1 w σ s H locs) (hl : lv_has ls 3 [(0, .ref (w.2.1 9))]) (h : fX0_takeLeast N Q σ) : W p l e rmX0_takeLeast s m args below meth c H locs 0 0 (MQ below (va_Qi Q (Rp 223 ev1 w) (Aw 223 w)) args s 0 0 (Aw 223 w)) (F0 m 0 ls []) := by
  obtain ⟨hx, hb, hml, hown, hts, hr, hlk, hK, hI, hX⟩ := id E
  unfold fX0_takeLeast at h
  refine lv_iconst (pc := 0) (v := (-1)) hx hb dX0_takeLeast_0 (by decide) ?_
  refine lv_istore_n (pc := 1) (lv' := [(1, .int (-1)), (0, .ref (w.2.1 9))]) hx hb dX0_takeLeast_1 rfl hl (by decide) rfl (fun ls hl => ?_)
  refine lv_iconst (pc := 2) (v := 0) hx hb dX0_takeLeast_2 (by decide) ?_
  refine lv_istore_n (pc := 3) (lv' := [(2, .int 0), (1, .int (-1)), (0, .ref (w.2.1 9))]) hx hb dX0_takeLeast_3 rfl hl (by decide) rfl (fun ls hl => ?_)
  exact bX0_takeLeast_4 l w N Q E N (-1) 0 σ _ _ _ hR (lv_sub hl [2, 1, 0] rfl) h
theorem cX0_takeLeast_met (l : Launch) (w : Wd) (hI : Ij 223 w) (N : Nat) (Q : Int32 → St → Prop) (σ : St) (h : fX0_takeLeast N Q σ) : Met l yX0_takeLeast (.code yX0_takeLeast cX0_takeLeast 3 (some .int) :: Uw) rmX0_takeLeast (va_Pc [.ref (w.2.1 9)] (fun U => Rp 223 ev1 w σ U ∧ (X1 w) U)) (va_Qi Q (Rp 223 ev1 w) (Aw 223 w)) 0 0 (Aw 223 w) :=
  q_met (by decide) (Nat.le_of_ble_eq_true rfl) hI (fun p e s m below meth c ls E hl hR => bX0_takeLeast_e l w N Q E hR hl h)
-- GlulxStrings$BestTree.joinAll()V
abbrev rmX0_joinAll : Room := { frames := 1, cells := 0, slots := 0, locals := 22 }
def fX0_joinAll_l5 (N : Nat) (Q : St → Prop) (r5 : Int32 → St → Prop) (x1 : Int32) (σ : St) : Prop := ((x1 < 2 → Q σ) ∧ (¬ x1 < 2 → ((121 ≤ (σ.1 9 9) → Q σ) ∧ (¬ 121 ≤ (σ.1 9 9) → fX0_takeLeast N (fun r_5 σ_4 => fX0_takeLeast N (fun r_7 σ_6 => ((r_5 < 0 → Q σ_6) ∧ (¬ r_5 < 0 → ((0 ≤ r_7 → vp_in (σ_6.1 9 9) 121 ∧ ∀ σ_11 : St, σ_11 = u1 σ_6 31 (σ_6.1 9 9).toNatClampNeg r_5 → vp_in (σ_11.1 9 9) 121 ∧ ∀ σ_13 : St, σ_13 = u1 σ_11 32 (σ_11.1 9 9).toNatClampNeg r_7 → vp_in r_5 121 ∧ vp_in r_7 121 ∧ vp_in r_5 121 ∧ vp_in r_7 121 ∧ fX0_addKnot N ((σ_13.1 29 r_5.toNatClampNeg) + (σ_13.1 29 r_7.toNatClampNeg)) ((9 + (σ_13.1 33 r_5.toNatClampNeg)) + (σ_13.1 33 r_7.toNatClampNeg)) (fun σ_18 => ∀ v_19 : Int32, v_19 = x1 + (-1) → r5 v_19 σ_18) σ_13) ∧ (¬ 0 ≤ r_7 → Q σ_6))))) σ_4) σ))))
set_option maxHeartbeats 4000000 in
set_option maxRecDepth 100000 in
theorem bX0_joinAll_5 {p : Program} {e : Env} {s : State} {m : MethodId} {args : Array Value} {below : List Frame} {meth : Method} {c : Code} (l : Launch) (w : Wd) (N : Nat) (Q : St → Prop) (E : Cx 223 w (X1 w) cX0_joinAll 4 RX0 (.code yX0_joinAll cX0_joinAll 4 none) none p s m args meth c) : ∀ (n : Nat) (x1 : Int32) (σ : St) (H : Heap) (locs : List Loc) (ls : Array Slot), Rr 223 ev1 w σ s H locs → lv_has ls 4 [(0, .ref (w.2.1 9)), (1, .int x1)] → lo1 (fX0_joinAll_l5 N Q) n x1 σ → W p l e rmX0_joinAll s m args below meth c H locs 0 0 (MQ below (va_Qv Q (Rp 223 ev1 w) (Aw 223 w)) args s 0 0 (Aw 223 w)) (F0 m 5 ls []) := by
  obtain ⟨hx, hb, hml, hown, hts, hr, hlk, hK, hI, hX⟩ := id E
  intro n
  induction n with
  | zero => intro x1 σ H locs ls hR hl h; exact h.elim
  | succ n ih =>
    intro x1 σ H locs ls hR hl h
    have h : fX0_joinAll_l5 N Q (lo1 (fX0_joinAll_l5 N Q) n) x1 σ := h
    unfold fX0_joinAll_l5 at h
    refine lv_iload_n (pc := 5) hx hb dX0_joinAll_5 rfl (lv_at hl 1 rfl) ?_
    refine lv_iconst (pc := 6) (v := 2) hx hb dX0_joinAll_6 (by decide) ?_
    refine lv_icmp_lt (pc := 7) (tgt := 97) hx hb dX0_joinAll_7 (by decide) (fun c_2 => ?_) (fun c_2 => ?_)
    · have h := h.1 c_2
      exact q_vret (pc := 97) E hR h dX0_joinAll_97
    · have h := h.2 c_2
      refine lv_aload_n (pc := 10) hx hb dX0_joinAll_10 rfl (lv_at hl 0 rfl) ?_
      refine gf1_9_9 (pc := 11) hx hb hts hown hK hR mw194 dX0_joinAll_11 ?_
      refine lv_bipush (pc := 14) (v := 121) hx hb dX0_joinAll_14 (by decide) ?_
      refine lv_icmp_ge (pc := 16) (tgt := 97) hx hb dX0_joinAll_16 (by decide) (fun c_3 => ?_) (fun c_3 => ?_)
      · have h := h.1 c_3
        exact q_vret (pc := 97) E hR h dX0_joinAll_97
      · have h := h.2 c_3
        refine lv_aload_n (pc := 19) hx hb dX0_joinAll_19 rfl (lv_at hl 0 rfl) ?_
        refine q_ci (pc := 20) hR (q_rV E (xp1 w) (As := []) (rest := []) (cX0_takeLeast_met l w hI N _ σ h) ckX0_takeLeast cvX0_takeLeast mw201 ⟨rfl, rfl, Nat.le_of_ble_eq_true rfl, Nat.le_of_ble_eq_true rfl⟩ hR (rc1_9 w) rfl hl.1 rfl (Nat.le_of_ble_eq_true rfl) dX0_joinAll_20) (fun r_5 σ_4 H locs h hR => ?_)
        refine lv_istore_n (pc := 23) (lv' := [(2, .int r_5), (0, .ref (w.2.1 9)), (1, .int x1)]) hx hb dX0_joinAll_23 rfl hl (by decide) rfl (fun ls hl => ?_)
        refine lv_aload_n (pc := 24) hx hb dX0_joinAll_24 rfl (lv_at hl 1 rfl) ?_
        refine q_ci (pc := 25) hR (q_rV E (xp1 w) (As := []) (rest := []) (cX0_takeLeast_met l w hI N _ σ_4 h) ckX0_takeLeast cvX0_takeLeast mw201 ⟨rfl, rfl, Nat.le_of_ble_eq_true rfl, Nat.le_of_ble_eq_true rfl⟩ hR (rc1_9 w) rfl hl.1 rfl (Nat.le_of_ble_eq_true rfl) dX0_joinAll_25) (fun r_7 σ_6 H locs h hR => ?_)
        refine lv_istore_n (pc := 28) (lv' := [(3, .int r_7), (2, .int r_5), (0, .ref (w.2.1 9)), (1, .int x1)]) hx hb dX0_joinAll_28 rfl hl (by decide) rfl (fun ls hl => ?_)
        refine lv_iload_n (pc := 29) hx hb dX0_joinAll_29 rfl (lv_at hl 1 rfl) ?_
        refine lv_if_lt (pc := 30) (tgt := 37) hx hb dX0_joinAll_30 (by decide) (fun c_8 => ?_) (fun c_8 => ?_)
        · have h := h.1 c_8
          exact q_vret (pc := 37) E hR h dX0_joinAll_37
        · have h := h.2 c_8
          refine lv_iload_n (pc := 33) hx hb dX0_joinAll_33 rfl (lv_at hl 0 rfl) ?_
          refine lv_if_ge (pc := 34) (tgt := 38) hx hb dX0_joinAll_34 (by decide) (fun c_9 => ?_) (fun c_9 => ?_)
          · have h := h.1 c_9
            refine lv_aload_n (pc := 38) hx hb dX0_joinAll_38 rfl (lv_at hl 2 rfl) ?_
            refine gf1_9_2 (pc := 39) hx hb hts hown hK hR mw202 dX0_joinAll_39 ?_
            refine lv_aload_n (pc := 42) hx hb dX0_joinAll_42 rfl (lv_at hl 2 rfl) ?_
            refine gf1_9_9 (pc := 43) hx hb hts hown hK hR mw194 dX0_joinAll_43 ?_
            refine lv_iload_n (pc := 46) hx hb dX0_joinAll_46 rfl (lv_at hl 1 rfl) ?_
            have g_10 := h.1
            have h := h.2
            refine q_iast (pc := 47) hx hb hK hI hR (k := 31) lt1_31 (fun f => (ar1_31 _ f _)) g_10 dX0_joinAll_47 (fun H locs σ_11 eσ_11 hR => ?_)
            have h := h σ_11 eσ_11
            refine lv_aload_n (pc := 48) hx hb dX0_joinAll_48 rfl (lv_at hl 2 rfl) ?_
            refine gf1_9_3 (pc := 49) hx hb hts hown hK hR mw203 dX0_joinAll_49 ?_
            refine lv_aload_n (pc := 52) hx hb dX0_joinAll_52 rfl (lv_at hl 2 rfl) ?_
            refine gf1_9_9 (pc := 53) hx hb hts hown hK hR mw194 dX0_joinAll_53 ?_
            refine lv_iload_n (pc := 56) hx hb dX0_joinAll_56 rfl (lv_at hl 0 rfl) ?_
            have g_12 := h.1
            have h := h.2
            refine q_iast (pc := 57) hx hb hK hI hR (k := 32) lt1_32 (fun f => (ar1_32 _ f _)) g_12 dX0_joinAll_57 (fun H locs σ_13 eσ_13 hR => ?_)
            have h := h σ_13 eσ_13
            refine lv_aload_n (pc := 58) hx hb dX0_joinAll_58 rfl (lv_at hl 2 rfl) ?_
            refine lv_aload_n (pc := 59) hx hb dX0_joinAll_59 rfl (lv_at hl 2 rfl) ?_
            refine gf1_9_0 (pc := 60) hx hb hts hown hK hR mw196 dX0_joinAll_60 ?_
            refine lv_iload_n (pc := 63) hx hb dX0_joinAll_63 rfl (lv_at hl 1 rfl) ?_
            have g_14 := h.1
            have h := h.2
            refine q_iald (pc := 64) hx hb hK hR (k := 29) lt1_29 (ar1_29 _ _ _) g_14 dX0_joinAll_64 ?_
            refine lv_aload_n (pc := 65) hx hb dX0_joinAll_65 rfl (lv_at hl 2 rfl) ?_
            refine gf1_9_0 (pc := 66) hx hb hts hown hK hR mw196 dX0_joinAll_66 ?_
            refine lv_iload_n (pc := 69) hx hb dX0_joinAll_69 rfl (lv_at hl 0 rfl) ?_
            have g_15 := h.1
            have h := h.2
            refine q_iald (pc := 70) hx hb hK hR (k := 29) lt1_29 (ar1_29 _ _ _) g_15 dX0_joinAll_70 ?_
            refine lv_iadd (pc := 71) hx hb dX0_joinAll_71 ?_
            refine lv_bipush (pc := 72) (v := 9) hx hb dX0_joinAll_72 (by decide) ?_
            refine lv_aload_n (pc := 74) hx hb dX0_joinAll_74 rfl (lv_at hl 2 rfl) ?_
            refine gf1_9_4 (pc := 75) hx hb hts hown hK hR mw197 dX0_joinAll_75 ?_
            refine lv_iload_n (pc := 78) hx hb dX0_joinAll_78 rfl (lv_at hl 1 rfl) ?_
            have g_16 := h.1
            have h := h.2
            refine q_iald (pc := 79) hx hb hK hR (k := 33) lt1_33 (ar1_33 _ _ _) g_16 dX0_joinAll_79 ?_
            refine lv_iadd (pc := 80) hx hb dX0_joinAll_80 ?_
            refine lv_aload_n (pc := 81) hx hb dX0_joinAll_81 rfl (lv_at hl 2 rfl) ?_
            refine gf1_9_4 (pc := 82) hx hb hts hown hK hR mw197 dX0_joinAll_82 ?_
            refine lv_iload_n (pc := 85) hx hb dX0_joinAll_85 rfl (lv_at hl 0 rfl) ?_
            have g_17 := h.1
            have h := h.2
            refine q_iald (pc := 86) hx hb hK hR (k := 33) lt1_33 (ar1_33 _ _ _) g_17 dX0_joinAll_86 ?_
            refine lv_iadd (pc := 87) hx hb dX0_joinAll_87 ?_
            refine q_cv (pc := 88) hR (q_rV E (xp1 w) (As := [.int ((σ_13.1 29 r_5.toNatClampNeg) + (σ_13.1 29 r_7.toNatClampNeg)), .int ((9 + (σ_13.1 33 r_5.toNatClampNeg)) + (σ_13.1 33 r_7.toNatClampNeg))]) (rest := []) (cX0_addKnot_met l w hI N ((σ_13.1 29 r_5.toNatClampNeg) + (σ_13.1 29 r_7.toNatClampNeg)) ((9 + (σ_13.1 33 r_5.toNatClampNeg)) + (σ_13.1 33 r_7.toNatClampNeg)) _ σ_13 h) ckX0_addKnot cvX0_addKnot mw200 ⟨rfl, rfl, Nat.le_of_ble_eq_true rfl, Nat.le_of_ble_eq_true rfl⟩ hR (rc1_9 w) rfl hl.1 rfl (Nat.le_of_ble_eq_true rfl) dX0_joinAll_88) (fun σ_18 H locs h hR => ?_)
            obtain ⟨v_19, ev_19⟩ : ∃ z : Int32, z = x1 + (-1) := ⟨_, rfl⟩
            have h := h v_19 ev_19
            refine lv_iinc (pc := 91) (v := v_19) (lv' := [(1, .int v_19), (3, .int r_7), (2, .int r_5), (0, .ref (w.2.1 9))]) hx hb dX0_joinAll_91 hl (k := 3) rfl (by rw [ev_19]; rfl) (by decide) rfl (fun ls hl => ?_)
            refine lv_goto (pc := 94) (tgt := 5) hx hb dX0_joinAll_94 (by decide) ?_
            exact ih v_19 σ_18 _ _ _ hR (lv_sub hl [3, 0] rfl) h
          · have h := h.2 c_9
            exact q_vret (pc := 37) E hR h dX0_joinAll_37
def fX0_joinAll (N : Nat) (Q : St → Prop) (σ : St) : Prop := ∀ v_1 : Int32, v_1 = σ.1 9 10 → lo1 (fX0_joinAll_l5 N Q) N v_1 σ
set_option maxHeartbeats 4000000 in
set_option maxRecDepth 100000 in
theorem bX0_joinAll_e {p : Program} {e : Env} {s : State} {m : MethodId} {args : Array Value} {below : List Frame} {meth : Method} {c : Code} (l : Launch) (w : Wd) (N : Nat) (Q : St → Prop) (E : Cx 223 w (X1 w) cX0_joinAll 4 RX0 (.code yX0_joinAll cX0_joinAll 4 none) none p s m args meth c) {σ : St} {H : Heap} {locs : List Loc} {ls : Array Slot} (hR : Rr 223 ev1 w σ s H locs) (hl : lv_has ls 4 [(0, .ref (w.2.1 9))]) (h : fX0_joinAll N Q σ) : W p l e rmX0_joinAll s m args below meth c H locs 0 0 (MQ below (va_Qv Q (Rp 223 ev1 w) (Aw 223 w)) args s 0 0 (Aw 223 w)) (F0 m 0 ls []) := by
  obtain ⟨hx, hb, hml, hown, hts, hr, hlk, hK, hI, hX⟩ := id E
  unfold fX0_joinAll at h
  refine lv_aload_n (pc := 0) hx hb dX0_joinAll_0 rfl (lv_at hl 0 rfl) ?_
  refine gf1_9_10 (pc := 1) hx hb hts hown hK hR mw195 dX0_joinAll_1 ?_
  refine lv_topi (pc := 4) (fun v_1 ev_1 => ?_)
  have h := h v_1 ev_1
  refine lv_istore_n (pc := 4) (lv' := [(1, .int v_1), (0, .ref (w.2.1 9))]) hx hb dX0_joinAll_4 rfl hl (by decide) rfl (fun ls hl => ?_)
  exact bX0_joinAll_5 l w N Q E N v_1 σ _ _ _ hR (lv_sub hl [1, 0] rfl) h
theorem cX0_joinAll_met (l : Launch) (w : Wd) (hI : Ij 223 w) (N : Nat) (Q : St → Prop) (σ : St) (h : fX0_joinAll N Q σ) : Met l yX0_joinAll (.code yX0_joinAll cX0_joinAll 4 none :: Uw) rmX0_joinAll (va_Pc [.ref (w.2.1 9)] (fun U => Rp 223 ev1 w σ U ∧ (X1 w) U)) (va_Qv Q (Rp 223 ev1 w) (Aw 223 w)) 0 0 (Aw 223 w) :=
  q_met (by decide) (Nat.le_of_ble_eq_true rfl) hI (fun p e s m below meth c ls E hl hR => bX0_joinAll_e l w N Q E hR hl h)
-- GlulxStrings$Packer.growTree()V
abbrev rmX5_growTree : Room := { frames := 2, cells := 0, slots := 0, locals := 45 }
def fX5_growTree_j80 (N : Nat) (r25 : Int32 → St → Prop) (x1 : Int32) (Q : St → Prop) (σ : St) : Prop := ∀ v_7 : Int32, v_7 = x1 + 1 → r25 v_7 σ
set_option maxHeartbeats 4000000 in
set_option maxRecDepth 100000 in
theorem bX5_growTree_80 {p : Program} {e : Env} {s : State} {m : MethodId} {args : Array Value} {below : List Frame} {meth : Method} {c : Code} (l : Launch) (w : Wd) (N : Nat) (Q : St → Prop) (E : Cx 223 w (X1 w) cX5_growTree 2 RX5 (.code yX5_growTree cX5_growTree 2 none) none p s m args meth c) (x1 : Int32) (r25 : Int32 → St → Prop) (hr25 : ∀ (x1 : Int32) (σ : St) (H : Heap) (locs : List Loc) (ls : Array Slot), Rr 223 ev1 w σ s H locs → lv_has ls 2 [(0, .ref (w.2.1 4)), (1, .int x1)] → r25 x1 σ → W p l e rmX5_growTree s m args below meth c H locs 0 0 (MQ below (va_Qv Q (Rp 223 ev1 w) (Aw 223 w)) args s 0 0 (Aw 223 w)) (F0 m 25 ls [])) {σ : St} {H : Heap} {locs : List Loc} {ls : Array Slot} (hR : Rr 223 ev1 w σ s H locs) (hl : lv_has ls 2 [(0, .ref (w.2.1 4)), (1, .int x1)]) (h : fX5_growTree_j80 N r25 x1 Q σ) : W p l e rmX5_growTree s m args below meth c H locs 0 0 (MQ below (va_Qv Q (Rp 223 ev1 w) (Aw 223 w)) args s 0 0 (Aw 223 w)) (F0 m 80 ls []) := by
  obtain ⟨hx, hb, hml, hown, hts, hr, hlk, hK, hI, hX⟩ := id E
  unfold fX5_growTree_j80 at h
  obtain ⟨v_7, ev_7⟩ : ∃ z : Int32, z = x1 + 1 := ⟨_, rfl⟩
  have h := h v_7 ev_7
  refine lv_iinc (pc := 80) (v := v_7) (lv' := [(1, .int v_7), (0, .ref (w.2.1 4))]) hx hb dX5_growTree_80 hl (k := 1) rfl (by rw [ev_7]; rfl) (by decide) rfl (fun ls hl => ?_)
  refine lv_goto (pc := 83) (tgt := 25) hx hb dX5_growTree_83 (by decide) ?_
  exact hr25 v_7 σ _ _ _ hR (lv_sub hl [1, 0] rfl) h
def fX5_growTree_l25 (N : Nat) (Q : St → Prop) (r25 : Int32 → St → Prop) (x1 : Int32) (σ : St) : Prop := (((σ.1 6 5) ≤ x1 → fX0_joinAll N (fun σ_4 => Q σ_4) σ) ∧ (¬ (σ.1 6 5) ≤ x1 → vp_in x1 60 ∧ (((σ.1 41 x1.toNatClampNeg) ≤ 0 → fX5_growTree_j80 N r25 x1 Q σ) ∧ (¬ (σ.1 41 x1.toNatClampNeg) ≤ 0 → ∀ v_7 : Int32, v_7 = σ.1 9 9 → vp_in x1 60 ∧ ∀ σ_9 : St, σ_9 = u1 σ 42 x1.toNatClampNeg v_7 → vp_in x1 60 ∧ fX7_nodeSize N x1 (fun r_12 σ_11 => fX0_addLeaf N x1 (σ_9.1 41 x1.toNatClampNeg) r_12 (fun σ_13 => fX5_growTree_j80 N r25 x1 Q σ_13) σ_11) σ_9))))
set_option maxHeartbeats 4000000 in
set_option maxRecDepth 100000 in
theorem bX5_growTree_25 {p : Program} {e : Env} {s : State} {m : MethodId} {args : Array Value} {below : List Frame} {meth : Method} {c : Code} (l : Launch) (w : Wd) (N : Nat) (Q : St → Prop) (E : Cx 223 w (X1 w) cX5_growTree 2 RX5 (.code yX5_growTree cX5_growTree 2 none) none p s m args meth c) : ∀ (n : Nat) (x1 : Int32) (σ : St) (H : Heap) (locs : List Loc) (ls : Array Slot), Rr 223 ev1 w σ s H locs → lv_has ls 2 [(0, .ref (w.2.1 4)), (1, .int x1)] → lo1 (fX5_growTree_l25 N Q) n x1 σ → W p l e rmX5_growTree s m args below meth c H locs 0 0 (MQ below (va_Qv Q (Rp 223 ev1 w) (Aw 223 w)) args s 0 0 (Aw 223 w)) (F0 m 25 ls []) := by
  obtain ⟨hx, hb, hml, hown, hts, hr, hlk, hK, hI, hX⟩ := id E
  intro n
  induction n with
  | zero => intro x1 σ H locs ls hR hl h; exact h.elim
  | succ n ih =>
    intro x1 σ H locs ls hR hl h
    have h : fX5_growTree_l25 N Q (lo1 (fX5_growTree_l25 N Q) n) x1 σ := h
    unfold fX5_growTree_l25 at h
    refine lv_iload_n (pc := 25) hx hb dX5_growTree_25 rfl (lv_at hl 1 rfl) ?_
    refine lv_aload_n (pc := 26) hx hb dX5_growTree_26 rfl (lv_at hl 0 rfl) ?_
    refine gf1_4_2 (pc := 27) hx hb hts hown hK hR mw207 dX5_growTree_27 ?_
    refine gf1_6_5 (pc := 30) hx hb hts hown hK hR mw208 dX5_growTree_30 ?_
    refine lv_icmp_ge (pc := 33) (tgt := 86) hx hb dX5_growTree_33 (by decide) (fun c_3 => ?_) (fun c_3 => ?_)
    · have h := h.1 c_3
      refine lv_aload_n (pc := 86) hx hb dX5_growTree_86 rfl (lv_at hl 0 rfl) ?_
      refine gf1_4_5 (pc := 87) hx hb hts hown hK hR mw204 dX5_growTree_87 ?_
      refine q_cv (pc := 90) hR (q_rV E (xp1 w) (As := []) (rest := []) (cX0_joinAll_met l w hI N _ σ h) ckX0_joinAll cvX0_joinAll mw209 ⟨rfl, rfl, Nat.le_of_ble_eq_true rfl, Nat.le_of_ble_eq_true rfl⟩ hR (rc1_9 w) rfl hl.1 rfl (Nat.le_of_ble_eq_true rfl) dX5_growTree_90) (fun σ_4 H locs h hR => ?_)
      exact q_vret (pc := 93) E hR h dX5_growTree_93
    · have h := h.2 c_3
      refine lv_aload_n (pc := 36) hx hb dX5_growTree_36 rfl (lv_at hl 0 rfl) ?_
      refine gf1_4_9 (pc := 37) hx hb hts hown hK hR mw183 dX5_growTree_37 ?_
      refine lv_iload_n (pc := 40) hx hb dX5_growTree_40 rfl (lv_at hl 1 rfl) ?_
      have g_5 := h.1
      have h := h.2
      refine q_iald (pc := 41) hx hb hK hR (k := 41) lt1_41 (ar1_41 _ _ _) g_5 dX5_growTree_41 ?_
      refine lv_if_le (pc := 42) (tgt := 80) hx hb dX5_growTree_42 (by decide) (fun c_6 => ?_) (fun c_6 => ?_)
      · have h := h.1 c_6
        exact bX5_growTree_80 l w N Q E x1 _ ih hR (lv_sub hl [0, 1] rfl) h
      · have h := h.2 c_6
        refine lv_aload_n (pc := 45) hx hb dX5_growTree_45 rfl (lv_at hl 0 rfl) ?_
        refine gf1_4_10 (pc := 46) hx hb hts hown hK hR mw210 dX5_growTree_46 ?_
        refine lv_iload_n (pc := 49) hx hb dX5_growTree_49 rfl (lv_at hl 1 rfl) ?_
        refine lv_aload_n (pc := 50) hx hb dX5_growTree_50 rfl (lv_at hl 0 rfl) ?_
        refine gf1_4_5 (pc := 51) hx hb hts hown hK hR mw204 dX5_growTree_51 ?_
        refine gf1_9_9 (pc := 54) hx hb hts hown hK hR mw211 dX5_growTree_54 ?_
        refine lv_topi (pc := 57) (fun v_7 ev_7 => ?_)
        have h := h v_7 ev_7
        have g_8 := h.1
        have h := h.2
        refine q_iast (pc := 57) hx hb hK hI hR (k := 42) lt1_42 (fun f => (ar1_42 _ f _)) g_8 dX5_growTree_57 (fun H locs σ_9 eσ_9 hR => ?_)
        have h := h σ_9 eσ_9
        refine lv_aload_n (pc := 58) hx hb dX5_growTree_58 rfl (lv_at hl 0 rfl) ?_
        refine gf1_4_5 (pc := 59) hx hb hts hown hK hR mw204 dX5_growTree_59 ?_
        refine lv_iload_n (pc := 62) hx hb dX5_growTree_62 rfl (lv_at hl 1 rfl) ?_
        refine lv_aload_n (pc := 63) hx hb dX5_growTree_63 rfl (lv_at hl 0 rfl) ?_
        refine gf1_4_9 (pc := 64) hx hb hts hown hK hR mw183 dX5_growTree_64 ?_
        refine lv_iload_n (pc := 67) hx hb dX5_growTree_67 rfl (lv_at hl 1 rfl) ?_
        have g_10 := h.1
        have h := h.2
        refine q_iald (pc := 68) hx hb hK hR (k := 41) lt1_41 (ar1_41 _ _ _) g_10 dX5_growTree_68 ?_
        refine lv_aload_n (pc := 69) hx hb dX5_growTree_69 rfl (lv_at hl 0 rfl) ?_
        refine gf1_4_2 (pc := 70) hx hb hts hown hK hR mw207 dX5_growTree_70 ?_
        refine lv_iload_n (pc := 73) hx hb dX5_growTree_73 rfl (lv_at hl 1 rfl) ?_
        refine q_ci (pc := 74) hR (q_rV E (xp1 w) (As := [.int x1]) (rest := [.int (σ_9.1 41 x1.toNatClampNeg), .int x1, .ref (w.2.1 9)]) (cX7_nodeSize_met l w hI N x1 _ σ_9 h) ckX7_nodeSize cvX7_nodeSize mw212 ⟨rfl, rfl, Nat.le_of_ble_eq_true rfl, Nat.le_of_ble_eq_true rfl⟩ hR (rc1_6 w) rfl hl.1 rfl (Nat.le_of_ble_eq_true rfl) dX5_growTree_74) (fun r_12 σ_11 H locs h hR => ?_)
        refine q_cv (pc := 77) hR (q_rV E (xp1 w) (As := [.int x1, .int (σ_9.1 41 x1.toNatClampNeg), .int r_12]) (rest := []) (cX0_addLeaf_met l w hI N x1 (σ_9.1 41 x1.toNatClampNeg) r_12 _ σ_11 h) ckX0_addLeaf cvX0_addLeaf mw206 ⟨rfl, rfl, Nat.le_of_ble_eq_true rfl, Nat.le_of_ble_eq_true rfl⟩ hR (rc1_9 w) rfl hl.1 rfl (Nat.le_of_ble_eq_true rfl) dX5_growTree_77) (fun σ_13 H locs h hR => ?_)
        exact bX5_growTree_80 l w N Q E x1 _ ih hR (lv_sub hl [0, 1] rfl) h
def fX5_growTree (N : Nat) (Q : St → Prop) (σ : St) : Prop := fX0_clearLeaves N (fun σ_1 => fX0_addLeaf N (-1) (σ_1.1 7 4) 1 (fun σ_2 => lo1 (fX5_growTree_l25 N Q) N 0 σ_2) σ_1) σ
set_option maxHeartbeats 4000000 in
set_option maxRecDepth 100000 in
theorem bX5_growTree_e {p : Program} {e : Env} {s : State} {m : MethodId} {args : Array Value} {below : List Frame} {meth : Method} {c : Code} (l : Launch) (w : Wd) (N : Nat) (Q : St → Prop) (E : Cx 223 w (X1 w) cX5_growTree 2 RX5 (.code yX5_growTree cX5_growTree 2 none) none p s m args meth c) {σ : St} {H : Heap} {locs : List Loc} {ls : Array Slot} (hR : Rr 223 ev1 w σ s H locs) (hl : lv_has ls 2 [(0, .ref (w.2.1 4))]) (h : fX5_growTree N Q σ) : W p l e rmX5_growTree s m args below meth c H locs 0 0 (MQ below (va_Qv Q (Rp 223 ev1 w) (Aw 223 w)) args s 0 0 (Aw 223 w)) (F0 m 0 ls []) := by
  obtain ⟨hx, hb, hml, hown, hts, hr, hlk, hK, hI, hX⟩ := id E
  unfold fX5_growTree at h
  refine lv_aload_n (pc := 0) hx hb dX5_growTree_0 rfl (lv_at hl 0 rfl) ?_
  refine gf1_4_5 (pc := 1) hx hb hts hown hK hR mw204 dX5_growTree_1 ?_
  refine q_cv (pc := 4) hR (q_rV E (xp1 w) (As := []) (rest := []) (cX0_clearLeaves_met l w hI N _ σ h) ckX0_clearLeaves cvX0_clearLeaves mw205 ⟨rfl, rfl, Nat.le_of_ble_eq_true rfl, Nat.le_of_ble_eq_true rfl⟩ hR (rc1_9 w) rfl hl.1 rfl (Nat.le_of_ble_eq_true rfl) dX5_growTree_4) (fun σ_1 H locs h hR => ?_)
  refine lv_aload_n (pc := 7) hx hb dX5_growTree_7 rfl (lv_at hl 0 rfl) ?_
  refine gf1_4_5 (pc := 8) hx hb hts hown hK hR mw204 dX5_growTree_8 ?_
  refine lv_iconst (pc := 11) (v := (-1)) hx hb dX5_growTree_11 (by decide) ?_
  refine lv_aload_n (pc := 12) hx hb dX5_growTree_12 rfl (lv_at hl 0 rfl) ?_
  refine gf1_4_3 (pc := 13) hx hb hts hown hK hR mw185 dX5_growTree_13 ?_
  refine gf1_7_4 (pc := 16) hx hb hts hown hK hR mw186 dX5_growTree_16 ?_
  refine lv_iconst (pc := 19) (v := 1) hx hb dX5_growTree_19 (by decide) ?_
  refine q_cv (pc := 20) hR (q_rV E (xp1 w) (As := [.int (-1), .int (σ_1.1 7 4), .int 1]) (rest := []) (cX0_addLeaf_met l w hI N (-1) (σ_1.1 7 4) 1 _ σ_1 h) ckX0_addLeaf cvX0_addLeaf mw206 ⟨rfl, rfl, Nat.le_of_ble_eq_true rfl, Nat.le_of_ble_eq_true rfl⟩ hR (rc1_9 w) rfl hl.1 rfl (Nat.le_of_ble_eq_true rfl) dX5_growTree_20) (fun σ_2 H locs h hR => ?_)
  refine lv_iconst (pc := 23) (v := 0) hx hb dX5_growTree_23 (by decide) ?_
  refine lv_istore_n (pc := 24) (lv' := [(1, .int 0), (0, .ref (w.2.1 4))]) hx hb dX5_growTree_24 rfl hl (by decide) rfl (fun ls hl => ?_)
  exact bX5_growTree_25 l w N Q E N 0 σ_2 _ _ _ hR (lv_sub hl [1, 0] rfl) h
theorem cX5_growTree_met (l : Launch) (w : Wd) (hI : Ij 223 w) (N : Nat) (Q : St → Prop) (σ : St) (h : fX5_growTree N Q σ) : Met l yX5_growTree (.code yX5_growTree cX5_growTree 2 none :: Uw) rmX5_growTree (va_Pc [.ref (w.2.1 4)] (fun U => Rp 223 ev1 w σ U ∧ (X1 w) U)) (va_Qv Q (Rp 223 ev1 w) (Aw 223 w)) 0 0 (Aw 223 w) :=
  q_met (by decide) (Nat.le_of_ble_eq_true rfl) hI (fun p e s m below meth c ls E hl hR => bX5_growTree_e l w N Q E hR hl h)
-- GlulxStrings$BestTree.spread(I)V
abbrev rmX0_spread : Room := { frames := 0, cells := 0, slots := 0, locals := 0 }
def fX0_spread_l41 (N : Nat) (Q : St → Prop) (r41 : Int32 → St → Prop) (x3 : Int32) (σ : St) : Prop := ((x3 < (σ.1 9 10) → Q σ) ∧ (¬ x3 < (σ.1 9 10) → vp_in x3 121 ∧ ∀ v_12 : Int32, v_12 = σ.1 31 x3.toNatClampNeg → vp_in x3 121 ∧ ∀ v_14 : Int32, v_14 = σ.1 32 x3.toNatClampNeg → vp_in x3 121 ∧ ∀ v_16 : Int32, v_16 = (σ.1 35 x3.toNatClampNeg) + 9 → vp_in v_12 121 ∧ ∀ σ_18 : St, σ_18 = u1 σ 35 v_12.toNatClampNeg v_16 → vp_in v_12 121 ∧ vp_in v_12 121 ∧ ∀ v_21 : Int32, v_21 = (σ_18.1 35 v_12.toNatClampNeg) + (σ_18.1 33 v_12.toNatClampNeg) → vp_in v_14 121 ∧ ∀ σ_23 : St, σ_23 = u1 σ_18 35 v_14.toNatClampNeg v_21 → vp_in x3 121 ∧ ∀ v_25 : Int32, v_25 = (σ_23.1 36 x3.toNatClampNeg) + 1 → vp_in v_12 121 ∧ ∀ σ_27 : St, σ_27 = u1 σ_23 36 v_12.toNatClampNeg v_25 → vp_in x3 121 ∧ ∀ v_29 : Int32, v_29 = (σ_27.1 36 x3.toNatClampNeg) + 1 → vp_in v_14 121 ∧ ∀ σ_31 : St, σ_31 = u1 σ_27 36 v_14.toNatClampNeg v_29 → vp_in x3 121 ∧ ∀ v_33 : Int64, v_33 = σ_31.2 37 x3.toNatClampNeg → vp_in v_12 121 ∧ ∀ σ_35 : St, σ_35 = u2 σ_31 37 v_12.toNatClampNeg v_33 → vp_in x3 121 ∧ vp_in x3 121 ∧ ∀ v_38 : Int64, v_38 = (σ_35.2 37 x3.toNatClampNeg) ||| (1 <<< ((σ_35.1 36 x3.toNatClampNeg).toInt64 &&& 63)) → vp_in v_14 121 ∧ ∀ σ_40 : St, σ_40 = u2 σ_35 37 v_14.toNatClampNeg v_38 → ∀ v_41 : Int32, v_41 = x3 + (-1) → r41 v_41 σ_40))
set_option maxHeartbeats 4000000 in
set_option maxRecDepth 100000 in
theorem bX0_spread_41 {p : Program} {e : Env} {s : State} {m : MethodId} {args : Array Value} {below : List Frame} {meth : Method} {c : Code} (l : Launch) (w : Wd) (N : Nat) (Q : St → Prop) (E : Cx 223 w (X1 w) cX0_spread 6 RX0 (.code yX0_spread cX0_spread 6 none) none p s m args meth c) : ∀ (n : Nat) (x3 : Int32) (σ : St) (H : Heap) (locs : List Loc) (ls : Array Slot), Rr 223 ev1 w σ s H locs → lv_has ls 6 [(0, .ref (w.2.1 9)), (3, .int x3)] → lo1 (fX0_spread_l41 N Q) n x3 σ → W p l e rmX0_spread s m args below meth c H locs 0 0 (MQ below (va_Qv Q (Rp 223 ev1 w) (Aw 223 w)) args s 0 0 (Aw 223 w)) (F0 m 41 ls []) := by
  obtain ⟨hx, hb, hml, hown, hts, hr, hlk, hK, hI, hX⟩ := id E
  intro n
  induction n with
  | zero => intro x3 σ H locs ls hR hl h; exact h.elim
  | succ n ih =>
    intro x3 σ H locs ls hR hl h
    have h : fX0_spread_l41 N Q (lo1 (fX0_spread_l41 N Q) n) x3 σ := h
    unfold fX0_spread_l41 at h
    refine lv_iload_n (pc := 41) hx hb dX0_spread_41 rfl (lv_at hl 1 rfl) ?_
    refine lv_aload_n (pc := 42) hx hb dX0_spread_42 rfl (lv_at hl 0 rfl) ?_
    refine gf1_9_10 (pc := 43) hx hb hts hown hK hR mw195 dX0_spread_43 ?_
    refine lv_icmp_lt (pc := 46) (tgt := 174) hx hb dX0_spread_46 (by decide) (fun c_10 => ?_) (fun c_10 => ?_)
    · have h := h.1 c_10
      exact q_vret (pc := 174) E hR h dX0_spread_174
    · have h := h.2 c_10
      refine lv_aload_n (pc := 49) hx hb dX0_spread_49 rfl (lv_at hl 0 rfl) ?_
      refine gf1_9_2 (pc := 50) hx hb hts hown hK hR mw202 dX0_spread_50 ?_
      refine lv_iload_n (pc := 53) hx hb dX0_spread_53 rfl (lv_at hl 1 rfl) ?_
      have g_11 := h.1
      have h := h.2
      refine q_iald (pc := 54) hx hb hK hR (k := 31) lt1_31 (ar1_31 _ _ _) g_11 dX0_spread_54 ?_
      refine lv_topi (pc := 55) (fun v_12 ev_12 => ?_)
      have h := h v_12 ev_12
      refine lv_istore (pc := 55) (lv' := [(4, .int v_12), (0, .ref (w.2.1 9)), (3, .int x3)]) hx hb dX0_spread_55 hl (by decide) rfl (fun ls hl => ?_)
      refine lv_aload_n (pc := 57) hx hb dX0_spread_57 rfl (lv_at hl 1 rfl) ?_
      refine gf1_9_3 (pc := 58) hx hb hts hown hK hR mw203 dX0_spread_58 ?_
      refine lv_iload_n (pc := 61) hx hb dX0_spread_61 rfl (lv_at hl 2 rfl) ?_
      have g_13 := h.1
      have h := h.2
      refine q_iald (pc := 62) hx hb hK hR (k := 32) lt1_32 (ar1_32 _ _ _) g_13 dX0_spread_62 ?_
      refine lv_topi (pc := 63) (fun v_14 ev_14 => ?_)
      have h := h v_14 ev_14
      refine lv_istore (pc := 63) (lv' := [(5, .int v_14), (4, .int v_12), (0, .ref (w.2.1 9)), (3, .int x3)]) hx hb dX0_spread_63 hl (by decide) rfl (fun ls hl => ?_)
      refine lv_aload_n (pc := 65) hx hb dX0_spread_65 rfl (lv_at hl 2 rfl) ?_
      refine gf1_9_6 (pc := 66) hx hb hts hown hK hR mw213 dX0_spread_66 ?_
      refine lv_iload (pc := 69) hx hb dX0_spread_69 (lv_at hl 1 rfl) ?_
      refine lv_aload_n (pc := 71) hx hb dX0_spread_71 rfl (lv_at hl 2 rfl) ?_
      refine gf1_9_6 (pc := 72) hx hb hts hown hK hR mw213 dX0_spread_72 ?_
      refine lv_iload_n (pc := 75) hx hb dX0_spread_75 rfl (lv_at hl 3 rfl) ?_
      have g_15 := h.1
      have h := h.2
      refine q_iald (pc := 76) hx hb hK hR (k := 35) lt1_35 (ar1_35 _ _ _) g_15 dX0_spread_76 ?_
      refine lv_bipush (pc := 77) (v := 9) hx hb dX0_spread_77 (by decide) ?_
      refine lv_iadd (pc := 79) hx hb dX0_spread_79 ?_
      refine lv_topi (pc := 80) (fun v_16 ev_16 => ?_)
      have h := h v_16 ev_16
      have g_17 := h.1
      have h := h.2
      refine q_iast (pc := 80) hx hb hK hI hR (k := 35) lt1_35 (fun f => (ar1_35 _ f _)) g_17 dX0_spread_80 (fun H locs σ_18 eσ_18 hR => ?_)
      have h := h σ_18 eσ_18
      refine lv_aload_n (pc := 81) hx hb dX0_spread_81 rfl (lv_at hl 2 rfl) ?_
      refine gf1_9_6 (pc := 82) hx hb hts hown hK hR mw213 dX0_spread_82 ?_
      refine lv_iload (pc := 85) hx hb dX0_spread_85 (lv_at hl 0 rfl) ?_
      refine lv_aload_n (pc := 87) hx hb dX0_spread_87 rfl (lv_at hl 2 rfl) ?_
      refine gf1_9_6 (pc := 88) hx hb hts hown hK hR mw213 dX0_spread_88 ?_
      refine lv_iload (pc := 91) hx hb dX0_spread_91 (lv_at hl 1 rfl) ?_
      have g_19 := h.1
      have h := h.2
      refine q_iald (pc := 93) hx hb hK hR (k := 35) lt1_35 (ar1_35 _ _ _) g_19 dX0_spread_93 ?_
      refine lv_aload_n (pc := 94) hx hb dX0_spread_94 rfl (lv_at hl 2 rfl) ?_
      refine gf1_9_4 (pc := 95) hx hb hts hown hK hR mw197 dX0_spread_95 ?_
      refine lv_iload (pc := 98) hx hb dX0_spread_98 (lv_at hl 1 rfl) ?_
      have g_20 := h.1
      have h := h.2
      refine q_iald (pc := 100) hx hb hK hR (k := 33) lt1_33 (ar1_33 _ _ _) g_20 dX0_spread_100 ?_
      refine lv_iadd (pc := 101) hx hb dX0_spread_101 ?_
      refine lv_topi (pc := 102) (fun v_21 ev_21 => ?_)
      have h := h v_21 ev_21
      have g_22 := h.1
      have h := h.2
      refine q_iast (pc := 102) hx hb hK hI hR (k := 35) lt1_35 (fun f => (ar1_35 _ f _)) g_22 dX0_spread_102 (fun H locs σ_23 eσ_23 hR => ?_)
      have h := h σ_23 eσ_23
      refine lv_aload_n (pc := 103) hx hb dX0_spread_103 rfl (lv_at hl 2 rfl) ?_
      refine gf1_9_7 (pc := 104) hx hb hts hown hK hR mw214 dX0_spread_104 ?_
      refine lv_iload (pc := 107) hx hb dX0_spread_107 (lv_at hl 1 rfl) ?_
      refine lv_aload_n (pc := 109) hx hb dX0_spread_109 rfl (lv_at hl 2 rfl) ?_
      refine gf1_9_7 (pc := 110) hx hb hts hown hK hR mw214 dX0_spread_110 ?_
      refine lv_iload_n (pc := 113) hx hb dX0_spread_113 rfl (lv_at hl 3 rfl) ?_
      have g_24 := h.1
      have h := h.2
      refine q_iald (pc := 114) hx hb hK hR (k := 36) lt1_36 (ar1_36 _ _ _) g_24 dX0_spread_114 ?_
      refine lv_iconst (pc := 115) (v := 1) hx hb dX0_spread_115 (by decide) ?_
      refine lv_iadd (pc := 116) hx hb dX0_spread_116 ?_
      refine lv_topi (pc := 117) (fun v_25 ev_25 => ?_)
      have h := h v_25 ev_25
      have g_26 := h.1
      have h := h.2
      refine q_iast (pc := 117) hx hb hK hI hR (k := 36) lt1_36 (fun f => (ar1_36 _ f _)) g_26 dX0_spread_117 (fun H locs σ_27 eσ_27 hR => ?_)
      have h := h σ_27 eσ_27
      refine lv_aload_n (pc := 118) hx hb dX0_spread_118 rfl (lv_at hl 2 rfl) ?_
      refine gf1_9_7 (pc := 119) hx hb hts hown hK hR mw214 dX0_spread_119 ?_
      refine lv_iload (pc := 122) hx hb dX0_spread_122 (lv_at hl 0 rfl) ?_
      refine lv_aload_n (pc := 124) hx hb dX0_spread_124 rfl (lv_at hl 2 rfl) ?_
      refine gf1_9_7 (pc := 125) hx hb hts hown hK hR mw214 dX0_spread_125 ?_
      refine lv_iload_n (pc := 128) hx hb dX0_spread_128 rfl (lv_at hl 3 rfl) ?_
      have g_28 := h.1
      have h := h.2
      refine q_iald (pc := 129) hx hb hK hR (k := 36) lt1_36 (ar1_36 _ _ _) g_28 dX0_spread_129 ?_
      refine lv_iconst (pc := 130) (v := 1) hx hb dX0_spread_130 (by decide) ?_
      refine lv_iadd (pc := 131) hx hb dX0_spread_131 ?_
      refine lv_topi (pc := 132) (fun v_29 ev_29 => ?_)
      have h := h v_29 ev_29
      have g_30 := h.1
      have h := h.2
      refine q_iast (pc := 132) hx hb hK hI hR (k := 36) lt1_36 (fun f => (ar1_36 _ f _)) g_30 dX0_spread_132 (fun H locs σ_31 eσ_31 hR => ?_)
      have h := h σ_31 eσ_31
      refine lv_aload_n (pc := 133) hx hb dX0_spread_133 rfl (lv_at hl 2 rfl) ?_
      refine gf1_9_8 (pc := 134) hx hb hts hown hK hR mw215 dX0_spread_134 ?_
      refine lv_iload (pc := 137) hx hb dX0_spread_137 (lv_at hl 1 rfl) ?_
      refine lv_aload_n (pc := 139) hx hb dX0_spread_139 rfl (lv_at hl 2 rfl) ?_
      refine gf1_9_8 (pc := 140) hx hb hts hown hK hR mw215 dX0_spread_140 ?_
      refine lv_iload_n (pc := 143) hx hb dX0_spread_143 rfl (lv_at hl 3 rfl) ?_
      have g_32 := h.1
      have h := h.2
      refine q_lald (pc := 144) hx hb hK hR (k := 37) lt1_37 (ar1_37 _ _ _) g_32 dX0_spread_144 ?_
      refine lv_topl (pc := 145) (fun v_33 ev_33 => ?_)
      have h := h v_33 ev_33
      have g_34 := h.1
      have h := h.2
      refine q_last (pc := 145) hx hb hK hI hR (k := 37) lt1_37 (fun f => (ar1_37 _ _ f)) g_34 dX0_spread_145 (fun H locs σ_35 eσ_35 hR => ?_)
      have h := h σ_35 eσ_35
      refine lv_aload_n (pc := 146) hx hb dX0_spread_146 rfl (lv_at hl 2 rfl) ?_
      refine gf1_9_8 (pc := 147) hx hb hts hown hK hR mw215 dX0_spread_147 ?_
      refine lv_iload (pc := 150) hx hb dX0_spread_150 (lv_at hl 0 rfl) ?_
      refine lv_aload_n (pc := 152) hx hb dX0_spread_152 rfl (lv_at hl 2 rfl) ?_
      refine gf1_9_8 (pc := 153) hx hb hts hown hK hR mw215 dX0_spread_153 ?_
      refine lv_iload_n (pc := 156) hx hb dX0_spread_156 rfl (lv_at hl 3 rfl) ?_
      have g_36 := h.1
      have h := h.2
      refine q_lald (pc := 157) hx hb hK hR (k := 37) lt1_37 (ar1_37 _ _ _) g_36 dX0_spread_157 ?_
      refine lv_lconst (pc := 158) (v := 1) hx hb dX0_spread_158 (by decide) ?_
      refine lv_aload_n (pc := 159) hx hb dX0_spread_159 rfl (lv_at hl 2 rfl) ?_
      refine gf1_9_7 (pc := 160) hx hb hts hown hK hR mw214 dX0_spread_160 ?_
      refine lv_iload_n (pc := 163) hx hb dX0_spread_163 rfl (lv_at hl 3 rfl) ?_
      have g_37 := h.1
      have h := h.2
      refine q_iald (pc := 164) hx hb hK hR (k := 36) lt1_36 (ar1_36 _ _ _) g_37 dX0_spread_164 ?_
      refine lv_lshl (pc := 165) (v := 1 <<< ((σ_35.1 36 x3.toNatClampNeg).toInt64 &&& 63)) hx hb dX0_spread_165 rfl ?_
      refine lv_lor (pc := 166) hx hb dX0_spread_166 ?_
      refine lv_topl (pc := 167) (fun v_38 ev_38 => ?_)
      have h := h v_38 ev_38
      have g_39 := h.1
      have h := h.2
      refine q_last (pc := 167) hx hb hK hI hR (k := 37) lt1_37 (fun f => (ar1_37 _ _ f)) g_39 dX0_spread_167 (fun H locs σ_40 eσ_40 hR => ?_)
      have h := h σ_40 eσ_40
      obtain ⟨v_41, ev_41⟩ : ∃ z : Int32, z = x3 + (-1) := ⟨_, rfl⟩
      have h := h v_41 ev_41
      refine lv_iinc (pc := 168) (v := v_41) (lv' := [(3, .int v_41), (5, .int v_14), (4, .int v_12), (0, .ref (w.2.1 9))]) hx hb dX0_spread_168 hl (k := 3) rfl (by rw [ev_41]; rfl) (by decide) rfl (fun ls hl => ?_)
      refine lv_goto (pc := 171) (tgt := 41) hx hb dX0_spread_171 (by decide) ?_
      exact ih v_41 σ_40 _ _ _ hR (lv_sub hl [3, 0] rfl) h
def fX0_spread (N : Nat) (x1 : Int32) (Q : St → Prop) (σ : St) : Prop := (((σ.1 9 9) = 0 → Q σ) ∧ (¬ (σ.1 9 9) = 0 → ∀ v_2 : Int32, v_2 = (σ.1 9 9) - 1 → ∀ v_3 : Int32, v_3 = x1 + 12 → vp_in v_2 121 ∧ ∀ σ_5 : St, σ_5 = u1 σ 35 v_2.toNatClampNeg v_3 → vp_in v_2 121 ∧ ∀ σ_7 : St, σ_7 = u1 σ_5 36 v_2.toNatClampNeg 0 → vp_in v_2 121 ∧ ∀ σ_9 : St, σ_9 = u2 σ_7 37 v_2.toNatClampNeg 0 → lo1 (fX0_spread_l41 N Q) N v_2 σ_9))
set_option maxHeartbeats 4000000 in
set_option maxRecDepth 100000 in
theorem bX0_spread_e {p : Program} {e : Env} {s : State} {m : MethodId} {args : Array Value} {below : List Frame} {meth : Method} {c : Code} (l : Launch) (w : Wd) (N : Nat) (Q : St → Prop) (E : Cx 223 w (X1 w) cX0_spread 6 RX0 (.code yX0_spread cX0_spread 6 none) none p s m args meth c) (x1 : Int32) {σ : St} {H : Heap} {locs : List Loc} {ls : Array Slot} (hR : Rr 223 ev1 w σ s H locs) (hl : lv_has ls 6 [(0, .ref (w.2.1 9)), (1, .int x1)]) (h : fX0_spread N x1 Q σ) : W p l e rmX0_spread s m args below meth c H locs 0 0 (MQ below (va_Qv Q (Rp 223 ev1 w) (Aw 223 w)) args s 0 0 (Aw 223 w)) (F0 m 0 ls []) := by
  obtain ⟨hx, hb, hml, hown, hts, hr, hlk, hK, hI, hX⟩ := id E
  unfold fX0_spread at h
  refine lv_aload_n (pc := 0) hx hb dX0_spread_0 rfl (lv_at hl 0 rfl) ?_
  refine gf1_9_9 (pc := 1) hx hb hts hown hK hR mw194 dX0_spread_1 ?_
  refine lv_if_ne (pc := 4) (tgt := 8) hx hb dX0_spread_4 (by decide) (fun c_1 => ?_) (fun c_1 => ?_)
  · have h := h.2 c_1
    refine lv_aload_n (pc := 8) hx hb dX0_spread_8 rfl (lv_at hl 0 rfl) ?_
    refine gf1_9_9 (pc := 9) hx hb hts hown hK hR mw194 dX0_spread_9 ?_
    refine lv_iconst (pc := 12) (v := 1) hx hb dX0_spread_12 (by decide) ?_
    refine lv_isub (pc := 13) hx hb dX0_spread_13 ?_
    refine lv_topi (pc := 14) (fun v_2 ev_2 => ?_)
    have h := h v_2 ev_2
    refine lv_istore_n (pc := 14) (lv' := [(2, .int v_2), (0, .ref (w.2.1 9)), (1, .int x1)]) hx hb dX0_spread_14 rfl hl (by decide) rfl (fun ls hl => ?_)
    refine lv_aload_n (pc := 15) hx hb dX0_spread_15 rfl (lv_at hl 1 rfl) ?_
    refine gf1_9_6 (pc := 16) hx hb hts hown hK hR mw213 dX0_spread_16 ?_
    refine lv_iload_n (pc := 19) hx hb dX0_spread_19 rfl (lv_at hl 0 rfl) ?_
    refine lv_iload_n (pc := 20) hx hb dX0_spread_20 rfl (lv_at hl 2 rfl) ?_
    refine lv_bipush (pc := 21) (v := 12) hx hb dX0_spread_21 (by decide) ?_
    refine lv_iadd (pc := 23) hx hb dX0_spread_23 ?_
    refine lv_topi (pc := 24) (fun v_3 ev_3 => ?_)
    have h := h v_3 ev_3
    have g_4 := h.1
    have h := h.2
    refine q_iast (pc := 24) hx hb hK hI hR (k := 35) lt1_35 (fun f => (ar1_35 _ f _)) g_4 dX0_spread_24 (fun H locs σ_5 eσ_5 hR => ?_)
    have h := h σ_5 eσ_5
    refine lv_aload_n (pc := 25) hx hb dX0_spread_25 rfl (lv_at hl 1 rfl) ?_
    refine gf1_9_7 (pc := 26) hx hb hts hown hK hR mw214 dX0_spread_26 ?_
    refine lv_iload_n (pc := 29) hx hb dX0_spread_29 rfl (lv_at hl 0 rfl) ?_
    refine lv_iconst (pc := 30) (v := 0) hx hb dX0_spread_30 (by decide) ?_
    have g_6 := h.1
    have h := h.2
    refine q_iast (pc := 31) hx hb hK hI hR (k := 36) lt1_36 (fun f => (ar1_36 _ f _)) g_6 dX0_spread_31 (fun H locs σ_7 eσ_7 hR => ?_)
    have h := h σ_7 eσ_7
    refine lv_aload_n (pc := 32) hx hb dX0_spread_32 rfl (lv_at hl 1 rfl) ?_
    refine gf1_9_8 (pc := 33) hx hb hts hown hK hR mw215 dX0_spread_33 ?_
    refine lv_iload_n (pc := 36) hx hb dX0_spread_36 rfl (lv_at hl 0 rfl) ?_
    refine lv_lconst (pc := 37) (v := 0) hx hb dX0_spread_37 (by decide) ?_
    have g_8 := h.1
    have h := h.2
    refine q_last (pc := 38) hx hb hK hI hR (k := 37) lt1_37 (fun f => (ar1_37 _ _ f)) g_8 dX0_spread_38 (fun H locs σ_9 eσ_9 hR => ?_)
    have h := h σ_9 eσ_9
    refine lv_iload_n (pc := 39) hx hb dX0_spread_39 rfl (lv_at hl 0 rfl) ?_
    refine lv_istore_n (pc := 40) (lv' := [(3, .int v_2), (2, .int v_2), (0, .ref (w.2.1 9)), (1, .int x1)]) hx hb dX0_spread_40 rfl hl (by decide) rfl (fun ls hl => ?_)
    exact bX0_spread_41 l w N Q E N v_2 σ_9 _ _ _ hR (lv_sub hl [2, 0] rfl) h
  · have h := h.1 c_1
    exact q_vret (pc := 7) E hR h dX0_spread_7
theorem cX0_spread_met (l : Launch) (w : Wd) (hI : Ij 223 w) (N : Nat) (x1 : Int32) (Q : St → Prop) (σ : St) (h : fX0_spread N x1 Q σ) : Met l yX0_spread (.code yX0_spread cX0_spread 6 none :: Uw) rmX0_spread (va_Pc [.ref (w.2.1 9), .int x1] (fun U => Rp 223 ev1 w σ U ∧ (X1 w) U)) (va_Qv Q (Rp 223 ev1 w) (Aw 223 w)) 0 0 (Aw 223 w) :=
  q_met (by decide) (Nat.le_of_ble_eq_true rfl) hI (fun p e s m below meth c ls E hl hR => bX0_spread_e l w N Q E x1 hR hl h)
-- GlulxStrings$BestTree.size()I
abbrev rmX0_size : Room := { frames := 0, cells := 0, slots := 0, locals := 0 }
def fX0_size (N : Nat) (Q : Int32 → St → Prop) (σ : St) : Prop := (((σ.1 9 9) ≤ 0 → Q 12 σ) ∧ (¬ (σ.1 9 9) ≤ 0 → vp_in ((σ.1 9 9) - 1) 121 ∧ Q (12 + (σ.1 33 ((σ.1 9 9) - 1).toNatClampNeg)) σ))
set_option maxHeartbeats 4000000 in
set_option maxRecDepth 100000 in
theorem bX0_size_e {p : Program} {e : Env} {s : State} {m : MethodId} {args : Array Value} {below : List Frame} {meth : Method} {c : Code} (l : Launch) (w : Wd) (N : Nat) (Q : Int32 → St → Prop) (E : Cx 223 w (X1 w) cX0_size 1 RX0 (.code yX0_size cX0_size 1 (some .int)) (some .int) p s m args meth c) {σ : St} {H : Heap} {locs : List Loc} {ls : Array Slot} (hR : Rr 223 ev1 w σ s H locs) (hl : lv_has ls 1 [(0, .ref (w.2.1 9))]) (h : fX0_size N Q σ) : W p l e rmX0_size s m args below meth c H locs 0 0 (MQ below (va_Qi Q (Rp 223 ev1 w) (Aw 223 w)) args s 0 0 (Aw 223 w)) (F0 m 0 ls []) := by
  obtain ⟨hx, hb, hml, hown, hts, hr, hlk, hK, hI, hX⟩ := id E
  unfold fX0_size at h
  refine lv_aload_n (pc := 0) hx hb dX0_size_0 rfl (lv_at hl 0 rfl) ?_
  refine gf1_9_9 (pc := 1) hx hb hts hown hK hR mw194 dX0_size_1 ?_
  refine lv_if_le (pc := 4) (tgt := 24) hx hb dX0_size_4 (by decide) (fun c_1 => ?_) (fun c_1 => ?_)
  · have h := h.1 c_1
    refine lv_bipush (pc := 24) (v := 12) hx hb dX0_size_24 (by decide) ?_
    exact q_iret (pc := 26) E hR h dX0_size_26
  · have h := h.2 c_1
    refine lv_bipush (pc := 7) (v := 12) hx hb dX0_size_7 (by decide) ?_
    refine lv_aload_n (pc := 9) hx hb dX0_size_9 rfl (lv_at hl 0 rfl) ?_
    refine gf1_9_4 (pc := 10) hx hb hts hown hK hR mw197 dX0_size_10 ?_
    refine lv_aload_n (pc := 13) hx hb dX0_size_13 rfl (lv_at hl 0 rfl) ?_
    refine gf1_9_9 (pc := 14) hx hb hts hown hK hR mw194 dX0_size_14 ?_
    refine lv_iconst (pc := 17) (v := 1) hx hb dX0_size_17 (by decide) ?_
    refine lv_isub (pc := 18) hx hb dX0_size_18 ?_
    have g_2 := h.1
    have h := h.2
    refine q_iald (pc := 19) hx hb hK hR (k := 33) lt1_33 (ar1_33 _ _ _) g_2 dX0_size_19 ?_
    refine lv_iadd (pc := 20) hx hb dX0_size_20 ?_
    refine lv_goto (pc := 21) (tgt := 26) hx hb dX0_size_21 (by decide) ?_
    exact q_iret (pc := 26) E hR h dX0_size_26
theorem cX0_size_met (l : Launch) (w : Wd) (hI : Ij 223 w) (N : Nat) (Q : Int32 → St → Prop) (σ : St) (h : fX0_size N Q σ) : Met l yX0_size (.code yX0_size cX0_size 1 (some .int) :: Uw) rmX0_size (va_Pc [.ref (w.2.1 9)] (fun U => Rp 223 ev1 w σ U ∧ (X1 w) U)) (va_Qi Q (Rp 223 ev1 w) (Aw 223 w)) 0 0 (Aw 223 w) :=
  q_met (by decide) (Nat.le_of_ble_eq_true rfl) hI (fun p e s m below meth c ls E hl hR => bX0_size_e l w N Q E hR hl h)
-- GlulxStrings$Packer.countBits(I)I
abbrev rmX5_countBits : Room := { frames := 0, cells := 0, slots := 0, locals := 0 }
def fX5_countBits_l12 (N : Nat) (x1 : Int32) (Q : Int32 → St → Prop) (r12 : Int32 → Int32 → St → Prop) (x2 : Int32) (x3 : Int32) (σ : St) : Prop := vp_in x1 20 ∧ (((σ.1 39 x1.toNatClampNeg) ≤ x3 → Q x2 σ) ∧ (¬ (σ.1 39 x1.toNatClampNeg) ≤ x3 → vp_in x1 20 ∧ vp_in x3 120 ∧ vp_in (σ.1 (203 + x1.toNatClampNeg) x3.toNatClampNeg) 60 ∧ vp_in (σ.1 42 (σ.1 (203 + x1.toNatClampNeg) x3.toNatClampNeg).toNatClampNeg) 121 ∧ ∀ v_9 : Int32, v_9 = x2 + (σ.1 36 (σ.1 42 (σ.1 (203 + x1.toNatClampNeg) x3.toNatClampNeg).toNatClampNeg).toNatClampNeg) → ∀ v_10 : Int32, v_10 = x3 + 1 → r12 v_9 v_10 σ))
set_option maxHeartbeats 4000000 in
set_option maxRecDepth 100000 in
theorem bX5_countBits_12 {p : Program} {e : Env} {s : State} {m : MethodId} {args : Array Value} {below : List Frame} {meth : Method} {c : Code} (l : Launch) (w : Wd) (N : Nat) (Q : Int32 → St → Prop) (E : Cx 223 w (X1 w) cX5_countBits 4 RX5 (.code yX5_countBits cX5_countBits 4 (some .int)) (some .int) p s m args meth c) (x1 : Int32) : ∀ (n : Nat) (x2 : Int32) (x3 : Int32) (σ : St) (H : Heap) (locs : List Loc) (ls : Array Slot), Rr 223 ev1 w σ s H locs → lv_has ls 4 [(0, .ref (w.2.1 4)), (1, .int x1), (2, .int x2), (3, .int x3)] → lo2 (fX5_countBits_l12 N x1 Q) n x2 x3 σ → W p l e rmX5_countBits s m args below meth c H locs 0 0 (MQ below (va_Qi Q (Rp 223 ev1 w) (Aw 223 w)) args s 0 0 (Aw 223 w)) (F0 m 12 ls []) := by
  obtain ⟨hx, hb, hml, hown, hts, hr, hlk, hK, hI, hX⟩ := id E
  intro n
  induction n with
  | zero => intro x2 x3 σ H locs ls hR hl h; exact h.elim
  | succ n ih =>
    intro x2 x3 σ H locs ls hR hl h
    have h : fX5_countBits_l12 N x1 Q (lo2 (fX5_countBits_l12 N x1 Q) n) x2 x3 σ := h
    unfold fX5_countBits_l12 at h
    refine lv_iload_n (pc := 12) hx hb dX5_countBits_12 rfl (lv_at hl 3 rfl) ?_
    refine lv_aload_n (pc := 13) hx hb dX5_countBits_13 rfl (lv_at hl 0 rfl) ?_
    refine gf1_4_7 (pc := 14) hx hb hts hown hK hR mw191 dX5_countBits_14 ?_
    refine lv_iload_n (pc := 17) hx hb dX5_countBits_17 rfl (lv_at hl 1 rfl) ?_
    have g_3 := h.1
    have h := h.2
    refine q_iald (pc := 18) hx hb hK hR (k := 39) lt1_39 (ar1_39 _ _ _) g_3 dX5_countBits_18 ?_
    refine lv_icmp_ge (pc := 19) (tgt := 52) hx hb dX5_countBits_19 (by decide) (fun c_4 => ?_) (fun c_4 => ?_)
    · have h := h.1 c_4
      refine lv_iload_n (pc := 52) hx hb dX5_countBits_52 rfl (lv_at hl 2 rfl) ?_
      exact q_iret (pc := 53) E hR h dX5_countBits_53
    · have h := h.2 c_4
      refine lv_iload_n (pc := 22) hx hb dX5_countBits_22 rfl (lv_at hl 2 rfl) ?_
      refine lv_aload_n (pc := 23) hx hb dX5_countBits_23 rfl (lv_at hl 0 rfl) ?_
      refine gf1_4_5 (pc := 24) hx hb hts hown hK hR mw204 dX5_countBits_24 ?_
      refine gf1_9_7 (pc := 27) hx hb hts hown hK hR mw216 dX5_countBits_27 ?_
      refine lv_aload_n (pc := 30) hx hb dX5_countBits_30 rfl (lv_at hl 0 rfl) ?_
      refine gf1_4_10 (pc := 31) hx hb hts hown hK hR mw210 dX5_countBits_31 ?_
      refine lv_aload_n (pc := 34) hx hb dX5_countBits_34 rfl (lv_at hl 0 rfl) ?_
      refine gf1_4_6 (pc := 35) hx hb hts hown hK hR mw192 dX5_countBits_35 ?_
      refine lv_iload_n (pc := 38) hx hb dX5_countBits_38 rfl (lv_at hl 1 rfl) ?_
      have g_5 := h.1
      have h := h.2
      refine q_aald (pc := 39) hx hb hK hR (k := 38) lt1_38 5 rfl rfl (ar1_38 _ _ _) g_5 dX5_countBits_39 ?_
      refine lv_iload_n (pc := 40) hx hb dX5_countBits_40 rfl (lv_at hl 3 rfl) ?_
      have g_6 := h.1
      have h := h.2
      refine q_iald (pc := 41) hx hb hK hR (k := (203 + x1.toNatClampNeg)) (r120_lt (r120_in8 g_5)) (ev1_r120 (r120_in8 g_5)) g_6 dX5_countBits_41 ?_
      have g_7 := h.1
      have h := h.2
      refine q_iald (pc := 42) hx hb hK hR (k := 42) lt1_42 (ar1_42 _ _ _) g_7 dX5_countBits_42 ?_
      have g_8 := h.1
      have h := h.2
      refine q_iald (pc := 43) hx hb hK hR (k := 36) lt1_36 (ar1_36 _ _ _) g_8 dX5_countBits_43 ?_
      refine lv_iadd (pc := 44) hx hb dX5_countBits_44 ?_
      refine lv_topi (pc := 45) (fun v_9 ev_9 => ?_)
      have h := h v_9 ev_9
      refine lv_istore_n (pc := 45) (lv' := [(2, .int v_9), (0, .ref (w.2.1 4)), (1, .int x1), (3, .int x3)]) hx hb dX5_countBits_45 rfl hl (by decide) rfl (fun ls hl => ?_)
      obtain ⟨v_10, ev_10⟩ : ∃ z : Int32, z = x3 + 1 := ⟨_, rfl⟩
      have h := h v_10 ev_10
      refine lv_iinc (pc := 46) (v := v_10) (lv' := [(3, .int v_10), (2, .int v_9), (0, .ref (w.2.1 4)), (1, .int x1)]) hx hb dX5_countBits_46 hl (k := 3) rfl (by rw [ev_10]; rfl) (by decide) rfl (fun ls hl => ?_)
      refine lv_goto (pc := 49) (tgt := 12) hx hb dX5_countBits_49 (by decide) ?_
      exact ih v_9 v_10 σ _ _ _ hR (lv_sub hl [2, 3, 1, 0] rfl) h
def fX5_countBits (N : Nat) (x1 : Int32) (Q : Int32 → St → Prop) (σ : St) : Prop := vp_in 0 121 ∧ ∀ v_2 : Int32, v_2 = σ.1 36 (0 : Int32).toNatClampNeg → lo2 (fX5_countBits_l12 N x1 Q) N v_2 0 σ
set_option maxHeartbeats 4000000 in
set_option maxRecDepth 100000 in
theorem bX5_countBits_e {p : Program} {e : Env} {s : State} {m : MethodId} {args : Array Value} {below : List Frame} {meth : Method} {c : Code} (l : Launch) (w : Wd) (N : Nat) (Q : Int32 → St → Prop) (E : Cx 223 w (X1 w) cX5_countBits 4 RX5 (.code yX5_countBits cX5_countBits 4 (some .int)) (some .int) p s m args meth c) (x1 : Int32) {σ : St} {H : Heap} {locs : List Loc} {ls : Array Slot} (hR : Rr 223 ev1 w σ s H locs) (hl : lv_has ls 4 [(0, .ref (w.2.1 4)), (1, .int x1)]) (h : fX5_countBits N x1 Q σ) : W p l e rmX5_countBits s m args below meth c H locs 0 0 (MQ below (va_Qi Q (Rp 223 ev1 w) (Aw 223 w)) args s 0 0 (Aw 223 w)) (F0 m 0 ls []) := by
  obtain ⟨hx, hb, hml, hown, hts, hr, hlk, hK, hI, hX⟩ := id E
  unfold fX5_countBits at h
  refine lv_aload_n (pc := 0) hx hb dX5_countBits_0 rfl (lv_at hl 0 rfl) ?_
  refine gf1_4_5 (pc := 1) hx hb hts hown hK hR mw204 dX5_countBits_1 ?_
  refine gf1_9_7 (pc := 4) hx hb hts hown hK hR mw216 dX5_countBits_4 ?_
  refine lv_iconst (pc := 7) (v := 0) hx hb dX5_countBits_7 (by decide) ?_
  have g_1 := h.1
  have h := h.2
  refine q_iald (pc := 8) hx hb hK hR (k := 36) lt1_36 (ar1_36 _ _ _) g_1 dX5_countBits_8 ?_
  refine lv_topi (pc := 9) (fun v_2 ev_2 => ?_)
  have h := h v_2 ev_2
  refine lv_istore_n (pc := 9) (lv' := [(2, .int v_2), (0, .ref (w.2.1 4)), (1, .int x1)]) hx hb dX5_countBits_9 rfl hl (by decide) rfl (fun ls hl => ?_)
  refine lv_iconst (pc := 10) (v := 0) hx hb dX5_countBits_10 (by decide) ?_
  refine lv_istore_n (pc := 11) (lv' := [(3, .int 0), (2, .int v_2), (0, .ref (w.2.1 4)), (1, .int x1)]) hx hb dX5_countBits_11 rfl hl (by decide) rfl (fun ls hl => ?_)
  exact bX5_countBits_12 l w N Q E x1 N v_2 0 σ _ _ _ hR (lv_sub hl [2, 3, 1, 0] rfl) h
theorem cX5_countBits_met (l : Launch) (w : Wd) (hI : Ij 223 w) (N : Nat) (x1 : Int32) (Q : Int32 → St → Prop) (σ : St) (h : fX5_countBits N x1 Q σ) : Met l yX5_countBits (.code yX5_countBits cX5_countBits 4 (some .int) :: Uw) rmX5_countBits (va_Pc [.ref (w.2.1 4), .int x1] (fun U => Rp 223 ev1 w σ U ∧ (X1 w) U)) (va_Qi Q (Rp 223 ev1 w) (Aw 223 w)) 0 0 (Aw 223 w) :=
  q_met (by decide) (Nat.le_of_ble_eq_true rfl) hI (fun p e s m below meth c ls E hl hR => bX5_countBits_e l w N Q E x1 hR hl h)
-- GlulxStrings$Memory.putFour(II)V
abbrev rmX3_putFour : Room := { frames := 1, cells := 0, slots := 0, locals := 22 }
def fX3_putFour (N : Nat) (x1 : Int32) (x2 : Int32) (Q : St → Prop) (σ : St) : Prop := fX3_putByte N x1 (x2 >>> (24 &&& 31)) (fun σ_1 => fX3_putByte N (x1 + 1) (x2 >>> (16 &&& 31)) (fun σ_2 => fX3_putByte N (x1 + 2) (x2 >>> (8 &&& 31)) (fun σ_3 => fX3_putByte N (x1 + 3) x2 (fun σ_4 => Q σ_4) σ_3) σ_2) σ_1) σ
set_option maxHeartbeats 4000000 in
set_option maxRecDepth 100000 in
theorem bX3_putFour_e {p : Program} {e : Env} {s : State} {m : MethodId} {args : Array Value} {below : List Frame} {meth : Method} {c : Code} (l : Launch) (w : Wd) (N : Nat) (Q : St → Prop) (E : Cx 223 w (X1 w) cX3_putFour 3 RX3 (.code yX3_putFour cX3_putFour 3 none) none p s m args meth c) (x1 : Int32) (x2 : Int32) {σ : St} {H : Heap} {locs : List Loc} {ls : Array Slot} (hR : Rr 223 ev1 w σ s H locs) (hl : lv_has ls 3 [(0, .ref (w.2.1 1)), (1, .int x1), (2, .int x2)]) (h : fX3_putFour N x1 x2 Q σ) : W p l e rmX3_putFour s m args below meth c H locs 0 0 (MQ below (va_Qv Q (Rp 223 ev1 w) (Aw 223 w)) args s 0 0 (Aw 223 w)) (F0 m 0 ls []) := by
  obtain ⟨hx, hb, hml, hown, hts, hr, hlk, hK, hI, hX⟩ := id E
  unfold fX3_putFour at h
  refine lv_aload_n (pc := 0) hx hb dX3_putFour_0 rfl (lv_at hl 0 rfl) ?_
  refine lv_iload_n (pc := 1) hx hb dX3_putFour_1 rfl (lv_at hl 1 rfl) ?_
  refine lv_iload_n (pc := 2) hx hb dX3_putFour_2 rfl (lv_at hl 2 rfl) ?_
  refine lv_bipush (pc := 3) (v := 24) hx hb dX3_putFour_3 (by decide) ?_
  refine lv_ishr (pc := 5) hx hb dX3_putFour_5 ?_
  refine q_cv (pc := 6) hR (q_rV E (xp1 w) (As := [.int x1, .int (x2 >>> (24 &&& 31))]) (rest := []) (cX3_putByte_met l w hI N x1 (x2 >>> (24 &&& 31)) _ σ h) ckX3_putByte cvX3_putByte mw217 ⟨rfl, rfl, Nat.le_of_ble_eq_true rfl, Nat.le_of_ble_eq_true rfl⟩ hR (rc1_1 w) rfl hl.1 rfl (Nat.le_of_ble_eq_true rfl) dX3_putFour_6) (fun σ_1 H locs h hR => ?_)
  refine lv_aload_n (pc := 9) hx hb dX3_putFour_9 rfl (lv_at hl 0 rfl) ?_
  refine lv_iload_n (pc := 10) hx hb dX3_putFour_10 rfl (lv_at hl 1 rfl) ?_
  refine lv_iconst (pc := 11) (v := 1) hx hb dX3_putFour_11 (by decide) ?_
  refine lv_iadd (pc := 12) hx hb dX3_putFour_12 ?_
  refine lv_iload_n (pc := 13) hx hb dX3_putFour_13 rfl (lv_at hl 2 rfl) ?_
  refine lv_bipush (pc := 14) (v := 16) hx hb dX3_putFour_14 (by decide) ?_
  refine lv_ishr (pc := 16) hx hb dX3_putFour_16 ?_
  refine q_cv (pc := 17) hR (q_rV E (xp1 w) (As := [.int (x1 + 1), .int (x2 >>> (16 &&& 31))]) (rest := []) (cX3_putByte_met l w hI N (x1 + 1) (x2 >>> (16 &&& 31)) _ σ_1 h) ckX3_putByte cvX3_putByte mw217 ⟨rfl, rfl, Nat.le_of_ble_eq_true rfl, Nat.le_of_ble_eq_true rfl⟩ hR (rc1_1 w) rfl hl.1 rfl (Nat.le_of_ble_eq_true rfl) dX3_putFour_17) (fun σ_2 H locs h hR => ?_)
  refine lv_aload_n (pc := 20) hx hb dX3_putFour_20 rfl (lv_at hl 0 rfl) ?_
  refine lv_iload_n (pc := 21) hx hb dX3_putFour_21 rfl (lv_at hl 1 rfl) ?_
  refine lv_iconst (pc := 22) (v := 2) hx hb dX3_putFour_22 (by decide) ?_
  refine lv_iadd (pc := 23) hx hb dX3_putFour_23 ?_
  refine lv_iload_n (pc := 24) hx hb dX3_putFour_24 rfl (lv_at hl 2 rfl) ?_
  refine lv_bipush (pc := 25) (v := 8) hx hb dX3_putFour_25 (by decide) ?_
  refine lv_ishr (pc := 27) hx hb dX3_putFour_27 ?_
  refine q_cv (pc := 28) hR (q_rV E (xp1 w) (As := [.int (x1 + 2), .int (x2 >>> (8 &&& 31))]) (rest := []) (cX3_putByte_met l w hI N (x1 + 2) (x2 >>> (8 &&& 31)) _ σ_2 h) ckX3_putByte cvX3_putByte mw217 ⟨rfl, rfl, Nat.le_of_ble_eq_true rfl, Nat.le_of_ble_eq_true rfl⟩ hR (rc1_1 w) rfl hl.1 rfl (Nat.le_of_ble_eq_true rfl) dX3_putFour_28) (fun σ_3 H locs h hR => ?_)
  refine lv_aload_n (pc := 31) hx hb dX3_putFour_31 rfl (lv_at hl 0 rfl) ?_
  refine lv_iload_n (pc := 32) hx hb dX3_putFour_32 rfl (lv_at hl 1 rfl) ?_
  refine lv_iconst (pc := 33) (v := 3) hx hb dX3_putFour_33 (by decide) ?_
  refine lv_iadd (pc := 34) hx hb dX3_putFour_34 ?_
  refine lv_iload_n (pc := 35) hx hb dX3_putFour_35 rfl (lv_at hl 2 rfl) ?_
  refine q_cv (pc := 36) hR (q_rV E (xp1 w) (As := [.int (x1 + 3), .int x2]) (rest := []) (cX3_putByte_met l w hI N (x1 + 3) x2 _ σ_3 h) ckX3_putByte cvX3_putByte mw217 ⟨rfl, rfl, Nat.le_of_ble_eq_true rfl, Nat.le_of_ble_eq_true rfl⟩ hR (rc1_1 w) rfl hl.1 rfl (Nat.le_of_ble_eq_true rfl) dX3_putFour_36) (fun σ_4 H locs h hR => ?_)
  exact q_vret (pc := 39) E hR h dX3_putFour_39
theorem cX3_putFour_met (l : Launch) (w : Wd) (hI : Ij 223 w) (N : Nat) (x1 : Int32) (x2 : Int32) (Q : St → Prop) (σ : St) (h : fX3_putFour N x1 x2 Q σ) : Met l yX3_putFour (.code yX3_putFour cX3_putFour 3 none :: Uw) rmX3_putFour (va_Pc [.ref (w.2.1 1), .int x1, .int x2] (fun U => Rp 223 ev1 w σ U ∧ (X1 w) U)) (va_Qv Q (Rp 223 ev1 w) (Aw 223 w)) 0 0 (Aw 223 w) :=
  q_met (by decide) (Nat.le_of_ble_eq_true rfl) hI (fun p e s m below meth c ls E hl hR => bX3_putFour_e l w N Q E x1 x2 hR hl h)
