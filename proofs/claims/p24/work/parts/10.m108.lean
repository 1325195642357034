-- GlulxStrings$Parting.part([II)I
abbrev rmX6_part : Room := { frames := 2, cells := 0, slots := 0, locals := 53 }
def fX6_part_l29 (N : Nat) (k1 : Nat) (x2 : Int32) (Q : Int32 → St → Prop) (r29 : Int32 → St → Prop) (x3 : Int32) (σ : St) : Prop := ((x3 < 0 → vp_in 0 121 ∧ ((121 ≤ (σ.1 27 (0 : Int32).toNatClampNeg) → Q (-1) σ) ∧ (¬ 121 ≤ (σ.1 27 (0 : Int32).toNatClampNeg) → vp_in 0 121 ∧ Q (σ.1 27 (0 : Int32).toNatClampNeg) σ))) ∧ (¬ x3 < 0 → fX6_choose N k1 x3 x2 (fun σ_11 => ∀ v_12 : Int32, v_12 = x3 + (-1) → r29 v_12 σ_11) σ))
set_option maxHeartbeats 4000000 in
set_option maxRecDepth 100000 in
theorem bX6_part_29 {p : Program} {e : Env} {s : State} {m : MethodId} {args : Array Value} {below : List Frame} {meth : Method} {c : Code} (l : Launch) (w : Wd) (N : Nat) (Q : Int32 → St → Prop) (E : Cx 223 w (X1 w) cX6_part 4 RX6 (.code yX6_part cX6_part 4 (some .int)) (some .int) p s m args meth c) (k1 : Nat) (x2 : Int32) (hk1 : r120 k1) : ∀ (n : Nat) (x3 : Int32) (σ : St) (H : Heap) (locs : List Loc) (ls : Array Slot), Rr 223 ev1 w σ s H locs → lv_has ls 4 [(0, .ref (w.2.1 8)), (1, .ref (w.2.1 k1)), (2, .int x2), (3, .int x3)] → lo1 (fX6_part_l29 N k1 x2 Q) n x3 σ → W p l e rmX6_part s m args below meth c H locs 0 0 (MQ below (va_Qi Q (Rp 223 ev1 w) (Aw 223 w)) args s 0 0 (Aw 223 w)) (F0 m 29 ls []) := by
  obtain ⟨hx, hb, hml, hown, hts, hr, hlk, hK, hI, hX⟩ := id E
  intro n
  induction n with
  | zero => intro x3 σ H locs ls hR hl h; exact h.elim
  | succ n ih =>
    intro x3 σ H locs ls hR hl h
    have h : fX6_part_l29 N k1 x2 Q (lo1 (fX6_part_l29 N k1 x2 Q) n) x3 σ := h
    unfold fX6_part_l29 at h
    refine lv_iload_n (pc := 29) hx hb dX6_part_29 rfl (lv_at hl 3 rfl) ?_
    refine lv_if_lt (pc := 30) (tgt := 46) hx hb dX6_part_30 (by decide) (fun c_7 => ?_) (fun c_7 => ?_)
    · have h := h.1 c_7
      refine lv_aload_n (pc := 46) hx hb dX6_part_46 rfl (lv_at hl 0 rfl) ?_
      refine gf1_8_1 (pc := 47) hx hb hts hown hK hR mw168 dX6_part_47 ?_
      refine lv_iconst (pc := 50) (v := 0) hx hb dX6_part_50 (by decide) ?_
      have g_8 := h.1
      have h := h.2
      refine q_iald (pc := 51) hx hb hK hR (k := 27) lt1_27 (ar1_27 _ _ _) g_8 dX6_part_51 ?_
      refine lv_bipush (pc := 52) (v := 121) hx hb dX6_part_52 (by decide) ?_
      refine lv_icmp_ge (pc := 54) (tgt := 66) hx hb dX6_part_54 (by decide) (fun c_9 => ?_) (fun c_9 => ?_)
      · have h := h.1 c_9
        refine lv_iconst (pc := 66) (v := (-1)) hx hb dX6_part_66 (by decide) ?_
        exact q_iret (pc := 67) E hR h dX6_part_67
      · have h := h.2 c_9
        refine lv_aload_n (pc := 57) hx hb dX6_part_57 rfl (lv_at hl 0 rfl) ?_
        refine gf1_8_1 (pc := 58) hx hb hts hown hK hR mw168 dX6_part_58 ?_
        refine lv_iconst (pc := 61) (v := 0) hx hb dX6_part_61 (by decide) ?_
        have g_10 := h.1
        have h := h.2
        refine q_iald (pc := 62) hx hb hK hR (k := 27) lt1_27 (ar1_27 _ _ _) g_10 dX6_part_62 ?_
        refine lv_goto (pc := 63) (tgt := 67) hx hb dX6_part_63 (by decide) ?_
        exact q_iret (pc := 67) E hR h dX6_part_67
    · have h := h.2 c_7
      refine lv_aload_n (pc := 33) hx hb dX6_part_33 rfl (lv_at hl 0 rfl) ?_
      refine lv_aload_n (pc := 34) hx hb dX6_part_34 rfl (lv_at hl 1 rfl) ?_
      refine lv_iload_n (pc := 35) hx hb dX6_part_35 rfl (lv_at hl 3 rfl) ?_
      refine lv_iload_n (pc := 36) hx hb dX6_part_36 rfl (lv_at hl 2 rfl) ?_
      refine q_cv (pc := 37) hR (q_rV E (xp1 w) (As := [.ref (w.2.1 k1), .int x3, .int x2]) (rest := []) (cX6_choose_met l w hI N k1 x3 x2 hk1 _ σ h) ckX6_choose cvX6_choose mw174 ⟨rfl, rfl, Nat.le_of_ble_eq_true rfl, Nat.le_of_ble_eq_true rfl⟩ hR (rc1_8 w) rfl hl.1 rfl (Nat.le_of_ble_eq_true rfl) dX6_part_37) (fun σ_11 H locs h hR => ?_)
      obtain ⟨v_12, ev_12⟩ : ∃ z : Int32, z = x3 + (-1) := ⟨_, rfl⟩
      have h := h v_12 ev_12
      refine lv_iinc (pc := 40) (v := v_12) (lv' := [(3, .int v_12), (0, .ref (w.2.1 8)), (1, .ref (w.2.1 k1)), (2, .int x2)]) hx hb dX6_part_40 hl (k := 3) rfl (by rw [ev_12]; rfl) (by decide) rfl (fun ls hl => ?_)
      refine lv_goto (pc := 43) (tgt := 29) hx hb dX6_part_43 (by decide) ?_
      exact ih v_12 σ_11 _ _ _ hR (lv_sub hl [1, 2, 3, 0] rfl) h
def fX6_part (N : Nat) (k1 : Nat) (x2 : Int32) (Q : Int32 → St → Prop) (σ : St) : Prop := ((x2 < 0 → Q (-1) σ) ∧ (¬ x2 < 0 → ((120 < x2 → Q (-1) σ) ∧ (¬ 120 < x2 → ((x2 ≤ 120 → vp_in x2 121 ∧ ∀ σ_5 : St, σ_5 = u1 σ 27 x2.toNatClampNeg 0 → ∀ v_6 : Int32, v_6 = x2 - 1 → lo1 (fX6_part_l29 N k1 x2 Q) N v_6 σ_5) ∧ (¬ x2 ≤ 120 → Q (-1) σ))))))
set_option maxHeartbeats 4000000 in
set_option maxRecDepth 100000 in
theorem bX6_part_e {p : Program} {e : Env} {s : State} {m : MethodId} {args : Array Value} {below : List Frame} {meth : Method} {c : Code} (l : Launch) (w : Wd) (N : Nat) (Q : Int32 → St → Prop) (E : Cx 223 w (X1 w) cX6_part 4 RX6 (.code yX6_part cX6_part 4 (some .int)) (some .int) p s m args meth c) (k1 : Nat) (x2 : Int32) (hk1 : r120 k1) {σ : St} {H : Heap} {locs : List Loc} {ls : Array Slot} (hR : Rr 223 ev1 w σ s H locs) (hl : lv_has ls 4 [(0, .ref (w.2.1 8)), (1, .ref (w.2.1 k1)), (2, .int x2)]) (h : fX6_part N k1 x2 Q σ) : W p l e rmX6_part s m args below meth c H locs 0 0 (MQ below (va_Qi Q (Rp 223 ev1 w) (Aw 223 w)) args s 0 0 (Aw 223 w)) (F0 m 0 ls []) := by
  obtain ⟨hx, hb, hml, hown, hts, hr, hlk, hK, hI, hX⟩ := id E
  unfold fX6_part at h
  refine lv_iload_n (pc := 0) hx hb dX6_part_0 rfl (lv_at hl 2 rfl) ?_
  refine lv_if_lt (pc := 1) (tgt := 16) hx hb dX6_part_1 (by decide) (fun c_1 => ?_) (fun c_1 => ?_)
  · have h := h.1 c_1
    refine lv_iconst (pc := 16) (v := (-1)) hx hb dX6_part_16 (by decide) ?_
    exact q_iret (pc := 17) E hR h dX6_part_17
  · have h := h.2 c_1
    refine lv_iload_n (pc := 4) hx hb dX6_part_4 rfl (lv_at hl 2 rfl) ?_
    refine lv_bipush (pc := 5) (v := 120) hx hb dX6_part_5 (by decide) ?_
    refine lv_icmp_gt (pc := 7) (tgt := 16) hx hb dX6_part_7 (by decide) (fun c_2 => ?_) (fun c_2 => ?_)
    · have h := h.1 c_2
      refine lv_iconst (pc := 16) (v := (-1)) hx hb dX6_part_16 (by decide) ?_
      exact q_iret (pc := 17) E hR h dX6_part_17
    · have h := h.2 c_2
      refine lv_iload_n (pc := 10) hx hb dX6_part_10 rfl (lv_at hl 2 rfl) ?_
      refine lv_aload_n (pc := 11) hx hb dX6_part_11 rfl (lv_at hl 1 rfl) ?_
      refine va_alen (pc := 12) (v := 120) hx hb hK hR.1 k1 0 (rg_ate (r120_lt hk1) (ev1_r120 hk1)) rfl (show Int32.ofNat 120 = 120 from by decide) dX6_part_12 ?_
      refine lv_icmp_le (pc := 13) (tgt := 18) hx hb dX6_part_13 (by decide) (fun c_3 => ?_) (fun c_3 => ?_)
      · have h := h.1 c_3
        refine lv_aload_n (pc := 18) hx hb dX6_part_18 rfl (lv_at hl 0 rfl) ?_
        refine gf1_8_1 (pc := 19) hx hb hts hown hK hR mw168 dX6_part_19 ?_
        refine lv_iload_n (pc := 22) hx hb dX6_part_22 rfl (lv_at hl 2 rfl) ?_
        refine lv_iconst (pc := 23) (v := 0) hx hb dX6_part_23 (by decide) ?_
        have g_4 := h.1
        have h := h.2
        refine q_iast (pc := 24) hx hb hK hI hR (k := 27) lt1_27 (fun f => (ar1_27 _ f _)) g_4 dX6_part_24 (fun H locs σ_5 eσ_5 hR => ?_)
        have h := h σ_5 eσ_5
        refine lv_iload_n (pc := 25) hx hb dX6_part_25 rfl (lv_at hl 2 rfl) ?_
        refine lv_iconst (pc := 26) (v := 1) hx hb dX6_part_26 (by decide) ?_
        refine lv_isub (pc := 27) hx hb dX6_part_27 ?_
        refine lv_topi (pc := 28) (fun v_6 ev_6 => ?_)
        have h := h v_6 ev_6
        refine lv_istore_n (pc := 28) (lv' := [(3, .int v_6), (0, .ref (w.2.1 8)), (1, .ref (w.2.1 k1)), (2, .int x2)]) hx hb dX6_part_28 rfl hl (by decide) rfl (fun ls hl => ?_)
        exact bX6_part_29 l w N Q E k1 x2 hk1 N v_6 σ_5 _ _ _ hR (lv_sub hl [1, 2, 3, 0] rfl) h
      · have h := h.2 c_3
        refine lv_iconst (pc := 16) (v := (-1)) hx hb dX6_part_16 (by decide) ?_
        exact q_iret (pc := 17) E hR h dX6_part_17
theorem cX6_part_met (l : Launch) (w : Wd) (hI : Ij 223 w) (N : Nat) (k1 : Nat) (x2 : Int32) (hk1 : r120 k1) (Q : Int32 → St → Prop) (σ : St) (h : fX6_part N k1 x2 Q σ) : Met l yX6_part (.code yX6_part cX6_part 4 (some .int) :: Uw) rmX6_part (va_Pc [.ref (w.2.1 8), .ref (w.2.1 k1), .int x2] (fun U => Rp 223 ev1 w σ U ∧ (X1 w) U)) (va_Qi Q (Rp 223 ev1 w) (Aw 223 w)) 0 0 (Aw 223 w) :=
  q_met (by decide) (Nat.le_of_ble_eq_true rfl) hI (fun p e s m below meth c ls E hl hR => bX6_part_e l w N Q E k1 x2 hk1 hR hl h)
-- GlulxStrings$Texts.add([II)I
abbrev rmX10_add : Room := { frames := 0, cells := 0, slots := 0, locals := 0 }
def fX10_add_j59 (N : Nat) (x2 : Int32) (x3 : Int32) (Q : Int32 → St → Prop) (σ : St) : Prop := vp_in x3 20 ∧ ∀ σ_5 : St, σ_5 = u1 σ 24 x3.toNatClampNeg x2 → vp_in x3 20 ∧ ∀ σ_7 : St, σ_7 = u1 σ_5 25 x3.toNatClampNeg (-1) → vp_in x3 20 ∧ ∀ σ_9 : St, σ_9 = u1 σ_7 26 x3.toNatClampNeg 0 → ∀ v_10 : Int32, v_10 = (σ_9.1 7 4) + 1 → ∀ σ_11 : St, σ_11 = u1 σ_9 7 4 v_10 → Q x3 σ_11
set_option maxHeartbeats 4000000 in
set_option maxRecDepth 100000 in
theorem bX10_add_59 {p : Program} {e : Env} {s : State} {m : MethodId} {args : Array Value} {below : List Frame} {meth : Method} {c : Code} (l : Launch) (w : Wd) (N : Nat) (Q : Int32 → St → Prop) (E : Cx 223 w (X1 w) cX10_add 5 RX10 (.code yX10_add cX10_add 5 (some .int)) (some .int) p s m args meth c) (x2 : Int32) (x3 : Int32) {σ : St} {H : Heap} {locs : List Loc} {ls : Array Slot} (hR : Rr 223 ev1 w σ s H locs) (hl : lv_has ls 5 [(0, .ref (w.2.1 7)), (2, .int x2), (3, .int x3)]) (h : fX10_add_j59 N x2 x3 Q σ) : W p l e rmX10_add s m args below meth c H locs 0 0 (MQ below (va_Qi Q (Rp 223 ev1 w) (Aw 223 w)) args s 0 0 (Aw 223 w)) (F0 m 59 ls []) := by
  obtain ⟨hx, hb, hml, hown, hts, hr, hlk, hK, hI, hX⟩ := id E
  unfold fX10_add_j59 at h
  refine lv_aload_n (pc := 59) hx hb dX10_add_59 rfl (lv_at hl 0 rfl) ?_
  refine gf1_7_1 (pc := 60) hx hb hts hown hK hR mw176 dX10_add_60 ?_
  refine lv_iload_n (pc := 63) hx hb dX10_add_63 rfl (lv_at hl 2 rfl) ?_
  refine lv_iload_n (pc := 64) hx hb dX10_add_64 rfl (lv_at hl 1 rfl) ?_
  have g_4 := h.1
  have h := h.2
  refine q_iast (pc := 65) hx hb hK hI hR (k := 24) lt1_24 (fun f => (ar1_24 _ f _)) g_4 dX10_add_65 (fun H locs σ_5 eσ_5 hR => ?_)
  have h := h σ_5 eσ_5
  refine lv_aload_n (pc := 66) hx hb dX10_add_66 rfl (lv_at hl 0 rfl) ?_
  refine gf1_7_2 (pc := 67) hx hb hts hown hK hR mw177 dX10_add_67 ?_
  refine lv_iload_n (pc := 70) hx hb dX10_add_70 rfl (lv_at hl 2 rfl) ?_
  refine lv_iconst (pc := 71) (v := (-1)) hx hb dX10_add_71 (by decide) ?_
  have g_6 := h.1
  have h := h.2
  refine q_iast (pc := 72) hx hb hK hI hR (k := 25) lt1_25 (fun f => (ar1_25 _ f _)) g_6 dX10_add_72 (fun H locs σ_7 eσ_7 hR => ?_)
  have h := h σ_7 eσ_7
  refine lv_aload_n (pc := 73) hx hb dX10_add_73 rfl (lv_at hl 0 rfl) ?_
  refine gf1_7_3 (pc := 74) hx hb hts hown hK hR mw178 dX10_add_74 ?_
  refine lv_iload_n (pc := 77) hx hb dX10_add_77 rfl (lv_at hl 2 rfl) ?_
  refine lv_iconst (pc := 78) (v := 0) hx hb dX10_add_78 (by decide) ?_
  have g_8 := h.1
  have h := h.2
  refine q_iast (pc := 79) hx hb hK hI hR (k := 26) lt1_26 (fun f => (ar1_26 _ f _)) g_8 dX10_add_79 (fun H locs σ_9 eσ_9 hR => ?_)
  have h := h σ_9 eσ_9
  refine lv_aload_n (pc := 80) hx hb dX10_add_80 rfl (lv_at hl 0 rfl) ?_
  refine lv_dup (pc := 81) hx hb dX10_add_81 rfl ?_
  refine gf1_7_4 (pc := 82) hx hb hts hown hK hR mw175 dX10_add_82 ?_
  refine lv_iconst (pc := 85) (v := 1) hx hb dX10_add_85 (by decide) ?_
  refine lv_iadd (pc := 86) hx hb dX10_add_86 ?_
  refine lv_topi (pc := 87) (fun v_10 ev_10 => ?_)
  have h := h v_10 ev_10
  refine pf1_7_4 (pc := 87) hx hb hts hown hK hI hR mw175 dX10_add_87 (fun H locs σ_11 eσ_11 hR => ?_)
  have h := h σ_11 eσ_11
  refine lv_iload_n (pc := 90) hx hb dX10_add_90 rfl (lv_at hl 2 rfl) ?_
  exact q_iret (pc := 91) E hR h dX10_add_91
def fX10_add_l20 (N : Nat) (k1 : Nat) (x2 : Int32) (x3 : Int32) (Q : Int32 → St → Prop) (r20 : Int32 → St → Prop) (x4 : Int32) (σ : St) : Prop := ((x2 ≤ x4 → fX10_add_j59 N x2 x3 Q σ) ∧ (¬ x2 ≤ x4 → ((120 ≤ x4 → fX10_add_j59 N x2 x3 Q σ) ∧ (¬ 120 ≤ x4 → ((120 ≤ x4 → fX10_add_j59 N x2 x3 Q σ) ∧ (¬ 120 ≤ x4 → vp_in x3 20 ∧ vp_in x4 120 ∧ ∀ v_8 : Int32, v_8 = σ.1 k1 x4.toNatClampNeg → vp_in x4 120 ∧ ∀ σ_10 : St, σ_10 = u1 σ (183 + x3.toNatClampNeg) x4.toNatClampNeg v_8 → ∀ v_11 : Int32, v_11 = x4 + 1 → r20 v_11 σ_10))))))
set_option maxHeartbeats 4000000 in
set_option maxRecDepth 100000 in
theorem bX10_add_20 {p : Program} {e : Env} {s : State} {m : MethodId} {args : Array Value} {below : List Frame} {meth : Method} {c : Code} (l : Launch) (w : Wd) (N : Nat) (Q : Int32 → St → Prop) (E : Cx 223 w (X1 w) cX10_add 5 RX10 (.code yX10_add cX10_add 5 (some .int)) (some .int) p s m args meth c) (k1 : Nat) (x2 : Int32) (x3 : Int32) (hk1 : r120 k1) : ∀ (n : Nat) (x4 : Int32) (σ : St) (H : Heap) (locs : List Loc) (ls : Array Slot), Rr 223 ev1 w σ s H locs → lv_has ls 5 [(0, .ref (w.2.1 7)), (1, .ref (w.2.1 k1)), (2, .int x2), (3, .int x3), (4, .int x4)] → lo1 (fX10_add_l20 N k1 x2 x3 Q) n x4 σ → W p l e rmX10_add s m args below meth c H locs 0 0 (MQ below (va_Qi Q (Rp 223 ev1 w) (Aw 223 w)) args s 0 0 (Aw 223 w)) (F0 m 20 ls []) := by
  obtain ⟨hx, hb, hml, hown, hts, hr, hlk, hK, hI, hX⟩ := id E
  intro n
  induction n with
  | zero => intro x4 σ H locs ls hR hl h; exact h.elim
  | succ n ih =>
    intro x4 σ H locs ls hR hl h
    have h : fX10_add_l20 N k1 x2 x3 Q (lo1 (fX10_add_l20 N k1 x2 x3 Q) n) x4 σ := h
    unfold fX10_add_l20 at h
    refine lv_iload (pc := 20) hx hb dX10_add_20 (lv_at hl 4 rfl) ?_
    refine lv_iload_n (pc := 22) hx hb dX10_add_22 rfl (lv_at hl 2 rfl) ?_
    refine lv_icmp_ge (pc := 23) (tgt := 59) hx hb dX10_add_23 (by decide) (fun c_3 => ?_) (fun c_3 => ?_)
    · have h := h.1 c_3
      exact bX10_add_59 l w N Q E x2 x3 hR (lv_sub hl [0, 2, 3] rfl) h
    · have h := h.2 c_3
      refine lv_iload (pc := 26) hx hb dX10_add_26 (lv_at hl 4 rfl) ?_
      refine lv_bipush (pc := 28) (v := 120) hx hb dX10_add_28 (by decide) ?_
      refine lv_icmp_ge (pc := 30) (tgt := 59) hx hb dX10_add_30 (by decide) (fun c_4 => ?_) (fun c_4 => ?_)
      · have h := h.1 c_4
        exact bX10_add_59 l w N Q E x2 x3 hR (lv_sub hl [0, 2, 3] rfl) h
      · have h := h.2 c_4
        refine lv_iload (pc := 33) hx hb dX10_add_33 (lv_at hl 4 rfl) ?_
        refine lv_aload_n (pc := 35) hx hb dX10_add_35 rfl (lv_at hl 1 rfl) ?_
        refine va_alen (pc := 36) (v := 120) hx hb hK hR.1 k1 0 (rg_ate (r120_lt hk1) (ev1_r120 hk1)) rfl (show Int32.ofNat 120 = 120 from by decide) dX10_add_36 ?_
        refine lv_icmp_ge (pc := 37) (tgt := 59) hx hb dX10_add_37 (by decide) (fun c_5 => ?_) (fun c_5 => ?_)
        · have h := h.1 c_5
          exact bX10_add_59 l w N Q E x2 x3 hR (lv_sub hl [0, 2, 3] rfl) h
        · have h := h.2 c_5
          refine lv_aload_n (pc := 40) hx hb dX10_add_40 rfl (lv_at hl 0 rfl) ?_
          refine gf1_7_0 (pc := 41) hx hb hts hown hK hR mw179 dX10_add_41 ?_
          refine lv_iload_n (pc := 44) hx hb dX10_add_44 rfl (lv_at hl 3 rfl) ?_
          have g_6 := h.1
          have h := h.2
          refine q_aald (pc := 45) hx hb hK hR (k := 23) lt1_23 5 rfl rfl (ar1_23 _ _ _) g_6 dX10_add_45 ?_
          refine lv_iload (pc := 46) hx hb dX10_add_46 (lv_at hl 4 rfl) ?_
          refine lv_aload_n (pc := 48) hx hb dX10_add_48 rfl (lv_at hl 1 rfl) ?_
          refine lv_iload (pc := 49) hx hb dX10_add_49 (lv_at hl 4 rfl) ?_
          have g_7 := h.1
          have h := h.2
          refine q_iald (pc := 51) hx hb hK hR (k := k1) (r120_lt hk1) (ev1_r120 hk1) g_7 dX10_add_51 ?_
          refine lv_topi (pc := 52) (fun v_8 ev_8 => ?_)
          have h := h v_8 ev_8
          have g_9 := h.1
          have h := h.2
          refine q_iast (pc := 52) hx hb hK hI hR (k := (183 + x3.toNatClampNeg)) (r120_lt (r120_in3 g_6)) (fun f => (ev1_r120 (r120_in3 g_6))) g_9 dX10_add_52 (fun H locs σ_10 eσ_10 hR => ?_)
          have h := h σ_10 eσ_10
          obtain ⟨v_11, ev_11⟩ : ∃ z : Int32, z = x4 + 1 := ⟨_, rfl⟩
          have h := h v_11 ev_11
          refine lv_iinc (pc := 53) (v := v_11) (lv' := [(4, .int v_11), (0, .ref (w.2.1 7)), (1, .ref (w.2.1 k1)), (2, .int x2), (3, .int x3)]) hx hb dX10_add_53 hl (k := 4) rfl (by rw [ev_11]; rfl) (by decide) rfl (fun ls hl => ?_)
          refine lv_goto (pc := 56) (tgt := 20) hx hb dX10_add_56 (by decide) ?_
          exact ih v_11 σ_10 _ _ _ hR (lv_sub hl [1, 2, 3, 4, 0] rfl) h
def fX10_add (N : Nat) (k1 : Nat) (x2 : Int32) (Q : Int32 → St → Prop) (σ : St) : Prop := (((σ.1 7 4) < 20 → ∀ v_2 : Int32, v_2 = σ.1 7 4 → lo1 (fX10_add_l20 N k1 x2 v_2 Q) N 0 σ) ∧ (¬ (σ.1 7 4) < 20 → Q (-4) σ))
set_option maxHeartbeats 4000000 in
set_option maxRecDepth 100000 in
theorem bX10_add_e {p : Program} {e : Env} {s : State} {m : MethodId} {args : Array Value} {below : List Frame} {meth : Method} {c : Code} (l : Launch) (w : Wd) (N : Nat) (Q : Int32 → St → Prop) (E : Cx 223 w (X1 w) cX10_add 5 RX10 (.code yX10_add cX10_add 5 (some .int)) (some .int) p s m args meth c) (k1 : Nat) (x2 : Int32) (hk1 : r120 k1) {σ : St} {H : Heap} {locs : List Loc} {ls : Array Slot} (hR : Rr 223 ev1 w σ s H locs) (hl : lv_has ls 5 [(0, .ref (w.2.1 7)), (1, .ref (w.2.1 k1)), (2, .int x2)]) (h : fX10_add N k1 x2 Q σ) : W p l e rmX10_add s m args below meth c H locs 0 0 (MQ below (va_Qi Q (Rp 223 ev1 w) (Aw 223 w)) args s 0 0 (Aw 223 w)) (F0 m 0 ls []) := by
  obtain ⟨hx, hb, hml, hown, hts, hr, hlk, hK, hI, hX⟩ := id E
  unfold fX10_add at h
  refine lv_aload_n (pc := 0) hx hb dX10_add_0 rfl (lv_at hl 0 rfl) ?_
  refine gf1_7_4 (pc := 1) hx hb hts hown hK hR mw175 dX10_add_1 ?_
  refine lv_bipush (pc := 4) (v := 20) hx hb dX10_add_4 (by decide) ?_
  refine lv_icmp_lt (pc := 6) (tgt := 12) hx hb dX10_add_6 (by decide) (fun c_1 => ?_) (fun c_1 => ?_)
  · have h := h.1 c_1
    refine lv_aload_n (pc := 12) hx hb dX10_add_12 rfl (lv_at hl 0 rfl) ?_
    refine gf1_7_4 (pc := 13) hx hb hts hown hK hR mw175 dX10_add_13 ?_
    refine lv_topi (pc := 16) (fun v_2 ev_2 => ?_)
    have h := h v_2 ev_2
    refine lv_istore_n (pc := 16) (lv' := [(3, .int v_2), (0, .ref (w.2.1 7)), (1, .ref (w.2.1 k1)), (2, .int x2)]) hx hb dX10_add_16 rfl hl (by decide) rfl (fun ls hl => ?_)
    refine lv_iconst (pc := 17) (v := 0) hx hb dX10_add_17 (by decide) ?_
    refine lv_istore (pc := 18) (lv' := [(4, .int 0), (3, .int v_2), (0, .ref (w.2.1 7)), (1, .ref (w.2.1 k1)), (2, .int x2)]) hx hb dX10_add_18 hl (by decide) rfl (fun ls hl => ?_)
    exact bX10_add_20 l w N Q E k1 x2 v_2 hk1 N 0 σ _ _ _ hR (lv_sub hl [2, 3, 4, 1, 0] rfl) h
  · have h := h.2 c_1
    refine lv_bipush (pc := 9) (v := (-4)) hx hb dX10_add_9 (by decide) ?_
    exact q_iret (pc := 11) E hR h dX10_add_11
theorem cX10_add_met (l : Launch) (w : Wd) (hI : Ij 223 w) (N : Nat) (k1 : Nat) (x2 : Int32) (hk1 : r120 k1) (Q : Int32 → St → Prop) (σ : St) (h : fX10_add N k1 x2 Q σ) : Met l yX10_add (.code yX10_add cX10_add 5 (some .int) :: Uw) rmX10_add (va_Pc [.ref (w.2.1 7), .ref (w.2.1 k1), .int x2] (fun U => Rp 223 ev1 w σ U ∧ (X1 w) U)) (va_Qi Q (Rp 223 ev1 w) (Aw 223 w)) 0 0 (Aw 223 w) :=
  q_met (by decide) (Nat.le_of_ble_eq_true rfl) hI (fun p e s m below meth c ls E hl hR => bX10_add_e l w N Q E k1 x2 hk1 hR hl h)
-- GlulxStrings.text()I
abbrev rmX11_text : Room := { frames := 3, cells := 0, slots := 0, locals := 76 }
def fX11_text (N : Nat) (Q : Int32 → St → Prop) (σ : St) : Prop := ∀ v_1 : Int32, v_1 = σ.1 0 7 → ∀ σ_2 : St, σ_2 = u1 σ 0 7 0 → fX6_part N 11 v_1 (fun r_4 σ_3 => ((r_4 = (-1) → Q (-3) σ_3) ∧ (¬ r_4 = (-1) → fX10_add N 11 v_1 (fun r_7 σ_6 => Q r_7 σ_6) σ_3))) σ_2
set_option maxHeartbeats 4000000 in
set_option maxRecDepth 100000 in
theorem bX11_text_e {p : Program} {e : Env} {s : State} {m : MethodId} {args : Array Value} {below : List Frame} {meth : Method} {c : Code} (l : Launch) (w : Wd) (N : Nat) (Q : Int32 → St → Prop) (E : Cx 223 w (X1 w) cX11_text 2 RX11 (.code yX11_text cX11_text 2 (some .int)) (some .int) p s m args meth c) {σ : St} {H : Heap} {locs : List Loc} {ls : Array Slot} (hR : Rr 223 ev1 w σ s H locs) (hl : lv_has ls 2 [(0, .ref (w.2.1 0))]) (h : fX11_text N Q σ) : W p l e rmX11_text s m args below meth c H locs 0 0 (MQ below (va_Qi Q (Rp 223 ev1 w) (Aw 223 w)) args s 0 0 (Aw 223 w)) (F0 m 0 ls []) := by
  obtain ⟨hx, hb, hml, hown, hts, hr, hlk, hK, hI, hX⟩ := id E
  unfold fX11_text at h
  refine lv_aload_n (pc := 0) hx hb dX11_text_0 rfl (lv_at hl 0 rfl) ?_
  refine gf1_0_7 (pc := 1) hx hb hts hown hK hR mw131 dX11_text_1 ?_
  refine lv_topi (pc := 4) (fun v_1 ev_1 => ?_)
  have h := h v_1 ev_1
  refine lv_istore_n (pc := 4) (lv' := [(1, .int v_1), (0, .ref (w.2.1 0))]) hx hb dX11_text_4 rfl hl (by decide) rfl (fun ls hl => ?_)
  refine lv_aload_n (pc := 5) hx hb dX11_text_5 rfl (lv_at hl 1 rfl) ?_
  refine lv_iconst (pc := 6) (v := 0) hx hb dX11_text_6 (by decide) ?_
  refine pf1_0_7 (pc := 7) hx hb hts hown hK hI hR mw131 dX11_text_7 (fun H locs σ_2 eσ_2 hR => ?_)
  have h := h σ_2 eσ_2
  refine lv_aload_n (pc := 10) hx hb dX11_text_10 rfl (lv_at hl 1 rfl) ?_
  refine gf1_0_3 (pc := 11) hx hb hts hown hK hR mw152 dX11_text_11 ?_
  refine gf1_4_4 (pc := 14) hx hb hts hown hK hR mw180 dX11_text_14 ?_
  refine lv_aload_n (pc := 17) hx hb dX11_text_17 rfl (lv_at hl 1 rfl) ?_
  refine gf1_0_5 (pc := 18) hx hb hts hown hK hR mw132 dX11_text_18 ?_
  refine lv_iload_n (pc := 21) hx hb dX11_text_21 rfl (lv_at hl 0 rfl) ?_
  refine q_ci (pc := 22) hR (q_rV E (xp1 w) (As := [.ref (w.2.1 11), .int v_1]) (rest := []) (cX6_part_met l w hI N 11 v_1 r120_11 _ σ_2 h) ckX6_part cvX6_part mw181 ⟨rfl, rfl, Nat.le_of_ble_eq_true rfl, Nat.le_of_ble_eq_true rfl⟩ hR (rc1_8 w) rfl hl.1 rfl (Nat.le_of_ble_eq_true rfl) dX11_text_22) (fun r_4 σ_3 H locs h hR => ?_)
  refine lv_iconst (pc := 25) (v := (-1)) hx hb dX11_text_25 (by decide) ?_
  refine lv_icmp_ne (pc := 26) (tgt := 32) hx hb dX11_text_26 (by decide) (fun c_5 => ?_) (fun c_5 => ?_)
  · have h := h.2 c_5
    refine lv_aload_n (pc := 32) hx hb dX11_text_32 rfl (lv_at hl 1 rfl) ?_
    refine gf1_0_3 (pc := 33) hx hb hts hown hK hR mw152 dX11_text_33 ?_
    refine gf1_4_3 (pc := 36) hx hb hts hown hK hR mw155 dX11_text_36 ?_
    refine lv_aload_n (pc := 39) hx hb dX11_text_39 rfl (lv_at hl 1 rfl) ?_
    refine gf1_0_5 (pc := 40) hx hb hts hown hK hR mw132 dX11_text_40 ?_
    refine lv_iload_n (pc := 43) hx hb dX11_text_43 rfl (lv_at hl 0 rfl) ?_
    refine q_ci (pc := 44) hR (q_rV E (xp1 w) (As := [.ref (w.2.1 11), .int v_1]) (rest := []) (cX10_add_met l w hI N 11 v_1 r120_11 _ σ_3 h) ckX10_add cvX10_add mw182 ⟨rfl, rfl, Nat.le_of_ble_eq_true rfl, Nat.le_of_ble_eq_true rfl⟩ hR (rc1_7 w) rfl hl.1 rfl (Nat.le_of_ble_eq_true rfl) dX11_text_44) (fun r_7 σ_6 H locs h hR => ?_)
    exact q_iret (pc := 47) E hR h dX11_text_47
  · have h := h.1 c_5
    refine lv_bipush (pc := 29) (v := (-3)) hx hb dX11_text_29 (by decide) ?_
    exact q_iret (pc := 31) E hR h dX11_text_31
theorem cX11_text_met (l : Launch) (w : Wd) (hI : Ij 223 w) (N : Nat) (Q : Int32 → St → Prop) (σ : St) (h : fX11_text N Q σ) : Met l yX11_text (.code yX11_text cX11_text 2 (some .int) :: Uw) rmX11_text (va_Pc [.ref (w.2.1 0)] (fun U => Rp 223 ev1 w σ U ∧ (X1 w) U)) (va_Qi Q (Rp 223 ev1 w) (Aw 223 w)) 0 0 (Aw 223 w) :=
  q_met (by decide) (Nat.le_of_ble_eq_true rfl) hI (fun p e s m below meth c ls E hl hR => bX11_text_e l w N Q E hR hl h)
-- GlulxStrings$Parting.copyPieces(I[I)I
abbrev rmX6_copyPieces : Room := { frames := 0, cells := 0, slots := 0, locals := 0 }
def fX6_copyPieces_l5 (N : Nat) (x1 : Int32) (k2 : Nat) (Q : Int32 → St → Prop) (r5 : Int32 → Int32 → St → Prop) (x3 : Int32) (x4 : Int32) (σ : St) : Prop := ((x1 ≤ x4 → Q x3 σ) ∧ (¬ x1 ≤ x4 → ((120 ≤ x4 → Q x3 σ) ∧ (¬ 120 ≤ x4 → ((120 ≤ x3 → Q x3 σ) ∧ (¬ 120 ≤ x3 → vp_in x4 121 ∧ ∀ v_5 : Int32, v_5 = σ.1 28 x4.toNatClampNeg → ((v_5 < 0 → Q x3 σ) ∧ (¬ v_5 < 0 → vp_in v_5 60 ∧ ((1 ≤ (σ.1 21 v_5.toNatClampNeg) → vp_in x3 120 ∧ ∀ σ_10 : St, σ_10 = u1 σ k2 x3.toNatClampNeg v_5 → ∀ v_11 : Int32, v_11 = x3 + 1 → vp_in v_5 60 ∧ ∀ v_13 : Int32, v_13 = x4 + (σ_10.1 21 v_5.toNatClampNeg) → r5 v_11 v_13 σ_10) ∧ (¬ 1 ≤ (σ.1 21 v_5.toNatClampNeg) → Q x3 σ))))))))))
set_option maxHeartbeats 4000000 in
set_option maxRecDepth 100000 in
theorem bX6_copyPieces_5 {p : Program} {e : Env} {s : State} {m : MethodId} {args : Array Value} {below : List Frame} {meth : Method} {c : Code} (l : Launch) (w : Wd) (N : Nat) (Q : Int32 → St → Prop) (E : Cx 223 w (X1 w) cX6_copyPieces 6 RX6 (.code yX6_copyPieces cX6_copyPieces 6 (some .int)) (some .int) p s m args meth c) (x1 : Int32) (k2 : Nat) (hk2 : r120 k2) : ∀ (n : Nat) (x3 : Int32) (x4 : Int32) (σ : St) (H : Heap) (locs : List Loc) (ls : Array Slot), Rr 223 ev1 w σ s H locs → lv_has ls 6 [(0, .ref (w.2.1 8)), (1, .int x1), (2, .ref (w.2.1 k2)), (3, .int x3), (4, .int x4)] → lo2 (fX6_copyPieces_l5 N x1 k2 Q) n x3 x4 σ → W p l e rmX6_copyPieces s m args below meth c H locs 0 0 (MQ below (va_Qi Q (Rp 223 ev1 w) (Aw 223 w)) args s 0 0 (Aw 223 w)) (F0 m 5 ls []) := by
  obtain ⟨hx, hb, hml, hown, hts, hr, hlk, hK, hI, hX⟩ := id E
  intro n
  induction n with
  | zero => intro x3 x4 σ H locs ls hR hl h; exact h.elim
  | succ n ih =>
    intro x3 x4 σ H locs ls hR hl h
    have h : fX6_copyPieces_l5 N x1 k2 Q (lo2 (fX6_copyPieces_l5 N x1 k2 Q) n) x3 x4 σ := h
    unfold fX6_copyPieces_l5 at h
    refine lv_iload (pc := 5) hx hb dX6_copyPieces_5 (lv_at hl 4 rfl) ?_
    refine lv_iload_n (pc := 7) hx hb dX6_copyPieces_7 rfl (lv_at hl 1 rfl) ?_
    refine lv_icmp_ge (pc := 8) (tgt := 80) hx hb dX6_copyPieces_8 (by decide) (fun c_1 => ?_) (fun c_1 => ?_)
    · have h := h.1 c_1
      refine lv_iload_n (pc := 80) hx hb dX6_copyPieces_80 rfl (lv_at hl 3 rfl) ?_
      exact q_iret (pc := 81) E hR h dX6_copyPieces_81
    · have h := h.2 c_1
      refine lv_iload (pc := 11) hx hb dX6_copyPieces_11 (lv_at hl 4 rfl) ?_
      refine lv_bipush (pc := 13) (v := 120) hx hb dX6_copyPieces_13 (by decide) ?_
      refine lv_icmp_ge (pc := 15) (tgt := 80) hx hb dX6_copyPieces_15 (by decide) (fun c_2 => ?_) (fun c_2 => ?_)
      · have h := h.1 c_2
        refine lv_iload_n (pc := 80) hx hb dX6_copyPieces_80 rfl (lv_at hl 3 rfl) ?_
        exact q_iret (pc := 81) E hR h dX6_copyPieces_81
      · have h := h.2 c_2
        refine lv_iload_n (pc := 18) hx hb dX6_copyPieces_18 rfl (lv_at hl 3 rfl) ?_
        refine lv_aload_n (pc := 19) hx hb dX6_copyPieces_19 rfl (lv_at hl 2 rfl) ?_
        refine va_alen (pc := 20) (v := 120) hx hb hK hR.1 k2 0 (rg_ate (r120_lt hk2) (ev1_r120 hk2)) rfl (show Int32.ofNat 120 = 120 from by decide) dX6_copyPieces_20 ?_
        refine lv_icmp_ge (pc := 21) (tgt := 80) hx hb dX6_copyPieces_21 (by decide) (fun c_3 => ?_) (fun c_3 => ?_)
        · have h := h.1 c_3
          refine lv_iload_n (pc := 80) hx hb dX6_copyPieces_80 rfl (lv_at hl 3 rfl) ?_
          exact q_iret (pc := 81) E hR h dX6_copyPieces_81
        · have h := h.2 c_3
          refine lv_aload_n (pc := 24) hx hb dX6_copyPieces_24 rfl (lv_at hl 0 rfl) ?_
          refine gf1_8_2 (pc := 25) hx hb hts hown hK hR mw169 dX6_copyPieces_25 ?_
          refine lv_iload (pc := 28) hx hb dX6_copyPieces_28 (lv_at hl 4 rfl) ?_
          have g_4 := h.1
          have h := h.2
          refine q_iald (pc := 30) hx hb hK hR (k := 28) lt1_28 (ar1_28 _ _ _) g_4 dX6_copyPieces_30 ?_
          refine lv_topi (pc := 31) (fun v_5 ev_5 => ?_)
          have h := h v_5 ev_5
          refine lv_istore (pc := 31) (lv' := [(5, .int v_5), (0, .ref (w.2.1 8)), (1, .int x1), (2, .ref (w.2.1 k2)), (3, .int x3), (4, .int x4)]) hx hb dX6_copyPieces_31 hl (by decide) rfl (fun ls hl => ?_)
          refine lv_iload (pc := 33) hx hb dX6_copyPieces_33 (lv_at hl 0 rfl) ?_
          refine lv_if_lt (pc := 35) (tgt := 52) hx hb dX6_copyPieces_35 (by decide) (fun c_6 => ?_) (fun c_6 => ?_)
          · have h := h.1 c_6
            refine lv_iload_n (pc := 52) hx hb dX6_copyPieces_52 rfl (lv_at hl 4 rfl) ?_
            exact q_iret (pc := 53) E hR h dX6_copyPieces_53
          · have h := h.2 c_6
            refine lv_aload_n (pc := 38) hx hb dX6_copyPieces_38 rfl (lv_at hl 1 rfl) ?_
            refine gf1_8_0 (pc := 39) hx hb hts hown hK hR mw170 dX6_copyPieces_39 ?_
            refine gf1_6_3 (pc := 42) hx hb hts hown hK hR mw173 dX6_copyPieces_42 ?_
            refine lv_iload (pc := 45) hx hb dX6_copyPieces_45 (lv_at hl 0 rfl) ?_
            have g_7 := h.1
            have h := h.2
            refine q_iald (pc := 47) hx hb hK hR (k := 21) lt1_21 (ar1_21 _ _ _) g_7 dX6_copyPieces_47 ?_
            refine lv_iconst (pc := 48) (v := 1) hx hb dX6_copyPieces_48 (by decide) ?_
            refine lv_icmp_ge (pc := 49) (tgt := 54) hx hb dX6_copyPieces_49 (by decide) (fun c_8 => ?_) (fun c_8 => ?_)
            · have h := h.1 c_8
              refine lv_aload_n (pc := 54) hx hb dX6_copyPieces_54 rfl (lv_at hl 3 rfl) ?_
              refine lv_iload_n (pc := 55) hx hb dX6_copyPieces_55 rfl (lv_at hl 4 rfl) ?_
              refine lv_iload (pc := 56) hx hb dX6_copyPieces_56 (lv_at hl 0 rfl) ?_
              have g_9 := h.1
              have h := h.2
              refine q_iast (pc := 58) hx hb hK hI hR (k := k2) (r120_lt hk2) (fun f => (ev1_r120 hk2)) g_9 dX6_copyPieces_58 (fun H locs σ_10 eσ_10 hR => ?_)
              have h := h σ_10 eσ_10
              obtain ⟨v_11, ev_11⟩ : ∃ z : Int32, z = x3 + 1 := ⟨_, rfl⟩
              have h := h v_11 ev_11
              refine lv_iinc (pc := 59) (v := v_11) (lv' := [(3, .int v_11), (5, .int v_5), (0, .ref (w.2.1 8)), (1, .int x1), (2, .ref (w.2.1 k2)), (4, .int x4)]) hx hb dX6_copyPieces_59 hl (k := 4) rfl (by rw [ev_11]; rfl) (by decide) rfl (fun ls hl => ?_)
              refine lv_iload (pc := 62) hx hb dX6_copyPieces_62 (lv_at hl 5 rfl) ?_
              refine lv_aload_n (pc := 64) hx hb dX6_copyPieces_64 rfl (lv_at hl 2 rfl) ?_
              refine gf1_8_0 (pc := 65) hx hb hts hown hK hR mw170 dX6_copyPieces_65 ?_
              refine gf1_6_3 (pc := 68) hx hb hts hown hK hR mw173 dX6_copyPieces_68 ?_
              refine lv_iload (pc := 71) hx hb dX6_copyPieces_71 (lv_at hl 1 rfl) ?_
              have g_12 := h.1
              have h := h.2
              refine q_iald (pc := 73) hx hb hK hR (k := 21) lt1_21 (ar1_21 _ _ _) g_12 dX6_copyPieces_73 ?_
              refine lv_iadd (pc := 74) hx hb dX6_copyPieces_74 ?_
              refine lv_topi (pc := 75) (fun v_13 ev_13 => ?_)
              have h := h v_13 ev_13
              refine lv_istore (pc := 75) (lv' := [(4, .int v_13), (3, .int v_11), (5, .int v_5), (0, .ref (w.2.1 8)), (1, .int x1), (2, .ref (w.2.1 k2))]) hx hb dX6_copyPieces_75 hl (by decide) rfl (fun ls hl => ?_)
              refine lv_goto (pc := 77) (tgt := 5) hx hb dX6_copyPieces_77 (by decide) ?_
              exact ih v_11 v_13 σ_10 _ _ _ hR (lv_sub hl [3, 4, 5, 1, 0] rfl) h
            · have h := h.2 c_8
              refine lv_iload_n (pc := 52) hx hb dX6_copyPieces_52 rfl (lv_at hl 4 rfl) ?_
              exact q_iret (pc := 53) E hR h dX6_copyPieces_53
def fX6_copyPieces (N : Nat) (x1 : Int32) (k2 : Nat) (Q : Int32 → St → Prop) (σ : St) : Prop := lo2 (fX6_copyPieces_l5 N x1 k2 Q) N 0 0 σ
set_option maxHeartbeats 4000000 in
set_option maxRecDepth 100000 in
theorem bX6_copyPieces_e {p : Program} {e : Env} {s : State} {m : MethodId} {args : Array Value} {below : List Frame} {meth : Method} {c : Code} (l : Launch) (w : Wd) (N : Nat) (Q : Int32 → St → Prop) (E : Cx 223 w (X1 w) cX6_copyPieces 6 RX6 (.code yX6_copyPieces cX6_copyPieces 6 (some .int)) (some .int) p s m args meth c) (x1 : Int32) (k2 : Nat) (hk2 : r120 k2) {σ : St} {H : Heap} {locs : List Loc} {ls : Array Slot} (hR : Rr 223 ev1 w σ s H locs) (hl : lv_has ls 6 [(0, .ref (w.2.1 8)), (1, .int x1), (2, .ref (w.2.1 k2))]) (h : fX6_copyPieces N x1 k2 Q σ) : W p l e rmX6_copyPieces s m args below meth c H locs 0 0 (MQ below (va_Qi Q (Rp 223 ev1 w) (Aw 223 w)) args s 0 0 (Aw 223 w)) (F0 m 0 ls []) := by
  obtain ⟨hx, hb, hml, hown, hts, hr, hlk, hK, hI, hX⟩ := id E
  unfold fX6_copyPieces at h
  refine lv_iconst (pc := 0) (v := 0) hx hb dX6_copyPieces_0 (by decide) ?_
  refine lv_istore_n (pc := 1) (lv' := [(3, .int 0), (0, .ref (w.2.1 8)), (1, .int x1), (2, .ref (w.2.1 k2))]) hx hb dX6_copyPieces_1 rfl hl (by decide) rfl (fun ls hl => ?_)
  refine lv_iconst (pc := 2) (v := 0) hx hb dX6_copyPieces_2 (by decide) ?_
  refine lv_istore (pc := 3) (lv' := [(4, .int 0), (3, .int 0), (0, .ref (w.2.1 8)), (1, .int x1), (2, .ref (w.2.1 k2))]) hx hb dX6_copyPieces_3 hl (by decide) rfl (fun ls hl => ?_)
  exact bX6_copyPieces_5 l w N Q E x1 k2 hk2 N 0 0 σ _ _ _ hR (lv_sub hl [2, 3, 4, 1, 0] rfl) h
theorem cX6_copyPieces_met (l : Launch) (w : Wd) (hI : Ij 223 w) (N : Nat) (x1 : Int32) (k2 : Nat) (hk2 : r120 k2) (Q : Int32 → St → Prop) (σ : St) (h : fX6_copyPieces N x1 k2 Q σ) : Met l yX6_copyPieces (.code yX6_copyPieces cX6_copyPieces 6 (some .int) :: Uw) rmX6_copyPieces (va_Pc [.ref (w.2.1 8), .int x1, .ref (w.2.1 k2)] (fun U => Rp 223 ev1 w σ U ∧ (X1 w) U)) (va_Qi Q (Rp 223 ev1 w) (Aw 223 w)) 0 0 (Aw 223 w) :=
  q_met (by decide) (Nat.le_of_ble_eq_true rfl) hI (fun p e s m below meth c ls E hl hR => bX6_copyPieces_e l w N Q E x1 k2 hk2 hR hl h)
-- GlulxStrings$Packer.partTexts()V
abbrev rmX5_partTexts : Room := { frames := 3, cells := 0, slots := 0, locals := 76 }
def fX5_partTexts_l77 (N : Nat) (r10 : Int32 → St → Prop) (x1 : Int32) (Q : St → Prop) (r77 : Int32 → St → Prop) (x2 : Int32) (σ : St) : Prop := vp_in x1 20 ∧ (((σ.1 39 x1.toNatClampNeg) ≤ x2 → ∀ v_15 : Int32, v_15 = x1 + 1 → r10 v_15 σ) ∧ (¬ (σ.1 39 x1.toNatClampNeg) ≤ x2 → vp_in x1 20 ∧ vp_in x2 120 ∧ vp_in (σ.1 (203 + x1.toNatClampNeg) x2.toNatClampNeg) 60 ∧ ∀ v_19 : Int32, v_19 = (σ.1 41 (σ.1 (203 + x1.toNatClampNeg) x2.toNatClampNeg).toNatClampNeg) + 1 → vp_in (σ.1 (203 + x1.toNatClampNeg) x2.toNatClampNeg) 60 ∧ ∀ σ_21 : St, σ_21 = u1 σ 41 (σ.1 (203 + x1.toNatClampNeg) x2.toNatClampNeg).toNatClampNeg v_19 → ∀ v_22 : Int32, v_22 = x2 + 1 → r77 v_22 σ_21))
set_option maxHeartbeats 4000000 in
set_option maxRecDepth 100000 in
theorem bX5_partTexts_77 {p : Program} {e : Env} {s : State} {m : MethodId} {args : Array Value} {below : List Frame} {meth : Method} {c : Code} (l : Launch) (w : Wd) (N : Nat) (Q : St → Prop) (E : Cx 223 w (X1 w) cX5_partTexts 3 RX5 (.code yX5_partTexts cX5_partTexts 3 none) none p s m args meth c) (x1 : Int32) (r10 : Int32 → St → Prop) (hr10 : ∀ (x1 : Int32) (σ : St) (H : Heap) (locs : List Loc) (ls : Array Slot), Rr 223 ev1 w σ s H locs → lv_has ls 3 [(0, .ref (w.2.1 4)), (1, .int x1)] → r10 x1 σ → W p l e rmX5_partTexts s m args below meth c H locs 0 0 (MQ below (va_Qv Q (Rp 223 ev1 w) (Aw 223 w)) args s 0 0 (Aw 223 w)) (F0 m 10 ls [])) : ∀ (n : Nat) (x2 : Int32) (σ : St) (H : Heap) (locs : List Loc) (ls : Array Slot), Rr 223 ev1 w σ s H locs → lv_has ls 3 [(0, .ref (w.2.1 4)), (1, .int x1), (2, .int x2)] → lo1 (fX5_partTexts_l77 N r10 x1 Q) n x2 σ → W p l e rmX5_partTexts s m args below meth c H locs 0 0 (MQ below (va_Qv Q (Rp 223 ev1 w) (Aw 223 w)) args s 0 0 (Aw 223 w)) (F0 m 77 ls []) := by
  obtain ⟨hx, hb, hml, hown, hts, hr, hlk, hK, hI, hX⟩ := id E
  intro n
  induction n with
  | zero => intro x2 σ H locs ls hR hl h; exact h.elim
  | succ n ih =>
    intro x2 σ H locs ls hR hl h
    have h : fX5_partTexts_l77 N r10 x1 Q (lo1 (fX5_partTexts_l77 N r10 x1 Q) n) x2 σ := h
    unfold fX5_partTexts_l77 at h
    refine lv_iload_n (pc := 77) hx hb dX5_partTexts_77 rfl (lv_at hl 2 rfl) ?_
    refine lv_aload_n (pc := 78) hx hb dX5_partTexts_78 rfl (lv_at hl 0 rfl) ?_
    refine gf1_4_7 (pc := 79) hx hb hts hown hK hR mw191 dX5_partTexts_79 ?_
    refine lv_iload_n (pc := 82) hx hb dX5_partTexts_82 rfl (lv_at hl 1 rfl) ?_
    have g_13 := h.1
    have h := h.2
    refine q_iald (pc := 83) hx hb hK hR (k := 39) lt1_39 (ar1_39 _ _ _) g_13 dX5_partTexts_83 ?_
    refine lv_icmp_ge (pc := 84) (tgt := 110) hx hb dX5_partTexts_84 (by decide) (fun c_14 => ?_) (fun c_14 => ?_)
    · have h := h.1 c_14
      obtain ⟨v_15, ev_15⟩ : ∃ z : Int32, z = x1 + 1 := ⟨_, rfl⟩
      have h := h v_15 ev_15
      refine lv_iinc (pc := 110) (v := v_15) (lv' := [(1, .int v_15), (0, .ref (w.2.1 4)), (2, .int x2)]) hx hb dX5_partTexts_110 hl (k := 1) rfl (by rw [ev_15]; rfl) (by decide) rfl (fun ls hl => ?_)
      refine lv_goto (pc := 113) (tgt := 10) hx hb dX5_partTexts_113 (by decide) ?_
      exact hr10 v_15 σ _ _ _ hR (lv_sub hl [1, 0] rfl) h
    · have h := h.2 c_14
      refine lv_aload_n (pc := 87) hx hb dX5_partTexts_87 rfl (lv_at hl 0 rfl) ?_
      refine gf1_4_9 (pc := 88) hx hb hts hown hK hR mw183 dX5_partTexts_88 ?_
      refine lv_aload_n (pc := 91) hx hb dX5_partTexts_91 rfl (lv_at hl 0 rfl) ?_
      refine gf1_4_6 (pc := 92) hx hb hts hown hK hR mw192 dX5_partTexts_92 ?_
      refine lv_iload_n (pc := 95) hx hb dX5_partTexts_95 rfl (lv_at hl 1 rfl) ?_
      have g_16 := h.1
      have h := h.2
      refine q_aald (pc := 96) hx hb hK hR (k := 38) lt1_38 5 rfl rfl (ar1_38 _ _ _) g_16 dX5_partTexts_96 ?_
      refine lv_iload_n (pc := 97) hx hb dX5_partTexts_97 rfl (lv_at hl 2 rfl) ?_
      have g_17 := h.1
      have h := h.2
      refine q_iald (pc := 98) hx hb hK hR (k := (203 + x1.toNatClampNeg)) (r120_lt (r120_in8 g_16)) (ev1_r120 (r120_in8 g_16)) g_17 dX5_partTexts_98 ?_
      refine lv_dup2_11 (pc := 99) hx hb dX5_partTexts_99 rfl rfl ?_
      have g_18 := h.1
      have h := h.2
      refine q_iald (pc := 100) hx hb hK hR (k := 41) lt1_41 (ar1_41 _ _ _) g_18 dX5_partTexts_100 ?_
      refine lv_iconst (pc := 101) (v := 1) hx hb dX5_partTexts_101 (by decide) ?_
      refine lv_iadd (pc := 102) hx hb dX5_partTexts_102 ?_
      refine lv_topi (pc := 103) (fun v_19 ev_19 => ?_)
      have h := h v_19 ev_19
      have g_20 := h.1
      have h := h.2
      refine q_iast (pc := 103) hx hb hK hI hR (k := 41) lt1_41 (fun f => (ar1_41 _ f _)) g_20 dX5_partTexts_103 (fun H locs σ_21 eσ_21 hR => ?_)
      have h := h σ_21 eσ_21
      obtain ⟨v_22, ev_22⟩ : ∃ z : Int32, z = x2 + 1 := ⟨_, rfl⟩
      have h := h v_22 ev_22
      refine lv_iinc (pc := 104) (v := v_22) (lv' := [(2, .int v_22), (0, .ref (w.2.1 4)), (1, .int x1)]) hx hb dX5_partTexts_104 hl (k := 2) rfl (by rw [ev_22]; rfl) (by decide) rfl (fun ls hl => ?_)
      refine lv_goto (pc := 107) (tgt := 77) hx hb dX5_partTexts_107 (by decide) ?_
      exact ih v_22 σ_21 _ _ _ hR (lv_sub hl [1, 2, 0] rfl) h
def fX5_partTexts_l10 (N : Nat) (Q : St → Prop) (r10 : Int32 → St → Prop) (x1 : Int32) (σ : St) : Prop := (((σ.1 7 4) ≤ x1 → Q σ) ∧ (¬ (σ.1 7 4) ≤ x1 → vp_in x1 20 ∧ vp_in x1 20 ∧ fX6_part N (183 + x1.toNatClampNeg) (σ.1 24 x1.toNatClampNeg) (fun r_6 σ_5 => vp_in x1 20 ∧ vp_in x1 20 ∧ fX6_copyPieces N (σ_5.1 24 x1.toNatClampNeg) (203 + x1.toNatClampNeg) (fun r_10 σ_9 => vp_in x1 20 ∧ ∀ σ_12 : St, σ_12 = u1 σ_9 39 x1.toNatClampNeg r_10 → lo1 (fX5_partTexts_l77 N r10 x1 Q) N 0 σ_12) σ_5) σ))
set_option maxHeartbeats 4000000 in
set_option maxRecDepth 100000 in
theorem bX5_partTexts_10 {p : Program} {e : Env} {s : State} {m : MethodId} {args : Array Value} {below : List Frame} {meth : Method} {c : Code} (l : Launch) (w : Wd) (N : Nat) (Q : St → Prop) (E : Cx 223 w (X1 w) cX5_partTexts 3 RX5 (.code yX5_partTexts cX5_partTexts 3 none) none p s m args meth c) : ∀ (n : Nat) (x1 : Int32) (σ : St) (H : Heap) (locs : List Loc) (ls : Array Slot), Rr 223 ev1 w σ s H locs → lv_has ls 3 [(0, .ref (w.2.1 4)), (1, .int x1)] → lo1 (fX5_partTexts_l10 N Q) n x1 σ → W p l e rmX5_partTexts s m args below meth c H locs 0 0 (MQ below (va_Qv Q (Rp 223 ev1 w) (Aw 223 w)) args s 0 0 (Aw 223 w)) (F0 m 10 ls []) := by
  obtain ⟨hx, hb, hml, hown, hts, hr, hlk, hK, hI, hX⟩ := id E
  intro n
  induction n with
  | zero => intro x1 σ H locs ls hR hl h; exact h.elim
  | succ n ih =>
    intro x1 σ H locs ls hR hl h
    have h : fX5_partTexts_l10 N Q (lo1 (fX5_partTexts_l10 N Q) n) x1 σ := h
    unfold fX5_partTexts_l10 at h
    refine lv_iload_n (pc := 10) hx hb dX5_partTexts_10 rfl (lv_at hl 1 rfl) ?_
    refine lv_aload_n (pc := 11) hx hb dX5_partTexts_11 rfl (lv_at hl 0 rfl) ?_
    refine gf1_4_3 (pc := 12) hx hb hts hown hK hR mw185 dX5_partTexts_12 ?_
    refine gf1_7_4 (pc := 15) hx hb hts hown hK hR mw186 dX5_partTexts_15 ?_
    refine lv_icmp_ge (pc := 18) (tgt := 116) hx hb dX5_partTexts_18 (by decide) (fun c_2 => ?_) (fun c_2 => ?_)
    · have h := h.1 c_2
      exact q_vret (pc := 116) E hR h dX5_partTexts_116
    · have h := h.2 c_2
      refine lv_aload_n (pc := 21) hx hb dX5_partTexts_21 rfl (lv_at hl 0 rfl) ?_
      refine gf1_4_4 (pc := 22) hx hb hts hown hK hR mw187 dX5_partTexts_22 ?_
      refine lv_aload_n (pc := 25) hx hb dX5_partTexts_25 rfl (lv_at hl 0 rfl) ?_
      refine gf1_4_3 (pc := 26) hx hb hts hown hK hR mw185 dX5_partTexts_26 ?_
      refine gf1_7_0 (pc := 29) hx hb hts hown hK hR mw188 dX5_partTexts_29 ?_
      refine lv_iload_n (pc := 32) hx hb dX5_partTexts_32 rfl (lv_at hl 1 rfl) ?_
      have g_3 := h.1
      have h := h.2
      refine q_aald (pc := 33) hx hb hK hR (k := 23) lt1_23 5 rfl rfl (ar1_23 _ _ _) g_3 dX5_partTexts_33 ?_
      refine lv_aload_n (pc := 34) hx hb dX5_partTexts_34 rfl (lv_at hl 0 rfl) ?_
      refine gf1_4_3 (pc := 35) hx hb hts hown hK hR mw185 dX5_partTexts_35 ?_
      refine gf1_7_1 (pc := 38) hx hb hts hown hK hR mw189 dX5_partTexts_38 ?_
      refine lv_iload_n (pc := 41) hx hb dX5_partTexts_41 rfl (lv_at hl 1 rfl) ?_
      have g_4 := h.1
      have h := h.2
      refine q_iald (pc := 42) hx hb hK hR (k := 24) lt1_24 (ar1_24 _ _ _) g_4 dX5_partTexts_42 ?_
      refine q_ci (pc := 43) hR (q_rV E (xp1 w) (As := [.ref (w.2.1 (183 + x1.toNatClampNeg)), .int (σ.1 24 x1.toNatClampNeg)]) (rest := []) (cX6_part_met l w hI N (183 + x1.toNatClampNeg) (σ.1 24 x1.toNatClampNeg) (r120_in3 g_3) _ σ h) ckX6_part cvX6_part mw190 ⟨rfl, rfl, Nat.le_of_ble_eq_true rfl, Nat.le_of_ble_eq_true rfl⟩ hR (rc1_8 w) rfl hl.1 rfl (Nat.le_of_ble_eq_true rfl) dX5_partTexts_43) (fun r_6 σ_5 H locs h hR => ?_)
      refine lv_pop (pc := 46) hx hb dX5_partTexts_46 rfl ?_
      refine lv_aload_n (pc := 47) hx hb dX5_partTexts_47 rfl (lv_at hl 0 rfl) ?_
      refine gf1_4_7 (pc := 48) hx hb hts hown hK hR mw191 dX5_partTexts_48 ?_
      refine lv_iload_n (pc := 51) hx hb dX5_partTexts_51 rfl (lv_at hl 1 rfl) ?_
      refine lv_aload_n (pc := 52) hx hb dX5_partTexts_52 rfl (lv_at hl 0 rfl) ?_
      refine gf1_4_4 (pc := 53) hx hb hts hown hK hR mw187 dX5_partTexts_53 ?_
      refine lv_aload_n (pc := 56) hx hb dX5_partTexts_56 rfl (lv_at hl 0 rfl) ?_
      refine gf1_4_3 (pc := 57) hx hb hts hown hK hR mw185 dX5_partTexts_57 ?_
      refine gf1_7_1 (pc := 60) hx hb hts hown hK hR mw189 dX5_partTexts_60 ?_
      refine lv_iload_n (pc := 63) hx hb dX5_partTexts_63 rfl (lv_at hl 1 rfl) ?_
      have g_7 := h.1
      have h := h.2
      refine q_iald (pc := 64) hx hb hK hR (k := 24) lt1_24 (ar1_24 _ _ _) g_7 dX5_partTexts_64 ?_
      refine lv_aload_n (pc := 65) hx hb dX5_partTexts_65 rfl (lv_at hl 0 rfl) ?_
      refine gf1_4_6 (pc := 66) hx hb hts hown hK hR mw192 dX5_partTexts_66 ?_
      refine lv_iload_n (pc := 69) hx hb dX5_partTexts_69 rfl (lv_at hl 1 rfl) ?_
      have g_8 := h.1
      have h := h.2
      refine q_aald (pc := 70) hx hb hK hR (k := 38) lt1_38 5 rfl rfl (ar1_38 _ _ _) g_8 dX5_partTexts_70 ?_
      refine q_ci (pc := 71) hR (q_rV E (xp1 w) (As := [.int (σ_5.1 24 x1.toNatClampNeg), .ref (w.2.1 (203 + x1.toNatClampNeg))]) (rest := [.int x1, .ref (w.2.1 39)]) (cX6_copyPieces_met l w hI N (σ_5.1 24 x1.toNatClampNeg) (203 + x1.toNatClampNeg) (r120_in8 g_8) _ σ_5 h) ckX6_copyPieces cvX6_copyPieces mw193 ⟨rfl, rfl, Nat.le_of_ble_eq_true rfl, Nat.le_of_ble_eq_true rfl⟩ hR (rc1_8 w) rfl hl.1 rfl (Nat.le_of_ble_eq_true rfl) dX5_partTexts_71) (fun r_10 σ_9 H locs h hR => ?_)
      have g_11 := h.1
      have h := h.2
      refine q_iast (pc := 74) hx hb hK hI hR (k := 39) lt1_39 (fun f => (ar1_39 _ f _)) g_11 dX5_partTexts_74 (fun H locs σ_12 eσ_12 hR => ?_)
      have h := h σ_12 eσ_12
      refine lv_iconst (pc := 75) (v := 0) hx hb dX5_partTexts_75 (by decide) ?_
      refine lv_istore_n (pc := 76) (lv' := [(2, .int 0), (0, .ref (w.2.1 4)), (1, .int x1)]) hx hb dX5_partTexts_76 rfl hl (by decide) rfl (fun ls hl => ?_)
      exact bX5_partTexts_77 l w N Q E x1 _ ih N 0 σ_12 _ _ _ hR (lv_sub hl [1, 2, 0] rfl) h
def fX5_partTexts (N : Nat) (Q : St → Prop) (σ : St) : Prop := fJ7_fill_53178 N 41 60 0 (fun σ_1 => lo1 (fX5_partTexts_l10 N Q) N 0 σ_1) σ
set_option maxHeartbeats 4000000 in
set_option maxRecDepth 100000 in
theorem bX5_partTexts_e {p : Program} {e : Env} {s : State} {m : MethodId} {args : Array Value} {below : List Frame} {meth : Method} {c : Code} (l : Launch) (w : Wd) (N : Nat) (Q : St → Prop) (E : Cx 223 w (X1 w) cX5_partTexts 3 RX5 (.code yX5_partTexts cX5_partTexts 3 none) none p s m args meth c) {σ : St} {H : Heap} {locs : List Loc} {ls : Array Slot} (hR : Rr 223 ev1 w σ s H locs) (hl : lv_has ls 3 [(0, .ref (w.2.1 4))]) (h : fX5_partTexts N Q σ) : W p l e rmX5_partTexts s m args below meth c H locs 0 0 (MQ below (va_Qv Q (Rp 223 ev1 w) (Aw 223 w)) args s 0 0 (Aw 223 w)) (F0 m 0 ls []) := by
  obtain ⟨hx, hb, hml, hown, hts, hr, hlk, hK, hI, hX⟩ := id E
  unfold fX5_partTexts at h
  refine lv_aload_n (pc := 0) hx hb dX5_partTexts_0 rfl (lv_at hl 0 rfl) ?_
  refine gf1_4_9 (pc := 1) hx hb hts hown hK hR mw183 dX5_partTexts_1 ?_
  refine lv_iconst (pc := 4) (v := 0) hx hb dX5_partTexts_4 (by decide) ?_
  refine q_cv (pc := 5) hR (q_rS E (xp1 w) (As := [.ref (w.2.1 41), .int 0]) (rest := []) (cJ7_fill_53178_met l w hI N 41 60 0 ⟨lt1_41, fun f g => (ar1_41 _ f g)⟩ _ σ h) ckJ7_fill_53178 csJ7_fill_53178 mw184 ⟨rfl, rfl, Nat.le_of_ble_eq_true rfl, Nat.le_of_ble_eq_true rfl⟩ hR rfl hl.1 rfl (Nat.le_of_ble_eq_true rfl) dX5_partTexts_5) (fun σ_1 H locs h hR => ?_)
  refine lv_iconst (pc := 8) (v := 0) hx hb dX5_partTexts_8 (by decide) ?_
  refine lv_istore_n (pc := 9) (lv' := [(1, .int 0), (0, .ref (w.2.1 4))]) hx hb dX5_partTexts_9 rfl hl (by decide) rfl (fun ls hl => ?_)
  exact bX5_partTexts_10 l w N Q E N 0 σ_1 _ _ _ hR (lv_sub hl [1, 0] rfl) h
theorem cX5_partTexts_met (l : Launch) (w : Wd) (hI : Ij 223 w) (N : Nat) (Q : St → Prop) (σ : St) (h : fX5_partTexts N Q σ) : Met l yX5_partTexts (.code yX5_partTexts cX5_partTexts 3 none :: Uw) rmX5_partTexts (va_Pc [.ref (w.2.1 4)] (fun U => Rp 223 ev1 w σ U ∧ (X1 w) U)) (va_Qv Q (Rp 223 ev1 w) (Aw 223 w)) 0 0 (Aw 223 w) :=
  q_met (by decide) (Nat.le_of_ble_eq_true rfl) hI (fun p e s m below meth c ls E hl hR => bX5_partTexts_e l w N Q E hR hl h)
-- GlulxStrings$BestTree.clearLeaves()V
abbrev rmX0_clearLeaves : Room := { frames := 0, cells := 0, slots := 0, locals := 0 }
def fX0_clearLeaves (N : Nat) (Q : St → Prop) (σ : St) : Prop := ∀ σ_1 : St, σ_1 = u1 σ 9 9 0 → ∀ σ_2 : St, σ_2 = u1 σ_1 9 10 0 → Q σ_2
set_option maxHeartbeats 4000000 in
set_option maxRecDepth 100000 in
theorem bX0_clearLeaves_e {p : Program} {e : Env} {s : State} {m : MethodId} {args : Array Value} {below : List Frame} {meth : Method} {c : Code} (l : Launch) (w : Wd) (N : Nat) (Q : St → Prop) (E : Cx 223 w (X1 w) cX0_clearLeaves 1 RX0 (.code yX0_clearLeaves cX0_clearLeaves 1 none) none p s m args meth c) {σ : St} {H : Heap} {locs : List Loc} {ls : Array Slot} (hR : Rr 223 ev1 w σ s H locs) (hl : lv_has ls 1 [(0, .ref (w.2.1 9))]) (h : fX0_clearLeaves N Q σ) : W p l e rmX0_clearLeaves s m args below meth c H locs 0 0 (MQ below (va_Qv Q (Rp 223 ev1 w) (Aw 223 w)) args s 0 0 (Aw 223 w)) (F0 m 0 ls []) := by
  obtain ⟨hx, hb, hml, hown, hts, hr, hlk, hK, hI, hX⟩ := id E
  unfold fX0_clearLeaves at h
  refine lv_aload_n (pc := 0) hx hb dX0_clearLeaves_0 rfl (lv_at hl 0 rfl) ?_
  refine lv_iconst (pc := 1) (v := 0) hx hb dX0_clearLeaves_1 (by decide) ?_
  refine pf1_9_9 (pc := 2) hx hb hts hown hK hI hR mw194 dX0_clearLeaves_2 (fun H locs σ_1 eσ_1 hR => ?_)
  have h := h σ_1 eσ_1
  refine lv_aload_n (pc := 5) hx hb dX0_clearLeaves_5 rfl (lv_at hl 0 rfl) ?_
  refine lv_iconst (pc := 6) (v := 0) hx hb dX0_clearLeaves_6 (by decide) ?_
  refine pf1_9_10 (pc := 7) hx hb hts hown hK hI hR mw195 dX0_clearLeaves_7 (fun H locs σ_2 eσ_2 hR => ?_)
  have h := h σ_2 eσ_2
  exact q_vret (pc := 10) E hR h dX0_clearLeaves_10
theorem cX0_clearLeaves_met (l : Launch) (w : Wd) (hI : Ij 223 w) (N : Nat) (Q : St → Prop) (σ : St) (h : fX0_clearLeaves N Q σ) : Met l yX0_clearLeaves (.code yX0_clearLeaves cX0_clearLeaves 1 none :: Uw) rmX0_clearLeaves (va_Pc [.ref (w.2.1 9)] (fun U => Rp 223 ev1 w σ U ∧ (X1 w) U)) (va_Qv Q (Rp 223 ev1 w) (Aw 223 w)) 0 0 (Aw 223 w) :=
  q_met (by decide) (Nat.le_of_ble_eq_true rfl) hI (fun p e s m below meth c ls E hl hR => bX0_clearLeaves_e l w N Q E hR hl h)
-- GlulxStrings$BestTree.addKnot(II)V
abbrev rmX0_addKnot : Room := { frames := 0, cells := 0, slots := 0, locals := 0 }
def fX0_addKnot (N : Nat) (x1 : Int32) (x2 : Int32) (Q : St → Prop) (σ : St) : Prop := vp_in (σ.1 9 9) 121 ∧ ∀ σ_2 : St, σ_2 = u1 σ 29 (σ.1 9 9).toNatClampNeg x1 → vp_in (σ_2.1 9 9) 121 ∧ ∀ σ_4 : St, σ_4 = u1 σ_2 33 (σ_2.1 9 9).toNatClampNeg x2 → vp_in (σ_4.1 9 9) 121 ∧ ∀ σ_6 : St, σ_6 = u1 σ_4 30 (σ_4.1 9 9).toNatClampNeg (vp_nar .boolean 0) → ∀ v_7 : Int32, v_7 = (σ_6.1 9 9) + 1 → ∀ σ_8 : St, σ_8 = u1 σ_6 9 9 v_7 → Q σ_8
set_option maxHeartbeats 4000000 in
set_option maxRecDepth 100000 in
theorem bX0_addKnot_e {p : Program} {e : Env} {s : State} {m : MethodId} {args : Array Value} {below : List Frame} {meth : Method} {c : Code} (l : Launch) (w : Wd) (N : Nat) (Q : St → Prop) (E : Cx 223 w (X1 w) cX0_addKnot 3 RX0 (.code yX0_addKnot cX0_addKnot 3 none) none p s m args meth c) (x1 : Int32) (x2 : Int32) {σ : St} {H : Heap} {locs : List Loc} {ls : Array Slot} (hR : Rr 223 ev1 w σ s H locs) (hl : lv_has ls 3 [(0, .ref (w.2.1 9)), (1, .int x1), (2, .int x2)]) (h : fX0_addKnot N x1 x2 Q σ) : W p l e rmX0_addKnot s m args below meth c H locs 0 0 (MQ below (va_Qv Q (Rp 223 ev1 w) (Aw 223 w)) args s 0 0 (Aw 223 w)) (F0 m 0 ls []) := by
  obtain ⟨hx, hb, hml, hown, hts, hr, hlk, hK, hI, hX⟩ := id E
  unfold fX0_addKnot at h
  refine lv_aload_n (pc := 0) hx hb dX0_addKnot_0 rfl (lv_at hl 0 rfl) ?_
  refine gf1_9_0 (pc := 1) hx hb hts hown hK hR mw196 dX0_addKnot_1 ?_
  refine lv_aload_n (pc := 4) hx hb dX0_addKnot_4 rfl (lv_at hl 0 rfl) ?_
  refine gf1_9_9 (pc := 5) hx hb hts hown hK hR mw194 dX0_addKnot_5 ?_
  refine lv_iload_n (pc := 8) hx hb dX0_addKnot_8 rfl (lv_at hl 1 rfl) ?_
  have g_1 := h.1
  have h := h.2
  refine q_iast (pc := 9) hx hb hK hI hR (k := 29) lt1_29 (fun f => (ar1_29 _ f _)) g_1 dX0_addKnot_9 (fun H locs σ_2 eσ_2 hR => ?_)
  have h := h σ_2 eσ_2
  refine lv_aload_n (pc := 10) hx hb dX0_addKnot_10 rfl (lv_at hl 0 rfl) ?_
  refine gf1_9_4 (pc := 11) hx hb hts hown hK hR mw197 dX0_addKnot_11 ?_
  refine lv_aload_n (pc := 14) hx hb dX0_addKnot_14 rfl (lv_at hl 0 rfl) ?_
  refine gf1_9_9 (pc := 15) hx hb hts hown hK hR mw194 dX0_addKnot_15 ?_
  refine lv_iload_n (pc := 18) hx hb dX0_addKnot_18 rfl (lv_at hl 2 rfl) ?_
  have g_3 := h.1
  have h := h.2
  refine q_iast (pc := 19) hx hb hK hI hR (k := 33) lt1_33 (fun f => (ar1_33 _ f _)) g_3 dX0_addKnot_19 (fun H locs σ_4 eσ_4 hR => ?_)
  have h := h σ_4 eσ_4
  refine lv_aload_n (pc := 20) hx hb dX0_addKnot_20 rfl (lv_at hl 0 rfl) ?_
  refine gf1_9_1 (pc := 21) hx hb hts hown hK hR mw198 dX0_addKnot_21 ?_
  refine lv_aload_n (pc := 24) hx hb dX0_addKnot_24 rfl (lv_at hl 0 rfl) ?_
  refine gf1_9_9 (pc := 25) hx hb hts hown hK hR mw194 dX0_addKnot_25 ?_
  refine lv_iconst (pc := 28) (v := 0) hx hb dX0_addKnot_28 (by decide) ?_
  have g_5 := h.1
  have h := h.2
  refine q_zast (pc := 29) hx hb hK hI hR (k := 30) lt1_30 (fun f => (ar1_30 _ f _)) g_5 dX0_addKnot_29 (fun H locs σ_6 eσ_6 hR => ?_)
  have h := h σ_6 eσ_6
  refine lv_aload_n (pc := 30) hx hb dX0_addKnot_30 rfl (lv_at hl 0 rfl) ?_
  refine lv_dup (pc := 31) hx hb dX0_addKnot_31 rfl ?_
  refine gf1_9_9 (pc := 32) hx hb hts hown hK hR mw194 dX0_addKnot_32 ?_
  refine lv_iconst (pc := 35) (v := 1) hx hb dX0_addKnot_35 (by decide) ?_
  refine lv_iadd (pc := 36) hx hb dX0_addKnot_36 ?_
  refine lv_topi (pc := 37) (fun v_7 ev_7 => ?_)
  have h := h v_7 ev_7
  refine pf1_9_9 (pc := 37) hx hb hts hown hK hI hR mw194 dX0_addKnot_37 (fun H locs σ_8 eσ_8 hR => ?_)
  have h := h σ_8 eσ_8
  exact q_vret (pc := 40) E hR h dX0_addKnot_40
theorem cX0_addKnot_met (l : Launch) (w : Wd) (hI : Ij 223 w) (N : Nat) (x1 : Int32) (x2 : Int32) (Q : St → Prop) (σ : St) (h : fX0_addKnot N x1 x2 Q σ) : Met l yX0_addKnot (.code yX0_addKnot cX0_addKnot 3 none :: Uw) rmX0_addKnot (va_Pc [.ref (w.2.1 9), .int x1, .int x2] (fun U => Rp 223 ev1 w σ U ∧ (X1 w) U)) (va_Qv Q (Rp 223 ev1 w) (Aw 223 w)) 0 0 (Aw 223 w) :=
  q_met (by decide) (Nat.le_of_ble_eq_true rfl) hI (fun p e s m below meth c ls E hl hR => bX0_addKnot_e l w N Q E x1 x2 hR hl h)
-- GlulxStrings$BestTree.addLeaf(III)V
abbrev rmX0_addLeaf : Room := { frames := 1, cells := 0, slots := 0, locals := 22 }
def fX0_addLeaf (N : Nat) (x1 : Int32) (x2 : Int32) (x3 : Int32) (Q : St → Prop) (σ : St) : Prop := (((σ.1 9 9) < 61 → vp_in (σ.1 9 9) 121 ∧ ∀ σ_3 : St, σ_3 = u1 σ 34 (σ.1 9 9).toNatClampNeg x1 → fX0_addKnot N x2 x3 (fun σ_4 => ∀ v_5 : Int32, v_5 = σ_4.1 9 9 → ∀ σ_6 : St, σ_6 = u1 σ_4 9 10 v_5 → Q σ_6) σ_3) ∧ (¬ (σ.1 9 9) < 61 → Q σ))
set_option maxHeartbeats 4000000 in
set_option maxRecDepth 100000 in
theorem bX0_addLeaf_e {p : Program} {e : Env} {s : State} {m : MethodId} {args : Array Value} {below : List Frame} {meth : Method} {c : Code} (l : Launch) (w : Wd) (N : Nat) (Q : St → Prop) (E : Cx 223 w (X1 w) cX0_addLeaf 4 RX0 (.code yX0_addLeaf cX0_addLeaf 4 none) none p s m args meth c) (x1 : Int32) (x2 : Int32) (x3 : Int32) {σ : St} {H : Heap} {locs : List Loc} {ls : Array Slot} (hR : Rr 223 ev1 w σ s H locs) (hl : lv_has ls 4 [(0, .ref (w.2.1 9)), (1, .int x1), (2, .int x2), (3, .int x3)]) (h : fX0_addLeaf N x1 x2 x3 Q σ) : W p l e rmX0_addLeaf s m args below meth c H locs 0 0 (MQ below (va_Qv Q (Rp 223 ev1 w) (Aw 223 w)) args s 0 0 (Aw 223 w)) (F0 m 0 ls []) := by
  obtain ⟨hx, hb, hml, hown, hts, hr, hlk, hK, hI, hX⟩ := id E
  unfold fX0_addLeaf at h
  refine lv_aload_n (pc := 0) hx hb dX0_addLeaf_0 rfl (lv_at hl 0 rfl) ?_
  refine gf1_9_9 (pc := 1) hx hb hts hown hK hR mw194 dX0_addLeaf_1 ?_
  refine lv_bipush (pc := 4) (v := 61) hx hb dX0_addLeaf_4 (by decide) ?_
  refine lv_icmp_lt (pc := 6) (tgt := 10) hx hb dX0_addLeaf_6 (by decide) (fun c_1 => ?_) (fun c_1 => ?_)
  · have h := h.1 c_1
    refine lv_aload_n (pc := 10) hx hb dX0_addLeaf_10 rfl (lv_at hl 0 rfl) ?_
    refine gf1_9_5 (pc := 11) hx hb hts hown hK hR mw199 dX0_addLeaf_11 ?_
    refine lv_aload_n (pc := 14) hx hb dX0_addLeaf_14 rfl (lv_at hl 0 rfl) ?_
    refine gf1_9_9 (pc := 15) hx hb hts hown hK hR mw194 dX0_addLeaf_15 ?_
    refine lv_iload_n (pc := 18) hx hb dX0_addLeaf_18 rfl (lv_at hl 1 rfl) ?_
    have g_2 := h.1
    have h := h.2
    refine q_iast (pc := 19) hx hb hK hI hR (k := 34) lt1_34 (fun f => (ar1_34 _ f _)) g_2 dX0_addLeaf_19 (fun H locs σ_3 eσ_3 hR => ?_)
    have h := h σ_3 eσ_3
    refine lv_aload_n (pc := 20) hx hb dX0_addLeaf_20 rfl (lv_at hl 0 rfl) ?_
    refine lv_iload_n (pc := 21) hx hb dX0_addLeaf_21 rfl (lv_at hl 2 rfl) ?_
    refine lv_iload_n (pc := 22) hx hb dX0_addLeaf_22 rfl (lv_at hl 3 rfl) ?_
    refine q_cv (pc := 23) hR (q_rV E (xp1 w) (As := [.int x2, .int x3]) (rest := []) (cX0_addKnot_met l w hI N x2 x3 _ σ_3 h) ckX0_addKnot cvX0_addKnot mw200 ⟨rfl, rfl, Nat.le_of_ble_eq_true rfl, Nat.le_of_ble_eq_true rfl⟩ hR (rc1_9 w) rfl hl.1 rfl (Nat.le_of_ble_eq_true rfl) dX0_addLeaf_23) (fun σ_4 H locs h hR => ?_)
    refine lv_aload_n (pc := 26) hx hb dX0_addLeaf_26 rfl (lv_at hl 0 rfl) ?_
    refine lv_aload_n (pc := 27) hx hb dX0_addLeaf_27 rfl (lv_at hl 0 rfl) ?_
    refine gf1_9_9 (pc := 28) hx hb hts hown hK hR mw194 dX0_addLeaf_28 ?_
    refine lv_topi (pc := 31) (fun v_5 ev_5 => ?_)
    have h := h v_5 ev_5
    refine pf1_9_10 (pc := 31) hx hb hts hown hK hI hR mw195 dX0_addLeaf_31 (fun H locs σ_6 eσ_6 hR => ?_)
    have h := h σ_6 eσ_6
    exact q_vret (pc := 34) E hR h dX0_addLeaf_34
  · have h := h.2 c_1
    exact q_vret (pc := 9) E hR h dX0_addLeaf_9
theorem cX0_addLeaf_met (l : Launch) (w : Wd) (hI : Ij 223 w) (N : Nat) (x1 : Int32) (x2 : Int32) (x3 : Int32) (Q : St → Prop) (σ : St) (h : fX0_addLeaf N x1 x2 x3 Q σ) : Met l yX0_addLeaf (.code yX0_addLeaf cX0_addLeaf 4 none :: Uw) rmX0_addLeaf (va_Pc [.ref (w.2.1 9), .int x1, .int x2, .int x3] (fun U => Rp 223 ev1 w σ U ∧ (X1 w) U)) (va_Qv Q (Rp 223 ev1 w) (Aw 223 w)) 0 0 (Aw 223 w) :=
  q_met (by decide) (Nat.le_of_ble_eq_true rfl) hI (fun p e s m below meth c ls E hl hR => bX0_addLeaf_e l w N Q E x1 x2 x3 hR hl h)
-- GlulxStrings$Pieces.nodeSize(I)I
abbrev rmX7_nodeSize : Room := { frames := 0, cells := 0, slots := 0, locals := 0 }
def fX7_nodeSize_j62 (N : Nat) (Q : Int32 → St → Prop) (σ : St) : Prop := Q 5 σ
set_option maxHeartbeats 4000000 in
set_option maxRecDepth 100000 in
theorem bX7_nodeSize_62 {p : Program} {e : Env} {s : State} {m : MethodId} {args : Array Value} {below : List Frame} {meth : Method} {c : Code} (l : Launch) (w : Wd) (N : Nat) (Q : Int32 → St → Prop) (E : Cx 223 w (X1 w) cX7_nodeSize 2 RX7 (.code yX7_nodeSize cX7_nodeSize 2 (some .int)) (some .int) p s m args meth c) {σ : St} {H : Heap} {locs : List Loc} {ls : Array Slot} (hR : Rr 223 ev1 w σ s H locs) (hl : lv_has ls 2 []) (h : fX7_nodeSize_j62 N Q σ) : W p l e rmX7_nodeSize s m args below meth c H locs 0 0 (MQ below (va_Qi Q (Rp 223 ev1 w) (Aw 223 w)) args s 0 0 (Aw 223 w)) (F0 m 62 ls []) := by
  obtain ⟨hx, hb, hml, hown, hts, hr, hlk, hK, hI, hX⟩ := id E
  unfold fX7_nodeSize_j62 at h
  refine lv_iconst (pc := 62) (v := 5) hx hb dX7_nodeSize_62 (by decide) ?_
  exact q_iret (pc := 63) E hR h dX7_nodeSize_63
def fX7_nodeSize (N : Nat) (x1 : Int32) (Q : Int32 → St → Prop) (σ : St) : Prop := vp_in x1 60 ∧ ∀ v_2 : Int32, v_2 = σ.1 18 x1.toNatClampNeg → ((v_2 = 2 → Q 2 σ) ∧ (¬ v_2 = 2 → ((v_2 = 3 → vp_in x1 60 ∧ Q ((1 + (σ.1 21 x1.toNatClampNeg)) + 1) σ) ∧ (¬ v_2 = 3 → ((v_2 = 5 → vp_in x1 60 ∧ Q ((1 + (4 * (σ.1 21 x1.toNatClampNeg))) + 4) σ) ∧ (¬ v_2 = 5 → fX7_nodeSize_j62 N Q σ))))))
set_option maxHeartbeats 4000000 in
set_option maxRecDepth 100000 in
theorem bX7_nodeSize_e {p : Program} {e : Env} {s : State} {m : MethodId} {args : Array Value} {below : List Frame} {meth : Method} {c : Code} (l : Launch) (w : Wd) (N : Nat) (Q : Int32 → St → Prop) (E : Cx 223 w (X1 w) cX7_nodeSize 2 RX7 (.code yX7_nodeSize cX7_nodeSize 2 (some .int)) (some .int) p s m args meth c) (x1 : Int32) {σ : St} {H : Heap} {locs : List Loc} {ls : Array Slot} (hR : Rr 223 ev1 w σ s H locs) (hl : lv_has ls 2 [(0, .ref (w.2.1 6)), (1, .int x1)]) (h : fX7_nodeSize N x1 Q σ) : W p l e rmX7_nodeSize s m args below meth c H locs 0 0 (MQ below (va_Qi Q (Rp 223 ev1 w) (Aw 223 w)) args s 0 0 (Aw 223 w)) (F0 m 0 ls []) := by
  obtain ⟨hx, hb, hml, hown, hts, hr, hlk, hK, hI, hX⟩ := id E
  unfold fX7_nodeSize at h
  refine lv_aload_n (pc := 0) hx hb dX7_nodeSize_0 rfl (lv_at hl 0 rfl) ?_
  refine gf1_6_0 (pc := 1) hx hb hts hown hK hR mw161 dX7_nodeSize_1 ?_
  refine lv_iload_n (pc := 4) hx hb dX7_nodeSize_4 rfl (lv_at hl 1 rfl) ?_
  have g_1 := h.1
  have h := h.2
  refine q_iald (pc := 5) hx hb hK hR (k := 18) lt1_18 (ar1_18 _ _ _) g_1 dX7_nodeSize_5 ?_
  refine lv_topi (pc := 6) (fun v_2 ev_2 => ?_)
  have h := h v_2 ev_2
  by_cases c_3 : v_2 = 2
  · refine lv_tableIn (pc := 6) (tgt := 36) (off := 30) hx hb dX7_nodeSize_6 (by rw [c_3]; decide) (by rw [c_3]; decide) (by rw [c_3]; rfl) (by decide) ?_
    have h := h.1 c_3
    refine lv_iconst (pc := 36) (v := 2) hx hb dX7_nodeSize_36 (by decide) ?_
    exact q_iret (pc := 37) E hR h dX7_nodeSize_37
  replace h := h.2 c_3
  by_cases c_4 : v_2 = 3
  · refine lv_tableIn (pc := 6) (tgt := 38) (off := 32) hx hb dX7_nodeSize_6 (by rw [c_4]; decide) (by rw [c_4]; decide) (by rw [c_4]; rfl) (by decide) ?_
    have h := h.1 c_4
    refine lv_iconst (pc := 38) (v := 1) hx hb dX7_nodeSize_38 (by decide) ?_
    refine lv_aload_n (pc := 39) hx hb dX7_nodeSize_39 rfl (lv_at hl 0 rfl) ?_
    refine gf1_6_3 (pc := 40) hx hb hts hown hK hR mw162 dX7_nodeSize_40 ?_
    refine lv_iload_n (pc := 43) hx hb dX7_nodeSize_43 rfl (lv_at hl 1 rfl) ?_
    have g_5 := h.1
    have h := h.2
    refine q_iald (pc := 44) hx hb hK hR (k := 21) lt1_21 (ar1_21 _ _ _) g_5 dX7_nodeSize_44 ?_
    refine lv_iadd (pc := 45) hx hb dX7_nodeSize_45 ?_
    refine lv_iconst (pc := 46) (v := 1) hx hb dX7_nodeSize_46 (by decide) ?_
    refine lv_iadd (pc := 47) hx hb dX7_nodeSize_47 ?_
    exact q_iret (pc := 48) E hR h dX7_nodeSize_48
  replace h := h.2 c_4
  by_cases c_6 : v_2 = 5
  · refine lv_tableIn (pc := 6) (tgt := 49) (off := 43) hx hb dX7_nodeSize_6 (by rw [c_6]; decide) (by rw [c_6]; decide) (by rw [c_6]; rfl) (by decide) ?_
    have h := h.1 c_6
    refine lv_iconst (pc := 49) (v := 1) hx hb dX7_nodeSize_49 (by decide) ?_
    refine lv_iconst (pc := 50) (v := 4) hx hb dX7_nodeSize_50 (by decide) ?_
    refine lv_aload_n (pc := 51) hx hb dX7_nodeSize_51 rfl (lv_at hl 0 rfl) ?_
    refine gf1_6_3 (pc := 52) hx hb hts hown hK hR mw162 dX7_nodeSize_52 ?_
    refine lv_iload_n (pc := 55) hx hb dX7_nodeSize_55 rfl (lv_at hl 1 rfl) ?_
    have g_7 := h.1
    have h := h.2
    refine q_iald (pc := 56) hx hb hK hR (k := 21) lt1_21 (ar1_21 _ _ _) g_7 dX7_nodeSize_56 ?_
    refine lv_imul (pc := 57) hx hb dX7_nodeSize_57 ?_
    refine lv_iadd (pc := 58) hx hb dX7_nodeSize_58 ?_
    refine lv_iconst (pc := 59) (v := 4) hx hb dX7_nodeSize_59 (by decide) ?_
    refine lv_iadd (pc := 60) hx hb dX7_nodeSize_60 ?_
    exact q_iret (pc := 61) E hR h dX7_nodeSize_61
  replace h := h.2 c_6
  have hD : W p l e rmX7_nodeSize s m args below meth c H locs 0 0 (MQ below (va_Qi Q (Rp 223 ev1 w) (Aw 223 w)) args s 0 0 (Aw 223 w)) (F0 m 62 ls []) := by
    exact bX7_nodeSize_62 l w N Q E hR (lv_sub hl [] rfl) h
  by_cases c_8 : v_2 = 4
  · exact lv_tableIn (pc := 6) (tgt := 62) (off := 56) hx hb dX7_nodeSize_6 (by rw [c_8]; decide) (by rw [c_8]; decide) (by rw [c_8]; rfl) (by decide) hD
  have nc_3 := ne_i (n := 2) (by decide) c_3
  have nc_4 := ne_i (n := 3) (by decide) c_4
  have nc_6 := ne_i (n := 5) (by decide) c_6
  have nc_8 := ne_i (n := 4) (by decide) c_8
  exact lv_tableOut (pc := 6) (tgt := 62) hx hb dX7_nodeSize_6 (by omega) (by decide) hD
theorem cX7_nodeSize_met (l : Launch) (w : Wd) (hI : Ij 223 w) (N : Nat) (x1 : Int32) (Q : Int32 → St → Prop) (σ : St) (h : fX7_nodeSize N x1 Q σ) : Met l yX7_nodeSize (.code yX7_nodeSize cX7_nodeSize 2 (some .int) :: Uw) rmX7_nodeSize (va_Pc [.ref (w.2.1 6), .int x1] (fun U => Rp 223 ev1 w σ U ∧ (X1 w) U)) (va_Qi Q (Rp 223 ev1 w) (Aw 223 w)) 0 0 (Aw 223 w) :=
  q_met (by decide) (Nat.le_of_ble_eq_true rfl) hI (fun p e s m below meth c ls E hl hR => bX7_nodeSize_e l w N Q E x1 hR hl h)
