-- GlulxStrings$Table.find(I)V
abbrev rmX8_find : Room := { frames := 3, cells := 0, slots := 0, locals := 65 }
def fX8_find (N : Nat) (x1 : Int32) (Q : St → Prop) (σ : St) : Prop := ((x1 < (σ.1 2 5) → Q σ) ∧ (¬ x1 < (σ.1 2 5) → (((σ.1 2 6) ≤ x1 → Q σ) ∧ (¬ (σ.1 2 6) ≤ x1 → fX3_has N x1 (fun r_4 σ_3 => ((r_4 = 0 → Q σ_3) ∧ (¬ r_4 = 0 → vp_in x1 4096 ∧ (((σ_3.1 13 x1.toNatClampNeg) = (σ_3.1 2 3) → Q σ_3) ∧ (¬ (σ_3.1 13 x1.toNatClampNeg) = (σ_3.1 2 3) → ∀ v_8 : Int32, v_8 = σ_3.1 2 3 → vp_in x1 4096 ∧ ∀ σ_10 : St, σ_10 = u1 σ_3 13 x1.toNatClampNeg v_8 → fX8_isWhole N x1 (fun r_12 σ_11 => ((r_12 = 0 → Q σ_11) ∧ (¬ r_12 = 0 → ((4096 ≤ (σ_11.1 2 4) → Q σ_11) ∧ (¬ 4096 ≤ (σ_11.1 2 4) → vp_in (σ_11.1 2 4) 4096 ∧ ∀ σ_16 : St, σ_16 = u1 σ_11 14 (σ_11.1 2 4).toNatClampNeg x1 → ∀ v_17 : Int32, v_17 = (σ_16.1 2 4) + 1 → ∀ σ_18 : St, σ_18 = u1 σ_16 2 4 v_17 → Q σ_18))))) σ_10))))) σ))))
set_option maxHeartbeats 4000000 in
set_option maxRecDepth 100000 in
theorem bX8_find_e {p : Program} {e : Env} {s : State} {m : MethodId} {args : Array Value} {below : List Frame} {meth : Method} {c : Code} (l : Launch) (w : Wd) (N : Nat) (Q : St → Prop) (E : Cx 223 w (X1 w) cX8_find 2 RX8 (.code yX8_find cX8_find 2 none) none p s m args meth c) (x1 : Int32) {σ : St} {H : Heap} {locs : List Loc} {ls : Array Slot} (hR : Rr 223 ev1 w σ s H locs) (hl : lv_has ls 2 [(0, .ref (w.2.1 2)), (1, .int x1)]) (h : fX8_find N x1 Q σ) : W p l e rmX8_find s m args below meth c H locs 0 0 (MQ below (va_Qv Q (Rp 223 ev1 w) (Aw 223 w)) args s 0 0 (Aw 223 w)) (F0 m 0 ls []) := by
  obtain ⟨hx, hb, hml, hown, hts, hr, hlk, hK, hI, hX⟩ := id E
  unfold fX8_find at h
  refine lv_iload_n (pc := 0) hx hb dX8_find_0 rfl (lv_at hl 1 rfl) ?_
  refine lv_aload_n (pc := 1) hx hb dX8_find_1 rfl (lv_at hl 0 rfl) ?_
  refine gf1_2_5 (pc := 2) hx hb hts hown hK hR mw2 dX8_find_2 ?_
  refine lv_icmp_lt (pc := 5) (tgt := 40) hx hb dX8_find_5 (by decide) (fun c_1 => ?_) (fun c_1 => ?_)
  · have h := h.1 c_1
    exact q_vret (pc := 40) E hR h dX8_find_40
  · have h := h.2 c_1
    refine lv_iload_n (pc := 8) hx hb dX8_find_8 rfl (lv_at hl 1 rfl) ?_
    refine lv_aload_n (pc := 9) hx hb dX8_find_9 rfl (lv_at hl 0 rfl) ?_
    refine gf1_2_6 (pc := 10) hx hb hts hown hK hR mw3 dX8_find_10 ?_
    refine lv_icmp_ge (pc := 13) (tgt := 40) hx hb dX8_find_13 (by decide) (fun c_2 => ?_) (fun c_2 => ?_)
    · have h := h.1 c_2
      exact q_vret (pc := 40) E hR h dX8_find_40
    · have h := h.2 c_2
      refine lv_aload_n (pc := 16) hx hb dX8_find_16 rfl (lv_at hl 0 rfl) ?_
      refine gf1_2_0 (pc := 17) hx hb hts hown hK hR mw17 dX8_find_17 ?_
      refine lv_iload_n (pc := 20) hx hb dX8_find_20 rfl (lv_at hl 1 rfl) ?_
      refine q_ci (pc := 21) hR (q_rV E (xp1 w) (As := [.int x1]) (rest := []) (cX3_has_met l w hI N x1 _ σ h) ckX3_has cvX3_has mw24 ⟨rfl, rfl, Nat.le_of_ble_eq_true rfl, Nat.le_of_ble_eq_true rfl⟩ hR (rc1_1 w) rfl hl.1 rfl (Nat.le_of_ble_eq_true rfl) dX8_find_21) (fun r_4 σ_3 H locs h hR => ?_)
      refine lv_if_eq (pc := 24) (tgt := 40) hx hb dX8_find_24 (by decide) (fun c_5 => ?_) (fun c_5 => ?_)
      · have h := h.1 c_5
        exact q_vret (pc := 40) E hR h dX8_find_40
      · have h := h.2 c_5
        refine lv_aload_n (pc := 27) hx hb dX8_find_27 rfl (lv_at hl 0 rfl) ?_
        refine gf1_2_1 (pc := 28) hx hb hts hown hK hR mw25 dX8_find_28 ?_
        refine lv_iload_n (pc := 31) hx hb dX8_find_31 rfl (lv_at hl 1 rfl) ?_
        have g_6 := h.1
        have h := h.2
        refine q_iald (pc := 32) hx hb hK hR (k := 13) lt1_13 (ar1_13 _ _ _) g_6 dX8_find_32 ?_
        refine lv_aload_n (pc := 33) hx hb dX8_find_33 rfl (lv_at hl 0 rfl) ?_
        refine gf1_2_3 (pc := 34) hx hb hts hown hK hR mw26 dX8_find_34 ?_
        refine lv_icmp_ne (pc := 37) (tgt := 41) hx hb dX8_find_37 (by decide) (fun c_7 => ?_) (fun c_7 => ?_)
        · have h := h.2 c_7
          refine lv_aload_n (pc := 41) hx hb dX8_find_41 rfl (lv_at hl 0 rfl) ?_
          refine gf1_2_1 (pc := 42) hx hb hts hown hK hR mw25 dX8_find_42 ?_
          refine lv_iload_n (pc := 45) hx hb dX8_find_45 rfl (lv_at hl 1 rfl) ?_
          refine lv_aload_n (pc := 46) hx hb dX8_find_46 rfl (lv_at hl 0 rfl) ?_
          refine gf1_2_3 (pc := 47) hx hb hts hown hK hR mw26 dX8_find_47 ?_
          refine lv_topi (pc := 50) (fun v_8 ev_8 => ?_)
          have h := h v_8 ev_8
          have g_9 := h.1
          have h := h.2
          refine q_iast (pc := 50) hx hb hK hI hR (k := 13) lt1_13 (fun f => (ar1_13 _ f _)) g_9 dX8_find_50 (fun H locs σ_10 eσ_10 hR => ?_)
          have h := h σ_10 eσ_10
          refine lv_aload_n (pc := 51) hx hb dX8_find_51 rfl (lv_at hl 0 rfl) ?_
          refine lv_iload_n (pc := 52) hx hb dX8_find_52 rfl (lv_at hl 1 rfl) ?_
          refine q_ci (pc := 53) hR (q_rV E (xp1 w) (As := [.int x1]) (rest := []) (cX8_isWhole_met l w hI N x1 _ σ_10 h) ckX8_isWhole cvX8_isWhole mw27 ⟨rfl, rfl, Nat.le_of_ble_eq_true rfl, Nat.le_of_ble_eq_true rfl⟩ hR (rc1_2 w) rfl hl.1 rfl (Nat.le_of_ble_eq_true rfl) dX8_find_53) (fun r_12 σ_11 H locs h hR => ?_)
          refine lv_if_eq (pc := 56) (tgt := 89) hx hb dX8_find_56 (by decide) (fun c_13 => ?_) (fun c_13 => ?_)
          · have h := h.1 c_13
            exact q_vret (pc := 89) E hR h dX8_find_89
          · have h := h.2 c_13
            refine lv_aload_n (pc := 59) hx hb dX8_find_59 rfl (lv_at hl 0 rfl) ?_
            refine gf1_2_4 (pc := 60) hx hb hts hown hK hR mw28 dX8_find_60 ?_
            refine lv_sipush (pc := 63) (v := 4096) hx hb dX8_find_63 (by decide) ?_
            refine lv_icmp_ge (pc := 66) (tgt := 89) hx hb dX8_find_66 (by decide) (fun c_14 => ?_) (fun c_14 => ?_)
            · have h := h.1 c_14
              exact q_vret (pc := 89) E hR h dX8_find_89
            · have h := h.2 c_14
              refine lv_aload_n (pc := 69) hx hb dX8_find_69 rfl (lv_at hl 0 rfl) ?_
              refine gf1_2_2 (pc := 70) hx hb hts hown hK hR mw29 dX8_find_70 ?_
              refine lv_aload_n (pc := 73) hx hb dX8_find_73 rfl (lv_at hl 0 rfl) ?_
              refine gf1_2_4 (pc := 74) hx hb hts hown hK hR mw28 dX8_find_74 ?_
              refine lv_iload_n (pc := 77) hx hb dX8_find_77 rfl (lv_at hl 1 rfl) ?_
              have g_15 := h.1
              have h := h.2
              refine q_iast (pc := 78) hx hb hK hI hR (k := 14) lt1_14 (fun f => (ar1_14 _ f _)) g_15 dX8_find_78 (fun H locs σ_16 eσ_16 hR => ?_)
              have h := h σ_16 eσ_16
              refine lv_aload_n (pc := 79) hx hb dX8_find_79 rfl (lv_at hl 0 rfl) ?_
              refine lv_dup (pc := 80) hx hb dX8_find_80 rfl ?_
              refine gf1_2_4 (pc := 81) hx hb hts hown hK hR mw28 dX8_find_81 ?_
              refine lv_iconst (pc := 84) (v := 1) hx hb dX8_find_84 (by decide) ?_
              refine lv_iadd (pc := 85) hx hb dX8_find_85 ?_
              refine lv_topi (pc := 86) (fun v_17 ev_17 => ?_)
              have h := h v_17 ev_17
              refine pf1_2_4 (pc := 86) hx hb hts hown hK hI hR mw28 dX8_find_86 (fun H locs σ_18 eσ_18 hR => ?_)
              have h := h σ_18 eσ_18
              exact q_vret (pc := 89) E hR h dX8_find_89
        · have h := h.1 c_7
          exact q_vret (pc := 40) E hR h dX8_find_40
theorem cX8_find_met (l : Launch) (w : Wd) (hI : Ij 223 w) (N : Nat) (x1 : Int32) (Q : St → Prop) (σ : St) (h : fX8_find N x1 Q σ) : Met l yX8_find (.code yX8_find cX8_find 2 none :: Uw) rmX8_find (va_Pc [.ref (w.2.1 2), .int x1] (fun U => Rp 223 ev1 w σ U ∧ (X1 w) U)) (va_Qv Q (Rp 223 ev1 w) (Aw 223 w)) 0 0 (Aw 223 w) :=
  q_met (by decide) (Nat.le_of_ble_eq_true rfl) hI (fun p e s m below meth c ls E hl hR => bX8_find_e l w N Q E x1 hR hl h)
-- GlulxStrings$Table.countNodes()I
abbrev rmX8_countNodes : Room := { frames := 4, cells := 0, slots := 0, locals := 86 }
def fX8_countNodes_j102 (N : Nat) (Q : Int32 → St → Prop) (σ : St) : Prop := Q (σ.1 2 4) σ
set_option maxHeartbeats 4000000 in
set_option maxRecDepth 100000 in
theorem bX8_countNodes_102 {p : Program} {e : Env} {s : State} {m : MethodId} {args : Array Value} {below : List Frame} {meth : Method} {c : Code} (l : Launch) (w : Wd) (N : Nat) (Q : Int32 → St → Prop) (E : Cx 223 w (X1 w) cX8_countNodes 3 RX8 (.code yX8_countNodes cX8_countNodes 3 (some .int)) (some .int) p s m args meth c) {σ : St} {H : Heap} {locs : List Loc} {ls : Array Slot} (hR : Rr 223 ev1 w σ s H locs) (hl : lv_has ls 3 [(0, .ref (w.2.1 2))]) (h : fX8_countNodes_j102 N Q σ) : W p l e rmX8_countNodes s m args below meth c H locs 0 0 (MQ below (va_Qi Q (Rp 223 ev1 w) (Aw 223 w)) args s 0 0 (Aw 223 w)) (F0 m 102 ls []) := by
  obtain ⟨hx, hb, hml, hown, hts, hr, hlk, hK, hI, hX⟩ := id E
  unfold fX8_countNodes_j102 at h
  refine lv_aload_n (pc := 102) hx hb dX8_countNodes_102 rfl (lv_at hl 0 rfl) ?_
  refine gf1_2_4 (pc := 103) hx hb hts hown hK hR mw28 dX8_countNodes_103 ?_
  exact q_iret (pc := 106) E hR h dX8_countNodes_106
def fX8_countNodes_j96 (N : Nat) (r35 : Int32 → St → Prop) (x1 : Int32) (Q : Int32 → St → Prop) (σ : St) : Prop := ∀ v_14 : Int32, v_14 = x1 + 1 → r35 v_14 σ
set_option maxHeartbeats 4000000 in
set_option maxRecDepth 100000 in
theorem bX8_countNodes_96 {p : Program} {e : Env} {s : State} {m : MethodId} {args : Array Value} {below : List Frame} {meth : Method} {c : Code} (l : Launch) (w : Wd) (N : Nat) (Q : Int32 → St → Prop) (E : Cx 223 w (X1 w) cX8_countNodes 3 RX8 (.code yX8_countNodes cX8_countNodes 3 (some .int)) (some .int) p s m args meth c) (x1 : Int32) (r35 : Int32 → St → Prop) (hr35 : ∀ (x1 : Int32) (σ : St) (H : Heap) (locs : List Loc) (ls : Array Slot), Rr 223 ev1 w σ s H locs → lv_has ls 3 [(0, .ref (w.2.1 2)), (1, .int x1)] → r35 x1 σ → W p l e rmX8_countNodes s m args below meth c H locs 0 0 (MQ below (va_Qi Q (Rp 223 ev1 w) (Aw 223 w)) args s 0 0 (Aw 223 w)) (F0 m 35 ls [])) {σ : St} {H : Heap} {locs : List Loc} {ls : Array Slot} (hR : Rr 223 ev1 w σ s H locs) (hl : lv_has ls 3 [(0, .ref (w.2.1 2)), (1, .int x1)]) (h : fX8_countNodes_j96 N r35 x1 Q σ) : W p l e rmX8_countNodes s m args below meth c H locs 0 0 (MQ below (va_Qi Q (Rp 223 ev1 w) (Aw 223 w)) args s 0 0 (Aw 223 w)) (F0 m 96 ls []) := by
  obtain ⟨hx, hb, hml, hown, hts, hr, hlk, hK, hI, hX⟩ := id E
  unfold fX8_countNodes_j96 at h
  obtain ⟨v_14, ev_14⟩ : ∃ z : Int32, z = x1 + 1 := ⟨_, rfl⟩
  have h := h v_14 ev_14
  refine lv_iinc (pc := 96) (v := v_14) (lv' := [(1, .int v_14), (0, .ref (w.2.1 2))]) hx hb dX8_countNodes_96 hl (k := 1) rfl (by rw [ev_14]; rfl) (by decide) rfl (fun ls hl => ?_)
  refine lv_goto (pc := 99) (tgt := 35) hx hb dX8_countNodes_99 (by decide) ?_
  exact hr35 v_14 σ _ _ _ hR (lv_sub hl [1, 0] rfl) h
def fX8_countNodes_l35 (N : Nat) (Q : Int32 → St → Prop) (r35 : Int32 → St → Prop) (x1 : Int32) (σ : St) : Prop := (((σ.1 2 4) ≤ x1 → fX8_countNodes_j102 N Q σ) ∧ (¬ (σ.1 2 4) ≤ x1 → ((4096 ≤ x1 → fX8_countNodes_j102 N Q σ) ∧ (¬ 4096 ≤ x1 → vp_in x1 4096 ∧ ∀ v_10 : Int32, v_10 = σ.1 14 x1.toNatClampNeg → fX3_byteOf N v_10 (fun r_12 σ_11 => ((r_12 = 0 → fX3_fourOf N (v_10 + 1) (fun r_15 σ_14 => fX8_find N r_15 (fun σ_16 => fX3_fourOf N (v_10 + 5) (fun r_18 σ_17 => fX8_find N r_18 (fun σ_19 => fX8_countNodes_j96 N r35 x1 Q σ_19) σ_17) σ_16) σ_14) σ_11) ∧ (¬ r_12 = 0 → fX8_countNodes_j96 N r35 x1 Q σ_11))) σ))))
set_option maxHeartbeats 4000000 in
set_option maxRecDepth 100000 in
theorem bX8_countNodes_35 {p : Program} {e : Env} {s : State} {m : MethodId} {args : Array Value} {below : List Frame} {meth : Method} {c : Code} (l : Launch) (w : Wd) (N : Nat) (Q : Int32 → St → Prop) (E : Cx 223 w (X1 w) cX8_countNodes 3 RX8 (.code yX8_countNodes cX8_countNodes 3 (some .int)) (some .int) p s m args meth c) : ∀ (n : Nat) (x1 : Int32) (σ : St) (H : Heap) (locs : List Loc) (ls : Array Slot), Rr 223 ev1 w σ s H locs → lv_has ls 3 [(0, .ref (w.2.1 2)), (1, .int x1)] → lo1 (fX8_countNodes_l35 N Q) n x1 σ → W p l e rmX8_countNodes s m args below meth c H locs 0 0 (MQ below (va_Qi Q (Rp 223 ev1 w) (Aw 223 w)) args s 0 0 (Aw 223 w)) (F0 m 35 ls []) := by
  obtain ⟨hx, hb, hml, hown, hts, hr, hlk, hK, hI, hX⟩ := id E
  intro n
  induction n with
  | zero => intro x1 σ H locs ls hR hl h; exact h.elim
  | succ n ih =>
    intro x1 σ H locs ls hR hl h
    have h : fX8_countNodes_l35 N Q (lo1 (fX8_countNodes_l35 N Q) n) x1 σ := h
    unfold fX8_countNodes_l35 at h
    refine lv_iload_n (pc := 35) hx hb dX8_countNodes_35 rfl (lv_at hl 1 rfl) ?_
    refine lv_aload_n (pc := 36) hx hb dX8_countNodes_36 rfl (lv_at hl 0 rfl) ?_
    refine gf1_2_4 (pc := 37) hx hb hts hown hK hR mw28 dX8_countNodes_37 ?_
    refine lv_icmp_ge (pc := 40) (tgt := 102) hx hb dX8_countNodes_40 (by decide) (fun c_7 => ?_) (fun c_7 => ?_)
    · have h := h.1 c_7
      exact bX8_countNodes_102 l w N Q E hR (lv_sub hl [0] rfl) h
    · have h := h.2 c_7
      refine lv_iload_n (pc := 43) hx hb dX8_countNodes_43 rfl (lv_at hl 1 rfl) ?_
      refine lv_sipush (pc := 44) (v := 4096) hx hb dX8_countNodes_44 (by decide) ?_
      refine lv_icmp_ge (pc := 47) (tgt := 102) hx hb dX8_countNodes_47 (by decide) (fun c_8 => ?_) (fun c_8 => ?_)
      · have h := h.1 c_8
        exact bX8_countNodes_102 l w N Q E hR (lv_sub hl [0] rfl) h
      · have h := h.2 c_8
        refine lv_aload_n (pc := 50) hx hb dX8_countNodes_50 rfl (lv_at hl 0 rfl) ?_
        refine gf1_2_2 (pc := 51) hx hb hts hown hK hR mw29 dX8_countNodes_51 ?_
        refine lv_iload_n (pc := 54) hx hb dX8_countNodes_54 rfl (lv_at hl 1 rfl) ?_
        have g_9 := h.1
        have h := h.2
        refine q_iald (pc := 55) hx hb hK hR (k := 14) lt1_14 (ar1_14 _ _ _) g_9 dX8_countNodes_55 ?_
        refine lv_topi (pc := 56) (fun v_10 ev_10 => ?_)
        have h := h v_10 ev_10
        refine lv_istore_n (pc := 56) (lv' := [(2, .int v_10), (0, .ref (w.2.1 2)), (1, .int x1)]) hx hb dX8_countNodes_56 rfl hl (by decide) rfl (fun ls hl => ?_)
        refine lv_aload_n (pc := 57) hx hb dX8_countNodes_57 rfl (lv_at hl 1 rfl) ?_
        refine gf1_2_0 (pc := 58) hx hb hts hown hK hR mw17 dX8_countNodes_58 ?_
        refine lv_iload_n (pc := 61) hx hb dX8_countNodes_61 rfl (lv_at hl 0 rfl) ?_
        refine q_ci (pc := 62) hR (q_rV E (xp1 w) (As := [.int v_10]) (rest := []) (cX3_byteOf_met l w hI N v_10 _ σ h) ckX3_byteOf cvX3_byteOf mw20 ⟨rfl, rfl, Nat.le_of_ble_eq_true rfl, Nat.le_of_ble_eq_true rfl⟩ hR (rc1_1 w) rfl hl.1 rfl (Nat.le_of_ble_eq_true rfl) dX8_countNodes_62) (fun r_12 σ_11 H locs h hR => ?_)
        refine lv_if_ne (pc := 65) (tgt := 96) hx hb dX8_countNodes_65 (by decide) (fun c_13 => ?_) (fun c_13 => ?_)
        · have h := h.2 c_13
          exact bX8_countNodes_96 l w N Q E x1 _ ih hR (lv_sub hl [1, 2] rfl) h
        · have h := h.1 c_13
          refine lv_aload_n (pc := 68) hx hb dX8_countNodes_68 rfl (lv_at hl 1 rfl) ?_
          refine lv_aload_n (pc := 69) hx hb dX8_countNodes_69 rfl (lv_at hl 1 rfl) ?_
          refine gf1_2_0 (pc := 70) hx hb hts hown hK hR mw17 dX8_countNodes_70 ?_
          refine lv_iload_n (pc := 73) hx hb dX8_countNodes_73 rfl (lv_at hl 0 rfl) ?_
          refine lv_iconst (pc := 74) (v := 1) hx hb dX8_countNodes_74 (by decide) ?_
          refine lv_iadd (pc := 75) hx hb dX8_countNodes_75 ?_
          refine q_ci (pc := 76) hR (q_rV E (xp1 w) (As := [.int (v_10 + 1)]) (rest := [.ref (w.2.1 2)]) (cX3_fourOf_met l w hI N (v_10 + 1) _ σ_11 h) ckX3_fourOf cvX3_fourOf mw19 ⟨rfl, rfl, Nat.le_of_ble_eq_true rfl, Nat.le_of_ble_eq_true rfl⟩ hR (rc1_1 w) rfl hl.1 rfl (Nat.le_of_ble_eq_true rfl) dX8_countNodes_76) (fun r_15 σ_14 H locs h hR => ?_)
          refine q_cv (pc := 79) hR (q_rV E (xp1 w) (As := [.int r_15]) (rest := []) (cX8_find_met l w hI N r_15 _ σ_14 h) ckX8_find cvX8_find mw30 ⟨rfl, rfl, Nat.le_of_ble_eq_true rfl, Nat.le_of_ble_eq_true rfl⟩ hR (rc1_2 w) rfl hl.1 rfl (Nat.le_of_ble_eq_true rfl) dX8_countNodes_79) (fun σ_16 H locs h hR => ?_)
          refine lv_aload_n (pc := 82) hx hb dX8_countNodes_82 rfl (lv_at hl 1 rfl) ?_
          refine lv_aload_n (pc := 83) hx hb dX8_countNodes_83 rfl (lv_at hl 1 rfl) ?_
          refine gf1_2_0 (pc := 84) hx hb hts hown hK hR mw17 dX8_countNodes_84 ?_
          refine lv_iload_n (pc := 87) hx hb dX8_countNodes_87 rfl (lv_at hl 0 rfl) ?_
          refine lv_iconst (pc := 88) (v := 5) hx hb dX8_countNodes_88 (by decide) ?_
          refine lv_iadd (pc := 89) hx hb dX8_countNodes_89 ?_
          refine q_ci (pc := 90) hR (q_rV E (xp1 w) (As := [.int (v_10 + 5)]) (rest := [.ref (w.2.1 2)]) (cX3_fourOf_met l w hI N (v_10 + 5) _ σ_16 h) ckX3_fourOf cvX3_fourOf mw19 ⟨rfl, rfl, Nat.le_of_ble_eq_true rfl, Nat.le_of_ble_eq_true rfl⟩ hR (rc1_1 w) rfl hl.1 rfl (Nat.le_of_ble_eq_true rfl) dX8_countNodes_90) (fun r_18 σ_17 H locs h hR => ?_)
          refine q_cv (pc := 93) hR (q_rV E (xp1 w) (As := [.int r_18]) (rest := []) (cX8_find_met l w hI N r_18 _ σ_17 h) ckX8_find cvX8_find mw30 ⟨rfl, rfl, Nat.le_of_ble_eq_true rfl, Nat.le_of_ble_eq_true rfl⟩ hR (rc1_2 w) rfl hl.1 rfl (Nat.le_of_ble_eq_true rfl) dX8_countNodes_93) (fun σ_19 H locs h hR => ?_)
          exact bX8_countNodes_96 l w N Q E x1 _ ih hR (lv_sub hl [1, 2] rfl) h
def fX8_countNodes (N : Nat) (Q : Int32 → St → Prop) (σ : St) : Prop := ∀ v_1 : Int32, v_1 = (σ.1 2 3) + 1 → ∀ σ_2 : St, σ_2 = u1 σ 2 3 v_1 → ∀ σ_3 : St, σ_3 = u1 σ_2 2 4 0 → fX3_fourOf N ((σ_3.1 2 5) + 8) (fun r_5 σ_4 => fX8_find N r_5 (fun σ_6 => lo1 (fX8_countNodes_l35 N Q) N 0 σ_6) σ_4) σ_3
set_option maxHeartbeats 4000000 in
set_option maxRecDepth 100000 in
theorem bX8_countNodes_e {p : Program} {e : Env} {s : State} {m : MethodId} {args : Array Value} {below : List Frame} {meth : Method} {c : Code} (l : Launch) (w : Wd) (N : Nat) (Q : Int32 → St → Prop) (E : Cx 223 w (X1 w) cX8_countNodes 3 RX8 (.code yX8_countNodes cX8_countNodes 3 (some .int)) (some .int) p s m args meth c) {σ : St} {H : Heap} {locs : List Loc} {ls : Array Slot} (hR : Rr 223 ev1 w σ s H locs) (hl : lv_has ls 3 [(0, .ref (w.2.1 2))]) (h : fX8_countNodes N Q σ) : W p l e rmX8_countNodes s m args below meth c H locs 0 0 (MQ below (va_Qi Q (Rp 223 ev1 w) (Aw 223 w)) args s 0 0 (Aw 223 w)) (F0 m 0 ls []) := by
  obtain ⟨hx, hb, hml, hown, hts, hr, hlk, hK, hI, hX⟩ := id E
  unfold fX8_countNodes at h
  refine lv_aload_n (pc := 0) hx hb dX8_countNodes_0 rfl (lv_at hl 0 rfl) ?_
  refine lv_dup (pc := 1) hx hb dX8_countNodes_1 rfl ?_
  refine gf1_2_3 (pc := 2) hx hb hts hown hK hR mw26 dX8_countNodes_2 ?_
  refine lv_iconst (pc := 5) (v := 1) hx hb dX8_countNodes_5 (by decide) ?_
  refine lv_iadd (pc := 6) hx hb dX8_countNodes_6 ?_
  refine lv_topi (pc := 7) (fun v_1 ev_1 => ?_)
  have h := h v_1 ev_1
  refine pf1_2_3 (pc := 7) hx hb hts hown hK hI hR mw26 dX8_countNodes_7 (fun H locs σ_2 eσ_2 hR => ?_)
  have h := h σ_2 eσ_2
  refine lv_aload_n (pc := 10) hx hb dX8_countNodes_10 rfl (lv_at hl 0 rfl) ?_
  refine lv_iconst (pc := 11) (v := 0) hx hb dX8_countNodes_11 (by decide) ?_
  refine pf1_2_4 (pc := 12) hx hb hts hown hK hI hR mw28 dX8_countNodes_12 (fun H locs σ_3 eσ_3 hR => ?_)
  have h := h σ_3 eσ_3
  refine lv_aload_n (pc := 15) hx hb dX8_countNodes_15 rfl (lv_at hl 0 rfl) ?_
  refine lv_aload_n (pc := 16) hx hb dX8_countNodes_16 rfl (lv_at hl 0 rfl) ?_
  refine gf1_2_0 (pc := 17) hx hb hts hown hK hR mw17 dX8_countNodes_17 ?_
  refine lv_aload_n (pc := 20) hx hb dX8_countNodes_20 rfl (lv_at hl 0 rfl) ?_
  refine gf1_2_5 (pc := 21) hx hb hts hown hK hR mw2 dX8_countNodes_21 ?_
  refine lv_bipush (pc := 24) (v := 8) hx hb dX8_countNodes_24 (by decide) ?_
  refine lv_iadd (pc := 26) hx hb dX8_countNodes_26 ?_
  refine q_ci (pc := 27) hR (q_rV E (xp1 w) (As := [.int ((σ_3.1 2 5) + 8)]) (rest := [.ref (w.2.1 2)]) (cX3_fourOf_met l w hI N ((σ_3.1 2 5) + 8) _ σ_3 h) ckX3_fourOf cvX3_fourOf mw19 ⟨rfl, rfl, Nat.le_of_ble_eq_true rfl, Nat.le_of_ble_eq_true rfl⟩ hR (rc1_1 w) rfl hl.1 rfl (Nat.le_of_ble_eq_true rfl) dX8_countNodes_27) (fun r_5 σ_4 H locs h hR => ?_)
  refine q_cv (pc := 30) hR (q_rV E (xp1 w) (As := [.int r_5]) (rest := []) (cX8_find_met l w hI N r_5 _ σ_4 h) ckX8_find cvX8_find mw30 ⟨rfl, rfl, Nat.le_of_ble_eq_true rfl, Nat.le_of_ble_eq_true rfl⟩ hR (rc1_2 w) rfl hl.1 rfl (Nat.le_of_ble_eq_true rfl) dX8_countNodes_30) (fun σ_6 H locs h hR => ?_)
  refine lv_iconst (pc := 33) (v := 0) hx hb dX8_countNodes_33 (by decide) ?_
  refine lv_istore_n (pc := 34) (lv' := [(1, .int 0), (0, .ref (w.2.1 2))]) hx hb dX8_countNodes_34 rfl hl (by decide) rfl (fun ls hl => ?_)
  exact bX8_countNodes_35 l w N Q E N 0 σ_6 _ _ _ hR (lv_sub hl [1, 0] rfl) h
theorem cX8_countNodes_met (l : Launch) (w : Wd) (hI : Ij 223 w) (N : Nat) (Q : Int32 → St → Prop) (σ : St) (h : fX8_countNodes N Q σ) : Met l yX8_countNodes (.code yX8_countNodes cX8_countNodes 3 (some .int) :: Uw) rmX8_countNodes (va_Pc [.ref (w.2.1 2)] (fun U => Rp 223 ev1 w σ U ∧ (X1 w) U)) (va_Qi Q (Rp 223 ev1 w) (Aw 223 w)) 0 0 (Aw 223 w) :=
  q_met (by decide) (Nat.le_of_ble_eq_true rfl) hI (fun p e s m below meth c ls E hl hR => bX8_countNodes_e l w N Q E hR hl h)
-- GlulxStrings$Table.cachedNodes()I
abbrev rmX8_cachedNodes : Room := { frames := 5, cells := 0, slots := 0, locals := 108 }
def fX8_cachedNodes_j16 (N : Nat) (Q : Int32 → St → Prop) (σ : St) : Prop := Q (σ.1 2 7) σ
set_option maxHeartbeats 4000000 in
set_option maxRecDepth 100000 in
theorem bX8_cachedNodes_16 {p : Program} {e : Env} {s : State} {m : MethodId} {args : Array Value} {below : List Frame} {meth : Method} {c : Code} (l : Launch) (w : Wd) (N : Nat) (Q : Int32 → St → Prop) (E : Cx 223 w (X1 w) cX8_cachedNodes 1 RX8 (.code yX8_cachedNodes cX8_cachedNodes 1 (some .int)) (some .int) p s m args meth c) {σ : St} {H : Heap} {locs : List Loc} {ls : Array Slot} (hR : Rr 223 ev1 w σ s H locs) (hl : lv_has ls 1 [(0, .ref (w.2.1 2))]) (h : fX8_cachedNodes_j16 N Q σ) : W p l e rmX8_cachedNodes s m args below meth c H locs 0 0 (MQ below (va_Qi Q (Rp 223 ev1 w) (Aw 223 w)) args s 0 0 (Aw 223 w)) (F0 m 16 ls []) := by
  obtain ⟨hx, hb, hml, hown, hts, hr, hlk, hK, hI, hX⟩ := id E
  unfold fX8_cachedNodes_j16 at h
  refine lv_aload_n (pc := 16) hx hb dX8_cachedNodes_16 rfl (lv_at hl 0 rfl) ?_
  refine gf1_2_7 (pc := 17) hx hb hts hown hK hR mw4 dX8_cachedNodes_17 ?_
  exact q_iret (pc := 20) E hR h dX8_cachedNodes_20
def fX8_cachedNodes (N : Nat) (Q : Int32 → St → Prop) (σ : St) : Prop := (((σ.1 2 7) = (-1) → fX8_countNodes N (fun r_3 σ_2 => ∀ σ_4 : St, σ_4 = u1 σ_2 2 7 r_3 → fX8_cachedNodes_j16 N Q σ_4) σ) ∧ (¬ (σ.1 2 7) = (-1) → fX8_cachedNodes_j16 N Q σ))
set_option maxHeartbeats 4000000 in
set_option maxRecDepth 100000 in
theorem bX8_cachedNodes_e {p : Program} {e : Env} {s : State} {m : MethodId} {args : Array Value} {below : List Frame} {meth : Method} {c : Code} (l : Launch) (w : Wd) (N : Nat) (Q : Int32 → St → Prop) (E : Cx 223 w (X1 w) cX8_cachedNodes 1 RX8 (.code yX8_cachedNodes cX8_cachedNodes 1 (some .int)) (some .int) p s m args meth c) {σ : St} {H : Heap} {locs : List Loc} {ls : Array Slot} (hR : Rr 223 ev1 w σ s H locs) (hl : lv_has ls 1 [(0, .ref (w.2.1 2))]) (h : fX8_cachedNodes N Q σ) : W p l e rmX8_cachedNodes s m args below meth c H locs 0 0 (MQ below (va_Qi Q (Rp 223 ev1 w) (Aw 223 w)) args s 0 0 (Aw 223 w)) (F0 m 0 ls []) := by
  obtain ⟨hx, hb, hml, hown, hts, hr, hlk, hK, hI, hX⟩ := id E
  unfold fX8_cachedNodes at h
  refine lv_aload_n (pc := 0) hx hb dX8_cachedNodes_0 rfl (lv_at hl 0 rfl) ?_
  refine gf1_2_7 (pc := 1) hx hb hts hown hK hR mw4 dX8_cachedNodes_1 ?_
  refine lv_iconst (pc := 4) (v := (-1)) hx hb dX8_cachedNodes_4 (by decide) ?_
  refine lv_icmp_ne (pc := 5) (tgt := 16) hx hb dX8_cachedNodes_5 (by decide) (fun c_1 => ?_) (fun c_1 => ?_)
  · have h := h.2 c_1
    exact bX8_cachedNodes_16 l w N Q E hR (lv_sub hl [0] rfl) h
  · have h := h.1 c_1
    refine lv_aload_n (pc := 8) hx hb dX8_cachedNodes_8 rfl (lv_at hl 0 rfl) ?_
    refine lv_aload_n (pc := 9) hx hb dX8_cachedNodes_9 rfl (lv_at hl 0 rfl) ?_
    refine q_ci (pc := 10) hR (q_rV E (xp1 w) (As := []) (rest := [.ref (w.2.1 2)]) (cX8_countNodes_met l w hI N _ σ h) ckX8_countNodes cvX8_countNodes mw31 ⟨rfl, rfl, Nat.le_of_ble_eq_true rfl, Nat.le_of_ble_eq_true rfl⟩ hR (rc1_2 w) rfl hl.1 rfl (Nat.le_of_ble_eq_true rfl) dX8_cachedNodes_10) (fun r_3 σ_2 H locs h hR => ?_)
    refine pf1_2_7 (pc := 13) hx hb hts hown hK hI hR mw4 dX8_cachedNodes_13 (fun H locs σ_4 eσ_4 hR => ?_)
    have h := h σ_4 eσ_4
    exact bX8_cachedNodes_16 l w N Q E hR (lv_sub hl [0] rfl) h
theorem cX8_cachedNodes_met (l : Launch) (w : Wd) (hI : Ij 223 w) (N : Nat) (Q : Int32 → St → Prop) (σ : St) (h : fX8_cachedNodes N Q σ) : Met l yX8_cachedNodes (.code yX8_cachedNodes cX8_cachedNodes 1 (some .int) :: Uw) rmX8_cachedNodes (va_Pc [.ref (w.2.1 2)] (fun U => Rp 223 ev1 w σ U ∧ (X1 w) U)) (va_Qi Q (Rp 223 ev1 w) (Aw 223 w)) 0 0 (Aw 223 w) :=
  q_met (by decide) (Nat.le_of_ble_eq_true rfl) hI (fun p e s m below meth c ls E hl hR => bX8_cachedNodes_e l w N Q E hR hl h)
-- GlulxStrings.table(I)I
abbrev rmX11_table : Room := { frames := 6, cells := 0, slots := 0, locals := 128 }
def fX11_table (N : Nat) (x1 : Int32) (Q : Int32 → St → Prop) (σ : St) : Prop := (((σ.1 3 7) ≤ 0 → fX8_tell N x1 (fun σ_2 => fX8_cachedNodes N (fun r_4 σ_3 => Q r_4 σ_3) σ_2) σ) ∧ (¬ (σ.1 3 7) ≤ 0 → Q (-3) σ))
set_option maxHeartbeats 4000000 in
set_option maxRecDepth 100000 in
theorem bX11_table_e {p : Program} {e : Env} {s : State} {m : MethodId} {args : Array Value} {below : List Frame} {meth : Method} {c : Code} (l : Launch) (w : Wd) (N : Nat) (Q : Int32 → St → Prop) (E : Cx 223 w (X1 w) cX11_table 2 RX11 (.code yX11_table cX11_table 2 (some .int)) (some .int) p s m args meth c) (x1 : Int32) {σ : St} {H : Heap} {locs : List Loc} {ls : Array Slot} (hR : Rr 223 ev1 w σ s H locs) (hl : lv_has ls 2 [(0, .ref (w.2.1 0)), (1, .int x1)]) (h : fX11_table N x1 Q σ) : W p l e rmX11_table s m args below meth c H locs 0 0 (MQ below (va_Qi Q (Rp 223 ev1 w) (Aw 223 w)) args s 0 0 (Aw 223 w)) (F0 m 0 ls []) := by
  obtain ⟨hx, hb, hml, hown, hts, hr, hlk, hK, hI, hX⟩ := id E
  unfold fX11_table at h
  refine lv_aload_n (pc := 0) hx hb dX11_table_0 rfl (lv_at hl 0 rfl) ?_
  refine gf1_0_2 (pc := 1) hx hb hts hown hK hR mw32 dX11_table_1 ?_
  refine gf1_3_7 (pc := 4) hx hb hts hown hK hR mw33 dX11_table_4 ?_
  refine lv_if_le (pc := 7) (tgt := 13) hx hb dX11_table_7 (by decide) (fun c_1 => ?_) (fun c_1 => ?_)
  · have h := h.1 c_1
    refine lv_aload_n (pc := 13) hx hb dX11_table_13 rfl (lv_at hl 0 rfl) ?_
    refine gf1_0_1 (pc := 14) hx hb hts hown hK hR mw9 dX11_table_14 ?_
    refine lv_iload_n (pc := 17) hx hb dX11_table_17 rfl (lv_at hl 1 rfl) ?_
    refine q_cv (pc := 18) hR (q_rV E (xp1 w) (As := [.int x1]) (rest := []) (cX8_tell_met l w hI N x1 _ σ h) ckX8_tell cvX8_tell mw34 ⟨rfl, rfl, Nat.le_of_ble_eq_true rfl, Nat.le_of_ble_eq_true rfl⟩ hR (rc1_2 w) rfl hl.1 rfl (Nat.le_of_ble_eq_true rfl) dX11_table_18) (fun σ_2 H locs h hR => ?_)
    refine lv_aload_n (pc := 21) hx hb dX11_table_21 rfl (lv_at hl 0 rfl) ?_
    refine gf1_0_1 (pc := 22) hx hb hts hown hK hR mw9 dX11_table_22 ?_
    refine q_ci (pc := 25) hR (q_rV E (xp1 w) (As := []) (rest := []) (cX8_cachedNodes_met l w hI N _ σ_2 h) ckX8_cachedNodes cvX8_cachedNodes mw35 ⟨rfl, rfl, Nat.le_of_ble_eq_true rfl, Nat.le_of_ble_eq_true rfl⟩ hR (rc1_2 w) rfl hl.1 rfl (Nat.le_of_ble_eq_true rfl) dX11_table_25) (fun r_4 σ_3 H locs h hR => ?_)
    exact q_iret (pc := 28) E hR h dX11_table_28
  · have h := h.2 c_1
    refine lv_bipush (pc := 10) (v := (-3)) hx hb dX11_table_10 (by decide) ?_
    exact q_iret (pc := 12) E hR h dX11_table_12
theorem cX11_table_met (l : Launch) (w : Wd) (hI : Ij 223 w) (N : Nat) (x1 : Int32) (Q : Int32 → St → Prop) (σ : St) (h : fX11_table N x1 Q σ) : Met l yX11_table (.code yX11_table cX11_table 2 (some .int) :: Uw) rmX11_table (va_Pc [.ref (w.2.1 0), .int x1] (fun U => Rp 223 ev1 w σ U ∧ (X1 w) U)) (va_Qi Q (Rp 223 ev1 w) (Aw 223 w)) 0 0 (Aw 223 w) :=
  q_met (by decide) (Nat.le_of_ble_eq_true rfl) hI (fun p e s m below meth c ls E hl hR => bX11_table_e l w N Q E x1 hR hl h)
-- GlulxStrings$Machine.isSystem(I)Z
abbrev rmX2_isSystem : Room := { frames := 0, cells := 0, slots := 0, locals := 0 }
def fX2_isSystem (N : Nat) (x0 : Int32) (Q : Int32 → St → Prop) (σ : St) : Prop := ((x0 < 0 → Q 0 σ) ∧ (¬ x0 < 0 → ((2 < x0 → Q 0 σ) ∧ (¬ 2 < x0 → Q 1 σ))))
set_option maxHeartbeats 4000000 in
set_option maxRecDepth 100000 in
theorem bX2_isSystem_e {p : Program} {e : Env} {s : State} {m : MethodId} {args : Array Value} {below : List Frame} {meth : Method} {c : Code} (l : Launch) (w : Wd) (N : Nat) (Q : Int32 → St → Prop) (E : Cx 223 w (X1 w) cX2_isSystem 1 RX2 (.code yX2_isSystem cX2_isSystem 1 (some .boolean)) (some .boolean) p s m args meth c) (x0 : Int32) {σ : St} {H : Heap} {locs : List Loc} {ls : Array Slot} (hR : Rr 223 ev1 w σ s H locs) (hl : lv_has ls 1 [(0, .int x0)]) (h : fX2_isSystem N x0 Q σ) : W p l e rmX2_isSystem s m args below meth c H locs 0 0 (MQ below (va_Qi Q (Rp 223 ev1 w) (Aw 223 w)) args s 0 0 (Aw 223 w)) (F0 m 0 ls []) := by
  obtain ⟨hx, hb, hml, hown, hts, hr, hlk, hK, hI, hX⟩ := id E
  unfold fX2_isSystem at h
  refine lv_iload_n (pc := 0) hx hb dX2_isSystem_0 rfl (lv_at hl 0 rfl) ?_
  refine lv_if_lt (pc := 1) (tgt := 13) hx hb dX2_isSystem_1 (by decide) (fun c_1 => ?_) (fun c_1 => ?_)
  · have h := h.1 c_1
    refine lv_iconst (pc := 13) (v := 0) hx hb dX2_isSystem_13 (by decide) ?_
    exact q_zret (pc := 14) E hR h rfl dX2_isSystem_14
  · have h := h.2 c_1
    refine lv_iload_n (pc := 4) hx hb dX2_isSystem_4 rfl (lv_at hl 0 rfl) ?_
    refine lv_iconst (pc := 5) (v := 2) hx hb dX2_isSystem_5 (by decide) ?_
    refine lv_icmp_gt (pc := 6) (tgt := 13) hx hb dX2_isSystem_6 (by decide) (fun c_2 => ?_) (fun c_2 => ?_)
    · have h := h.1 c_2
      refine lv_iconst (pc := 13) (v := 0) hx hb dX2_isSystem_13 (by decide) ?_
      exact q_zret (pc := 14) E hR h rfl dX2_isSystem_14
    · have h := h.2 c_2
      refine lv_iconst (pc := 9) (v := 1) hx hb dX2_isSystem_9 (by decide) ?_
      refine lv_goto (pc := 10) (tgt := 14) hx hb dX2_isSystem_10 (by decide) ?_
      exact q_zret (pc := 14) E hR h rfl dX2_isSystem_14
theorem cX2_isSystem_met (l : Launch) (w : Wd) (hI : Ij 223 w) (N : Nat) (x0 : Int32) (Q : Int32 → St → Prop) (σ : St) (h : fX2_isSystem N x0 Q σ) : Met l yX2_isSystem (.code yX2_isSystem cX2_isSystem 1 (some .boolean) :: Uw) rmX2_isSystem (va_Pc [.int x0] (fun U => Rp 223 ev1 w σ U ∧ (X1 w) U)) (va_Qi Q (Rp 223 ev1 w) (Aw 223 w)) 0 0 (Aw 223 w) :=
  q_met (by decide) (Nat.le_of_ble_eq_true rfl) hI (fun p e s m below meth c ls E hl hR => bX2_isSystem_e l w N Q E x0 hR hl h)
-- GlulxStrings$Machine.setSystem(II)V
abbrev rmX2_setSystem : Room := { frames := 1, cells := 0, slots := 0, locals := 20 }
def fX2_setSystem_j13 (N : Nat) (x2 : Int32) (t0 : Int32) (Q : St → Prop) (σ : St) : Prop := ∀ σ_4 : St, σ_4 = u1 σ 3 9 t0 → ∀ σ_5 : St, σ_5 = u1 σ_4 3 10 x2 → Q σ_5
set_option maxHeartbeats 4000000 in
set_option maxRecDepth 100000 in
theorem bX2_setSystem_13 {p : Program} {e : Env} {s : State} {m : MethodId} {args : Array Value} {below : List Frame} {meth : Method} {c : Code} (l : Launch) (w : Wd) (N : Nat) (Q : St → Prop) (E : Cx 223 w (X1 w) cX2_setSystem 3 RX2 (.code yX2_setSystem cX2_setSystem 3 none) none p s m args meth c) (x2 : Int32) (t0 : Int32) {σ : St} {H : Heap} {locs : List Loc} {ls : Array Slot} (hR : Rr 223 ev1 w σ s H locs) (hl : lv_has ls 3 [(0, .ref (w.2.1 3)), (2, .int x2)]) (h : fX2_setSystem_j13 N x2 t0 Q σ) : W p l e rmX2_setSystem s m args below meth c H locs 0 0 (MQ below (va_Qv Q (Rp 223 ev1 w) (Aw 223 w)) args s 0 0 (Aw 223 w)) (F0 m 13 ls [.int t0, .ref (w.2.1 3)]) := by
  obtain ⟨hx, hb, hml, hown, hts, hr, hlk, hK, hI, hX⟩ := id E
  unfold fX2_setSystem_j13 at h
  refine pf1_3_9 (pc := 13) hx hb hts hown hK hI hR mw37 dX2_setSystem_13 (fun H locs σ_4 eσ_4 hR => ?_)
  have h := h σ_4 eσ_4
  refine lv_aload_n (pc := 16) hx hb dX2_setSystem_16 rfl (lv_at hl 0 rfl) ?_
  refine lv_iload_n (pc := 17) hx hb dX2_setSystem_17 rfl (lv_at hl 1 rfl) ?_
  refine pf1_3_10 (pc := 18) hx hb hts hown hK hI hR mw38 dX2_setSystem_18 (fun H locs σ_5 eσ_5 hR => ?_)
  have h := h σ_5 eσ_5
  exact q_vret (pc := 21) E hR h dX2_setSystem_21
def fX2_setSystem (N : Nat) (x1 : Int32) (x2 : Int32) (Q : St → Prop) (σ : St) : Prop := fX2_isSystem N x1 (fun r_2 σ_1 => ((r_2 = 0 → fX2_setSystem_j13 N x2 0 Q σ_1) ∧ (¬ r_2 = 0 → fX2_setSystem_j13 N x2 x1 Q σ_1))) σ
set_option maxHeartbeats 4000000 in
set_option maxRecDepth 100000 in
theorem bX2_setSystem_e {p : Program} {e : Env} {s : State} {m : MethodId} {args : Array Value} {below : List Frame} {meth : Method} {c : Code} (l : Launch) (w : Wd) (N : Nat) (Q : St → Prop) (E : Cx 223 w (X1 w) cX2_setSystem 3 RX2 (.code yX2_setSystem cX2_setSystem 3 none) none p s m args meth c) (x1 : Int32) (x2 : Int32) {σ : St} {H : Heap} {locs : List Loc} {ls : Array Slot} (hR : Rr 223 ev1 w σ s H locs) (hl : lv_has ls 3 [(0, .ref (w.2.1 3)), (1, .int x1), (2, .int x2)]) (h : fX2_setSystem N x1 x2 Q σ) : W p l e rmX2_setSystem s m args below meth c H locs 0 0 (MQ below (va_Qv Q (Rp 223 ev1 w) (Aw 223 w)) args s 0 0 (Aw 223 w)) (F0 m 0 ls []) := by
  obtain ⟨hx, hb, hml, hown, hts, hr, hlk, hK, hI, hX⟩ := id E
  unfold fX2_setSystem at h
  refine lv_aload_n (pc := 0) hx hb dX2_setSystem_0 rfl (lv_at hl 0 rfl) ?_
  refine lv_iload_n (pc := 1) hx hb dX2_setSystem_1 rfl (lv_at hl 1 rfl) ?_
  refine q_ci (pc := 2) hR (q_rS E (xp1 w) (As := [.int x1]) (rest := [.ref (w.2.1 3)]) (cX2_isSystem_met l w hI N x1 _ σ h) ckX2_isSystem csX2_isSystem mw36 ⟨rfl, rfl, Nat.le_of_ble_eq_true rfl, Nat.le_of_ble_eq_true rfl⟩ hR rfl hl.1 rfl (Nat.le_of_ble_eq_true rfl) dX2_setSystem_2) (fun r_2 σ_1 H locs h hR => ?_)
  refine lv_if_eq (pc := 5) (tgt := 12) hx hb dX2_setSystem_5 (by decide) (fun c_3 => ?_) (fun c_3 => ?_)
  · have h := h.1 c_3
    refine lv_iconst (pc := 12) (v := 0) hx hb dX2_setSystem_12 (by decide) ?_
    exact bX2_setSystem_13 l w N Q E x2 0 hR (lv_sub hl [0, 2] rfl) h
  · have h := h.2 c_3
    refine lv_iload_n (pc := 8) hx hb dX2_setSystem_8 rfl (lv_at hl 1 rfl) ?_
    refine lv_goto (pc := 9) (tgt := 13) hx hb dX2_setSystem_9 (by decide) ?_
    exact bX2_setSystem_13 l w N Q E x2 x1 hR (lv_sub hl [0, 2] rfl) h
theorem cX2_setSystem_met (l : Launch) (w : Wd) (hI : Ij 223 w) (N : Nat) (x1 : Int32) (x2 : Int32) (Q : St → Prop) (σ : St) (h : fX2_setSystem N x1 x2 Q σ) : Met l yX2_setSystem (.code yX2_setSystem cX2_setSystem 3 none :: Uw) rmX2_setSystem (va_Pc [.ref (w.2.1 3), .int x1, .int x2] (fun U => Rp 223 ev1 w σ U ∧ (X1 w) U)) (va_Qv Q (Rp 223 ev1 w) (Aw 223 w)) 0 0 (Aw 223 w) :=
  q_met (by decide) (Nat.le_of_ble_eq_true rfl) hI (fun p e s m below meth c ls E hl hR => bX2_setSystem_e l w N Q E x1 x2 hR hl h)
-- GlulxStrings.system(II)I
abbrev rmX11_system : Room := { frames := 2, cells := 0, slots := 0, locals := 42 }
def fX11_system (N : Nat) (x1 : Int32) (x2 : Int32) (Q : Int32 → St → Prop) (σ : St) : Prop := fX2_isSystem N x1 (fun r_2 σ_1 => ((r_2 = 0 → Q (-2) σ_1) ∧ (¬ r_2 = 0 → (((σ_1.1 3 7) ≤ 0 → fX2_setSystem N x1 x2 (fun σ_5 => Q 0 σ_5) σ_1) ∧ (¬ (σ_1.1 3 7) ≤ 0 → Q (-3) σ_1))))) σ
set_option maxHeartbeats 4000000 in
set_option maxRecDepth 100000 in
theorem bX11_system_e {p : Program} {e : Env} {s : State} {m : MethodId} {args : Array Value} {below : List Frame} {meth : Method} {c : Code} (l : Launch) (w : Wd) (N : Nat) (Q : Int32 → St → Prop) (E : Cx 223 w (X1 w) cX11_system 3 RX11 (.code yX11_system cX11_system 3 (some .int)) (some .int) p s m args meth c) (x1 : Int32) (x2 : Int32) {σ : St} {H : Heap} {locs : List Loc} {ls : Array Slot} (hR : Rr 223 ev1 w σ s H locs) (hl : lv_has ls 3 [(0, .ref (w.2.1 0)), (1, .int x1), (2, .int x2)]) (h : fX11_system N x1 x2 Q σ) : W p l e rmX11_system s m args below meth c H locs 0 0 (MQ below (va_Qi Q (Rp 223 ev1 w) (Aw 223 w)) args s 0 0 (Aw 223 w)) (F0 m 0 ls []) := by
  obtain ⟨hx, hb, hml, hown, hts, hr, hlk, hK, hI, hX⟩ := id E
  unfold fX11_system at h
  refine lv_iload_n (pc := 0) hx hb dX11_system_0 rfl (lv_at hl 1 rfl) ?_
  refine q_ci (pc := 1) hR (q_rS E (xp1 w) (As := [.int x1]) (rest := []) (cX2_isSystem_met l w hI N x1 _ σ h) ckX2_isSystem csX2_isSystem mw39 ⟨rfl, rfl, Nat.le_of_ble_eq_true rfl, Nat.le_of_ble_eq_true rfl⟩ hR rfl hl.1 rfl (Nat.le_of_ble_eq_true rfl) dX11_system_1) (fun r_2 σ_1 H locs h hR => ?_)
  refine lv_if_ne (pc := 4) (tgt := 10) hx hb dX11_system_4 (by decide) (fun c_3 => ?_) (fun c_3 => ?_)
  · have h := h.2 c_3
    refine lv_aload_n (pc := 10) hx hb dX11_system_10 rfl (lv_at hl 0 rfl) ?_
    refine gf1_0_2 (pc := 11) hx hb hts hown hK hR mw32 dX11_system_11 ?_
    refine gf1_3_7 (pc := 14) hx hb hts hown hK hR mw33 dX11_system_14 ?_
    refine lv_if_le (pc := 17) (tgt := 23) hx hb dX11_system_17 (by decide) (fun c_4 => ?_) (fun c_4 => ?_)
    · have h := h.1 c_4
      refine lv_aload_n (pc := 23) hx hb dX11_system_23 rfl (lv_at hl 0 rfl) ?_
      refine gf1_0_2 (pc := 24) hx hb hts hown hK hR mw32 dX11_system_24 ?_
      refine lv_iload_n (pc := 27) hx hb dX11_system_27 rfl (lv_at hl 1 rfl) ?_
      refine lv_iload_n (pc := 28) hx hb dX11_system_28 rfl (lv_at hl 2 rfl) ?_
      refine q_cv (pc := 29) hR (q_rV E (xp1 w) (As := [.int x1, .int x2]) (rest := []) (cX2_setSystem_met l w hI N x1 x2 _ σ_1 h) ckX2_setSystem cvX2_setSystem mw40 ⟨rfl, rfl, Nat.le_of_ble_eq_true rfl, Nat.le_of_ble_eq_true rfl⟩ hR (rc1_3 w) rfl hl.1 rfl (Nat.le_of_ble_eq_true rfl) dX11_system_29) (fun σ_5 H locs h hR => ?_)
      refine lv_iconst (pc := 32) (v := 0) hx hb dX11_system_32 (by decide) ?_
      exact q_iret (pc := 33) E hR h dX11_system_33
    · have h := h.2 c_4
      refine lv_bipush (pc := 20) (v := (-3)) hx hb dX11_system_20 (by decide) ?_
      exact q_iret (pc := 22) E hR h dX11_system_22
  · have h := h.1 c_3
    refine lv_bipush (pc := 7) (v := (-2)) hx hb dX11_system_7 (by decide) ?_
    exact q_iret (pc := 9) E hR h dX11_system_9
theorem cX11_system_met (l : Launch) (w : Wd) (hI : Ij 223 w) (N : Nat) (x1 : Int32) (x2 : Int32) (Q : Int32 → St → Prop) (σ : St) (h : fX11_system N x1 x2 Q σ) : Met l yX11_system (.code yX11_system cX11_system 3 (some .int) :: Uw) rmX11_system (va_Pc [.ref (w.2.1 0), .int x1, .int x2] (fun U => Rp 223 ev1 w σ U ∧ (X1 w) U)) (va_Qi Q (Rp 223 ev1 w) (Aw 223 w)) 0 0 (Aw 223 w) :=
  q_met (by decide) (Nat.le_of_ble_eq_true rfl) hI (fun p e s m below meth c ls E hl hR => bX11_system_e l w N Q E x1 x2 hR hl h)
-- GlulxStrings.isStepCount(I)Z
abbrev rmX11_isStepCount : Room := { frames := 0, cells := 0, slots := 0, locals := 0 }
def fX11_isStepCount (N : Nat) (x0 : Int32) (Q : Int32 → St → Prop) (σ : St) : Prop := ((x0 < 0 → Q 0 σ) ∧ (¬ x0 < 0 → ((100000 < x0 → Q 0 σ) ∧ (¬ 100000 < x0 → Q 1 σ))))
set_option maxHeartbeats 4000000 in
set_option maxRecDepth 100000 in
theorem bX11_isStepCount_e {p : Program} {e : Env} {s : State} {m : MethodId} {args : Array Value} {below : List Frame} {meth : Method} {c : Code} (l : Launch) (w : Wd) (N : Nat) (Q : Int32 → St → Prop) (E : Cx 223 w (X1 w) cX11_isStepCount 1 RX11 (.code yX11_isStepCount cX11_isStepCount 1 (some .boolean)) (some .boolean) p s m args meth c) (x0 : Int32) {σ : St} {H : Heap} {locs : List Loc} {ls : Array Slot} (hR : Rr 223 ev1 w σ s H locs) (hl : lv_has ls 1 [(0, .int x0)]) (h : fX11_isStepCount N x0 Q σ) : W p l e rmX11_isStepCount s m args below meth c H locs 0 0 (MQ below (va_Qi Q (Rp 223 ev1 w) (Aw 223 w)) args s 0 0 (Aw 223 w)) (F0 m 0 ls []) := by
  obtain ⟨hx, hb, hml, hown, hts, hr, hlk, hK, hI, hX⟩ := id E
  unfold fX11_isStepCount at h
  refine lv_iload_n (pc := 0) hx hb dX11_isStepCount_0 rfl (lv_at hl 0 rfl) ?_
  refine lv_if_lt (pc := 1) (tgt := 14) hx hb dX11_isStepCount_1 (by decide) (fun c_1 => ?_) (fun c_1 => ?_)
  · have h := h.1 c_1
    refine lv_iconst (pc := 14) (v := 0) hx hb dX11_isStepCount_14 (by decide) ?_
    exact q_zret (pc := 15) E hR h rfl dX11_isStepCount_15
  · have h := h.2 c_1
    refine lv_iload_n (pc := 4) hx hb dX11_isStepCount_4 rfl (lv_at hl 0 rfl) ?_
    refine lv_ldc (pc := 5) (v := 100000) hx hb hown (hts _ (Uin mw41)) dX11_isStepCount_5 ?_
    refine lv_icmp_gt (pc := 7) (tgt := 14) hx hb dX11_isStepCount_7 (by decide) (fun c_2 => ?_) (fun c_2 => ?_)
    · have h := h.1 c_2
      refine lv_iconst (pc := 14) (v := 0) hx hb dX11_isStepCount_14 (by decide) ?_
      exact q_zret (pc := 15) E hR h rfl dX11_isStepCount_15
    · have h := h.2 c_2
      refine lv_iconst (pc := 10) (v := 1) hx hb dX11_isStepCount_10 (by decide) ?_
      refine lv_goto (pc := 11) (tgt := 15) hx hb dX11_isStepCount_11 (by decide) ?_
      exact q_zret (pc := 15) E hR h rfl dX11_isStepCount_15
theorem cX11_isStepCount_met (l : Launch) (w : Wd) (hI : Ij 223 w) (N : Nat) (x0 : Int32) (Q : Int32 → St → Prop) (σ : St) (h : fX11_isStepCount N x0 Q σ) : Met l yX11_isStepCount (.code yX11_isStepCount cX11_isStepCount 1 (some .boolean) :: Uw) rmX11_isStepCount (va_Pc [.int x0] (fun U => Rp 223 ev1 w σ U ∧ (X1 w) U)) (va_Qi Q (Rp 223 ev1 w) (Aw 223 w)) 0 0 (Aw 223 w) :=
  q_met (by decide) (Nat.le_of_ble_eq_true rfl) hI (fun p e s m below meth c ls E hl hR => bX11_isStepCount_e l w N Q E x0 hR hl h)
-- GlulxStrings$Machine.fail(I)V
abbrev rmX2_fail : Room := { frames := 0, cells := 0, slots := 0, locals := 0 }
def fX2_fail (N : Nat) (x1 : Int32) (Q : St → Prop) (σ : St) : Prop := (((σ.1 3 11) = 0 → ∀ σ_2 : St, σ_2 = u1 σ 3 11 x1 → Q σ_2) ∧ (¬ (σ.1 3 11) = 0 → Q σ))
set_option maxHeartbeats 4000000 in
set_option maxRecDepth 100000 in
theorem bX2_fail_e {p : Program} {e : Env} {s : State} {m : MethodId} {args : Array Value} {below : List Frame} {meth : Method} {c : Code} (l : Launch) (w : Wd) (N : Nat) (Q : St → Prop) (E : Cx 223 w (X1 w) cX2_fail 2 RX2 (.code yX2_fail cX2_fail 2 none) none p s m args meth c) (x1 : Int32) {σ : St} {H : Heap} {locs : List Loc} {ls : Array Slot} (hR : Rr 223 ev1 w σ s H locs) (hl : lv_has ls 2 [(0, .ref (w.2.1 3)), (1, .int x1)]) (h : fX2_fail N x1 Q σ) : W p l e rmX2_fail s m args below meth c H locs 0 0 (MQ below (va_Qv Q (Rp 223 ev1 w) (Aw 223 w)) args s 0 0 (Aw 223 w)) (F0 m 0 ls []) := by
  obtain ⟨hx, hb, hml, hown, hts, hr, hlk, hK, hI, hX⟩ := id E
  unfold fX2_fail at h
  refine lv_aload_n (pc := 0) hx hb dX2_fail_0 rfl (lv_at hl 0 rfl) ?_
  refine gf1_3_11 (pc := 1) hx hb hts hown hK hR mw42 dX2_fail_1 ?_
  refine lv_if_ne (pc := 4) (tgt := 12) hx hb dX2_fail_4 (by decide) (fun c_1 => ?_) (fun c_1 => ?_)
  · have h := h.2 c_1
    exact q_vret (pc := 12) E hR h dX2_fail_12
  · have h := h.1 c_1
    refine lv_aload_n (pc := 7) hx hb dX2_fail_7 rfl (lv_at hl 0 rfl) ?_
    refine lv_iload_n (pc := 8) hx hb dX2_fail_8 rfl (lv_at hl 1 rfl) ?_
    refine pf1_3_11 (pc := 9) hx hb hts hown hK hI hR mw42 dX2_fail_9 (fun H locs σ_2 eσ_2 hR => ?_)
    have h := h σ_2 eσ_2
    exact q_vret (pc := 12) E hR h dX2_fail_12
theorem cX2_fail_met (l : Launch) (w : Wd) (hI : Ij 223 w) (N : Nat) (x1 : Int32) (Q : St → Prop) (σ : St) (h : fX2_fail N x1 Q σ) : Met l yX2_fail (.code yX2_fail cX2_fail 2 none :: Uw) rmX2_fail (va_Pc [.ref (w.2.1 3), .int x1] (fun U => Rp 223 ev1 w σ U ∧ (X1 w) U)) (va_Qv Q (Rp 223 ev1 w) (Aw 223 w)) 0 0 (Aw 223 w) :=
  q_met (by decide) (Nat.le_of_ble_eq_true rfl) hI (fun p e s m below meth c ls E hl hR => bX2_fail_e l w N Q E x1 hR hl h)
-- GlulxStrings$Machine.readByte(I)I
abbrev rmX2_readByte : Room := { frames := 1, cells := 0, slots := 0, locals := 21 }
def fX2_readByte (N : Nat) (x1 : Int32) (Q : Int32 → St → Prop) (σ : St) : Prop := fX3_has N x1 (fun r_2 σ_1 => ((r_2 = 0 → fX2_fail N 1 (fun σ_6 => Q 0 σ_6) σ_1) ∧ (¬ r_2 = 0 → fX3_byteOf N x1 (fun r_5 σ_4 => Q r_5 σ_4) σ_1))) σ
set_option maxHeartbeats 4000000 in
set_option maxRecDepth 100000 in
theorem bX2_readByte_e {p : Program} {e : Env} {s : State} {m : MethodId} {args : Array Value} {below : List Frame} {meth : Method} {c : Code} (l : Launch) (w : Wd) (N : Nat) (Q : Int32 → St → Prop) (E : Cx 223 w (X1 w) cX2_readByte 2 RX2 (.code yX2_readByte cX2_readByte 2 (some .int)) (some .int) p s m args meth c) (x1 : Int32) {σ : St} {H : Heap} {locs : List Loc} {ls : Array Slot} (hR : Rr 223 ev1 w σ s H locs) (hl : lv_has ls 2 [(0, .ref (w.2.1 3)), (1, .int x1)]) (h : fX2_readByte N x1 Q σ) : W p l e rmX2_readByte s m args below meth c H locs 0 0 (MQ below (va_Qi Q (Rp 223 ev1 w) (Aw 223 w)) args s 0 0 (Aw 223 w)) (F0 m 0 ls []) := by
  obtain ⟨hx, hb, hml, hown, hts, hr, hlk, hK, hI, hX⟩ := id E
  unfold fX2_readByte at h
  refine lv_aload_n (pc := 0) hx hb dX2_readByte_0 rfl (lv_at hl 0 rfl) ?_
  refine gf1_3_0 (pc := 1) hx hb hts hown hK hR mw43 dX2_readByte_1 ?_
  refine lv_iload_n (pc := 4) hx hb dX2_readByte_4 rfl (lv_at hl 1 rfl) ?_
  refine q_ci (pc := 5) hR (q_rV E (xp1 w) (As := [.int x1]) (rest := []) (cX3_has_met l w hI N x1 _ σ h) ckX3_has cvX3_has mw44 ⟨rfl, rfl, Nat.le_of_ble_eq_true rfl, Nat.le_of_ble_eq_true rfl⟩ hR (rc1_1 w) rfl hl.1 rfl (Nat.le_of_ble_eq_true rfl) dX2_readByte_5) (fun r_2 σ_1 H locs h hR => ?_)
  refine lv_if_ne (pc := 8) (tgt := 18) hx hb dX2_readByte_8 (by decide) (fun c_3 => ?_) (fun c_3 => ?_)
  · have h := h.2 c_3
    refine lv_aload_n (pc := 18) hx hb dX2_readByte_18 rfl (lv_at hl 0 rfl) ?_
    refine gf1_3_0 (pc := 19) hx hb hts hown hK hR mw43 dX2_readByte_19 ?_
    refine lv_iload_n (pc := 22) hx hb dX2_readByte_22 rfl (lv_at hl 1 rfl) ?_
    refine q_ci (pc := 23) hR (q_rV E (xp1 w) (As := [.int x1]) (rest := []) (cX3_byteOf_met l w hI N x1 _ σ_1 h) ckX3_byteOf cvX3_byteOf mw45 ⟨rfl, rfl, Nat.le_of_ble_eq_true rfl, Nat.le_of_ble_eq_true rfl⟩ hR (rc1_1 w) rfl hl.1 rfl (Nat.le_of_ble_eq_true rfl) dX2_readByte_23) (fun r_5 σ_4 H locs h hR => ?_)
    exact q_iret (pc := 26) E hR h dX2_readByte_26
  · have h := h.1 c_3
    refine lv_aload_n (pc := 11) hx hb dX2_readByte_11 rfl (lv_at hl 0 rfl) ?_
    refine lv_iconst (pc := 12) (v := 1) hx hb dX2_readByte_12 (by decide) ?_
    refine q_cv (pc := 13) hR (q_rV E (xp1 w) (As := [.int 1]) (rest := []) (cX2_fail_met l w hI N 1 _ σ_1 h) ckX2_fail cvX2_fail mw46 ⟨rfl, rfl, Nat.le_of_ble_eq_true rfl, Nat.le_of_ble_eq_true rfl⟩ hR (rc1_3 w) rfl hl.1 rfl (Nat.le_of_ble_eq_true rfl) dX2_readByte_13) (fun σ_6 H locs h hR => ?_)
    refine lv_iconst (pc := 16) (v := 0) hx hb dX2_readByte_16 (by decide) ?_
    exact q_iret (pc := 17) E hR h dX2_readByte_17
theorem cX2_readByte_met (l : Launch) (w : Wd) (hI : Ij 223 w) (N : Nat) (x1 : Int32) (Q : Int32 → St → Prop) (σ : St) (h : fX2_readByte N x1 Q σ) : Met l yX2_readByte (.code yX2_readByte cX2_readByte 2 (some .int) :: Uw) rmX2_readByte (va_Pc [.ref (w.2.1 3), .int x1] (fun U => Rp 223 ev1 w σ U ∧ (X1 w) U)) (va_Qi Q (Rp 223 ev1 w) (Aw 223 w)) 0 0 (Aw 223 w) :=
  q_met (by decide) (Nat.le_of_ble_eq_true rfl) hI (fun p e s m below meth c ls E hl hR => bX2_readByte_e l w N Q E x1 hR hl h)
-- GlulxStrings$Job.reset(II)V
abbrev rmX1_reset : Room := { frames := 0, cells := 0, slots := 0, locals := 0 }
def fX1_reset (N : Nat) (k0 : Nat) (x1 : Int32) (x2 : Int32) (Q : St → Prop) (σ : St) : Prop := ∀ σ_1 : St, σ_1 = u1 σ k0 1 x1 → ∀ σ_2 : St, σ_2 = u1 σ_1 k0 2 x2 → ∀ σ_3 : St, σ_3 = u1 σ_2 k0 3 0 → ∀ σ_4 : St, σ_4 = u1 σ_3 k0 4 0 → ∀ σ_5 : St, σ_5 = u1 σ_4 k0 5 1 → ∀ σ_6 : St, σ_6 = u1 σ_5 k0 6 0 → ∀ σ_7 : St, σ_7 = u1 σ_6 k0 7 255 → Q σ_7
set_option maxHeartbeats 4000000 in
set_option maxRecDepth 100000 in
theorem bX1_reset_e {p : Program} {e : Env} {s : State} {m : MethodId} {args : Array Value} {below : List Frame} {meth : Method} {c : Code} (l : Launch) (w : Wd) (N : Nat) (Q : St → Prop) (E : Cx 223 w (X1 w) cX1_reset 3 RX1 (.code yX1_reset cX1_reset 3 none) none p s m args meth c) (k0 : Nat) (x1 : Int32) (x2 : Int32) (hk0 : jobK k0) {σ : St} {H : Heap} {locs : List Loc} {ls : Array Slot} (hR : Rr 223 ev1 w σ s H locs) (hl : lv_has ls 3 [(0, .ref (w.2.1 k0)), (1, .int x1), (2, .int x2)]) (h : fX1_reset N k0 x1 x2 Q σ) : W p l e rmX1_reset s m args below meth c H locs 0 0 (MQ below (va_Qv Q (Rp 223 ev1 w) (Aw 223 w)) args s 0 0 (Aw 223 w)) (F0 m 0 ls []) := by
  obtain ⟨hx, hb, hml, hown, hts, hr, hlk, hK, hI, hX⟩ := id E
  unfold fX1_reset at h
  refine lv_aload_n (pc := 0) hx hb dX1_reset_0 rfl (lv_at hl 0 rfl) ?_
  refine lv_iload_n (pc := 1) hx hb dX1_reset_1 rfl (lv_at hl 1 rfl) ?_
  refine pfj_1 (pc := 2) hk0 hx hb hts hown hK hI hR mw47 dX1_reset_2 (fun H locs σ_1 eσ_1 hR => ?_)
  have h := h σ_1 eσ_1
  refine lv_aload_n (pc := 5) hx hb dX1_reset_5 rfl (lv_at hl 0 rfl) ?_
  refine lv_iload_n (pc := 6) hx hb dX1_reset_6 rfl (lv_at hl 2 rfl) ?_
  refine pfj_2 (pc := 7) hk0 hx hb hts hown hK hI hR mw48 dX1_reset_7 (fun H locs σ_2 eσ_2 hR => ?_)
  have h := h σ_2 eσ_2
  refine lv_aload_n (pc := 10) hx hb dX1_reset_10 rfl (lv_at hl 0 rfl) ?_
  refine lv_iconst (pc := 11) (v := 0) hx hb dX1_reset_11 (by decide) ?_
  refine pfj_3 (pc := 12) hk0 hx hb hts hown hK hI hR mw49 dX1_reset_12 (fun H locs σ_3 eσ_3 hR => ?_)
  have h := h σ_3 eσ_3
  refine lv_aload_n (pc := 15) hx hb dX1_reset_15 rfl (lv_at hl 0 rfl) ?_
  refine lv_iconst (pc := 16) (v := 0) hx hb dX1_reset_16 (by decide) ?_
  refine pfj_4 (pc := 17) hk0 hx hb hts hown hK hI hR mw50 dX1_reset_17 (fun H locs σ_4 eσ_4 hR => ?_)
  have h := h σ_4 eσ_4
  refine lv_aload_n (pc := 20) hx hb dX1_reset_20 rfl (lv_at hl 0 rfl) ?_
  refine lv_iconst (pc := 21) (v := 1) hx hb dX1_reset_21 (by decide) ?_
  refine pfj_5 (pc := 22) hk0 hx hb hts hown hK hI hR mw51 rfl rfl dX1_reset_22 (fun H locs σ_5 eσ_5 hR => ?_)
  have h := h σ_5 eσ_5
  refine lv_aload_n (pc := 25) hx hb dX1_reset_25 rfl (lv_at hl 0 rfl) ?_
  refine lv_iconst (pc := 26) (v := 0) hx hb dX1_reset_26 (by decide) ?_
  refine pfj_6 (pc := 27) hk0 hx hb hts hown hK hI hR mw52 dX1_reset_27 (fun H locs σ_6 eσ_6 hR => ?_)
  have h := h σ_6 eσ_6
  refine lv_aload_n (pc := 30) hx hb dX1_reset_30 rfl (lv_at hl 0 rfl) ?_
  refine lv_sipush (pc := 31) (v := 255) hx hb dX1_reset_31 (by decide) ?_
  refine pfj_7 (pc := 34) hk0 hx hb hts hown hK hI hR mw53 dX1_reset_34 (fun H locs σ_7 eσ_7 hR => ?_)
  have h := h σ_7 eσ_7
  exact q_vret (pc := 37) E hR h dX1_reset_37
theorem cX1_reset_met (l : Launch) (w : Wd) (hI : Ij 223 w) (N : Nat) (k0 : Nat) (x1 : Int32) (x2 : Int32) (hk0 : jobK k0) (Q : St → Prop) (σ : St) (h : fX1_reset N k0 x1 x2 Q σ) : Met l yX1_reset (.code yX1_reset cX1_reset 3 none :: Uw) rmX1_reset (va_Pc [.ref (w.2.1 k0), .int x1, .int x2] (fun U => Rp 223 ev1 w σ U ∧ (X1 w) U)) (va_Qv Q (Rp 223 ev1 w) (Aw 223 w)) 0 0 (Aw 223 w) :=
  q_met (by decide) (Nat.le_of_ble_eq_true rfl) hI (fun p e s m below meth c ls E hl hR => bX1_reset_e l w N Q E k0 x1 x2 hk0 hR hl h)
-- GlulxStrings$Machine.begin(II)V
abbrev rmX2_begin : Room := { frames := 1, cells := 0, slots := 0, locals := 24 }
def fX2_begin (N : Nat) (x1 : Int32) (x2 : Int32) (Q : St → Prop) (σ : St) : Prop := (((σ.1 3 11) = 0 → (((σ.1 3 7) < 40 → vp_in (σ.1 3 7) 40 ∧ fX1_reset N (43 + (σ.1 3 7).toNatClampNeg) x1 x2 (fun σ_4 => ∀ v_5 : Int32, v_5 = (σ_4.1 3 7) + 1 → ∀ σ_6 : St, σ_6 = u1 σ_4 3 7 v_5 → ∀ v_7 : Int32, v_7 = (if (σ_6.1 5 7) < (σ_6.1 3 7) then (σ_6.1 3 7) else (σ_6.1 5 7)) → ∀ σ_8 : St, σ_8 = u1 σ_6 5 7 v_7 → Q σ_8) σ) ∧ (¬ (σ.1 3 7) < 40 → fX2_fail N 8 (fun σ_9 => Q σ_9) σ))) ∧ (¬ (σ.1 3 11) = 0 → Q σ))
set_option maxHeartbeats 4000000 in
set_option maxRecDepth 100000 in
theorem bX2_begin_e {p : Program} {e : Env} {s : State} {m : MethodId} {args : Array Value} {below : List Frame} {meth : Method} {c : Code} (l : Launch) (w : Wd) (N : Nat) (Q : St → Prop) (E : Cx 223 w (X1 w) cX2_begin 3 RX2 (.code yX2_begin cX2_begin 3 none) none p s m args meth c) (x1 : Int32) (x2 : Int32) {σ : St} {H : Heap} {locs : List Loc} {ls : Array Slot} (hR : Rr 223 ev1 w σ s H locs) (hl : lv_has ls 3 [(0, .ref (w.2.1 3)), (1, .int x1), (2, .int x2)]) (h : fX2_begin N x1 x2 Q σ) : W p l e rmX2_begin s m args below meth c H locs 0 0 (MQ below (va_Qv Q (Rp 223 ev1 w) (Aw 223 w)) args s 0 0 (Aw 223 w)) (F0 m 0 ls []) := by
  obtain ⟨hx, hb, hml, hown, hts, hr, hlk, hK, hI, hX⟩ := id E
  unfold fX2_begin at h
  refine lv_aload_n (pc := 0) hx hb dX2_begin_0 rfl (lv_at hl 0 rfl) ?_
  refine gf1_3_11 (pc := 1) hx hb hts hown hK hR mw42 dX2_begin_1 ?_
  refine lv_if_eq (pc := 4) (tgt := 8) hx hb dX2_begin_4 (by decide) (fun c_1 => ?_) (fun c_1 => ?_)
  · have h := h.1 c_1
    refine lv_aload_n (pc := 8) hx hb dX2_begin_8 rfl (lv_at hl 0 rfl) ?_
    refine gf1_3_7 (pc := 9) hx hb hts hown hK hR mw54 dX2_begin_9 ?_
    refine lv_bipush (pc := 12) (v := 40) hx hb dX2_begin_12 (by decide) ?_
    refine lv_icmp_lt (pc := 14) (tgt := 24) hx hb dX2_begin_14 (by decide) (fun c_2 => ?_) (fun c_2 => ?_)
    · have h := h.1 c_2
      refine lv_aload_n (pc := 24) hx hb dX2_begin_24 rfl (lv_at hl 0 rfl) ?_
      refine gf1_3_3 (pc := 25) hx hb hts hown hK hR mw55 dX2_begin_25 ?_
      refine lv_aload_n (pc := 28) hx hb dX2_begin_28 rfl (lv_at hl 0 rfl) ?_
      refine gf1_3_7 (pc := 29) hx hb hts hown hK hR mw54 dX2_begin_29 ?_
      have g_3 := h.1
      have h := h.2
      refine q_aald (pc := 32) hx hb hK hR (k := 15) lt1_15 4 rfl rfl (ar1_15 _ _ _) g_3 dX2_begin_32 ?_
      refine lv_iload_n (pc := 33) hx hb dX2_begin_33 rfl (lv_at hl 1 rfl) ?_
      refine lv_iload_n (pc := 34) hx hb dX2_begin_34 rfl (lv_at hl 2 rfl) ?_
      refine q_cv (pc := 35) hR (q_rV E (xp1 w) (As := [.int x1, .int x2]) (rest := []) (cX1_reset_met l w hI N (43 + (σ.1 3 7).toNatClampNeg) x1 x2 (jobK_in g_3) _ σ h) ckX1_reset cvX1_reset mw56 ⟨rfl, rfl, Nat.le_of_ble_eq_true rfl, Nat.le_of_ble_eq_true rfl⟩ hR (rcj (jobK_in g_3)) rfl hl.1 rfl (Nat.le_of_ble_eq_true rfl) dX2_begin_35) (fun σ_4 H locs h hR => ?_)
      refine lv_aload_n (pc := 38) hx hb dX2_begin_38 rfl (lv_at hl 0 rfl) ?_
      refine lv_dup (pc := 39) hx hb dX2_begin_39 rfl ?_
      refine gf1_3_7 (pc := 40) hx hb hts hown hK hR mw54 dX2_begin_40 ?_
      refine lv_iconst (pc := 43) (v := 1) hx hb dX2_begin_43 (by decide) ?_
      refine lv_iadd (pc := 44) hx hb dX2_begin_44 ?_
      refine lv_topi (pc := 45) (fun v_5 ev_5 => ?_)
      have h := h v_5 ev_5
      refine pf1_3_7 (pc := 45) hx hb hts hown hK hI hR mw54 dX2_begin_45 (fun H locs σ_6 eσ_6 hR => ?_)
      have h := h σ_6 eσ_6
      refine lv_aload_n (pc := 48) hx hb dX2_begin_48 rfl (lv_at hl 0 rfl) ?_
      refine gf1_3_2 (pc := 49) hx hb hts hown hK hR mw57 dX2_begin_49 ?_
      refine lv_aload_n (pc := 52) hx hb dX2_begin_52 rfl (lv_at hl 0 rfl) ?_
      refine gf1_3_2 (pc := 53) hx hb hts hown hK hR mw57 dX2_begin_53 ?_
      refine gf1_5_7 (pc := 56) hx hb hts hown hK hR mw58 dX2_begin_56 ?_
      refine lv_aload_n (pc := 59) hx hb dX2_begin_59 rfl (lv_at hl 0 rfl) ?_
      refine gf1_3_7 (pc := 60) hx hb hts hown hK hR mw54 dX2_begin_60 ?_
      refine va_mmax (pc := 63) hx hb (hml.trans hl.1.symm) hown (hts _ (Uin mw59)) (hts _ (Uin mwMaxS)) (hts _ (Uin mwMathI)) (hts _ (Uin mwMaxC)) (Nat.le_of_ble_eq_true rfl) (Nat.le_of_ble_eq_true rfl) (Nat.zero_le _) (Nat.zero_le _) dX2_begin_63 ?_
      refine lv_topi (pc := 66) (fun v_7 ev_7 => ?_)
      have h := h v_7 ev_7
      refine pf1_5_7 (pc := 66) hx hb hts hown hK hI hR mw58 dX2_begin_66 (fun H locs σ_8 eσ_8 hR => ?_)
      have h := h σ_8 eσ_8
      exact q_vret (pc := 69) E hR h dX2_begin_69
    · have h := h.2 c_2
      refine lv_aload_n (pc := 17) hx hb dX2_begin_17 rfl (lv_at hl 0 rfl) ?_
      refine lv_bipush (pc := 18) (v := 8) hx hb dX2_begin_18 (by decide) ?_
      refine q_cv (pc := 20) hR (q_rV E (xp1 w) (As := [.int 8]) (rest := []) (cX2_fail_met l w hI N 8 _ σ h) ckX2_fail cvX2_fail mw46 ⟨rfl, rfl, Nat.le_of_ble_eq_true rfl, Nat.le_of_ble_eq_true rfl⟩ hR (rc1_3 w) rfl hl.1 rfl (Nat.le_of_ble_eq_true rfl) dX2_begin_20) (fun σ_9 H locs h hR => ?_)
      exact q_vret (pc := 23) E hR h dX2_begin_23
  · have h := h.2 c_1
    exact q_vret (pc := 7) E hR h dX2_begin_7
theorem cX2_begin_met (l : Launch) (w : Wd) (hI : Ij 223 w) (N : Nat) (x1 : Int32) (x2 : Int32) (Q : St → Prop) (σ : St) (h : fX2_begin N x1 x2 Q σ) : Met l yX2_begin (.code yX2_begin cX2_begin 3 none :: Uw) rmX2_begin (va_Pc [.ref (w.2.1 3), .int x1, .int x2] (fun U => Rp 223 ev1 w σ U ∧ (X1 w) U)) (va_Qv Q (Rp 223 ev1 w) (Aw 223 w)) 0 0 (Aw 223 w) :=
  q_met (by decide) (Nat.le_of_ble_eq_true rfl) hI (fun p e s m below meth c ls E hl hR => bX2_begin_e l w N Q E x1 x2 hR hl h)
-- GlulxStrings$Machine.beginString(I)V
abbrev rmX2_beginString : Room := { frames := 2, cells := 0, slots := 0, locals := 46 }
def fX2_beginString (N : Nat) (x1 : Int32) (Q : St → Prop) (σ : St) : Prop := fX2_readByte N x1 (fun r_2 σ_1 => (((σ_1.1 3 11) = 0 → ((r_2 = 224 → fX2_begin N 1 (x1 + 1) (fun σ_5 => Q σ_5) σ_1) ∧ (¬ r_2 = 224 → ((r_2 = 225 → fX2_begin N 3 (x1 + 1) (fun σ_7 => Q σ_7) σ_1) ∧ (¬ r_2 = 225 → ((r_2 = 226 → fX2_begin N 2 (x1 + 4) (fun σ_9 => Q σ_9) σ_1) ∧ (¬ r_2 = 226 → fX2_fail N 4 (fun σ_10 => Q σ_10) σ_1))))))) ∧ (¬ (σ_1.1 3 11) = 0 → Q σ_1))) σ
set_option maxHeartbeats 4000000 in
set_option maxRecDepth 100000 in
theorem bX2_beginString_e {p : Program} {e : Env} {s : State} {m : MethodId} {args : Array Value} {below : List Frame} {meth : Method} {c : Code} (l : Launch) (w : Wd) (N : Nat) (Q : St → Prop) (E : Cx 223 w (X1 w) cX2_beginString 3 RX2 (.code yX2_beginString cX2_beginString 3 none) none p s m args meth c) (x1 : Int32) {σ : St} {H : Heap} {locs : List Loc} {ls : Array Slot} (hR : Rr 223 ev1 w σ s H locs) (hl : lv_has ls 3 [(0, .ref (w.2.1 3)), (1, .int x1)]) (h : fX2_beginString N x1 Q σ) : W p l e rmX2_beginString s m args below meth c H locs 0 0 (MQ below (va_Qv Q (Rp 223 ev1 w) (Aw 223 w)) args s 0 0 (Aw 223 w)) (F0 m 0 ls []) := by
  obtain ⟨hx, hb, hml, hown, hts, hr, hlk, hK, hI, hX⟩ := id E
  unfold fX2_beginString at h
  refine lv_aload_n (pc := 0) hx hb dX2_beginString_0 rfl (lv_at hl 0 rfl) ?_
  refine lv_iload_n (pc := 1) hx hb dX2_beginString_1 rfl (lv_at hl 1 rfl) ?_
  refine q_ci (pc := 2) hR (q_rV E (xp1 w) (As := [.int x1]) (rest := []) (cX2_readByte_met l w hI N x1 _ σ h) ckX2_readByte cvX2_readByte mw60 ⟨rfl, rfl, Nat.le_of_ble_eq_true rfl, Nat.le_of_ble_eq_true rfl⟩ hR (rc1_3 w) rfl hl.1 rfl (Nat.le_of_ble_eq_true rfl) dX2_beginString_2) (fun r_2 σ_1 H locs h hR => ?_)
  refine lv_istore_n (pc := 5) (lv' := [(2, .int r_2), (0, .ref (w.2.1 3)), (1, .int x1)]) hx hb dX2_beginString_5 rfl hl (by decide) rfl (fun ls hl => ?_)
  refine lv_aload_n (pc := 6) hx hb dX2_beginString_6 rfl (lv_at hl 1 rfl) ?_
  refine gf1_3_11 (pc := 7) hx hb hts hown hK hR mw42 dX2_beginString_7 ?_
  refine lv_if_eq (pc := 10) (tgt := 14) hx hb dX2_beginString_10 (by decide) (fun c_3 => ?_) (fun c_3 => ?_)
  · have h := h.1 c_3
    refine lv_iload_n (pc := 14) hx hb dX2_beginString_14 rfl (lv_at hl 0 rfl) ?_
    by_cases c_4 : r_2 = 224
    · refine lv_tableIn (pc := 15) (tgt := 40) (off := 25) hx hb dX2_beginString_15 (by rw [c_4]; decide) (by rw [c_4]; decide) (by rw [c_4]; rfl) (by decide) ?_
      have h := h.1 c_4
      refine lv_aload_n (pc := 40) hx hb dX2_beginString_40 rfl (lv_at hl 1 rfl) ?_
      refine lv_iconst (pc := 41) (v := 1) hx hb dX2_beginString_41 (by decide) ?_
      refine lv_iload_n (pc := 42) hx hb dX2_beginString_42 rfl (lv_at hl 2 rfl) ?_
      refine lv_iconst (pc := 43) (v := 1) hx hb dX2_beginString_43 (by decide) ?_
      refine lv_iadd (pc := 44) hx hb dX2_beginString_44 ?_
      refine q_cv (pc := 45) hR (q_rV E (xp1 w) (As := [.int 1, .int (x1 + 1)]) (rest := []) (cX2_begin_met l w hI N 1 (x1 + 1) _ σ_1 h) ckX2_begin cvX2_begin mw61 ⟨rfl, rfl, Nat.le_of_ble_eq_true rfl, Nat.le_of_ble_eq_true rfl⟩ hR (rc1_3 w) rfl hl.1 rfl (Nat.le_of_ble_eq_true rfl) dX2_beginString_45) (fun σ_5 H locs h hR => ?_)
      refine lv_goto (pc := 48) (tgt := 78) hx hb dX2_beginString_48 (by decide) ?_
      exact q_vret (pc := 78) E hR h dX2_beginString_78
    replace h := h.2 c_4
    by_cases c_6 : r_2 = 225
    · refine lv_tableIn (pc := 15) (tgt := 51) (off := 36) hx hb dX2_beginString_15 (by rw [c_6]; decide) (by rw [c_6]; decide) (by rw [c_6]; rfl) (by decide) ?_
      have h := h.1 c_6
      refine lv_aload_n (pc := 51) hx hb dX2_beginString_51 rfl (lv_at hl 1 rfl) ?_
      refine lv_iconst (pc := 52) (v := 3) hx hb dX2_beginString_52 (by decide) ?_
      refine lv_iload_n (pc := 53) hx hb dX2_beginString_53 rfl (lv_at hl 2 rfl) ?_
      refine lv_iconst (pc := 54) (v := 1) hx hb dX2_beginString_54 (by decide) ?_
      refine lv_iadd (pc := 55) hx hb dX2_beginString_55 ?_
      refine q_cv (pc := 56) hR (q_rV E (xp1 w) (As := [.int 3, .int (x1 + 1)]) (rest := []) (cX2_begin_met l w hI N 3 (x1 + 1) _ σ_1 h) ckX2_begin cvX2_begin mw61 ⟨rfl, rfl, Nat.le_of_ble_eq_true rfl, Nat.le_of_ble_eq_true rfl⟩ hR (rc1_3 w) rfl hl.1 rfl (Nat.le_of_ble_eq_true rfl) dX2_beginString_56) (fun σ_7 H locs h hR => ?_)
      refine lv_goto (pc := 59) (tgt := 78) hx hb dX2_beginString_59 (by decide) ?_
      exact q_vret (pc := 78) E hR h dX2_beginString_78
    replace h := h.2 c_6
    by_cases c_8 : r_2 = 226
    · refine lv_tableIn (pc := 15) (tgt := 62) (off := 47) hx hb dX2_beginString_15 (by rw [c_8]; decide) (by rw [c_8]; decide) (by rw [c_8]; rfl) (by decide) ?_
      have h := h.1 c_8
      refine lv_aload_n (pc := 62) hx hb dX2_beginString_62 rfl (lv_at hl 1 rfl) ?_
      refine lv_iconst (pc := 63) (v := 2) hx hb dX2_beginString_63 (by decide) ?_
      refine lv_iload_n (pc := 64) hx hb dX2_beginString_64 rfl (lv_at hl 2 rfl) ?_
      refine lv_iconst (pc := 65) (v := 4) hx hb dX2_beginString_65 (by decide) ?_
      refine lv_iadd (pc := 66) hx hb dX2_beginString_66 ?_
      refine q_cv (pc := 67) hR (q_rV E (xp1 w) (As := [.int 2, .int (x1 + 4)]) (rest := []) (cX2_begin_met l w hI N 2 (x1 + 4) _ σ_1 h) ckX2_begin cvX2_begin mw61 ⟨rfl, rfl, Nat.le_of_ble_eq_true rfl, Nat.le_of_ble_eq_true rfl⟩ hR (rc1_3 w) rfl hl.1 rfl (Nat.le_of_ble_eq_true rfl) dX2_beginString_67) (fun σ_9 H locs h hR => ?_)
      refine lv_goto (pc := 70) (tgt := 78) hx hb dX2_beginString_70 (by decide) ?_
      exact q_vret (pc := 78) E hR h dX2_beginString_78
    replace h := h.2 c_8
    have hD : W p l e rmX2_beginString s m args below meth c H locs 0 0 (MQ below (va_Qv Q (Rp 223 ev1 w) (Aw 223 w)) args s 0 0 (Aw 223 w)) (F0 m 73 ls []) := by
      refine lv_aload_n (pc := 73) hx hb dX2_beginString_73 rfl (lv_at hl 1 rfl) ?_
      refine lv_iconst (pc := 74) (v := 4) hx hb dX2_beginString_74 (by decide) ?_
      refine q_cv (pc := 75) hR (q_rV E (xp1 w) (As := [.int 4]) (rest := []) (cX2_fail_met l w hI N 4 _ σ_1 h) ckX2_fail cvX2_fail mw46 ⟨rfl, rfl, Nat.le_of_ble_eq_true rfl, Nat.le_of_ble_eq_true rfl⟩ hR (rc1_3 w) rfl hl.1 rfl (Nat.le_of_ble_eq_true rfl) dX2_beginString_75) (fun σ_10 H locs h hR => ?_)
      exact q_vret (pc := 78) E hR h dX2_beginString_78
    have nc_4 := ne_i (n := 224) (by decide) c_4
    have nc_6 := ne_i (n := 225) (by decide) c_6
    have nc_8 := ne_i (n := 226) (by decide) c_8
    exact lv_tableOut (pc := 15) (tgt := 73) hx hb dX2_beginString_15 (by omega) (by decide) hD
  · have h := h.2 c_3
    exact q_vret (pc := 13) E hR h dX2_beginString_13
theorem cX2_beginString_met (l : Launch) (w : Wd) (hI : Ij 223 w) (N : Nat) (x1 : Int32) (Q : St → Prop) (σ : St) (h : fX2_beginString N x1 Q σ) : Met l yX2_beginString (.code yX2_beginString cX2_beginString 3 none :: Uw) rmX2_beginString (va_Pc [.ref (w.2.1 3), .int x1] (fun U => Rp 223 ev1 w σ U ∧ (X1 w) U)) (va_Qv Q (Rp 223 ev1 w) (Aw 223 w)) 0 0 (Aw 223 w) :=
  q_met (by decide) (Nat.le_of_ble_eq_true rfl) hI (fun p e s m below meth c ls E hl hR => bX2_beginString_e l w N Q E x1 hR hl h)
