-- GlulxStrings$Machine.doOrder(LGlulxStrings$Job;)V
abbrev rmX2_doOrder : Room := { frames := 5, cells := 0, slots := 0, locals := 117 }
def fX2_doOrder_j174 (N : Nat) (Q : St → Prop) (σ : St) : Prop := Q σ
set_option maxHeartbeats 4000000 in
set_option maxRecDepth 100000 in
theorem bX2_doOrder_174 {p : Program} {e : Env} {s : State} {m : MethodId} {args : Array Value} {below : List Frame} {meth : Method} {c : Code} (l : Launch) (w : Wd) (N : Nat) (Q : St → Prop) (E : Cx 223 w (X1 w) cX2_doOrder 8 RX2 (.code yX2_doOrder cX2_doOrder 8 none) none p s m args meth c) {σ : St} {H : Heap} {locs : List Loc} {ls : Array Slot} (hR : Rr 223 ev1 w σ s H locs) (hl : lv_has ls 8 []) (h : fX2_doOrder_j174 N Q σ) : W p l e rmX2_doOrder s m args below meth c H locs 0 0 (MQ below (va_Qv Q (Rp 223 ev1 w) (Aw 223 w)) args s 0 0 (Aw 223 w)) (F0 m 174 ls []) := by
  obtain ⟨hx, hb, hml, hown, hts, hr, hlk, hK, hI, hX⟩ := id E
  unfold fX2_doOrder_j174 at h
  refine lv_goto (pc := 174) (tgt := 219) hx hb dX2_doOrder_174 (by decide) ?_
  exact q_vret (pc := 219) E hR h dX2_doOrder_219
def fX2_doOrder_j122 (N : Nat) (k1 : Nat) (x2 : Int32) (x3 : Int32) (x4 : Int32) (x5 : Int32) (t0 : Int32) (Q : St → Prop) (σ : St) : Prop := (((σ.1 3 11) = 0 → ∀ v_17 : Int32, v_17 = σ.1 3 12 → ∀ σ_18 : St, σ_18 = u1 σ k1 2 v_17 → vp_in x2 18 ∧ (((jT x2.toNatClampNeg) = 1 → fX2_valueFor N x2 x3 x4 (fun r_30 σ_29 => (((σ_29.1 3 11) = 0 → fX1_setLocal N k1 x5 r_30 (fun σ_32 => fX2_doOrder_j174 N Q σ_32) σ_29) ∧ (¬ (σ_29.1 3 11) = 0 → fX2_doOrder_j174 N Q σ_29))) σ_18) ∧ (¬ (jT x2.toNatClampNeg) = 1 → vp_in x2 18 ∧ (((jT x2.toNatClampNeg) = 2 → fX2_goesThere N x2 x3 x4 (fun r_25 σ_24 => ((r_25 = 0 → Q σ_24) ∧ (¬ r_25 = 0 → ∀ v_27 : Int32, v_27 = (σ_24.1 3 12) + t0 → ∀ σ_28 : St, σ_28 = u1 σ_24 k1 2 v_27 → Q σ_28))) σ_18) ∧ (¬ (jT x2.toNatClampNeg) = 2 → fX2_act N k1 x2 x3 x4 (fun σ_23 => Q σ_23) σ_18))))) ∧ (¬ (σ.1 3 11) = 0 → Q σ))
set_option maxHeartbeats 4000000 in
set_option maxRecDepth 100000 in
theorem bX2_doOrder_122 {p : Program} {e : Env} {s : State} {m : MethodId} {args : Array Value} {below : List Frame} {meth : Method} {c : Code} (l : Launch) (w : Wd) (N : Nat) (Q : St → Prop) (E : Cx 223 w (X1 w) cX2_doOrder 8 RX2 (.code yX2_doOrder cX2_doOrder 8 none) none p s m args meth c) (k1 : Nat) (x2 : Int32) (x3 : Int32) (x4 : Int32) (x5 : Int32) (t0 : Int32) (hk1 : jobK k1) {σ : St} {H : Heap} {locs : List Loc} {ls : Array Slot} (hR : Rr 223 ev1 w σ s H locs) (hl : lv_has ls 8 [(0, .ref (w.2.1 3)), (1, .ref (w.2.1 k1)), (2, .int x2), (3, .int x3), (4, .int x4), (5, .int x5)]) (h : fX2_doOrder_j122 N k1 x2 x3 x4 x5 t0 Q σ) : W p l e rmX2_doOrder s m args below meth c H locs 0 0 (MQ below (va_Qv Q (Rp 223 ev1 w) (Aw 223 w)) args s 0 0 (Aw 223 w)) (F0 m 122 ls [.int t0]) := by
  obtain ⟨hx, hb, hml, hown, hts, hr, hlk, hK, hI, hX⟩ := id E
  unfold fX2_doOrder_j122 at h
  refine lv_istore (pc := 122) (lv' := [(6, .int t0), (0, .ref (w.2.1 3)), (1, .ref (w.2.1 k1)), (2, .int x2), (3, .int x3), (4, .int x4), (5, .int x5)]) hx hb dX2_doOrder_122 hl (by decide) rfl (fun ls hl => ?_)
  refine lv_aload_n (pc := 124) hx hb dX2_doOrder_124 rfl (lv_at hl 1 rfl) ?_
  refine gf1_3_11 (pc := 125) hx hb hts hown hK hR mw42 dX2_doOrder_125 ?_
  refine lv_if_eq (pc := 128) (tgt := 132) hx hb dX2_doOrder_128 (by decide) (fun c_16 => ?_) (fun c_16 => ?_)
  · have h := h.1 c_16
    refine lv_aload_n (pc := 132) hx hb dX2_doOrder_132 rfl (lv_at hl 2 rfl) ?_
    refine lv_aload_n (pc := 133) hx hb dX2_doOrder_133 rfl (lv_at hl 1 rfl) ?_
    refine gf1_3_12 (pc := 134) hx hb hts hown hK hR mw62 dX2_doOrder_134 ?_
    refine lv_topi (pc := 137) (fun v_17 ev_17 => ?_)
    have h := h v_17 ev_17
    refine pfj_2 (pc := 137) hk1 hx hb hts hown hK hI hR mw81 dX2_doOrder_137 (fun H locs σ_18 eσ_18 hR => ?_)
    have h := h σ_18 eσ_18
    refine va_gets (pc := 140) hx hb hX.2.2.1 hR.2 hown (hts _ (Uin mw101)) (fun _ h9 => h9) dX2_doOrder_140 ?_
    refine lv_iload_n (pc := 143) hx hb dX2_doOrder_143 rfl (lv_at hl 3 rfl) ?_
    have g_19 := h.1
    have h := h.2
    refine va_ti (pc := 144) (t := w.2.1 1001) (N := 18) (f := fun j => .int (jT j)) (v := .int (jT x2.toNatClampNeg)) hx hb hX.2.2.2 hR.2 g_19 rfl dX2_doOrder_144 ?_
    refine lv_iconst (pc := 145) (v := 1) hx hb dX2_doOrder_145 (by decide) ?_
    refine lv_icmp_ne (pc := 146) (tgt := 177) hx hb dX2_doOrder_146 (by decide) (fun c_20 => ?_) (fun c_20 => ?_)
    · have h := h.2 c_20
      refine va_gets (pc := 177) hx hb hX.2.2.1 hR.2 hown (hts _ (Uin mw101)) (fun _ h9 => h9) dX2_doOrder_177 ?_
      refine lv_iload_n (pc := 180) hx hb dX2_doOrder_180 rfl (lv_at hl 3 rfl) ?_
      have g_21 := h.1
      have h := h.2
      refine va_ti (pc := 181) (t := w.2.1 1001) (N := 18) (f := fun j => .int (jT j)) (v := .int (jT x2.toNatClampNeg)) hx hb hX.2.2.2 hR.2 g_21 rfl dX2_doOrder_181 ?_
      refine lv_iconst (pc := 182) (v := 2) hx hb dX2_doOrder_182 (by decide) ?_
      refine lv_icmp_ne (pc := 183) (tgt := 210) hx hb dX2_doOrder_183 (by decide) (fun c_22 => ?_) (fun c_22 => ?_)
      · have h := h.2 c_22
        refine lv_aload_n (pc := 210) hx hb dX2_doOrder_210 rfl (lv_at hl 1 rfl) ?_
        refine lv_aload_n (pc := 211) hx hb dX2_doOrder_211 rfl (lv_at hl 2 rfl) ?_
        refine lv_iload_n (pc := 212) hx hb dX2_doOrder_212 rfl (lv_at hl 3 rfl) ?_
        refine lv_iload_n (pc := 213) hx hb dX2_doOrder_213 rfl (lv_at hl 4 rfl) ?_
        refine lv_iload (pc := 214) hx hb dX2_doOrder_214 (lv_at hl 5 rfl) ?_
        refine q_cv (pc := 216) hR (q_rV E (xp1 w) (As := [.ref (w.2.1 k1), .int x2, .int x3, .int x4]) (rest := []) (cX2_act_met l w hI N k1 x2 x3 x4 hk1 _ σ_18 h) ckX2_act cvX2_act mw102 ⟨rfl, rfl, Nat.le_of_ble_eq_true rfl, Nat.le_of_ble_eq_true rfl⟩ hR (rc1_3 w) rfl hl.1 rfl (Nat.le_of_ble_eq_true rfl) dX2_doOrder_216) (fun σ_23 H locs h hR => ?_)
        exact q_vret (pc := 219) E hR h dX2_doOrder_219
      · have h := h.1 c_22
        refine lv_iload_n (pc := 186) hx hb dX2_doOrder_186 rfl (lv_at hl 3 rfl) ?_
        refine lv_iload_n (pc := 187) hx hb dX2_doOrder_187 rfl (lv_at hl 4 rfl) ?_
        refine lv_iload (pc := 188) hx hb dX2_doOrder_188 (lv_at hl 5 rfl) ?_
        refine q_ci (pc := 190) hR (q_rS E (xp1 w) (As := [.int x2, .int x3, .int x4]) (rest := []) (cX2_goesThere_met l w hI N x2 x3 x4 _ σ_18 h) ckX2_goesThere csX2_goesThere mw103 ⟨rfl, rfl, Nat.le_of_ble_eq_true rfl, Nat.le_of_ble_eq_true rfl⟩ hR rfl hl.1 rfl (Nat.le_of_ble_eq_true rfl) dX2_doOrder_190) (fun r_25 σ_24 H locs h hR => ?_)
        refine lv_if_eq (pc := 193) (tgt := 219) hx hb dX2_doOrder_193 (by decide) (fun c_26 => ?_) (fun c_26 => ?_)
        · have h := h.1 c_26
          exact q_vret (pc := 219) E hR h dX2_doOrder_219
        · have h := h.2 c_26
          refine lv_aload_n (pc := 196) hx hb dX2_doOrder_196 rfl (lv_at hl 2 rfl) ?_
          refine lv_aload_n (pc := 197) hx hb dX2_doOrder_197 rfl (lv_at hl 1 rfl) ?_
          refine gf1_3_12 (pc := 198) hx hb hts hown hK hR mw62 dX2_doOrder_198 ?_
          refine lv_iload (pc := 201) hx hb dX2_doOrder_201 (lv_at hl 0 rfl) ?_
          refine lv_iadd (pc := 203) hx hb dX2_doOrder_203 ?_
          refine lv_topi (pc := 204) (fun v_27 ev_27 => ?_)
          have h := h v_27 ev_27
          refine pfj_2 (pc := 204) hk1 hx hb hts hown hK hI hR mw81 dX2_doOrder_204 (fun H locs σ_28 eσ_28 hR => ?_)
          have h := h σ_28 eσ_28
          refine lv_goto (pc := 207) (tgt := 219) hx hb dX2_doOrder_207 (by decide) ?_
          exact q_vret (pc := 219) E hR h dX2_doOrder_219
    · have h := h.1 c_20
      refine lv_aload_n (pc := 149) hx hb dX2_doOrder_149 rfl (lv_at hl 1 rfl) ?_
      refine lv_iload_n (pc := 150) hx hb dX2_doOrder_150 rfl (lv_at hl 3 rfl) ?_
      refine lv_iload_n (pc := 151) hx hb dX2_doOrder_151 rfl (lv_at hl 4 rfl) ?_
      refine lv_iload (pc := 152) hx hb dX2_doOrder_152 (lv_at hl 5 rfl) ?_
      refine q_ci (pc := 154) hR (q_rV E (xp1 w) (As := [.int x2, .int x3, .int x4]) (rest := []) (cX2_valueFor_met l w hI N x2 x3 x4 _ σ_18 h) ckX2_valueFor cvX2_valueFor mw104 ⟨rfl, rfl, Nat.le_of_ble_eq_true rfl, Nat.le_of_ble_eq_true rfl⟩ hR (rc1_3 w) rfl hl.1 rfl (Nat.le_of_ble_eq_true rfl) dX2_doOrder_154) (fun r_30 σ_29 H locs h hR => ?_)
      refine lv_istore (pc := 157) (lv' := [(7, .int r_30), (6, .int t0), (0, .ref (w.2.1 3)), (1, .ref (w.2.1 k1)), (2, .int x2), (3, .int x3), (4, .int x4), (5, .int x5)]) hx hb dX2_doOrder_157 hl (by decide) rfl (fun ls hl => ?_)
      refine lv_aload_n (pc := 159) hx hb dX2_doOrder_159 rfl (lv_at hl 2 rfl) ?_
      refine gf1_3_11 (pc := 160) hx hb hts hown hK hR mw42 dX2_doOrder_160 ?_
      refine lv_if_ne (pc := 163) (tgt := 174) hx hb dX2_doOrder_163 (by decide) (fun c_31 => ?_) (fun c_31 => ?_)
      · have h := h.2 c_31
        exact bX2_doOrder_174 l w N Q E hR (lv_sub hl [] rfl) h
      · have h := h.1 c_31
        refine lv_aload_n (pc := 166) hx hb dX2_doOrder_166 rfl (lv_at hl 3 rfl) ?_
        refine lv_iload (pc := 167) hx hb dX2_doOrder_167 (lv_at hl 7 rfl) ?_
        refine lv_iload (pc := 169) hx hb dX2_doOrder_169 (lv_at hl 0 rfl) ?_
        refine q_cv (pc := 171) hR (q_rV E (xp1 w) (As := [.int x5, .int r_30]) (rest := []) (cX1_setLocal_met l w hI N k1 x5 r_30 hk1 _ σ_29 h) ckX1_setLocal cvX1_setLocal mw75 ⟨rfl, rfl, Nat.le_of_ble_eq_true rfl, Nat.le_of_ble_eq_true rfl⟩ hR (rcj hk1) rfl hl.1 rfl (Nat.le_of_ble_eq_true rfl) dX2_doOrder_171) (fun σ_32 H locs h hR => ?_)
        exact bX2_doOrder_174 l w N Q E hR (lv_sub hl [] rfl) h
  · have h := h.2 c_16
    exact q_vret (pc := 131) E hR h dX2_doOrder_131
def fX2_doOrder_j103 (N : Nat) (k1 : Nat) (x2 : Int32) (x3 : Int32) (x4 : Int32) (t0 : Int32) (Q : St → Prop) (σ : St) : Prop := vp_in x2 18 ∧ (((jT x2.toNatClampNeg) = 2 → fX2_nextDistance N (fun r_17 σ_16 => fX2_doOrder_j122 N k1 x2 x3 x4 t0 r_17 Q σ_16) σ) ∧ (¬ (jT x2.toNatClampNeg) = 2 → fX2_doOrder_j122 N k1 x2 x3 x4 t0 0 Q σ))
set_option maxHeartbeats 4000000 in
set_option maxRecDepth 100000 in
theorem bX2_doOrder_103 {p : Program} {e : Env} {s : State} {m : MethodId} {args : Array Value} {below : List Frame} {meth : Method} {c : Code} (l : Launch) (w : Wd) (N : Nat) (Q : St → Prop) (E : Cx 223 w (X1 w) cX2_doOrder 8 RX2 (.code yX2_doOrder cX2_doOrder 8 none) none p s m args meth c) (k1 : Nat) (x2 : Int32) (x3 : Int32) (x4 : Int32) (t0 : Int32) (hk1 : jobK k1) {σ : St} {H : Heap} {locs : List Loc} {ls : Array Slot} (hR : Rr 223 ev1 w σ s H locs) (hl : lv_has ls 8 [(0, .ref (w.2.1 3)), (1, .ref (w.2.1 k1)), (2, .int x2), (3, .int x3), (4, .int x4)]) (h : fX2_doOrder_j103 N k1 x2 x3 x4 t0 Q σ) : W p l e rmX2_doOrder s m args below meth c H locs 0 0 (MQ below (va_Qv Q (Rp 223 ev1 w) (Aw 223 w)) args s 0 0 (Aw 223 w)) (F0 m 103 ls [.int t0]) := by
  obtain ⟨hx, hb, hml, hown, hts, hr, hlk, hK, hI, hX⟩ := id E
  unfold fX2_doOrder_j103 at h
  refine lv_istore (pc := 103) (lv' := [(5, .int t0), (0, .ref (w.2.1 3)), (1, .ref (w.2.1 k1)), (2, .int x2), (3, .int x3), (4, .int x4)]) hx hb dX2_doOrder_103 hl (by decide) rfl (fun ls hl => ?_)
  refine va_gets (pc := 105) hx hb hX.2.2.1 hR.2 hown (hts _ (Uin mw101)) (fun _ h9 => h9) dX2_doOrder_105 ?_
  refine lv_iload_n (pc := 108) hx hb dX2_doOrder_108 rfl (lv_at hl 3 rfl) ?_
  have g_14 := h.1
  have h := h.2
  refine va_ti (pc := 109) (t := w.2.1 1001) (N := 18) (f := fun j => .int (jT j)) (v := .int (jT x2.toNatClampNeg)) hx hb hX.2.2.2 hR.2 g_14 rfl dX2_doOrder_109 ?_
  refine lv_iconst (pc := 110) (v := 2) hx hb dX2_doOrder_110 (by decide) ?_
  refine lv_icmp_ne (pc := 111) (tgt := 121) hx hb dX2_doOrder_111 (by decide) (fun c_15 => ?_) (fun c_15 => ?_)
  · have h := h.2 c_15
    refine lv_iconst (pc := 121) (v := 0) hx hb dX2_doOrder_121 (by decide) ?_
    exact bX2_doOrder_122 l w N Q E k1 x2 x3 x4 t0 0 hk1 hR (lv_sub hl [1, 2, 3, 4, 5, 0] rfl) h
  · have h := h.1 c_15
    refine lv_aload_n (pc := 114) hx hb dX2_doOrder_114 rfl (lv_at hl 1 rfl) ?_
    refine q_ci (pc := 115) hR (q_rV E (xp1 w) (As := []) (rest := []) (cX2_nextDistance_met l w hI N _ σ h) ckX2_nextDistance cvX2_nextDistance mw105 ⟨rfl, rfl, Nat.le_of_ble_eq_true rfl, Nat.le_of_ble_eq_true rfl⟩ hR (rc1_3 w) rfl hl.1 rfl (Nat.le_of_ble_eq_true rfl) dX2_doOrder_115) (fun r_17 σ_16 H locs h hR => ?_)
    refine lv_goto (pc := 118) (tgt := 122) hx hb dX2_doOrder_118 (by decide) ?_
    exact bX2_doOrder_122 l w N Q E k1 x2 x3 x4 t0 r_17 hk1 hR (lv_sub hl [1, 2, 3, 4, 5, 0] rfl) h
def fX2_doOrder_j81 (N : Nat) (k1 : Nat) (x2 : Int32) (x3 : Int32) (t0 : Int32) (Q : St → Prop) (σ : St) : Prop := vp_in x2 18 ∧ (((jT x2.toNatClampNeg) = 1 → fX2_nextTarget N k1 (fun r_15 σ_14 => fX2_doOrder_j103 N k1 x2 x3 t0 r_15 Q σ_14) σ) ∧ (¬ (jT x2.toNatClampNeg) = 1 → fX2_doOrder_j103 N k1 x2 x3 t0 255 Q σ))
set_option maxHeartbeats 4000000 in
set_option maxRecDepth 100000 in
theorem bX2_doOrder_81 {p : Program} {e : Env} {s : State} {m : MethodId} {args : Array Value} {below : List Frame} {meth : Method} {c : Code} (l : Launch) (w : Wd) (N : Nat) (Q : St → Prop) (E : Cx 223 w (X1 w) cX2_doOrder 8 RX2 (.code yX2_doOrder cX2_doOrder 8 none) none p s m args meth c) (k1 : Nat) (x2 : Int32) (x3 : Int32) (t0 : Int32) (hk1 : jobK k1) {σ : St} {H : Heap} {locs : List Loc} {ls : Array Slot} (hR : Rr 223 ev1 w σ s H locs) (hl : lv_has ls 8 [(0, .ref (w.2.1 3)), (1, .ref (w.2.1 k1)), (2, .int x2), (3, .int x3)]) (h : fX2_doOrder_j81 N k1 x2 x3 t0 Q σ) : W p l e rmX2_doOrder s m args below meth c H locs 0 0 (MQ below (va_Qv Q (Rp 223 ev1 w) (Aw 223 w)) args s 0 0 (Aw 223 w)) (F0 m 81 ls [.int t0]) := by
  obtain ⟨hx, hb, hml, hown, hts, hr, hlk, hK, hI, hX⟩ := id E
  unfold fX2_doOrder_j81 at h
  refine lv_istore (pc := 81) (lv' := [(4, .int t0), (0, .ref (w.2.1 3)), (1, .ref (w.2.1 k1)), (2, .int x2), (3, .int x3)]) hx hb dX2_doOrder_81 hl (by decide) rfl (fun ls hl => ?_)
  refine va_gets (pc := 83) hx hb hX.2.2.1 hR.2 hown (hts _ (Uin mw101)) (fun _ h9 => h9) dX2_doOrder_83 ?_
  refine lv_iload_n (pc := 86) hx hb dX2_doOrder_86 rfl (lv_at hl 3 rfl) ?_
  have g_12 := h.1
  have h := h.2
  refine va_ti (pc := 87) (t := w.2.1 1001) (N := 18) (f := fun j => .int (jT j)) (v := .int (jT x2.toNatClampNeg)) hx hb hX.2.2.2 hR.2 g_12 rfl dX2_doOrder_87 ?_
  refine lv_iconst (pc := 88) (v := 1) hx hb dX2_doOrder_88 (by decide) ?_
  refine lv_icmp_ne (pc := 89) (tgt := 100) hx hb dX2_doOrder_89 (by decide) (fun c_13 => ?_) (fun c_13 => ?_)
  · have h := h.2 c_13
    refine lv_sipush (pc := 100) (v := 255) hx hb dX2_doOrder_100 (by decide) ?_
    exact bX2_doOrder_103 l w N Q E k1 x2 x3 t0 255 hk1 hR (lv_sub hl [1, 2, 3, 4, 0] rfl) h
  · have h := h.1 c_13
    refine lv_aload_n (pc := 92) hx hb dX2_doOrder_92 rfl (lv_at hl 1 rfl) ?_
    refine lv_aload_n (pc := 93) hx hb dX2_doOrder_93 rfl (lv_at hl 2 rfl) ?_
    refine q_ci (pc := 94) hR (q_rV E (xp1 w) (As := [.ref (w.2.1 k1)]) (rest := []) (cX2_nextTarget_met l w hI N k1 hk1 _ σ h) ckX2_nextTarget cvX2_nextTarget mw80 ⟨rfl, rfl, Nat.le_of_ble_eq_true rfl, Nat.le_of_ble_eq_true rfl⟩ hR (rc1_3 w) rfl hl.1 rfl (Nat.le_of_ble_eq_true rfl) dX2_doOrder_94) (fun r_15 σ_14 H locs h hR => ?_)
    refine lv_goto (pc := 97) (tgt := 103) hx hb dX2_doOrder_97 (by decide) ?_
    exact bX2_doOrder_103 l w N Q E k1 x2 x3 t0 r_15 hk1 hR (lv_sub hl [1, 2, 3, 4, 0] rfl) h
def fX2_doOrder_j62 (N : Nat) (k1 : Nat) (x2 : Int32) (t0 : Int32) (Q : St → Prop) (σ : St) : Prop := vp_in x2 18 ∧ (((jV x2.toNatClampNeg) ≤ 1 → fX2_doOrder_j81 N k1 x2 t0 0 Q σ) ∧ (¬ (jV x2.toNatClampNeg) ≤ 1 → fX2_nextValue N k1 (fun r_13 σ_12 => fX2_doOrder_j81 N k1 x2 t0 r_13 Q σ_12) σ))
set_option maxHeartbeats 4000000 in
set_option maxRecDepth 100000 in
theorem bX2_doOrder_62 {p : Program} {e : Env} {s : State} {m : MethodId} {args : Array Value} {below : List Frame} {meth : Method} {c : Code} (l : Launch) (w : Wd) (N : Nat) (Q : St → Prop) (E : Cx 223 w (X1 w) cX2_doOrder 8 RX2 (.code yX2_doOrder cX2_doOrder 8 none) none p s m args meth c) (k1 : Nat) (x2 : Int32) (t0 : Int32) (hk1 : jobK k1) {σ : St} {H : Heap} {locs : List Loc} {ls : Array Slot} (hR : Rr 223 ev1 w σ s H locs) (hl : lv_has ls 8 [(0, .ref (w.2.1 3)), (1, .ref (w.2.1 k1)), (2, .int x2)]) (h : fX2_doOrder_j62 N k1 x2 t0 Q σ) : W p l e rmX2_doOrder s m args below meth c H locs 0 0 (MQ below (va_Qv Q (Rp 223 ev1 w) (Aw 223 w)) args s 0 0 (Aw 223 w)) (F0 m 62 ls [.int t0]) := by
  obtain ⟨hx, hb, hml, hown, hts, hr, hlk, hK, hI, hX⟩ := id E
  unfold fX2_doOrder_j62 at h
  refine lv_istore_n (pc := 62) (lv' := [(3, .int t0), (0, .ref (w.2.1 3)), (1, .ref (w.2.1 k1)), (2, .int x2)]) hx hb dX2_doOrder_62 rfl hl (by decide) rfl (fun ls hl => ?_)
  refine va_gets (pc := 63) hx hb hX.1 hR.2 hown (hts _ (Uin mw100)) (fun _ h9 => h9) dX2_doOrder_63 ?_
  refine lv_iload_n (pc := 66) hx hb dX2_doOrder_66 rfl (lv_at hl 3 rfl) ?_
  have g_10 := h.1
  have h := h.2
  refine va_ti (pc := 67) (t := w.2.1 1000) (N := 18) (f := fun j => .int (jV j)) (v := .int (jV x2.toNatClampNeg)) hx hb hX.2.1 hR.2 g_10 rfl dX2_doOrder_67 ?_
  refine lv_iconst (pc := 68) (v := 1) hx hb dX2_doOrder_68 (by decide) ?_
  refine lv_icmp_le (pc := 69) (tgt := 80) hx hb dX2_doOrder_69 (by decide) (fun c_11 => ?_) (fun c_11 => ?_)
  · have h := h.1 c_11
    refine lv_iconst (pc := 80) (v := 0) hx hb dX2_doOrder_80 (by decide) ?_
    exact bX2_doOrder_81 l w N Q E k1 x2 t0 0 hk1 hR (lv_sub hl [1, 2, 3, 0] rfl) h
  · have h := h.2 c_11
    refine lv_aload_n (pc := 72) hx hb dX2_doOrder_72 rfl (lv_at hl 1 rfl) ?_
    refine lv_aload_n (pc := 73) hx hb dX2_doOrder_73 rfl (lv_at hl 2 rfl) ?_
    refine q_ci (pc := 74) hR (q_rV E (xp1 w) (As := [.ref (w.2.1 k1)]) (rest := []) (cX2_nextValue_met l w hI N k1 hk1 _ σ h) ckX2_nextValue cvX2_nextValue mw79 ⟨rfl, rfl, Nat.le_of_ble_eq_true rfl, Nat.le_of_ble_eq_true rfl⟩ hR (rc1_3 w) rfl hl.1 rfl (Nat.le_of_ble_eq_true rfl) dX2_doOrder_74) (fun r_13 σ_12 H locs h hR => ?_)
    refine lv_goto (pc := 77) (tgt := 81) hx hb dX2_doOrder_77 (by decide) ?_
    exact bX2_doOrder_81 l w N Q E k1 x2 t0 r_13 hk1 hR (lv_sub hl [1, 2, 3, 0] rfl) h
def fX2_doOrder_j25 (N : Nat) (k1 : Nat) (x2 : Int32) (Q : St → Prop) (σ : St) : Prop := (((σ.1 3 11) = 0 → ((x2 = 6 → fX2_doCallOrder N k1 (fun σ_12 => Q σ_12) σ) ∧ (¬ x2 = 6 → vp_in x2 18 ∧ (((jV x2.toNatClampNeg) ≤ 0 → fX2_doOrder_j62 N k1 x2 0 Q σ) ∧ (¬ (jV x2.toNatClampNeg) ≤ 0 → fX2_nextValue N k1 (fun r_11 σ_10 => fX2_doOrder_j62 N k1 x2 r_11 Q σ_10) σ))))) ∧ (¬ (σ.1 3 11) = 0 → Q σ))
set_option maxHeartbeats 4000000 in
set_option maxRecDepth 100000 in
theorem bX2_doOrder_25 {p : Program} {e : Env} {s : State} {m : MethodId} {args : Array Value} {below : List Frame} {meth : Method} {c : Code} (l : Launch) (w : Wd) (N : Nat) (Q : St → Prop) (E : Cx 223 w (X1 w) cX2_doOrder 8 RX2 (.code yX2_doOrder cX2_doOrder 8 none) none p s m args meth c) (k1 : Nat) (x2 : Int32) (hk1 : jobK k1) {σ : St} {H : Heap} {locs : List Loc} {ls : Array Slot} (hR : Rr 223 ev1 w σ s H locs) (hl : lv_has ls 8 [(0, .ref (w.2.1 3)), (1, .ref (w.2.1 k1)), (2, .int x2)]) (h : fX2_doOrder_j25 N k1 x2 Q σ) : W p l e rmX2_doOrder s m args below meth c H locs 0 0 (MQ below (va_Qv Q (Rp 223 ev1 w) (Aw 223 w)) args s 0 0 (Aw 223 w)) (F0 m 25 ls []) := by
  obtain ⟨hx, hb, hml, hown, hts, hr, hlk, hK, hI, hX⟩ := id E
  unfold fX2_doOrder_j25 at h
  refine lv_aload_n (pc := 25) hx hb dX2_doOrder_25 rfl (lv_at hl 0 rfl) ?_
  refine gf1_3_11 (pc := 26) hx hb hts hown hK hR mw42 dX2_doOrder_26 ?_
  refine lv_if_eq (pc := 29) (tgt := 33) hx hb dX2_doOrder_29 (by decide) (fun c_6 => ?_) (fun c_6 => ?_)
  · have h := h.1 c_6
    refine lv_iload_n (pc := 33) hx hb dX2_doOrder_33 rfl (lv_at hl 2 rfl) ?_
    refine lv_bipush (pc := 34) (v := 6) hx hb dX2_doOrder_34 (by decide) ?_
    refine lv_icmp_ne (pc := 36) (tgt := 45) hx hb dX2_doOrder_36 (by decide) (fun c_7 => ?_) (fun c_7 => ?_)
    · have h := h.2 c_7
      refine va_gets (pc := 45) hx hb hX.1 hR.2 hown (hts _ (Uin mw100)) (fun _ h9 => h9) dX2_doOrder_45 ?_
      refine lv_iload_n (pc := 48) hx hb dX2_doOrder_48 rfl (lv_at hl 2 rfl) ?_
      have g_8 := h.1
      have h := h.2
      refine va_ti (pc := 49) (t := w.2.1 1000) (N := 18) (f := fun j => .int (jV j)) (v := .int (jV x2.toNatClampNeg)) hx hb hX.2.1 hR.2 g_8 rfl dX2_doOrder_49 ?_
      refine lv_if_le (pc := 50) (tgt := 61) hx hb dX2_doOrder_50 (by decide) (fun c_9 => ?_) (fun c_9 => ?_)
      · have h := h.1 c_9
        refine lv_iconst (pc := 61) (v := 0) hx hb dX2_doOrder_61 (by decide) ?_
        exact bX2_doOrder_62 l w N Q E k1 x2 0 hk1 hR (lv_sub hl [0, 1, 2] rfl) h
      · have h := h.2 c_9
        refine lv_aload_n (pc := 53) hx hb dX2_doOrder_53 rfl (lv_at hl 0 rfl) ?_
        refine lv_aload_n (pc := 54) hx hb dX2_doOrder_54 rfl (lv_at hl 1 rfl) ?_
        refine q_ci (pc := 55) hR (q_rV E (xp1 w) (As := [.ref (w.2.1 k1)]) (rest := []) (cX2_nextValue_met l w hI N k1 hk1 _ σ h) ckX2_nextValue cvX2_nextValue mw79 ⟨rfl, rfl, Nat.le_of_ble_eq_true rfl, Nat.le_of_ble_eq_true rfl⟩ hR (rc1_3 w) rfl hl.1 rfl (Nat.le_of_ble_eq_true rfl) dX2_doOrder_55) (fun r_11 σ_10 H locs h hR => ?_)
        refine lv_goto (pc := 58) (tgt := 62) hx hb dX2_doOrder_58 (by decide) ?_
        exact bX2_doOrder_62 l w N Q E k1 x2 r_11 hk1 hR (lv_sub hl [0, 1, 2] rfl) h
    · have h := h.1 c_7
      refine lv_aload_n (pc := 39) hx hb dX2_doOrder_39 rfl (lv_at hl 0 rfl) ?_
      refine lv_aload_n (pc := 40) hx hb dX2_doOrder_40 rfl (lv_at hl 1 rfl) ?_
      refine q_cv (pc := 41) hR (q_rV E (xp1 w) (As := [.ref (w.2.1 k1)]) (rest := []) (cX2_doCallOrder_met l w hI N k1 hk1 _ σ h) ckX2_doCallOrder cvX2_doCallOrder mw106 ⟨rfl, rfl, Nat.le_of_ble_eq_true rfl, Nat.le_of_ble_eq_true rfl⟩ hR (rc1_3 w) rfl hl.1 rfl (Nat.le_of_ble_eq_true rfl) dX2_doOrder_41) (fun σ_12 H locs h hR => ?_)
      exact q_vret (pc := 44) E hR h dX2_doOrder_44
  · have h := h.2 c_6
    exact q_vret (pc := 32) E hR h dX2_doOrder_32
def fX2_doOrder (N : Nat) (k1 : Nat) (Q : St → Prop) (σ : St) : Prop := ∀ v_1 : Int32, v_1 = σ.1 k1 2 → ∀ σ_2 : St, σ_2 = u1 σ 3 12 v_1 → fX2_nextByte N (fun r_4 σ_3 => ((r_4 ≤ 17 → fX2_doOrder_j25 N k1 r_4 Q σ_3) ∧ (¬ r_4 ≤ 17 → fX2_fail N 6 (fun σ_6 => fX2_doOrder_j25 N k1 r_4 Q σ_6) σ_3))) σ_2
set_option maxHeartbeats 4000000 in
set_option maxRecDepth 100000 in
theorem bX2_doOrder_e {p : Program} {e : Env} {s : State} {m : MethodId} {args : Array Value} {below : List Frame} {meth : Method} {c : Code} (l : Launch) (w : Wd) (N : Nat) (Q : St → Prop) (E : Cx 223 w (X1 w) cX2_doOrder 8 RX2 (.code yX2_doOrder cX2_doOrder 8 none) none p s m args meth c) (k1 : Nat) (hk1 : jobK k1) {σ : St} {H : Heap} {locs : List Loc} {ls : Array Slot} (hR : Rr 223 ev1 w σ s H locs) (hl : lv_has ls 8 [(0, .ref (w.2.1 3)), (1, .ref (w.2.1 k1))]) (h : fX2_doOrder N k1 Q σ) : W p l e rmX2_doOrder s m args below meth c H locs 0 0 (MQ below (va_Qv Q (Rp 223 ev1 w) (Aw 223 w)) args s 0 0 (Aw 223 w)) (F0 m 0 ls []) := by
  obtain ⟨hx, hb, hml, hown, hts, hr, hlk, hK, hI, hX⟩ := id E
  unfold fX2_doOrder at h
  refine lv_aload_n (pc := 0) hx hb dX2_doOrder_0 rfl (lv_at hl 0 rfl) ?_
  refine lv_aload_n (pc := 1) hx hb dX2_doOrder_1 rfl (lv_at hl 1 rfl) ?_
  refine gfj_2 (pc := 2) hk1 hx hb hts hown hK hR mw81 dX2_doOrder_2 ?_
  refine lv_topi (pc := 5) (fun v_1 ev_1 => ?_)
  have h := h v_1 ev_1
  refine pf1_3_12 (pc := 5) hx hb hts hown hK hI hR mw62 dX2_doOrder_5 (fun H locs σ_2 eσ_2 hR => ?_)
  have h := h σ_2 eσ_2
  refine lv_aload_n (pc := 8) hx hb dX2_doOrder_8 rfl (lv_at hl 0 rfl) ?_
  refine q_ci (pc := 9) hR (q_rV E (xp1 w) (As := []) (rest := []) (cX2_nextByte_met l w hI N _ σ_2 h) ckX2_nextByte cvX2_nextByte mw68 ⟨rfl, rfl, Nat.le_of_ble_eq_true rfl, Nat.le_of_ble_eq_true rfl⟩ hR (rc1_3 w) rfl hl.1 rfl (Nat.le_of_ble_eq_true rfl) dX2_doOrder_9) (fun r_4 σ_3 H locs h hR => ?_)
  refine lv_istore_n (pc := 12) (lv' := [(2, .int r_4), (0, .ref (w.2.1 3)), (1, .ref (w.2.1 k1))]) hx hb dX2_doOrder_12 rfl hl (by decide) rfl (fun ls hl => ?_)
  refine lv_iload_n (pc := 13) hx hb dX2_doOrder_13 rfl (lv_at hl 0 rfl) ?_
  refine lv_bipush (pc := 14) (v := 17) hx hb dX2_doOrder_14 (by decide) ?_
  refine lv_icmp_le (pc := 16) (tgt := 25) hx hb dX2_doOrder_16 (by decide) (fun c_5 => ?_) (fun c_5 => ?_)
  · have h := h.1 c_5
    exact bX2_doOrder_25 l w N Q E k1 r_4 hk1 hR (lv_sub hl [1, 2, 0] rfl) h
  · have h := h.2 c_5
    refine lv_aload_n (pc := 19) hx hb dX2_doOrder_19 rfl (lv_at hl 1 rfl) ?_
    refine lv_bipush (pc := 20) (v := 6) hx hb dX2_doOrder_20 (by decide) ?_
    refine q_cv (pc := 22) hR (q_rV E (xp1 w) (As := [.int 6]) (rest := []) (cX2_fail_met l w hI N 6 _ σ_3 h) ckX2_fail cvX2_fail mw46 ⟨rfl, rfl, Nat.le_of_ble_eq_true rfl, Nat.le_of_ble_eq_true rfl⟩ hR (rc1_3 w) rfl hl.1 rfl (Nat.le_of_ble_eq_true rfl) dX2_doOrder_22) (fun σ_6 H locs h hR => ?_)
    exact bX2_doOrder_25 l w N Q E k1 r_4 hk1 hR (lv_sub hl [1, 2, 0] rfl) h
theorem cX2_doOrder_met (l : Launch) (w : Wd) (hI : Ij 223 w) (N : Nat) (k1 : Nat) (hk1 : jobK k1) (Q : St → Prop) (σ : St) (h : fX2_doOrder N k1 Q σ) : Met l yX2_doOrder (.code yX2_doOrder cX2_doOrder 8 none :: Uw) rmX2_doOrder (va_Pc [.ref (w.2.1 3), .ref (w.2.1 k1)] (fun U => Rp 223 ev1 w σ U ∧ (X1 w) U)) (va_Qv Q (Rp 223 ev1 w) (Aw 223 w)) 0 0 (Aw 223 w) :=
  q_met (by decide) (Nat.le_of_ble_eq_true rfl) hI (fun p e s m below meth c ls E hl hR => bX2_doOrder_e l w N Q E k1 hk1 hR hl h)
-- GlulxStrings$Machine.stepPlain(LGlulxStrings$Job;)V
abbrev rmX2_stepPlain : Room := { frames := 4, cells := 0, slots := 0, locals := 93 }
def fX2_stepPlain (N : Nat) (k1 : Nat) (Q : St → Prop) (σ : St) : Prop := fX2_readByte N (σ.1 k1 2) (fun r_2 σ_1 => (((σ_1.1 3 11) = 0 → ((r_2 = 0 → ∀ v_8 : Int32, v_8 = (σ_1.1 3 7) - 1 → ∀ σ_9 : St, σ_9 = u1 σ_1 3 7 v_8 → Q σ_9) ∧ (¬ r_2 = 0 → ∀ v_5 : Int32, v_5 = (σ_1.1 k1 2) + 1 → ∀ σ_6 : St, σ_6 = u1 σ_1 k1 2 v_5 → fX2_give N r_2 (fun σ_7 => Q σ_7) σ_6))) ∧ (¬ (σ_1.1 3 11) = 0 → Q σ_1))) σ
set_option maxHeartbeats 4000000 in
set_option maxRecDepth 100000 in
theorem bX2_stepPlain_e {p : Program} {e : Env} {s : State} {m : MethodId} {args : Array Value} {below : List Frame} {meth : Method} {c : Code} (l : Launch) (w : Wd) (N : Nat) (Q : St → Prop) (E : Cx 223 w (X1 w) cX2_stepPlain 3 RX2 (.code yX2_stepPlain cX2_stepPlain 3 none) none p s m args meth c) (k1 : Nat) (hk1 : jobK k1) {σ : St} {H : Heap} {locs : List Loc} {ls : Array Slot} (hR : Rr 223 ev1 w σ s H locs) (hl : lv_has ls 3 [(0, .ref (w.2.1 3)), (1, .ref (w.2.1 k1))]) (h : fX2_stepPlain N k1 Q σ) : W p l e rmX2_stepPlain s m args below meth c H locs 0 0 (MQ below (va_Qv Q (Rp 223 ev1 w) (Aw 223 w)) args s 0 0 (Aw 223 w)) (F0 m 0 ls []) := by
  obtain ⟨hx, hb, hml, hown, hts, hr, hlk, hK, hI, hX⟩ := id E
  unfold fX2_stepPlain at h
  refine lv_aload_n (pc := 0) hx hb dX2_stepPlain_0 rfl (lv_at hl 0 rfl) ?_
  refine lv_aload_n (pc := 1) hx hb dX2_stepPlain_1 rfl (lv_at hl 1 rfl) ?_
  refine gfj_2 (pc := 2) hk1 hx hb hts hown hK hR mw81 dX2_stepPlain_2 ?_
  refine q_ci (pc := 5) hR (q_rV E (xp1 w) (As := [.int (σ.1 k1 2)]) (rest := []) (cX2_readByte_met l w hI N (σ.1 k1 2) _ σ h) ckX2_readByte cvX2_readByte mw60 ⟨rfl, rfl, Nat.le_of_ble_eq_true rfl, Nat.le_of_ble_eq_true rfl⟩ hR (rc1_3 w) rfl hl.1 rfl (Nat.le_of_ble_eq_true rfl) dX2_stepPlain_5) (fun r_2 σ_1 H locs h hR => ?_)
  refine lv_istore_n (pc := 8) (lv' := [(2, .int r_2), (0, .ref (w.2.1 3)), (1, .ref (w.2.1 k1))]) hx hb dX2_stepPlain_8 rfl hl (by decide) rfl (fun ls hl => ?_)
  refine lv_aload_n (pc := 9) hx hb dX2_stepPlain_9 rfl (lv_at hl 1 rfl) ?_
  refine gf1_3_11 (pc := 10) hx hb hts hown hK hR mw42 dX2_stepPlain_10 ?_
  refine lv_if_eq (pc := 13) (tgt := 17) hx hb dX2_stepPlain_13 (by decide) (fun c_3 => ?_) (fun c_3 => ?_)
  · have h := h.1 c_3
    refine lv_iload_n (pc := 17) hx hb dX2_stepPlain_17 rfl (lv_at hl 0 rfl) ?_
    refine lv_if_ne (pc := 18) (tgt := 32) hx hb dX2_stepPlain_18 (by decide) (fun c_4 => ?_) (fun c_4 => ?_)
    · have h := h.2 c_4
      refine lv_aload_n (pc := 32) hx hb dX2_stepPlain_32 rfl (lv_at hl 2 rfl) ?_
      refine lv_dup (pc := 33) hx hb dX2_stepPlain_33 rfl ?_
      refine gfj_2 (pc := 34) hk1 hx hb hts hown hK hR mw81 dX2_stepPlain_34 ?_
      refine lv_iconst (pc := 37) (v := 1) hx hb dX2_stepPlain_37 (by decide) ?_
      refine lv_iadd (pc := 38) hx hb dX2_stepPlain_38 ?_
      refine lv_topi (pc := 39) (fun v_5 ev_5 => ?_)
      have h := h v_5 ev_5
      refine pfj_2 (pc := 39) hk1 hx hb hts hown hK hI hR mw81 dX2_stepPlain_39 (fun H locs σ_6 eσ_6 hR => ?_)
      have h := h σ_6 eσ_6
      refine lv_aload_n (pc := 42) hx hb dX2_stepPlain_42 rfl (lv_at hl 1 rfl) ?_
      refine lv_iload_n (pc := 43) hx hb dX2_stepPlain_43 rfl (lv_at hl 0 rfl) ?_
      refine q_cv (pc := 44) hR (q_rV E (xp1 w) (As := [.int r_2]) (rest := []) (cX2_give_met l w hI N r_2 _ σ_6 h) ckX2_give cvX2_give mw95 ⟨rfl, rfl, Nat.le_of_ble_eq_true rfl, Nat.le_of_ble_eq_true rfl⟩ hR (rc1_3 w) rfl hl.1 rfl (Nat.le_of_ble_eq_true rfl) dX2_stepPlain_44) (fun σ_7 H locs h hR => ?_)
      exact q_vret (pc := 47) E hR h dX2_stepPlain_47
    · have h := h.1 c_4
      refine lv_aload_n (pc := 21) hx hb dX2_stepPlain_21 rfl (lv_at hl 1 rfl) ?_
      refine lv_dup (pc := 22) hx hb dX2_stepPlain_22 rfl ?_
      refine gf1_3_7 (pc := 23) hx hb hts hown hK hR mw54 dX2_stepPlain_23 ?_
      refine lv_iconst (pc := 26) (v := 1) hx hb dX2_stepPlain_26 (by decide) ?_
      refine lv_isub (pc := 27) hx hb dX2_stepPlain_27 ?_
      refine lv_topi (pc := 28) (fun v_8 ev_8 => ?_)
      have h := h v_8 ev_8
      refine pf1_3_7 (pc := 28) hx hb hts hown hK hI hR mw54 dX2_stepPlain_28 (fun H locs σ_9 eσ_9 hR => ?_)
      have h := h σ_9 eσ_9
      exact q_vret (pc := 31) E hR h dX2_stepPlain_31
  · have h := h.2 c_3
    exact q_vret (pc := 16) E hR h dX2_stepPlain_16
theorem cX2_stepPlain_met (l : Launch) (w : Wd) (hI : Ij 223 w) (N : Nat) (k1 : Nat) (hk1 : jobK k1) (Q : St → Prop) (σ : St) (h : fX2_stepPlain N k1 Q σ) : Met l yX2_stepPlain (.code yX2_stepPlain cX2_stepPlain 3 none :: Uw) rmX2_stepPlain (va_Pc [.ref (w.2.1 3), .ref (w.2.1 k1)] (fun U => Rp 223 ev1 w σ U ∧ (X1 w) U)) (va_Qv Q (Rp 223 ev1 w) (Aw 223 w)) 0 0 (Aw 223 w) :=
  q_met (by decide) (Nat.le_of_ble_eq_true rfl) hI (fun p e s m below meth c ls E hl hR => bX2_stepPlain_e l w N Q E k1 hk1 hR hl h)
-- GlulxStrings$Machine.stepWide(LGlulxStrings$Job;)V
abbrev rmX2_stepWide : Room := { frames := 4, cells := 0, slots := 0, locals := 93 }
def fX2_stepWide (N : Nat) (k1 : Nat) (Q : St → Prop) (σ : St) : Prop := fX2_readFour N (σ.1 k1 2) (fun r_2 σ_1 => (((σ_1.1 3 11) = 0 → ((r_2 = 0 → ∀ v_8 : Int32, v_8 = (σ_1.1 3 7) - 1 → ∀ σ_9 : St, σ_9 = u1 σ_1 3 7 v_8 → Q σ_9) ∧ (¬ r_2 = 0 → ∀ v_5 : Int32, v_5 = (σ_1.1 k1 2) + 4 → ∀ σ_6 : St, σ_6 = u1 σ_1 k1 2 v_5 → fX2_give N r_2 (fun σ_7 => Q σ_7) σ_6))) ∧ (¬ (σ_1.1 3 11) = 0 → Q σ_1))) σ
set_option maxHeartbeats 4000000 in
set_option maxRecDepth 100000 in
theorem bX2_stepWide_e {p : Program} {e : Env} {s : State} {m : MethodId} {args : Array Value} {below : List Frame} {meth : Method} {c : Code} (l : Launch) (w : Wd) (N : Nat) (Q : St → Prop) (E : Cx 223 w (X1 w) cX2_stepWide 3 RX2 (.code yX2_stepWide cX2_stepWide 3 none) none p s m args meth c) (k1 : Nat) (hk1 : jobK k1) {σ : St} {H : Heap} {locs : List Loc} {ls : Array Slot} (hR : Rr 223 ev1 w σ s H locs) (hl : lv_has ls 3 [(0, .ref (w.2.1 3)), (1, .ref (w.2.1 k1))]) (h : fX2_stepWide N k1 Q σ) : W p l e rmX2_stepWide s m args below meth c H locs 0 0 (MQ below (va_Qv Q (Rp 223 ev1 w) (Aw 223 w)) args s 0 0 (Aw 223 w)) (F0 m 0 ls []) := by
  obtain ⟨hx, hb, hml, hown, hts, hr, hlk, hK, hI, hX⟩ := id E
  unfold fX2_stepWide at h
  refine lv_aload_n (pc := 0) hx hb dX2_stepWide_0 rfl (lv_at hl 0 rfl) ?_
  refine lv_aload_n (pc := 1) hx hb dX2_stepWide_1 rfl (lv_at hl 1 rfl) ?_
  refine gfj_2 (pc := 2) hk1 hx hb hts hown hK hR mw81 dX2_stepWide_2 ?_
  refine q_ci (pc := 5) hR (q_rV E (xp1 w) (As := [.int (σ.1 k1 2)]) (rest := []) (cX2_readFour_met l w hI N (σ.1 k1 2) _ σ h) ckX2_readFour cvX2_readFour mw65 ⟨rfl, rfl, Nat.le_of_ble_eq_true rfl, Nat.le_of_ble_eq_true rfl⟩ hR (rc1_3 w) rfl hl.1 rfl (Nat.le_of_ble_eq_true rfl) dX2_stepWide_5) (fun r_2 σ_1 H locs h hR => ?_)
  refine lv_istore_n (pc := 8) (lv' := [(2, .int r_2), (0, .ref (w.2.1 3)), (1, .ref (w.2.1 k1))]) hx hb dX2_stepWide_8 rfl hl (by decide) rfl (fun ls hl => ?_)
  refine lv_aload_n (pc := 9) hx hb dX2_stepWide_9 rfl (lv_at hl 1 rfl) ?_
  refine gf1_3_11 (pc := 10) hx hb hts hown hK hR mw42 dX2_stepWide_10 ?_
  refine lv_if_eq (pc := 13) (tgt := 17) hx hb dX2_stepWide_13 (by decide) (fun c_3 => ?_) (fun c_3 => ?_)
  · have h := h.1 c_3
    refine lv_iload_n (pc := 17) hx hb dX2_stepWide_17 rfl (lv_at hl 0 rfl) ?_
    refine lv_if_ne (pc := 18) (tgt := 32) hx hb dX2_stepWide_18 (by decide) (fun c_4 => ?_) (fun c_4 => ?_)
    · have h := h.2 c_4
      refine lv_aload_n (pc := 32) hx hb dX2_stepWide_32 rfl (lv_at hl 2 rfl) ?_
      refine lv_dup (pc := 33) hx hb dX2_stepWide_33 rfl ?_
      refine gfj_2 (pc := 34) hk1 hx hb hts hown hK hR mw81 dX2_stepWide_34 ?_
      refine lv_iconst (pc := 37) (v := 4) hx hb dX2_stepWide_37 (by decide) ?_
      refine lv_iadd (pc := 38) hx hb dX2_stepWide_38 ?_
      refine lv_topi (pc := 39) (fun v_5 ev_5 => ?_)
      have h := h v_5 ev_5
      refine pfj_2 (pc := 39) hk1 hx hb hts hown hK hI hR mw81 dX2_stepWide_39 (fun H locs σ_6 eσ_6 hR => ?_)
      have h := h σ_6 eσ_6
      refine lv_aload_n (pc := 42) hx hb dX2_stepWide_42 rfl (lv_at hl 1 rfl) ?_
      refine lv_iload_n (pc := 43) hx hb dX2_stepWide_43 rfl (lv_at hl 0 rfl) ?_
      refine q_cv (pc := 44) hR (q_rV E (xp1 w) (As := [.int r_2]) (rest := []) (cX2_give_met l w hI N r_2 _ σ_6 h) ckX2_give cvX2_give mw95 ⟨rfl, rfl, Nat.le_of_ble_eq_true rfl, Nat.le_of_ble_eq_true rfl⟩ hR (rc1_3 w) rfl hl.1 rfl (Nat.le_of_ble_eq_true rfl) dX2_stepWide_44) (fun σ_7 H locs h hR => ?_)
      exact q_vret (pc := 47) E hR h dX2_stepWide_47
    · have h := h.1 c_4
      refine lv_aload_n (pc := 21) hx hb dX2_stepWide_21 rfl (lv_at hl 1 rfl) ?_
      refine lv_dup (pc := 22) hx hb dX2_stepWide_22 rfl ?_
      refine gf1_3_7 (pc := 23) hx hb hts hown hK hR mw54 dX2_stepWide_23 ?_
      refine lv_iconst (pc := 26) (v := 1) hx hb dX2_stepWide_26 (by decide) ?_
      refine lv_isub (pc := 27) hx hb dX2_stepWide_27 ?_
      refine lv_topi (pc := 28) (fun v_8 ev_8 => ?_)
      have h := h v_8 ev_8
      refine pf1_3_7 (pc := 28) hx hb hts hown hK hI hR mw54 dX2_stepWide_28 (fun H locs σ_9 eσ_9 hR => ?_)
      have h := h σ_9 eσ_9
      exact q_vret (pc := 31) E hR h dX2_stepWide_31
  · have h := h.2 c_3
    exact q_vret (pc := 16) E hR h dX2_stepWide_16
theorem cX2_stepWide_met (l : Launch) (w : Wd) (hI : Ij 223 w) (N : Nat) (k1 : Nat) (hk1 : jobK k1) (Q : St → Prop) (σ : St) (h : fX2_stepWide N k1 Q σ) : Met l yX2_stepWide (.code yX2_stepWide cX2_stepWide 3 none :: Uw) rmX2_stepWide (va_Pc [.ref (w.2.1 3), .ref (w.2.1 k1)] (fun U => Rp 223 ev1 w σ U ∧ (X1 w) U)) (va_Qv Q (Rp 223 ev1 w) (Aw 223 w)) 0 0 (Aw 223 w) :=
  q_met (by decide) (Nat.le_of_ble_eq_true rfl) hI (fun p e s m below meth c ls E hl hR => bX2_stepWide_e l w N Q E k1 hk1 hR hl h)
-- GlulxStrings$Machine.followBranch(LGlulxStrings$Job;I)V
abbrev rmX2_followBranch : Room := { frames := 2, cells := 0, slots := 0, locals := 42 }
def fX2_followBranch (N : Nat) (k1 : Nat) (x2 : Int32) (Q : St → Prop) (σ : St) : Prop := fX2_readByte N (σ.1 k1 2) (fun r_2 σ_1 => ∀ v_3 : Int32, v_3 = (r_2 >>> ((σ_1.1 k1 3) &&& 31)) &&& 1 → fX2_readFour N ((x2 + 1) + (4 * v_3)) (fun r_5 σ_4 => (((σ_4.1 3 11) = 0 → ∀ σ_7 : St, σ_7 = u1 σ_4 k1 6 r_5 → ∀ σ_8 : St, σ_8 = u1 σ_7 k1 5 0 → ∀ v_9 : Int32, v_9 = (σ_8.1 k1 3) + 1 → ∀ σ_10 : St, σ_10 = u1 σ_8 k1 3 v_9 → (((σ_10.1 k1 3) = 8 → ∀ σ_12 : St, σ_12 = u1 σ_10 k1 3 0 → ∀ v_13 : Int32, v_13 = (σ_12.1 k1 2) + 1 → ∀ σ_14 : St, σ_14 = u1 σ_12 k1 2 v_13 → Q σ_14) ∧ (¬ (σ_10.1 k1 3) = 8 → Q σ_10))) ∧ (¬ (σ_4.1 3 11) = 0 → Q σ_4))) σ_1) σ
set_option maxHeartbeats 4000000 in
set_option maxRecDepth 100000 in
theorem bX2_followBranch_e {p : Program} {e : Env} {s : State} {m : MethodId} {args : Array Value} {below : List Frame} {meth : Method} {c : Code} (l : Launch) (w : Wd) (N : Nat) (Q : St → Prop) (E : Cx 223 w (X1 w) cX2_followBranch 5 RX2 (.code yX2_followBranch cX2_followBranch 5 none) none p s m args meth c) (k1 : Nat) (x2 : Int32) (hk1 : jobK k1) {σ : St} {H : Heap} {locs : List Loc} {ls : Array Slot} (hR : Rr 223 ev1 w σ s H locs) (hl : lv_has ls 5 [(0, .ref (w.2.1 3)), (1, .ref (w.2.1 k1)), (2, .int x2)]) (h : fX2_followBranch N k1 x2 Q σ) : W p l e rmX2_followBranch s m args below meth c H locs 0 0 (MQ below (va_Qv Q (Rp 223 ev1 w) (Aw 223 w)) args s 0 0 (Aw 223 w)) (F0 m 0 ls []) := by
  obtain ⟨hx, hb, hml, hown, hts, hr, hlk, hK, hI, hX⟩ := id E
  unfold fX2_followBranch at h
  refine lv_aload_n (pc := 0) hx hb dX2_followBranch_0 rfl (lv_at hl 0 rfl) ?_
  refine lv_aload_n (pc := 1) hx hb dX2_followBranch_1 rfl (lv_at hl 1 rfl) ?_
  refine gfj_2 (pc := 2) hk1 hx hb hts hown hK hR mw81 dX2_followBranch_2 ?_
  refine q_ci (pc := 5) hR (q_rV E (xp1 w) (As := [.int (σ.1 k1 2)]) (rest := []) (cX2_readByte_met l w hI N (σ.1 k1 2) _ σ h) ckX2_readByte cvX2_readByte mw60 ⟨rfl, rfl, Nat.le_of_ble_eq_true rfl, Nat.le_of_ble_eq_true rfl⟩ hR (rc1_3 w) rfl hl.1 rfl (Nat.le_of_ble_eq_true rfl) dX2_followBranch_5) (fun r_2 σ_1 H locs h hR => ?_)
  refine lv_aload_n (pc := 8) hx hb dX2_followBranch_8 rfl (lv_at hl 1 rfl) ?_
  refine gfj_3 (pc := 9) hk1 hx hb hts hown hK hR mw107 dX2_followBranch_9 ?_
  refine lv_ishr (pc := 12) hx hb dX2_followBranch_12 ?_
  refine lv_iconst (pc := 13) (v := 1) hx hb dX2_followBranch_13 (by decide) ?_
  refine lv_iand (pc := 14) hx hb dX2_followBranch_14 ?_
  refine lv_topi (pc := 15) (fun v_3 ev_3 => ?_)
  have h := h v_3 ev_3
  refine lv_istore_n (pc := 15) (lv' := [(3, .int v_3), (0, .ref (w.2.1 3)), (1, .ref (w.2.1 k1)), (2, .int x2)]) hx hb dX2_followBranch_15 rfl hl (by decide) rfl (fun ls hl => ?_)
  refine lv_aload_n (pc := 16) hx hb dX2_followBranch_16 rfl (lv_at hl 1 rfl) ?_
  refine lv_iload_n (pc := 17) hx hb dX2_followBranch_17 rfl (lv_at hl 3 rfl) ?_
  refine lv_iconst (pc := 18) (v := 1) hx hb dX2_followBranch_18 (by decide) ?_
  refine lv_iadd (pc := 19) hx hb dX2_followBranch_19 ?_
  refine lv_iconst (pc := 20) (v := 4) hx hb dX2_followBranch_20 (by decide) ?_
  refine lv_iload_n (pc := 21) hx hb dX2_followBranch_21 rfl (lv_at hl 0 rfl) ?_
  refine lv_imul (pc := 22) hx hb dX2_followBranch_22 ?_
  refine lv_iadd (pc := 23) hx hb dX2_followBranch_23 ?_
  refine q_ci (pc := 24) hR (q_rV E (xp1 w) (As := [.int ((x2 + 1) + (4 * v_3))]) (rest := []) (cX2_readFour_met l w hI N ((x2 + 1) + (4 * v_3)) _ σ_1 h) ckX2_readFour cvX2_readFour mw65 ⟨rfl, rfl, Nat.le_of_ble_eq_true rfl, Nat.le_of_ble_eq_true rfl⟩ hR (rc1_3 w) rfl hl.1 rfl (Nat.le_of_ble_eq_true rfl) dX2_followBranch_24) (fun r_5 σ_4 H locs h hR => ?_)
  refine lv_istore (pc := 27) (lv' := [(4, .int r_5), (3, .int v_3), (0, .ref (w.2.1 3)), (1, .ref (w.2.1 k1)), (2, .int x2)]) hx hb dX2_followBranch_27 hl (by decide) rfl (fun ls hl => ?_)
  refine lv_aload_n (pc := 29) hx hb dX2_followBranch_29 rfl (lv_at hl 2 rfl) ?_
  refine gf1_3_11 (pc := 30) hx hb hts hown hK hR mw42 dX2_followBranch_30 ?_
  refine lv_if_eq (pc := 33) (tgt := 37) hx hb dX2_followBranch_33 (by decide) (fun c_6 => ?_) (fun c_6 => ?_)
  · have h := h.1 c_6
    refine lv_aload_n (pc := 37) hx hb dX2_followBranch_37 rfl (lv_at hl 3 rfl) ?_
    refine lv_iload (pc := 38) hx hb dX2_followBranch_38 (lv_at hl 0 rfl) ?_
    refine pfj_6 (pc := 40) hk1 hx hb hts hown hK hI hR mw108 dX2_followBranch_40 (fun H locs σ_7 eσ_7 hR => ?_)
    have h := h σ_7 eσ_7
    refine lv_aload_n (pc := 43) hx hb dX2_followBranch_43 rfl (lv_at hl 3 rfl) ?_
    refine lv_iconst (pc := 44) (v := 0) hx hb dX2_followBranch_44 (by decide) ?_
    refine pfj_5 (pc := 45) hk1 hx hb hts hown hK hI hR mw109 rfl rfl dX2_followBranch_45 (fun H locs σ_8 eσ_8 hR => ?_)
    have h := h σ_8 eσ_8
    refine lv_aload_n (pc := 48) hx hb dX2_followBranch_48 rfl (lv_at hl 3 rfl) ?_
    refine lv_dup (pc := 49) hx hb dX2_followBranch_49 rfl ?_
    refine gfj_3 (pc := 50) hk1 hx hb hts hown hK hR mw107 dX2_followBranch_50 ?_
    refine lv_iconst (pc := 53) (v := 1) hx hb dX2_followBranch_53 (by decide) ?_
    refine lv_iadd (pc := 54) hx hb dX2_followBranch_54 ?_
    refine lv_topi (pc := 55) (fun v_9 ev_9 => ?_)
    have h := h v_9 ev_9
    refine pfj_3 (pc := 55) hk1 hx hb hts hown hK hI hR mw107 dX2_followBranch_55 (fun H locs σ_10 eσ_10 hR => ?_)
    have h := h σ_10 eσ_10
    refine lv_aload_n (pc := 58) hx hb dX2_followBranch_58 rfl (lv_at hl 3 rfl) ?_
    refine gfj_3 (pc := 59) hk1 hx hb hts hown hK hR mw107 dX2_followBranch_59 ?_
    refine lv_bipush (pc := 62) (v := 8) hx hb dX2_followBranch_62 (by decide) ?_
    refine lv_icmp_ne (pc := 64) (tgt := 82) hx hb dX2_followBranch_64 (by decide) (fun c_11 => ?_) (fun c_11 => ?_)
    · have h := h.2 c_11
      exact q_vret (pc := 82) E hR h dX2_followBranch_82
    · have h := h.1 c_11
      refine lv_aload_n (pc := 67) hx hb dX2_followBranch_67 rfl (lv_at hl 3 rfl) ?_
      refine lv_iconst (pc := 68) (v := 0) hx hb dX2_followBranch_68 (by decide) ?_
      refine pfj_3 (pc := 69) hk1 hx hb hts hown hK hI hR mw107 dX2_followBranch_69 (fun H locs σ_12 eσ_12 hR => ?_)
      have h := h σ_12 eσ_12
      refine lv_aload_n (pc := 72) hx hb dX2_followBranch_72 rfl (lv_at hl 3 rfl) ?_
      refine lv_dup (pc := 73) hx hb dX2_followBranch_73 rfl ?_
      refine gfj_2 (pc := 74) hk1 hx hb hts hown hK hR mw81 dX2_followBranch_74 ?_
      refine lv_iconst (pc := 77) (v := 1) hx hb dX2_followBranch_77 (by decide) ?_
      refine lv_iadd (pc := 78) hx hb dX2_followBranch_78 ?_
      refine lv_topi (pc := 79) (fun v_13 ev_13 => ?_)
      have h := h v_13 ev_13
      refine pfj_2 (pc := 79) hk1 hx hb hts hown hK hI hR mw81 dX2_followBranch_79 (fun H locs σ_14 eσ_14 hR => ?_)
      have h := h σ_14 eσ_14
      exact q_vret (pc := 82) E hR h dX2_followBranch_82
  · have h := h.2 c_6
    exact q_vret (pc := 36) E hR h dX2_followBranch_36
theorem cX2_followBranch_met (l : Launch) (w : Wd) (hI : Ij 223 w) (N : Nat) (k1 : Nat) (x2 : Int32) (hk1 : jobK k1) (Q : St → Prop) (σ : St) (h : fX2_followBranch N k1 x2 Q σ) : Met l yX2_followBranch (.code yX2_followBranch cX2_followBranch 5 none :: Uw) rmX2_followBranch (va_Pc [.ref (w.2.1 3), .ref (w.2.1 k1), .int x2] (fun U => Rp 223 ev1 w σ U ∧ (X1 w) U)) (va_Qv Q (Rp 223 ev1 w) (Aw 223 w)) 0 0 (Aw 223 w) :=
  q_met (by decide) (Nat.le_of_ble_eq_true rfl) hI (fun p e s m below meth c ls E hl hR => bX2_followBranch_e l w N Q E k1 x2 hk1 hR hl h)
-- GlulxStrings$Machine.readArguments(I)V
abbrev rmX2_readArguments : Room := { frames := 2, cells := 0, slots := 0, locals := 42 }
def fX2_readArguments_j15 (N : Nat) (Q : St → Prop) (σ : St) : Prop := fX2_fail N 5 (fun σ_4 => Q σ_4) σ
set_option maxHeartbeats 4000000 in
set_option maxRecDepth 100000 in
theorem bX2_readArguments_15 {p : Program} {e : Env} {s : State} {m : MethodId} {args : Array Value} {below : List Frame} {meth : Method} {c : Code} (l : Launch) (w : Wd) (N : Nat) (Q : St → Prop) (E : Cx 223 w (X1 w) cX2_readArguments 4 RX2 (.code yX2_readArguments cX2_readArguments 4 none) none p s m args meth c) {σ : St} {H : Heap} {locs : List Loc} {ls : Array Slot} (hR : Rr 223 ev1 w σ s H locs) (hl : lv_has ls 4 [(0, .ref (w.2.1 3))]) (h : fX2_readArguments_j15 N Q σ) : W p l e rmX2_readArguments s m args below meth c H locs 0 0 (MQ below (va_Qv Q (Rp 223 ev1 w) (Aw 223 w)) args s 0 0 (Aw 223 w)) (F0 m 15 ls []) := by
  obtain ⟨hx, hb, hml, hown, hts, hr, hlk, hK, hI, hX⟩ := id E
  unfold fX2_readArguments_j15 at h
  refine lv_aload_n (pc := 15) hx hb dX2_readArguments_15 rfl (lv_at hl 0 rfl) ?_
  refine lv_iconst (pc := 16) (v := 5) hx hb dX2_readArguments_16 (by decide) ?_
  refine q_cv (pc := 17) hR (q_rV E (xp1 w) (As := [.int 5]) (rest := []) (cX2_fail_met l w hI N 5 _ σ h) ckX2_fail cvX2_fail mw46 ⟨rfl, rfl, Nat.le_of_ble_eq_true rfl, Nat.le_of_ble_eq_true rfl⟩ hR (rc1_3 w) rfl hl.1 rfl (Nat.le_of_ble_eq_true rfl) dX2_readArguments_17) (fun σ_4 H locs h hR => ?_)
  exact q_vret (pc := 20) E hR h dX2_readArguments_20
def fX2_readArguments_l23 (N : Nat) (x1 : Int32) (x2 : Int32) (Q : St → Prop) (r23 : Int32 → St → Prop) (x3 : Int32) (σ : St) : Prop := ((x2 ≤ x3 → ∀ σ_6 : St, σ_6 = u1 σ 3 6 x2 → Q σ_6) ∧ (¬ x2 ≤ x3 → fX2_readFour N ((x1 + 4) + (4 * x3)) (fun r_8 σ_7 => vp_in x3 4 ∧ ∀ σ_10 : St, σ_10 = u1 σ_7 17 x3.toNatClampNeg r_8 → ∀ v_11 : Int32, v_11 = x3 + 1 → r23 v_11 σ_10) σ))
set_option maxHeartbeats 4000000 in
set_option maxRecDepth 100000 in
theorem bX2_readArguments_23 {p : Program} {e : Env} {s : State} {m : MethodId} {args : Array Value} {below : List Frame} {meth : Method} {c : Code} (l : Launch) (w : Wd) (N : Nat) (Q : St → Prop) (E : Cx 223 w (X1 w) cX2_readArguments 4 RX2 (.code yX2_readArguments cX2_readArguments 4 none) none p s m args meth c) (x1 : Int32) (x2 : Int32) : ∀ (n : Nat) (x3 : Int32) (σ : St) (H : Heap) (locs : List Loc) (ls : Array Slot), Rr 223 ev1 w σ s H locs → lv_has ls 4 [(0, .ref (w.2.1 3)), (1, .int x1), (2, .int x2), (3, .int x3)] → lo1 (fX2_readArguments_l23 N x1 x2 Q) n x3 σ → W p l e rmX2_readArguments s m args below meth c H locs 0 0 (MQ below (va_Qv Q (Rp 223 ev1 w) (Aw 223 w)) args s 0 0 (Aw 223 w)) (F0 m 23 ls []) := by
  obtain ⟨hx, hb, hml, hown, hts, hr, hlk, hK, hI, hX⟩ := id E
  intro n
  induction n with
  | zero => intro x3 σ H locs ls hR hl h; exact h.elim
  | succ n ih =>
    intro x3 σ H locs ls hR hl h
    have h : fX2_readArguments_l23 N x1 x2 Q (lo1 (fX2_readArguments_l23 N x1 x2 Q) n) x3 σ := h
    unfold fX2_readArguments_l23 at h
    refine lv_iload_n (pc := 23) hx hb dX2_readArguments_23 rfl (lv_at hl 3 rfl) ?_
    refine lv_iload_n (pc := 24) hx hb dX2_readArguments_24 rfl (lv_at hl 2 rfl) ?_
    refine lv_icmp_ge (pc := 25) (tgt := 51) hx hb dX2_readArguments_25 (by decide) (fun c_5 => ?_) (fun c_5 => ?_)
    · have h := h.1 c_5
      refine lv_aload_n (pc := 51) hx hb dX2_readArguments_51 rfl (lv_at hl 0 rfl) ?_
      refine lv_iload_n (pc := 52) hx hb dX2_readArguments_52 rfl (lv_at hl 2 rfl) ?_
      refine pf1_3_6 (pc := 53) hx hb hts hown hK hI hR mw73 dX2_readArguments_53 (fun H locs σ_6 eσ_6 hR => ?_)
      have h := h σ_6 eσ_6
      exact q_vret (pc := 56) E hR h dX2_readArguments_56
    · have h := h.2 c_5
      refine lv_aload_n (pc := 28) hx hb dX2_readArguments_28 rfl (lv_at hl 0 rfl) ?_
      refine gf1_3_5 (pc := 29) hx hb hts hown hK hR mw74 dX2_readArguments_29 ?_
      refine lv_iload_n (pc := 32) hx hb dX2_readArguments_32 rfl (lv_at hl 3 rfl) ?_
      refine lv_aload_n (pc := 33) hx hb dX2_readArguments_33 rfl (lv_at hl 0 rfl) ?_
      refine lv_iload_n (pc := 34) hx hb dX2_readArguments_34 rfl (lv_at hl 1 rfl) ?_
      refine lv_iconst (pc := 35) (v := 4) hx hb dX2_readArguments_35 (by decide) ?_
      refine lv_iadd (pc := 36) hx hb dX2_readArguments_36 ?_
      refine lv_iconst (pc := 37) (v := 4) hx hb dX2_readArguments_37 (by decide) ?_
      refine lv_iload_n (pc := 38) hx hb dX2_readArguments_38 rfl (lv_at hl 3 rfl) ?_
      refine lv_imul (pc := 39) hx hb dX2_readArguments_39 ?_
      refine lv_iadd (pc := 40) hx hb dX2_readArguments_40 ?_
      refine q_ci (pc := 41) hR (q_rV E (xp1 w) (As := [.int ((x1 + 4) + (4 * x3))]) (rest := [.int x3, .ref (w.2.1 17)]) (cX2_readFour_met l w hI N ((x1 + 4) + (4 * x3)) _ σ h) ckX2_readFour cvX2_readFour mw65 ⟨rfl, rfl, Nat.le_of_ble_eq_true rfl, Nat.le_of_ble_eq_true rfl⟩ hR (rc1_3 w) rfl hl.1 rfl (Nat.le_of_ble_eq_true rfl) dX2_readArguments_41) (fun r_8 σ_7 H locs h hR => ?_)
      have g_9 := h.1
      have h := h.2
      refine q_iast (pc := 44) hx hb hK hI hR (k := 17) lt1_17 (fun f => (ar1_17 _ f _)) g_9 dX2_readArguments_44 (fun H locs σ_10 eσ_10 hR => ?_)
      have h := h σ_10 eσ_10
      obtain ⟨v_11, ev_11⟩ : ∃ z : Int32, z = x3 + 1 := ⟨_, rfl⟩
      have h := h v_11 ev_11
      refine lv_iinc (pc := 45) (v := v_11) (lv' := [(3, .int v_11), (0, .ref (w.2.1 3)), (1, .int x1), (2, .int x2)]) hx hb dX2_readArguments_45 hl (k := 3) rfl (by rw [ev_11]; rfl) (by decide) rfl (fun ls hl => ?_)
      refine lv_goto (pc := 48) (tgt := 23) hx hb dX2_readArguments_48 (by decide) ?_
      exact ih v_11 σ_10 _ _ _ hR (lv_sub hl [1, 2, 3, 0] rfl) h
def fX2_readArguments (N : Nat) (x1 : Int32) (Q : St → Prop) (σ : St) : Prop := fX2_readFour N x1 (fun r_2 σ_1 => ((r_2 < 0 → fX2_readArguments_j15 N Q σ_1) ∧ (¬ r_2 < 0 → ((r_2 ≤ 4 → lo1 (fX2_readArguments_l23 N x1 r_2 Q) N 0 σ_1) ∧ (¬ r_2 ≤ 4 → fX2_readArguments_j15 N Q σ_1))))) σ
set_option maxHeartbeats 4000000 in
set_option maxRecDepth 100000 in
theorem bX2_readArguments_e {p : Program} {e : Env} {s : State} {m : MethodId} {args : Array Value} {below : List Frame} {meth : Method} {c : Code} (l : Launch) (w : Wd) (N : Nat) (Q : St → Prop) (E : Cx 223 w (X1 w) cX2_readArguments 4 RX2 (.code yX2_readArguments cX2_readArguments 4 none) none p s m args meth c) (x1 : Int32) {σ : St} {H : Heap} {locs : List Loc} {ls : Array Slot} (hR : Rr 223 ev1 w σ s H locs) (hl : lv_has ls 4 [(0, .ref (w.2.1 3)), (1, .int x1)]) (h : fX2_readArguments N x1 Q σ) : W p l e rmX2_readArguments s m args below meth c H locs 0 0 (MQ below (va_Qv Q (Rp 223 ev1 w) (Aw 223 w)) args s 0 0 (Aw 223 w)) (F0 m 0 ls []) := by
  obtain ⟨hx, hb, hml, hown, hts, hr, hlk, hK, hI, hX⟩ := id E
  unfold fX2_readArguments at h
  refine lv_aload_n (pc := 0) hx hb dX2_readArguments_0 rfl (lv_at hl 0 rfl) ?_
  refine lv_iload_n (pc := 1) hx hb dX2_readArguments_1 rfl (lv_at hl 1 rfl) ?_
  refine q_ci (pc := 2) hR (q_rV E (xp1 w) (As := [.int x1]) (rest := []) (cX2_readFour_met l w hI N x1 _ σ h) ckX2_readFour cvX2_readFour mw65 ⟨rfl, rfl, Nat.le_of_ble_eq_true rfl, Nat.le_of_ble_eq_true rfl⟩ hR (rc1_3 w) rfl hl.1 rfl (Nat.le_of_ble_eq_true rfl) dX2_readArguments_2) (fun r_2 σ_1 H locs h hR => ?_)
  refine lv_istore_n (pc := 5) (lv' := [(2, .int r_2), (0, .ref (w.2.1 3)), (1, .int x1)]) hx hb dX2_readArguments_5 rfl hl (by decide) rfl (fun ls hl => ?_)
  refine lv_iload_n (pc := 6) hx hb dX2_readArguments_6 rfl (lv_at hl 0 rfl) ?_
  refine lv_if_lt (pc := 7) (tgt := 15) hx hb dX2_readArguments_7 (by decide) (fun c_3 => ?_) (fun c_3 => ?_)
  · have h := h.1 c_3
    exact bX2_readArguments_15 l w N Q E hR (lv_sub hl [1] rfl) h
  · have h := h.2 c_3
    refine lv_iload_n (pc := 10) hx hb dX2_readArguments_10 rfl (lv_at hl 0 rfl) ?_
    refine lv_iconst (pc := 11) (v := 4) hx hb dX2_readArguments_11 (by decide) ?_
    refine lv_icmp_le (pc := 12) (tgt := 21) hx hb dX2_readArguments_12 (by decide) (fun c_4 => ?_) (fun c_4 => ?_)
    · have h := h.1 c_4
      refine lv_iconst (pc := 21) (v := 0) hx hb dX2_readArguments_21 (by decide) ?_
      refine lv_istore_n (pc := 22) (lv' := [(3, .int 0), (2, .int r_2), (0, .ref (w.2.1 3)), (1, .int x1)]) hx hb dX2_readArguments_22 rfl hl (by decide) rfl (fun ls hl => ?_)
      exact bX2_readArguments_23 l w N Q E x1 r_2 N 0 σ_1 _ _ _ hR (lv_sub hl [2, 3, 1, 0] rfl) h
    · have h := h.2 c_4
      exact bX2_readArguments_15 l w N Q E hR (lv_sub hl [1] rfl) h
theorem cX2_readArguments_met (l : Launch) (w : Wd) (hI : Ij 223 w) (N : Nat) (x1 : Int32) (Q : St → Prop) (σ : St) (h : fX2_readArguments N x1 Q σ) : Met l yX2_readArguments (.code yX2_readArguments cX2_readArguments 4 none :: Uw) rmX2_readArguments (va_Pc [.ref (w.2.1 3), .int x1] (fun U => Rp 223 ev1 w σ U ∧ (X1 w) U)) (va_Qv Q (Rp 223 ev1 w) (Aw 223 w)) 0 0 (Aw 223 w) :=
  q_met (by decide) (Nat.le_of_ble_eq_true rfl) hI (fun p e s m below meth c ls E hl hR => bX2_readArguments_e l w N Q E x1 hR hl h)
-- GlulxStrings$Machine.enterThing(II)V
abbrev rmX2_enterThing : Room := { frames := 3, cells := 0, slots := 0, locals := 72 }
def fX2_enterThing_j99 (N : Nat) (x3 : Int32) (Q : St → Prop) (σ : St) : Prop := fX2_callFunction N x3 255 (fun σ_10 => Q σ_10) σ
set_option maxHeartbeats 4000000 in
set_option maxRecDepth 100000 in
theorem bX2_enterThing_99 {p : Program} {e : Env} {s : State} {m : MethodId} {args : Array Value} {below : List Frame} {meth : Method} {c : Code} (l : Launch) (w : Wd) (N : Nat) (Q : St → Prop) (E : Cx 223 w (X1 w) cX2_enterThing 5 RX2 (.code yX2_enterThing cX2_enterThing 5 none) none p s m args meth c) (x3 : Int32) {σ : St} {H : Heap} {locs : List Loc} {ls : Array Slot} (hR : Rr 223 ev1 w σ s H locs) (hl : lv_has ls 5 [(0, .ref (w.2.1 3)), (3, .int x3)]) (h : fX2_enterThing_j99 N x3 Q σ) : W p l e rmX2_enterThing s m args below meth c H locs 0 0 (MQ below (va_Qv Q (Rp 223 ev1 w) (Aw 223 w)) args s 0 0 (Aw 223 w)) (F0 m 99 ls []) := by
  obtain ⟨hx, hb, hml, hown, hts, hr, hlk, hK, hI, hX⟩ := id E
  unfold fX2_enterThing_j99 at h
  refine lv_aload_n (pc := 99) hx hb dX2_enterThing_99 rfl (lv_at hl 0 rfl) ?_
  refine lv_iload_n (pc := 100) hx hb dX2_enterThing_100 rfl (lv_at hl 1 rfl) ?_
  refine lv_sipush (pc := 101) (v := 255) hx hb dX2_enterThing_101 (by decide) ?_
  refine q_cv (pc := 104) hR (q_rV E (xp1 w) (As := [.int x3, .int 255]) (rest := []) (cX2_callFunction_met l w hI N x3 255 _ σ h) ckX2_callFunction cvX2_callFunction mw82 ⟨rfl, rfl, Nat.le_of_ble_eq_true rfl, Nat.le_of_ble_eq_true rfl⟩ hR (rc1_3 w) rfl hl.1 rfl (Nat.le_of_ble_eq_true rfl) dX2_enterThing_104) (fun σ_10 H locs h hR => ?_)
  refine lv_goto (pc := 107) (tgt := 115) hx hb dX2_enterThing_107 (by decide) ?_
  exact q_vret (pc := 115) E hR h dX2_enterThing_115
def fX2_enterThing_j73 (N : Nat) (x3 : Int32) (t0 : Int32) (Q : St → Prop) (σ : St) : Prop := (((σ.1 3 11) = 0 → ((t0 = 192 → fX2_enterThing_j99 N x3 Q σ) ∧ (¬ t0 = 192 → ((t0 = 193 → fX2_enterThing_j99 N x3 Q σ) ∧ (¬ t0 = 193 → fX2_beginString N x3 (fun σ_11 => Q σ_11) σ))))) ∧ (¬ (σ.1 3 11) = 0 → Q σ))
set_option maxHeartbeats 4000000 in
set_option maxRecDepth 100000 in
theorem bX2_enterThing_73 {p : Program} {e : Env} {s : State} {m : MethodId} {args : Array Value} {below : List Frame} {meth : Method} {c : Code} (l : Launch) (w : Wd) (N : Nat) (Q : St → Prop) (E : Cx 223 w (X1 w) cX2_enterThing 5 RX2 (.code yX2_enterThing cX2_enterThing 5 none) none p s m args meth c) (x3 : Int32) (t0 : Int32) {σ : St} {H : Heap} {locs : List Loc} {ls : Array Slot} (hR : Rr 223 ev1 w σ s H locs) (hl : lv_has ls 5 [(0, .ref (w.2.1 3)), (3, .int x3)]) (h : fX2_enterThing_j73 N x3 t0 Q σ) : W p l e rmX2_enterThing s m args below meth c H locs 0 0 (MQ below (va_Qv Q (Rp 223 ev1 w) (Aw 223 w)) args s 0 0 (Aw 223 w)) (F0 m 73 ls [.int t0]) := by
  obtain ⟨hx, hb, hml, hown, hts, hr, hlk, hK, hI, hX⟩ := id E
  unfold fX2_enterThing_j73 at h
  refine lv_istore (pc := 73) (lv' := [(4, .int t0), (0, .ref (w.2.1 3)), (3, .int x3)]) hx hb dX2_enterThing_73 hl (by decide) rfl (fun ls hl => ?_)
  refine lv_aload_n (pc := 75) hx hb dX2_enterThing_75 rfl (lv_at hl 1 rfl) ?_
  refine gf1_3_11 (pc := 76) hx hb hts hown hK hR mw42 dX2_enterThing_76 ?_
  refine lv_if_eq (pc := 79) (tgt := 83) hx hb dX2_enterThing_79 (by decide) (fun c_8 => ?_) (fun c_8 => ?_)
  · have h := h.1 c_8
    refine lv_iload (pc := 83) hx hb dX2_enterThing_83 (lv_at hl 0 rfl) ?_
    refine lv_sipush (pc := 85) (v := 192) hx hb dX2_enterThing_85 (by decide) ?_
    refine lv_icmp_eq (pc := 88) (tgt := 99) hx hb dX2_enterThing_88 (by decide) (fun c_9 => ?_) (fun c_9 => ?_)
    · have h := h.1 c_9
      exact bX2_enterThing_99 l w N Q E x3 hR (lv_sub hl [1, 2] rfl) h
    · have h := h.2 c_9
      refine lv_iload (pc := 91) hx hb dX2_enterThing_91 (lv_at hl 0 rfl) ?_
      refine lv_sipush (pc := 93) (v := 193) hx hb dX2_enterThing_93 (by decide) ?_
      refine lv_icmp_ne (pc := 96) (tgt := 110) hx hb dX2_enterThing_96 (by decide) (fun c_10 => ?_) (fun c_10 => ?_)
      · have h := h.2 c_10
        refine lv_aload_n (pc := 110) hx hb dX2_enterThing_110 rfl (lv_at hl 1 rfl) ?_
        refine lv_iload_n (pc := 111) hx hb dX2_enterThing_111 rfl (lv_at hl 2 rfl) ?_
        refine q_cv (pc := 112) hR (q_rV E (xp1 w) (As := [.int x3]) (rest := []) (cX2_beginString_met l w hI N x3 _ σ h) ckX2_beginString cvX2_beginString mw96 ⟨rfl, rfl, Nat.le_of_ble_eq_true rfl, Nat.le_of_ble_eq_true rfl⟩ hR (rc1_3 w) rfl hl.1 rfl (Nat.le_of_ble_eq_true rfl) dX2_enterThing_112) (fun σ_11 H locs h hR => ?_)
        exact q_vret (pc := 115) E hR h dX2_enterThing_115
      · have h := h.1 c_10
        exact bX2_enterThing_99 l w N Q E x3 hR (lv_sub hl [1, 2] rfl) h
  · have h := h.2 c_8
    exact q_vret (pc := 82) E hR h dX2_enterThing_82
def fX2_enterThing_j57 (N : Nat) (x3 : Int32) (Q : St → Prop) (σ : St) : Prop := (((σ.1 3 11) = 0 → fX2_readByte N x3 (fun r_9 σ_8 => fX2_enterThing_j73 N x3 r_9 Q σ_8) σ) ∧ (¬ (σ.1 3 11) = 0 → fX2_enterThing_j73 N x3 0 Q σ))
set_option maxHeartbeats 4000000 in
set_option maxRecDepth 100000 in
theorem bX2_enterThing_57 {p : Program} {e : Env} {s : State} {m : MethodId} {args : Array Value} {below : List Frame} {meth : Method} {c : Code} (l : Launch) (w : Wd) (N : Nat) (Q : St → Prop) (E : Cx 223 w (X1 w) cX2_enterThing 5 RX2 (.code yX2_enterThing cX2_enterThing 5 none) none p s m args meth c) (x3 : Int32) {σ : St} {H : Heap} {locs : List Loc} {ls : Array Slot} (hR : Rr 223 ev1 w σ s H locs) (hl : lv_has ls 5 [(0, .ref (w.2.1 3)), (3, .int x3)]) (h : fX2_enterThing_j57 N x3 Q σ) : W p l e rmX2_enterThing s m args below meth c H locs 0 0 (MQ below (va_Qv Q (Rp 223 ev1 w) (Aw 223 w)) args s 0 0 (Aw 223 w)) (F0 m 57 ls []) := by
  obtain ⟨hx, hb, hml, hown, hts, hr, hlk, hK, hI, hX⟩ := id E
  unfold fX2_enterThing_j57 at h
  refine lv_aload_n (pc := 57) hx hb dX2_enterThing_57 rfl (lv_at hl 0 rfl) ?_
  refine gf1_3_11 (pc := 58) hx hb hts hown hK hR mw42 dX2_enterThing_58 ?_
  refine lv_if_ne (pc := 61) (tgt := 72) hx hb dX2_enterThing_61 (by decide) (fun c_7 => ?_) (fun c_7 => ?_)
  · have h := h.2 c_7
    refine lv_iconst (pc := 72) (v := 0) hx hb dX2_enterThing_72 (by decide) ?_
    exact bX2_enterThing_73 l w N Q E x3 0 hR (lv_sub hl [0, 1] rfl) h
  · have h := h.1 c_7
    refine lv_aload_n (pc := 64) hx hb dX2_enterThing_64 rfl (lv_at hl 0 rfl) ?_
    refine lv_iload_n (pc := 65) hx hb dX2_enterThing_65 rfl (lv_at hl 1 rfl) ?_
    refine q_ci (pc := 66) hR (q_rV E (xp1 w) (As := [.int x3]) (rest := []) (cX2_readByte_met l w hI N x3 _ σ h) ckX2_readByte cvX2_readByte mw60 ⟨rfl, rfl, Nat.le_of_ble_eq_true rfl, Nat.le_of_ble_eq_true rfl⟩ hR (rc1_3 w) rfl hl.1 rfl (Nat.le_of_ble_eq_true rfl) dX2_enterThing_66) (fun r_9 σ_8 H locs h hR => ?_)
    refine lv_goto (pc := 69) (tgt := 73) hx hb dX2_enterThing_69 (by decide) ?_
    exact bX2_enterThing_73 l w N Q E x3 r_9 hR (lv_sub hl [0, 1] rfl) h
def fX2_enterThing_j50 (N : Nat) (x1 : Int32) (x3 : Int32) (Q : St → Prop) (σ : St) : Prop := fX2_readArguments N (x1 + 5) (fun σ_6 => fX2_enterThing_j57 N x3 Q σ_6) σ
set_option maxHeartbeats 4000000 in
set_option maxRecDepth 100000 in
theorem bX2_enterThing_50 {p : Program} {e : Env} {s : State} {m : MethodId} {args : Array Value} {below : List Frame} {meth : Method} {c : Code} (l : Launch) (w : Wd) (N : Nat) (Q : St → Prop) (E : Cx 223 w (X1 w) cX2_enterThing 5 RX2 (.code yX2_enterThing cX2_enterThing 5 none) none p s m args meth c) (x1 : Int32) (x3 : Int32) {σ : St} {H : Heap} {locs : List Loc} {ls : Array Slot} (hR : Rr 223 ev1 w σ s H locs) (hl : lv_has ls 5 [(0, .ref (w.2.1 3)), (1, .int x1), (3, .int x3)]) (h : fX2_enterThing_j50 N x1 x3 Q σ) : W p l e rmX2_enterThing s m args below meth c H locs 0 0 (MQ below (va_Qv Q (Rp 223 ev1 w) (Aw 223 w)) args s 0 0 (Aw 223 w)) (F0 m 50 ls []) := by
  obtain ⟨hx, hb, hml, hown, hts, hr, hlk, hK, hI, hX⟩ := id E
  unfold fX2_enterThing_j50 at h
  refine lv_aload_n (pc := 50) hx hb dX2_enterThing_50 rfl (lv_at hl 0 rfl) ?_
  refine lv_iload_n (pc := 51) hx hb dX2_enterThing_51 rfl (lv_at hl 1 rfl) ?_
  refine lv_iconst (pc := 52) (v := 5) hx hb dX2_enterThing_52 (by decide) ?_
  refine lv_iadd (pc := 53) hx hb dX2_enterThing_53 ?_
  refine q_cv (pc := 54) hR (q_rV E (xp1 w) (As := [.int (x1 + 5)]) (rest := []) (cX2_readArguments_met l w hI N (x1 + 5) _ σ h) ckX2_readArguments cvX2_readArguments mw110 ⟨rfl, rfl, Nat.le_of_ble_eq_true rfl, Nat.le_of_ble_eq_true rfl⟩ hR (rc1_3 w) rfl hl.1 rfl (Nat.le_of_ble_eq_true rfl) dX2_enterThing_54) (fun σ_6 H locs h hR => ?_)
  exact bX2_enterThing_57 l w N Q E x3 hR (lv_sub hl [0, 2] rfl) h
def fX2_enterThing_j33 (N : Nat) (x1 : Int32) (x2 : Int32) (x3 : Int32) (Q : St → Prop) (σ : St) : Prop := ∀ σ_4 : St, σ_4 = u1 σ 3 6 0 → ((x2 = 10 → fX2_enterThing_j50 N x1 x3 Q σ_4) ∧ (¬ x2 = 10 → ((x2 = 11 → fX2_enterThing_j50 N x1 x3 Q σ_4) ∧ (¬ x2 = 11 → fX2_enterThing_j57 N x3 Q σ_4))))
set_option maxHeartbeats 4000000 in
set_option maxRecDepth 100000 in
theorem bX2_enterThing_33 {p : Program} {e : Env} {s : State} {m : MethodId} {args : Array Value} {below : List Frame} {meth : Method} {c : Code} (l : Launch) (w : Wd) (N : Nat) (Q : St → Prop) (E : Cx 223 w (X1 w) cX2_enterThing 5 RX2 (.code yX2_enterThing cX2_enterThing 5 none) none p s m args meth c) (x1 : Int32) (x2 : Int32) (x3 : Int32) {σ : St} {H : Heap} {locs : List Loc} {ls : Array Slot} (hR : Rr 223 ev1 w σ s H locs) (hl : lv_has ls 5 [(0, .ref (w.2.1 3)), (1, .int x1), (2, .int x2), (3, .int x3)]) (h : fX2_enterThing_j33 N x1 x2 x3 Q σ) : W p l e rmX2_enterThing s m args below meth c H locs 0 0 (MQ below (va_Qv Q (Rp 223 ev1 w) (Aw 223 w)) args s 0 0 (Aw 223 w)) (F0 m 33 ls []) := by
  obtain ⟨hx, hb, hml, hown, hts, hr, hlk, hK, hI, hX⟩ := id E
  unfold fX2_enterThing_j33 at h
  refine lv_aload_n (pc := 33) hx hb dX2_enterThing_33 rfl (lv_at hl 0 rfl) ?_
  refine lv_iconst (pc := 34) (v := 0) hx hb dX2_enterThing_34 (by decide) ?_
  refine pf1_3_6 (pc := 35) hx hb hts hown hK hI hR mw73 dX2_enterThing_35 (fun H locs σ_4 eσ_4 hR => ?_)
  have h := h σ_4 eσ_4
  refine lv_iload_n (pc := 38) hx hb dX2_enterThing_38 rfl (lv_at hl 2 rfl) ?_
  refine lv_bipush (pc := 39) (v := 10) hx hb dX2_enterThing_39 (by decide) ?_
  refine lv_icmp_eq (pc := 41) (tgt := 50) hx hb dX2_enterThing_41 (by decide) (fun c_5 => ?_) (fun c_5 => ?_)
  · have h := h.1 c_5
    exact bX2_enterThing_50 l w N Q E x1 x3 hR (lv_sub hl [0, 1, 3] rfl) h
  · have h := h.2 c_5
    refine lv_iload_n (pc := 44) hx hb dX2_enterThing_44 rfl (lv_at hl 2 rfl) ?_
    refine lv_bipush (pc := 45) (v := 11) hx hb dX2_enterThing_45 (by decide) ?_
    refine lv_icmp_ne (pc := 47) (tgt := 57) hx hb dX2_enterThing_47 (by decide) (fun c_6 => ?_) (fun c_6 => ?_)
    · have h := h.2 c_6
      exact bX2_enterThing_57 l w N Q E x3 hR (lv_sub hl [0, 3] rfl) h
    · have h := h.1 c_6
      exact bX2_enterThing_50 l w N Q E x1 x3 hR (lv_sub hl [0, 1, 3] rfl) h
def fX2_enterThing_j27 (N : Nat) (x1 : Int32) (x2 : Int32) (x3 : Int32) (Q : St → Prop) (σ : St) : Prop := fX2_readFour N x3 (fun r_6 σ_5 => fX2_enterThing_j33 N x1 x2 r_6 Q σ_5) σ
set_option maxHeartbeats 4000000 in
set_option maxRecDepth 100000 in
theorem bX2_enterThing_27 {p : Program} {e : Env} {s : State} {m : MethodId} {args : Array Value} {below : List Frame} {meth : Method} {c : Code} (l : Launch) (w : Wd) (N : Nat) (Q : St → Prop) (E : Cx 223 w (X1 w) cX2_enterThing 5 RX2 (.code yX2_enterThing cX2_enterThing 5 none) none p s m args meth c) (x1 : Int32) (x2 : Int32) (x3 : Int32) {σ : St} {H : Heap} {locs : List Loc} {ls : Array Slot} (hR : Rr 223 ev1 w σ s H locs) (hl : lv_has ls 5 [(0, .ref (w.2.1 3)), (1, .int x1), (2, .int x2), (3, .int x3)]) (h : fX2_enterThing_j27 N x1 x2 x3 Q σ) : W p l e rmX2_enterThing s m args below meth c H locs 0 0 (MQ below (va_Qv Q (Rp 223 ev1 w) (Aw 223 w)) args s 0 0 (Aw 223 w)) (F0 m 27 ls []) := by
  obtain ⟨hx, hb, hml, hown, hts, hr, hlk, hK, hI, hX⟩ := id E
  unfold fX2_enterThing_j27 at h
  refine lv_aload_n (pc := 27) hx hb dX2_enterThing_27 rfl (lv_at hl 0 rfl) ?_
  refine lv_iload_n (pc := 28) hx hb dX2_enterThing_28 rfl (lv_at hl 3 rfl) ?_
  refine q_ci (pc := 29) hR (q_rV E (xp1 w) (As := [.int x3]) (rest := []) (cX2_readFour_met l w hI N x3 _ σ h) ckX2_readFour cvX2_readFour mw65 ⟨rfl, rfl, Nat.le_of_ble_eq_true rfl, Nat.le_of_ble_eq_true rfl⟩ hR (rc1_3 w) rfl hl.1 rfl (Nat.le_of_ble_eq_true rfl) dX2_enterThing_29) (fun r_6 σ_5 H locs h hR => ?_)
  refine lv_istore_n (pc := 32) (lv' := [(3, .int r_6), (0, .ref (w.2.1 3)), (1, .int x1), (2, .int x2)]) hx hb dX2_enterThing_32 rfl hl (by decide) rfl (fun ls hl => ?_)
  exact bX2_enterThing_33 l w N Q E x1 x2 r_6 hR (lv_sub hl [1, 2, 3, 0] rfl) h
def fX2_enterThing (N : Nat) (x1 : Int32) (x2 : Int32) (Q : St → Prop) (σ : St) : Prop := fX2_readFour N (x1 + 1) (fun r_2 σ_1 => (((σ_1.1 3 11) = 0 → ((x2 = 9 → fX2_enterThing_j27 N x1 x2 r_2 Q σ_1) ∧ (¬ x2 = 9 → ((x2 = 11 → fX2_enterThing_j27 N x1 x2 r_2 Q σ_1) ∧ (¬ x2 = 11 → fX2_enterThing_j33 N x1 x2 r_2 Q σ_1))))) ∧ (¬ (σ_1.1 3 11) = 0 → fX2_enterThing_j33 N x1 x2 r_2 Q σ_1))) σ
set_option maxHeartbeats 4000000 in
set_option maxRecDepth 100000 in
theorem bX2_enterThing_e {p : Program} {e : Env} {s : State} {m : MethodId} {args : Array Value} {below : List Frame} {meth : Method} {c : Code} (l : Launch) (w : Wd) (N : Nat) (Q : St → Prop) (E : Cx 223 w (X1 w) cX2_enterThing 5 RX2 (.code yX2_enterThing cX2_enterThing 5 none) none p s m args meth c) (x1 : Int32) (x2 : Int32) {σ : St} {H : Heap} {locs : List Loc} {ls : Array Slot} (hR : Rr 223 ev1 w σ s H locs) (hl : lv_has ls 5 [(0, .ref (w.2.1 3)), (1, .int x1), (2, .int x2)]) (h : fX2_enterThing N x1 x2 Q σ) : W p l e rmX2_enterThing s m args below meth c H locs 0 0 (MQ below (va_Qv Q (Rp 223 ev1 w) (Aw 223 w)) args s 0 0 (Aw 223 w)) (F0 m 0 ls []) := by
  obtain ⟨hx, hb, hml, hown, hts, hr, hlk, hK, hI, hX⟩ := id E
  unfold fX2_enterThing at h
  refine lv_aload_n (pc := 0) hx hb dX2_enterThing_0 rfl (lv_at hl 0 rfl) ?_
  refine lv_iload_n (pc := 1) hx hb dX2_enterThing_1 rfl (lv_at hl 1 rfl) ?_
  refine lv_iconst (pc := 2) (v := 1) hx hb dX2_enterThing_2 (by decide) ?_
  refine lv_iadd (pc := 3) hx hb dX2_enterThing_3 ?_
  refine q_ci (pc := 4) hR (q_rV E (xp1 w) (As := [.int (x1 + 1)]) (rest := []) (cX2_readFour_met l w hI N (x1 + 1) _ σ h) ckX2_readFour cvX2_readFour mw65 ⟨rfl, rfl, Nat.le_of_ble_eq_true rfl, Nat.le_of_ble_eq_true rfl⟩ hR (rc1_3 w) rfl hl.1 rfl (Nat.le_of_ble_eq_true rfl) dX2_enterThing_4) (fun r_2 σ_1 H locs h hR => ?_)
  refine lv_istore_n (pc := 7) (lv' := [(3, .int r_2), (0, .ref (w.2.1 3)), (1, .int x1), (2, .int x2)]) hx hb dX2_enterThing_7 rfl hl (by decide) rfl (fun ls hl => ?_)
  refine lv_aload_n (pc := 8) hx hb dX2_enterThing_8 rfl (lv_at hl 1 rfl) ?_
  refine gf1_3_11 (pc := 9) hx hb hts hown hK hR mw42 dX2_enterThing_9 ?_
  refine lv_if_ne (pc := 12) (tgt := 33) hx hb dX2_enterThing_12 (by decide) (fun c_3 => ?_) (fun c_3 => ?_)
  · have h := h.2 c_3
    exact bX2_enterThing_33 l w N Q E x1 x2 r_2 hR (lv_sub hl [1, 2, 3, 0] rfl) h
  · have h := h.1 c_3
    refine lv_iload_n (pc := 15) hx hb dX2_enterThing_15 rfl (lv_at hl 3 rfl) ?_
    refine lv_bipush (pc := 16) (v := 9) hx hb dX2_enterThing_16 (by decide) ?_
    refine lv_icmp_eq (pc := 18) (tgt := 27) hx hb dX2_enterThing_18 (by decide) (fun c_4 => ?_) (fun c_4 => ?_)
    · have h := h.1 c_4
      exact bX2_enterThing_27 l w N Q E x1 x2 r_2 hR (lv_sub hl [1, 2, 3, 0] rfl) h
    · have h := h.2 c_4
      refine lv_iload_n (pc := 21) hx hb dX2_enterThing_21 rfl (lv_at hl 3 rfl) ?_
      refine lv_bipush (pc := 22) (v := 11) hx hb dX2_enterThing_22 (by decide) ?_
      refine lv_icmp_ne (pc := 24) (tgt := 33) hx hb dX2_enterThing_24 (by decide) (fun c_5 => ?_) (fun c_5 => ?_)
      · have h := h.2 c_5
        exact bX2_enterThing_33 l w N Q E x1 x2 r_2 hR (lv_sub hl [1, 2, 3, 0] rfl) h
      · have h := h.1 c_5
        exact bX2_enterThing_27 l w N Q E x1 x2 r_2 hR (lv_sub hl [1, 2, 3, 0] rfl) h
theorem cX2_enterThing_met (l : Launch) (w : Wd) (hI : Ij 223 w) (N : Nat) (x1 : Int32) (x2 : Int32) (Q : St → Prop) (σ : St) (h : fX2_enterThing N x1 x2 Q σ) : Met l yX2_enterThing (.code yX2_enterThing cX2_enterThing 5 none :: Uw) rmX2_enterThing (va_Pc [.ref (w.2.1 3), .int x1, .int x2] (fun U => Rp 223 ev1 w σ U ∧ (X1 w) U)) (va_Qv Q (Rp 223 ev1 w) (Aw 223 w)) 0 0 (Aw 223 w) :=
  q_met (by decide) (Nat.le_of_ble_eq_true rfl) hI (fun p e s m below meth c ls E hl hR => bX2_enterThing_e l w N Q E x1 x2 hR hl h)
