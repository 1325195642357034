-- GlulxStringsModel.packed(I)V
abbrev rmX12_packed : Room := { frames := 4, cells := 0, slots := 0, locals := 100 }
def fX12_packed_j243 (N : Nat) (x2 : Int32) (t0 : Int32) (Q : St → Prop) (σ : St) : Prop := fX12_lays N t0 (x2 + 1) (fun σ_16 => Q σ_16) σ
set_option maxHeartbeats 4000000 in
set_option maxRecDepth 100000 in
theorem bX12_packed_243 {p : Program} {e : Env} {s : State} {m : MethodId} {args : Array Value} {below : List Frame} {meth : Method} {c : Code} (l : Launch) (w : Wd) (N : Nat) (Q : St → Prop) (E : Cx 38 w X2 cX12_packed 5 RX12 (.code yX12_packed cX12_packed 5 none) none p s m args meth c) (x2 : Int32) (t0 : Int32) {σ : St} {H : Heap} {locs : List Loc} {ls : Array Slot} (hR : Rr 38 ev2 w σ s H locs) (hl : lv_has ls 5 [(2, .int x2)]) (h : fX12_packed_j243 N x2 t0 Q σ) : W p l e rmX12_packed s m args below meth c H locs 0 0 (MQ below (va_Qv Q (Rp 38 ev2 w) (Aw 38 w)) args s 0 0 (Aw 38 w)) (F0 m 243 ls [.int t0, .ref (w.2.1 0)]) := by
  obtain ⟨hx, hb, hml, hown, hts, hr, hlk, hK, hI, hX⟩ := id E
  unfold fX12_packed_j243 at h
  refine lv_iload_n (pc := 243) hx hb dX12_packed_243 rfl (lv_at hl 0 rfl) ?_
  refine lv_iconst (pc := 244) (v := 1) hx hb dX12_packed_244 (by decide) ?_
  refine lv_iadd (pc := 245) hx hb dX12_packed_245 ?_
  refine q_cv (pc := 246) hR (q_rV E (xp2 w) (As := [.int t0, .int (x2 + 1)]) (rest := []) (cX12_lays_met l w hI N t0 (x2 + 1) _ σ h) ckX12_lays cvX12_lays mw295 ⟨rfl, rfl, Nat.le_of_ble_eq_true rfl, Nat.le_of_ble_eq_true rfl⟩ hR (rc2_0 w) rfl hl.1 rfl (Nat.le_of_ble_eq_true rfl) dX12_packed_246) (fun σ_16 H locs h hR => ?_)
  refine lv_goto (pc := 249) (tgt := 278) hx hb dX12_packed_249 (by decide) ?_
  exact q_vret (pc := 278) E hR h dX12_packed_278
def fX12_packed_j232 (N : Nat) (x2 : Int32) (x3 : Int32) (Q : St → Prop) (σ : St) : Prop := ((x3 = 3 → fX12_packed_j243 N x2 1 Q σ) ∧ (¬ x3 = 3 → fX12_packed_j243 N x2 2 Q σ))
set_option maxHeartbeats 4000000 in
set_option maxRecDepth 100000 in
theorem bX12_packed_232 {p : Program} {e : Env} {s : State} {m : MethodId} {args : Array Value} {below : List Frame} {meth : Method} {c : Code} (l : Launch) (w : Wd) (N : Nat) (Q : St → Prop) (E : Cx 38 w X2 cX12_packed 5 RX12 (.code yX12_packed cX12_packed 5 none) none p s m args meth c) (x2 : Int32) (x3 : Int32) {σ : St} {H : Heap} {locs : List Loc} {ls : Array Slot} (hR : Rr 38 ev2 w σ s H locs) (hl : lv_has ls 5 [(0, .ref (w.2.1 0)), (2, .int x2), (3, .int x3)]) (h : fX12_packed_j232 N x2 x3 Q σ) : W p l e rmX12_packed s m args below meth c H locs 0 0 (MQ below (va_Qv Q (Rp 38 ev2 w) (Aw 38 w)) args s 0 0 (Aw 38 w)) (F0 m 232 ls []) := by
  obtain ⟨hx, hb, hml, hown, hts, hr, hlk, hK, hI, hX⟩ := id E
  unfold fX12_packed_j232 at h
  refine lv_aload_n (pc := 232) hx hb dX12_packed_232 rfl (lv_at hl 0 rfl) ?_
  refine lv_iload_n (pc := 233) hx hb dX12_packed_233 rfl (lv_at hl 2 rfl) ?_
  refine lv_iconst (pc := 234) (v := 3) hx hb dX12_packed_234 (by decide) ?_
  refine lv_icmp_ne (pc := 235) (tgt := 242) hx hb dX12_packed_235 (by decide) (fun c_15 => ?_) (fun c_15 => ?_)
  · have h := h.2 c_15
    refine lv_iconst (pc := 242) (v := 2) hx hb dX12_packed_242 (by decide) ?_
    exact bX12_packed_243 l w N Q E x2 2 hR (lv_sub hl [1] rfl) h
  · have h := h.1 c_15
    refine lv_iconst (pc := 238) (v := 1) hx hb dX12_packed_238 (by decide) ?_
    refine lv_goto (pc := 239) (tgt := 243) hx hb dX12_packed_239 (by decide) ?_
    exact bX12_packed_243 l w N Q E x2 1 hR (lv_sub hl [1] rfl) h
def fX12_packed_j273 (N : Nat) (Q : St → Prop) (σ : St) : Prop := fX12_fails N 3 (fun σ_17 => Q σ_17) σ
set_option maxHeartbeats 4000000 in
set_option maxRecDepth 100000 in
theorem bX12_packed_273 {p : Program} {e : Env} {s : State} {m : MethodId} {args : Array Value} {below : List Frame} {meth : Method} {c : Code} (l : Launch) (w : Wd) (N : Nat) (Q : St → Prop) (E : Cx 38 w X2 cX12_packed 5 RX12 (.code yX12_packed cX12_packed 5 none) none p s m args meth c) {σ : St} {H : Heap} {locs : List Loc} {ls : Array Slot} (hR : Rr 38 ev2 w σ s H locs) (hl : lv_has ls 5 [(0, .ref (w.2.1 0))]) (h : fX12_packed_j273 N Q σ) : W p l e rmX12_packed s m args below meth c H locs 0 0 (MQ below (va_Qv Q (Rp 38 ev2 w) (Aw 38 w)) args s 0 0 (Aw 38 w)) (F0 m 273 ls []) := by
  obtain ⟨hx, hb, hml, hown, hts, hr, hlk, hK, hI, hX⟩ := id E
  unfold fX12_packed_j273 at h
  refine lv_aload_n (pc := 273) hx hb dX12_packed_273 rfl (lv_at hl 0 rfl) ?_
  refine lv_iconst (pc := 274) (v := 3) hx hb dX12_packed_274 (by decide) ?_
  refine q_cv (pc := 275) hR (q_rV E (xp2 w) (As := [.int 3]) (rest := []) (cX12_fails_met l w hI N 3 _ σ h) ckX12_fails cvX12_fails mw271 ⟨rfl, rfl, Nat.le_of_ble_eq_true rfl, Nat.le_of_ble_eq_true rfl⟩ hR (rc2_0 w) rfl hl.1 rfl (Nat.le_of_ble_eq_true rfl) dX12_packed_275) (fun σ_17 H locs h hR => ?_)
  exact q_vret (pc := 278) E hR h dX12_packed_278
def fX12_packed_j106 (N : Nat) (x1 : Int32) (t0 : Int64) (t1 : Int64) (t3 : Int32) (Q : St → Prop) (σ : St) : Prop := fX12_four N (t1 + t0) (fun r_34 σ_33 => vp_in t3 40 ∧ ∀ σ_36 : St, σ_36 = u1 σ_33 12 t3.toNatClampNeg r_34 → vp_in x1 40 ∧ ∀ σ_38 : St, σ_38 = u1 σ_36 11 x1.toNatClampNeg (vp_nar .boolean 0) → vp_in x1 40 ∧ ∀ v_40 : Int32, v_40 = (σ_38.1 8 x1.toNatClampNeg) + 1 → vp_in x1 40 ∧ ∀ σ_42 : St, σ_42 = u1 σ_38 8 x1.toNatClampNeg v_40 → vp_in x1 40 ∧ (((σ_42.1 8 x1.toNatClampNeg) = 8 → vp_in x1 40 ∧ ∀ σ_46 : St, σ_46 = u1 σ_42 8 x1.toNatClampNeg 0 → vp_in x1 40 ∧ ∀ v_48 : Int32, v_48 = (σ_46.1 7 x1.toNatClampNeg) + 1 → vp_in x1 40 ∧ ∀ σ_50 : St, σ_50 = u1 σ_46 7 x1.toNatClampNeg v_48 → Q σ_50) ∧ (¬ (σ_42.1 8 x1.toNatClampNeg) = 8 → Q σ_42))) σ
set_option maxHeartbeats 4000000 in
set_option maxRecDepth 100000 in
theorem bX12_packed_106 {p : Program} {e : Env} {s : State} {m : MethodId} {args : Array Value} {below : List Frame} {meth : Method} {c : Code} (l : Launch) (w : Wd) (N : Nat) (Q : St → Prop) (E : Cx 38 w X2 cX12_packed 5 RX12 (.code yX12_packed cX12_packed 5 none) none p s m args meth c) (x1 : Int32) (t0 : Int64) (t1 : Int64) (t3 : Int32) {σ : St} {H : Heap} {locs : List Loc} {ls : Array Slot} (hR : Rr 38 ev2 w σ s H locs) (hl : lv_has ls 5 [(0, .ref (w.2.1 0)), (1, .int x1)]) (h : fX12_packed_j106 N x1 t0 t1 t3 Q σ) : W p l e rmX12_packed s m args below meth c H locs 0 0 (MQ below (va_Qv Q (Rp 38 ev2 w) (Aw 38 w)) args s 0 0 (Aw 38 w)) (F0 m 106 ls [.long t0, .long t1, .ref (w.2.1 0), .int t3, .ref (w.2.1 12)]) := by
  obtain ⟨hx, hb, hml, hown, hts, hr, hlk, hK, hI, hX⟩ := id E
  unfold fX12_packed_j106 at h
  refine lv_ladd (pc := 106) hx hb dX12_packed_106 ?_
  refine q_ci (pc := 107) hR (q_rV E (xp2 w) (As := [.long (t1 + t0)]) (rest := [.int t3, .ref (w.2.1 12)]) (cX12_four_met l w hI N (t1 + t0) _ σ h) ckX12_four cvX12_four mw275 ⟨rfl, rfl, Nat.le_of_ble_eq_true rfl, Nat.le_of_ble_eq_true rfl⟩ hR (rc2_0 w) rfl hl.1 rfl (Nat.le_of_ble_eq_true rfl) dX12_packed_107) (fun r_34 σ_33 H locs h hR => ?_)
  have g_35 := h.1
  have h := h.2
  refine q_iast (pc := 110) hx hb hK hI hR (k := 12) lt2_12 (fun f => (ar2_12 _ f _)) g_35 dX12_packed_110 (fun H locs σ_36 eσ_36 hR => ?_)
  have h := h σ_36 eσ_36
  refine lv_aload_n (pc := 111) hx hb dX12_packed_111 rfl (lv_at hl 0 rfl) ?_
  refine gf2_0_20 (pc := 112) hx hb hts hown hK hR mw291 dX12_packed_112 ?_
  refine lv_iload_n (pc := 115) hx hb dX12_packed_115 rfl (lv_at hl 1 rfl) ?_
  refine lv_iconst (pc := 116) (v := 0) hx hb dX12_packed_116 (by decide) ?_
  have g_37 := h.1
  have h := h.2
  refine q_zast (pc := 117) hx hb hK hI hR (k := 11) lt2_11 (fun f => (ar2_11 _ f _)) g_37 dX12_packed_117 (fun H locs σ_38 eσ_38 hR => ?_)
  have h := h σ_38 eσ_38
  refine lv_aload_n (pc := 118) hx hb dX12_packed_118 rfl (lv_at hl 0 rfl) ?_
  refine gf2_0_17 (pc := 119) hx hb hts hown hK hR mw289 dX12_packed_119 ?_
  refine lv_iload_n (pc := 122) hx hb dX12_packed_122 rfl (lv_at hl 1 rfl) ?_
  refine lv_dup2_11 (pc := 123) hx hb dX12_packed_123 rfl rfl ?_
  have g_39 := h.1
  have h := h.2
  refine q_iald (pc := 124) hx hb hK hR (k := 8) lt2_8 (ar2_8 _ _ _) g_39 dX12_packed_124 ?_
  refine lv_iconst (pc := 125) (v := 1) hx hb dX12_packed_125 (by decide) ?_
  refine lv_iadd (pc := 126) hx hb dX12_packed_126 ?_
  refine lv_topi (pc := 127) (fun v_40 ev_40 => ?_)
  have h := h v_40 ev_40
  have g_41 := h.1
  have h := h.2
  refine q_iast (pc := 127) hx hb hK hI hR (k := 8) lt2_8 (fun f => (ar2_8 _ f _)) g_41 dX12_packed_127 (fun H locs σ_42 eσ_42 hR => ?_)
  have h := h σ_42 eσ_42
  refine lv_aload_n (pc := 128) hx hb dX12_packed_128 rfl (lv_at hl 0 rfl) ?_
  refine gf2_0_17 (pc := 129) hx hb hts hown hK hR mw289 dX12_packed_129 ?_
  refine lv_iload_n (pc := 132) hx hb dX12_packed_132 rfl (lv_at hl 1 rfl) ?_
  have g_43 := h.1
  have h := h.2
  refine q_iald (pc := 133) hx hb hK hR (k := 8) lt2_8 (ar2_8 _ _ _) g_43 dX12_packed_133 ?_
  refine lv_bipush (pc := 134) (v := 8) hx hb dX12_packed_134 (by decide) ?_
  refine lv_icmp_ne (pc := 136) (tgt := 156) hx hb dX12_packed_136 (by decide) (fun c_44 => ?_) (fun c_44 => ?_)
  · have h := h.2 c_44
    exact q_vret (pc := 156) E hR h dX12_packed_156
  · have h := h.1 c_44
    refine lv_aload_n (pc := 139) hx hb dX12_packed_139 rfl (lv_at hl 0 rfl) ?_
    refine gf2_0_17 (pc := 140) hx hb hts hown hK hR mw289 dX12_packed_140 ?_
    refine lv_iload_n (pc := 143) hx hb dX12_packed_143 rfl (lv_at hl 1 rfl) ?_
    refine lv_iconst (pc := 144) (v := 0) hx hb dX12_packed_144 (by decide) ?_
    have g_45 := h.1
    have h := h.2
    refine q_iast (pc := 145) hx hb hK hI hR (k := 8) lt2_8 (fun f => (ar2_8 _ f _)) g_45 dX12_packed_145 (fun H locs σ_46 eσ_46 hR => ?_)
    have h := h σ_46 eσ_46
    refine lv_aload_n (pc := 146) hx hb dX12_packed_146 rfl (lv_at hl 0 rfl) ?_
    refine gf2_0_16 (pc := 147) hx hb hts hown hK hR mw288 dX12_packed_147 ?_
    refine lv_iload_n (pc := 150) hx hb dX12_packed_150 rfl (lv_at hl 1 rfl) ?_
    refine lv_dup2_11 (pc := 151) hx hb dX12_packed_151 rfl rfl ?_
    have g_47 := h.1
    have h := h.2
    refine q_iald (pc := 152) hx hb hK hR (k := 7) lt2_7 (ar2_7 _ _ _) g_47 dX12_packed_152 ?_
    refine lv_iconst (pc := 153) (v := 1) hx hb dX12_packed_153 (by decide) ?_
    refine lv_iadd (pc := 154) hx hb dX12_packed_154 ?_
    refine lv_topi (pc := 155) (fun v_48 ev_48 => ?_)
    have h := h v_48 ev_48
    have g_49 := h.1
    have h := h.2
    refine q_iast (pc := 155) hx hb hK hI hR (k := 7) lt2_7 (fun f => (ar2_7 _ f _)) g_49 dX12_packed_155 (fun H locs σ_50 eσ_50 hR => ?_)
    have h := h σ_50 eσ_50
    exact q_vret (pc := 156) E hR h dX12_packed_156
def fX12_packed_j44 (N : Nat) (x1 : Int32) (t0 : Int32) (Q : St → Prop) (σ : St) : Prop := fX12_read N t0.toInt64 (fun r_6 σ_5 => (((σ_5.1 0 9) ≤ 0 → ((r_6 = 0 → vp_in x1 40 ∧ fX12_read N ((σ_5.1 7 x1.toNatClampNeg).toInt64) (fun r_29 σ_28 => vp_in x1 40 ∧ ∀ v_31 : Int32, v_31 = (r_29 >>> ((σ_28.1 8 x1.toNatClampNeg) &&& 31)) &&& 1 → ((v_31 = 0 → fX12_packed_j106 N x1 1 t0.toInt64 x1 Q σ_28) ∧ (¬ v_31 = 0 → fX12_packed_j106 N x1 5 t0.toInt64 x1 Q σ_28))) σ_5) ∧ (¬ r_6 = 0 → vp_in x1 40 ∧ ∀ σ_10 : St, σ_10 = u1 σ_5 11 x1.toNatClampNeg (vp_nar .boolean 1) → ((r_6 = 1 → ∀ v_25 : Int32, v_25 = (σ_10.1 0 14) - 1 → ∀ σ_26 : St, σ_26 = u1 σ_10 0 14 v_25 → Q σ_26) ∧ (¬ r_6 = 1 → ((r_6 = 2 → fX12_read N (t0.toInt64 + 1) (fun r_23 σ_22 => fX12_gives N r_23 (fun σ_24 => Q σ_24) σ_22) σ_10) ∧ (¬ r_6 = 2 → ((r_6 = 4 → fX12_four N (t0.toInt64 + 1) (fun r_20 σ_19 => fX12_gives N r_20 (fun σ_21 => Q σ_21) σ_19) σ_10) ∧ (¬ r_6 = 4 → ((r_6 = 3 → fX12_packed_j232 N t0 r_6 Q σ_10) ∧ (¬ r_6 = 3 → ((r_6 = 5 → fX12_packed_j232 N t0 r_6 Q σ_10) ∧ (¬ r_6 = 5 → ((r_6 < 8 → fX12_packed_j273 N Q σ_10) ∧ (¬ r_6 < 8 → ((11 < r_6 → fX12_packed_j273 N Q σ_10) ∧ (¬ 11 < r_6 → fX12_thing N t0 r_6 (fun σ_18 => Q σ_18) σ_10))))))))))))))))) ∧ (¬ (σ_5.1 0 9) ≤ 0 → Q σ_5))) σ
set_option maxHeartbeats 4000000 in
set_option maxRecDepth 100000 in
theorem bX12_packed_44 {p : Program} {e : Env} {s : State} {m : MethodId} {args : Array Value} {below : List Frame} {meth : Method} {c : Code} (l : Launch) (w : Wd) (N : Nat) (Q : St → Prop) (E : Cx 38 w X2 cX12_packed 5 RX12 (.code yX12_packed cX12_packed 5 none) none p s m args meth c) (x1 : Int32) (t0 : Int32) {σ : St} {H : Heap} {locs : List Loc} {ls : Array Slot} (hR : Rr 38 ev2 w σ s H locs) (hl : lv_has ls 5 [(0, .ref (w.2.1 0)), (1, .int x1)]) (h : fX12_packed_j44 N x1 t0 Q σ) : W p l e rmX12_packed s m args below meth c H locs 0 0 (MQ below (va_Qv Q (Rp 38 ev2 w) (Aw 38 w)) args s 0 0 (Aw 38 w)) (F0 m 44 ls [.int t0]) := by
  obtain ⟨hx, hb, hml, hown, hts, hr, hlk, hK, hI, hX⟩ := id E
  unfold fX12_packed_j44 at h
  refine lv_istore_n (pc := 44) (lv' := [(2, .int t0), (0, .ref (w.2.1 0)), (1, .int x1)]) hx hb dX12_packed_44 rfl hl (by decide) rfl (fun ls hl => ?_)
  refine lv_aload_n (pc := 45) hx hb dX12_packed_45 rfl (lv_at hl 1 rfl) ?_
  refine lv_iload_n (pc := 46) hx hb dX12_packed_46 rfl (lv_at hl 0 rfl) ?_
  refine lv_i2l (pc := 47) (v := t0.toInt64) hx hb dX12_packed_47 rfl ?_
  refine q_ci (pc := 48) hR (q_rV E (xp2 w) (As := [.long t0.toInt64]) (rest := []) (cX12_read_met l w hI N t0.toInt64 _ σ h) ckX12_read cvX12_read mw272 ⟨rfl, rfl, Nat.le_of_ble_eq_true rfl, Nat.le_of_ble_eq_true rfl⟩ hR (rc2_0 w) rfl hl.1 rfl (Nat.le_of_ble_eq_true rfl) dX12_packed_48) (fun r_6 σ_5 H locs h hR => ?_)
  refine lv_istore_n (pc := 51) (lv' := [(3, .int r_6), (2, .int t0), (0, .ref (w.2.1 0)), (1, .int x1)]) hx hb dX12_packed_51 rfl hl (by decide) rfl (fun ls hl => ?_)
  refine lv_aload_n (pc := 52) hx hb dX12_packed_52 rfl (lv_at hl 2 rfl) ?_
  refine gf2_0_9 (pc := 53) hx hb hts hown hK hR mw270 dX12_packed_53 ?_
  refine lv_if_le (pc := 56) (tgt := 60) hx hb dX12_packed_56 (by decide) (fun c_7 => ?_) (fun c_7 => ?_)
  · have h := h.1 c_7
    refine lv_iload_n (pc := 60) hx hb dX12_packed_60 rfl (lv_at hl 0 rfl) ?_
    refine lv_if_ne (pc := 61) (tgt := 157) hx hb dX12_packed_61 (by decide) (fun c_8 => ?_) (fun c_8 => ?_)
    · have h := h.2 c_8
      refine lv_aload_n (pc := 157) hx hb dX12_packed_157 rfl (lv_at hl 2 rfl) ?_
      refine gf2_0_20 (pc := 158) hx hb hts hown hK hR mw291 dX12_packed_158 ?_
      refine lv_iload_n (pc := 161) hx hb dX12_packed_161 rfl (lv_at hl 3 rfl) ?_
      refine lv_iconst (pc := 162) (v := 1) hx hb dX12_packed_162 (by decide) ?_
      have g_9 := h.1
      have h := h.2
      refine q_zast (pc := 163) hx hb hK hI hR (k := 11) lt2_11 (fun f => (ar2_11 _ f _)) g_9 dX12_packed_163 (fun H locs σ_10 eσ_10 hR => ?_)
      have h := h σ_10 eσ_10
      refine lv_iload_n (pc := 164) hx hb dX12_packed_164 rfl (lv_at hl 0 rfl) ?_
      refine lv_iconst (pc := 165) (v := 1) hx hb dX12_packed_165 (by decide) ?_
      refine lv_icmp_ne (pc := 166) (tgt := 182) hx hb dX12_packed_166 (by decide) (fun c_11 => ?_) (fun c_11 => ?_)
      · have h := h.2 c_11
        refine lv_iload_n (pc := 182) hx hb dX12_packed_182 rfl (lv_at hl 0 rfl) ?_
        refine lv_iconst (pc := 183) (v := 2) hx hb dX12_packed_183 (by decide) ?_
        refine lv_icmp_ne (pc := 184) (tgt := 202) hx hb dX12_packed_184 (by decide) (fun c_12 => ?_) (fun c_12 => ?_)
        · have h := h.2 c_12
          refine lv_iload_n (pc := 202) hx hb dX12_packed_202 rfl (lv_at hl 0 rfl) ?_
          refine lv_iconst (pc := 203) (v := 4) hx hb dX12_packed_203 (by decide) ?_
          refine lv_icmp_ne (pc := 204) (tgt := 222) hx hb dX12_packed_204 (by decide) (fun c_13 => ?_) (fun c_13 => ?_)
          · have h := h.2 c_13
            refine lv_iload_n (pc := 222) hx hb dX12_packed_222 rfl (lv_at hl 0 rfl) ?_
            refine lv_iconst (pc := 223) (v := 3) hx hb dX12_packed_223 (by decide) ?_
            refine lv_icmp_eq (pc := 224) (tgt := 232) hx hb dX12_packed_224 (by decide) (fun c_14 => ?_) (fun c_14 => ?_)
            · have h := h.1 c_14
              exact bX12_packed_232 l w N Q E t0 r_6 hR (lv_sub hl [2, 1, 0] rfl) h
            · have h := h.2 c_14
              refine lv_iload_n (pc := 227) hx hb dX12_packed_227 rfl (lv_at hl 0 rfl) ?_
              refine lv_iconst (pc := 228) (v := 5) hx hb dX12_packed_228 (by decide) ?_
              refine lv_icmp_ne (pc := 229) (tgt := 252) hx hb dX12_packed_229 (by decide) (fun c_15 => ?_) (fun c_15 => ?_)
              · have h := h.2 c_15
                refine lv_iload_n (pc := 252) hx hb dX12_packed_252 rfl (lv_at hl 0 rfl) ?_
                refine lv_bipush (pc := 253) (v := 8) hx hb dX12_packed_253 (by decide) ?_
                refine lv_icmp_lt (pc := 255) (tgt := 273) hx hb dX12_packed_255 (by decide) (fun c_16 => ?_) (fun c_16 => ?_)
                · have h := h.1 c_16
                  exact bX12_packed_273 l w N Q E hR (lv_sub hl [2] rfl) h
                · have h := h.2 c_16
                  refine lv_iload_n (pc := 258) hx hb dX12_packed_258 rfl (lv_at hl 0 rfl) ?_
                  refine lv_bipush (pc := 259) (v := 11) hx hb dX12_packed_259 (by decide) ?_
                  refine lv_icmp_gt (pc := 261) (tgt := 273) hx hb dX12_packed_261 (by decide) (fun c_17 => ?_) (fun c_17 => ?_)
                  · have h := h.1 c_17
                    exact bX12_packed_273 l w N Q E hR (lv_sub hl [2] rfl) h
                  · have h := h.2 c_17
                    refine lv_aload_n (pc := 264) hx hb dX12_packed_264 rfl (lv_at hl 2 rfl) ?_
                    refine lv_iload_n (pc := 265) hx hb dX12_packed_265 rfl (lv_at hl 1 rfl) ?_
                    refine lv_iload_n (pc := 266) hx hb dX12_packed_266 rfl (lv_at hl 0 rfl) ?_
                    refine q_cv (pc := 267) hR (q_rV E (xp2 w) (As := [.int t0, .int r_6]) (rest := []) (cX12_thing_met l w hI N t0 r_6 _ σ_10 h) ckX12_thing cvX12_thing mw315 ⟨rfl, rfl, Nat.le_of_ble_eq_true rfl, Nat.le_of_ble_eq_true rfl⟩ hR (rc2_0 w) rfl hl.1 rfl (Nat.le_of_ble_eq_true rfl) dX12_packed_267) (fun σ_18 H locs h hR => ?_)
                    refine lv_goto (pc := 270) (tgt := 278) hx hb dX12_packed_270 (by decide) ?_
                    exact q_vret (pc := 278) E hR h dX12_packed_278
              · have h := h.1 c_15
                exact bX12_packed_232 l w N Q E t0 r_6 hR (lv_sub hl [2, 1, 0] rfl) h
          · have h := h.1 c_13
            refine lv_aload_n (pc := 207) hx hb dX12_packed_207 rfl (lv_at hl 2 rfl) ?_
            refine lv_aload_n (pc := 208) hx hb dX12_packed_208 rfl (lv_at hl 2 rfl) ?_
            refine lv_iload_n (pc := 209) hx hb dX12_packed_209 rfl (lv_at hl 1 rfl) ?_
            refine lv_i2l (pc := 210) (v := t0.toInt64) hx hb dX12_packed_210 rfl ?_
            refine lv_lconst (pc := 211) (v := 1) hx hb dX12_packed_211 (by decide) ?_
            refine lv_ladd (pc := 212) hx hb dX12_packed_212 ?_
            refine q_ci (pc := 213) hR (q_rV E (xp2 w) (As := [.long (t0.toInt64 + 1)]) (rest := [.ref (w.2.1 0)]) (cX12_four_met l w hI N (t0.toInt64 + 1) _ σ_10 h) ckX12_four cvX12_four mw275 ⟨rfl, rfl, Nat.le_of_ble_eq_true rfl, Nat.le_of_ble_eq_true rfl⟩ hR (rc2_0 w) rfl hl.1 rfl (Nat.le_of_ble_eq_true rfl) dX12_packed_213) (fun r_20 σ_19 H locs h hR => ?_)
            refine q_cv (pc := 216) hR (q_rV E (xp2 w) (As := [.int r_20]) (rest := []) (cX12_gives_met l w hI N r_20 _ σ_19 h) ckX12_gives cvX12_gives mw309 ⟨rfl, rfl, Nat.le_of_ble_eq_true rfl, Nat.le_of_ble_eq_true rfl⟩ hR (rc2_0 w) rfl hl.1 rfl (Nat.le_of_ble_eq_true rfl) dX12_packed_216) (fun σ_21 H locs h hR => ?_)
            refine lv_goto (pc := 219) (tgt := 278) hx hb dX12_packed_219 (by decide) ?_
            exact q_vret (pc := 278) E hR h dX12_packed_278
        · have h := h.1 c_12
          refine lv_aload_n (pc := 187) hx hb dX12_packed_187 rfl (lv_at hl 2 rfl) ?_
          refine lv_aload_n (pc := 188) hx hb dX12_packed_188 rfl (lv_at hl 2 rfl) ?_
          refine lv_iload_n (pc := 189) hx hb dX12_packed_189 rfl (lv_at hl 1 rfl) ?_
          refine lv_i2l (pc := 190) (v := t0.toInt64) hx hb dX12_packed_190 rfl ?_
          refine lv_lconst (pc := 191) (v := 1) hx hb dX12_packed_191 (by decide) ?_
          refine lv_ladd (pc := 192) hx hb dX12_packed_192 ?_
          refine q_ci (pc := 193) hR (q_rV E (xp2 w) (As := [.long (t0.toInt64 + 1)]) (rest := [.ref (w.2.1 0)]) (cX12_read_met l w hI N (t0.toInt64 + 1) _ σ_10 h) ckX12_read cvX12_read mw272 ⟨rfl, rfl, Nat.le_of_ble_eq_true rfl, Nat.le_of_ble_eq_true rfl⟩ hR (rc2_0 w) rfl hl.1 rfl (Nat.le_of_ble_eq_true rfl) dX12_packed_193) (fun r_23 σ_22 H locs h hR => ?_)
          refine q_cv (pc := 196) hR (q_rV E (xp2 w) (As := [.int r_23]) (rest := []) (cX12_gives_met l w hI N r_23 _ σ_22 h) ckX12_gives cvX12_gives mw309 ⟨rfl, rfl, Nat.le_of_ble_eq_true rfl, Nat.le_of_ble_eq_true rfl⟩ hR (rc2_0 w) rfl hl.1 rfl (Nat.le_of_ble_eq_true rfl) dX12_packed_196) (fun σ_24 H locs h hR => ?_)
          refine lv_goto (pc := 199) (tgt := 278) hx hb dX12_packed_199 (by decide) ?_
          exact q_vret (pc := 278) E hR h dX12_packed_278
      · have h := h.1 c_11
        refine lv_aload_n (pc := 169) hx hb dX12_packed_169 rfl (lv_at hl 2 rfl) ?_
        refine lv_dup (pc := 170) hx hb dX12_packed_170 rfl ?_
        refine gf2_0_14 (pc := 171) hx hb hts hown hK hR mw282 dX12_packed_171 ?_
        refine lv_iconst (pc := 174) (v := 1) hx hb dX12_packed_174 (by decide) ?_
        refine lv_isub (pc := 175) hx hb dX12_packed_175 ?_
        refine lv_topi (pc := 176) (fun v_25 ev_25 => ?_)
        have h := h v_25 ev_25
        refine pf2_0_14 (pc := 176) hx hb hts hown hK hI hR mw282 dX12_packed_176 (fun H locs σ_26 eσ_26 hR => ?_)
        have h := h σ_26 eσ_26
        refine lv_goto (pc := 179) (tgt := 278) hx hb dX12_packed_179 (by decide) ?_
        exact q_vret (pc := 278) E hR h dX12_packed_278
    · have h := h.1 c_8
      refine lv_aload_n (pc := 64) hx hb dX12_packed_64 rfl (lv_at hl 2 rfl) ?_
      refine lv_aload_n (pc := 65) hx hb dX12_packed_65 rfl (lv_at hl 2 rfl) ?_
      refine gf2_0_16 (pc := 66) hx hb hts hown hK hR mw288 dX12_packed_66 ?_
      refine lv_iload_n (pc := 69) hx hb dX12_packed_69 rfl (lv_at hl 3 rfl) ?_
      have g_27 := h.1
      have h := h.2
      refine q_iald (pc := 70) hx hb hK hR (k := 7) lt2_7 (ar2_7 _ _ _) g_27 dX12_packed_70 ?_
      refine lv_i2l (pc := 71) (v := (σ_5.1 7 x1.toNatClampNeg).toInt64) hx hb dX12_packed_71 rfl ?_
      refine q_ci (pc := 72) hR (q_rV E (xp2 w) (As := [.long ((σ_5.1 7 x1.toNatClampNeg).toInt64)]) (rest := []) (cX12_read_met l w hI N ((σ_5.1 7 x1.toNatClampNeg).toInt64) _ σ_5 h) ckX12_read cvX12_read mw272 ⟨rfl, rfl, Nat.le_of_ble_eq_true rfl, Nat.le_of_ble_eq_true rfl⟩ hR (rc2_0 w) rfl hl.1 rfl (Nat.le_of_ble_eq_true rfl) dX12_packed_72) (fun r_29 σ_28 H locs h hR => ?_)
      refine lv_aload_n (pc := 75) hx hb dX12_packed_75 rfl (lv_at hl 2 rfl) ?_
      refine gf2_0_17 (pc := 76) hx hb hts hown hK hR mw289 dX12_packed_76 ?_
      refine lv_iload_n (pc := 79) hx hb dX12_packed_79 rfl (lv_at hl 3 rfl) ?_
      have g_30 := h.1
      have h := h.2
      refine q_iald (pc := 80) hx hb hK hR (k := 8) lt2_8 (ar2_8 _ _ _) g_30 dX12_packed_80 ?_
      refine lv_ishr (pc := 81) hx hb dX12_packed_81 ?_
      refine lv_iconst (pc := 82) (v := 1) hx hb dX12_packed_82 (by decide) ?_
      refine lv_iand (pc := 83) hx hb dX12_packed_83 ?_
      refine lv_topi (pc := 84) (fun v_31 ev_31 => ?_)
      have h := h v_31 ev_31
      refine lv_istore (pc := 84) (lv' := [(4, .int v_31), (3, .int r_6), (2, .int t0), (0, .ref (w.2.1 0)), (1, .int x1)]) hx hb dX12_packed_84 hl (by decide) rfl (fun ls hl => ?_)
      refine lv_aload_n (pc := 86) hx hb dX12_packed_86 rfl (lv_at hl 3 rfl) ?_
      refine gf2_0_21 (pc := 87) hx hb hts hown hK hR mw292 dX12_packed_87 ?_
      refine lv_iload_n (pc := 90) hx hb dX12_packed_90 rfl (lv_at hl 4 rfl) ?_
      refine lv_aload_n (pc := 91) hx hb dX12_packed_91 rfl (lv_at hl 3 rfl) ?_
      refine lv_iload_n (pc := 92) hx hb dX12_packed_92 rfl (lv_at hl 2 rfl) ?_
      refine lv_i2l (pc := 93) (v := t0.toInt64) hx hb dX12_packed_93 rfl ?_
      refine lv_iload (pc := 94) hx hb dX12_packed_94 (lv_at hl 0 rfl) ?_
      refine lv_if_ne (pc := 96) (tgt := 103) hx hb dX12_packed_96 (by decide) (fun c_32 => ?_) (fun c_32 => ?_)
      · have h := h.2 c_32
        refine lv_ldc2 (pc := 103) (v := 5) hx hb hown (hts _ (Uin mw274)) dX12_packed_103 ?_
        exact bX12_packed_106 l w N Q E x1 5 t0.toInt64 x1 hR (lv_sub hl [3, 4] rfl) h
      · have h := h.1 c_32
        refine lv_lconst (pc := 99) (v := 1) hx hb dX12_packed_99 (by decide) ?_
        refine lv_goto (pc := 100) (tgt := 106) hx hb dX12_packed_100 (by decide) ?_
        exact bX12_packed_106 l w N Q E x1 1 t0.toInt64 x1 hR (lv_sub hl [3, 4] rfl) h
  · have h := h.2 c_7
    exact q_vret (pc := 59) E hR h dX12_packed_59
def fX12_packed (N : Nat) (x1 : Int32) (Q : St → Prop) (σ : St) : Prop := (((σ.1 0 6) = 0 → fX12_fails N 2 (fun σ_7 => Q σ_7) σ) ∧ (¬ (σ.1 0 6) = 0 → vp_in x1 40 ∧ (((σ.1 11 x1.toNatClampNeg) = 0 → vp_in x1 40 ∧ fX12_packed_j44 N x1 (σ.1 12 x1.toNatClampNeg) Q σ) ∧ (¬ (σ.1 11 x1.toNatClampNeg) = 0 → fX12_four N (((σ.1 0 6).toInt64) + 8) (fun r_6 σ_5 => fX12_packed_j44 N x1 r_6 Q σ_5) σ))))
set_option maxHeartbeats 4000000 in
set_option maxRecDepth 100000 in
theorem bX12_packed_e {p : Program} {e : Env} {s : State} {m : MethodId} {args : Array Value} {below : List Frame} {meth : Method} {c : Code} (l : Launch) (w : Wd) (N : Nat) (Q : St → Prop) (E : Cx 38 w X2 cX12_packed 5 RX12 (.code yX12_packed cX12_packed 5 none) none p s m args meth c) (x1 : Int32) {σ : St} {H : Heap} {locs : List Loc} {ls : Array Slot} (hR : Rr 38 ev2 w σ s H locs) (hl : lv_has ls 5 [(0, .ref (w.2.1 0)), (1, .int x1)]) (h : fX12_packed N x1 Q σ) : W p l e rmX12_packed s m args below meth c H locs 0 0 (MQ below (va_Qv Q (Rp 38 ev2 w) (Aw 38 w)) args s 0 0 (Aw 38 w)) (F0 m 0 ls []) := by
  obtain ⟨hx, hb, hml, hown, hts, hr, hlk, hK, hI, hX⟩ := id E
  unfold fX12_packed at h
  refine lv_aload_n (pc := 0) hx hb dX12_packed_0 rfl (lv_at hl 0 rfl) ?_
  refine gf2_0_6 (pc := 1) hx hb hts hown hK hR mw264 dX12_packed_1 ?_
  refine lv_if_ne (pc := 4) (tgt := 13) hx hb dX12_packed_4 (by decide) (fun c_1 => ?_) (fun c_1 => ?_)
  · have h := h.2 c_1
    refine lv_aload_n (pc := 13) hx hb dX12_packed_13 rfl (lv_at hl 0 rfl) ?_
    refine gf2_0_20 (pc := 14) hx hb hts hown hK hR mw291 dX12_packed_14 ?_
    refine lv_iload_n (pc := 17) hx hb dX12_packed_17 rfl (lv_at hl 1 rfl) ?_
    have g_2 := h.1
    have h := h.2
    refine q_zald (pc := 18) hx hb hK hR (k := 11) lt2_11 (ar2_11 _ _ _) g_2 dX12_packed_18 ?_
    refine lv_if_eq (pc := 19) (tgt := 38) hx hb dX12_packed_19 (by decide) (fun c_3 => ?_) (fun c_3 => ?_)
    · have h := h.1 c_3
      refine lv_aload_n (pc := 38) hx hb dX12_packed_38 rfl (lv_at hl 0 rfl) ?_
      refine gf2_0_21 (pc := 39) hx hb hts hown hK hR mw292 dX12_packed_39 ?_
      refine lv_iload_n (pc := 42) hx hb dX12_packed_42 rfl (lv_at hl 1 rfl) ?_
      have g_4 := h.1
      have h := h.2
      refine q_iald (pc := 43) hx hb hK hR (k := 12) lt2_12 (ar2_12 _ _ _) g_4 dX12_packed_43 ?_
      exact bX12_packed_44 l w N Q E x1 (σ.1 12 x1.toNatClampNeg) hR (lv_sub hl [0, 1] rfl) h
    · have h := h.2 c_3
      refine lv_aload_n (pc := 22) hx hb dX12_packed_22 rfl (lv_at hl 0 rfl) ?_
      refine lv_aload_n (pc := 23) hx hb dX12_packed_23 rfl (lv_at hl 0 rfl) ?_
      refine gf2_0_6 (pc := 24) hx hb hts hown hK hR mw264 dX12_packed_24 ?_
      refine lv_i2l (pc := 27) (v := (σ.1 0 6).toInt64) hx hb dX12_packed_27 rfl ?_
      refine lv_ldc2 (pc := 28) (v := 8) hx hb hown (hts _ (Uin mw257)) dX12_packed_28 ?_
      refine lv_ladd (pc := 31) hx hb dX12_packed_31 ?_
      refine q_ci (pc := 32) hR (q_rV E (xp2 w) (As := [.long (((σ.1 0 6).toInt64) + 8)]) (rest := []) (cX12_four_met l w hI N (((σ.1 0 6).toInt64) + 8) _ σ h) ckX12_four cvX12_four mw275 ⟨rfl, rfl, Nat.le_of_ble_eq_true rfl, Nat.le_of_ble_eq_true rfl⟩ hR (rc2_0 w) rfl hl.1 rfl (Nat.le_of_ble_eq_true rfl) dX12_packed_32) (fun r_6 σ_5 H locs h hR => ?_)
      refine lv_goto (pc := 35) (tgt := 44) hx hb dX12_packed_35 (by decide) ?_
      exact bX12_packed_44 l w N Q E x1 r_6 hR (lv_sub hl [0, 1] rfl) h
  · have h := h.1 c_1
    refine lv_aload_n (pc := 7) hx hb dX12_packed_7 rfl (lv_at hl 0 rfl) ?_
    refine lv_iconst (pc := 8) (v := 2) hx hb dX12_packed_8 (by decide) ?_
    refine q_cv (pc := 9) hR (q_rV E (xp2 w) (As := [.int 2]) (rest := []) (cX12_fails_met l w hI N 2 _ σ h) ckX12_fails cvX12_fails mw271 ⟨rfl, rfl, Nat.le_of_ble_eq_true rfl, Nat.le_of_ble_eq_true rfl⟩ hR (rc2_0 w) rfl hl.1 rfl (Nat.le_of_ble_eq_true rfl) dX12_packed_9) (fun σ_7 H locs h hR => ?_)
    exact q_vret (pc := 12) E hR h dX12_packed_12
theorem cX12_packed_met (l : Launch) (w : Wd) (hI : Ij 38 w) (N : Nat) (x1 : Int32) (Q : St → Prop) (σ : St) (h : fX12_packed N x1 Q σ) : Met l yX12_packed (.code yX12_packed cX12_packed 5 none :: Uw) rmX12_packed (va_Pc [.ref (w.2.1 0), .int x1] (fun U => Rp 38 ev2 w σ U ∧ X2 U)) (va_Qv Q (Rp 38 ev2 w) (Aw 38 w)) 0 0 (Aw 38 w) :=
  q_met (by decide) (Nat.le_of_ble_eq_true rfl) hI (fun p e s m below meth c ls E hl hR => bX12_packed_e l w N Q E x1 hR hl h)
-- GlulxStringsModel.digits(I)I
abbrev rmX12_digits : Room := { frames := 0, cells := 0, slots := 0, locals := 0 }
def fX12_digits_l23 (N : Nat) (Q : Int32 → St → Prop) (r23 : Int64 → Int32 → St → Prop) (x1 : Int64) (x3 : Int32) (σ : St) : Prop := ((x1 < 10 → Q x3 σ) ∧ (¬ x1 < 10 → ∀ v_4 : Int64, v_4 = x1 / 10 → ∀ v_5 : Int32, v_5 = x3 + 1 → r23 v_4 v_5 σ))
set_option maxHeartbeats 4000000 in
set_option maxRecDepth 100000 in
theorem bX12_digits_23 {p : Program} {e : Env} {s : State} {m : MethodId} {args : Array Value} {below : List Frame} {meth : Method} {c : Code} (l : Launch) (w : Wd) (N : Nat) (Q : Int32 → St → Prop) (E : Cx 38 w X2 cX12_digits 4 RX12 (.code yX12_digits cX12_digits 4 (some .int)) (some .int) p s m args meth c) : ∀ (n : Nat) (x1 : Int64) (x3 : Int32) (σ : St) (H : Heap) (locs : List Loc) (ls : Array Slot), Rr 38 ev2 w σ s H locs → lv_has ls 4 [(1, .long x1), (3, .int x3)] → lo2 (fX12_digits_l23 N Q) n x1 x3 σ → W p l e rmX12_digits s m args below meth c H locs 0 0 (MQ below (va_Qi Q (Rp 38 ev2 w) (Aw 38 w)) args s 0 0 (Aw 38 w)) (F0 m 23 ls []) := by
  obtain ⟨hx, hb, hml, hown, hts, hr, hlk, hK, hI, hX⟩ := id E
  intro n
  induction n with
  | zero => intro x1 x3 σ H locs ls hR hl h; exact h.elim
  | succ n ih =>
    intro x1 x3 σ H locs ls hR hl h
    have h : fX12_digits_l23 N Q (lo2 (fX12_digits_l23 N Q) n) x1 x3 σ := h
    unfold fX12_digits_l23 at h
    refine lv_lload_n (pc := 23) hx hb dX12_digits_23 rfl (lv_at hl 0 rfl) ?_
    refine lv_ldc2 (pc := 24) (v := 10) hx hb hown (hts _ (Uin mw316)) dX12_digits_24 ?_
    refine W.lcmp (pc := 27) hx hb dX12_digits_27 ?_
    refine lv_if_lt (pc := 28) (tgt := 43) hx hb dX12_digits_28 (by decide) (fun c_3 => ?_) (fun c_3 => ?_)
    · have c_3 := (lc_lt _ _).mp c_3
      have h := h.1 c_3
      refine lv_iload_n (pc := 43) hx hb dX12_digits_43 rfl (lv_at hl 1 rfl) ?_
      exact q_iret (pc := 44) E hR h dX12_digits_44
    · have c_3 := mt (lc_lt _ _).mpr c_3
      have h := h.2 c_3
      refine lv_lload_n (pc := 31) hx hb dX12_digits_31 rfl (lv_at hl 0 rfl) ?_
      refine lv_ldc2 (pc := 32) (v := 10) hx hb hown (hts _ (Uin mw316)) dX12_digits_32 ?_
      refine lv_ldiv (pc := 35) hx hb dX12_digits_35 (by decide) ?_
      refine lv_topl (pc := 36) (fun v_4 ev_4 => ?_)
      have h := h v_4 ev_4
      refine lv_lstore_n (pc := 36) (lv' := [(1, .long v_4), (3, .int x3)]) hx hb dX12_digits_36 rfl hl (by decide) rfl (fun ls hl => ?_)
      obtain ⟨v_5, ev_5⟩ : ∃ z : Int32, z = x3 + 1 := ⟨_, rfl⟩
      have h := h v_5 ev_5
      refine lv_iinc (pc := 37) (v := v_5) (lv' := [(3, .int v_5), (1, .long v_4)]) hx hb dX12_digits_37 hl (k := 1) rfl (by rw [ev_5]; rfl) (by decide) rfl (fun ls hl => ?_)
      refine lv_goto (pc := 40) (tgt := 23) hx hb dX12_digits_40 (by decide) ?_
      exact ih v_4 v_5 σ _ _ _ hR (lv_sub hl [1, 0] rfl) h
def fX12_digits_j22 (N : Nat) (x1 : Int64) (t0 : Int32) (Q : Int32 → St → Prop) (σ : St) : Prop := lo2 (fX12_digits_l23 N Q) N x1 t0 σ
set_option maxHeartbeats 4000000 in
set_option maxRecDepth 100000 in
theorem bX12_digits_22 {p : Program} {e : Env} {s : State} {m : MethodId} {args : Array Value} {below : List Frame} {meth : Method} {c : Code} (l : Launch) (w : Wd) (N : Nat) (Q : Int32 → St → Prop) (E : Cx 38 w X2 cX12_digits 4 RX12 (.code yX12_digits cX12_digits 4 (some .int)) (some .int) p s m args meth c) (x1 : Int64) (t0 : Int32) {σ : St} {H : Heap} {locs : List Loc} {ls : Array Slot} (hR : Rr 38 ev2 w σ s H locs) (hl : lv_has ls 4 [(1, .long x1)]) (h : fX12_digits_j22 N x1 t0 Q σ) : W p l e rmX12_digits s m args below meth c H locs 0 0 (MQ below (va_Qi Q (Rp 38 ev2 w) (Aw 38 w)) args s 0 0 (Aw 38 w)) (F0 m 22 ls [.int t0]) := by
  obtain ⟨hx, hb, hml, hown, hts, hr, hlk, hK, hI, hX⟩ := id E
  unfold fX12_digits_j22 at h
  refine lv_istore_n (pc := 22) (lv' := [(3, .int t0), (1, .long x1)]) hx hb dX12_digits_22 rfl hl (by decide) rfl (fun ls hl => ?_)
  exact bX12_digits_23 l w N Q E N x1 t0 σ _ _ _ hR (lv_sub hl [1, 0] rfl) h
def fX12_digits_j12 (N : Nat) (x0 : Int32) (t0 : Int64) (Q : Int32 → St → Prop) (σ : St) : Prop := ((0 ≤ x0 → fX12_digits_j22 N t0 1 Q σ) ∧ (¬ 0 ≤ x0 → fX12_digits_j22 N t0 2 Q σ))
set_option maxHeartbeats 4000000 in
set_option maxRecDepth 100000 in
theorem bX12_digits_12 {p : Program} {e : Env} {s : State} {m : MethodId} {args : Array Value} {below : List Frame} {meth : Method} {c : Code} (l : Launch) (w : Wd) (N : Nat) (Q : Int32 → St → Prop) (E : Cx 38 w X2 cX12_digits 4 RX12 (.code yX12_digits cX12_digits 4 (some .int)) (some .int) p s m args meth c) (x0 : Int32) (t0 : Int64) {σ : St} {H : Heap} {locs : List Loc} {ls : Array Slot} (hR : Rr 38 ev2 w σ s H locs) (hl : lv_has ls 4 [(0, .int x0)]) (h : fX12_digits_j12 N x0 t0 Q σ) : W p l e rmX12_digits s m args below meth c H locs 0 0 (MQ below (va_Qi Q (Rp 38 ev2 w) (Aw 38 w)) args s 0 0 (Aw 38 w)) (F0 m 12 ls [.long t0]) := by
  obtain ⟨hx, hb, hml, hown, hts, hr, hlk, hK, hI, hX⟩ := id E
  unfold fX12_digits_j12 at h
  refine lv_lstore_n (pc := 12) (lv' := [(1, .long t0), (0, .int x0)]) hx hb dX12_digits_12 rfl hl (by decide) rfl (fun ls hl => ?_)
  refine lv_iload_n (pc := 13) hx hb dX12_digits_13 rfl (lv_at hl 1 rfl) ?_
  refine lv_if_ge (pc := 14) (tgt := 21) hx hb dX12_digits_14 (by decide) (fun c_2 => ?_) (fun c_2 => ?_)
  · have h := h.1 c_2
    refine lv_iconst (pc := 21) (v := 1) hx hb dX12_digits_21 (by decide) ?_
    exact bX12_digits_22 l w N Q E t0 1 hR (lv_sub hl [0] rfl) h
  · have h := h.2 c_2
    refine lv_iconst (pc := 17) (v := 2) hx hb dX12_digits_17 (by decide) ?_
    refine lv_goto (pc := 18) (tgt := 22) hx hb dX12_digits_18 (by decide) ?_
    exact bX12_digits_22 l w N Q E t0 2 hR (lv_sub hl [0] rfl) h
def fX12_digits (N : Nat) (x0 : Int32) (Q : Int32 → St → Prop) (σ : St) : Prop := ((0 ≤ x0 → fX12_digits_j12 N x0 x0.toInt64 Q σ) ∧ (¬ 0 ≤ x0 → fX12_digits_j12 N x0 (-x0.toInt64) Q σ))
set_option maxHeartbeats 4000000 in
set_option maxRecDepth 100000 in
theorem bX12_digits_e {p : Program} {e : Env} {s : State} {m : MethodId} {args : Array Value} {below : List Frame} {meth : Method} {c : Code} (l : Launch) (w : Wd) (N : Nat) (Q : Int32 → St → Prop) (E : Cx 38 w X2 cX12_digits 4 RX12 (.code yX12_digits cX12_digits 4 (some .int)) (some .int) p s m args meth c) (x0 : Int32) {σ : St} {H : Heap} {locs : List Loc} {ls : Array Slot} (hR : Rr 38 ev2 w σ s H locs) (hl : lv_has ls 4 [(0, .int x0)]) (h : fX12_digits N x0 Q σ) : W p l e rmX12_digits s m args below meth c H locs 0 0 (MQ below (va_Qi Q (Rp 38 ev2 w) (Aw 38 w)) args s 0 0 (Aw 38 w)) (F0 m 0 ls []) := by
  obtain ⟨hx, hb, hml, hown, hts, hr, hlk, hK, hI, hX⟩ := id E
  unfold fX12_digits at h
  refine lv_iload_n (pc := 0) hx hb dX12_digits_0 rfl (lv_at hl 0 rfl) ?_
  refine lv_if_ge (pc := 1) (tgt := 10) hx hb dX12_digits_1 (by decide) (fun c_1 => ?_) (fun c_1 => ?_)
  · have h := h.1 c_1
    refine lv_iload_n (pc := 10) hx hb dX12_digits_10 rfl (lv_at hl 0 rfl) ?_
    refine lv_i2l (pc := 11) (v := x0.toInt64) hx hb dX12_digits_11 rfl ?_
    exact bX12_digits_12 l w N Q E x0 x0.toInt64 hR (lv_sub hl [0] rfl) h
  · have h := h.2 c_1
    refine lv_iload_n (pc := 4) hx hb dX12_digits_4 rfl (lv_at hl 0 rfl) ?_
    refine lv_i2l (pc := 5) (v := x0.toInt64) hx hb dX12_digits_5 rfl ?_
    refine lv_lneg (pc := 6) hx hb dX12_digits_6 ?_
    refine lv_goto (pc := 7) (tgt := 12) hx hb dX12_digits_7 (by decide) ?_
    exact bX12_digits_12 l w N Q E x0 (-x0.toInt64) hR (lv_sub hl [0] rfl) h
theorem cX12_digits_met (l : Launch) (w : Wd) (hI : Ij 38 w) (N : Nat) (x0 : Int32) (Q : Int32 → St → Prop) (σ : St) (h : fX12_digits N x0 Q σ) : Met l yX12_digits (.code yX12_digits cX12_digits 4 (some .int) :: Uw) rmX12_digits (va_Pc [.int x0] (fun U => Rp 38 ev2 w σ U ∧ X2 U)) (va_Qi Q (Rp 38 ev2 w) (Aw 38 w)) 0 0 (Aw 38 w) :=
  q_met (by decide) (Nat.le_of_ble_eq_true rfl) hI (fun p e s m below meth c ls E hl hR => bX12_digits_e l w N Q E x0 hR hl h)
-- GlulxStringsModel.digit(II)I
abbrev rmX12_digit : Room := { frames := 1, cells := 0, slots := 0, locals := 23 }
def fX12_digit_l37 (N : Nat) (x4 : Int32) (Q : Int32 → St → Prop) (r37 : Int64 → Int32 → St → Prop) (x2 : Int64) (x5 : Int32) (σ : St) : Prop := ((x4 ≤ x5 → Q (48 + ((x2 - x2 / 10 * 10).toInt32)) σ) ∧ (¬ x4 ≤ x5 → ∀ v_7 : Int64, v_7 = x2 / 10 → ∀ v_8 : Int32, v_8 = x5 + 1 → r37 v_7 v_8 σ))
set_option maxHeartbeats 4000000 in
set_option maxRecDepth 100000 in
theorem bX12_digit_37 {p : Program} {e : Env} {s : State} {m : MethodId} {args : Array Value} {below : List Frame} {meth : Method} {c : Code} (l : Launch) (w : Wd) (N : Nat) (Q : Int32 → St → Prop) (E : Cx 38 w X2 cX12_digit 6 RX12 (.code yX12_digit cX12_digit 6 (some .int)) (some .int) p s m args meth c) (x4 : Int32) : ∀ (n : Nat) (x2 : Int64) (x5 : Int32) (σ : St) (H : Heap) (locs : List Loc) (ls : Array Slot), Rr 38 ev2 w σ s H locs → lv_has ls 6 [(2, .long x2), (4, .int x4), (5, .int x5)] → lo2 (fX12_digit_l37 N x4 Q) n x2 x5 σ → W p l e rmX12_digit s m args below meth c H locs 0 0 (MQ below (va_Qi Q (Rp 38 ev2 w) (Aw 38 w)) args s 0 0 (Aw 38 w)) (F0 m 37 ls []) := by
  obtain ⟨hx, hb, hml, hown, hts, hr, hlk, hK, hI, hX⟩ := id E
  intro n
  induction n with
  | zero => intro x2 x5 σ H locs ls hR hl h; exact h.elim
  | succ n ih =>
    intro x2 x5 σ H locs ls hR hl h
    have h : fX12_digit_l37 N x4 Q (lo2 (fX12_digit_l37 N x4 Q) n) x2 x5 σ := h
    unfold fX12_digit_l37 at h
    refine lv_iload (pc := 37) hx hb dX12_digit_37 (lv_at hl 2 rfl) ?_
    refine lv_iload (pc := 39) hx hb dX12_digit_39 (lv_at hl 1 rfl) ?_
    refine lv_icmp_ge (pc := 41) (tgt := 56) hx hb dX12_digit_41 (by decide) (fun c_6 => ?_) (fun c_6 => ?_)
    · have h := h.1 c_6
      refine lv_bipush (pc := 56) (v := 48) hx hb dX12_digit_56 (by decide) ?_
      refine lv_lload_n (pc := 58) hx hb dX12_digit_58 rfl (lv_at hl 0 rfl) ?_
      refine lv_ldc2 (pc := 59) (v := 10) hx hb hown (hts _ (Uin mw316)) dX12_digit_59 ?_
      refine lv_lrem (pc := 62) hx hb dX12_digit_62 (by decide) ?_
      refine lv_l2i (pc := 63) (v := (x2 - x2 / 10 * 10).toInt32) hx hb dX12_digit_63 rfl ?_
      refine lv_iadd (pc := 64) hx hb dX12_digit_64 ?_
      exact q_iret (pc := 65) E hR h dX12_digit_65
    · have h := h.2 c_6
      refine lv_lload_n (pc := 44) hx hb dX12_digit_44 rfl (lv_at hl 0 rfl) ?_
      refine lv_ldc2 (pc := 45) (v := 10) hx hb hown (hts _ (Uin mw316)) dX12_digit_45 ?_
      refine lv_ldiv (pc := 48) hx hb dX12_digit_48 (by decide) ?_
      refine lv_topl (pc := 49) (fun v_7 ev_7 => ?_)
      have h := h v_7 ev_7
      refine lv_lstore_n (pc := 49) (lv' := [(2, .long v_7), (4, .int x4), (5, .int x5)]) hx hb dX12_digit_49 rfl hl (by decide) rfl (fun ls hl => ?_)
      obtain ⟨v_8, ev_8⟩ : ∃ z : Int32, z = x5 + 1 := ⟨_, rfl⟩
      have h := h v_8 ev_8
      refine lv_iinc (pc := 50) (v := v_8) (lv' := [(5, .int v_8), (2, .long v_7), (4, .int x4)]) hx hb dX12_digit_50 hl (k := 2) rfl (by rw [ev_8]; rfl) (by decide) rfl (fun ls hl => ?_)
      refine lv_goto (pc := 53) (tgt := 37) hx hb dX12_digit_53 (by decide) ?_
      exact ih v_7 v_8 σ _ _ _ hR (lv_sub hl [1, 2, 0] rfl) h
def fX12_digit_j23 (N : Nat) (x0 : Int32) (x1 : Int32) (t0 : Int64) (Q : Int32 → St → Prop) (σ : St) : Prop := fX12_digits N x0 (fun r_4 σ_3 => ∀ v_5 : Int32, v_5 = (r_4 - 1) - x1 → lo2 (fX12_digit_l37 N v_5 Q) N t0 0 σ_3) σ
set_option maxHeartbeats 4000000 in
set_option maxRecDepth 100000 in
theorem bX12_digit_23 {p : Program} {e : Env} {s : State} {m : MethodId} {args : Array Value} {below : List Frame} {meth : Method} {c : Code} (l : Launch) (w : Wd) (N : Nat) (Q : Int32 → St → Prop) (E : Cx 38 w X2 cX12_digit 6 RX12 (.code yX12_digit cX12_digit 6 (some .int)) (some .int) p s m args meth c) (x0 : Int32) (x1 : Int32) (t0 : Int64) {σ : St} {H : Heap} {locs : List Loc} {ls : Array Slot} (hR : Rr 38 ev2 w σ s H locs) (hl : lv_has ls 6 [(0, .int x0), (1, .int x1)]) (h : fX12_digit_j23 N x0 x1 t0 Q σ) : W p l e rmX12_digit s m args below meth c H locs 0 0 (MQ below (va_Qi Q (Rp 38 ev2 w) (Aw 38 w)) args s 0 0 (Aw 38 w)) (F0 m 23 ls [.long t0]) := by
  obtain ⟨hx, hb, hml, hown, hts, hr, hlk, hK, hI, hX⟩ := id E
  unfold fX12_digit_j23 at h
  refine lv_lstore_n (pc := 23) (lv' := [(2, .long t0), (0, .int x0), (1, .int x1)]) hx hb dX12_digit_23 rfl hl (by decide) rfl (fun ls hl => ?_)
  refine lv_iload_n (pc := 24) hx hb dX12_digit_24 rfl (lv_at hl 1 rfl) ?_
  refine q_ci (pc := 25) hR (q_rS E (xp2 w) (As := [.int x0]) (rest := []) (cX12_digits_met l w hI N x0 _ σ h) ckX12_digits csX12_digits mw317 ⟨rfl, rfl, Nat.le_of_ble_eq_true rfl, Nat.le_of_ble_eq_true rfl⟩ hR rfl hl.1 rfl (Nat.le_of_ble_eq_true rfl) dX12_digit_25) (fun r_4 σ_3 H locs h hR => ?_)
  refine lv_iconst (pc := 28) (v := 1) hx hb dX12_digit_28 (by decide) ?_
  refine lv_isub (pc := 29) hx hb dX12_digit_29 ?_
  refine lv_iload_n (pc := 30) hx hb dX12_digit_30 rfl (lv_at hl 2 rfl) ?_
  refine lv_isub (pc := 31) hx hb dX12_digit_31 ?_
  refine lv_topi (pc := 32) (fun v_5 ev_5 => ?_)
  have h := h v_5 ev_5
  refine lv_istore (pc := 32) (lv' := [(4, .int v_5), (2, .long t0), (0, .int x0), (1, .int x1)]) hx hb dX12_digit_32 hl (by decide) rfl (fun ls hl => ?_)
  refine lv_iconst (pc := 34) (v := 0) hx hb dX12_digit_34 (by decide) ?_
  refine lv_istore (pc := 35) (lv' := [(5, .int 0), (4, .int v_5), (2, .long t0), (0, .int x0), (1, .int x1)]) hx hb dX12_digit_35 hl (by decide) rfl (fun ls hl => ?_)
  exact bX12_digit_37 l w N Q E v_5 N t0 0 σ_3 _ _ _ hR (lv_sub hl [2, 1, 0] rfl) h
def fX12_digit_j11 (N : Nat) (x0 : Int32) (x1 : Int32) (Q : Int32 → St → Prop) (σ : St) : Prop := ((0 ≤ x0 → fX12_digit_j23 N x0 x1 x0.toInt64 Q σ) ∧ (¬ 0 ≤ x0 → fX12_digit_j23 N x0 x1 (-x0.toInt64) Q σ))
set_option maxHeartbeats 4000000 in
set_option maxRecDepth 100000 in
theorem bX12_digit_11 {p : Program} {e : Env} {s : State} {m : MethodId} {args : Array Value} {below : List Frame} {meth : Method} {c : Code} (l : Launch) (w : Wd) (N : Nat) (Q : Int32 → St → Prop) (E : Cx 38 w X2 cX12_digit 6 RX12 (.code yX12_digit cX12_digit 6 (some .int)) (some .int) p s m args meth c) (x0 : Int32) (x1 : Int32) {σ : St} {H : Heap} {locs : List Loc} {ls : Array Slot} (hR : Rr 38 ev2 w σ s H locs) (hl : lv_has ls 6 [(0, .int x0), (1, .int x1)]) (h : fX12_digit_j11 N x0 x1 Q σ) : W p l e rmX12_digit s m args below meth c H locs 0 0 (MQ below (va_Qi Q (Rp 38 ev2 w) (Aw 38 w)) args s 0 0 (Aw 38 w)) (F0 m 11 ls []) := by
  obtain ⟨hx, hb, hml, hown, hts, hr, hlk, hK, hI, hX⟩ := id E
  unfold fX12_digit_j11 at h
  refine lv_iload_n (pc := 11) hx hb dX12_digit_11 rfl (lv_at hl 0 rfl) ?_
  refine lv_if_ge (pc := 12) (tgt := 21) hx hb dX12_digit_12 (by decide) (fun c_2 => ?_) (fun c_2 => ?_)
  · have h := h.1 c_2
    refine lv_iload_n (pc := 21) hx hb dX12_digit_21 rfl (lv_at hl 0 rfl) ?_
    refine lv_i2l (pc := 22) (v := x0.toInt64) hx hb dX12_digit_22 rfl ?_
    exact bX12_digit_23 l w N Q E x0 x1 x0.toInt64 hR (lv_sub hl [0, 1] rfl) h
  · have h := h.2 c_2
    refine lv_iload_n (pc := 15) hx hb dX12_digit_15 rfl (lv_at hl 0 rfl) ?_
    refine lv_i2l (pc := 16) (v := x0.toInt64) hx hb dX12_digit_16 rfl ?_
    refine lv_lneg (pc := 17) hx hb dX12_digit_17 ?_
    refine lv_goto (pc := 18) (tgt := 23) hx hb dX12_digit_18 (by decide) ?_
    exact bX12_digit_23 l w N Q E x0 x1 (-x0.toInt64) hR (lv_sub hl [0, 1] rfl) h
def fX12_digit (N : Nat) (x0 : Int32) (x1 : Int32) (Q : Int32 → St → Prop) (σ : St) : Prop := ((0 ≤ x0 → fX12_digit_j11 N x0 x1 Q σ) ∧ (¬ 0 ≤ x0 → ((x1 = 0 → Q 45 σ) ∧ (¬ x1 = 0 → fX12_digit_j11 N x0 x1 Q σ))))
set_option maxHeartbeats 4000000 in
set_option maxRecDepth 100000 in
theorem bX12_digit_e {p : Program} {e : Env} {s : State} {m : MethodId} {args : Array Value} {below : List Frame} {meth : Method} {c : Code} (l : Launch) (w : Wd) (N : Nat) (Q : Int32 → St → Prop) (E : Cx 38 w X2 cX12_digit 6 RX12 (.code yX12_digit cX12_digit 6 (some .int)) (some .int) p s m args meth c) (x0 : Int32) (x1 : Int32) {σ : St} {H : Heap} {locs : List Loc} {ls : Array Slot} (hR : Rr 38 ev2 w σ s H locs) (hl : lv_has ls 6 [(0, .int x0), (1, .int x1)]) (h : fX12_digit N x0 x1 Q σ) : W p l e rmX12_digit s m args below meth c H locs 0 0 (MQ below (va_Qi Q (Rp 38 ev2 w) (Aw 38 w)) args s 0 0 (Aw 38 w)) (F0 m 0 ls []) := by
  obtain ⟨hx, hb, hml, hown, hts, hr, hlk, hK, hI, hX⟩ := id E
  unfold fX12_digit at h
  refine lv_iload_n (pc := 0) hx hb dX12_digit_0 rfl (lv_at hl 0 rfl) ?_
  refine lv_if_ge (pc := 1) (tgt := 11) hx hb dX12_digit_1 (by decide) (fun c_1 => ?_) (fun c_1 => ?_)
  · have h := h.1 c_1
    exact bX12_digit_11 l w N Q E x0 x1 hR (lv_sub hl [0, 1] rfl) h
  · have h := h.2 c_1
    refine lv_iload_n (pc := 4) hx hb dX12_digit_4 rfl (lv_at hl 1 rfl) ?_
    refine lv_if_ne (pc := 5) (tgt := 11) hx hb dX12_digit_5 (by decide) (fun c_2 => ?_) (fun c_2 => ?_)
    · have h := h.2 c_2
      exact bX12_digit_11 l w N Q E x0 x1 hR (lv_sub hl [0, 1] rfl) h
    · have h := h.1 c_2
      refine lv_bipush (pc := 8) (v := 45) hx hb dX12_digit_8 (by decide) ?_
      exact q_iret (pc := 10) E hR h dX12_digit_10
theorem cX12_digit_met (l : Launch) (w : Wd) (hI : Ij 38 w) (N : Nat) (x0 : Int32) (x1 : Int32) (Q : Int32 → St → Prop) (σ : St) (h : fX12_digit N x0 x1 Q σ) : Met l yX12_digit (.code yX12_digit cX12_digit 6 (some .int) :: Uw) rmX12_digit (va_Pc [.int x0, .int x1] (fun U => Rp 38 ev2 w σ U ∧ X2 U)) (va_Qi Q (Rp 38 ev2 w) (Aw 38 w)) 0 0 (Aw 38 w) :=
  q_met (by decide) (Nat.le_of_ble_eq_true rfl) hI (fun p e s m below meth c ls E hl hR => bX12_digit_e l w N Q E x0 x1 hR hl h)
-- GlulxStringsModel.step()V
abbrev rmX12_step : Room := { frames := 7, cells := 0, slots := 0, locals := 182 }
def fX12_step_j181 (N : Nat) (x3 : Int32) (t0 : Int32) (t1 : Int32) (t2 : Int32) (Q : St → Prop) (σ : St) : Prop := ∀ v_14 : Int32, v_14 = t1 + t0 → vp_in t2 40 ∧ ∀ σ_16 : St, σ_16 = u1 σ 7 t2.toNatClampNeg v_14 → fX12_gives N x3 (fun σ_17 => Q σ_17) σ_16
set_option maxHeartbeats 4000000 in
set_option maxRecDepth 100000 in
theorem bX12_step_181 {p : Program} {e : Env} {s : State} {m : MethodId} {args : Array Value} {below : List Frame} {meth : Method} {c : Code} (l : Launch) (w : Wd) (N : Nat) (Q : St → Prop) (E : Cx 38 w X2 cX12_step 4 RX12 (.code yX12_step cX12_step 4 none) none p s m args meth c) (x3 : Int32) (t0 : Int32) (t1 : Int32) (t2 : Int32) {σ : St} {H : Heap} {locs : List Loc} {ls : Array Slot} (hR : Rr 38 ev2 w σ s H locs) (hl : lv_has ls 4 [(0, .ref (w.2.1 0)), (3, .int x3)]) (h : fX12_step_j181 N x3 t0 t1 t2 Q σ) : W p l e rmX12_step s m args below meth c H locs 0 0 (MQ below (va_Qv Q (Rp 38 ev2 w) (Aw 38 w)) args s 0 0 (Aw 38 w)) (F0 m 181 ls [.int t0, .int t1, .int t2, .ref (w.2.1 7)]) := by
  obtain ⟨hx, hb, hml, hown, hts, hr, hlk, hK, hI, hX⟩ := id E
  unfold fX12_step_j181 at h
  refine lv_iadd (pc := 181) hx hb dX12_step_181 ?_
  refine lv_topi (pc := 182) (fun v_14 ev_14 => ?_)
  have h := h v_14 ev_14
  have g_15 := h.1
  have h := h.2
  refine q_iast (pc := 182) hx hb hK hI hR (k := 7) lt2_7 (fun f => (ar2_7 _ f _)) g_15 dX12_step_182 (fun H locs σ_16 eσ_16 hR => ?_)
  have h := h σ_16 eσ_16
  refine lv_aload_n (pc := 183) hx hb dX12_step_183 rfl (lv_at hl 0 rfl) ?_
  refine lv_iload_n (pc := 184) hx hb dX12_step_184 rfl (lv_at hl 1 rfl) ?_
  refine q_cv (pc := 185) hR (q_rV E (xp2 w) (As := [.int x3]) (rest := []) (cX12_gives_met l w hI N x3 _ σ_16 h) ckX12_gives cvX12_gives mw309 ⟨rfl, rfl, Nat.le_of_ble_eq_true rfl, Nat.le_of_ble_eq_true rfl⟩ hR (rc2_0 w) rfl hl.1 rfl (Nat.le_of_ble_eq_true rfl) dX12_step_185) (fun σ_17 H locs h hR => ?_)
  exact q_vret (pc := 188) E hR h dX12_step_188
def fX12_step_j164 (N : Nat) (x1 : Int32) (x2 : Int32) (x3 : Int32) (Q : St → Prop) (σ : St) : Prop := vp_in x1 40 ∧ ((x2 = 1 → fX12_step_j181 N x3 1 (σ.1 7 x1.toNatClampNeg) x1 Q σ) ∧ (¬ x2 = 1 → fX12_step_j181 N x3 4 (σ.1 7 x1.toNatClampNeg) x1 Q σ))
set_option maxHeartbeats 4000000 in
set_option maxRecDepth 100000 in
theorem bX12_step_164 {p : Program} {e : Env} {s : State} {m : MethodId} {args : Array Value} {below : List Frame} {meth : Method} {c : Code} (l : Launch) (w : Wd) (N : Nat) (Q : St → Prop) (E : Cx 38 w X2 cX12_step 4 RX12 (.code yX12_step cX12_step 4 none) none p s m args meth c) (x1 : Int32) (x2 : Int32) (x3 : Int32) {σ : St} {H : Heap} {locs : List Loc} {ls : Array Slot} (hR : Rr 38 ev2 w σ s H locs) (hl : lv_has ls 4 [(0, .ref (w.2.1 0)), (1, .int x1), (2, .int x2), (3, .int x3)]) (h : fX12_step_j164 N x1 x2 x3 Q σ) : W p l e rmX12_step s m args below meth c H locs 0 0 (MQ below (va_Qv Q (Rp 38 ev2 w) (Aw 38 w)) args s 0 0 (Aw 38 w)) (F0 m 164 ls []) := by
  obtain ⟨hx, hb, hml, hown, hts, hr, hlk, hK, hI, hX⟩ := id E
  unfold fX12_step_j164 at h
  refine lv_aload_n (pc := 164) hx hb dX12_step_164 rfl (lv_at hl 0 rfl) ?_
  refine gf2_0_16 (pc := 165) hx hb hts hown hK hR mw288 dX12_step_165 ?_
  refine lv_iload_n (pc := 168) hx hb dX12_step_168 rfl (lv_at hl 1 rfl) ?_
  refine lv_dup2_11 (pc := 169) hx hb dX12_step_169 rfl rfl ?_
  have g_12 := h.1
  have h := h.2
  refine q_iald (pc := 170) hx hb hK hR (k := 7) lt2_7 (ar2_7 _ _ _) g_12 dX12_step_170 ?_
  refine lv_iload_n (pc := 171) hx hb dX12_step_171 rfl (lv_at hl 2 rfl) ?_
  refine lv_iconst (pc := 172) (v := 1) hx hb dX12_step_172 (by decide) ?_
  refine lv_icmp_ne (pc := 173) (tgt := 180) hx hb dX12_step_173 (by decide) (fun c_13 => ?_) (fun c_13 => ?_)
  · have h := h.2 c_13
    refine lv_iconst (pc := 180) (v := 4) hx hb dX12_step_180 (by decide) ?_
    exact bX12_step_181 l w N Q E x3 4 (σ.1 7 x1.toNatClampNeg) x1 hR (lv_sub hl [0, 3] rfl) h
  · have h := h.1 c_13
    refine lv_iconst (pc := 176) (v := 1) hx hb dX12_step_176 (by decide) ?_
    refine lv_goto (pc := 177) (tgt := 181) hx hb dX12_step_177 (by decide) ?_
    exact bX12_step_181 l w N Q E x3 1 (σ.1 7 x1.toNatClampNeg) x1 hR (lv_sub hl [0, 3] rfl) h
def fX12_step_j139 (N : Nat) (x1 : Int32) (x2 : Int32) (t0 : Int32) (Q : St → Prop) (σ : St) : Prop := (((σ.1 0 9) = 0 → ((t0 = 0 → ∀ v_13 : Int32, v_13 = (σ.1 0 14) - 1 → ∀ σ_14 : St, σ_14 = u1 σ 0 14 v_13 → Q σ_14) ∧ (¬ t0 = 0 → fX12_step_j164 N x1 x2 t0 Q σ))) ∧ (¬ (σ.1 0 9) = 0 → fX12_step_j164 N x1 x2 t0 Q σ))
set_option maxHeartbeats 4000000 in
set_option maxRecDepth 100000 in
theorem bX12_step_139 {p : Program} {e : Env} {s : State} {m : MethodId} {args : Array Value} {below : List Frame} {meth : Method} {c : Code} (l : Launch) (w : Wd) (N : Nat) (Q : St → Prop) (E : Cx 38 w X2 cX12_step 4 RX12 (.code yX12_step cX12_step 4 none) none p s m args meth c) (x1 : Int32) (x2 : Int32) (t0 : Int32) {σ : St} {H : Heap} {locs : List Loc} {ls : Array Slot} (hR : Rr 38 ev2 w σ s H locs) (hl : lv_has ls 4 [(0, .ref (w.2.1 0)), (1, .int x1), (2, .int x2)]) (h : fX12_step_j139 N x1 x2 t0 Q σ) : W p l e rmX12_step s m args below meth c H locs 0 0 (MQ below (va_Qv Q (Rp 38 ev2 w) (Aw 38 w)) args s 0 0 (Aw 38 w)) (F0 m 139 ls [.int t0]) := by
  obtain ⟨hx, hb, hml, hown, hts, hr, hlk, hK, hI, hX⟩ := id E
  unfold fX12_step_j139 at h
  refine lv_istore_n (pc := 139) (lv' := [(3, .int t0), (0, .ref (w.2.1 0)), (1, .int x1), (2, .int x2)]) hx hb dX12_step_139 rfl hl (by decide) rfl (fun ls hl => ?_)
  refine lv_aload_n (pc := 140) hx hb dX12_step_140 rfl (lv_at hl 1 rfl) ?_
  refine gf2_0_9 (pc := 141) hx hb hts hown hK hR mw270 dX12_step_141 ?_
  refine lv_if_ne (pc := 144) (tgt := 164) hx hb dX12_step_144 (by decide) (fun c_11 => ?_) (fun c_11 => ?_)
  · have h := h.2 c_11
    exact bX12_step_164 l w N Q E x1 x2 t0 hR (lv_sub hl [1, 2, 3, 0] rfl) h
  · have h := h.1 c_11
    refine lv_iload_n (pc := 147) hx hb dX12_step_147 rfl (lv_at hl 0 rfl) ?_
    refine lv_if_ne (pc := 148) (tgt := 164) hx hb dX12_step_148 (by decide) (fun c_12 => ?_) (fun c_12 => ?_)
    · have h := h.2 c_12
      exact bX12_step_164 l w N Q E x1 x2 t0 hR (lv_sub hl [1, 2, 3, 0] rfl) h
    · have h := h.1 c_12
      refine lv_aload_n (pc := 151) hx hb dX12_step_151 rfl (lv_at hl 1 rfl) ?_
      refine lv_dup (pc := 152) hx hb dX12_step_152 rfl ?_
      refine gf2_0_14 (pc := 153) hx hb hts hown hK hR mw282 dX12_step_153 ?_
      refine lv_iconst (pc := 156) (v := 1) hx hb dX12_step_156 (by decide) ?_
      refine lv_isub (pc := 157) hx hb dX12_step_157 ?_
      refine lv_topi (pc := 158) (fun v_13 ev_13 => ?_)
      have h := h v_13 ev_13
      refine pf2_0_14 (pc := 158) hx hb hts hown hK hI hR mw282 dX12_step_158 (fun H locs σ_14 eσ_14 hR => ?_)
      have h := h σ_14 eσ_14
      refine lv_goto (pc := 161) (tgt := 188) hx hb dX12_step_161 (by decide) ?_
      exact q_vret (pc := 188) E hR h dX12_step_188
def fX12_step (N : Nat) (Q : St → Prop) (σ : St) : Prop := ∀ v_1 : Int32, v_1 = (σ.1 0 14) - 1 → vp_in v_1 40 ∧ ∀ v_3 : Int32, v_3 = σ.1 6 v_1.toNatClampNeg → ((v_3 = 0 → fX12_order N v_1 (fun σ_31 => Q σ_31) σ) ∧ (¬ v_3 = 0 → ((v_3 = 3 → fX12_packed N v_1 (fun σ_30 => Q σ_30) σ) ∧ (¬ v_3 = 3 → ((v_3 = 4 → vp_in v_1 40 ∧ vp_in v_1 40 ∧ fX12_digits N (σ.1 7 v_1.toNatClampNeg) (fun r_17 σ_16 => (((σ.1 8 v_1.toNatClampNeg) = r_17 → ∀ v_28 : Int32, v_28 = (σ_16.1 0 14) - 1 → ∀ σ_29 : St, σ_29 = u1 σ_16 0 14 v_28 → Q σ_29) ∧ (¬ (σ.1 8 v_1.toNatClampNeg) = r_17 → vp_in v_1 40 ∧ ∀ v_20 : Int32, v_20 = (σ_16.1 8 v_1.toNatClampNeg) + 1 → vp_in v_1 40 ∧ ∀ σ_22 : St, σ_22 = u1 σ_16 8 v_1.toNatClampNeg v_20 → vp_in v_1 40 ∧ vp_in v_1 40 ∧ fX12_digit N (σ_22.1 7 v_1.toNatClampNeg) ((σ_22.1 8 v_1.toNatClampNeg) - 1) (fun r_26 σ_25 => fX12_gives N r_26 (fun σ_27 => Q σ_27) σ_25) σ_22))) σ) ∧ (¬ v_3 = 4 → ((v_3 = 1 → vp_in v_1 40 ∧ fX12_read N ((σ.1 7 v_1.toNatClampNeg).toInt64) (fun r_13 σ_12 => fX12_step_j139 N v_1 v_3 r_13 Q σ_12) σ) ∧ (¬ v_3 = 1 → vp_in v_1 40 ∧ fX12_four N ((σ.1 7 v_1.toNatClampNeg).toInt64) (fun r_10 σ_9 => fX12_step_j139 N v_1 v_3 r_10 Q σ_9) σ))))))))
set_option maxHeartbeats 4000000 in
set_option maxRecDepth 100000 in
theorem bX12_step_e {p : Program} {e : Env} {s : State} {m : MethodId} {args : Array Value} {below : List Frame} {meth : Method} {c : Code} (l : Launch) (w : Wd) (N : Nat) (Q : St → Prop) (E : Cx 38 w X2 cX12_step 4 RX12 (.code yX12_step cX12_step 4 none) none p s m args meth c) {σ : St} {H : Heap} {locs : List Loc} {ls : Array Slot} (hR : Rr 38 ev2 w σ s H locs) (hl : lv_has ls 4 [(0, .ref (w.2.1 0))]) (h : fX12_step N Q σ) : W p l e rmX12_step s m args below meth c H locs 0 0 (MQ below (va_Qv Q (Rp 38 ev2 w) (Aw 38 w)) args s 0 0 (Aw 38 w)) (F0 m 0 ls []) := by
  obtain ⟨hx, hb, hml, hown, hts, hr, hlk, hK, hI, hX⟩ := id E
  unfold fX12_step at h
  refine lv_aload_n (pc := 0) hx hb dX12_step_0 rfl (lv_at hl 0 rfl) ?_
  refine gf2_0_14 (pc := 1) hx hb hts hown hK hR mw282 dX12_step_1 ?_
  refine lv_iconst (pc := 4) (v := 1) hx hb dX12_step_4 (by decide) ?_
  refine lv_isub (pc := 5) hx hb dX12_step_5 ?_
  refine lv_topi (pc := 6) (fun v_1 ev_1 => ?_)
  have h := h v_1 ev_1
  refine lv_istore_n (pc := 6) (lv' := [(1, .int v_1), (0, .ref (w.2.1 0))]) hx hb dX12_step_6 rfl hl (by decide) rfl (fun ls hl => ?_)
  refine lv_aload_n (pc := 7) hx hb dX12_step_7 rfl (lv_at hl 1 rfl) ?_
  refine gf2_0_15 (pc := 8) hx hb hts hown hK hR mw287 dX12_step_8 ?_
  refine lv_iload_n (pc := 11) hx hb dX12_step_11 rfl (lv_at hl 0 rfl) ?_
  have g_2 := h.1
  have h := h.2
  refine q_iald (pc := 12) hx hb hK hR (k := 6) lt2_6 (ar2_6 _ _ _) g_2 dX12_step_12 ?_
  refine lv_topi (pc := 13) (fun v_3 ev_3 => ?_)
  have h := h v_3 ev_3
  refine lv_istore_n (pc := 13) (lv' := [(2, .int v_3), (1, .int v_1), (0, .ref (w.2.1 0))]) hx hb dX12_step_13 rfl hl (by decide) rfl (fun ls hl => ?_)
  refine lv_iload_n (pc := 14) hx hb dX12_step_14 rfl (lv_at hl 0 rfl) ?_
  refine lv_if_ne (pc := 15) (tgt := 26) hx hb dX12_step_15 (by decide) (fun c_4 => ?_) (fun c_4 => ?_)
  · have h := h.2 c_4
    refine lv_iload_n (pc := 26) hx hb dX12_step_26 rfl (lv_at hl 0 rfl) ?_
    refine lv_iconst (pc := 27) (v := 3) hx hb dX12_step_27 (by decide) ?_
    refine lv_icmp_ne (pc := 28) (tgt := 39) hx hb dX12_step_28 (by decide) (fun c_5 => ?_) (fun c_5 => ?_)
    · have h := h.2 c_5
      refine lv_iload_n (pc := 39) hx hb dX12_step_39 rfl (lv_at hl 0 rfl) ?_
      refine lv_iconst (pc := 40) (v := 4) hx hb dX12_step_40 (by decide) ?_
      refine lv_icmp_ne (pc := 41) (tgt := 109) hx hb dX12_step_41 (by decide) (fun c_6 => ?_) (fun c_6 => ?_)
      · have h := h.2 c_6
        refine lv_iload_n (pc := 109) hx hb dX12_step_109 rfl (lv_at hl 0 rfl) ?_
        refine lv_iconst (pc := 110) (v := 1) hx hb dX12_step_110 (by decide) ?_
        refine lv_icmp_ne (pc := 111) (tgt := 128) hx hb dX12_step_111 (by decide) (fun c_7 => ?_) (fun c_7 => ?_)
        · have h := h.2 c_7
          refine lv_aload_n (pc := 128) hx hb dX12_step_128 rfl (lv_at hl 2 rfl) ?_
          refine lv_aload_n (pc := 129) hx hb dX12_step_129 rfl (lv_at hl 2 rfl) ?_
          refine gf2_0_16 (pc := 130) hx hb hts hown hK hR mw288 dX12_step_130 ?_
          refine lv_iload_n (pc := 133) hx hb dX12_step_133 rfl (lv_at hl 1 rfl) ?_
          have g_8 := h.1
          have h := h.2
          refine q_iald (pc := 134) hx hb hK hR (k := 7) lt2_7 (ar2_7 _ _ _) g_8 dX12_step_134 ?_
          refine lv_i2l (pc := 135) (v := (σ.1 7 v_1.toNatClampNeg).toInt64) hx hb dX12_step_135 rfl ?_
          refine q_ci (pc := 136) hR (q_rV E (xp2 w) (As := [.long ((σ.1 7 v_1.toNatClampNeg).toInt64)]) (rest := []) (cX12_four_met l w hI N ((σ.1 7 v_1.toNatClampNeg).toInt64) _ σ h) ckX12_four cvX12_four mw275 ⟨rfl, rfl, Nat.le_of_ble_eq_true rfl, Nat.le_of_ble_eq_true rfl⟩ hR (rc2_0 w) rfl hl.1 rfl (Nat.le_of_ble_eq_true rfl) dX12_step_136) (fun r_10 σ_9 H locs h hR => ?_)
          exact bX12_step_139 l w N Q E v_1 v_3 r_10 hR (lv_sub hl [2, 1, 0] rfl) h
        · have h := h.1 c_7
          refine lv_aload_n (pc := 114) hx hb dX12_step_114 rfl (lv_at hl 2 rfl) ?_
          refine lv_aload_n (pc := 115) hx hb dX12_step_115 rfl (lv_at hl 2 rfl) ?_
          refine gf2_0_16 (pc := 116) hx hb hts hown hK hR mw288 dX12_step_116 ?_
          refine lv_iload_n (pc := 119) hx hb dX12_step_119 rfl (lv_at hl 1 rfl) ?_
          have g_11 := h.1
          have h := h.2
          refine q_iald (pc := 120) hx hb hK hR (k := 7) lt2_7 (ar2_7 _ _ _) g_11 dX12_step_120 ?_
          refine lv_i2l (pc := 121) (v := (σ.1 7 v_1.toNatClampNeg).toInt64) hx hb dX12_step_121 rfl ?_
          refine q_ci (pc := 122) hR (q_rV E (xp2 w) (As := [.long ((σ.1 7 v_1.toNatClampNeg).toInt64)]) (rest := []) (cX12_read_met l w hI N ((σ.1 7 v_1.toNatClampNeg).toInt64) _ σ h) ckX12_read cvX12_read mw272 ⟨rfl, rfl, Nat.le_of_ble_eq_true rfl, Nat.le_of_ble_eq_true rfl⟩ hR (rc2_0 w) rfl hl.1 rfl (Nat.le_of_ble_eq_true rfl) dX12_step_122) (fun r_13 σ_12 H locs h hR => ?_)
          refine lv_goto (pc := 125) (tgt := 139) hx hb dX12_step_125 (by decide) ?_
          exact bX12_step_139 l w N Q E v_1 v_3 r_13 hR (lv_sub hl [2, 1, 0] rfl) h
      · have h := h.1 c_6
        refine lv_aload_n (pc := 44) hx hb dX12_step_44 rfl (lv_at hl 2 rfl) ?_
        refine gf2_0_17 (pc := 45) hx hb hts hown hK hR mw289 dX12_step_45 ?_
        refine lv_iload_n (pc := 48) hx hb dX12_step_48 rfl (lv_at hl 1 rfl) ?_
        have g_14 := h.1
        have h := h.2
        refine q_iald (pc := 49) hx hb hK hR (k := 8) lt2_8 (ar2_8 _ _ _) g_14 dX12_step_49 ?_
        refine lv_aload_n (pc := 50) hx hb dX12_step_50 rfl (lv_at hl 2 rfl) ?_
        refine gf2_0_16 (pc := 51) hx hb hts hown hK hR mw288 dX12_step_51 ?_
        refine lv_iload_n (pc := 54) hx hb dX12_step_54 rfl (lv_at hl 1 rfl) ?_
        have g_15 := h.1
        have h := h.2
        refine q_iald (pc := 55) hx hb hK hR (k := 7) lt2_7 (ar2_7 _ _ _) g_15 dX12_step_55 ?_
        refine q_ci (pc := 56) hR (q_rS E (xp2 w) (As := [.int (σ.1 7 v_1.toNatClampNeg)]) (rest := [.int (σ.1 8 v_1.toNatClampNeg)]) (cX12_digits_met l w hI N (σ.1 7 v_1.toNatClampNeg) _ σ h) ckX12_digits csX12_digits mw317 ⟨rfl, rfl, Nat.le_of_ble_eq_true rfl, Nat.le_of_ble_eq_true rfl⟩ hR rfl hl.1 rfl (Nat.le_of_ble_eq_true rfl) dX12_step_56) (fun r_17 σ_16 H locs h hR => ?_)
        refine lv_icmp_ne (pc := 59) (tgt := 75) hx hb dX12_step_59 (by decide) (fun c_18 => ?_) (fun c_18 => ?_)
        · have h := h.2 c_18
          refine lv_aload_n (pc := 75) hx hb dX12_step_75 rfl (lv_at hl 2 rfl) ?_
          refine gf2_0_17 (pc := 76) hx hb hts hown hK hR mw289 dX12_step_76 ?_
          refine lv_iload_n (pc := 79) hx hb dX12_step_79 rfl (lv_at hl 1 rfl) ?_
          refine lv_dup2_11 (pc := 80) hx hb dX12_step_80 rfl rfl ?_
          have g_19 := h.1
          have h := h.2
          refine q_iald (pc := 81) hx hb hK hR (k := 8) lt2_8 (ar2_8 _ _ _) g_19 dX12_step_81 ?_
          refine lv_iconst (pc := 82) (v := 1) hx hb dX12_step_82 (by decide) ?_
          refine lv_iadd (pc := 83) hx hb dX12_step_83 ?_
          refine lv_topi (pc := 84) (fun v_20 ev_20 => ?_)
          have h := h v_20 ev_20
          have g_21 := h.1
          have h := h.2
          refine q_iast (pc := 84) hx hb hK hI hR (k := 8) lt2_8 (fun f => (ar2_8 _ f _)) g_21 dX12_step_84 (fun H locs σ_22 eσ_22 hR => ?_)
          have h := h σ_22 eσ_22
          refine lv_aload_n (pc := 85) hx hb dX12_step_85 rfl (lv_at hl 2 rfl) ?_
          refine lv_aload_n (pc := 86) hx hb dX12_step_86 rfl (lv_at hl 2 rfl) ?_
          refine gf2_0_16 (pc := 87) hx hb hts hown hK hR mw288 dX12_step_87 ?_
          refine lv_iload_n (pc := 90) hx hb dX12_step_90 rfl (lv_at hl 1 rfl) ?_
          have g_23 := h.1
          have h := h.2
          refine q_iald (pc := 91) hx hb hK hR (k := 7) lt2_7 (ar2_7 _ _ _) g_23 dX12_step_91 ?_
          refine lv_aload_n (pc := 92) hx hb dX12_step_92 rfl (lv_at hl 2 rfl) ?_
          refine gf2_0_17 (pc := 93) hx hb hts hown hK hR mw289 dX12_step_93 ?_
          refine lv_iload_n (pc := 96) hx hb dX12_step_96 rfl (lv_at hl 1 rfl) ?_
          have g_24 := h.1
          have h := h.2
          refine q_iald (pc := 97) hx hb hK hR (k := 8) lt2_8 (ar2_8 _ _ _) g_24 dX12_step_97 ?_
          refine lv_iconst (pc := 98) (v := 1) hx hb dX12_step_98 (by decide) ?_
          refine lv_isub (pc := 99) hx hb dX12_step_99 ?_
          refine q_ci (pc := 100) hR (q_rS E (xp2 w) (As := [.int (σ_22.1 7 v_1.toNatClampNeg), .int ((σ_22.1 8 v_1.toNatClampNeg) - 1)]) (rest := [.ref (w.2.1 0)]) (cX12_digit_met l w hI N (σ_22.1 7 v_1.toNatClampNeg) ((σ_22.1 8 v_1.toNatClampNeg) - 1) _ σ_22 h) ckX12_digit csX12_digit mw318 ⟨rfl, rfl, Nat.le_of_ble_eq_true rfl, Nat.le_of_ble_eq_true rfl⟩ hR rfl hl.1 rfl (Nat.le_of_ble_eq_true rfl) dX12_step_100) (fun r_26 σ_25 H locs h hR => ?_)
          refine q_cv (pc := 103) hR (q_rV E (xp2 w) (As := [.int r_26]) (rest := []) (cX12_gives_met l w hI N r_26 _ σ_25 h) ckX12_gives cvX12_gives mw309 ⟨rfl, rfl, Nat.le_of_ble_eq_true rfl, Nat.le_of_ble_eq_true rfl⟩ hR (rc2_0 w) rfl hl.1 rfl (Nat.le_of_ble_eq_true rfl) dX12_step_103) (fun σ_27 H locs h hR => ?_)
          refine lv_goto (pc := 106) (tgt := 188) hx hb dX12_step_106 (by decide) ?_
          exact q_vret (pc := 188) E hR h dX12_step_188
        · have h := h.1 c_18
          refine lv_aload_n (pc := 62) hx hb dX12_step_62 rfl (lv_at hl 2 rfl) ?_
          refine lv_dup (pc := 63) hx hb dX12_step_63 rfl ?_
          refine gf2_0_14 (pc := 64) hx hb hts hown hK hR mw282 dX12_step_64 ?_
          refine lv_iconst (pc := 67) (v := 1) hx hb dX12_step_67 (by decide) ?_
          refine lv_isub (pc := 68) hx hb dX12_step_68 ?_
          refine lv_topi (pc := 69) (fun v_28 ev_28 => ?_)
          have h := h v_28 ev_28
          refine pf2_0_14 (pc := 69) hx hb hts hown hK hI hR mw282 dX12_step_69 (fun H locs σ_29 eσ_29 hR => ?_)
          have h := h σ_29 eσ_29
          refine lv_goto (pc := 72) (tgt := 188) hx hb dX12_step_72 (by decide) ?_
          exact q_vret (pc := 188) E hR h dX12_step_188
    · have h := h.1 c_5
      refine lv_aload_n (pc := 31) hx hb dX12_step_31 rfl (lv_at hl 2 rfl) ?_
      refine lv_iload_n (pc := 32) hx hb dX12_step_32 rfl (lv_at hl 1 rfl) ?_
      refine q_cv (pc := 33) hR (q_rV E (xp2 w) (As := [.int v_1]) (rest := []) (cX12_packed_met l w hI N v_1 _ σ h) ckX12_packed cvX12_packed mw319 ⟨rfl, rfl, Nat.le_of_ble_eq_true rfl, Nat.le_of_ble_eq_true rfl⟩ hR (rc2_0 w) rfl hl.1 rfl (Nat.le_of_ble_eq_true rfl) dX12_step_33) (fun σ_30 H locs h hR => ?_)
      refine lv_goto (pc := 36) (tgt := 188) hx hb dX12_step_36 (by decide) ?_
      exact q_vret (pc := 188) E hR h dX12_step_188
  · have h := h.1 c_4
    refine lv_aload_n (pc := 18) hx hb dX12_step_18 rfl (lv_at hl 2 rfl) ?_
    refine lv_iload_n (pc := 19) hx hb dX12_step_19 rfl (lv_at hl 1 rfl) ?_
    refine q_cv (pc := 20) hR (q_rV E (xp2 w) (As := [.int v_1]) (rest := []) (cX12_order_met l w hI N v_1 _ σ h) ckX12_order cvX12_order mw320 ⟨rfl, rfl, Nat.le_of_ble_eq_true rfl, Nat.le_of_ble_eq_true rfl⟩ hR (rc2_0 w) rfl hl.1 rfl (Nat.le_of_ble_eq_true rfl) dX12_step_20) (fun σ_31 H locs h hR => ?_)
    refine lv_goto (pc := 23) (tgt := 188) hx hb dX12_step_23 (by decide) ?_
    exact q_vret (pc := 188) E hR h dX12_step_188
theorem cX12_step_met (l : Launch) (w : Wd) (hI : Ij 38 w) (N : Nat) (Q : St → Prop) (σ : St) (h : fX12_step N Q σ) : Met l yX12_step (.code yX12_step cX12_step 4 none :: Uw) rmX12_step (va_Pc [.ref (w.2.1 0)] (fun U => Rp 38 ev2 w σ U ∧ X2 U)) (va_Qv Q (Rp 38 ev2 w) (Aw 38 w)) 0 0 (Aw 38 w) :=
  q_met (by decide) (Nat.le_of_ble_eq_true rfl) hI (fun p e s m below meth c ls E hl hR => bX12_step_e l w N Q E hR hl h)
