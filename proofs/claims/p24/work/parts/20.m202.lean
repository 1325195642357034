-- GlulxStringsModel.target()I
abbrev rmX12_target : Room := { frames := 2, cells := 0, slots := 0, locals := 47 }
def fX12_target (N : Nat) (Q : Int32 → St → Prop) (σ : St) : Prop := fX12_read N (σ.2 0 34) (fun r_2 σ_1 => ∀ v_3 : Int64, v_3 = (σ_1.2 0 34) + 1 → ∀ σ_4 : St, σ_4 = u2 σ_1 0 34 v_3 → ((r_2 = 255 → Q r_2 σ_4) ∧ (¬ r_2 = 255 → vp_in (σ_4.1 0 35) 40 ∧ ((r_2 < (σ_4.1 9 (σ_4.1 0 35).toNatClampNeg) → Q r_2 σ_4) ∧ (¬ r_2 < (σ_4.1 9 (σ_4.1 0 35).toNatClampNeg) → fX12_fails N 6 (fun σ_8 => Q r_2 σ_8) σ_4))))) σ
set_option maxHeartbeats 4000000 in
set_option maxRecDepth 100000 in
theorem bX12_target_e {p : Program} {e : Env} {s : State} {m : MethodId} {args : Array Value} {below : List Frame} {meth : Method} {c : Code} (l : Launch) (w : Wd) (N : Nat) (Q : Int32 → St → Prop) (E : Cx 38 w X2 cX12_target 2 RX12 (.code yX12_target cX12_target 2 (some .int)) (some .int) p s m args meth c) {σ : St} {H : Heap} {locs : List Loc} {ls : Array Slot} (hR : Rr 38 ev2 w σ s H locs) (hl : lv_has ls 2 [(0, .ref (w.2.1 0))]) (h : fX12_target N Q σ) : W p l e rmX12_target s m args below meth c H locs 0 0 (MQ below (va_Qi Q (Rp 38 ev2 w) (Aw 38 w)) args s 0 0 (Aw 38 w)) (F0 m 0 ls []) := by
  obtain ⟨hx, hb, hml, hown, hts, hr, hlk, hK, hI, hX⟩ := id E
  unfold fX12_target at h
  refine lv_aload_n (pc := 0) hx hb dX12_target_0 rfl (lv_at hl 0 rfl) ?_
  refine lv_aload_n (pc := 1) hx hb dX12_target_1 rfl (lv_at hl 0 rfl) ?_
  refine gf2_0_34 (pc := 2) hx hb hts hown hK hR mw297 dX12_target_2 ?_
  refine q_ci (pc := 5) hR (q_rV E (xp2 w) (As := [.long (σ.2 0 34)]) (rest := []) (cX12_read_met l w hI N (σ.2 0 34) _ σ h) ckX12_read cvX12_read mw272 ⟨rfl, rfl, Nat.le_of_ble_eq_true rfl, Nat.le_of_ble_eq_true rfl⟩ hR (rc2_0 w) rfl hl.1 rfl (Nat.le_of_ble_eq_true rfl) dX12_target_5) (fun r_2 σ_1 H locs h hR => ?_)
  refine lv_istore_n (pc := 8) (lv' := [(1, .int r_2), (0, .ref (w.2.1 0))]) hx hb dX12_target_8 rfl hl (by decide) rfl (fun ls hl => ?_)
  refine lv_aload_n (pc := 9) hx hb dX12_target_9 rfl (lv_at hl 1 rfl) ?_
  refine lv_dup (pc := 10) hx hb dX12_target_10 rfl ?_
  refine gf2_0_34 (pc := 11) hx hb hts hown hK hR mw297 dX12_target_11 ?_
  refine lv_lconst (pc := 14) (v := 1) hx hb dX12_target_14 (by decide) ?_
  refine lv_ladd (pc := 15) hx hb dX12_target_15 ?_
  refine lv_topl (pc := 16) (fun v_3 ev_3 => ?_)
  have h := h v_3 ev_3
  refine pf2_0_34 (pc := 16) hx hb hts hown hK hI hR mw297 dX12_target_16 (fun H locs σ_4 eσ_4 hR => ?_)
  have h := h σ_4 eσ_4
  refine lv_iload_n (pc := 19) hx hb dX12_target_19 rfl (lv_at hl 0 rfl) ?_
  refine lv_sipush (pc := 20) (v := 255) hx hb dX12_target_20 (by decide) ?_
  refine lv_icmp_eq (pc := 23) (tgt := 45) hx hb dX12_target_23 (by decide) (fun c_5 => ?_) (fun c_5 => ?_)
  · have h := h.1 c_5
    refine lv_iload_n (pc := 45) hx hb dX12_target_45 rfl (lv_at hl 0 rfl) ?_
    exact q_iret (pc := 46) E hR h dX12_target_46
  · have h := h.2 c_5
    refine lv_iload_n (pc := 26) hx hb dX12_target_26 rfl (lv_at hl 0 rfl) ?_
    refine lv_aload_n (pc := 27) hx hb dX12_target_27 rfl (lv_at hl 1 rfl) ?_
    refine gf2_0_18 (pc := 28) hx hb hts hown hK hR mw290 dX12_target_28 ?_
    refine lv_aload_n (pc := 31) hx hb dX12_target_31 rfl (lv_at hl 1 rfl) ?_
    refine gf2_0_35 (pc := 32) hx hb hts hown hK hR mw298 dX12_target_32 ?_
    have g_6 := h.1
    have h := h.2
    refine q_iald (pc := 35) hx hb hK hR (k := 9) lt2_9 (ar2_9 _ _ _) g_6 dX12_target_35 ?_
    refine lv_icmp_lt (pc := 36) (tgt := 45) hx hb dX12_target_36 (by decide) (fun c_7 => ?_) (fun c_7 => ?_)
    · have h := h.1 c_7
      refine lv_iload_n (pc := 45) hx hb dX12_target_45 rfl (lv_at hl 0 rfl) ?_
      exact q_iret (pc := 46) E hR h dX12_target_46
    · have h := h.2 c_7
      refine lv_aload_n (pc := 39) hx hb dX12_target_39 rfl (lv_at hl 1 rfl) ?_
      refine lv_bipush (pc := 40) (v := 6) hx hb dX12_target_40 (by decide) ?_
      refine q_cv (pc := 42) hR (q_rV E (xp2 w) (As := [.int 6]) (rest := []) (cX12_fails_met l w hI N 6 _ σ_4 h) ckX12_fails cvX12_fails mw271 ⟨rfl, rfl, Nat.le_of_ble_eq_true rfl, Nat.le_of_ble_eq_true rfl⟩ hR (rc2_0 w) rfl hl.1 rfl (Nat.le_of_ble_eq_true rfl) dX12_target_42) (fun σ_8 H locs h hR => ?_)
      refine lv_iload_n (pc := 45) hx hb dX12_target_45 rfl (lv_at hl 0 rfl) ?_
      exact q_iret (pc := 46) E hR h dX12_target_46
theorem cX12_target_met (l : Launch) (w : Wd) (hI : Ij 38 w) (N : Nat) (Q : Int32 → St → Prop) (σ : St) (h : fX12_target N Q σ) : Met l yX12_target (.code yX12_target cX12_target 2 (some .int) :: Uw) rmX12_target (va_Pc [.ref (w.2.1 0)] (fun U => Rp 38 ev2 w σ U ∧ X2 U)) (va_Qi Q (Rp 38 ev2 w) (Aw 38 w)) 0 0 (Aw 38 w) :=
  q_met (by decide) (Nat.le_of_ble_eq_true rfl) hI (fun p e s m below meth c ls E hl hR => bX12_target_e l w N Q E hR hl h)
-- GlulxStringsModel.way()I
abbrev rmX12_way : Room := { frames := 2, cells := 0, slots := 0, locals := 47 }
def fX12_way (N : Nat) (Q : Int32 → St → Prop) (σ : St) : Prop := fX12_read N (σ.2 0 34) (fun r_2 σ_1 => ∀ v_3 : Int32, v_3 = r_2.toInt8.toInt32 → fX12_read N ((σ_1.2 0 34) + 1) (fun r_5 σ_4 => ∀ v_6 : Int64, v_6 = (σ_4.2 0 34) + 2 → ∀ σ_7 : St, σ_7 = u2 σ_4 0 34 v_6 → Q ((v_3 * 256) + r_5) σ_7) σ_1) σ
set_option maxHeartbeats 4000000 in
set_option maxRecDepth 100000 in
theorem bX12_way_e {p : Program} {e : Env} {s : State} {m : MethodId} {args : Array Value} {below : List Frame} {meth : Method} {c : Code} (l : Launch) (w : Wd) (N : Nat) (Q : Int32 → St → Prop) (E : Cx 38 w X2 cX12_way 3 RX12 (.code yX12_way cX12_way 3 (some .int)) (some .int) p s m args meth c) {σ : St} {H : Heap} {locs : List Loc} {ls : Array Slot} (hR : Rr 38 ev2 w σ s H locs) (hl : lv_has ls 3 [(0, .ref (w.2.1 0))]) (h : fX12_way N Q σ) : W p l e rmX12_way s m args below meth c H locs 0 0 (MQ below (va_Qi Q (Rp 38 ev2 w) (Aw 38 w)) args s 0 0 (Aw 38 w)) (F0 m 0 ls []) := by
  obtain ⟨hx, hb, hml, hown, hts, hr, hlk, hK, hI, hX⟩ := id E
  unfold fX12_way at h
  refine lv_aload_n (pc := 0) hx hb dX12_way_0 rfl (lv_at hl 0 rfl) ?_
  refine lv_aload_n (pc := 1) hx hb dX12_way_1 rfl (lv_at hl 0 rfl) ?_
  refine gf2_0_34 (pc := 2) hx hb hts hown hK hR mw297 dX12_way_2 ?_
  refine q_ci (pc := 5) hR (q_rV E (xp2 w) (As := [.long (σ.2 0 34)]) (rest := []) (cX12_read_met l w hI N (σ.2 0 34) _ σ h) ckX12_read cvX12_read mw272 ⟨rfl, rfl, Nat.le_of_ble_eq_true rfl, Nat.le_of_ble_eq_true rfl⟩ hR (rc2_0 w) rfl hl.1 rfl (Nat.le_of_ble_eq_true rfl) dX12_way_5) (fun r_2 σ_1 H locs h hR => ?_)
  refine lv_i2b (pc := 8) (v := r_2.toInt8.toInt32) hx hb dX12_way_8 rfl ?_
  refine lv_topi (pc := 9) (fun v_3 ev_3 => ?_)
  have h := h v_3 ev_3
  refine lv_istore_n (pc := 9) (lv' := [(1, .int v_3), (0, .ref (w.2.1 0))]) hx hb dX12_way_9 rfl hl (by decide) rfl (fun ls hl => ?_)
  refine lv_aload_n (pc := 10) hx hb dX12_way_10 rfl (lv_at hl 1 rfl) ?_
  refine lv_aload_n (pc := 11) hx hb dX12_way_11 rfl (lv_at hl 1 rfl) ?_
  refine gf2_0_34 (pc := 12) hx hb hts hown hK hR mw297 dX12_way_12 ?_
  refine lv_lconst (pc := 15) (v := 1) hx hb dX12_way_15 (by decide) ?_
  refine lv_ladd (pc := 16) hx hb dX12_way_16 ?_
  refine q_ci (pc := 17) hR (q_rV E (xp2 w) (As := [.long ((σ_1.2 0 34) + 1)]) (rest := []) (cX12_read_met l w hI N ((σ_1.2 0 34) + 1) _ σ_1 h) ckX12_read cvX12_read mw272 ⟨rfl, rfl, Nat.le_of_ble_eq_true rfl, Nat.le_of_ble_eq_true rfl⟩ hR (rc2_0 w) rfl hl.1 rfl (Nat.le_of_ble_eq_true rfl) dX12_way_17) (fun r_5 σ_4 H locs h hR => ?_)
  refine lv_istore_n (pc := 20) (lv' := [(2, .int r_5), (1, .int v_3), (0, .ref (w.2.1 0))]) hx hb dX12_way_20 rfl hl (by decide) rfl (fun ls hl => ?_)
  refine lv_aload_n (pc := 21) hx hb dX12_way_21 rfl (lv_at hl 2 rfl) ?_
  refine lv_dup (pc := 22) hx hb dX12_way_22 rfl ?_
  refine gf2_0_34 (pc := 23) hx hb hts hown hK hR mw297 dX12_way_23 ?_
  refine lv_ldc2 (pc := 26) (v := 2) hx hb hown (hts _ (Uin mw284)) dX12_way_26 ?_
  refine lv_ladd (pc := 29) hx hb dX12_way_29 ?_
  refine lv_topl (pc := 30) (fun v_6 ev_6 => ?_)
  have h := h v_6 ev_6
  refine pf2_0_34 (pc := 30) hx hb hts hown hK hI hR mw297 dX12_way_30 (fun H locs σ_7 eσ_7 hR => ?_)
  have h := h σ_7 eσ_7
  refine lv_iload_n (pc := 33) hx hb dX12_way_33 rfl (lv_at hl 1 rfl) ?_
  refine lv_sipush (pc := 34) (v := 256) hx hb dX12_way_34 (by decide) ?_
  refine lv_imul (pc := 37) hx hb dX12_way_37 ?_
  refine lv_iload_n (pc := 38) hx hb dX12_way_38 rfl (lv_at hl 0 rfl) ?_
  refine lv_iadd (pc := 39) hx hb dX12_way_39 ?_
  exact q_iret (pc := 40) E hR h dX12_way_40
theorem cX12_way_met (l : Launch) (w : Wd) (hI : Ij 38 w) (N : Nat) (Q : Int32 → St → Prop) (σ : St) (h : fX12_way N Q σ) : Met l yX12_way (.code yX12_way cX12_way 3 (some .int) :: Uw) rmX12_way (va_Pc [.ref (w.2.1 0)] (fun U => Rp 38 ev2 w σ U ∧ X2 U)) (va_Qi Q (Rp 38 ev2 w) (Aw 38 w)) 0 0 (Aw 38 w) :=
  q_met (by decide) (Nat.le_of_ble_eq_true rfl) hI (fun p e s m below meth c ls E hl hR => bX12_way_e l w N Q E hR hl h)
-- GlulxStringsModel.called(III)V
abbrev rmX12_called : Room := { frames := 2, cells := 0, slots := 0, locals := 47 }
def fX12_called_l178 (N : Nat) (x2 : Int32) (x5 : Int32) (x6 : Int32) (x7 : Int32) (Q : St → Prop) (r178 : Int32 → St → Prop) (x8 : Int32) (σ : St) : Prop := ((x2 ≤ x8 → Q σ) ∧ (¬ x2 ≤ x8 → ((x5 ≤ (x8 + x7) → Q σ) ∧ (¬ x5 ≤ (x8 + x7) → vp_in x8 4 ∧ ∀ v_20 : Int32, v_20 = σ.1 15 x8.toNatClampNeg → vp_in (((8 * x6) + x8) + x7) 320 ∧ ∀ σ_22 : St, σ_22 = u1 σ 10 (((8 * x6) + x8) + x7).toNatClampNeg v_20 → ∀ v_23 : Int32, v_23 = x8 + 1 → r178 v_23 σ_22))))
set_option maxHeartbeats 4000000 in
set_option maxRecDepth 100000 in
theorem bX12_called_178 {p : Program} {e : Env} {s : State} {m : MethodId} {args : Array Value} {below : List Frame} {meth : Method} {c : Code} (l : Launch) (w : Wd) (N : Nat) (Q : St → Prop) (E : Cx 38 w X2 cX12_called 9 RX12 (.code yX12_called cX12_called 9 none) none p s m args meth c) (x2 : Int32) (x5 : Int32) (x6 : Int32) (x7 : Int32) : ∀ (n : Nat) (x8 : Int32) (σ : St) (H : Heap) (locs : List Loc) (ls : Array Slot), Rr 38 ev2 w σ s H locs → lv_has ls 9 [(0, .ref (w.2.1 0)), (2, .int x2), (5, .int x5), (6, .int x6), (7, .int x7), (8, .int x8)] → lo1 (fX12_called_l178 N x2 x5 x6 x7 Q) n x8 σ → W p l e rmX12_called s m args below meth c H locs 0 0 (MQ below (va_Qv Q (Rp 38 ev2 w) (Aw 38 w)) args s 0 0 (Aw 38 w)) (F0 m 178 ls []) := by
  obtain ⟨hx, hb, hml, hown, hts, hr, hlk, hK, hI, hX⟩ := id E
  intro n
  induction n with
  | zero => intro x8 σ H locs ls hR hl h; exact h.elim
  | succ n ih =>
    intro x8 σ H locs ls hR hl h
    have h : fX12_called_l178 N x2 x5 x6 x7 Q (lo1 (fX12_called_l178 N x2 x5 x6 x7 Q) n) x8 σ := h
    unfold fX12_called_l178 at h
    refine lv_iload (pc := 178) hx hb dX12_called_178 (lv_at hl 5 rfl) ?_
    refine lv_iload_n (pc := 180) hx hb dX12_called_180 rfl (lv_at hl 1 rfl) ?_
    refine lv_icmp_ge (pc := 181) (tgt := 223) hx hb dX12_called_181 (by decide) (fun c_17 => ?_) (fun c_17 => ?_)
    · have h := h.1 c_17
      exact q_vret (pc := 223) E hR h dX12_called_223
    · have h := h.2 c_17
      refine lv_iload (pc := 184) hx hb dX12_called_184 (lv_at hl 5 rfl) ?_
      refine lv_iload (pc := 186) hx hb dX12_called_186 (lv_at hl 4 rfl) ?_
      refine lv_iadd (pc := 188) hx hb dX12_called_188 ?_
      refine lv_iload (pc := 189) hx hb dX12_called_189 (lv_at hl 2 rfl) ?_
      refine lv_icmp_ge (pc := 191) (tgt := 223) hx hb dX12_called_191 (by decide) (fun c_18 => ?_) (fun c_18 => ?_)
      · have h := h.1 c_18
        exact q_vret (pc := 223) E hR h dX12_called_223
      · have h := h.2 c_18
        refine lv_aload_n (pc := 194) hx hb dX12_called_194 rfl (lv_at hl 0 rfl) ?_
        refine gf2_0_19 (pc := 195) hx hb hts hown hK hR mw299 dX12_called_195 ?_
        refine lv_bipush (pc := 198) (v := 8) hx hb dX12_called_198 (by decide) ?_
        refine lv_iload (pc := 200) hx hb dX12_called_200 (lv_at hl 3 rfl) ?_
        refine lv_imul (pc := 202) hx hb dX12_called_202 ?_
        refine lv_iload (pc := 203) hx hb dX12_called_203 (lv_at hl 5 rfl) ?_
        refine lv_iadd (pc := 205) hx hb dX12_called_205 ?_
        refine lv_iload (pc := 206) hx hb dX12_called_206 (lv_at hl 4 rfl) ?_
        refine lv_iadd (pc := 208) hx hb dX12_called_208 ?_
        refine lv_aload_n (pc := 209) hx hb dX12_called_209 rfl (lv_at hl 0 rfl) ?_
        refine gf2_0_33 (pc := 210) hx hb hts hown hK hR mw300 dX12_called_210 ?_
        refine lv_iload (pc := 213) hx hb dX12_called_213 (lv_at hl 5 rfl) ?_
        have g_19 := h.1
        have h := h.2
        refine q_iald (pc := 215) hx hb hK hR (k := 15) lt2_15 (ar2_15 _ _ _) g_19 dX12_called_215 ?_
        refine lv_topi (pc := 216) (fun v_20 ev_20 => ?_)
        have h := h v_20 ev_20
        have g_21 := h.1
        have h := h.2
        refine q_iast (pc := 216) hx hb hK hI hR (k := 10) lt2_10 (fun f => (ar2_10 _ f _)) g_21 dX12_called_216 (fun H locs σ_22 eσ_22 hR => ?_)
        have h := h σ_22 eσ_22
        obtain ⟨v_23, ev_23⟩ : ∃ z : Int32, z = x8 + 1 := ⟨_, rfl⟩
        have h := h v_23 ev_23
        refine lv_iinc (pc := 217) (v := v_23) (lv' := [(8, .int v_23), (0, .ref (w.2.1 0)), (2, .int x2), (5, .int x5), (6, .int x6), (7, .int x7)]) hx hb dX12_called_217 hl (k := 5) rfl (by rw [ev_23]; rfl) (by decide) rfl (fun ls hl => ?_)
        refine lv_goto (pc := 220) (tgt := 178) hx hb dX12_called_220 (by decide) ?_
        exact ih v_23 σ_22 _ _ _ hR (lv_sub hl [1, 2, 3, 4, 5, 0] rfl) h
def fX12_called_j175 (N : Nat) (x2 : Int32) (x5 : Int32) (x6 : Int32) (x7 : Int32) (Q : St → Prop) (σ : St) : Prop := lo1 (fX12_called_l178 N x2 x5 x6 x7 Q) N 0 σ
set_option maxHeartbeats 4000000 in
set_option maxRecDepth 100000 in
theorem bX12_called_175 {p : Program} {e : Env} {s : State} {m : MethodId} {args : Array Value} {below : List Frame} {meth : Method} {c : Code} (l : Launch) (w : Wd) (N : Nat) (Q : St → Prop) (E : Cx 38 w X2 cX12_called 9 RX12 (.code yX12_called cX12_called 9 none) none p s m args meth c) (x2 : Int32) (x5 : Int32) (x6 : Int32) (x7 : Int32) {σ : St} {H : Heap} {locs : List Loc} {ls : Array Slot} (hR : Rr 38 ev2 w σ s H locs) (hl : lv_has ls 9 [(0, .ref (w.2.1 0)), (2, .int x2), (5, .int x5), (6, .int x6), (7, .int x7)]) (h : fX12_called_j175 N x2 x5 x6 x7 Q σ) : W p l e rmX12_called s m args below meth c H locs 0 0 (MQ below (va_Qv Q (Rp 38 ev2 w) (Aw 38 w)) args s 0 0 (Aw 38 w)) (F0 m 175 ls []) := by
  obtain ⟨hx, hb, hml, hown, hts, hr, hlk, hK, hI, hX⟩ := id E
  unfold fX12_called_j175 at h
  refine lv_iconst (pc := 175) (v := 0) hx hb dX12_called_175 (by decide) ?_
  refine lv_istore (pc := 176) (lv' := [(8, .int 0), (0, .ref (w.2.1 0)), (2, .int x2), (5, .int x5), (6, .int x6), (7, .int x7)]) hx hb dX12_called_176 hl (by decide) rfl (fun ls hl => ?_)
  exact bX12_called_178 l w N Q E x2 x5 x6 x7 N 0 σ _ _ _ hR (lv_sub hl [1, 2, 3, 4, 5, 0] rfl) h
def fX12_called_j149 (N : Nat) (x2 : Int32) (x4 : Int32) (x5 : Int32) (x6 : Int32) (t0 : Int32) (Q : St → Prop) (σ : St) : Prop := ((x4 = 192 → ((x5 ≤ 0 → fX12_called_j175 N x2 x5 x6 t0 Q σ) ∧ (¬ x5 ≤ 0 → vp_in (8 * x6) 320 ∧ ∀ σ_19 : St, σ_19 = u1 σ 10 (8 * x6).toNatClampNeg x2 → fX12_called_j175 N x2 x5 x6 t0 Q σ_19))) ∧ (¬ x4 = 192 → fX12_called_j175 N x2 x5 x6 t0 Q σ))
set_option maxHeartbeats 4000000 in
set_option maxRecDepth 100000 in
theorem bX12_called_149 {p : Program} {e : Env} {s : State} {m : MethodId} {args : Array Value} {below : List Frame} {meth : Method} {c : Code} (l : Launch) (w : Wd) (N : Nat) (Q : St → Prop) (E : Cx 38 w X2 cX12_called 9 RX12 (.code yX12_called cX12_called 9 none) none p s m args meth c) (x2 : Int32) (x4 : Int32) (x5 : Int32) (x6 : Int32) (t0 : Int32) {σ : St} {H : Heap} {locs : List Loc} {ls : Array Slot} (hR : Rr 38 ev2 w σ s H locs) (hl : lv_has ls 9 [(0, .ref (w.2.1 0)), (2, .int x2), (4, .int x4), (5, .int x5), (6, .int x6)]) (h : fX12_called_j149 N x2 x4 x5 x6 t0 Q σ) : W p l e rmX12_called s m args below meth c H locs 0 0 (MQ below (va_Qv Q (Rp 38 ev2 w) (Aw 38 w)) args s 0 0 (Aw 38 w)) (F0 m 149 ls [.int t0]) := by
  obtain ⟨hx, hb, hml, hown, hts, hr, hlk, hK, hI, hX⟩ := id E
  unfold fX12_called_j149 at h
  refine lv_istore (pc := 149) (lv' := [(7, .int t0), (0, .ref (w.2.1 0)), (2, .int x2), (4, .int x4), (5, .int x5), (6, .int x6)]) hx hb dX12_called_149 hl (by decide) rfl (fun ls hl => ?_)
  refine lv_iload (pc := 151) hx hb dX12_called_151 (lv_at hl 3 rfl) ?_
  refine lv_sipush (pc := 153) (v := 192) hx hb dX12_called_153 (by decide) ?_
  refine lv_icmp_ne (pc := 156) (tgt := 175) hx hb dX12_called_156 (by decide) (fun c_16 => ?_) (fun c_16 => ?_)
  · have h := h.2 c_16
    exact bX12_called_175 l w N Q E x2 x5 x6 t0 hR (lv_sub hl [1, 2, 4, 5, 0] rfl) h
  · have h := h.1 c_16
    refine lv_iload (pc := 159) hx hb dX12_called_159 (lv_at hl 4 rfl) ?_
    refine lv_if_le (pc := 161) (tgt := 175) hx hb dX12_called_161 (by decide) (fun c_17 => ?_) (fun c_17 => ?_)
    · have h := h.1 c_17
      exact bX12_called_175 l w N Q E x2 x5 x6 t0 hR (lv_sub hl [1, 2, 4, 5, 0] rfl) h
    · have h := h.2 c_17
      refine lv_aload_n (pc := 164) hx hb dX12_called_164 rfl (lv_at hl 1 rfl) ?_
      refine gf2_0_19 (pc := 165) hx hb hts hown hK hR mw299 dX12_called_165 ?_
      refine lv_bipush (pc := 168) (v := 8) hx hb dX12_called_168 (by decide) ?_
      refine lv_iload (pc := 170) hx hb dX12_called_170 (lv_at hl 5 rfl) ?_
      refine lv_imul (pc := 172) hx hb dX12_called_172 ?_
      refine lv_iload_n (pc := 173) hx hb dX12_called_173 rfl (lv_at hl 2 rfl) ?_
      have g_18 := h.1
      have h := h.2
      refine q_iast (pc := 174) hx hb hK hI hR (k := 10) lt2_10 (fun f => (ar2_10 _ f _)) g_18 dX12_called_174 (fun H locs σ_19 eσ_19 hR => ?_)
      have h := h σ_19 eσ_19
      exact bX12_called_175 l w N Q E x2 x5 x6 t0 hR (lv_sub hl [1, 2, 4, 5, 0] rfl) h
def fX12_called_l109 (N : Nat) (x2 : Int32) (x4 : Int32) (x5 : Int32) (x6 : Int32) (Q : St → Prop) (r109 : Int32 → St → Prop) (x7 : Int32) (σ : St) : Prop := ((8 ≤ x7 → ((x4 = 192 → fX12_called_j149 N x2 x4 x5 x6 1 Q σ) ∧ (¬ x4 = 192 → fX12_called_j149 N x2 x4 x5 x6 0 Q σ))) ∧ (¬ 8 ≤ x7 → vp_in ((8 * x6) + x7) 320 ∧ ∀ σ_17 : St, σ_17 = u1 σ 10 ((8 * x6) + x7).toNatClampNeg 0 → ∀ v_18 : Int32, v_18 = x7 + 1 → r109 v_18 σ_17))
set_option maxHeartbeats 4000000 in
set_option maxRecDepth 100000 in
theorem bX12_called_109 {p : Program} {e : Env} {s : State} {m : MethodId} {args : Array Value} {below : List Frame} {meth : Method} {c : Code} (l : Launch) (w : Wd) (N : Nat) (Q : St → Prop) (E : Cx 38 w X2 cX12_called 9 RX12 (.code yX12_called cX12_called 9 none) none p s m args meth c) (x2 : Int32) (x4 : Int32) (x5 : Int32) (x6 : Int32) : ∀ (n : Nat) (x7 : Int32) (σ : St) (H : Heap) (locs : List Loc) (ls : Array Slot), Rr 38 ev2 w σ s H locs → lv_has ls 9 [(0, .ref (w.2.1 0)), (2, .int x2), (4, .int x4), (5, .int x5), (6, .int x6), (7, .int x7)] → lo1 (fX12_called_l109 N x2 x4 x5 x6 Q) n x7 σ → W p l e rmX12_called s m args below meth c H locs 0 0 (MQ below (va_Qv Q (Rp 38 ev2 w) (Aw 38 w)) args s 0 0 (Aw 38 w)) (F0 m 109 ls []) := by
  obtain ⟨hx, hb, hml, hown, hts, hr, hlk, hK, hI, hX⟩ := id E
  intro n
  induction n with
  | zero => intro x7 σ H locs ls hR hl h; exact h.elim
  | succ n ih =>
    intro x7 σ H locs ls hR hl h
    have h : fX12_called_l109 N x2 x4 x5 x6 Q (lo1 (fX12_called_l109 N x2 x4 x5 x6 Q) n) x7 σ := h
    unfold fX12_called_l109 at h
    refine lv_iload (pc := 109) hx hb dX12_called_109 (lv_at hl 5 rfl) ?_
    refine lv_bipush (pc := 111) (v := 8) hx hb dX12_called_111 (by decide) ?_
    refine lv_icmp_ge (pc := 113) (tgt := 136) hx hb dX12_called_113 (by decide) (fun c_14 => ?_) (fun c_14 => ?_)
    · have h := h.1 c_14
      refine lv_iload (pc := 136) hx hb dX12_called_136 (lv_at hl 2 rfl) ?_
      refine lv_sipush (pc := 138) (v := 192) hx hb dX12_called_138 (by decide) ?_
      refine lv_icmp_ne (pc := 141) (tgt := 148) hx hb dX12_called_141 (by decide) (fun c_15 => ?_) (fun c_15 => ?_)
      · have h := h.2 c_15
        refine lv_iconst (pc := 148) (v := 0) hx hb dX12_called_148 (by decide) ?_
        exact bX12_called_149 l w N Q E x2 x4 x5 x6 0 hR (lv_sub hl [0, 1, 2, 3, 4] rfl) h
      · have h := h.1 c_15
        refine lv_iconst (pc := 144) (v := 1) hx hb dX12_called_144 (by decide) ?_
        refine lv_goto (pc := 145) (tgt := 149) hx hb dX12_called_145 (by decide) ?_
        exact bX12_called_149 l w N Q E x2 x4 x5 x6 1 hR (lv_sub hl [0, 1, 2, 3, 4] rfl) h
    · have h := h.2 c_14
      refine lv_aload_n (pc := 116) hx hb dX12_called_116 rfl (lv_at hl 0 rfl) ?_
      refine gf2_0_19 (pc := 117) hx hb hts hown hK hR mw299 dX12_called_117 ?_
      refine lv_bipush (pc := 120) (v := 8) hx hb dX12_called_120 (by decide) ?_
      refine lv_iload (pc := 122) hx hb dX12_called_122 (lv_at hl 4 rfl) ?_
      refine lv_imul (pc := 124) hx hb dX12_called_124 ?_
      refine lv_iload (pc := 125) hx hb dX12_called_125 (lv_at hl 5 rfl) ?_
      refine lv_iadd (pc := 127) hx hb dX12_called_127 ?_
      refine lv_iconst (pc := 128) (v := 0) hx hb dX12_called_128 (by decide) ?_
      have g_16 := h.1
      have h := h.2
      refine q_iast (pc := 129) hx hb hK hI hR (k := 10) lt2_10 (fun f => (ar2_10 _ f _)) g_16 dX12_called_129 (fun H locs σ_17 eσ_17 hR => ?_)
      have h := h σ_17 eσ_17
      obtain ⟨v_18, ev_18⟩ : ∃ z : Int32, z = x7 + 1 := ⟨_, rfl⟩
      have h := h v_18 ev_18
      refine lv_iinc (pc := 130) (v := v_18) (lv' := [(7, .int v_18), (0, .ref (w.2.1 0)), (2, .int x2), (4, .int x4), (5, .int x5), (6, .int x6)]) hx hb dX12_called_130 hl (k := 5) rfl (by rw [ev_18]; rfl) (by decide) rfl (fun ls hl => ?_)
      refine lv_goto (pc := 133) (tgt := 109) hx hb dX12_called_133 (by decide) ?_
      exact ih v_18 σ_17 _ _ _ hR (lv_sub hl [1, 2, 3, 4, 5, 0] rfl) h
def fX12_called_j65 (N : Nat) (x1 : Int32) (x2 : Int32) (x3 : Int32) (x4 : Int32) (x5 : Int32) (Q : St → Prop) (σ : St) : Prop := fX12_lays N 0 (x1 + 2) (fun σ_7 => (((σ_7.1 0 9) ≤ 0 → ∀ v_9 : Int32, v_9 = (σ_7.1 0 14) - 1 → vp_in v_9 40 ∧ ∀ σ_11 : St, σ_11 = u1 σ_7 13 v_9.toNatClampNeg x3 → vp_in v_9 40 ∧ ∀ σ_13 : St, σ_13 = u1 σ_11 9 v_9.toNatClampNeg x5 → lo1 (fX12_called_l109 N x2 x4 x5 v_9 Q) N 0 σ_13) ∧ (¬ (σ_7.1 0 9) ≤ 0 → Q σ_7))) σ
set_option maxHeartbeats 4000000 in
set_option maxRecDepth 100000 in
theorem bX12_called_65 {p : Program} {e : Env} {s : State} {m : MethodId} {args : Array Value} {below : List Frame} {meth : Method} {c : Code} (l : Launch) (w : Wd) (N : Nat) (Q : St → Prop) (E : Cx 38 w X2 cX12_called 9 RX12 (.code yX12_called cX12_called 9 none) none p s m args meth c) (x1 : Int32) (x2 : Int32) (x3 : Int32) (x4 : Int32) (x5 : Int32) {σ : St} {H : Heap} {locs : List Loc} {ls : Array Slot} (hR : Rr 38 ev2 w σ s H locs) (hl : lv_has ls 9 [(0, .ref (w.2.1 0)), (1, .int x1), (2, .int x2), (3, .int x3), (4, .int x4), (5, .int x5)]) (h : fX12_called_j65 N x1 x2 x3 x4 x5 Q σ) : W p l e rmX12_called s m args below meth c H locs 0 0 (MQ below (va_Qv Q (Rp 38 ev2 w) (Aw 38 w)) args s 0 0 (Aw 38 w)) (F0 m 65 ls []) := by
  obtain ⟨hx, hb, hml, hown, hts, hr, hlk, hK, hI, hX⟩ := id E
  unfold fX12_called_j65 at h
  refine lv_aload_n (pc := 65) hx hb dX12_called_65 rfl (lv_at hl 0 rfl) ?_
  refine lv_iconst (pc := 66) (v := 0) hx hb dX12_called_66 (by decide) ?_
  refine lv_iload_n (pc := 67) hx hb dX12_called_67 rfl (lv_at hl 1 rfl) ?_
  refine lv_iconst (pc := 68) (v := 2) hx hb dX12_called_68 (by decide) ?_
  refine lv_iadd (pc := 69) hx hb dX12_called_69 ?_
  refine q_cv (pc := 70) hR (q_rV E (xp2 w) (As := [.int 0, .int (x1 + 2)]) (rest := []) (cX12_lays_met l w hI N 0 (x1 + 2) _ σ h) ckX12_lays cvX12_lays mw295 ⟨rfl, rfl, Nat.le_of_ble_eq_true rfl, Nat.le_of_ble_eq_true rfl⟩ hR (rc2_0 w) rfl hl.1 rfl (Nat.le_of_ble_eq_true rfl) dX12_called_70) (fun σ_7 H locs h hR => ?_)
  refine lv_aload_n (pc := 73) hx hb dX12_called_73 rfl (lv_at hl 0 rfl) ?_
  refine gf2_0_9 (pc := 74) hx hb hts hown hK hR mw270 dX12_called_74 ?_
  refine lv_if_le (pc := 77) (tgt := 81) hx hb dX12_called_77 (by decide) (fun c_8 => ?_) (fun c_8 => ?_)
  · have h := h.1 c_8
    refine lv_aload_n (pc := 81) hx hb dX12_called_81 rfl (lv_at hl 0 rfl) ?_
    refine gf2_0_14 (pc := 82) hx hb hts hown hK hR mw282 dX12_called_82 ?_
    refine lv_iconst (pc := 85) (v := 1) hx hb dX12_called_85 (by decide) ?_
    refine lv_isub (pc := 86) hx hb dX12_called_86 ?_
    refine lv_topi (pc := 87) (fun v_9 ev_9 => ?_)
    have h := h v_9 ev_9
    refine lv_istore (pc := 87) (lv' := [(6, .int v_9), (0, .ref (w.2.1 0)), (1, .int x1), (2, .int x2), (3, .int x3), (4, .int x4), (5, .int x5)]) hx hb dX12_called_87 hl (by decide) rfl (fun ls hl => ?_)
    refine lv_aload_n (pc := 89) hx hb dX12_called_89 rfl (lv_at hl 1 rfl) ?_
    refine gf2_0_22 (pc := 90) hx hb hts hown hK hR mw293 dX12_called_90 ?_
    refine lv_iload (pc := 93) hx hb dX12_called_93 (lv_at hl 0 rfl) ?_
    refine lv_iload_n (pc := 95) hx hb dX12_called_95 rfl (lv_at hl 4 rfl) ?_
    have g_10 := h.1
    have h := h.2
    refine q_iast (pc := 96) hx hb hK hI hR (k := 13) lt2_13 (fun f => (ar2_13 _ f _)) g_10 dX12_called_96 (fun H locs σ_11 eσ_11 hR => ?_)
    have h := h σ_11 eσ_11
    refine lv_aload_n (pc := 97) hx hb dX12_called_97 rfl (lv_at hl 1 rfl) ?_
    refine gf2_0_18 (pc := 98) hx hb hts hown hK hR mw290 dX12_called_98 ?_
    refine lv_iload (pc := 101) hx hb dX12_called_101 (lv_at hl 0 rfl) ?_
    refine lv_iload (pc := 103) hx hb dX12_called_103 (lv_at hl 6 rfl) ?_
    have g_12 := h.1
    have h := h.2
    refine q_iast (pc := 105) hx hb hK hI hR (k := 9) lt2_9 (fun f => (ar2_9 _ f _)) g_12 dX12_called_105 (fun H locs σ_13 eσ_13 hR => ?_)
    have h := h σ_13 eσ_13
    refine lv_iconst (pc := 106) (v := 0) hx hb dX12_called_106 (by decide) ?_
    refine lv_istore (pc := 107) (lv' := [(7, .int 0), (6, .int v_9), (0, .ref (w.2.1 0)), (1, .int x1), (2, .int x2), (3, .int x3), (4, .int x4), (5, .int x5)]) hx hb dX12_called_107 hl (by decide) rfl (fun ls hl => ?_)
    exact bX12_called_109 l w N Q E x2 x4 x5 v_9 N 0 σ_13 _ _ _ hR (lv_sub hl [2, 4, 6, 7, 1, 0] rfl) h
  · have h := h.2 c_8
    exact q_vret (pc := 80) E hR h dX12_called_80
def fX12_called_j36 (N : Nat) (x1 : Int32) (x2 : Int32) (x3 : Int32) (x4 : Int32) (Q : St → Prop) (σ : St) : Prop := fX12_read N (x1.toInt64 + 1) (fun r_5 σ_4 => (((σ_4.1 0 9) = 0 → ((r_5 ≤ 8 → fX12_called_j65 N x1 x2 x3 x4 r_5 Q σ_4) ∧ (¬ r_5 ≤ 8 → fX12_fails N 4 (fun σ_8 => fX12_called_j65 N x1 x2 x3 x4 r_5 Q σ_8) σ_4))) ∧ (¬ (σ_4.1 0 9) = 0 → fX12_called_j65 N x1 x2 x3 x4 r_5 Q σ_4))) σ
set_option maxHeartbeats 4000000 in
set_option maxRecDepth 100000 in
theorem bX12_called_36 {p : Program} {e : Env} {s : State} {m : MethodId} {args : Array Value} {below : List Frame} {meth : Method} {c : Code} (l : Launch) (w : Wd) (N : Nat) (Q : St → Prop) (E : Cx 38 w X2 cX12_called 9 RX12 (.code yX12_called cX12_called 9 none) none p s m args meth c) (x1 : Int32) (x2 : Int32) (x3 : Int32) (x4 : Int32) {σ : St} {H : Heap} {locs : List Loc} {ls : Array Slot} (hR : Rr 38 ev2 w σ s H locs) (hl : lv_has ls 9 [(0, .ref (w.2.1 0)), (1, .int x1), (2, .int x2), (3, .int x3), (4, .int x4)]) (h : fX12_called_j36 N x1 x2 x3 x4 Q σ) : W p l e rmX12_called s m args below meth c H locs 0 0 (MQ below (va_Qv Q (Rp 38 ev2 w) (Aw 38 w)) args s 0 0 (Aw 38 w)) (F0 m 36 ls []) := by
  obtain ⟨hx, hb, hml, hown, hts, hr, hlk, hK, hI, hX⟩ := id E
  unfold fX12_called_j36 at h
  refine lv_aload_n (pc := 36) hx hb dX12_called_36 rfl (lv_at hl 0 rfl) ?_
  refine lv_iload_n (pc := 37) hx hb dX12_called_37 rfl (lv_at hl 1 rfl) ?_
  refine lv_i2l (pc := 38) (v := x1.toInt64) hx hb dX12_called_38 rfl ?_
  refine lv_lconst (pc := 39) (v := 1) hx hb dX12_called_39 (by decide) ?_
  refine lv_ladd (pc := 40) hx hb dX12_called_40 ?_
  refine q_ci (pc := 41) hR (q_rV E (xp2 w) (As := [.long (x1.toInt64 + 1)]) (rest := []) (cX12_read_met l w hI N (x1.toInt64 + 1) _ σ h) ckX12_read cvX12_read mw272 ⟨rfl, rfl, Nat.le_of_ble_eq_true rfl, Nat.le_of_ble_eq_true rfl⟩ hR (rc2_0 w) rfl hl.1 rfl (Nat.le_of_ble_eq_true rfl) dX12_called_41) (fun r_5 σ_4 H locs h hR => ?_)
  refine lv_istore (pc := 44) (lv' := [(5, .int r_5), (0, .ref (w.2.1 0)), (1, .int x1), (2, .int x2), (3, .int x3), (4, .int x4)]) hx hb dX12_called_44 hl (by decide) rfl (fun ls hl => ?_)
  refine lv_aload_n (pc := 46) hx hb dX12_called_46 rfl (lv_at hl 1 rfl) ?_
  refine gf2_0_9 (pc := 47) hx hb hts hown hK hR mw270 dX12_called_47 ?_
  refine lv_if_ne (pc := 50) (tgt := 65) hx hb dX12_called_50 (by decide) (fun c_6 => ?_) (fun c_6 => ?_)
  · have h := h.2 c_6
    exact bX12_called_65 l w N Q E x1 x2 x3 x4 r_5 hR (lv_sub hl [1, 2, 3, 4, 5, 0] rfl) h
  · have h := h.1 c_6
    refine lv_iload (pc := 53) hx hb dX12_called_53 (lv_at hl 0 rfl) ?_
    refine lv_bipush (pc := 55) (v := 8) hx hb dX12_called_55 (by decide) ?_
    refine lv_icmp_le (pc := 57) (tgt := 65) hx hb dX12_called_57 (by decide) (fun c_7 => ?_) (fun c_7 => ?_)
    · have h := h.1 c_7
      exact bX12_called_65 l w N Q E x1 x2 x3 x4 r_5 hR (lv_sub hl [1, 2, 3, 4, 5, 0] rfl) h
    · have h := h.2 c_7
      refine lv_aload_n (pc := 60) hx hb dX12_called_60 rfl (lv_at hl 1 rfl) ?_
      refine lv_iconst (pc := 61) (v := 4) hx hb dX12_called_61 (by decide) ?_
      refine q_cv (pc := 62) hR (q_rV E (xp2 w) (As := [.int 4]) (rest := []) (cX12_fails_met l w hI N 4 _ σ_4 h) ckX12_fails cvX12_fails mw271 ⟨rfl, rfl, Nat.le_of_ble_eq_true rfl, Nat.le_of_ble_eq_true rfl⟩ hR (rc2_0 w) rfl hl.1 rfl (Nat.le_of_ble_eq_true rfl) dX12_called_62) (fun σ_8 H locs h hR => ?_)
      exact bX12_called_65 l w N Q E x1 x2 x3 x4 r_5 hR (lv_sub hl [1, 2, 3, 4, 5, 0] rfl) h
def fX12_called (N : Nat) (x1 : Int32) (x2 : Int32) (x3 : Int32) (Q : St → Prop) (σ : St) : Prop := fX12_read N x1.toInt64 (fun r_2 σ_1 => (((σ_1.1 0 9) = 0 → ((r_2 = 192 → fX12_called_j36 N x1 x2 x3 r_2 Q σ_1) ∧ (¬ r_2 = 192 → ((r_2 = 193 → fX12_called_j36 N x1 x2 x3 r_2 Q σ_1) ∧ (¬ r_2 = 193 → fX12_fails N 4 (fun σ_6 => fX12_called_j36 N x1 x2 x3 r_2 Q σ_6) σ_1))))) ∧ (¬ (σ_1.1 0 9) = 0 → fX12_called_j36 N x1 x2 x3 r_2 Q σ_1))) σ
set_option maxHeartbeats 4000000 in
set_option maxRecDepth 100000 in
theorem bX12_called_e {p : Program} {e : Env} {s : State} {m : MethodId} {args : Array Value} {below : List Frame} {meth : Method} {c : Code} (l : Launch) (w : Wd) (N : Nat) (Q : St → Prop) (E : Cx 38 w X2 cX12_called 9 RX12 (.code yX12_called cX12_called 9 none) none p s m args meth c) (x1 : Int32) (x2 : Int32) (x3 : Int32) {σ : St} {H : Heap} {locs : List Loc} {ls : Array Slot} (hR : Rr 38 ev2 w σ s H locs) (hl : lv_has ls 9 [(0, .ref (w.2.1 0)), (1, .int x1), (2, .int x2), (3, .int x3)]) (h : fX12_called N x1 x2 x3 Q σ) : W p l e rmX12_called s m args below meth c H locs 0 0 (MQ below (va_Qv Q (Rp 38 ev2 w) (Aw 38 w)) args s 0 0 (Aw 38 w)) (F0 m 0 ls []) := by
  obtain ⟨hx, hb, hml, hown, hts, hr, hlk, hK, hI, hX⟩ := id E
  unfold fX12_called at h
  refine lv_aload_n (pc := 0) hx hb dX12_called_0 rfl (lv_at hl 0 rfl) ?_
  refine lv_iload_n (pc := 1) hx hb dX12_called_1 rfl (lv_at hl 1 rfl) ?_
  refine lv_i2l (pc := 2) (v := x1.toInt64) hx hb dX12_called_2 rfl ?_
  refine q_ci (pc := 3) hR (q_rV E (xp2 w) (As := [.long x1.toInt64]) (rest := []) (cX12_read_met l w hI N x1.toInt64 _ σ h) ckX12_read cvX12_read mw272 ⟨rfl, rfl, Nat.le_of_ble_eq_true rfl, Nat.le_of_ble_eq_true rfl⟩ hR (rc2_0 w) rfl hl.1 rfl (Nat.le_of_ble_eq_true rfl) dX12_called_3) (fun r_2 σ_1 H locs h hR => ?_)
  refine lv_istore (pc := 6) (lv' := [(4, .int r_2), (0, .ref (w.2.1 0)), (1, .int x1), (2, .int x2), (3, .int x3)]) hx hb dX12_called_6 hl (by decide) rfl (fun ls hl => ?_)
  refine lv_aload_n (pc := 8) hx hb dX12_called_8 rfl (lv_at hl 1 rfl) ?_
  refine gf2_0_9 (pc := 9) hx hb hts hown hK hR mw270 dX12_called_9 ?_
  refine lv_if_ne (pc := 12) (tgt := 36) hx hb dX12_called_12 (by decide) (fun c_3 => ?_) (fun c_3 => ?_)
  · have h := h.2 c_3
    exact bX12_called_36 l w N Q E x1 x2 x3 r_2 hR (lv_sub hl [1, 2, 3, 4, 0] rfl) h
  · have h := h.1 c_3
    refine lv_iload (pc := 15) hx hb dX12_called_15 (lv_at hl 0 rfl) ?_
    refine lv_sipush (pc := 17) (v := 192) hx hb dX12_called_17 (by decide) ?_
    refine lv_icmp_eq (pc := 20) (tgt := 36) hx hb dX12_called_20 (by decide) (fun c_4 => ?_) (fun c_4 => ?_)
    · have h := h.1 c_4
      exact bX12_called_36 l w N Q E x1 x2 x3 r_2 hR (lv_sub hl [1, 2, 3, 4, 0] rfl) h
    · have h := h.2 c_4
      refine lv_iload (pc := 23) hx hb dX12_called_23 (lv_at hl 0 rfl) ?_
      refine lv_sipush (pc := 25) (v := 193) hx hb dX12_called_25 (by decide) ?_
      refine lv_icmp_eq (pc := 28) (tgt := 36) hx hb dX12_called_28 (by decide) (fun c_5 => ?_) (fun c_5 => ?_)
      · have h := h.1 c_5
        exact bX12_called_36 l w N Q E x1 x2 x3 r_2 hR (lv_sub hl [1, 2, 3, 4, 0] rfl) h
      · have h := h.2 c_5
        refine lv_aload_n (pc := 31) hx hb dX12_called_31 rfl (lv_at hl 1 rfl) ?_
        refine lv_iconst (pc := 32) (v := 4) hx hb dX12_called_32 (by decide) ?_
        refine q_cv (pc := 33) hR (q_rV E (xp2 w) (As := [.int 4]) (rest := []) (cX12_fails_met l w hI N 4 _ σ_1 h) ckX12_fails cvX12_fails mw271 ⟨rfl, rfl, Nat.le_of_ble_eq_true rfl, Nat.le_of_ble_eq_true rfl⟩ hR (rc2_0 w) rfl hl.1 rfl (Nat.le_of_ble_eq_true rfl) dX12_called_33) (fun σ_6 H locs h hR => ?_)
        exact bX12_called_36 l w N Q E x1 x2 x3 r_2 hR (lv_sub hl [1, 2, 3, 4, 0] rfl) h
theorem cX12_called_met (l : Launch) (w : Wd) (hI : Ij 38 w) (N : Nat) (x1 : Int32) (x2 : Int32) (x3 : Int32) (Q : St → Prop) (σ : St) (h : fX12_called N x1 x2 x3 Q σ) : Met l yX12_called (.code yX12_called cX12_called 9 none :: Uw) rmX12_called (va_Pc [.ref (w.2.1 0), .int x1, .int x2, .int x3] (fun U => Rp 38 ev2 w σ U ∧ X2 U)) (va_Qv Q (Rp 38 ev2 w) (Aw 38 w)) 0 0 (Aw 38 w) :=
  q_met (by decide) (Nat.le_of_ble_eq_true rfl) hI (fun p e s m below meth c ls E hl hR => bX12_called_e l w N Q E x1 x2 x3 hR hl h)
-- GlulxStringsModel.gives(I)V
abbrev rmX12_gives : Room := { frames := 3, cells := 0, slots := 0, locals := 75 }
def fX12_gives_j112 (N : Nat) (t0 : Int32) (t1 : Int32) (Q : St → Prop) (σ : St) : Prop := ∀ v_10 : Int32, v_10 = t1 + t0 → ∀ σ_11 : St, σ_11 = u1 σ 0 27 v_10 → Q σ_11
set_option maxHeartbeats 4000000 in
set_option maxRecDepth 100000 in
theorem bX12_gives_112 {p : Program} {e : Env} {s : State} {m : MethodId} {args : Array Value} {below : List Frame} {meth : Method} {c : Code} (l : Launch) (w : Wd) (N : Nat) (Q : St → Prop) (E : Cx 38 w X2 cX12_gives 2 RX12 (.code yX12_gives cX12_gives 2 none) none p s m args meth c) (t0 : Int32) (t1 : Int32) {σ : St} {H : Heap} {locs : List Loc} {ls : Array Slot} (hR : Rr 38 ev2 w σ s H locs) (hl : lv_has ls 2 []) (h : fX12_gives_j112 N t0 t1 Q σ) : W p l e rmX12_gives s m args below meth c H locs 0 0 (MQ below (va_Qv Q (Rp 38 ev2 w) (Aw 38 w)) args s 0 0 (Aw 38 w)) (F0 m 112 ls [.int t0, .int t1, .ref (w.2.1 0)]) := by
  obtain ⟨hx, hb, hml, hown, hts, hr, hlk, hK, hI, hX⟩ := id E
  unfold fX12_gives_j112 at h
  refine lv_iadd (pc := 112) hx hb dX12_gives_112 ?_
  refine lv_topi (pc := 113) (fun v_10 ev_10 => ?_)
  have h := h v_10 ev_10
  refine pf2_0_27 (pc := 113) hx hb hts hown hK hI hR mw303 dX12_gives_113 (fun H locs σ_11 eσ_11 hR => ?_)
  have h := h σ_11 eσ_11
  refine lv_goto (pc := 116) (tgt := 129) hx hb dX12_gives_116 (by decide) ?_
  exact q_vret (pc := 129) E hR h dX12_gives_129
def fX12_gives (N : Nat) (x1 : Int32) (Q : St → Prop) (σ : St) : Prop := (((σ.1 0 9) ≤ 0 → (((σ.1 0 12) = 2 → (((σ.1 0 24) = 1000 → fX12_fails N 9 (fun σ_17 => Q σ_17) σ) ∧ (¬ (σ.1 0 24) = 1000 → vp_in (σ.1 0 24) 1000 ∧ ∀ σ_12 : St, σ_12 = u1 σ 14 (σ.1 0 24).toNatClampNeg x1 → ∀ v_13 : Int32, v_13 = (σ_12.1 0 24) + 1 → ∀ σ_14 : St, σ_14 = u1 σ_12 0 24 v_13 → ∀ v_15 : Int32, v_15 = (σ_14.1 0 26) + 1 → ∀ σ_16 : St, σ_16 = u1 σ_14 0 26 v_15 → Q σ_16))) ∧ (¬ (σ.1 0 12) = 2 → (((σ.1 0 12) = 1 → vp_in 0 4 ∧ ∀ σ_7 : St, σ_7 = u1 σ 15 (0 : Int32).toNatClampNeg x1 → fX12_called N (σ_7.1 0 13) 1 255 (fun σ_8 => (((σ_8.1 0 9) = 0 → fX12_gives_j112 N 1 (σ_8.1 0 27) Q σ_8) ∧ (¬ (σ_8.1 0 9) = 0 → fX12_gives_j112 N 0 (σ_8.1 0 27) Q σ_8))) σ_7) ∧ (¬ (σ.1 0 12) = 1 → ∀ v_4 : Int32, v_4 = (σ.1 0 28) + 1 → ∀ σ_5 : St, σ_5 = u1 σ 0 28 v_4 → Q σ_5))))) ∧ (¬ (σ.1 0 9) ≤ 0 → Q σ))
set_option maxHeartbeats 4000000 in
set_option maxRecDepth 100000 in
theorem bX12_gives_e {p : Program} {e : Env} {s : State} {m : MethodId} {args : Array Value} {below : List Frame} {meth : Method} {c : Code} (l : Launch) (w : Wd) (N : Nat) (Q : St → Prop) (E : Cx 38 w X2 cX12_gives 2 RX12 (.code yX12_gives cX12_gives 2 none) none p s m args meth c) (x1 : Int32) {σ : St} {H : Heap} {locs : List Loc} {ls : Array Slot} (hR : Rr 38 ev2 w σ s H locs) (hl : lv_has ls 2 [(0, .ref (w.2.1 0)), (1, .int x1)]) (h : fX12_gives N x1 Q σ) : W p l e rmX12_gives s m args below meth c H locs 0 0 (MQ below (va_Qv Q (Rp 38 ev2 w) (Aw 38 w)) args s 0 0 (Aw 38 w)) (F0 m 0 ls []) := by
  obtain ⟨hx, hb, hml, hown, hts, hr, hlk, hK, hI, hX⟩ := id E
  unfold fX12_gives at h
  refine lv_aload_n (pc := 0) hx hb dX12_gives_0 rfl (lv_at hl 0 rfl) ?_
  refine gf2_0_9 (pc := 1) hx hb hts hown hK hR mw270 dX12_gives_1 ?_
  refine lv_if_le (pc := 4) (tgt := 8) hx hb dX12_gives_4 (by decide) (fun c_1 => ?_) (fun c_1 => ?_)
  · have h := h.1 c_1
    refine lv_aload_n (pc := 8) hx hb dX12_gives_8 rfl (lv_at hl 0 rfl) ?_
    refine gf2_0_12 (pc := 9) hx hb hts hown hK hR mw285 dX12_gives_9 ?_
    refine lv_iconst (pc := 12) (v := 2) hx hb dX12_gives_12 (by decide) ?_
    refine lv_icmp_ne (pc := 13) (tgt := 68) hx hb dX12_gives_13 (by decide) (fun c_2 => ?_) (fun c_2 => ?_)
    · have h := h.2 c_2
      refine lv_aload_n (pc := 68) hx hb dX12_gives_68 rfl (lv_at hl 0 rfl) ?_
      refine gf2_0_12 (pc := 69) hx hb hts hown hK hR mw285 dX12_gives_69 ?_
      refine lv_iconst (pc := 72) (v := 1) hx hb dX12_gives_72 (by decide) ?_
      refine lv_icmp_ne (pc := 73) (tgt := 119) hx hb dX12_gives_73 (by decide) (fun c_3 => ?_) (fun c_3 => ?_)
      · have h := h.2 c_3
        refine lv_aload_n (pc := 119) hx hb dX12_gives_119 rfl (lv_at hl 0 rfl) ?_
        refine lv_dup (pc := 120) hx hb dX12_gives_120 rfl ?_
        refine gf2_0_28 (pc := 121) hx hb hts hown hK hR mw301 dX12_gives_121 ?_
        refine lv_iconst (pc := 124) (v := 1) hx hb dX12_gives_124 (by decide) ?_
        refine lv_iadd (pc := 125) hx hb dX12_gives_125 ?_
        refine lv_topi (pc := 126) (fun v_4 ev_4 => ?_)
        have h := h v_4 ev_4
        refine pf2_0_28 (pc := 126) hx hb hts hown hK hI hR mw301 dX12_gives_126 (fun H locs σ_5 eσ_5 hR => ?_)
        have h := h σ_5 eσ_5
        exact q_vret (pc := 129) E hR h dX12_gives_129
      · have h := h.1 c_3
        refine lv_aload_n (pc := 76) hx hb dX12_gives_76 rfl (lv_at hl 0 rfl) ?_
        refine gf2_0_33 (pc := 77) hx hb hts hown hK hR mw300 dX12_gives_77 ?_
        refine lv_iconst (pc := 80) (v := 0) hx hb dX12_gives_80 (by decide) ?_
        refine lv_iload_n (pc := 81) hx hb dX12_gives_81 rfl (lv_at hl 1 rfl) ?_
        have g_6 := h.1
        have h := h.2
        refine q_iast (pc := 82) hx hb hK hI hR (k := 15) lt2_15 (fun f => (ar2_15 _ f _)) g_6 dX12_gives_82 (fun H locs σ_7 eσ_7 hR => ?_)
        have h := h σ_7 eσ_7
        refine lv_aload_n (pc := 83) hx hb dX12_gives_83 rfl (lv_at hl 0 rfl) ?_
        refine lv_aload_n (pc := 84) hx hb dX12_gives_84 rfl (lv_at hl 0 rfl) ?_
        refine gf2_0_13 (pc := 85) hx hb hts hown hK hR mw286 dX12_gives_85 ?_
        refine lv_iconst (pc := 88) (v := 1) hx hb dX12_gives_88 (by decide) ?_
        refine lv_sipush (pc := 89) (v := 255) hx hb dX12_gives_89 (by decide) ?_
        refine q_cv (pc := 92) hR (q_rV E (xp2 w) (As := [.int (σ_7.1 0 13), .int 1, .int 255]) (rest := []) (cX12_called_met l w hI N (σ_7.1 0 13) 1 255 _ σ_7 h) ckX12_called cvX12_called mw302 ⟨rfl, rfl, Nat.le_of_ble_eq_true rfl, Nat.le_of_ble_eq_true rfl⟩ hR (rc2_0 w) rfl hl.1 rfl (Nat.le_of_ble_eq_true rfl) dX12_gives_92) (fun σ_8 H locs h hR => ?_)
        refine lv_aload_n (pc := 95) hx hb dX12_gives_95 rfl (lv_at hl 0 rfl) ?_
        refine lv_dup (pc := 96) hx hb dX12_gives_96 rfl ?_
        refine gf2_0_27 (pc := 97) hx hb hts hown hK hR mw303 dX12_gives_97 ?_
        refine lv_aload_n (pc := 100) hx hb dX12_gives_100 rfl (lv_at hl 0 rfl) ?_
        refine gf2_0_9 (pc := 101) hx hb hts hown hK hR mw270 dX12_gives_101 ?_
        refine lv_if_ne (pc := 104) (tgt := 111) hx hb dX12_gives_104 (by decide) (fun c_9 => ?_) (fun c_9 => ?_)
        · have h := h.2 c_9
          refine lv_iconst (pc := 111) (v := 0) hx hb dX12_gives_111 (by decide) ?_
          exact bX12_gives_112 l w N Q E 0 (σ_8.1 0 27) hR (lv_sub hl [] rfl) h
        · have h := h.1 c_9
          refine lv_iconst (pc := 107) (v := 1) hx hb dX12_gives_107 (by decide) ?_
          refine lv_goto (pc := 108) (tgt := 112) hx hb dX12_gives_108 (by decide) ?_
          exact bX12_gives_112 l w N Q E 1 (σ_8.1 0 27) hR (lv_sub hl [] rfl) h
    · have h := h.1 c_2
      refine lv_aload_n (pc := 16) hx hb dX12_gives_16 rfl (lv_at hl 0 rfl) ?_
      refine gf2_0_24 (pc := 17) hx hb hts hown hK hR mw304 dX12_gives_17 ?_
      refine lv_sipush (pc := 20) (v := 1000) hx hb dX12_gives_20 (by decide) ?_
      refine lv_icmp_ne (pc := 23) (tgt := 35) hx hb dX12_gives_23 (by decide) (fun c_10 => ?_) (fun c_10 => ?_)
      · have h := h.2 c_10
        refine lv_aload_n (pc := 35) hx hb dX12_gives_35 rfl (lv_at hl 0 rfl) ?_
        refine gf2_0_23 (pc := 36) hx hb hts hown hK hR mw305 dX12_gives_36 ?_
        refine lv_aload_n (pc := 39) hx hb dX12_gives_39 rfl (lv_at hl 0 rfl) ?_
        refine gf2_0_24 (pc := 40) hx hb hts hown hK hR mw304 dX12_gives_40 ?_
        refine lv_iload_n (pc := 43) hx hb dX12_gives_43 rfl (lv_at hl 1 rfl) ?_
        have g_11 := h.1
        have h := h.2
        refine q_iast (pc := 44) hx hb hK hI hR (k := 14) lt2_14 (fun f => (ar2_14 _ f _)) g_11 dX12_gives_44 (fun H locs σ_12 eσ_12 hR => ?_)
        have h := h σ_12 eσ_12
        refine lv_aload_n (pc := 45) hx hb dX12_gives_45 rfl (lv_at hl 0 rfl) ?_
        refine lv_dup (pc := 46) hx hb dX12_gives_46 rfl ?_
        refine gf2_0_24 (pc := 47) hx hb hts hown hK hR mw304 dX12_gives_47 ?_
        refine lv_iconst (pc := 50) (v := 1) hx hb dX12_gives_50 (by decide) ?_
        refine lv_iadd (pc := 51) hx hb dX12_gives_51 ?_
        refine lv_topi (pc := 52) (fun v_13 ev_13 => ?_)
        have h := h v_13 ev_13
        refine pf2_0_24 (pc := 52) hx hb hts hown hK hI hR mw304 dX12_gives_52 (fun H locs σ_14 eσ_14 hR => ?_)
        have h := h σ_14 eσ_14
        refine lv_aload_n (pc := 55) hx hb dX12_gives_55 rfl (lv_at hl 0 rfl) ?_
        refine lv_dup (pc := 56) hx hb dX12_gives_56 rfl ?_
        refine gf2_0_26 (pc := 57) hx hb hts hown hK hR mw306 dX12_gives_57 ?_
        refine lv_iconst (pc := 60) (v := 1) hx hb dX12_gives_60 (by decide) ?_
        refine lv_iadd (pc := 61) hx hb dX12_gives_61 ?_
        refine lv_topi (pc := 62) (fun v_15 ev_15 => ?_)
        have h := h v_15 ev_15
        refine pf2_0_26 (pc := 62) hx hb hts hown hK hI hR mw306 dX12_gives_62 (fun H locs σ_16 eσ_16 hR => ?_)
        have h := h σ_16 eσ_16
        refine lv_goto (pc := 65) (tgt := 129) hx hb dX12_gives_65 (by decide) ?_
        exact q_vret (pc := 129) E hR h dX12_gives_129
      · have h := h.1 c_10
        refine lv_aload_n (pc := 26) hx hb dX12_gives_26 rfl (lv_at hl 0 rfl) ?_
        refine lv_bipush (pc := 27) (v := 9) hx hb dX12_gives_27 (by decide) ?_
        refine q_cv (pc := 29) hR (q_rV E (xp2 w) (As := [.int 9]) (rest := []) (cX12_fails_met l w hI N 9 _ σ h) ckX12_fails cvX12_fails mw271 ⟨rfl, rfl, Nat.le_of_ble_eq_true rfl, Nat.le_of_ble_eq_true rfl⟩ hR (rc2_0 w) rfl hl.1 rfl (Nat.le_of_ble_eq_true rfl) dX12_gives_29) (fun σ_17 H locs h hR => ?_)
        refine lv_goto (pc := 32) (tgt := 129) hx hb dX12_gives_32 (by decide) ?_
        exact q_vret (pc := 129) E hR h dX12_gives_129
  · have h := h.2 c_1
    exact q_vret (pc := 7) E hR h dX12_gives_7
theorem cX12_gives_met (l : Launch) (w : Wd) (hI : Ij 38 w) (N : Nat) (x1 : Int32) (Q : St → Prop) (σ : St) (h : fX12_gives N x1 Q σ) : Met l yX12_gives (.code yX12_gives cX12_gives 2 none :: Uw) rmX12_gives (va_Pc [.ref (w.2.1 0), .int x1] (fun U => Rp 38 ev2 w σ U ∧ X2 U)) (va_Qv Q (Rp 38 ev2 w) (Aw 38 w)) 0 0 (Aw 38 w) :=
  q_met (by decide) (Nat.le_of_ble_eq_true rfl) hI (fun p e s m below meth c ls E hl hR => bX12_gives_e l w N Q E x1 hR hl h)
-- GlulxStringsModel.put(II)V
abbrev rmX12_put : Room := { frames := 0, cells := 0, slots := 0, locals := 0 }
def fX12_put (N : Nat) (x1 : Int32) (x2 : Int32) (Q : St → Prop) (σ : St) : Prop := (((σ.1 0 9) = 0 → ((x1 = 255 → Q σ) ∧ (¬ x1 = 255 → vp_in ((8 * (σ.1 0 35)) + x1) 320 ∧ ∀ σ_4 : St, σ_4 = u1 σ 10 ((8 * (σ.1 0 35)) + x1).toNatClampNeg x2 → Q σ_4))) ∧ (¬ (σ.1 0 9) = 0 → Q σ))
set_option maxHeartbeats 4000000 in
set_option maxRecDepth 100000 in
theorem bX12_put_e {p : Program} {e : Env} {s : State} {m : MethodId} {args : Array Value} {below : List Frame} {meth : Method} {c : Code} (l : Launch) (w : Wd) (N : Nat) (Q : St → Prop) (E : Cx 38 w X2 cX12_put 3 RX12 (.code yX12_put cX12_put 3 none) none p s m args meth c) (x1 : Int32) (x2 : Int32) {σ : St} {H : Heap} {locs : List Loc} {ls : Array Slot} (hR : Rr 38 ev2 w σ s H locs) (hl : lv_has ls 3 [(0, .ref (w.2.1 0)), (1, .int x1), (2, .int x2)]) (h : fX12_put N x1 x2 Q σ) : W p l e rmX12_put s m args below meth c H locs 0 0 (MQ below (va_Qv Q (Rp 38 ev2 w) (Aw 38 w)) args s 0 0 (Aw 38 w)) (F0 m 0 ls []) := by
  obtain ⟨hx, hb, hml, hown, hts, hr, hlk, hK, hI, hX⟩ := id E
  unfold fX12_put at h
  refine lv_aload_n (pc := 0) hx hb dX12_put_0 rfl (lv_at hl 0 rfl) ?_
  refine gf2_0_9 (pc := 1) hx hb hts hown hK hR mw270 dX12_put_1 ?_
  refine lv_if_ne (pc := 4) (tgt := 29) hx hb dX12_put_4 (by decide) (fun c_1 => ?_) (fun c_1 => ?_)
  · have h := h.2 c_1
    exact q_vret (pc := 29) E hR h dX12_put_29
  · have h := h.1 c_1
    refine lv_iload_n (pc := 7) hx hb dX12_put_7 rfl (lv_at hl 1 rfl) ?_
    refine lv_sipush (pc := 8) (v := 255) hx hb dX12_put_8 (by decide) ?_
    refine lv_icmp_eq (pc := 11) (tgt := 29) hx hb dX12_put_11 (by decide) (fun c_2 => ?_) (fun c_2 => ?_)
    · have h := h.1 c_2
      exact q_vret (pc := 29) E hR h dX12_put_29
    · have h := h.2 c_2
      refine lv_aload_n (pc := 14) hx hb dX12_put_14 rfl (lv_at hl 0 rfl) ?_
      refine gf2_0_19 (pc := 15) hx hb hts hown hK hR mw299 dX12_put_15 ?_
      refine lv_bipush (pc := 18) (v := 8) hx hb dX12_put_18 (by decide) ?_
      refine lv_aload_n (pc := 20) hx hb dX12_put_20 rfl (lv_at hl 0 rfl) ?_
      refine gf2_0_35 (pc := 21) hx hb hts hown hK hR mw298 dX12_put_21 ?_
      refine lv_imul (pc := 24) hx hb dX12_put_24 ?_
      refine lv_iload_n (pc := 25) hx hb dX12_put_25 rfl (lv_at hl 1 rfl) ?_
      refine lv_iadd (pc := 26) hx hb dX12_put_26 ?_
      refine lv_iload_n (pc := 27) hx hb dX12_put_27 rfl (lv_at hl 2 rfl) ?_
      have g_3 := h.1
      have h := h.2
      refine q_iast (pc := 28) hx hb hK hI hR (k := 10) lt2_10 (fun f => (ar2_10 _ f _)) g_3 dX12_put_28 (fun H locs σ_4 eσ_4 hR => ?_)
      have h := h σ_4 eσ_4
      exact q_vret (pc := 29) E hR h dX12_put_29
theorem cX12_put_met (l : Launch) (w : Wd) (hI : Ij 38 w) (N : Nat) (x1 : Int32) (x2 : Int32) (Q : St → Prop) (σ : St) (h : fX12_put N x1 x2 Q σ) : Met l yX12_put (.code yX12_put cX12_put 3 none :: Uw) rmX12_put (va_Pc [.ref (w.2.1 0), .int x1, .int x2] (fun U => Rp 38 ev2 w σ U ∧ X2 U)) (va_Qv Q (Rp 38 ev2 w) (Aw 38 w)) 0 0 (Aw 38 w) :=
  q_met (by decide) (Nat.le_of_ble_eq_true rfl) hI (fun p e s m below meth c ls E hl hR => bX12_put_e l w N Q E x1 x2 hR hl h)
-- GlulxStringsModel.does(IIIII)V
abbrev rmX12_does : Room := { frames := 5, cells := 0, slots := 0, locals := 126 }
def fX12_does_j279 (N : Nat) (Q : St → Prop) (σ : St) : Prop := fX12_fails N 7 (fun σ_19 => Q σ_19) σ
set_option maxHeartbeats 4000000 in
set_option maxRecDepth 100000 in
theorem bX12_does_279 {p : Program} {e : Env} {s : State} {m : MethodId} {args : Array Value} {below : List Frame} {meth : Method} {c : Code} (l : Launch) (w : Wd) (N : Nat) (Q : St → Prop) (E : Cx 38 w X2 cX12_does 7 RX12 (.code yX12_does cX12_does 7 none) none p s m args meth c) {σ : St} {H : Heap} {locs : List Loc} {ls : Array Slot} (hR : Rr 38 ev2 w σ s H locs) (hl : lv_has ls 7 [(0, .ref (w.2.1 0))]) (h : fX12_does_j279 N Q σ) : W p l e rmX12_does s m args below meth c H locs 0 0 (MQ below (va_Qv Q (Rp 38 ev2 w) (Aw 38 w)) args s 0 0 (Aw 38 w)) (F0 m 279 ls []) := by
  obtain ⟨hx, hb, hml, hown, hts, hr, hlk, hK, hI, hX⟩ := id E
  unfold fX12_does_j279 at h
  refine lv_aload_n (pc := 279) hx hb dX12_does_279 rfl (lv_at hl 0 rfl) ?_
  refine lv_bipush (pc := 280) (v := 7) hx hb dX12_does_280 (by decide) ?_
  refine q_cv (pc := 282) hR (q_rV E (xp2 w) (As := [.int 7]) (rest := []) (cX12_fails_met l w hI N 7 _ σ h) ckX12_fails cvX12_fails mw271 ⟨rfl, rfl, Nat.le_of_ble_eq_true rfl, Nat.le_of_ble_eq_true rfl⟩ hR (rc2_0 w) rfl hl.1 rfl (Nat.le_of_ble_eq_true rfl) dX12_does_282) (fun σ_19 H locs h hR => ?_)
  refine lv_goto (pc := 285) (tgt := 332) hx hb dX12_does_285 (by decide) ?_
  exact q_vret (pc := 332) E hR h dX12_does_332
def fX12_does_j122 (N : Nat) (x3 : Int32) (t0 : Int32) (Q : St → Prop) (σ : St) : Prop := ∀ σ_37 : St, σ_37 = u1 σ 0 12 t0 → ∀ σ_38 : St, σ_38 = u1 σ_37 0 13 x3 → Q σ_38
set_option maxHeartbeats 4000000 in
set_option maxRecDepth 100000 in
theorem bX12_does_122 {p : Program} {e : Env} {s : State} {m : MethodId} {args : Array Value} {below : List Frame} {meth : Method} {c : Code} (l : Launch) (w : Wd) (N : Nat) (Q : St → Prop) (E : Cx 38 w X2 cX12_does 7 RX12 (.code yX12_does cX12_does 7 none) none p s m args meth c) (x3 : Int32) (t0 : Int32) {σ : St} {H : Heap} {locs : List Loc} {ls : Array Slot} (hR : Rr 38 ev2 w σ s H locs) (hl : lv_has ls 7 [(0, .ref (w.2.1 0)), (3, .int x3)]) (h : fX12_does_j122 N x3 t0 Q σ) : W p l e rmX12_does s m args below meth c H locs 0 0 (MQ below (va_Qv Q (Rp 38 ev2 w) (Aw 38 w)) args s 0 0 (Aw 38 w)) (F0 m 122 ls [.int t0, .ref (w.2.1 0)]) := by
  obtain ⟨hx, hb, hml, hown, hts, hr, hlk, hK, hI, hX⟩ := id E
  unfold fX12_does_j122 at h
  refine pf2_0_12 (pc := 122) hx hb hts hown hK hI hR mw285 dX12_does_122 (fun H locs σ_37 eσ_37 hR => ?_)
  have h := h σ_37 eσ_37
  refine lv_aload_n (pc := 125) hx hb dX12_does_125 rfl (lv_at hl 0 rfl) ?_
  refine lv_iload_n (pc := 126) hx hb dX12_does_126 rfl (lv_at hl 1 rfl) ?_
  refine pf2_0_13 (pc := 127) hx hb hts hown hK hI hR mw286 dX12_does_127 (fun H locs σ_38 eσ_38 hR => ?_)
  have h := h σ_38 eσ_38
  refine lv_goto (pc := 130) (tgt := 332) hx hb dX12_does_130 (by decide) ?_
  exact q_vret (pc := 332) E hR h dX12_does_332
def fX12_does_j56 (N : Nat) (Q : St → Prop) (σ : St) : Prop := Q σ
set_option maxHeartbeats 4000000 in
set_option maxRecDepth 100000 in
theorem bX12_does_56 {p : Program} {e : Env} {s : State} {m : MethodId} {args : Array Value} {below : List Frame} {meth : Method} {c : Code} (l : Launch) (w : Wd) (N : Nat) (Q : St → Prop) (E : Cx 38 w X2 cX12_does 7 RX12 (.code yX12_does cX12_does 7 none) none p s m args meth c) {σ : St} {H : Heap} {locs : List Loc} {ls : Array Slot} (hR : Rr 38 ev2 w σ s H locs) (hl : lv_has ls 7 []) (h : fX12_does_j56 N Q σ) : W p l e rmX12_does s m args below meth c H locs 0 0 (MQ below (va_Qv Q (Rp 38 ev2 w) (Aw 38 w)) args s 0 0 (Aw 38 w)) (F0 m 56 ls []) := by
  obtain ⟨hx, hb, hml, hown, hts, hr, hlk, hK, hI, hX⟩ := id E
  unfold fX12_does_j56 at h
  refine lv_goto (pc := 56) (tgt := 332) hx hb dX12_does_56 (by decide) ?_
  exact q_vret (pc := 332) E hR h dX12_does_332
def fX12_does (N : Nat) (x1 : Int32) (x2 : Int32) (x3 : Int32) (x4 : Int32) (x5 : Int32) (Q : St → Prop) (σ : St) : Prop := ((x1 = 0 → vp_in (σ.1 0 35) 40 ∧ ∀ v_41 : Int32, v_41 = σ.1 13 (σ.1 0 35).toNatClampNeg → ∀ v_42 : Int32, v_42 = (σ.1 0 14) - 1 → ∀ σ_43 : St, σ_43 = u1 σ 0 14 v_42 → ∀ σ_44 : St, σ_44 = u1 σ_43 0 31 x2 → ((v_41 = 255 → fX12_does_j56 N Q σ_44) ∧ (¬ v_41 = 255 → vp_in ((8 * ((σ_44.1 0 14) - 1)) + v_41) 320 ∧ ∀ σ_47 : St, σ_47 = u1 σ_44 10 ((8 * ((σ_44.1 0 14) - 1)) + v_41).toNatClampNeg x2 → fX12_does_j56 N Q σ_47))) ∧ (¬ x1 = 0 → ((x1 = 1 → fX12_gives N x2 (fun σ_39 => Q σ_39) σ) ∧ (¬ x1 = 1 → ((x1 = 2 → fX12_prints N x2 (fun σ_38 => Q σ_38) σ) ∧ (¬ x1 = 2 → ((x1 = 3 → fX12_lays N 4 x2 (fun σ_37 => Q σ_37) σ) ∧ (¬ x1 = 3 → ((x1 = 4 → fX12_in N x2.toInt64 0 2 (fun r_35 σ_34 => ((r_35 = 0 → fX12_does_j122 N x3 0 Q σ_34) ∧ (¬ r_35 = 0 → fX12_does_j122 N x3 x2 Q σ_34))) σ) ∧ (¬ x1 = 4 → ((x1 = 5 → fX12_lies N x2 (fun σ_33 => Q σ_33) σ) ∧ (¬ x1 = 5 → ((x1 = 6 → fX12_called N x2 x4 x5 (fun σ_32 => Q σ_32) σ) ∧ (¬ x1 = 6 → ((x1 = 7 → fX12_put N x5 x2 (fun σ_31 => Q σ_31) σ) ∧ (¬ x1 = 7 → ((x1 = 8 → fX12_put N x5 (x2 + x3) (fun σ_30 => Q σ_30) σ) ∧ (¬ x1 = 8 → ((x1 = 9 → fX12_put N x5 (x2 - x3) (fun σ_29 => Q σ_29) σ) ∧ (¬ x1 = 9 → ((x1 = 13 → fX12_read N x2.toInt64 (fun r_27 σ_26 => fX12_put N x5 r_27 (fun σ_28 => Q σ_28) σ_26) σ) ∧ (¬ x1 = 13 → ((x1 = 14 → fX12_four N x2.toInt64 (fun r_24 σ_23 => fX12_put N x5 r_24 (fun σ_25 => Q σ_25) σ_23) σ) ∧ (¬ x1 = 14 → ((x1 = 15 → ((x2 < (σ.1 0 1) → fX12_does_j279 N Q σ) ∧ (¬ x2 < (σ.1 0 1) → ((x2 ≤ 4095 → ∀ v_20 : Int32, v_20 = x3 &&& 255 → vp_in x2 4096 ∧ ∀ σ_22 : St, σ_22 = u1 σ 1 x2.toNatClampNeg v_20 → Q σ_22) ∧ (¬ x2 ≤ 4095 → fX12_does_j279 N Q σ))))) ∧ (¬ x1 = 15 → ((x1 = 16 → fX12_put N x5 (σ.1 0 6) (fun σ_17 => Q σ_17) σ) ∧ (¬ x1 = 16 → ((x1 = 17 → ∀ σ_16 : St, σ_16 = u1 σ 0 14 0 → Q σ_16) ∧ (¬ x1 = 17 → Q σ))))))))))))))))))))))))))))))
set_option maxHeartbeats 4000000 in
set_option maxRecDepth 100000 in
theorem bX12_does_e {p : Program} {e : Env} {s : State} {m : MethodId} {args : Array Value} {below : List Frame} {meth : Method} {c : Code} (l : Launch) (w : Wd) (N : Nat) (Q : St → Prop) (E : Cx 38 w X2 cX12_does 7 RX12 (.code yX12_does cX12_does 7 none) none p s m args meth c) (x1 : Int32) (x2 : Int32) (x3 : Int32) (x4 : Int32) (x5 : Int32) {σ : St} {H : Heap} {locs : List Loc} {ls : Array Slot} (hR : Rr 38 ev2 w σ s H locs) (hl : lv_has ls 7 [(0, .ref (w.2.1 0)), (1, .int x1), (2, .int x2), (3, .int x3), (4, .int x4), (5, .int x5)]) (h : fX12_does N x1 x2 x3 x4 x5 Q σ) : W p l e rmX12_does s m args below meth c H locs 0 0 (MQ below (va_Qv Q (Rp 38 ev2 w) (Aw 38 w)) args s 0 0 (Aw 38 w)) (F0 m 0 ls []) := by
  obtain ⟨hx, hb, hml, hown, hts, hr, hlk, hK, hI, hX⟩ := id E
  unfold fX12_does at h
  refine lv_iload_n (pc := 0) hx hb dX12_does_0 rfl (lv_at hl 1 rfl) ?_
  refine lv_if_ne (pc := 1) (tgt := 59) hx hb dX12_does_1 (by decide) (fun c_1 => ?_) (fun c_1 => ?_)
  · have h := h.2 c_1
    refine lv_iload_n (pc := 59) hx hb dX12_does_59 rfl (lv_at hl 1 rfl) ?_
    refine lv_iconst (pc := 60) (v := 1) hx hb dX12_does_60 (by decide) ?_
    refine lv_icmp_ne (pc := 61) (tgt := 72) hx hb dX12_does_61 (by decide) (fun c_2 => ?_) (fun c_2 => ?_)
    · have h := h.2 c_2
      refine lv_iload_n (pc := 72) hx hb dX12_does_72 rfl (lv_at hl 1 rfl) ?_
      refine lv_iconst (pc := 73) (v := 2) hx hb dX12_does_73 (by decide) ?_
      refine lv_icmp_ne (pc := 74) (tgt := 85) hx hb dX12_does_74 (by decide) (fun c_3 => ?_) (fun c_3 => ?_)
      · have h := h.2 c_3
        refine lv_iload_n (pc := 85) hx hb dX12_does_85 rfl (lv_at hl 1 rfl) ?_
        refine lv_iconst (pc := 86) (v := 3) hx hb dX12_does_86 (by decide) ?_
        refine lv_icmp_ne (pc := 87) (tgt := 99) hx hb dX12_does_87 (by decide) (fun c_4 => ?_) (fun c_4 => ?_)
        · have h := h.2 c_4
          refine lv_iload_n (pc := 99) hx hb dX12_does_99 rfl (lv_at hl 1 rfl) ?_
          refine lv_iconst (pc := 100) (v := 4) hx hb dX12_does_100 (by decide) ?_
          refine lv_icmp_ne (pc := 101) (tgt := 133) hx hb dX12_does_101 (by decide) (fun c_5 => ?_) (fun c_5 => ?_)
          · have h := h.2 c_5
            refine lv_iload_n (pc := 133) hx hb dX12_does_133 rfl (lv_at hl 1 rfl) ?_
            refine lv_iconst (pc := 134) (v := 5) hx hb dX12_does_134 (by decide) ?_
            refine lv_icmp_ne (pc := 135) (tgt := 146) hx hb dX12_does_135 (by decide) (fun c_6 => ?_) (fun c_6 => ?_)
            · have h := h.2 c_6
              refine lv_iload_n (pc := 146) hx hb dX12_does_146 rfl (lv_at hl 1 rfl) ?_
              refine lv_bipush (pc := 147) (v := 6) hx hb dX12_does_147 (by decide) ?_
              refine lv_icmp_ne (pc := 149) (tgt := 164) hx hb dX12_does_149 (by decide) (fun c_7 => ?_) (fun c_7 => ?_)
              · have h := h.2 c_7
                refine lv_iload_n (pc := 164) hx hb dX12_does_164 rfl (lv_at hl 1 rfl) ?_
                refine lv_bipush (pc := 165) (v := 7) hx hb dX12_does_165 (by decide) ?_
                refine lv_icmp_ne (pc := 167) (tgt := 180) hx hb dX12_does_167 (by decide) (fun c_8 => ?_) (fun c_8 => ?_)
                · have h := h.2 c_8
                  refine lv_iload_n (pc := 180) hx hb dX12_does_180 rfl (lv_at hl 1 rfl) ?_
                  refine lv_bipush (pc := 181) (v := 8) hx hb dX12_does_181 (by decide) ?_
                  refine lv_icmp_ne (pc := 183) (tgt := 198) hx hb dX12_does_183 (by decide) (fun c_9 => ?_) (fun c_9 => ?_)
                  · have h := h.2 c_9
                    refine lv_iload_n (pc := 198) hx hb dX12_does_198 rfl (lv_at hl 1 rfl) ?_
                    refine lv_bipush (pc := 199) (v := 9) hx hb dX12_does_199 (by decide) ?_
                    refine lv_icmp_ne (pc := 201) (tgt := 216) hx hb dX12_does_201 (by decide) (fun c_10 => ?_) (fun c_10 => ?_)
                    · have h := h.2 c_10
                      refine lv_iload_n (pc := 216) hx hb dX12_does_216 rfl (lv_at hl 1 rfl) ?_
                      refine lv_bipush (pc := 217) (v := 13) hx hb dX12_does_217 (by decide) ?_
                      refine lv_icmp_ne (pc := 219) (tgt := 237) hx hb dX12_does_219 (by decide) (fun c_11 => ?_) (fun c_11 => ?_)
                      · have h := h.2 c_11
                        refine lv_iload_n (pc := 237) hx hb dX12_does_237 rfl (lv_at hl 1 rfl) ?_
                        refine lv_bipush (pc := 238) (v := 14) hx hb dX12_does_238 (by decide) ?_
                        refine lv_icmp_ne (pc := 240) (tgt := 258) hx hb dX12_does_240 (by decide) (fun c_12 => ?_) (fun c_12 => ?_)
                        · have h := h.2 c_12
                          refine lv_iload_n (pc := 258) hx hb dX12_does_258 rfl (lv_at hl 1 rfl) ?_
                          refine lv_bipush (pc := 259) (v := 15) hx hb dX12_does_259 (by decide) ?_
                          refine lv_icmp_ne (pc := 261) (tgt := 302) hx hb dX12_does_261 (by decide) (fun c_13 => ?_) (fun c_13 => ?_)
                          · have h := h.2 c_13
                            refine lv_iload_n (pc := 302) hx hb dX12_does_302 rfl (lv_at hl 1 rfl) ?_
                            refine lv_bipush (pc := 303) (v := 16) hx hb dX12_does_303 (by decide) ?_
                            refine lv_icmp_ne (pc := 305) (tgt := 321) hx hb dX12_does_305 (by decide) (fun c_14 => ?_) (fun c_14 => ?_)
                            · have h := h.2 c_14
                              refine lv_iload_n (pc := 321) hx hb dX12_does_321 rfl (lv_at hl 1 rfl) ?_
                              refine lv_bipush (pc := 322) (v := 17) hx hb dX12_does_322 (by decide) ?_
                              refine lv_icmp_ne (pc := 324) (tgt := 332) hx hb dX12_does_324 (by decide) (fun c_15 => ?_) (fun c_15 => ?_)
                              · have h := h.2 c_15
                                exact q_vret (pc := 332) E hR h dX12_does_332
                              · have h := h.1 c_15
                                refine lv_aload_n (pc := 327) hx hb dX12_does_327 rfl (lv_at hl 0 rfl) ?_
                                refine lv_iconst (pc := 328) (v := 0) hx hb dX12_does_328 (by decide) ?_
                                refine pf2_0_14 (pc := 329) hx hb hts hown hK hI hR mw282 dX12_does_329 (fun H locs σ_16 eσ_16 hR => ?_)
                                have h := h σ_16 eσ_16
                                exact q_vret (pc := 332) E hR h dX12_does_332
                            · have h := h.1 c_14
                              refine lv_aload_n (pc := 308) hx hb dX12_does_308 rfl (lv_at hl 0 rfl) ?_
                              refine lv_iload (pc := 309) hx hb dX12_does_309 (lv_at hl 5 rfl) ?_
                              refine lv_aload_n (pc := 311) hx hb dX12_does_311 rfl (lv_at hl 0 rfl) ?_
                              refine gf2_0_6 (pc := 312) hx hb hts hown hK hR mw264 dX12_does_312 ?_
                              refine q_cv (pc := 315) hR (q_rV E (xp2 w) (As := [.int x5, .int (σ.1 0 6)]) (rest := []) (cX12_put_met l w hI N x5 (σ.1 0 6) _ σ h) ckX12_put cvX12_put mw307 ⟨rfl, rfl, Nat.le_of_ble_eq_true rfl, Nat.le_of_ble_eq_true rfl⟩ hR (rc2_0 w) rfl hl.1 rfl (Nat.le_of_ble_eq_true rfl) dX12_does_315) (fun σ_17 H locs h hR => ?_)
                              refine lv_goto (pc := 318) (tgt := 332) hx hb dX12_does_318 (by decide) ?_
                              exact q_vret (pc := 332) E hR h dX12_does_332
                          · have h := h.1 c_13
                            refine lv_iload_n (pc := 264) hx hb dX12_does_264 rfl (lv_at hl 2 rfl) ?_
                            refine lv_aload_n (pc := 265) hx hb dX12_does_265 rfl (lv_at hl 0 rfl) ?_
                            refine gf2_0_1 (pc := 266) hx hb hts hown hK hR mw268 dX12_does_266 ?_
                            refine lv_icmp_lt (pc := 269) (tgt := 279) hx hb dX12_does_269 (by decide) (fun c_18 => ?_) (fun c_18 => ?_)
                            · have h := h.1 c_18
                              exact bX12_does_279 l w N Q E hR (lv_sub hl [0] rfl) h
                            · have h := h.2 c_18
                              refine lv_iload_n (pc := 272) hx hb dX12_does_272 rfl (lv_at hl 2 rfl) ?_
                              refine lv_sipush (pc := 273) (v := 4095) hx hb dX12_does_273 (by decide) ?_
                              refine lv_icmp_le (pc := 276) (tgt := 288) hx hb dX12_does_276 (by decide) (fun c_19 => ?_) (fun c_19 => ?_)
                              · have h := h.1 c_19
                                refine lv_aload_n (pc := 288) hx hb dX12_does_288 rfl (lv_at hl 0 rfl) ?_
                                refine gf2_0_0 (pc := 289) hx hb hts hown hK hR mw262 dX12_does_289 ?_
                                refine lv_iload_n (pc := 292) hx hb dX12_does_292 rfl (lv_at hl 2 rfl) ?_
                                refine lv_iload_n (pc := 293) hx hb dX12_does_293 rfl (lv_at hl 3 rfl) ?_
                                refine lv_sipush (pc := 294) (v := 255) hx hb dX12_does_294 (by decide) ?_
                                refine lv_iand (pc := 297) hx hb dX12_does_297 ?_
                                refine lv_topi (pc := 298) (fun v_20 ev_20 => ?_)
                                have h := h v_20 ev_20
                                have g_21 := h.1
                                have h := h.2
                                refine q_iast (pc := 298) hx hb hK hI hR (k := 1) lt2_1 (fun f => (ar2_1 _ f _)) g_21 dX12_does_298 (fun H locs σ_22 eσ_22 hR => ?_)
                                have h := h σ_22 eσ_22
                                refine lv_goto (pc := 299) (tgt := 332) hx hb dX12_does_299 (by decide) ?_
                                exact q_vret (pc := 332) E hR h dX12_does_332
                              · have h := h.2 c_19
                                exact bX12_does_279 l w N Q E hR (lv_sub hl [0] rfl) h
                        · have h := h.1 c_12
                          refine lv_aload_n (pc := 243) hx hb dX12_does_243 rfl (lv_at hl 0 rfl) ?_
                          refine lv_iload (pc := 244) hx hb dX12_does_244 (lv_at hl 5 rfl) ?_
                          refine lv_aload_n (pc := 246) hx hb dX12_does_246 rfl (lv_at hl 0 rfl) ?_
                          refine lv_iload_n (pc := 247) hx hb dX12_does_247 rfl (lv_at hl 2 rfl) ?_
                          refine lv_i2l (pc := 248) (v := x2.toInt64) hx hb dX12_does_248 rfl ?_
                          refine q_ci (pc := 249) hR (q_rV E (xp2 w) (As := [.long x2.toInt64]) (rest := [.int x5, .ref (w.2.1 0)]) (cX12_four_met l w hI N x2.toInt64 _ σ h) ckX12_four cvX12_four mw275 ⟨rfl, rfl, Nat.le_of_ble_eq_true rfl, Nat.le_of_ble_eq_true rfl⟩ hR (rc2_0 w) rfl hl.1 rfl (Nat.le_of_ble_eq_true rfl) dX12_does_249) (fun r_24 σ_23 H locs h hR => ?_)
                          refine q_cv (pc := 252) hR (q_rV E (xp2 w) (As := [.int x5, .int r_24]) (rest := []) (cX12_put_met l w hI N x5 r_24 _ σ_23 h) ckX12_put cvX12_put mw307 ⟨rfl, rfl, Nat.le_of_ble_eq_true rfl, Nat.le_of_ble_eq_true rfl⟩ hR (rc2_0 w) rfl hl.1 rfl (Nat.le_of_ble_eq_true rfl) dX12_does_252) (fun σ_25 H locs h hR => ?_)
                          refine lv_goto (pc := 255) (tgt := 332) hx hb dX12_does_255 (by decide) ?_
                          exact q_vret (pc := 332) E hR h dX12_does_332
                      · have h := h.1 c_11
                        refine lv_aload_n (pc := 222) hx hb dX12_does_222 rfl (lv_at hl 0 rfl) ?_
                        refine lv_iload (pc := 223) hx hb dX12_does_223 (lv_at hl 5 rfl) ?_
                        refine lv_aload_n (pc := 225) hx hb dX12_does_225 rfl (lv_at hl 0 rfl) ?_
                        refine lv_iload_n (pc := 226) hx hb dX12_does_226 rfl (lv_at hl 2 rfl) ?_
                        refine lv_i2l (pc := 227) (v := x2.toInt64) hx hb dX12_does_227 rfl ?_
                        refine q_ci (pc := 228) hR (q_rV E (xp2 w) (As := [.long x2.toInt64]) (rest := [.int x5, .ref (w.2.1 0)]) (cX12_read_met l w hI N x2.toInt64 _ σ h) ckX12_read cvX12_read mw272 ⟨rfl, rfl, Nat.le_of_ble_eq_true rfl, Nat.le_of_ble_eq_true rfl⟩ hR (rc2_0 w) rfl hl.1 rfl (Nat.le_of_ble_eq_true rfl) dX12_does_228) (fun r_27 σ_26 H locs h hR => ?_)
                        refine q_cv (pc := 231) hR (q_rV E (xp2 w) (As := [.int x5, .int r_27]) (rest := []) (cX12_put_met l w hI N x5 r_27 _ σ_26 h) ckX12_put cvX12_put mw307 ⟨rfl, rfl, Nat.le_of_ble_eq_true rfl, Nat.le_of_ble_eq_true rfl⟩ hR (rc2_0 w) rfl hl.1 rfl (Nat.le_of_ble_eq_true rfl) dX12_does_231) (fun σ_28 H locs h hR => ?_)
                        refine lv_goto (pc := 234) (tgt := 332) hx hb dX12_does_234 (by decide) ?_
                        exact q_vret (pc := 332) E hR h dX12_does_332
                    · have h := h.1 c_10
                      refine lv_aload_n (pc := 204) hx hb dX12_does_204 rfl (lv_at hl 0 rfl) ?_
                      refine lv_iload (pc := 205) hx hb dX12_does_205 (lv_at hl 5 rfl) ?_
                      refine lv_iload_n (pc := 207) hx hb dX12_does_207 rfl (lv_at hl 2 rfl) ?_
                      refine lv_iload_n (pc := 208) hx hb dX12_does_208 rfl (lv_at hl 3 rfl) ?_
                      refine lv_isub (pc := 209) hx hb dX12_does_209 ?_
                      refine q_cv (pc := 210) hR (q_rV E (xp2 w) (As := [.int x5, .int (x2 - x3)]) (rest := []) (cX12_put_met l w hI N x5 (x2 - x3) _ σ h) ckX12_put cvX12_put mw307 ⟨rfl, rfl, Nat.le_of_ble_eq_true rfl, Nat.le_of_ble_eq_true rfl⟩ hR (rc2_0 w) rfl hl.1 rfl (Nat.le_of_ble_eq_true rfl) dX12_does_210) (fun σ_29 H locs h hR => ?_)
                      refine lv_goto (pc := 213) (tgt := 332) hx hb dX12_does_213 (by decide) ?_
                      exact q_vret (pc := 332) E hR h dX12_does_332
                  · have h := h.1 c_9
                    refine lv_aload_n (pc := 186) hx hb dX12_does_186 rfl (lv_at hl 0 rfl) ?_
                    refine lv_iload (pc := 187) hx hb dX12_does_187 (lv_at hl 5 rfl) ?_
                    refine lv_iload_n (pc := 189) hx hb dX12_does_189 rfl (lv_at hl 2 rfl) ?_
                    refine lv_iload_n (pc := 190) hx hb dX12_does_190 rfl (lv_at hl 3 rfl) ?_
                    refine lv_iadd (pc := 191) hx hb dX12_does_191 ?_
                    refine q_cv (pc := 192) hR (q_rV E (xp2 w) (As := [.int x5, .int (x2 + x3)]) (rest := []) (cX12_put_met l w hI N x5 (x2 + x3) _ σ h) ckX12_put cvX12_put mw307 ⟨rfl, rfl, Nat.le_of_ble_eq_true rfl, Nat.le_of_ble_eq_true rfl⟩ hR (rc2_0 w) rfl hl.1 rfl (Nat.le_of_ble_eq_true rfl) dX12_does_192) (fun σ_30 H locs h hR => ?_)
                    refine lv_goto (pc := 195) (tgt := 332) hx hb dX12_does_195 (by decide) ?_
                    exact q_vret (pc := 332) E hR h dX12_does_332
                · have h := h.1 c_8
                  refine lv_aload_n (pc := 170) hx hb dX12_does_170 rfl (lv_at hl 0 rfl) ?_
                  refine lv_iload (pc := 171) hx hb dX12_does_171 (lv_at hl 5 rfl) ?_
                  refine lv_iload_n (pc := 173) hx hb dX12_does_173 rfl (lv_at hl 2 rfl) ?_
                  refine q_cv (pc := 174) hR (q_rV E (xp2 w) (As := [.int x5, .int x2]) (rest := []) (cX12_put_met l w hI N x5 x2 _ σ h) ckX12_put cvX12_put mw307 ⟨rfl, rfl, Nat.le_of_ble_eq_true rfl, Nat.le_of_ble_eq_true rfl⟩ hR (rc2_0 w) rfl hl.1 rfl (Nat.le_of_ble_eq_true rfl) dX12_does_174) (fun σ_31 H locs h hR => ?_)
                  refine lv_goto (pc := 177) (tgt := 332) hx hb dX12_does_177 (by decide) ?_
                  exact q_vret (pc := 332) E hR h dX12_does_332
              · have h := h.1 c_7
                refine lv_aload_n (pc := 152) hx hb dX12_does_152 rfl (lv_at hl 0 rfl) ?_
                refine lv_iload_n (pc := 153) hx hb dX12_does_153 rfl (lv_at hl 2 rfl) ?_
                refine lv_iload (pc := 154) hx hb dX12_does_154 (lv_at hl 4 rfl) ?_
                refine lv_iload (pc := 156) hx hb dX12_does_156 (lv_at hl 5 rfl) ?_
                refine q_cv (pc := 158) hR (q_rV E (xp2 w) (As := [.int x2, .int x4, .int x5]) (rest := []) (cX12_called_met l w hI N x2 x4 x5 _ σ h) ckX12_called cvX12_called mw302 ⟨rfl, rfl, Nat.le_of_ble_eq_true rfl, Nat.le_of_ble_eq_true rfl⟩ hR (rc2_0 w) rfl hl.1 rfl (Nat.le_of_ble_eq_true rfl) dX12_does_158) (fun σ_32 H locs h hR => ?_)
                refine lv_goto (pc := 161) (tgt := 332) hx hb dX12_does_161 (by decide) ?_
                exact q_vret (pc := 332) E hR h dX12_does_332
            · have h := h.1 c_6
              refine lv_aload_n (pc := 138) hx hb dX12_does_138 rfl (lv_at hl 0 rfl) ?_
              refine lv_iload_n (pc := 139) hx hb dX12_does_139 rfl (lv_at hl 2 rfl) ?_
              refine q_cv (pc := 140) hR (q_rV E (xp2 w) (As := [.int x2]) (rest := []) (cX12_lies_met l w hI N x2 _ σ h) ckX12_lies cvX12_lies mw283 ⟨rfl, rfl, Nat.le_of_ble_eq_true rfl, Nat.le_of_ble_eq_true rfl⟩ hR (rc2_0 w) rfl hl.1 rfl (Nat.le_of_ble_eq_true rfl) dX12_does_140) (fun σ_33 H locs h hR => ?_)
              refine lv_goto (pc := 143) (tgt := 332) hx hb dX12_does_143 (by decide) ?_
              exact q_vret (pc := 332) E hR h dX12_does_332
          · have h := h.1 c_5
            refine lv_aload_n (pc := 104) hx hb dX12_does_104 rfl (lv_at hl 0 rfl) ?_
            refine lv_iload_n (pc := 105) hx hb dX12_does_105 rfl (lv_at hl 2 rfl) ?_
            refine lv_i2l (pc := 106) (v := x2.toInt64) hx hb dX12_does_106 rfl ?_
            refine lv_lconst (pc := 107) (v := 0) hx hb dX12_does_107 (by decide) ?_
            refine lv_ldc2 (pc := 108) (v := 2) hx hb hown (hts _ (Uin mw284)) dX12_does_108 ?_
            refine q_ci (pc := 111) hR (q_rS E (xp2 w) (As := [.long x2.toInt64, .long 0, .long 2]) (rest := [.ref (w.2.1 0)]) (cX12_in_met l w hI N x2.toInt64 0 2 _ σ h) ckX12_in csX12_in mw258 ⟨rfl, rfl, Nat.le_of_ble_eq_true rfl, Nat.le_of_ble_eq_true rfl⟩ hR rfl hl.1 rfl (Nat.le_of_ble_eq_true rfl) dX12_does_111) (fun r_35 σ_34 H locs h hR => ?_)
            refine lv_if_eq (pc := 114) (tgt := 121) hx hb dX12_does_114 (by decide) (fun c_36 => ?_) (fun c_36 => ?_)
            · have h := h.1 c_36
              refine lv_iconst (pc := 121) (v := 0) hx hb dX12_does_121 (by decide) ?_
              exact bX12_does_122 l w N Q E x3 0 hR (lv_sub hl [0, 3] rfl) h
            · have h := h.2 c_36
              refine lv_iload_n (pc := 117) hx hb dX12_does_117 rfl (lv_at hl 2 rfl) ?_
              refine lv_goto (pc := 118) (tgt := 122) hx hb dX12_does_118 (by decide) ?_
              exact bX12_does_122 l w N Q E x3 x2 hR (lv_sub hl [0, 3] rfl) h
        · have h := h.1 c_4
          refine lv_aload_n (pc := 90) hx hb dX12_does_90 rfl (lv_at hl 0 rfl) ?_
          refine lv_iconst (pc := 91) (v := 4) hx hb dX12_does_91 (by decide) ?_
          refine lv_iload_n (pc := 92) hx hb dX12_does_92 rfl (lv_at hl 2 rfl) ?_
          refine q_cv (pc := 93) hR (q_rV E (xp2 w) (As := [.int 4, .int x2]) (rest := []) (cX12_lays_met l w hI N 4 x2 _ σ h) ckX12_lays cvX12_lays mw295 ⟨rfl, rfl, Nat.le_of_ble_eq_true rfl, Nat.le_of_ble_eq_true rfl⟩ hR (rc2_0 w) rfl hl.1 rfl (Nat.le_of_ble_eq_true rfl) dX12_does_93) (fun σ_37 H locs h hR => ?_)
          refine lv_goto (pc := 96) (tgt := 332) hx hb dX12_does_96 (by decide) ?_
          exact q_vret (pc := 332) E hR h dX12_does_332
      · have h := h.1 c_3
        refine lv_aload_n (pc := 77) hx hb dX12_does_77 rfl (lv_at hl 0 rfl) ?_
        refine lv_iload_n (pc := 78) hx hb dX12_does_78 rfl (lv_at hl 2 rfl) ?_
        refine q_cv (pc := 79) hR (q_rV E (xp2 w) (As := [.int x2]) (rest := []) (cX12_prints_met l w hI N x2 _ σ h) ckX12_prints cvX12_prints mw308 ⟨rfl, rfl, Nat.le_of_ble_eq_true rfl, Nat.le_of_ble_eq_true rfl⟩ hR (rc2_0 w) rfl hl.1 rfl (Nat.le_of_ble_eq_true rfl) dX12_does_79) (fun σ_38 H locs h hR => ?_)
        refine lv_goto (pc := 82) (tgt := 332) hx hb dX12_does_82 (by decide) ?_
        exact q_vret (pc := 332) E hR h dX12_does_332
    · have h := h.1 c_2
      refine lv_aload_n (pc := 64) hx hb dX12_does_64 rfl (lv_at hl 0 rfl) ?_
      refine lv_iload_n (pc := 65) hx hb dX12_does_65 rfl (lv_at hl 2 rfl) ?_
      refine q_cv (pc := 66) hR (q_rV E (xp2 w) (As := [.int x2]) (rest := []) (cX12_gives_met l w hI N x2 _ σ h) ckX12_gives cvX12_gives mw309 ⟨rfl, rfl, Nat.le_of_ble_eq_true rfl, Nat.le_of_ble_eq_true rfl⟩ hR (rc2_0 w) rfl hl.1 rfl (Nat.le_of_ble_eq_true rfl) dX12_does_66) (fun σ_39 H locs h hR => ?_)
      refine lv_goto (pc := 69) (tgt := 332) hx hb dX12_does_69 (by decide) ?_
      exact q_vret (pc := 332) E hR h dX12_does_332
  · have h := h.1 c_1
    refine lv_aload_n (pc := 4) hx hb dX12_does_4 rfl (lv_at hl 0 rfl) ?_
    refine gf2_0_22 (pc := 5) hx hb hts hown hK hR mw293 dX12_does_5 ?_
    refine lv_aload_n (pc := 8) hx hb dX12_does_8 rfl (lv_at hl 0 rfl) ?_
    refine gf2_0_35 (pc := 9) hx hb hts hown hK hR mw298 dX12_does_9 ?_
    have g_40 := h.1
    have h := h.2
    refine q_iald (pc := 12) hx hb hK hR (k := 13) lt2_13 (ar2_13 _ _ _) g_40 dX12_does_12 ?_
    refine lv_topi (pc := 13) (fun v_41 ev_41 => ?_)
    have h := h v_41 ev_41
    refine lv_istore (pc := 13) (lv' := [(6, .int v_41), (0, .ref (w.2.1 0)), (1, .int x1), (2, .int x2), (3, .int x3), (4, .int x4), (5, .int x5)]) hx hb dX12_does_13 hl (by decide) rfl (fun ls hl => ?_)
    refine lv_aload_n (pc := 15) hx hb dX12_does_15 rfl (lv_at hl 1 rfl) ?_
    refine lv_dup (pc := 16) hx hb dX12_does_16 rfl ?_
    refine gf2_0_14 (pc := 17) hx hb hts hown hK hR mw282 dX12_does_17 ?_
    refine lv_iconst (pc := 20) (v := 1) hx hb dX12_does_20 (by decide) ?_
    refine lv_isub (pc := 21) hx hb dX12_does_21 ?_
    refine lv_topi (pc := 22) (fun v_42 ev_42 => ?_)
    have h := h v_42 ev_42
    refine pf2_0_14 (pc := 22) hx hb hts hown hK hI hR mw282 dX12_does_22 (fun H locs σ_43 eσ_43 hR => ?_)
    have h := h σ_43 eσ_43
    refine lv_aload_n (pc := 25) hx hb dX12_does_25 rfl (lv_at hl 1 rfl) ?_
    refine lv_iload_n (pc := 26) hx hb dX12_does_26 rfl (lv_at hl 3 rfl) ?_
    refine pf2_0_31 (pc := 27) hx hb hts hown hK hI hR mw310 dX12_does_27 (fun H locs σ_44 eσ_44 hR => ?_)
    have h := h σ_44 eσ_44
    refine lv_iload (pc := 30) hx hb dX12_does_30 (lv_at hl 0 rfl) ?_
    refine lv_sipush (pc := 32) (v := 255) hx hb dX12_does_32 (by decide) ?_
    refine lv_icmp_eq (pc := 35) (tgt := 56) hx hb dX12_does_35 (by decide) (fun c_45 => ?_) (fun c_45 => ?_)
    · have h := h.1 c_45
      exact bX12_does_56 l w N Q E hR (lv_sub hl [] rfl) h
    · have h := h.2 c_45
      refine lv_aload_n (pc := 38) hx hb dX12_does_38 rfl (lv_at hl 1 rfl) ?_
      refine gf2_0_19 (pc := 39) hx hb hts hown hK hR mw299 dX12_does_39 ?_
      refine lv_bipush (pc := 42) (v := 8) hx hb dX12_does_42 (by decide) ?_
      refine lv_aload_n (pc := 44) hx hb dX12_does_44 rfl (lv_at hl 1 rfl) ?_
      refine gf2_0_14 (pc := 45) hx hb hts hown hK hR mw282 dX12_does_45 ?_
      refine lv_iconst (pc := 48) (v := 1) hx hb dX12_does_48 (by decide) ?_
      refine lv_isub (pc := 49) hx hb dX12_does_49 ?_
      refine lv_imul (pc := 50) hx hb dX12_does_50 ?_
      refine lv_iload (pc := 51) hx hb dX12_does_51 (lv_at hl 0 rfl) ?_
      refine lv_iadd (pc := 53) hx hb dX12_does_53 ?_
      refine lv_iload_n (pc := 54) hx hb dX12_does_54 rfl (lv_at hl 3 rfl) ?_
      have g_46 := h.1
      have h := h.2
      refine q_iast (pc := 55) hx hb hK hI hR (k := 10) lt2_10 (fun f => (ar2_10 _ f _)) g_46 dX12_does_55 (fun H locs σ_47 eσ_47 hR => ?_)
      have h := h σ_47 eσ_47
      exact bX12_does_56 l w N Q E hR (lv_sub hl [] rfl) h
theorem cX12_does_met (l : Launch) (w : Wd) (hI : Ij 38 w) (N : Nat) (x1 : Int32) (x2 : Int32) (x3 : Int32) (x4 : Int32) (x5 : Int32) (Q : St → Prop) (σ : St) (h : fX12_does N x1 x2 x3 x4 x5 Q σ) : Met l yX12_does (.code yX12_does cX12_does 7 none :: Uw) rmX12_does (va_Pc [.ref (w.2.1 0), .int x1, .int x2, .int x3, .int x4, .int x5] (fun U => Rp 38 ev2 w σ U ∧ X2 U)) (va_Qv Q (Rp 38 ev2 w) (Aw 38 w)) 0 0 (Aw 38 w) :=
  q_met (by decide) (Nat.le_of_ble_eq_true rfl) hI (fun p e s m below meth c ls E hl hR => bX12_does_e l w N Q E x1 x2 x3 x4 x5 hR hl h)
