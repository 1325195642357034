-- GlulxStringsModel.lies(I)V
abbrev rmX12_lies : Room := { frames := 4, cells := 0, slots := 0, locals := 98 }
def fX12_lies_j245 (N : Nat) (r112 : Int32 → Int32 → St → Prop) (x1 : Int32) (x2 : Int64) (x4 : Int32) (x5 : Int32) (Q : St → Prop) (σ : St) : Prop := r112 x4 x5 σ
set_option maxHeartbeats 4000000 in
set_option maxRecDepth 100000 in
theorem bX12_lies_245 {p : Program} {e : Env} {s : State} {m : MethodId} {args : Array Value} {below : List Frame} {meth : Method} {c : Code} (l : Launch) (w : Wd) (N : Nat) (Q : St → Prop) (E : Cx 38 w X2 cX12_lies 9 RX12 (.code yX12_lies cX12_lies 9 none) none p s m args meth c) (x1 : Int32) (x2 : Int64) (x4 : Int32) (x5 : Int32) (r112 : Int32 → Int32 → St → Prop) (hr112 : ∀ (x4 : Int32) (x5 : Int32) (σ : St) (H : Heap) (locs : List Loc) (ls : Array Slot), Rr 38 ev2 w σ s H locs → lv_has ls 9 [(0, .ref (w.2.1 0)), (1, .int x1), (2, .long x2), (4, .int x4), (5, .int x5)] → r112 x4 x5 σ → W p l e rmX12_lies s m args below meth c H locs 0 0 (MQ below (va_Qv Q (Rp 38 ev2 w) (Aw 38 w)) args s 0 0 (Aw 38 w)) (F0 m 112 ls [])) {σ : St} {H : Heap} {locs : List Loc} {ls : Array Slot} (hR : Rr 38 ev2 w σ s H locs) (hl : lv_has ls 9 [(0, .ref (w.2.1 0)), (1, .int x1), (2, .long x2), (4, .int x4), (5, .int x5)]) (h : fX12_lies_j245 N r112 x1 x2 x4 x5 Q σ) : W p l e rmX12_lies s m args below meth c H locs 0 0 (MQ below (va_Qv Q (Rp 38 ev2 w) (Aw 38 w)) args s 0 0 (Aw 38 w)) (F0 m 245 ls []) := by
  obtain ⟨hx, hb, hml, hown, hts, hr, hlk, hK, hI, hX⟩ := id E
  unfold fX12_lies_j245 at h
  refine lv_goto (pc := 245) (tgt := 112) hx hb dX12_lies_245 (by decide) ?_
  exact hr112 x4 x5 σ _ _ _ hR (lv_sub hl [0, 1, 2, 3, 4] rfl) h
def fX12_lies_l112 (N : Nat) (x1 : Int32) (x2 : Int64) (Q : St → Prop) (r112 : Int32 → Int32 → St → Prop) (x4 : Int32) (x5 : Int32) (σ : St) : Prop := ((x4 ≤ 0 → ∀ σ_17 : St, σ_17 = u1 σ 0 7 x5 → Q σ_17) ∧ (¬ x4 ≤ 0 → ∀ v_18 : Int32, v_18 = x4 + (-1) → vp_in v_18 8200 ∧ ∀ v_20 : Int32, v_20 = σ.1 5 v_18.toNatClampNeg → fX12_in N v_20.toInt64 x1.toInt64 ((x1.toInt64 + x2) - 1) (fun r_22 σ_21 => ((r_22 = 0 → fX12_lies_j245 N r112 x1 x2 v_18 x5 Q σ_21) ∧ (¬ r_22 = 0 → vp_in v_20 4096 ∧ (((σ_21.1 4 v_20.toNatClampNeg) = 0 → vp_in v_20 4096 ∧ ∀ σ_27 : St, σ_27 = u1 σ_21 4 v_20.toNatClampNeg (vp_nar .boolean 1) → fX12_endOf N v_20 (x1.toInt64 + x2) (fun r_29 σ_28 => ((r_29 ≤ 0 → fX12_lies_j245 N r112 x1 x2 v_18 x5 Q σ_28) ∧ (¬ r_29 ≤ 0 → (((x1.toInt64 + x2) < r_29 → fX12_lies_j245 N r112 x1 x2 v_18 x5 Q σ_28) ∧ (¬ (x1.toInt64 + x2) < r_29 → ∀ v_32 : Int32, v_32 = x5 + 1 → vp_in v_20 4096 ∧ (((σ_28.1 1 v_20.toNatClampNeg) = 0 → fX12_four N (v_20.toInt64 + 1) (fun r_36 σ_35 => vp_in v_18 8200 ∧ ∀ σ_38 : St, σ_38 = u1 σ_35 5 v_18.toNatClampNeg r_36 → fX12_four N (v_20.toInt64 + 5) (fun r_40 σ_39 => vp_in (v_18 + 1) 8200 ∧ ∀ σ_42 : St, σ_42 = u1 σ_39 5 (v_18 + 1).toNatClampNeg r_40 → ∀ v_43 : Int32, v_43 = v_18 + 2 → fX12_lies_j245 N r112 x1 x2 v_43 v_32 Q σ_42) σ_38) σ_28) ∧ (¬ (σ_28.1 1 v_20.toNatClampNeg) = 0 → fX12_lies_j245 N r112 x1 x2 v_18 v_32 Q σ_28))))))) σ_27) ∧ (¬ (σ_21.1 4 v_20.toNatClampNeg) = 0 → fX12_lies_j245 N r112 x1 x2 v_18 x5 Q σ_21))))) σ))
set_option maxHeartbeats 4000000 in
set_option maxRecDepth 100000 in
theorem bX12_lies_112 {p : Program} {e : Env} {s : State} {m : MethodId} {args : Array Value} {below : List Frame} {meth : Method} {c : Code} (l : Launch) (w : Wd) (N : Nat) (Q : St → Prop) (E : Cx 38 w X2 cX12_lies 9 RX12 (.code yX12_lies cX12_lies 9 none) none p s m args meth c) (x1 : Int32) (x2 : Int64) : ∀ (n : Nat) (x4 : Int32) (x5 : Int32) (σ : St) (H : Heap) (locs : List Loc) (ls : Array Slot), Rr 38 ev2 w σ s H locs → lv_has ls 9 [(0, .ref (w.2.1 0)), (1, .int x1), (2, .long x2), (4, .int x4), (5, .int x5)] → lo2 (fX12_lies_l112 N x1 x2 Q) n x4 x5 σ → W p l e rmX12_lies s m args below meth c H locs 0 0 (MQ below (va_Qv Q (Rp 38 ev2 w) (Aw 38 w)) args s 0 0 (Aw 38 w)) (F0 m 112 ls []) := by
  obtain ⟨hx, hb, hml, hown, hts, hr, hlk, hK, hI, hX⟩ := id E
  intro n
  induction n with
  | zero => intro x4 x5 σ H locs ls hR hl h; exact h.elim
  | succ n ih =>
    intro x4 x5 σ H locs ls hR hl h
    have h : fX12_lies_l112 N x1 x2 Q (lo2 (fX12_lies_l112 N x1 x2 Q) n) x4 x5 σ := h
    unfold fX12_lies_l112 at h
    refine lv_iload (pc := 112) hx hb dX12_lies_112 (lv_at hl 3 rfl) ?_
    refine lv_if_le (pc := 114) (tgt := 248) hx hb dX12_lies_114 (by decide) (fun c_16 => ?_) (fun c_16 => ?_)
    · have h := h.1 c_16
      refine lv_aload_n (pc := 248) hx hb dX12_lies_248 rfl (lv_at hl 0 rfl) ?_
      refine lv_iload (pc := 249) hx hb dX12_lies_249 (lv_at hl 4 rfl) ?_
      refine pf2_0_7 (pc := 251) hx hb hts hown hK hI hR mw263 dX12_lies_251 (fun H locs σ_17 eσ_17 hR => ?_)
      have h := h σ_17 eσ_17
      exact q_vret (pc := 254) E hR h dX12_lies_254
    · have h := h.2 c_16
      obtain ⟨v_18, ev_18⟩ : ∃ z : Int32, z = x4 + (-1) := ⟨_, rfl⟩
      have h := h v_18 ev_18
      refine lv_iinc (pc := 117) (v := v_18) (lv' := [(4, .int v_18), (0, .ref (w.2.1 0)), (1, .int x1), (2, .long x2), (5, .int x5)]) hx hb dX12_lies_117 hl (k := 3) rfl (by rw [ev_18]; rfl) (by decide) rfl (fun ls hl => ?_)
      refine lv_aload_n (pc := 120) hx hb dX12_lies_120 rfl (lv_at hl 1 rfl) ?_
      refine gf2_0_11 (pc := 121) hx hb hts hown hK hR mw279 dX12_lies_121 ?_
      refine lv_iload (pc := 124) hx hb dX12_lies_124 (lv_at hl 0 rfl) ?_
      have g_19 := h.1
      have h := h.2
      refine q_iald (pc := 126) hx hb hK hR (k := 5) lt2_5 (ar2_5 _ _ _) g_19 dX12_lies_126 ?_
      refine lv_topi (pc := 127) (fun v_20 ev_20 => ?_)
      have h := h v_20 ev_20
      refine lv_istore (pc := 127) (lv' := [(6, .int v_20), (4, .int v_18), (0, .ref (w.2.1 0)), (1, .int x1), (2, .long x2), (5, .int x5)]) hx hb dX12_lies_127 hl (by decide) rfl (fun ls hl => ?_)
      refine lv_iload (pc := 129) hx hb dX12_lies_129 (lv_at hl 0 rfl) ?_
      refine lv_i2l (pc := 131) (v := v_20.toInt64) hx hb dX12_lies_131 rfl ?_
      refine lv_iload_n (pc := 132) hx hb dX12_lies_132 rfl (lv_at hl 3 rfl) ?_
      refine lv_i2l (pc := 133) (v := x1.toInt64) hx hb dX12_lies_133 rfl ?_
      refine lv_iload_n (pc := 134) hx hb dX12_lies_134 rfl (lv_at hl 3 rfl) ?_
      refine lv_i2l (pc := 135) (v := x1.toInt64) hx hb dX12_lies_135 rfl ?_
      refine lv_lload_n (pc := 136) hx hb dX12_lies_136 rfl (lv_at hl 4 rfl) ?_
      refine lv_ladd (pc := 137) hx hb dX12_lies_137 ?_
      refine lv_lconst (pc := 138) (v := 1) hx hb dX12_lies_138 (by decide) ?_
      refine lv_lsub (pc := 139) hx hb dX12_lies_139 ?_
      refine q_ci (pc := 140) hR (q_rS E (xp2 w) (As := [.long v_20.toInt64, .long x1.toInt64, .long ((x1.toInt64 + x2) - 1)]) (rest := []) (cX12_in_met l w hI N v_20.toInt64 x1.toInt64 ((x1.toInt64 + x2) - 1) _ σ h) ckX12_in csX12_in mw258 ⟨rfl, rfl, Nat.le_of_ble_eq_true rfl, Nat.le_of_ble_eq_true rfl⟩ hR rfl hl.1 rfl (Nat.le_of_ble_eq_true rfl) dX12_lies_140) (fun r_22 σ_21 H locs h hR => ?_)
      refine lv_if_eq (pc := 143) (tgt := 245) hx hb dX12_lies_143 (by decide) (fun c_23 => ?_) (fun c_23 => ?_)
      · have h := h.1 c_23
        exact bX12_lies_245 l w N Q E x1 x2 v_18 x5 _ ih hR (lv_sub hl [2, 3, 4, 1, 5] rfl) h
      · have h := h.2 c_23
        refine lv_aload_n (pc := 146) hx hb dX12_lies_146 rfl (lv_at hl 2 rfl) ?_
        refine gf2_0_10 (pc := 147) hx hb hts hown hK hR mw280 dX12_lies_147 ?_
        refine lv_iload (pc := 150) hx hb dX12_lies_150 (lv_at hl 0 rfl) ?_
        have g_24 := h.1
        have h := h.2
        refine q_zald (pc := 152) hx hb hK hR (k := 4) lt2_4 (ar2_4 _ _ _) g_24 dX12_lies_152 ?_
        refine lv_if_ne (pc := 153) (tgt := 245) hx hb dX12_lies_153 (by decide) (fun c_25 => ?_) (fun c_25 => ?_)
        · have h := h.2 c_25
          exact bX12_lies_245 l w N Q E x1 x2 v_18 x5 _ ih hR (lv_sub hl [2, 3, 4, 1, 5] rfl) h
        · have h := h.1 c_25
          refine lv_aload_n (pc := 156) hx hb dX12_lies_156 rfl (lv_at hl 2 rfl) ?_
          refine gf2_0_10 (pc := 157) hx hb hts hown hK hR mw280 dX12_lies_157 ?_
          refine lv_iload (pc := 160) hx hb dX12_lies_160 (lv_at hl 0 rfl) ?_
          refine lv_iconst (pc := 162) (v := 1) hx hb dX12_lies_162 (by decide) ?_
          have g_26 := h.1
          have h := h.2
          refine q_zast (pc := 163) hx hb hK hI hR (k := 4) lt2_4 (fun f => (ar2_4 _ f _)) g_26 dX12_lies_163 (fun H locs σ_27 eσ_27 hR => ?_)
          have h := h σ_27 eσ_27
          refine lv_aload_n (pc := 164) hx hb dX12_lies_164 rfl (lv_at hl 2 rfl) ?_
          refine lv_iload (pc := 165) hx hb dX12_lies_165 (lv_at hl 0 rfl) ?_
          refine lv_iload_n (pc := 167) hx hb dX12_lies_167 rfl (lv_at hl 3 rfl) ?_
          refine lv_i2l (pc := 168) (v := x1.toInt64) hx hb dX12_lies_168 rfl ?_
          refine lv_lload_n (pc := 169) hx hb dX12_lies_169 rfl (lv_at hl 4 rfl) ?_
          refine lv_ladd (pc := 170) hx hb dX12_lies_170 ?_
          refine q_cl (pc := 171) hR (q_rV E (xp2 w) (As := [.int v_20, .long (x1.toInt64 + x2)]) (rest := []) (cX12_endOf_met l w hI N v_20 (x1.toInt64 + x2) _ σ_27 h) ckX12_endOf cvX12_endOf mw281 ⟨rfl, rfl, Nat.le_of_ble_eq_true rfl, Nat.le_of_ble_eq_true rfl⟩ hR (rc2_0 w) rfl hl.1 rfl (Nat.le_of_ble_eq_true rfl) dX12_lies_171) (fun r_29 σ_28 H locs h hR => ?_)
          refine lv_lstore (pc := 174) (lv' := [(7, .long r_29), (6, .int v_20), (4, .int v_18), (0, .ref (w.2.1 0)), (1, .int x1), (2, .long x2), (5, .int x5)]) hx hb dX12_lies_174 hl (by decide) rfl (fun ls hl => ?_)
          refine lv_lload (pc := 176) hx hb dX12_lies_176 (lv_at hl 0 rfl) ?_
          refine lv_lconst (pc := 178) (v := 0) hx hb dX12_lies_178 (by decide) ?_
          refine W.lcmp (pc := 179) hx hb dX12_lies_179 ?_
          refine lv_if_le (pc := 180) (tgt := 245) hx hb dX12_lies_180 (by decide) (fun c_30 => ?_) (fun c_30 => ?_)
          · have c_30 := (lc_le _ _).mp c_30
            have h := h.1 c_30
            exact bX12_lies_245 l w N Q E x1 x2 v_18 x5 _ ih hR (lv_sub hl [3, 4, 5, 2, 6] rfl) h
          · have c_30 := mt (lc_le _ _).mpr c_30
            have h := h.2 c_30
            refine lv_lload (pc := 183) hx hb dX12_lies_183 (lv_at hl 0 rfl) ?_
            refine lv_iload_n (pc := 185) hx hb dX12_lies_185 rfl (lv_at hl 4 rfl) ?_
            refine lv_i2l (pc := 186) (v := x1.toInt64) hx hb dX12_lies_186 rfl ?_
            refine lv_lload_n (pc := 187) hx hb dX12_lies_187 rfl (lv_at hl 5 rfl) ?_
            refine lv_ladd (pc := 188) hx hb dX12_lies_188 ?_
            refine W.lcmp (pc := 189) hx hb dX12_lies_189 ?_
            refine lv_if_gt (pc := 190) (tgt := 245) hx hb dX12_lies_190 (by decide) (fun c_31 => ?_) (fun c_31 => ?_)
            · have c_31 := (lc_gt _ _).mp c_31
              have h := h.1 c_31
              exact bX12_lies_245 l w N Q E x1 x2 v_18 x5 _ ih hR (lv_sub hl [3, 4, 5, 2, 6] rfl) h
            · have c_31 := mt (lc_gt _ _).mpr c_31
              have h := h.2 c_31
              obtain ⟨v_32, ev_32⟩ : ∃ z : Int32, z = x5 + 1 := ⟨_, rfl⟩
              have h := h v_32 ev_32
              refine lv_iinc (pc := 193) (v := v_32) (lv' := [(5, .int v_32), (7, .long r_29), (6, .int v_20), (4, .int v_18), (0, .ref (w.2.1 0)), (1, .int x1), (2, .long x2)]) hx hb dX12_lies_193 hl (k := 6) rfl (by rw [ev_32]; rfl) (by decide) rfl (fun ls hl => ?_)
              refine lv_aload_n (pc := 196) hx hb dX12_lies_196 rfl (lv_at hl 4 rfl) ?_
              refine gf2_0_0 (pc := 197) hx hb hts hown hK hR mw262 dX12_lies_197 ?_
              refine lv_iload (pc := 200) hx hb dX12_lies_200 (lv_at hl 2 rfl) ?_
              have g_33 := h.1
              have h := h.2
              refine q_iald (pc := 202) hx hb hK hR (k := 1) lt2_1 (ar2_1 _ _ _) g_33 dX12_lies_202 ?_
              refine lv_if_ne (pc := 203) (tgt := 245) hx hb dX12_lies_203 (by decide) (fun c_34 => ?_) (fun c_34 => ?_)
              · have h := h.2 c_34
                exact bX12_lies_245 l w N Q E x1 x2 v_18 v_32 _ ih hR (lv_sub hl [4, 5, 6, 3, 0] rfl) h
              · have h := h.1 c_34
                refine lv_aload_n (pc := 206) hx hb dX12_lies_206 rfl (lv_at hl 4 rfl) ?_
                refine gf2_0_11 (pc := 207) hx hb hts hown hK hR mw279 dX12_lies_207 ?_
                refine lv_iload (pc := 210) hx hb dX12_lies_210 (lv_at hl 3 rfl) ?_
                refine lv_aload_n (pc := 212) hx hb dX12_lies_212 rfl (lv_at hl 4 rfl) ?_
                refine lv_iload (pc := 213) hx hb dX12_lies_213 (lv_at hl 2 rfl) ?_
                refine lv_i2l (pc := 215) (v := v_20.toInt64) hx hb dX12_lies_215 rfl ?_
                refine lv_lconst (pc := 216) (v := 1) hx hb dX12_lies_216 (by decide) ?_
                refine lv_ladd (pc := 217) hx hb dX12_lies_217 ?_
                refine q_ci (pc := 218) hR (q_rV E (xp2 w) (As := [.long (v_20.toInt64 + 1)]) (rest := [.int v_18, .ref (w.2.1 5)]) (cX12_four_met l w hI N (v_20.toInt64 + 1) _ σ_28 h) ckX12_four cvX12_four mw275 ⟨rfl, rfl, Nat.le_of_ble_eq_true rfl, Nat.le_of_ble_eq_true rfl⟩ hR (rc2_0 w) rfl hl.1 rfl (Nat.le_of_ble_eq_true rfl) dX12_lies_218) (fun r_36 σ_35 H locs h hR => ?_)
                have g_37 := h.1
                have h := h.2
                refine q_iast (pc := 221) hx hb hK hI hR (k := 5) lt2_5 (fun f => (ar2_5 _ f _)) g_37 dX12_lies_221 (fun H locs σ_38 eσ_38 hR => ?_)
                have h := h σ_38 eσ_38
                refine lv_aload_n (pc := 222) hx hb dX12_lies_222 rfl (lv_at hl 4 rfl) ?_
                refine gf2_0_11 (pc := 223) hx hb hts hown hK hR mw279 dX12_lies_223 ?_
                refine lv_iload (pc := 226) hx hb dX12_lies_226 (lv_at hl 3 rfl) ?_
                refine lv_iconst (pc := 228) (v := 1) hx hb dX12_lies_228 (by decide) ?_
                refine lv_iadd (pc := 229) hx hb dX12_lies_229 ?_
                refine lv_aload_n (pc := 230) hx hb dX12_lies_230 rfl (lv_at hl 4 rfl) ?_
                refine lv_iload (pc := 231) hx hb dX12_lies_231 (lv_at hl 2 rfl) ?_
                refine lv_i2l (pc := 233) (v := v_20.toInt64) hx hb dX12_lies_233 rfl ?_
                refine lv_ldc2 (pc := 234) (v := 5) hx hb hown (hts _ (Uin mw274)) dX12_lies_234 ?_
                refine lv_ladd (pc := 237) hx hb dX12_lies_237 ?_
                refine q_ci (pc := 238) hR (q_rV E (xp2 w) (As := [.long (v_20.toInt64 + 5)]) (rest := [.int (v_18 + 1), .ref (w.2.1 5)]) (cX12_four_met l w hI N (v_20.toInt64 + 5) _ σ_38 h) ckX12_four cvX12_four mw275 ⟨rfl, rfl, Nat.le_of_ble_eq_true rfl, Nat.le_of_ble_eq_true rfl⟩ hR (rc2_0 w) rfl hl.1 rfl (Nat.le_of_ble_eq_true rfl) dX12_lies_238) (fun r_40 σ_39 H locs h hR => ?_)
                have g_41 := h.1
                have h := h.2
                refine q_iast (pc := 241) hx hb hK hI hR (k := 5) lt2_5 (fun f => (ar2_5 _ f _)) g_41 dX12_lies_241 (fun H locs σ_42 eσ_42 hR => ?_)
                have h := h σ_42 eσ_42
                obtain ⟨v_43, ev_43⟩ : ∃ z : Int32, z = v_18 + 2 := ⟨_, rfl⟩
                have h := h v_43 ev_43
                refine lv_iinc (pc := 242) (v := v_43) (lv' := [(4, .int v_43), (5, .int v_32), (7, .long r_29), (6, .int v_20), (0, .ref (w.2.1 0)), (1, .int x1), (2, .long x2)]) hx hb dX12_lies_242 hl (k := 3) rfl (by rw [ev_43]; rfl) (by decide) rfl (fun ls hl => ?_)
                exact bX12_lies_245 l w N Q E x1 x2 v_43 v_32 _ ih hR (lv_sub hl [4, 5, 6, 0, 1] rfl) h
def fX12_lies_l68 (N : Nat) (x1 : Int32) (x2 : Int64) (Q : St → Prop) (r68 : Int32 → St → Prop) (x4 : Int32) (σ : St) : Prop := ((4096 ≤ x4 → fX12_four N (x1.toInt64 + 8) (fun r_13 σ_12 => vp_in 0 8200 ∧ ∀ σ_15 : St, σ_15 = u1 σ_12 5 (0 : Int32).toNatClampNeg r_13 → lo2 (fX12_lies_l112 N x1 x2 Q) N 1 0 σ_15) σ) ∧ (¬ 4096 ≤ x4 → vp_in x4 4096 ∧ ∀ σ_17 : St, σ_17 = u1 σ 4 x4.toNatClampNeg (vp_nar .boolean 0) → ∀ v_18 : Int32, v_18 = x4 + 1 → r68 v_18 σ_17))
set_option maxHeartbeats 4000000 in
set_option maxRecDepth 100000 in
theorem bX12_lies_68 {p : Program} {e : Env} {s : State} {m : MethodId} {args : Array Value} {below : List Frame} {meth : Method} {c : Code} (l : Launch) (w : Wd) (N : Nat) (Q : St → Prop) (E : Cx 38 w X2 cX12_lies 9 RX12 (.code yX12_lies cX12_lies 9 none) none p s m args meth c) (x1 : Int32) (x2 : Int64) : ∀ (n : Nat) (x4 : Int32) (σ : St) (H : Heap) (locs : List Loc) (ls : Array Slot), Rr 38 ev2 w σ s H locs → lv_has ls 9 [(0, .ref (w.2.1 0)), (1, .int x1), (2, .long x2), (4, .int x4)] → lo1 (fX12_lies_l68 N x1 x2 Q) n x4 σ → W p l e rmX12_lies s m args below meth c H locs 0 0 (MQ below (va_Qv Q (Rp 38 ev2 w) (Aw 38 w)) args s 0 0 (Aw 38 w)) (F0 m 68 ls []) := by
  obtain ⟨hx, hb, hml, hown, hts, hr, hlk, hK, hI, hX⟩ := id E
  intro n
  induction n with
  | zero => intro x4 σ H locs ls hR hl h; exact h.elim
  | succ n ih =>
    intro x4 σ H locs ls hR hl h
    have h : fX12_lies_l68 N x1 x2 Q (lo1 (fX12_lies_l68 N x1 x2 Q) n) x4 σ := h
    unfold fX12_lies_l68 at h
    refine lv_iload (pc := 68) hx hb dX12_lies_68 (lv_at hl 3 rfl) ?_
    refine lv_sipush (pc := 70) (v := 4096) hx hb dX12_lies_70 (by decide) ?_
    refine lv_icmp_ge (pc := 73) (tgt := 90) hx hb dX12_lies_73 (by decide) (fun c_11 => ?_) (fun c_11 => ?_)
    · have h := h.1 c_11
      refine lv_iconst (pc := 90) (v := 1) hx hb dX12_lies_90 (by decide) ?_
      refine lv_istore (pc := 91) (lv' := [(4, .int 1), (0, .ref (w.2.1 0)), (1, .int x1), (2, .long x2)]) hx hb dX12_lies_91 hl (by decide) rfl (fun ls hl => ?_)
      refine lv_aload_n (pc := 93) hx hb dX12_lies_93 rfl (lv_at hl 1 rfl) ?_
      refine gf2_0_11 (pc := 94) hx hb hts hown hK hR mw279 dX12_lies_94 ?_
      refine lv_iconst (pc := 97) (v := 0) hx hb dX12_lies_97 (by decide) ?_
      refine lv_aload_n (pc := 98) hx hb dX12_lies_98 rfl (lv_at hl 1 rfl) ?_
      refine lv_iload_n (pc := 99) hx hb dX12_lies_99 rfl (lv_at hl 2 rfl) ?_
      refine lv_i2l (pc := 100) (v := x1.toInt64) hx hb dX12_lies_100 rfl ?_
      refine lv_ldc2 (pc := 101) (v := 8) hx hb hown (hts _ (Uin mw257)) dX12_lies_101 ?_
      refine lv_ladd (pc := 104) hx hb dX12_lies_104 ?_
      refine q_ci (pc := 105) hR (q_rV E (xp2 w) (As := [.long (x1.toInt64 + 8)]) (rest := [.int 0, .ref (w.2.1 5)]) (cX12_four_met l w hI N (x1.toInt64 + 8) _ σ h) ckX12_four cvX12_four mw275 ⟨rfl, rfl, Nat.le_of_ble_eq_true rfl, Nat.le_of_ble_eq_true rfl⟩ hR (rc2_0 w) rfl hl.1 rfl (Nat.le_of_ble_eq_true rfl) dX12_lies_105) (fun r_13 σ_12 H locs h hR => ?_)
      have g_14 := h.1
      have h := h.2
      refine q_iast (pc := 108) hx hb hK hI hR (k := 5) lt2_5 (fun f => (ar2_5 _ f _)) g_14 dX12_lies_108 (fun H locs σ_15 eσ_15 hR => ?_)
      have h := h σ_15 eσ_15
      refine lv_iconst (pc := 109) (v := 0) hx hb dX12_lies_109 (by decide) ?_
      refine lv_istore (pc := 110) (lv' := [(5, .int 0), (4, .int 1), (0, .ref (w.2.1 0)), (1, .int x1), (2, .long x2)]) hx hb dX12_lies_110 hl (by decide) rfl (fun ls hl => ?_)
      exact bX12_lies_112 l w N Q E x1 x2 N 1 0 σ_15 _ _ _ hR (lv_sub hl [2, 3, 4, 1, 0] rfl) h
    · have h := h.2 c_11
      refine lv_aload_n (pc := 76) hx hb dX12_lies_76 rfl (lv_at hl 0 rfl) ?_
      refine gf2_0_10 (pc := 77) hx hb hts hown hK hR mw280 dX12_lies_77 ?_
      refine lv_iload (pc := 80) hx hb dX12_lies_80 (lv_at hl 3 rfl) ?_
      refine lv_iconst (pc := 82) (v := 0) hx hb dX12_lies_82 (by decide) ?_
      have g_16 := h.1
      have h := h.2
      refine q_zast (pc := 83) hx hb hK hI hR (k := 4) lt2_4 (fun f => (ar2_4 _ f _)) g_16 dX12_lies_83 (fun H locs σ_17 eσ_17 hR => ?_)
      have h := h σ_17 eσ_17
      obtain ⟨v_18, ev_18⟩ : ∃ z : Int32, z = x4 + 1 := ⟨_, rfl⟩
      have h := h v_18 ev_18
      refine lv_iinc (pc := 84) (v := v_18) (lv' := [(4, .int v_18), (0, .ref (w.2.1 0)), (1, .int x1), (2, .long x2)]) hx hb dX12_lies_84 hl (k := 3) rfl (by rw [ev_18]; rfl) (by decide) rfl (fun ls hl => ?_)
      refine lv_goto (pc := 87) (tgt := 68) hx hb dX12_lies_87 (by decide) ?_
      exact ih v_18 σ_17 _ _ _ hR (lv_sub hl [1, 2, 3, 0] rfl) h
def fX12_lies (N : Nat) (x1 : Int32) (Q : St → Prop) (σ : St) : Prop := ∀ σ_1 : St, σ_1 = u1 σ 0 6 x1 → ∀ σ_2 : St, σ_2 = u1 σ_1 0 7 0 → ((x1 ≤ 0 → Q σ_2) ∧ (¬ x1 ≤ 0 → (((x1.toInt64 + 12) ≤ ((σ_2.1 0 1).toInt64) → fX12_four N x1.toInt64 (fun r_6 σ_5 => ∀ v_7 : Int64, v_7 = r_6.toInt64 → ((v_7 < 12 → Q σ_5) ∧ (¬ v_7 < 12 → (((x1.toInt64 + v_7) ≤ ((σ_5.1 0 1).toInt64) → ∀ σ_10 : St, σ_10 = u2 σ_5 0 8 v_7 → lo1 (fX12_lies_l68 N x1 v_7 Q) N 0 σ_10) ∧ (¬ (x1.toInt64 + v_7) ≤ ((σ_5.1 0 1).toInt64) → Q σ_5))))) σ_2) ∧ (¬ (x1.toInt64 + 12) ≤ ((σ_2.1 0 1).toInt64) → Q σ_2))))
set_option maxHeartbeats 4000000 in
set_option maxRecDepth 100000 in
theorem bX12_lies_e {p : Program} {e : Env} {s : State} {m : MethodId} {args : Array Value} {below : List Frame} {meth : Method} {c : Code} (l : Launch) (w : Wd) (N : Nat) (Q : St → Prop) (E : Cx 38 w X2 cX12_lies 9 RX12 (.code yX12_lies cX12_lies 9 none) none p s m args meth c) (x1 : Int32) {σ : St} {H : Heap} {locs : List Loc} {ls : Array Slot} (hR : Rr 38 ev2 w σ s H locs) (hl : lv_has ls 9 [(0, .ref (w.2.1 0)), (1, .int x1)]) (h : fX12_lies N x1 Q σ) : W p l e rmX12_lies s m args below meth c H locs 0 0 (MQ below (va_Qv Q (Rp 38 ev2 w) (Aw 38 w)) args s 0 0 (Aw 38 w)) (F0 m 0 ls []) := by
  obtain ⟨hx, hb, hml, hown, hts, hr, hlk, hK, hI, hX⟩ := id E
  unfold fX12_lies at h
  refine lv_aload_n (pc := 0) hx hb dX12_lies_0 rfl (lv_at hl 0 rfl) ?_
  refine lv_iload_n (pc := 1) hx hb dX12_lies_1 rfl (lv_at hl 1 rfl) ?_
  refine pf2_0_6 (pc := 2) hx hb hts hown hK hI hR mw264 dX12_lies_2 (fun H locs σ_1 eσ_1 hR => ?_)
  have h := h σ_1 eσ_1
  refine lv_aload_n (pc := 5) hx hb dX12_lies_5 rfl (lv_at hl 0 rfl) ?_
  refine lv_iconst (pc := 6) (v := 0) hx hb dX12_lies_6 (by decide) ?_
  refine pf2_0_7 (pc := 7) hx hb hts hown hK hI hR mw263 dX12_lies_7 (fun H locs σ_2 eσ_2 hR => ?_)
  have h := h σ_2 eσ_2
  refine lv_iload_n (pc := 10) hx hb dX12_lies_10 rfl (lv_at hl 1 rfl) ?_
  refine lv_if_le (pc := 11) (tgt := 29) hx hb dX12_lies_11 (by decide) (fun c_3 => ?_) (fun c_3 => ?_)
  · have h := h.1 c_3
    exact q_vret (pc := 29) E hR h dX12_lies_29
  · have h := h.2 c_3
    refine lv_iload_n (pc := 14) hx hb dX12_lies_14 rfl (lv_at hl 1 rfl) ?_
    refine lv_i2l (pc := 15) (v := x1.toInt64) hx hb dX12_lies_15 rfl ?_
    refine lv_ldc2 (pc := 16) (v := 12) hx hb hown (hts _ (Uin mw278)) dX12_lies_16 ?_
    refine lv_ladd (pc := 19) hx hb dX12_lies_19 ?_
    refine lv_aload_n (pc := 20) hx hb dX12_lies_20 rfl (lv_at hl 0 rfl) ?_
    refine gf2_0_1 (pc := 21) hx hb hts hown hK hR mw268 dX12_lies_21 ?_
    refine lv_i2l (pc := 24) (v := (σ_2.1 0 1).toInt64) hx hb dX12_lies_24 rfl ?_
    refine W.lcmp (pc := 25) hx hb dX12_lies_25 ?_
    refine lv_if_le (pc := 26) (tgt := 30) hx hb dX12_lies_26 (by decide) (fun c_4 => ?_) (fun c_4 => ?_)
    · have c_4 := (lc_le _ _).mp c_4
      have h := h.1 c_4
      refine lv_aload_n (pc := 30) hx hb dX12_lies_30 rfl (lv_at hl 0 rfl) ?_
      refine lv_iload_n (pc := 31) hx hb dX12_lies_31 rfl (lv_at hl 1 rfl) ?_
      refine lv_i2l (pc := 32) (v := x1.toInt64) hx hb dX12_lies_32 rfl ?_
      refine q_ci (pc := 33) hR (q_rV E (xp2 w) (As := [.long x1.toInt64]) (rest := []) (cX12_four_met l w hI N x1.toInt64 _ σ_2 h) ckX12_four cvX12_four mw275 ⟨rfl, rfl, Nat.le_of_ble_eq_true rfl, Nat.le_of_ble_eq_true rfl⟩ hR (rc2_0 w) rfl hl.1 rfl (Nat.le_of_ble_eq_true rfl) dX12_lies_33) (fun r_6 σ_5 H locs h hR => ?_)
      refine lv_i2l (pc := 36) (v := r_6.toInt64) hx hb dX12_lies_36 rfl ?_
      refine lv_topl (pc := 37) (fun v_7 ev_7 => ?_)
      have h := h v_7 ev_7
      refine lv_lstore_n (pc := 37) (lv' := [(2, .long v_7), (0, .ref (w.2.1 0)), (1, .int x1)]) hx hb dX12_lies_37 rfl hl (by decide) rfl (fun ls hl => ?_)
      refine lv_lload_n (pc := 38) hx hb dX12_lies_38 rfl (lv_at hl 0 rfl) ?_
      refine lv_ldc2 (pc := 39) (v := 12) hx hb hown (hts _ (Uin mw278)) dX12_lies_39 ?_
      refine W.lcmp (pc := 42) hx hb dX12_lies_42 ?_
      refine lv_if_lt (pc := 43) (tgt := 59) hx hb dX12_lies_43 (by decide) (fun c_8 => ?_) (fun c_8 => ?_)
      · have c_8 := (lc_lt _ _).mp c_8
        have h := h.1 c_8
        exact q_vret (pc := 59) E hR h dX12_lies_59
      · have c_8 := mt (lc_lt _ _).mpr c_8
        have h := h.2 c_8
        refine lv_iload_n (pc := 46) hx hb dX12_lies_46 rfl (lv_at hl 2 rfl) ?_
        refine lv_i2l (pc := 47) (v := x1.toInt64) hx hb dX12_lies_47 rfl ?_
        refine lv_lload_n (pc := 48) hx hb dX12_lies_48 rfl (lv_at hl 0 rfl) ?_
        refine lv_ladd (pc := 49) hx hb dX12_lies_49 ?_
        refine lv_aload_n (pc := 50) hx hb dX12_lies_50 rfl (lv_at hl 1 rfl) ?_
        refine gf2_0_1 (pc := 51) hx hb hts hown hK hR mw268 dX12_lies_51 ?_
        refine lv_i2l (pc := 54) (v := (σ_5.1 0 1).toInt64) hx hb dX12_lies_54 rfl ?_
        refine W.lcmp (pc := 55) hx hb dX12_lies_55 ?_
        refine lv_if_le (pc := 56) (tgt := 60) hx hb dX12_lies_56 (by decide) (fun c_9 => ?_) (fun c_9 => ?_)
        · have c_9 := (lc_le _ _).mp c_9
          have h := h.1 c_9
          refine lv_aload_n (pc := 60) hx hb dX12_lies_60 rfl (lv_at hl 1 rfl) ?_
          refine lv_lload_n (pc := 61) hx hb dX12_lies_61 rfl (lv_at hl 0 rfl) ?_
          refine pf2_0_8 (pc := 62) hx hb hts hown hK hI hR mw265 dX12_lies_62 (fun H locs σ_10 eσ_10 hR => ?_)
          have h := h σ_10 eσ_10
          refine lv_iconst (pc := 65) (v := 0) hx hb dX12_lies_65 (by decide) ?_
          refine lv_istore (pc := 66) (lv' := [(4, .int 0), (2, .long v_7), (0, .ref (w.2.1 0)), (1, .int x1)]) hx hb dX12_lies_66 hl (by decide) rfl (fun ls hl => ?_)
          exact bX12_lies_68 l w N Q E x1 v_7 N 0 σ_10 _ _ _ hR (lv_sub hl [2, 3, 1, 0] rfl) h
        · have c_9 := mt (lc_le _ _).mpr c_9
          have h := h.2 c_9
          exact q_vret (pc := 59) E hR h dX12_lies_59
    · have c_4 := mt (lc_le _ _).mpr c_4
      have h := h.2 c_4
      exact q_vret (pc := 29) E hR h dX12_lies_29
theorem cX12_lies_met (l : Launch) (w : Wd) (hI : Ij 38 w) (N : Nat) (x1 : Int32) (Q : St → Prop) (σ : St) (h : fX12_lies N x1 Q σ) : Met l yX12_lies (.code yX12_lies cX12_lies 9 none :: Uw) rmX12_lies (va_Pc [.ref (w.2.1 0), .int x1] (fun U => Rp 38 ev2 w σ U ∧ X2 U)) (va_Qv Q (Rp 38 ev2 w) (Aw 38 w)) 0 0 (Aw 38 w) :=
  q_met (by decide) (Nat.le_of_ble_eq_true rfl) hI (fun p e s m below meth c ls E hl hR => bX12_lies_e l w N Q E x1 hR hl h)
-- GlulxStringsModel.table(I)I
abbrev rmX12_table : Room := { frames := 5, cells := 0, slots := 0, locals := 126 }
def fX12_table (N : Nat) (x1 : Int32) (Q : Int32 → St → Prop) (σ : St) : Prop := (((σ.1 0 14) ≤ 0 → ∀ σ_2 : St, σ_2 = u1 σ 0 9 0 → fX12_lies N x1 (fun σ_3 => Q (σ_3.1 0 7) σ_3) σ_2) ∧ (¬ (σ.1 0 14) ≤ 0 → Q (-3) σ))
set_option maxHeartbeats 4000000 in
set_option maxRecDepth 100000 in
theorem bX12_table_e {p : Program} {e : Env} {s : State} {m : MethodId} {args : Array Value} {below : List Frame} {meth : Method} {c : Code} (l : Launch) (w : Wd) (N : Nat) (Q : Int32 → St → Prop) (E : Cx 38 w X2 cX12_table 2 RX12 (.code yX12_table cX12_table 2 (some .int)) (some .int) p s m args meth c) (x1 : Int32) {σ : St} {H : Heap} {locs : List Loc} {ls : Array Slot} (hR : Rr 38 ev2 w σ s H locs) (hl : lv_has ls 2 [(0, .ref (w.2.1 0)), (1, .int x1)]) (h : fX12_table N x1 Q σ) : W p l e rmX12_table s m args below meth c H locs 0 0 (MQ below (va_Qi Q (Rp 38 ev2 w) (Aw 38 w)) args s 0 0 (Aw 38 w)) (F0 m 0 ls []) := by
  obtain ⟨hx, hb, hml, hown, hts, hr, hlk, hK, hI, hX⟩ := id E
  unfold fX12_table at h
  refine lv_aload_n (pc := 0) hx hb dX12_table_0 rfl (lv_at hl 0 rfl) ?_
  refine gf2_0_14 (pc := 1) hx hb hts hown hK hR mw282 dX12_table_1 ?_
  refine lv_if_le (pc := 4) (tgt := 10) hx hb dX12_table_4 (by decide) (fun c_1 => ?_) (fun c_1 => ?_)
  · have h := h.1 c_1
    refine lv_aload_n (pc := 10) hx hb dX12_table_10 rfl (lv_at hl 0 rfl) ?_
    refine lv_iconst (pc := 11) (v := 0) hx hb dX12_table_11 (by decide) ?_
    refine pf2_0_9 (pc := 12) hx hb hts hown hK hI hR mw270 dX12_table_12 (fun H locs σ_2 eσ_2 hR => ?_)
    have h := h σ_2 eσ_2
    refine lv_aload_n (pc := 15) hx hb dX12_table_15 rfl (lv_at hl 0 rfl) ?_
    refine lv_iload_n (pc := 16) hx hb dX12_table_16 rfl (lv_at hl 1 rfl) ?_
    refine q_cv (pc := 17) hR (q_rV E (xp2 w) (As := [.int x1]) (rest := []) (cX12_lies_met l w hI N x1 _ σ_2 h) ckX12_lies cvX12_lies mw283 ⟨rfl, rfl, Nat.le_of_ble_eq_true rfl, Nat.le_of_ble_eq_true rfl⟩ hR (rc2_0 w) rfl hl.1 rfl (Nat.le_of_ble_eq_true rfl) dX12_table_17) (fun σ_3 H locs h hR => ?_)
    refine lv_aload_n (pc := 20) hx hb dX12_table_20 rfl (lv_at hl 0 rfl) ?_
    refine gf2_0_7 (pc := 21) hx hb hts hown hK hR mw263 dX12_table_21 ?_
    exact q_iret (pc := 24) E hR h dX12_table_24
  · have h := h.2 c_1
    refine lv_bipush (pc := 7) (v := (-3)) hx hb dX12_table_7 (by decide) ?_
    exact q_iret (pc := 9) E hR h dX12_table_9
theorem cX12_table_met (l : Launch) (w : Wd) (hI : Ij 38 w) (N : Nat) (x1 : Int32) (Q : Int32 → St → Prop) (σ : St) (h : fX12_table N x1 Q σ) : Met l yX12_table (.code yX12_table cX12_table 2 (some .int) :: Uw) rmX12_table (va_Pc [.ref (w.2.1 0), .int x1] (fun U => Rp 38 ev2 w σ U ∧ X2 U)) (va_Qi Q (Rp 38 ev2 w) (Aw 38 w)) 0 0 (Aw 38 w) :=
  q_met (by decide) (Nat.le_of_ble_eq_true rfl) hI (fun p e s m below meth c ls E hl hR => bX12_table_e l w N Q E x1 hR hl h)
-- GlulxStringsModel.system(II)I
abbrev rmX12_system : Room := { frames := 1, cells := 0, slots := 0, locals := 25 }
def fX12_system (N : Nat) (x1 : Int32) (x2 : Int32) (Q : Int32 → St → Prop) (σ : St) : Prop := fX12_in N x1.toInt64 0 2 (fun r_2 σ_1 => ((r_2 = 0 → Q (-2) σ_1) ∧ (¬ r_2 = 0 → (((σ_1.1 0 14) ≤ 0 → ∀ σ_5 : St, σ_5 = u1 σ_1 0 12 x1 → ∀ σ_6 : St, σ_6 = u1 σ_5 0 13 x2 → Q 0 σ_6) ∧ (¬ (σ_1.1 0 14) ≤ 0 → Q (-3) σ_1))))) σ
set_option maxHeartbeats 4000000 in
set_option maxRecDepth 100000 in
theorem bX12_system_e {p : Program} {e : Env} {s : State} {m : MethodId} {args : Array Value} {below : List Frame} {meth : Method} {c : Code} (l : Launch) (w : Wd) (N : Nat) (Q : Int32 → St → Prop) (E : Cx 38 w X2 cX12_system 3 RX12 (.code yX12_system cX12_system 3 (some .int)) (some .int) p s m args meth c) (x1 : Int32) (x2 : Int32) {σ : St} {H : Heap} {locs : List Loc} {ls : Array Slot} (hR : Rr 38 ev2 w σ s H locs) (hl : lv_has ls 3 [(0, .ref (w.2.1 0)), (1, .int x1), (2, .int x2)]) (h : fX12_system N x1 x2 Q σ) : W p l e rmX12_system s m args below meth c H locs 0 0 (MQ below (va_Qi Q (Rp 38 ev2 w) (Aw 38 w)) args s 0 0 (Aw 38 w)) (F0 m 0 ls []) := by
  obtain ⟨hx, hb, hml, hown, hts, hr, hlk, hK, hI, hX⟩ := id E
  unfold fX12_system at h
  refine lv_iload_n (pc := 0) hx hb dX12_system_0 rfl (lv_at hl 1 rfl) ?_
  refine lv_i2l (pc := 1) (v := x1.toInt64) hx hb dX12_system_1 rfl ?_
  refine lv_lconst (pc := 2) (v := 0) hx hb dX12_system_2 (by decide) ?_
  refine lv_ldc2 (pc := 3) (v := 2) hx hb hown (hts _ (Uin mw284)) dX12_system_3 ?_
  refine q_ci (pc := 6) hR (q_rS E (xp2 w) (As := [.long x1.toInt64, .long 0, .long 2]) (rest := []) (cX12_in_met l w hI N x1.toInt64 0 2 _ σ h) ckX12_in csX12_in mw258 ⟨rfl, rfl, Nat.le_of_ble_eq_true rfl, Nat.le_of_ble_eq_true rfl⟩ hR rfl hl.1 rfl (Nat.le_of_ble_eq_true rfl) dX12_system_6) (fun r_2 σ_1 H locs h hR => ?_)
  refine lv_if_ne (pc := 9) (tgt := 15) hx hb dX12_system_9 (by decide) (fun c_3 => ?_) (fun c_3 => ?_)
  · have h := h.2 c_3
    refine lv_aload_n (pc := 15) hx hb dX12_system_15 rfl (lv_at hl 0 rfl) ?_
    refine gf2_0_14 (pc := 16) hx hb hts hown hK hR mw282 dX12_system_16 ?_
    refine lv_if_le (pc := 19) (tgt := 25) hx hb dX12_system_19 (by decide) (fun c_4 => ?_) (fun c_4 => ?_)
    · have h := h.1 c_4
      refine lv_aload_n (pc := 25) hx hb dX12_system_25 rfl (lv_at hl 0 rfl) ?_
      refine lv_iload_n (pc := 26) hx hb dX12_system_26 rfl (lv_at hl 1 rfl) ?_
      refine pf2_0_12 (pc := 27) hx hb hts hown hK hI hR mw285 dX12_system_27 (fun H locs σ_5 eσ_5 hR => ?_)
      have h := h σ_5 eσ_5
      refine lv_aload_n (pc := 30) hx hb dX12_system_30 rfl (lv_at hl 0 rfl) ?_
      refine lv_iload_n (pc := 31) hx hb dX12_system_31 rfl (lv_at hl 2 rfl) ?_
      refine pf2_0_13 (pc := 32) hx hb hts hown hK hI hR mw286 dX12_system_32 (fun H locs σ_6 eσ_6 hR => ?_)
      have h := h σ_6 eσ_6
      refine lv_iconst (pc := 35) (v := 0) hx hb dX12_system_35 (by decide) ?_
      exact q_iret (pc := 36) E hR h dX12_system_36
    · have h := h.2 c_4
      refine lv_bipush (pc := 22) (v := (-3)) hx hb dX12_system_22 (by decide) ?_
      exact q_iret (pc := 24) E hR h dX12_system_24
  · have h := h.1 c_3
    refine lv_bipush (pc := 12) (v := (-2)) hx hb dX12_system_12 (by decide) ?_
    exact q_iret (pc := 14) E hR h dX12_system_14
theorem cX12_system_met (l : Launch) (w : Wd) (hI : Ij 38 w) (N : Nat) (x1 : Int32) (x2 : Int32) (Q : Int32 → St → Prop) (σ : St) (h : fX12_system N x1 x2 Q σ) : Met l yX12_system (.code yX12_system cX12_system 3 (some .int) :: Uw) rmX12_system (va_Pc [.ref (w.2.1 0), .int x1, .int x2] (fun U => Rp 38 ev2 w σ U ∧ X2 U)) (va_Qi Q (Rp 38 ev2 w) (Aw 38 w)) 0 0 (Aw 38 w) :=
  q_met (by decide) (Nat.le_of_ble_eq_true rfl) hI (fun p e s m below meth c ls E hl hR => bX12_system_e l w N Q E x1 x2 hR hl h)
-- GlulxStringsModel.isString(I)Z
abbrev rmX12_isString : Room := { frames := 0, cells := 0, slots := 0, locals := 0 }
def fX12_isString (N : Nat) (x0 : Int32) (Q : Int32 → St → Prop) (σ : St) : Prop := ((x0 < 224 → Q 0 σ) ∧ (¬ x0 < 224 → ((226 < x0 → Q 0 σ) ∧ (¬ 226 < x0 → Q 1 σ))))
set_option maxHeartbeats 4000000 in
set_option maxRecDepth 100000 in
theorem bX12_isString_e {p : Program} {e : Env} {s : State} {m : MethodId} {args : Array Value} {below : List Frame} {meth : Method} {c : Code} (l : Launch) (w : Wd) (N : Nat) (Q : Int32 → St → Prop) (E : Cx 38 w X2 cX12_isString 1 RX12 (.code yX12_isString cX12_isString 1 (some .boolean)) (some .boolean) p s m args meth c) (x0 : Int32) {σ : St} {H : Heap} {locs : List Loc} {ls : Array Slot} (hR : Rr 38 ev2 w σ s H locs) (hl : lv_has ls 1 [(0, .int x0)]) (h : fX12_isString N x0 Q σ) : W p l e rmX12_isString s m args below meth c H locs 0 0 (MQ below (va_Qi Q (Rp 38 ev2 w) (Aw 38 w)) args s 0 0 (Aw 38 w)) (F0 m 0 ls []) := by
  obtain ⟨hx, hb, hml, hown, hts, hr, hlk, hK, hI, hX⟩ := id E
  unfold fX12_isString at h
  refine lv_iload_n (pc := 0) hx hb dX12_isString_0 rfl (lv_at hl 0 rfl) ?_
  refine lv_sipush (pc := 1) (v := 224) hx hb dX12_isString_1 (by decide) ?_
  refine lv_icmp_lt (pc := 4) (tgt := 18) hx hb dX12_isString_4 (by decide) (fun c_1 => ?_) (fun c_1 => ?_)
  · have h := h.1 c_1
    refine lv_iconst (pc := 18) (v := 0) hx hb dX12_isString_18 (by decide) ?_
    exact q_zret (pc := 19) E hR h rfl dX12_isString_19
  · have h := h.2 c_1
    refine lv_iload_n (pc := 7) hx hb dX12_isString_7 rfl (lv_at hl 0 rfl) ?_
    refine lv_sipush (pc := 8) (v := 226) hx hb dX12_isString_8 (by decide) ?_
    refine lv_icmp_gt (pc := 11) (tgt := 18) hx hb dX12_isString_11 (by decide) (fun c_2 => ?_) (fun c_2 => ?_)
    · have h := h.1 c_2
      refine lv_iconst (pc := 18) (v := 0) hx hb dX12_isString_18 (by decide) ?_
      exact q_zret (pc := 19) E hR h rfl dX12_isString_19
    · have h := h.2 c_2
      refine lv_iconst (pc := 14) (v := 1) hx hb dX12_isString_14 (by decide) ?_
      refine lv_goto (pc := 15) (tgt := 19) hx hb dX12_isString_15 (by decide) ?_
      exact q_zret (pc := 19) E hR h rfl dX12_isString_19
theorem cX12_isString_met (l : Launch) (w : Wd) (hI : Ij 38 w) (N : Nat) (x0 : Int32) (Q : Int32 → St → Prop) (σ : St) (h : fX12_isString N x0 Q σ) : Met l yX12_isString (.code yX12_isString cX12_isString 1 (some .boolean) :: Uw) rmX12_isString (va_Pc [.int x0] (fun U => Rp 38 ev2 w σ U ∧ X2 U)) (va_Qi Q (Rp 38 ev2 w) (Aw 38 w)) 0 0 (Aw 38 w) :=
  q_met (by decide) (Nat.le_of_ble_eq_true rfl) hI (fun p e s m below meth c ls E hl hR => bX12_isString_e l w N Q E x0 hR hl h)
-- GlulxStringsModel.lays(II)V
abbrev rmX12_lays : Room := { frames := 1, cells := 0, slots := 0, locals := 21 }
def fX12_lays_j134 (N : Nat) (t0 : Int32) (Q : St → Prop) (σ : St) : Prop := ∀ σ_20 : St, σ_20 = u1 σ 0 32 t0 → Q σ_20
set_option maxHeartbeats 4000000 in
set_option maxRecDepth 100000 in
theorem bX12_lays_134 {p : Program} {e : Env} {s : State} {m : MethodId} {args : Array Value} {below : List Frame} {meth : Method} {c : Code} (l : Launch) (w : Wd) (N : Nat) (Q : St → Prop) (E : Cx 38 w X2 cX12_lays 3 RX12 (.code yX12_lays cX12_lays 3 none) none p s m args meth c) (t0 : Int32) {σ : St} {H : Heap} {locs : List Loc} {ls : Array Slot} (hR : Rr 38 ev2 w σ s H locs) (hl : lv_has ls 3 []) (h : fX12_lays_j134 N t0 Q σ) : W p l e rmX12_lays s m args below meth c H locs 0 0 (MQ below (va_Qv Q (Rp 38 ev2 w) (Aw 38 w)) args s 0 0 (Aw 38 w)) (F0 m 134 ls [.int t0, .ref (w.2.1 0)]) := by
  obtain ⟨hx, hb, hml, hown, hts, hr, hlk, hK, hI, hX⟩ := id E
  unfold fX12_lays_j134 at h
  refine pf2_0_32 (pc := 134) hx hb hts hown hK hI hR mw294 dX12_lays_134 (fun H locs σ_20 eσ_20 hR => ?_)
  have h := h σ_20 eσ_20
  exact q_vret (pc := 137) E hR h dX12_lays_137
def fX12_lays_j22 (N : Nat) (x1 : Int32) (x2 : Int32) (Q : St → Prop) (σ : St) : Prop := (((σ.1 0 9) = 0 → vp_in (σ.1 0 14) 40 ∧ ∀ σ_4 : St, σ_4 = u1 σ 6 (σ.1 0 14).toNatClampNeg x1 → vp_in (σ_4.1 0 14) 40 ∧ ∀ σ_6 : St, σ_6 = u1 σ_4 7 (σ_4.1 0 14).toNatClampNeg x2 → vp_in (σ_6.1 0 14) 40 ∧ ∀ σ_8 : St, σ_8 = u1 σ_6 8 (σ_6.1 0 14).toNatClampNeg 0 → vp_in (σ_8.1 0 14) 40 ∧ ∀ σ_10 : St, σ_10 = u1 σ_8 9 (σ_8.1 0 14).toNatClampNeg 0 → vp_in (σ_10.1 0 14) 40 ∧ ∀ σ_12 : St, σ_12 = u1 σ_10 11 (σ_10.1 0 14).toNatClampNeg (vp_nar .boolean 1) → vp_in (σ_12.1 0 14) 40 ∧ ∀ σ_14 : St, σ_14 = u1 σ_12 12 (σ_12.1 0 14).toNatClampNeg 0 → vp_in (σ_14.1 0 14) 40 ∧ ∀ σ_16 : St, σ_16 = u1 σ_14 13 (σ_14.1 0 14).toNatClampNeg 255 → ∀ v_17 : Int32, v_17 = (σ_16.1 0 14) + 1 → ∀ σ_18 : St, σ_18 = u1 σ_16 0 14 v_17 → (((σ_18.1 0 14) ≤ (σ_18.1 0 32) → fX12_lays_j134 N (σ_18.1 0 32) Q σ_18) ∧ (¬ (σ_18.1 0 14) ≤ (σ_18.1 0 32) → fX12_lays_j134 N (σ_18.1 0 14) Q σ_18))) ∧ (¬ (σ.1 0 9) = 0 → Q σ))
set_option maxHeartbeats 4000000 in
set_option maxRecDepth 100000 in
theorem bX12_lays_22 {p : Program} {e : Env} {s : State} {m : MethodId} {args : Array Value} {below : List Frame} {meth : Method} {c : Code} (l : Launch) (w : Wd) (N : Nat) (Q : St → Prop) (E : Cx 38 w X2 cX12_lays 3 RX12 (.code yX12_lays cX12_lays 3 none) none p s m args meth c) (x1 : Int32) (x2 : Int32) {σ : St} {H : Heap} {locs : List Loc} {ls : Array Slot} (hR : Rr 38 ev2 w σ s H locs) (hl : lv_has ls 3 [(0, .ref (w.2.1 0)), (1, .int x1), (2, .int x2)]) (h : fX12_lays_j22 N x1 x2 Q σ) : W p l e rmX12_lays s m args below meth c H locs 0 0 (MQ below (va_Qv Q (Rp 38 ev2 w) (Aw 38 w)) args s 0 0 (Aw 38 w)) (F0 m 22 ls []) := by
  obtain ⟨hx, hb, hml, hown, hts, hr, hlk, hK, hI, hX⟩ := id E
  unfold fX12_lays_j22 at h
  refine lv_aload_n (pc := 22) hx hb dX12_lays_22 rfl (lv_at hl 0 rfl) ?_
  refine gf2_0_9 (pc := 23) hx hb hts hown hK hR mw270 dX12_lays_23 ?_
  refine lv_if_ne (pc := 26) (tgt := 137) hx hb dX12_lays_26 (by decide) (fun c_2 => ?_) (fun c_2 => ?_)
  · have h := h.2 c_2
    exact q_vret (pc := 137) E hR h dX12_lays_137
  · have h := h.1 c_2
    refine lv_aload_n (pc := 29) hx hb dX12_lays_29 rfl (lv_at hl 0 rfl) ?_
    refine gf2_0_15 (pc := 30) hx hb hts hown hK hR mw287 dX12_lays_30 ?_
    refine lv_aload_n (pc := 33) hx hb dX12_lays_33 rfl (lv_at hl 0 rfl) ?_
    refine gf2_0_14 (pc := 34) hx hb hts hown hK hR mw282 dX12_lays_34 ?_
    refine lv_iload_n (pc := 37) hx hb dX12_lays_37 rfl (lv_at hl 1 rfl) ?_
    have g_3 := h.1
    have h := h.2
    refine q_iast (pc := 38) hx hb hK hI hR (k := 6) lt2_6 (fun f => (ar2_6 _ f _)) g_3 dX12_lays_38 (fun H locs σ_4 eσ_4 hR => ?_)
    have h := h σ_4 eσ_4
    refine lv_aload_n (pc := 39) hx hb dX12_lays_39 rfl (lv_at hl 0 rfl) ?_
    refine gf2_0_16 (pc := 40) hx hb hts hown hK hR mw288 dX12_lays_40 ?_
    refine lv_aload_n (pc := 43) hx hb dX12_lays_43 rfl (lv_at hl 0 rfl) ?_
    refine gf2_0_14 (pc := 44) hx hb hts hown hK hR mw282 dX12_lays_44 ?_
    refine lv_iload_n (pc := 47) hx hb dX12_lays_47 rfl (lv_at hl 2 rfl) ?_
    have g_5 := h.1
    have h := h.2
    refine q_iast (pc := 48) hx hb hK hI hR (k := 7) lt2_7 (fun f => (ar2_7 _ f _)) g_5 dX12_lays_48 (fun H locs σ_6 eσ_6 hR => ?_)
    have h := h σ_6 eσ_6
    refine lv_aload_n (pc := 49) hx hb dX12_lays_49 rfl (lv_at hl 0 rfl) ?_
    refine gf2_0_17 (pc := 50) hx hb hts hown hK hR mw289 dX12_lays_50 ?_
    refine lv_aload_n (pc := 53) hx hb dX12_lays_53 rfl (lv_at hl 0 rfl) ?_
    refine gf2_0_14 (pc := 54) hx hb hts hown hK hR mw282 dX12_lays_54 ?_
    refine lv_iconst (pc := 57) (v := 0) hx hb dX12_lays_57 (by decide) ?_
    have g_7 := h.1
    have h := h.2
    refine q_iast (pc := 58) hx hb hK hI hR (k := 8) lt2_8 (fun f => (ar2_8 _ f _)) g_7 dX12_lays_58 (fun H locs σ_8 eσ_8 hR => ?_)
    have h := h σ_8 eσ_8
    refine lv_aload_n (pc := 59) hx hb dX12_lays_59 rfl (lv_at hl 0 rfl) ?_
    refine gf2_0_18 (pc := 60) hx hb hts hown hK hR mw290 dX12_lays_60 ?_
    refine lv_aload_n (pc := 63) hx hb dX12_lays_63 rfl (lv_at hl 0 rfl) ?_
    refine gf2_0_14 (pc := 64) hx hb hts hown hK hR mw282 dX12_lays_64 ?_
    refine lv_iconst (pc := 67) (v := 0) hx hb dX12_lays_67 (by decide) ?_
    have g_9 := h.1
    have h := h.2
    refine q_iast (pc := 68) hx hb hK hI hR (k := 9) lt2_9 (fun f => (ar2_9 _ f _)) g_9 dX12_lays_68 (fun H locs σ_10 eσ_10 hR => ?_)
    have h := h σ_10 eσ_10
    refine lv_aload_n (pc := 69) hx hb dX12_lays_69 rfl (lv_at hl 0 rfl) ?_
    refine gf2_0_20 (pc := 70) hx hb hts hown hK hR mw291 dX12_lays_70 ?_
    refine lv_aload_n (pc := 73) hx hb dX12_lays_73 rfl (lv_at hl 0 rfl) ?_
    refine gf2_0_14 (pc := 74) hx hb hts hown hK hR mw282 dX12_lays_74 ?_
    refine lv_iconst (pc := 77) (v := 1) hx hb dX12_lays_77 (by decide) ?_
    have g_11 := h.1
    have h := h.2
    refine q_zast (pc := 78) hx hb hK hI hR (k := 11) lt2_11 (fun f => (ar2_11 _ f _)) g_11 dX12_lays_78 (fun H locs σ_12 eσ_12 hR => ?_)
    have h := h σ_12 eσ_12
    refine lv_aload_n (pc := 79) hx hb dX12_lays_79 rfl (lv_at hl 0 rfl) ?_
    refine gf2_0_21 (pc := 80) hx hb hts hown hK hR mw292 dX12_lays_80 ?_
    refine lv_aload_n (pc := 83) hx hb dX12_lays_83 rfl (lv_at hl 0 rfl) ?_
    refine gf2_0_14 (pc := 84) hx hb hts hown hK hR mw282 dX12_lays_84 ?_
    refine lv_iconst (pc := 87) (v := 0) hx hb dX12_lays_87 (by decide) ?_
    have g_13 := h.1
    have h := h.2
    refine q_iast (pc := 88) hx hb hK hI hR (k := 12) lt2_12 (fun f => (ar2_12 _ f _)) g_13 dX12_lays_88 (fun H locs σ_14 eσ_14 hR => ?_)
    have h := h σ_14 eσ_14
    refine lv_aload_n (pc := 89) hx hb dX12_lays_89 rfl (lv_at hl 0 rfl) ?_
    refine gf2_0_22 (pc := 90) hx hb hts hown hK hR mw293 dX12_lays_90 ?_
    refine lv_aload_n (pc := 93) hx hb dX12_lays_93 rfl (lv_at hl 0 rfl) ?_
    refine gf2_0_14 (pc := 94) hx hb hts hown hK hR mw282 dX12_lays_94 ?_
    refine lv_sipush (pc := 97) (v := 255) hx hb dX12_lays_97 (by decide) ?_
    have g_15 := h.1
    have h := h.2
    refine q_iast (pc := 100) hx hb hK hI hR (k := 13) lt2_13 (fun f => (ar2_13 _ f _)) g_15 dX12_lays_100 (fun H locs σ_16 eσ_16 hR => ?_)
    have h := h σ_16 eσ_16
    refine lv_aload_n (pc := 101) hx hb dX12_lays_101 rfl (lv_at hl 0 rfl) ?_
    refine lv_dup (pc := 102) hx hb dX12_lays_102 rfl ?_
    refine gf2_0_14 (pc := 103) hx hb hts hown hK hR mw282 dX12_lays_103 ?_
    refine lv_iconst (pc := 106) (v := 1) hx hb dX12_lays_106 (by decide) ?_
    refine lv_iadd (pc := 107) hx hb dX12_lays_107 ?_
    refine lv_topi (pc := 108) (fun v_17 ev_17 => ?_)
    have h := h v_17 ev_17
    refine pf2_0_14 (pc := 108) hx hb hts hown hK hI hR mw282 dX12_lays_108 (fun H locs σ_18 eσ_18 hR => ?_)
    have h := h σ_18 eσ_18
    refine lv_aload_n (pc := 111) hx hb dX12_lays_111 rfl (lv_at hl 0 rfl) ?_
    refine lv_aload_n (pc := 112) hx hb dX12_lays_112 rfl (lv_at hl 0 rfl) ?_
    refine gf2_0_14 (pc := 113) hx hb hts hown hK hR mw282 dX12_lays_113 ?_
    refine lv_aload_n (pc := 116) hx hb dX12_lays_116 rfl (lv_at hl 0 rfl) ?_
    refine gf2_0_32 (pc := 117) hx hb hts hown hK hR mw294 dX12_lays_117 ?_
    refine lv_icmp_le (pc := 120) (tgt := 130) hx hb dX12_lays_120 (by decide) (fun c_19 => ?_) (fun c_19 => ?_)
    · have h := h.1 c_19
      refine lv_aload_n (pc := 130) hx hb dX12_lays_130 rfl (lv_at hl 0 rfl) ?_
      refine gf2_0_32 (pc := 131) hx hb hts hown hK hR mw294 dX12_lays_131 ?_
      exact bX12_lays_134 l w N Q E (σ_18.1 0 32) hR (lv_sub hl [] rfl) h
    · have h := h.2 c_19
      refine lv_aload_n (pc := 123) hx hb dX12_lays_123 rfl (lv_at hl 0 rfl) ?_
      refine gf2_0_14 (pc := 124) hx hb hts hown hK hR mw282 dX12_lays_124 ?_
      refine lv_goto (pc := 127) (tgt := 134) hx hb dX12_lays_127 (by decide) ?_
      exact bX12_lays_134 l w N Q E (σ_18.1 0 14) hR (lv_sub hl [] rfl) h
def fX12_lays (N : Nat) (x1 : Int32) (x2 : Int32) (Q : St → Prop) (σ : St) : Prop := (((σ.1 0 9) = 0 → (((σ.1 0 14) = 40 → fX12_fails N 8 (fun σ_3 => fX12_lays_j22 N x1 x2 Q σ_3) σ) ∧ (¬ (σ.1 0 14) = 40 → fX12_lays_j22 N x1 x2 Q σ))) ∧ (¬ (σ.1 0 9) = 0 → fX12_lays_j22 N x1 x2 Q σ))
set_option maxHeartbeats 4000000 in
set_option maxRecDepth 100000 in
theorem bX12_lays_e {p : Program} {e : Env} {s : State} {m : MethodId} {args : Array Value} {below : List Frame} {meth : Method} {c : Code} (l : Launch) (w : Wd) (N : Nat) (Q : St → Prop) (E : Cx 38 w X2 cX12_lays 3 RX12 (.code yX12_lays cX12_lays 3 none) none p s m args meth c) (x1 : Int32) (x2 : Int32) {σ : St} {H : Heap} {locs : List Loc} {ls : Array Slot} (hR : Rr 38 ev2 w σ s H locs) (hl : lv_has ls 3 [(0, .ref (w.2.1 0)), (1, .int x1), (2, .int x2)]) (h : fX12_lays N x1 x2 Q σ) : W p l e rmX12_lays s m args below meth c H locs 0 0 (MQ below (va_Qv Q (Rp 38 ev2 w) (Aw 38 w)) args s 0 0 (Aw 38 w)) (F0 m 0 ls []) := by
  obtain ⟨hx, hb, hml, hown, hts, hr, hlk, hK, hI, hX⟩ := id E
  unfold fX12_lays at h
  refine lv_aload_n (pc := 0) hx hb dX12_lays_0 rfl (lv_at hl 0 rfl) ?_
  refine gf2_0_9 (pc := 1) hx hb hts hown hK hR mw270 dX12_lays_1 ?_
  refine lv_if_ne (pc := 4) (tgt := 22) hx hb dX12_lays_4 (by decide) (fun c_1 => ?_) (fun c_1 => ?_)
  · have h := h.2 c_1
    exact bX12_lays_22 l w N Q E x1 x2 hR (lv_sub hl [0, 1, 2] rfl) h
  · have h := h.1 c_1
    refine lv_aload_n (pc := 7) hx hb dX12_lays_7 rfl (lv_at hl 0 rfl) ?_
    refine gf2_0_14 (pc := 8) hx hb hts hown hK hR mw282 dX12_lays_8 ?_
    refine lv_bipush (pc := 11) (v := 40) hx hb dX12_lays_11 (by decide) ?_
    refine lv_icmp_ne (pc := 13) (tgt := 22) hx hb dX12_lays_13 (by decide) (fun c_2 => ?_) (fun c_2 => ?_)
    · have h := h.2 c_2
      exact bX12_lays_22 l w N Q E x1 x2 hR (lv_sub hl [0, 1, 2] rfl) h
    · have h := h.1 c_2
      refine lv_aload_n (pc := 16) hx hb dX12_lays_16 rfl (lv_at hl 0 rfl) ?_
      refine lv_bipush (pc := 17) (v := 8) hx hb dX12_lays_17 (by decide) ?_
      refine q_cv (pc := 19) hR (q_rV E (xp2 w) (As := [.int 8]) (rest := []) (cX12_fails_met l w hI N 8 _ σ h) ckX12_fails cvX12_fails mw271 ⟨rfl, rfl, Nat.le_of_ble_eq_true rfl, Nat.le_of_ble_eq_true rfl⟩ hR (rc2_0 w) rfl hl.1 rfl (Nat.le_of_ble_eq_true rfl) dX12_lays_19) (fun σ_3 H locs h hR => ?_)
      exact bX12_lays_22 l w N Q E x1 x2 hR (lv_sub hl [0, 1, 2] rfl) h
theorem cX12_lays_met (l : Launch) (w : Wd) (hI : Ij 38 w) (N : Nat) (x1 : Int32) (x2 : Int32) (Q : St → Prop) (σ : St) (h : fX12_lays N x1 x2 Q σ) : Met l yX12_lays (.code yX12_lays cX12_lays 3 none :: Uw) rmX12_lays (va_Pc [.ref (w.2.1 0), .int x1, .int x2] (fun U => Rp 38 ev2 w σ U ∧ X2 U)) (va_Qv Q (Rp 38 ev2 w) (Aw 38 w)) 0 0 (Aw 38 w) :=
  q_met (by decide) (Nat.le_of_ble_eq_true rfl) hI (fun p e s m below meth c ls E hl hR => bX12_lays_e l w N Q E x1 x2 hR hl h)
-- GlulxStringsModel.prints(I)V
abbrev rmX12_prints : Room := { frames := 2, cells := 0, slots := 0, locals := 47 }
def fX12_prints_j66 (N : Nat) (t0 : Int32) (t1 : Int32) (Q : St → Prop) (σ : St) : Prop := fX12_lays N t1 t0 (fun σ_7 => Q σ_7) σ
set_option maxHeartbeats 4000000 in
set_option maxRecDepth 100000 in
theorem bX12_prints_66 {p : Program} {e : Env} {s : State} {m : MethodId} {args : Array Value} {below : List Frame} {meth : Method} {c : Code} (l : Launch) (w : Wd) (N : Nat) (Q : St → Prop) (E : Cx 38 w X2 cX12_prints 3 RX12 (.code yX12_prints cX12_prints 3 none) none p s m args meth c) (t0 : Int32) (t1 : Int32) {σ : St} {H : Heap} {locs : List Loc} {ls : Array Slot} (hR : Rr 38 ev2 w σ s H locs) (hl : lv_has ls 3 []) (h : fX12_prints_j66 N t0 t1 Q σ) : W p l e rmX12_prints s m args below meth c H locs 0 0 (MQ below (va_Qv Q (Rp 38 ev2 w) (Aw 38 w)) args s 0 0 (Aw 38 w)) (F0 m 66 ls [.int t0, .int t1, .ref (w.2.1 0)]) := by
  obtain ⟨hx, hb, hml, hown, hts, hr, hlk, hK, hI, hX⟩ := id E
  unfold fX12_prints_j66 at h
  refine q_cv (pc := 66) hR (q_rV E (xp2 w) (As := [.int t1, .int t0]) (rest := []) (cX12_lays_met l w hI N t1 t0 _ σ h) ckX12_lays cvX12_lays mw295 ⟨rfl, rfl, Nat.le_of_ble_eq_true rfl, Nat.le_of_ble_eq_true rfl⟩ hR (rc2_0 w) rfl hl.1 rfl (Nat.le_of_ble_eq_true rfl) dX12_prints_66) (fun σ_7 H locs h hR => ?_)
  exact q_vret (pc := 69) E hR h dX12_prints_69
def fX12_prints_j50 (N : Nat) (x1 : Int32) (x2 : Int32) (t0 : Int32) (Q : St → Prop) (σ : St) : Prop := ((x2 = 226 → fX12_prints_j66 N (x1 + 4) t0 Q σ) ∧ (¬ x2 = 226 → fX12_prints_j66 N (x1 + 1) t0 Q σ))
set_option maxHeartbeats 4000000 in
set_option maxRecDepth 100000 in
theorem bX12_prints_50 {p : Program} {e : Env} {s : State} {m : MethodId} {args : Array Value} {below : List Frame} {meth : Method} {c : Code} (l : Launch) (w : Wd) (N : Nat) (Q : St → Prop) (E : Cx 38 w X2 cX12_prints 3 RX12 (.code yX12_prints cX12_prints 3 none) none p s m args meth c) (x1 : Int32) (x2 : Int32) (t0 : Int32) {σ : St} {H : Heap} {locs : List Loc} {ls : Array Slot} (hR : Rr 38 ev2 w σ s H locs) (hl : lv_has ls 3 [(1, .int x1), (2, .int x2)]) (h : fX12_prints_j50 N x1 x2 t0 Q σ) : W p l e rmX12_prints s m args below meth c H locs 0 0 (MQ below (va_Qv Q (Rp 38 ev2 w) (Aw 38 w)) args s 0 0 (Aw 38 w)) (F0 m 50 ls [.int t0, .ref (w.2.1 0)]) := by
  obtain ⟨hx, hb, hml, hown, hts, hr, hlk, hK, hI, hX⟩ := id E
  unfold fX12_prints_j50 at h
  refine lv_iload_n (pc := 50) hx hb dX12_prints_50 rfl (lv_at hl 1 rfl) ?_
  refine lv_sipush (pc := 51) (v := 226) hx hb dX12_prints_51 (by decide) ?_
  refine lv_icmp_ne (pc := 54) (tgt := 63) hx hb dX12_prints_54 (by decide) (fun c_6 => ?_) (fun c_6 => ?_)
  · have h := h.2 c_6
    refine lv_iload_n (pc := 63) hx hb dX12_prints_63 rfl (lv_at hl 0 rfl) ?_
    refine lv_iconst (pc := 64) (v := 1) hx hb dX12_prints_64 (by decide) ?_
    refine lv_iadd (pc := 65) hx hb dX12_prints_65 ?_
    exact bX12_prints_66 l w N Q E (x1 + 1) t0 hR (lv_sub hl [] rfl) h
  · have h := h.1 c_6
    refine lv_iload_n (pc := 57) hx hb dX12_prints_57 rfl (lv_at hl 0 rfl) ?_
    refine lv_iconst (pc := 58) (v := 4) hx hb dX12_prints_58 (by decide) ?_
    refine lv_iadd (pc := 59) hx hb dX12_prints_59 ?_
    refine lv_goto (pc := 60) (tgt := 66) hx hb dX12_prints_60 (by decide) ?_
    exact bX12_prints_66 l w N Q E (x1 + 4) t0 hR (lv_sub hl [] rfl) h
def fX12_prints_j26 (N : Nat) (x1 : Int32) (x2 : Int32) (Q : St → Prop) (σ : St) : Prop := ((x2 = 224 → fX12_prints_j50 N x1 x2 1 Q σ) ∧ (¬ x2 = 224 → ((x2 = 226 → fX12_prints_j50 N x1 x2 2 Q σ) ∧ (¬ x2 = 226 → fX12_prints_j50 N x1 x2 3 Q σ))))
set_option maxHeartbeats 4000000 in
set_option maxRecDepth 100000 in
theorem bX12_prints_26 {p : Program} {e : Env} {s : State} {m : MethodId} {args : Array Value} {below : List Frame} {meth : Method} {c : Code} (l : Launch) (w : Wd) (N : Nat) (Q : St → Prop) (E : Cx 38 w X2 cX12_prints 3 RX12 (.code yX12_prints cX12_prints 3 none) none p s m args meth c) (x1 : Int32) (x2 : Int32) {σ : St} {H : Heap} {locs : List Loc} {ls : Array Slot} (hR : Rr 38 ev2 w σ s H locs) (hl : lv_has ls 3 [(0, .ref (w.2.1 0)), (1, .int x1), (2, .int x2)]) (h : fX12_prints_j26 N x1 x2 Q σ) : W p l e rmX12_prints s m args below meth c H locs 0 0 (MQ below (va_Qv Q (Rp 38 ev2 w) (Aw 38 w)) args s 0 0 (Aw 38 w)) (F0 m 26 ls []) := by
  obtain ⟨hx, hb, hml, hown, hts, hr, hlk, hK, hI, hX⟩ := id E
  unfold fX12_prints_j26 at h
  refine lv_aload_n (pc := 26) hx hb dX12_prints_26 rfl (lv_at hl 0 rfl) ?_
  refine lv_iload_n (pc := 27) hx hb dX12_prints_27 rfl (lv_at hl 2 rfl) ?_
  refine lv_sipush (pc := 28) (v := 224) hx hb dX12_prints_28 (by decide) ?_
  refine lv_icmp_ne (pc := 31) (tgt := 38) hx hb dX12_prints_31 (by decide) (fun c_4 => ?_) (fun c_4 => ?_)
  · have h := h.2 c_4
    refine lv_iload_n (pc := 38) hx hb dX12_prints_38 rfl (lv_at hl 2 rfl) ?_
    refine lv_sipush (pc := 39) (v := 226) hx hb dX12_prints_39 (by decide) ?_
    refine lv_icmp_ne (pc := 42) (tgt := 49) hx hb dX12_prints_42 (by decide) (fun c_5 => ?_) (fun c_5 => ?_)
    · have h := h.2 c_5
      refine lv_iconst (pc := 49) (v := 3) hx hb dX12_prints_49 (by decide) ?_
      exact bX12_prints_50 l w N Q E x1 x2 3 hR (lv_sub hl [1, 2] rfl) h
    · have h := h.1 c_5
      refine lv_iconst (pc := 45) (v := 2) hx hb dX12_prints_45 (by decide) ?_
      refine lv_goto (pc := 46) (tgt := 50) hx hb dX12_prints_46 (by decide) ?_
      exact bX12_prints_50 l w N Q E x1 x2 2 hR (lv_sub hl [1, 2] rfl) h
  · have h := h.1 c_4
    refine lv_iconst (pc := 34) (v := 1) hx hb dX12_prints_34 (by decide) ?_
    refine lv_goto (pc := 35) (tgt := 50) hx hb dX12_prints_35 (by decide) ?_
    exact bX12_prints_50 l w N Q E x1 x2 1 hR (lv_sub hl [1, 2] rfl) h
def fX12_prints (N : Nat) (x1 : Int32) (Q : St → Prop) (σ : St) : Prop := fX12_read N x1.toInt64 (fun r_2 σ_1 => (((σ_1.1 0 9) = 0 → fX12_isString N r_2 (fun r_5 σ_4 => ((r_5 = 0 → fX12_fails N 4 (fun σ_7 => fX12_prints_j26 N x1 r_2 Q σ_7) σ_4) ∧ (¬ r_5 = 0 → fX12_prints_j26 N x1 r_2 Q σ_4))) σ_1) ∧ (¬ (σ_1.1 0 9) = 0 → fX12_prints_j26 N x1 r_2 Q σ_1))) σ
set_option maxHeartbeats 4000000 in
set_option maxRecDepth 100000 in
theorem bX12_prints_e {p : Program} {e : Env} {s : State} {m : MethodId} {args : Array Value} {below : List Frame} {meth : Method} {c : Code} (l : Launch) (w : Wd) (N : Nat) (Q : St → Prop) (E : Cx 38 w X2 cX12_prints 3 RX12 (.code yX12_prints cX12_prints 3 none) none p s m args meth c) (x1 : Int32) {σ : St} {H : Heap} {locs : List Loc} {ls : Array Slot} (hR : Rr 38 ev2 w σ s H locs) (hl : lv_has ls 3 [(0, .ref (w.2.1 0)), (1, .int x1)]) (h : fX12_prints N x1 Q σ) : W p l e rmX12_prints s m args below meth c H locs 0 0 (MQ below (va_Qv Q (Rp 38 ev2 w) (Aw 38 w)) args s 0 0 (Aw 38 w)) (F0 m 0 ls []) := by
  obtain ⟨hx, hb, hml, hown, hts, hr, hlk, hK, hI, hX⟩ := id E
  unfold fX12_prints at h
  refine lv_aload_n (pc := 0) hx hb dX12_prints_0 rfl (lv_at hl 0 rfl) ?_
  refine lv_iload_n (pc := 1) hx hb dX12_prints_1 rfl (lv_at hl 1 rfl) ?_
  refine lv_i2l (pc := 2) (v := x1.toInt64) hx hb dX12_prints_2 rfl ?_
  refine q_ci (pc := 3) hR (q_rV E (xp2 w) (As := [.long x1.toInt64]) (rest := []) (cX12_read_met l w hI N x1.toInt64 _ σ h) ckX12_read cvX12_read mw272 ⟨rfl, rfl, Nat.le_of_ble_eq_true rfl, Nat.le_of_ble_eq_true rfl⟩ hR (rc2_0 w) rfl hl.1 rfl (Nat.le_of_ble_eq_true rfl) dX12_prints_3) (fun r_2 σ_1 H locs h hR => ?_)
  refine lv_istore_n (pc := 6) (lv' := [(2, .int r_2), (0, .ref (w.2.1 0)), (1, .int x1)]) hx hb dX12_prints_6 rfl hl (by decide) rfl (fun ls hl => ?_)
  refine lv_aload_n (pc := 7) hx hb dX12_prints_7 rfl (lv_at hl 1 rfl) ?_
  refine gf2_0_9 (pc := 8) hx hb hts hown hK hR mw270 dX12_prints_8 ?_
  refine lv_if_ne (pc := 11) (tgt := 26) hx hb dX12_prints_11 (by decide) (fun c_3 => ?_) (fun c_3 => ?_)
  · have h := h.2 c_3
    exact bX12_prints_26 l w N Q E x1 r_2 hR (lv_sub hl [1, 2, 0] rfl) h
  · have h := h.1 c_3
    refine lv_iload_n (pc := 14) hx hb dX12_prints_14 rfl (lv_at hl 0 rfl) ?_
    refine q_ci (pc := 15) hR (q_rS E (xp2 w) (As := [.int r_2]) (rest := []) (cX12_isString_met l w hI N r_2 _ σ_1 h) ckX12_isString csX12_isString mw296 ⟨rfl, rfl, Nat.le_of_ble_eq_true rfl, Nat.le_of_ble_eq_true rfl⟩ hR rfl hl.1 rfl (Nat.le_of_ble_eq_true rfl) dX12_prints_15) (fun r_5 σ_4 H locs h hR => ?_)
    refine lv_if_ne (pc := 18) (tgt := 26) hx hb dX12_prints_18 (by decide) (fun c_6 => ?_) (fun c_6 => ?_)
    · have h := h.2 c_6
      exact bX12_prints_26 l w N Q E x1 r_2 hR (lv_sub hl [1, 2, 0] rfl) h
    · have h := h.1 c_6
      refine lv_aload_n (pc := 21) hx hb dX12_prints_21 rfl (lv_at hl 1 rfl) ?_
      refine lv_iconst (pc := 22) (v := 4) hx hb dX12_prints_22 (by decide) ?_
      refine q_cv (pc := 23) hR (q_rV E (xp2 w) (As := [.int 4]) (rest := []) (cX12_fails_met l w hI N 4 _ σ_4 h) ckX12_fails cvX12_fails mw271 ⟨rfl, rfl, Nat.le_of_ble_eq_true rfl, Nat.le_of_ble_eq_true rfl⟩ hR (rc2_0 w) rfl hl.1 rfl (Nat.le_of_ble_eq_true rfl) dX12_prints_23) (fun σ_7 H locs h hR => ?_)
      exact bX12_prints_26 l w N Q E x1 r_2 hR (lv_sub hl [1, 2, 0] rfl) h
theorem cX12_prints_met (l : Launch) (w : Wd) (hI : Ij 38 w) (N : Nat) (x1 : Int32) (Q : St → Prop) (σ : St) (h : fX12_prints N x1 Q σ) : Met l yX12_prints (.code yX12_prints cX12_prints 3 none :: Uw) rmX12_prints (va_Pc [.ref (w.2.1 0), .int x1] (fun U => Rp 38 ev2 w σ U ∧ X2 U)) (va_Qv Q (Rp 38 ev2 w) (Aw 38 w)) 0 0 (Aw 38 w) :=
  q_met (by decide) (Nat.le_of_ble_eq_true rfl) hI (fun p e s m below meth c ls E hl hR => bX12_prints_e l w N Q E x1 hR hl h)
-- GlulxStringsModel.value()I
abbrev rmX12_value : Room := { frames := 3, cells := 0, slots := 0, locals := 71 }
def fX12_value (N : Nat) (Q : Int32 → St → Prop) (σ : St) : Prop := fX12_read N (σ.2 0 34) (fun r_2 σ_1 => ∀ v_3 : Int64, v_3 = (σ_1.2 0 34) + 1 → ∀ σ_4 : St, σ_4 = u2 σ_1 0 34 v_3 → ((r_2 = 1 → ∀ v_22 : Int64, v_22 = (σ_4.2 0 34) + 1 → ∀ σ_23 : St, σ_23 = u2 σ_4 0 34 v_22 → fX12_read N ((σ_23.2 0 34) - 1) (fun r_25 σ_24 => Q r_25.toInt8.toInt32 σ_24) σ_23) ∧ (¬ r_2 = 1 → ((r_2 = 2 → ∀ v_18 : Int64, v_18 = (σ_4.2 0 34) + 4 → ∀ σ_19 : St, σ_19 = u2 σ_4 0 34 v_18 → fX12_four N ((σ_19.2 0 34) - 4) (fun r_21 σ_20 => Q r_21 σ_20) σ_19) ∧ (¬ r_2 = 2 → ((r_2 = 3 → fX12_read N (σ_4.2 0 34) (fun r_11 σ_10 => ∀ v_12 : Int64, v_12 = (σ_10.2 0 34) + 1 → ∀ σ_13 : St, σ_13 = u2 σ_10 0 34 v_12 → vp_in (σ_13.1 0 35) 40 ∧ (((σ_13.1 9 (σ_13.1 0 35).toNatClampNeg) ≤ r_11 → fX12_fails N 6 (fun σ_16 => Q 0 σ_16) σ_13) ∧ (¬ (σ_13.1 9 (σ_13.1 0 35).toNatClampNeg) ≤ r_11 → vp_in ((8 * (σ_13.1 0 35)) + r_11) 320 ∧ Q (σ_13.1 10 ((8 * (σ_13.1 0 35)) + r_11).toNatClampNeg) σ_13))) σ_4) ∧ (¬ r_2 = 3 → ((r_2 = 0 → Q 0 σ_4) ∧ (¬ r_2 = 0 → fX12_fails N 6 (fun σ_9 => Q 0 σ_9) σ_4))))))))) σ
set_option maxHeartbeats 4000000 in
set_option maxRecDepth 100000 in
theorem bX12_value_e {p : Program} {e : Env} {s : State} {m : MethodId} {args : Array Value} {below : List Frame} {meth : Method} {c : Code} (l : Launch) (w : Wd) (N : Nat) (Q : Int32 → St → Prop) (E : Cx 38 w X2 cX12_value 3 RX12 (.code yX12_value cX12_value 3 (some .int)) (some .int) p s m args meth c) {σ : St} {H : Heap} {locs : List Loc} {ls : Array Slot} (hR : Rr 38 ev2 w σ s H locs) (hl : lv_has ls 3 [(0, .ref (w.2.1 0))]) (h : fX12_value N Q σ) : W p l e rmX12_value s m args below meth c H locs 0 0 (MQ below (va_Qi Q (Rp 38 ev2 w) (Aw 38 w)) args s 0 0 (Aw 38 w)) (F0 m 0 ls []) := by
  obtain ⟨hx, hb, hml, hown, hts, hr, hlk, hK, hI, hX⟩ := id E
  unfold fX12_value at h
  refine lv_aload_n (pc := 0) hx hb dX12_value_0 rfl (lv_at hl 0 rfl) ?_
  refine lv_aload_n (pc := 1) hx hb dX12_value_1 rfl (lv_at hl 0 rfl) ?_
  refine gf2_0_34 (pc := 2) hx hb hts hown hK hR mw297 dX12_value_2 ?_
  refine q_ci (pc := 5) hR (q_rV E (xp2 w) (As := [.long (σ.2 0 34)]) (rest := []) (cX12_read_met l w hI N (σ.2 0 34) _ σ h) ckX12_read cvX12_read mw272 ⟨rfl, rfl, Nat.le_of_ble_eq_true rfl, Nat.le_of_ble_eq_true rfl⟩ hR (rc2_0 w) rfl hl.1 rfl (Nat.le_of_ble_eq_true rfl) dX12_value_5) (fun r_2 σ_1 H locs h hR => ?_)
  refine lv_istore_n (pc := 8) (lv' := [(1, .int r_2), (0, .ref (w.2.1 0))]) hx hb dX12_value_8 rfl hl (by decide) rfl (fun ls hl => ?_)
  refine lv_aload_n (pc := 9) hx hb dX12_value_9 rfl (lv_at hl 1 rfl) ?_
  refine lv_dup (pc := 10) hx hb dX12_value_10 rfl ?_
  refine gf2_0_34 (pc := 11) hx hb hts hown hK hR mw297 dX12_value_11 ?_
  refine lv_lconst (pc := 14) (v := 1) hx hb dX12_value_14 (by decide) ?_
  refine lv_ladd (pc := 15) hx hb dX12_value_15 ?_
  refine lv_topl (pc := 16) (fun v_3 ev_3 => ?_)
  have h := h v_3 ev_3
  refine pf2_0_34 (pc := 16) hx hb hts hown hK hI hR mw297 dX12_value_16 (fun H locs σ_4 eσ_4 hR => ?_)
  have h := h σ_4 eσ_4
  refine lv_iload_n (pc := 19) hx hb dX12_value_19 rfl (lv_at hl 0 rfl) ?_
  refine lv_iconst (pc := 20) (v := 1) hx hb dX12_value_20 (by decide) ?_
  refine lv_icmp_ne (pc := 21) (tgt := 46) hx hb dX12_value_21 (by decide) (fun c_5 => ?_) (fun c_5 => ?_)
  · have h := h.2 c_5
    refine lv_iload_n (pc := 46) hx hb dX12_value_46 rfl (lv_at hl 0 rfl) ?_
    refine lv_iconst (pc := 47) (v := 2) hx hb dX12_value_47 (by decide) ?_
    refine lv_icmp_ne (pc := 48) (tgt := 76) hx hb dX12_value_48 (by decide) (fun c_6 => ?_) (fun c_6 => ?_)
    · have h := h.2 c_6
      refine lv_iload_n (pc := 76) hx hb dX12_value_76 rfl (lv_at hl 0 rfl) ?_
      refine lv_iconst (pc := 77) (v := 3) hx hb dX12_value_77 (by decide) ?_
      refine lv_icmp_ne (pc := 78) (tgt := 136) hx hb dX12_value_78 (by decide) (fun c_7 => ?_) (fun c_7 => ?_)
      · have h := h.2 c_7
        refine lv_iload_n (pc := 136) hx hb dX12_value_136 rfl (lv_at hl 0 rfl) ?_
        refine lv_if_eq (pc := 137) (tgt := 146) hx hb dX12_value_137 (by decide) (fun c_8 => ?_) (fun c_8 => ?_)
        · have h := h.1 c_8
          refine lv_iconst (pc := 146) (v := 0) hx hb dX12_value_146 (by decide) ?_
          exact q_iret (pc := 147) E hR h dX12_value_147
        · have h := h.2 c_8
          refine lv_aload_n (pc := 140) hx hb dX12_value_140 rfl (lv_at hl 1 rfl) ?_
          refine lv_bipush (pc := 141) (v := 6) hx hb dX12_value_141 (by decide) ?_
          refine q_cv (pc := 143) hR (q_rV E (xp2 w) (As := [.int 6]) (rest := []) (cX12_fails_met l w hI N 6 _ σ_4 h) ckX12_fails cvX12_fails mw271 ⟨rfl, rfl, Nat.le_of_ble_eq_true rfl, Nat.le_of_ble_eq_true rfl⟩ hR (rc2_0 w) rfl hl.1 rfl (Nat.le_of_ble_eq_true rfl) dX12_value_143) (fun σ_9 H locs h hR => ?_)
          refine lv_iconst (pc := 146) (v := 0) hx hb dX12_value_146 (by decide) ?_
          exact q_iret (pc := 147) E hR h dX12_value_147
      · have h := h.1 c_7
        refine lv_aload_n (pc := 81) hx hb dX12_value_81 rfl (lv_at hl 1 rfl) ?_
        refine lv_aload_n (pc := 82) hx hb dX12_value_82 rfl (lv_at hl 1 rfl) ?_
        refine gf2_0_34 (pc := 83) hx hb hts hown hK hR mw297 dX12_value_83 ?_
        refine q_ci (pc := 86) hR (q_rV E (xp2 w) (As := [.long (σ_4.2 0 34)]) (rest := []) (cX12_read_met l w hI N (σ_4.2 0 34) _ σ_4 h) ckX12_read cvX12_read mw272 ⟨rfl, rfl, Nat.le_of_ble_eq_true rfl, Nat.le_of_ble_eq_true rfl⟩ hR (rc2_0 w) rfl hl.1 rfl (Nat.le_of_ble_eq_true rfl) dX12_value_86) (fun r_11 σ_10 H locs h hR => ?_)
        refine lv_istore_n (pc := 89) (lv' := [(2, .int r_11), (1, .int r_2), (0, .ref (w.2.1 0))]) hx hb dX12_value_89 rfl hl (by decide) rfl (fun ls hl => ?_)
        refine lv_aload_n (pc := 90) hx hb dX12_value_90 rfl (lv_at hl 2 rfl) ?_
        refine lv_dup (pc := 91) hx hb dX12_value_91 rfl ?_
        refine gf2_0_34 (pc := 92) hx hb hts hown hK hR mw297 dX12_value_92 ?_
        refine lv_lconst (pc := 95) (v := 1) hx hb dX12_value_95 (by decide) ?_
        refine lv_ladd (pc := 96) hx hb dX12_value_96 ?_
        refine lv_topl (pc := 97) (fun v_12 ev_12 => ?_)
        have h := h v_12 ev_12
        refine pf2_0_34 (pc := 97) hx hb hts hown hK hI hR mw297 dX12_value_97 (fun H locs σ_13 eσ_13 hR => ?_)
        have h := h σ_13 eσ_13
        refine lv_iload_n (pc := 100) hx hb dX12_value_100 rfl (lv_at hl 0 rfl) ?_
        refine lv_aload_n (pc := 101) hx hb dX12_value_101 rfl (lv_at hl 2 rfl) ?_
        refine gf2_0_18 (pc := 102) hx hb hts hown hK hR mw290 dX12_value_102 ?_
        refine lv_aload_n (pc := 105) hx hb dX12_value_105 rfl (lv_at hl 2 rfl) ?_
        refine gf2_0_35 (pc := 106) hx hb hts hown hK hR mw298 dX12_value_106 ?_
        have g_14 := h.1
        have h := h.2
        refine q_iald (pc := 109) hx hb hK hR (k := 9) lt2_9 (ar2_9 _ _ _) g_14 dX12_value_109 ?_
        refine lv_icmp_ge (pc := 110) (tgt := 128) hx hb dX12_value_110 (by decide) (fun c_15 => ?_) (fun c_15 => ?_)
        · have h := h.1 c_15
          refine lv_aload_n (pc := 128) hx hb dX12_value_128 rfl (lv_at hl 2 rfl) ?_
          refine lv_bipush (pc := 129) (v := 6) hx hb dX12_value_129 (by decide) ?_
          refine q_cv (pc := 131) hR (q_rV E (xp2 w) (As := [.int 6]) (rest := []) (cX12_fails_met l w hI N 6 _ σ_13 h) ckX12_fails cvX12_fails mw271 ⟨rfl, rfl, Nat.le_of_ble_eq_true rfl, Nat.le_of_ble_eq_true rfl⟩ hR (rc2_0 w) rfl hl.1 rfl (Nat.le_of_ble_eq_true rfl) dX12_value_131) (fun σ_16 H locs h hR => ?_)
          refine lv_iconst (pc := 134) (v := 0) hx hb dX12_value_134 (by decide) ?_
          exact q_iret (pc := 135) E hR h dX12_value_135
        · have h := h.2 c_15
          refine lv_aload_n (pc := 113) hx hb dX12_value_113 rfl (lv_at hl 2 rfl) ?_
          refine gf2_0_19 (pc := 114) hx hb hts hown hK hR mw299 dX12_value_114 ?_
          refine lv_bipush (pc := 117) (v := 8) hx hb dX12_value_117 (by decide) ?_
          refine lv_aload_n (pc := 119) hx hb dX12_value_119 rfl (lv_at hl 2 rfl) ?_
          refine gf2_0_35 (pc := 120) hx hb hts hown hK hR mw298 dX12_value_120 ?_
          refine lv_imul (pc := 123) hx hb dX12_value_123 ?_
          refine lv_iload_n (pc := 124) hx hb dX12_value_124 rfl (lv_at hl 0 rfl) ?_
          refine lv_iadd (pc := 125) hx hb dX12_value_125 ?_
          have g_17 := h.1
          have h := h.2
          refine q_iald (pc := 126) hx hb hK hR (k := 10) lt2_10 (ar2_10 _ _ _) g_17 dX12_value_126 ?_
          exact q_iret (pc := 127) E hR h dX12_value_127
    · have h := h.1 c_6
      refine lv_aload_n (pc := 51) hx hb dX12_value_51 rfl (lv_at hl 1 rfl) ?_
      refine lv_dup (pc := 52) hx hb dX12_value_52 rfl ?_
      refine gf2_0_34 (pc := 53) hx hb hts hown hK hR mw297 dX12_value_53 ?_
      refine lv_ldc2 (pc := 56) (v := 4) hx hb hown (hts _ (Uin mw276)) dX12_value_56 ?_
      refine lv_ladd (pc := 59) hx hb dX12_value_59 ?_
      refine lv_topl (pc := 60) (fun v_18 ev_18 => ?_)
      have h := h v_18 ev_18
      refine pf2_0_34 (pc := 60) hx hb hts hown hK hI hR mw297 dX12_value_60 (fun H locs σ_19 eσ_19 hR => ?_)
      have h := h σ_19 eσ_19
      refine lv_aload_n (pc := 63) hx hb dX12_value_63 rfl (lv_at hl 1 rfl) ?_
      refine lv_aload_n (pc := 64) hx hb dX12_value_64 rfl (lv_at hl 1 rfl) ?_
      refine gf2_0_34 (pc := 65) hx hb hts hown hK hR mw297 dX12_value_65 ?_
      refine lv_ldc2 (pc := 68) (v := 4) hx hb hown (hts _ (Uin mw276)) dX12_value_68 ?_
      refine lv_lsub (pc := 71) hx hb dX12_value_71 ?_
      refine q_ci (pc := 72) hR (q_rV E (xp2 w) (As := [.long ((σ_19.2 0 34) - 4)]) (rest := []) (cX12_four_met l w hI N ((σ_19.2 0 34) - 4) _ σ_19 h) ckX12_four cvX12_four mw275 ⟨rfl, rfl, Nat.le_of_ble_eq_true rfl, Nat.le_of_ble_eq_true rfl⟩ hR (rc2_0 w) rfl hl.1 rfl (Nat.le_of_ble_eq_true rfl) dX12_value_72) (fun r_21 σ_20 H locs h hR => ?_)
      exact q_iret (pc := 75) E hR h dX12_value_75
  · have h := h.1 c_5
    refine lv_aload_n (pc := 24) hx hb dX12_value_24 rfl (lv_at hl 1 rfl) ?_
    refine lv_dup (pc := 25) hx hb dX12_value_25 rfl ?_
    refine gf2_0_34 (pc := 26) hx hb hts hown hK hR mw297 dX12_value_26 ?_
    refine lv_lconst (pc := 29) (v := 1) hx hb dX12_value_29 (by decide) ?_
    refine lv_ladd (pc := 30) hx hb dX12_value_30 ?_
    refine lv_topl (pc := 31) (fun v_22 ev_22 => ?_)
    have h := h v_22 ev_22
    refine pf2_0_34 (pc := 31) hx hb hts hown hK hI hR mw297 dX12_value_31 (fun H locs σ_23 eσ_23 hR => ?_)
    have h := h σ_23 eσ_23
    refine lv_aload_n (pc := 34) hx hb dX12_value_34 rfl (lv_at hl 1 rfl) ?_
    refine lv_aload_n (pc := 35) hx hb dX12_value_35 rfl (lv_at hl 1 rfl) ?_
    refine gf2_0_34 (pc := 36) hx hb hts hown hK hR mw297 dX12_value_36 ?_
    refine lv_lconst (pc := 39) (v := 1) hx hb dX12_value_39 (by decide) ?_
    refine lv_lsub (pc := 40) hx hb dX12_value_40 ?_
    refine q_ci (pc := 41) hR (q_rV E (xp2 w) (As := [.long ((σ_23.2 0 34) - 1)]) (rest := []) (cX12_read_met l w hI N ((σ_23.2 0 34) - 1) _ σ_23 h) ckX12_read cvX12_read mw272 ⟨rfl, rfl, Nat.le_of_ble_eq_true rfl, Nat.le_of_ble_eq_true rfl⟩ hR (rc2_0 w) rfl hl.1 rfl (Nat.le_of_ble_eq_true rfl) dX12_value_41) (fun r_25 σ_24 H locs h hR => ?_)
    refine lv_i2b (pc := 44) (v := r_25.toInt8.toInt32) hx hb dX12_value_44 rfl ?_
    exact q_iret (pc := 45) E hR h dX12_value_45
theorem cX12_value_met (l : Launch) (w : Wd) (hI : Ij 38 w) (N : Nat) (Q : Int32 → St → Prop) (σ : St) (h : fX12_value N Q σ) : Met l yX12_value (.code yX12_value cX12_value 3 (some .int) :: Uw) rmX12_value (va_Pc [.ref (w.2.1 0)] (fun U => Rp 38 ev2 w σ U ∧ X2 U)) (va_Qi Q (Rp 38 ev2 w) (Aw 38 w)) 0 0 (Aw 38 w) :=
  q_met (by decide) (Nat.le_of_ble_eq_true rfl) hI (fun p e s m below meth c ls E hl hR => bX12_value_e l w N Q E hR hl h)
