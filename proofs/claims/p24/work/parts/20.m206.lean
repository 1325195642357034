-- GlulxStringsModel.sign(I)I
abbrev rmX12_sign : Room := { frames := 0, cells := 0, slots := 0, locals := 0 }
def fX12_sign (N : Nat) (x1 : Int32) (Q : Int32 → St → Prop) (σ : St) : Prop := (((σ.1 0 5) = 120 → Q (-4) σ) ∧ (¬ (σ.1 0 5) = 120 → vp_in (σ.1 0 5) 120 ∧ ∀ σ_3 : St, σ_3 = u1 σ 3 (σ.1 0 5).toNatClampNeg x1 → ∀ v_4 : Int32, v_4 = (σ_3.1 0 5) + 1 → ∀ σ_5 : St, σ_5 = u1 σ_3 0 5 v_4 → Q (σ_5.1 0 5) σ_5))
set_option maxHeartbeats 4000000 in
set_option maxRecDepth 100000 in
theorem bX12_sign_e {p : Program} {e : Env} {s : State} {m : MethodId} {args : Array Value} {below : List Frame} {meth : Method} {c : Code} (l : Launch) (w : Wd) (N : Nat) (Q : Int32 → St → Prop) (E : Cx 38 w X2 cX12_sign 2 RX12 (.code yX12_sign cX12_sign 2 (some .int)) (some .int) p s m args meth c) (x1 : Int32) {σ : St} {H : Heap} {locs : List Loc} {ls : Array Slot} (hR : Rr 38 ev2 w σ s H locs) (hl : lv_has ls 2 [(0, .ref (w.2.1 0)), (1, .int x1)]) (h : fX12_sign N x1 Q σ) : W p l e rmX12_sign s m args below meth c H locs 0 0 (MQ below (va_Qi Q (Rp 38 ev2 w) (Aw 38 w)) args s 0 0 (Aw 38 w)) (F0 m 0 ls []) := by
  obtain ⟨hx, hb, hml, hown, hts, hr, hlk, hK, hI, hX⟩ := id E
  unfold fX12_sign at h
  refine lv_aload_n (pc := 0) hx hb dX12_sign_0 rfl (lv_at hl 0 rfl) ?_
  refine gf2_0_5 (pc := 1) hx hb hts hown hK hR mw328 dX12_sign_1 ?_
  refine lv_bipush (pc := 4) (v := 120) hx hb dX12_sign_4 (by decide) ?_
  refine lv_icmp_ne (pc := 6) (tgt := 12) hx hb dX12_sign_6 (by decide) (fun c_1 => ?_) (fun c_1 => ?_)
  · have h := h.2 c_1
    refine lv_aload_n (pc := 12) hx hb dX12_sign_12 rfl (lv_at hl 0 rfl) ?_
    refine gf2_0_4 (pc := 13) hx hb hts hown hK hR mw329 dX12_sign_13 ?_
    refine lv_aload_n (pc := 16) hx hb dX12_sign_16 rfl (lv_at hl 0 rfl) ?_
    refine gf2_0_5 (pc := 17) hx hb hts hown hK hR mw328 dX12_sign_17 ?_
    refine lv_iload_n (pc := 20) hx hb dX12_sign_20 rfl (lv_at hl 1 rfl) ?_
    have g_2 := h.1
    have h := h.2
    refine q_iast (pc := 21) hx hb hK hI hR (k := 3) lt2_3 (fun f => (ar2_3 _ f _)) g_2 dX12_sign_21 (fun H locs σ_3 eσ_3 hR => ?_)
    have h := h σ_3 eσ_3
    refine lv_aload_n (pc := 22) hx hb dX12_sign_22 rfl (lv_at hl 0 rfl) ?_
    refine lv_dup (pc := 23) hx hb dX12_sign_23 rfl ?_
    refine gf2_0_5 (pc := 24) hx hb hts hown hK hR mw328 dX12_sign_24 ?_
    refine lv_iconst (pc := 27) (v := 1) hx hb dX12_sign_27 (by decide) ?_
    refine lv_iadd (pc := 28) hx hb dX12_sign_28 ?_
    refine lv_topi (pc := 29) (fun v_4 ev_4 => ?_)
    have h := h v_4 ev_4
    refine pf2_0_5 (pc := 29) hx hb hts hown hK hI hR mw328 dX12_sign_29 (fun H locs σ_5 eσ_5 hR => ?_)
    have h := h σ_5 eσ_5
    refine lv_aload_n (pc := 32) hx hb dX12_sign_32 rfl (lv_at hl 0 rfl) ?_
    refine gf2_0_5 (pc := 33) hx hb hts hown hK hR mw328 dX12_sign_33 ?_
    exact q_iret (pc := 36) E hR h dX12_sign_36
  · have h := h.1 c_1
    refine lv_bipush (pc := 9) (v := (-4)) hx hb dX12_sign_9 (by decide) ?_
    exact q_iret (pc := 11) E hR h dX12_sign_11
theorem cX12_sign_met (l : Launch) (w : Wd) (hI : Ij 38 w) (N : Nat) (x1 : Int32) (Q : Int32 → St → Prop) (σ : St) (h : fX12_sign N x1 Q σ) : Met l yX12_sign (.code yX12_sign cX12_sign 2 (some .int) :: Uw) rmX12_sign (va_Pc [.ref (w.2.1 0), .int x1] (fun U => Rp 38 ev2 w σ U ∧ X2 U)) (va_Qi Q (Rp 38 ev2 w) (Aw 38 w)) 0 0 (Aw 38 w) :=
  q_met (by decide) (Nat.le_of_ble_eq_true rfl) hI (fun p e s m below meth c ls E hl hR => bX12_sign_e l w N Q E x1 hR hl h)
-- GlulxStringsModel.piece(I)I
abbrev rmX12_piece : Room := { frames := 1, cells := 0, slots := 0, locals := 25 }
def fX12_piece_l193 (N : Nat) (x2 : Int32) (Q : Int32 → St → Prop) (r193 : Int32 → St → Prop) (x4 : Int32) (σ : St) : Prop := ((x2 ≤ x4 → ∀ v_15 : Int32, v_15 = (σ.1 0 36) + 1 → ∀ σ_16 : St, σ_16 = u1 σ 0 36 v_15 → Q ((σ_16.1 0 36) - 1) σ_16) ∧ (¬ x2 ≤ x4 → vp_in x4 120 ∧ ∀ v_18 : Int32, v_18 = σ.1 3 x4.toNatClampNeg → vp_in ((20 * (σ.1 0 36)) + x4) 1200 ∧ ∀ σ_20 : St, σ_20 = u1 σ 17 ((20 * (σ.1 0 36)) + x4).toNatClampNeg v_18 → ∀ v_21 : Int32, v_21 = x4 + 1 → r193 v_21 σ_20))
set_option maxHeartbeats 4000000 in
set_option maxRecDepth 100000 in
theorem bX12_piece_193 {p : Program} {e : Env} {s : State} {m : MethodId} {args : Array Value} {below : List Frame} {meth : Method} {c : Code} (l : Launch) (w : Wd) (N : Nat) (Q : Int32 → St → Prop) (E : Cx 38 w X2 cX12_piece 5 RX12 (.code yX12_piece cX12_piece 5 (some .int)) (some .int) p s m args meth c) (x2 : Int32) : ∀ (n : Nat) (x4 : Int32) (σ : St) (H : Heap) (locs : List Loc) (ls : Array Slot), Rr 38 ev2 w σ s H locs → lv_has ls 5 [(0, .ref (w.2.1 0)), (2, .int x2), (4, .int x4)] → lo1 (fX12_piece_l193 N x2 Q) n x4 σ → W p l e rmX12_piece s m args below meth c H locs 0 0 (MQ below (va_Qi Q (Rp 38 ev2 w) (Aw 38 w)) args s 0 0 (Aw 38 w)) (F0 m 193 ls []) := by
  obtain ⟨hx, hb, hml, hown, hts, hr, hlk, hK, hI, hX⟩ := id E
  intro n
  induction n with
  | zero => intro x4 σ H locs ls hR hl h; exact h.elim
  | succ n ih =>
    intro x4 σ H locs ls hR hl h
    have h : fX12_piece_l193 N x2 Q (lo1 (fX12_piece_l193 N x2 Q) n) x4 σ := h
    unfold fX12_piece_l193 at h
    refine lv_iload (pc := 193) hx hb dX12_piece_193 (lv_at hl 2 rfl) ?_
    refine lv_iload_n (pc := 195) hx hb dX12_piece_195 rfl (lv_at hl 1 rfl) ?_
    refine lv_icmp_ge (pc := 196) (tgt := 227) hx hb dX12_piece_196 (by decide) (fun c_14 => ?_) (fun c_14 => ?_)
    · have h := h.1 c_14
      refine lv_aload_n (pc := 227) hx hb dX12_piece_227 rfl (lv_at hl 0 rfl) ?_
      refine lv_dup (pc := 228) hx hb dX12_piece_228 rfl ?_
      refine gf2_0_36 (pc := 229) hx hb hts hown hK hR mw330 dX12_piece_229 ?_
      refine lv_iconst (pc := 232) (v := 1) hx hb dX12_piece_232 (by decide) ?_
      refine lv_iadd (pc := 233) hx hb dX12_piece_233 ?_
      refine lv_topi (pc := 234) (fun v_15 ev_15 => ?_)
      have h := h v_15 ev_15
      refine pf2_0_36 (pc := 234) hx hb hts hown hK hI hR mw330 dX12_piece_234 (fun H locs σ_16 eσ_16 hR => ?_)
      have h := h σ_16 eσ_16
      refine lv_aload_n (pc := 237) hx hb dX12_piece_237 rfl (lv_at hl 0 rfl) ?_
      refine gf2_0_36 (pc := 238) hx hb hts hown hK hR mw330 dX12_piece_238 ?_
      refine lv_iconst (pc := 241) (v := 1) hx hb dX12_piece_241 (by decide) ?_
      refine lv_isub (pc := 242) hx hb dX12_piece_242 ?_
      exact q_iret (pc := 243) E hR h dX12_piece_243
    · have h := h.2 c_14
      refine lv_aload_n (pc := 199) hx hb dX12_piece_199 rfl (lv_at hl 0 rfl) ?_
      refine gf2_0_38 (pc := 200) hx hb hts hown hK hR mw335 dX12_piece_200 ?_
      refine lv_bipush (pc := 203) (v := 20) hx hb dX12_piece_203 (by decide) ?_
      refine lv_aload_n (pc := 205) hx hb dX12_piece_205 rfl (lv_at hl 0 rfl) ?_
      refine gf2_0_36 (pc := 206) hx hb hts hown hK hR mw330 dX12_piece_206 ?_
      refine lv_imul (pc := 209) hx hb dX12_piece_209 ?_
      refine lv_iload (pc := 210) hx hb dX12_piece_210 (lv_at hl 2 rfl) ?_
      refine lv_iadd (pc := 212) hx hb dX12_piece_212 ?_
      refine lv_aload_n (pc := 213) hx hb dX12_piece_213 rfl (lv_at hl 0 rfl) ?_
      refine gf2_0_4 (pc := 214) hx hb hts hown hK hR mw329 dX12_piece_214 ?_
      refine lv_iload (pc := 217) hx hb dX12_piece_217 (lv_at hl 2 rfl) ?_
      have g_17 := h.1
      have h := h.2
      refine q_iald (pc := 219) hx hb hK hR (k := 3) lt2_3 (ar2_3 _ _ _) g_17 dX12_piece_219 ?_
      refine lv_topi (pc := 220) (fun v_18 ev_18 => ?_)
      have h := h v_18 ev_18
      have g_19 := h.1
      have h := h.2
      refine q_iast (pc := 220) hx hb hK hI hR (k := 17) lt2_17 (fun f => (ar2_17 _ f _)) g_19 dX12_piece_220 (fun H locs σ_20 eσ_20 hR => ?_)
      have h := h σ_20 eσ_20
      obtain ⟨v_21, ev_21⟩ : ∃ z : Int32, z = x4 + 1 := ⟨_, rfl⟩
      have h := h v_21 ev_21
      refine lv_iinc (pc := 221) (v := v_21) (lv' := [(4, .int v_21), (0, .ref (w.2.1 0)), (2, .int x2)]) hx hb dX12_piece_221 hl (k := 2) rfl (by rw [ev_21]; rfl) (by decide) rfl (fun ls hl => ?_)
      refine lv_goto (pc := 224) (tgt := 193) hx hb dX12_piece_224 (by decide) ?_
      exact ih v_21 σ_20 _ _ _ hR (lv_sub hl [1, 2, 0] rfl) h
def fX12_piece_j134 (N : Nat) (r78 : Int32 → Int32 → St → Prop) (x1 : Int32) (x2 : Int32) (x4 : Int32) (t0 : Int32) (Q : Int32 → St → Prop) (σ : St) : Prop := ∀ v_15 : Int32, v_15 = x4 + 1 → r78 t0 v_15 σ
set_option maxHeartbeats 4000000 in
set_option maxRecDepth 100000 in
theorem bX12_piece_134 {p : Program} {e : Env} {s : State} {m : MethodId} {args : Array Value} {below : List Frame} {meth : Method} {c : Code} (l : Launch) (w : Wd) (N : Nat) (Q : Int32 → St → Prop) (E : Cx 38 w X2 cX12_piece 5 RX12 (.code yX12_piece cX12_piece 5 (some .int)) (some .int) p s m args meth c) (x1 : Int32) (x2 : Int32) (x4 : Int32) (t0 : Int32) (r78 : Int32 → Int32 → St → Prop) (hr78 : ∀ (x3 : Int32) (x4 : Int32) (σ : St) (H : Heap) (locs : List Loc) (ls : Array Slot), Rr 38 ev2 w σ s H locs → lv_has ls 5 [(0, .ref (w.2.1 0)), (1, .int x1), (2, .int x2), (3, .int x3), (4, .int x4)] → r78 x3 x4 σ → W p l e rmX12_piece s m args below meth c H locs 0 0 (MQ below (va_Qi Q (Rp 38 ev2 w) (Aw 38 w)) args s 0 0 (Aw 38 w)) (F0 m 78 ls [])) {σ : St} {H : Heap} {locs : List Loc} {ls : Array Slot} (hR : Rr 38 ev2 w σ s H locs) (hl : lv_has ls 5 [(0, .ref (w.2.1 0)), (1, .int x1), (2, .int x2), (4, .int x4)]) (h : fX12_piece_j134 N r78 x1 x2 x4 t0 Q σ) : W p l e rmX12_piece s m args below meth c H locs 0 0 (MQ below (va_Qi Q (Rp 38 ev2 w) (Aw 38 w)) args s 0 0 (Aw 38 w)) (F0 m 134 ls [.int t0]) := by
  obtain ⟨hx, hb, hml, hown, hts, hr, hlk, hK, hI, hX⟩ := id E
  unfold fX12_piece_j134 at h
  refine lv_istore_n (pc := 134) (lv' := [(3, .int t0), (0, .ref (w.2.1 0)), (1, .int x1), (2, .int x2), (4, .int x4)]) hx hb dX12_piece_134 rfl hl (by decide) rfl (fun ls hl => ?_)
  obtain ⟨v_15, ev_15⟩ : ∃ z : Int32, z = x4 + 1 := ⟨_, rfl⟩
  have h := h v_15 ev_15
  refine lv_iinc (pc := 135) (v := v_15) (lv' := [(4, .int v_15), (3, .int t0), (0, .ref (w.2.1 0)), (1, .int x1), (2, .int x2)]) hx hb dX12_piece_135 hl (k := 4) rfl (by rw [ev_15]; rfl) (by decide) rfl (fun ls hl => ?_)
  refine lv_goto (pc := 138) (tgt := 78) hx hb dX12_piece_138 (by decide) ?_
  exact hr78 t0 v_15 σ _ _ _ hR (lv_sub hl [2, 3, 4, 1, 0] rfl) h
def fX12_piece_j133 (N : Nat) (r78 : Int32 → Int32 → St → Prop) (x1 : Int32) (x2 : Int32) (x4 : Int32) (Q : Int32 → St → Prop) (σ : St) : Prop := fX12_piece_j134 N r78 x1 x2 x4 0 Q σ
set_option maxHeartbeats 4000000 in
set_option maxRecDepth 100000 in
theorem bX12_piece_133 {p : Program} {e : Env} {s : State} {m : MethodId} {args : Array Value} {below : List Frame} {meth : Method} {c : Code} (l : Launch) (w : Wd) (N : Nat) (Q : Int32 → St → Prop) (E : Cx 38 w X2 cX12_piece 5 RX12 (.code yX12_piece cX12_piece 5 (some .int)) (some .int) p s m args meth c) (x1 : Int32) (x2 : Int32) (x4 : Int32) (r78 : Int32 → Int32 → St → Prop) (hr78 : ∀ (x3 : Int32) (x4 : Int32) (σ : St) (H : Heap) (locs : List Loc) (ls : Array Slot), Rr 38 ev2 w σ s H locs → lv_has ls 5 [(0, .ref (w.2.1 0)), (1, .int x1), (2, .int x2), (3, .int x3), (4, .int x4)] → r78 x3 x4 σ → W p l e rmX12_piece s m args below meth c H locs 0 0 (MQ below (va_Qi Q (Rp 38 ev2 w) (Aw 38 w)) args s 0 0 (Aw 38 w)) (F0 m 78 ls [])) {σ : St} {H : Heap} {locs : List Loc} {ls : Array Slot} (hR : Rr 38 ev2 w σ s H locs) (hl : lv_has ls 5 [(0, .ref (w.2.1 0)), (1, .int x1), (2, .int x2), (4, .int x4)]) (h : fX12_piece_j133 N r78 x1 x2 x4 Q σ) : W p l e rmX12_piece s m args below meth c H locs 0 0 (MQ below (va_Qi Q (Rp 38 ev2 w) (Aw 38 w)) args s 0 0 (Aw 38 w)) (F0 m 133 ls []) := by
  obtain ⟨hx, hb, hml, hown, hts, hr, hlk, hK, hI, hX⟩ := id E
  unfold fX12_piece_j133 at h
  refine lv_iconst (pc := 133) (v := 0) hx hb dX12_piece_133 (by decide) ?_
  exact bX12_piece_134 l w N Q E x1 x2 x4 0 r78 hr78 hR (lv_sub hl [0, 1, 2, 3] rfl) h
def fX12_piece_j129 (N : Nat) (r78 : Int32 → Int32 → St → Prop) (x1 : Int32) (x2 : Int32) (x4 : Int32) (Q : Int32 → St → Prop) (σ : St) : Prop := fX12_piece_j134 N r78 x1 x2 x4 1 Q σ
set_option maxHeartbeats 4000000 in
set_option maxRecDepth 100000 in
theorem bX12_piece_129 {p : Program} {e : Env} {s : State} {m : MethodId} {args : Array Value} {below : List Frame} {meth : Method} {c : Code} (l : Launch) (w : Wd) (N : Nat) (Q : Int32 → St → Prop) (E : Cx 38 w X2 cX12_piece 5 RX12 (.code yX12_piece cX12_piece 5 (some .int)) (some .int) p s m args meth c) (x1 : Int32) (x2 : Int32) (x4 : Int32) (r78 : Int32 → Int32 → St → Prop) (hr78 : ∀ (x3 : Int32) (x4 : Int32) (σ : St) (H : Heap) (locs : List Loc) (ls : Array Slot), Rr 38 ev2 w σ s H locs → lv_has ls 5 [(0, .ref (w.2.1 0)), (1, .int x1), (2, .int x2), (3, .int x3), (4, .int x4)] → r78 x3 x4 σ → W p l e rmX12_piece s m args below meth c H locs 0 0 (MQ below (va_Qi Q (Rp 38 ev2 w) (Aw 38 w)) args s 0 0 (Aw 38 w)) (F0 m 78 ls [])) {σ : St} {H : Heap} {locs : List Loc} {ls : Array Slot} (hR : Rr 38 ev2 w σ s H locs) (hl : lv_has ls 5 [(0, .ref (w.2.1 0)), (1, .int x1), (2, .int x2), (4, .int x4)]) (h : fX12_piece_j129 N r78 x1 x2 x4 Q σ) : W p l e rmX12_piece s m args below meth c H locs 0 0 (MQ below (va_Qi Q (Rp 38 ev2 w) (Aw 38 w)) args s 0 0 (Aw 38 w)) (F0 m 129 ls []) := by
  obtain ⟨hx, hb, hml, hown, hts, hr, hlk, hK, hI, hX⟩ := id E
  unfold fX12_piece_j129 at h
  refine lv_iconst (pc := 129) (v := 1) hx hb dX12_piece_129 (by decide) ?_
  refine lv_goto (pc := 130) (tgt := 134) hx hb dX12_piece_130 (by decide) ?_
  exact bX12_piece_134 l w N Q E x1 x2 x4 1 r78 hr78 hR (lv_sub hl [0, 1, 2, 3] rfl) h
def fX12_piece_l78 (N : Nat) (x1 : Int32) (x2 : Int32) (Q : Int32 → St → Prop) (r78 : Int32 → Int32 → St → Prop) (x3 : Int32) (x4 : Int32) (σ : St) : Prop := ((x2 ≤ x4 → ((x3 = 0 → Q (-2) σ) ∧ (¬ x3 = 0 → (((σ.1 0 36) = 60 → Q (-4) σ) ∧ (¬ (σ.1 0 36) = 60 → vp_in (σ.1 0 36) 60 ∧ ∀ σ_9 : St, σ_9 = u1 σ 16 (σ.1 0 36).toNatClampNeg x1 → vp_in (σ_9.1 0 36) 60 ∧ ∀ σ_11 : St, σ_11 = u1 σ_9 18 (σ_9.1 0 36).toNatClampNeg x2 → vp_in (σ_11.1 0 36) 60 ∧ ∀ σ_13 : St, σ_13 = u1 σ_11 19 (σ_11.1 0 36).toNatClampNeg (-1) → lo1 (fX12_piece_l193 N x2 Q) N 0 σ_13))))) ∧ (¬ x2 ≤ x4 → ((x3 = 0 → fX12_piece_j133 N r78 x1 x2 x4 Q σ) ∧ (¬ x3 = 0 → ((3 < x1 → ((5 < x1 → fX12_piece_j129 N r78 x1 x2 x4 Q σ) ∧ (¬ 5 < x1 → vp_in x4 120 ∧ (((σ.1 3 x4.toNatClampNeg) = 0 → fX12_piece_j133 N r78 x1 x2 x4 Q σ) ∧ (¬ (σ.1 3 x4.toNatClampNeg) = 0 → fX12_piece_j129 N r78 x1 x2 x4 Q σ))))) ∧ (¬ 3 < x1 → vp_in x4 120 ∧ fX12_in N ((σ.1 3 x4.toNatClampNeg).toInt64) 1 255 (fun r_21 σ_20 => ((r_21 = 0 → fX12_piece_j133 N r78 x1 x2 x4 Q σ_20) ∧ (¬ r_21 = 0 → fX12_piece_j129 N r78 x1 x2 x4 Q σ_20))) σ))))))
set_option maxHeartbeats 4000000 in
set_option maxRecDepth 100000 in
theorem bX12_piece_78 {p : Program} {e : Env} {s : State} {m : MethodId} {args : Array Value} {below : List Frame} {meth : Method} {c : Code} (l : Launch) (w : Wd) (N : Nat) (Q : Int32 → St → Prop) (E : Cx 38 w X2 cX12_piece 5 RX12 (.code yX12_piece cX12_piece 5 (some .int)) (some .int) p s m args meth c) (x1 : Int32) (x2 : Int32) : ∀ (n : Nat) (x3 : Int32) (x4 : Int32) (σ : St) (H : Heap) (locs : List Loc) (ls : Array Slot), Rr 38 ev2 w σ s H locs → lv_has ls 5 [(0, .ref (w.2.1 0)), (1, .int x1), (2, .int x2), (3, .int x3), (4, .int x4)] → lo2 (fX12_piece_l78 N x1 x2 Q) n x3 x4 σ → W p l e rmX12_piece s m args below meth c H locs 0 0 (MQ below (va_Qi Q (Rp 38 ev2 w) (Aw 38 w)) args s 0 0 (Aw 38 w)) (F0 m 78 ls []) := by
  obtain ⟨hx, hb, hml, hown, hts, hr, hlk, hK, hI, hX⟩ := id E
  intro n
  induction n with
  | zero => intro x3 x4 σ H locs ls hR hl h; exact h.elim
  | succ n ih =>
    intro x3 x4 σ H locs ls hR hl h
    have h : fX12_piece_l78 N x1 x2 Q (lo2 (fX12_piece_l78 N x1 x2 Q) n) x3 x4 σ := h
    unfold fX12_piece_l78 at h
    refine lv_iload (pc := 78) hx hb dX12_piece_78 (lv_at hl 4 rfl) ?_
    refine lv_iload_n (pc := 80) hx hb dX12_piece_80 rfl (lv_at hl 2 rfl) ?_
    refine lv_icmp_ge (pc := 81) (tgt := 141) hx hb dX12_piece_81 (by decide) (fun c_5 => ?_) (fun c_5 => ?_)
    · have h := h.1 c_5
      refine lv_iload_n (pc := 141) hx hb dX12_piece_141 rfl (lv_at hl 3 rfl) ?_
      refine lv_if_ne (pc := 142) (tgt := 148) hx hb dX12_piece_142 (by decide) (fun c_6 => ?_) (fun c_6 => ?_)
      · have h := h.2 c_6
        refine lv_aload_n (pc := 148) hx hb dX12_piece_148 rfl (lv_at hl 0 rfl) ?_
        refine gf2_0_36 (pc := 149) hx hb hts hown hK hR mw330 dX12_piece_149 ?_
        refine lv_bipush (pc := 152) (v := 60) hx hb dX12_piece_152 (by decide) ?_
        refine lv_icmp_ne (pc := 154) (tgt := 160) hx hb dX12_piece_154 (by decide) (fun c_7 => ?_) (fun c_7 => ?_)
        · have h := h.2 c_7
          refine lv_aload_n (pc := 160) hx hb dX12_piece_160 rfl (lv_at hl 0 rfl) ?_
          refine gf2_0_37 (pc := 161) hx hb hts hown hK hR mw332 dX12_piece_161 ?_
          refine lv_aload_n (pc := 164) hx hb dX12_piece_164 rfl (lv_at hl 0 rfl) ?_
          refine gf2_0_36 (pc := 165) hx hb hts hown hK hR mw330 dX12_piece_165 ?_
          refine lv_iload_n (pc := 168) hx hb dX12_piece_168 rfl (lv_at hl 1 rfl) ?_
          have g_8 := h.1
          have h := h.2
          refine q_iast (pc := 169) hx hb hK hI hR (k := 16) lt2_16 (fun f => (ar2_16 _ f _)) g_8 dX12_piece_169 (fun H locs σ_9 eσ_9 hR => ?_)
          have h := h σ_9 eσ_9
          refine lv_aload_n (pc := 170) hx hb dX12_piece_170 rfl (lv_at hl 0 rfl) ?_
          refine gf2_0_39 (pc := 171) hx hb hts hown hK hR mw333 dX12_piece_171 ?_
          refine lv_aload_n (pc := 174) hx hb dX12_piece_174 rfl (lv_at hl 0 rfl) ?_
          refine gf2_0_36 (pc := 175) hx hb hts hown hK hR mw330 dX12_piece_175 ?_
          refine lv_iload_n (pc := 178) hx hb dX12_piece_178 rfl (lv_at hl 2 rfl) ?_
          have g_10 := h.1
          have h := h.2
          refine q_iast (pc := 179) hx hb hK hI hR (k := 18) lt2_18 (fun f => (ar2_18 _ f _)) g_10 dX12_piece_179 (fun H locs σ_11 eσ_11 hR => ?_)
          have h := h σ_11 eσ_11
          refine lv_aload_n (pc := 180) hx hb dX12_piece_180 rfl (lv_at hl 0 rfl) ?_
          refine gf2_0_40 (pc := 181) hx hb hts hown hK hR mw334 dX12_piece_181 ?_
          refine lv_aload_n (pc := 184) hx hb dX12_piece_184 rfl (lv_at hl 0 rfl) ?_
          refine gf2_0_36 (pc := 185) hx hb hts hown hK hR mw330 dX12_piece_185 ?_
          refine lv_iconst (pc := 188) (v := (-1)) hx hb dX12_piece_188 (by decide) ?_
          have g_12 := h.1
          have h := h.2
          refine q_iast (pc := 189) hx hb hK hI hR (k := 19) lt2_19 (fun f => (ar2_19 _ f _)) g_12 dX12_piece_189 (fun H locs σ_13 eσ_13 hR => ?_)
          have h := h σ_13 eσ_13
          refine lv_iconst (pc := 190) (v := 0) hx hb dX12_piece_190 (by decide) ?_
          refine lv_istore (pc := 191) (lv' := [(4, .int 0), (0, .ref (w.2.1 0)), (1, .int x1), (2, .int x2), (3, .int x3)]) hx hb dX12_piece_191 hl (by decide) rfl (fun ls hl => ?_)
          exact bX12_piece_193 l w N Q E x2 N 0 σ_13 _ _ _ hR (lv_sub hl [1, 3, 0] rfl) h
        · have h := h.1 c_7
          refine lv_bipush (pc := 157) (v := (-4)) hx hb dX12_piece_157 (by decide) ?_
          exact q_iret (pc := 159) E hR h dX12_piece_159
      · have h := h.1 c_6
        refine lv_bipush (pc := 145) (v := (-2)) hx hb dX12_piece_145 (by decide) ?_
        exact q_iret (pc := 147) E hR h dX12_piece_147
    · have h := h.2 c_5
      refine lv_iload_n (pc := 84) hx hb dX12_piece_84 rfl (lv_at hl 3 rfl) ?_
      refine lv_if_eq (pc := 85) (tgt := 133) hx hb dX12_piece_85 (by decide) (fun c_14 => ?_) (fun c_14 => ?_)
      · have h := h.1 c_14
        exact bX12_piece_133 l w N Q E x1 x2 x4 _ ih hR (lv_sub hl [0, 1, 2, 4] rfl) h
      · have h := h.2 c_14
        refine lv_iload_n (pc := 88) hx hb dX12_piece_88 rfl (lv_at hl 1 rfl) ?_
        refine lv_iconst (pc := 89) (v := 3) hx hb dX12_piece_89 (by decide) ?_
        refine lv_icmp_gt (pc := 90) (tgt := 114) hx hb dX12_piece_90 (by decide) (fun c_15 => ?_) (fun c_15 => ?_)
        · have h := h.1 c_15
          refine lv_iload_n (pc := 114) hx hb dX12_piece_114 rfl (lv_at hl 1 rfl) ?_
          refine lv_iconst (pc := 115) (v := 5) hx hb dX12_piece_115 (by decide) ?_
          refine lv_icmp_gt (pc := 116) (tgt := 129) hx hb dX12_piece_116 (by decide) (fun c_16 => ?_) (fun c_16 => ?_)
          · have h := h.1 c_16
            exact bX12_piece_129 l w N Q E x1 x2 x4 _ ih hR (lv_sub hl [0, 1, 2, 4] rfl) h
          · have h := h.2 c_16
            refine lv_aload_n (pc := 119) hx hb dX12_piece_119 rfl (lv_at hl 0 rfl) ?_
            refine gf2_0_4 (pc := 120) hx hb hts hown hK hR mw329 dX12_piece_120 ?_
            refine lv_iload (pc := 123) hx hb dX12_piece_123 (lv_at hl 4 rfl) ?_
            have g_17 := h.1
            have h := h.2
            refine q_iald (pc := 125) hx hb hK hR (k := 3) lt2_3 (ar2_3 _ _ _) g_17 dX12_piece_125 ?_
            refine lv_if_eq (pc := 126) (tgt := 133) hx hb dX12_piece_126 (by decide) (fun c_18 => ?_) (fun c_18 => ?_)
            · have h := h.1 c_18
              exact bX12_piece_133 l w N Q E x1 x2 x4 _ ih hR (lv_sub hl [0, 1, 2, 4] rfl) h
            · have h := h.2 c_18
              exact bX12_piece_129 l w N Q E x1 x2 x4 _ ih hR (lv_sub hl [0, 1, 2, 4] rfl) h
        · have h := h.2 c_15
          refine lv_aload_n (pc := 93) hx hb dX12_piece_93 rfl (lv_at hl 0 rfl) ?_
          refine gf2_0_4 (pc := 94) hx hb hts hown hK hR mw329 dX12_piece_94 ?_
          refine lv_iload (pc := 97) hx hb dX12_piece_97 (lv_at hl 4 rfl) ?_
          have g_19 := h.1
          have h := h.2
          refine q_iald (pc := 99) hx hb hK hR (k := 3) lt2_3 (ar2_3 _ _ _) g_19 dX12_piece_99 ?_
          refine lv_i2l (pc := 100) (v := (σ.1 3 x4.toNatClampNeg).toInt64) hx hb dX12_piece_100 rfl ?_
          refine lv_lconst (pc := 101) (v := 1) hx hb dX12_piece_101 (by decide) ?_
          refine lv_ldc2 (pc := 102) (v := 255) hx hb hown (hts _ (Uin mw261)) dX12_piece_102 ?_
          refine q_ci (pc := 105) hR (q_rS E (xp2 w) (As := [.long ((σ.1 3 x4.toNatClampNeg).toInt64), .long 1, .long 255]) (rest := []) (cX12_in_met l w hI N ((σ.1 3 x4.toNatClampNeg).toInt64) 1 255 _ σ h) ckX12_in csX12_in mw258 ⟨rfl, rfl, Nat.le_of_ble_eq_true rfl, Nat.le_of_ble_eq_true rfl⟩ hR rfl hl.1 rfl (Nat.le_of_ble_eq_true rfl) dX12_piece_105) (fun r_21 σ_20 H locs h hR => ?_)
          refine lv_if_eq (pc := 108) (tgt := 133) hx hb dX12_piece_108 (by decide) (fun c_22 => ?_) (fun c_22 => ?_)
          · have h := h.1 c_22
            exact bX12_piece_133 l w N Q E x1 x2 x4 _ ih hR (lv_sub hl [0, 1, 2, 4] rfl) h
          · have h := h.2 c_22
            refine lv_goto (pc := 111) (tgt := 129) hx hb dX12_piece_111 (by decide) ?_
            exact bX12_piece_129 l w N Q E x1 x2 x4 _ ih hR (lv_sub hl [0, 1, 2, 4] rfl) h
def fX12_piece_j74 (N : Nat) (x1 : Int32) (x2 : Int32) (t0 : Int32) (Q : Int32 → St → Prop) (σ : St) : Prop := lo2 (fX12_piece_l78 N x1 x2 Q) N t0 0 σ
set_option maxHeartbeats 4000000 in
set_option maxRecDepth 100000 in
theorem bX12_piece_74 {p : Program} {e : Env} {s : State} {m : MethodId} {args : Array Value} {below : List Frame} {meth : Method} {c : Code} (l : Launch) (w : Wd) (N : Nat) (Q : Int32 → St → Prop) (E : Cx 38 w X2 cX12_piece 5 RX12 (.code yX12_piece cX12_piece 5 (some .int)) (some .int) p s m args meth c) (x1 : Int32) (x2 : Int32) (t0 : Int32) {σ : St} {H : Heap} {locs : List Loc} {ls : Array Slot} (hR : Rr 38 ev2 w σ s H locs) (hl : lv_has ls 5 [(0, .ref (w.2.1 0)), (1, .int x1), (2, .int x2)]) (h : fX12_piece_j74 N x1 x2 t0 Q σ) : W p l e rmX12_piece s m args below meth c H locs 0 0 (MQ below (va_Qi Q (Rp 38 ev2 w) (Aw 38 w)) args s 0 0 (Aw 38 w)) (F0 m 74 ls [.int t0]) := by
  obtain ⟨hx, hb, hml, hown, hts, hr, hlk, hK, hI, hX⟩ := id E
  unfold fX12_piece_j74 at h
  refine lv_istore_n (pc := 74) (lv' := [(3, .int t0), (0, .ref (w.2.1 0)), (1, .int x1), (2, .int x2)]) hx hb dX12_piece_74 rfl hl (by decide) rfl (fun ls hl => ?_)
  refine lv_iconst (pc := 75) (v := 0) hx hb dX12_piece_75 (by decide) ?_
  refine lv_istore (pc := 76) (lv' := [(4, .int 0), (3, .int t0), (0, .ref (w.2.1 0)), (1, .int x1), (2, .int x2)]) hx hb dX12_piece_76 hl (by decide) rfl (fun ls hl => ?_)
  exact bX12_piece_78 l w N Q E x1 x2 N t0 0 σ _ _ _ hR (lv_sub hl [2, 3, 4, 1, 0] rfl) h
def fX12_piece_j32 (N : Nat) (x1 : Int32) (x2 : Int32) (Q : Int32 → St → Prop) (σ : St) : Prop := ((x2 = 1 → fX12_piece_j74 N x1 x2 1 Q σ) ∧ (¬ x2 = 1 → fX12_piece_j74 N x1 x2 0 Q σ))
set_option maxHeartbeats 4000000 in
set_option maxRecDepth 100000 in
theorem bX12_piece_32 {p : Program} {e : Env} {s : State} {m : MethodId} {args : Array Value} {below : List Frame} {meth : Method} {c : Code} (l : Launch) (w : Wd) (N : Nat) (Q : Int32 → St → Prop) (E : Cx 38 w X2 cX12_piece 5 RX12 (.code yX12_piece cX12_piece 5 (some .int)) (some .int) p s m args meth c) (x1 : Int32) (x2 : Int32) {σ : St} {H : Heap} {locs : List Loc} {ls : Array Slot} (hR : Rr 38 ev2 w σ s H locs) (hl : lv_has ls 5 [(0, .ref (w.2.1 0)), (1, .int x1), (2, .int x2)]) (h : fX12_piece_j32 N x1 x2 Q σ) : W p l e rmX12_piece s m args below meth c H locs 0 0 (MQ below (va_Qi Q (Rp 38 ev2 w) (Aw 38 w)) args s 0 0 (Aw 38 w)) (F0 m 32 ls []) := by
  obtain ⟨hx, hb, hml, hown, hts, hr, hlk, hK, hI, hX⟩ := id E
  unfold fX12_piece_j32 at h
  refine lv_iload_n (pc := 32) hx hb dX12_piece_32 rfl (lv_at hl 2 rfl) ?_
  refine lv_iconst (pc := 33) (v := 1) hx hb dX12_piece_33 (by decide) ?_
  refine lv_icmp_ne (pc := 34) (tgt := 41) hx hb dX12_piece_34 (by decide) (fun c_4 => ?_) (fun c_4 => ?_)
  · have h := h.2 c_4
    refine lv_iconst (pc := 41) (v := 0) hx hb dX12_piece_41 (by decide) ?_
    refine lv_goto (pc := 42) (tgt := 74) hx hb dX12_piece_42 (by decide) ?_
    exact bX12_piece_74 l w N Q E x1 x2 0 hR (lv_sub hl [0, 1, 2] rfl) h
  · have h := h.1 c_4
    refine lv_iconst (pc := 37) (v := 1) hx hb dX12_piece_37 (by decide) ?_
    refine lv_goto (pc := 38) (tgt := 74) hx hb dX12_piece_38 (by decide) ?_
    exact bX12_piece_74 l w N Q E x1 x2 1 hR (lv_sub hl [0, 1, 2] rfl) h
def fX12_piece_j73 (N : Nat) (x1 : Int32) (x2 : Int32) (Q : Int32 → St → Prop) (σ : St) : Prop := fX12_piece_j74 N x1 x2 0 Q σ
set_option maxHeartbeats 4000000 in
set_option maxRecDepth 100000 in
theorem bX12_piece_73 {p : Program} {e : Env} {s : State} {m : MethodId} {args : Array Value} {below : List Frame} {meth : Method} {c : Code} (l : Launch) (w : Wd) (N : Nat) (Q : Int32 → St → Prop) (E : Cx 38 w X2 cX12_piece 5 RX12 (.code yX12_piece cX12_piece 5 (some .int)) (some .int) p s m args meth c) (x1 : Int32) (x2 : Int32) {σ : St} {H : Heap} {locs : List Loc} {ls : Array Slot} (hR : Rr 38 ev2 w σ s H locs) (hl : lv_has ls 5 [(0, .ref (w.2.1 0)), (1, .int x1), (2, .int x2)]) (h : fX12_piece_j73 N x1 x2 Q σ) : W p l e rmX12_piece s m args below meth c H locs 0 0 (MQ below (va_Qi Q (Rp 38 ev2 w) (Aw 38 w)) args s 0 0 (Aw 38 w)) (F0 m 73 ls []) := by
  obtain ⟨hx, hb, hml, hown, hts, hr, hlk, hK, hI, hX⟩ := id E
  unfold fX12_piece_j73 at h
  refine lv_iconst (pc := 73) (v := 0) hx hb dX12_piece_73 (by decide) ?_
  exact bX12_piece_74 l w N Q E x1 x2 0 hR (lv_sub hl [0, 1, 2] rfl) h
def fX12_piece_j55 (N : Nat) (x1 : Int32) (x2 : Int32) (Q : Int32 → St → Prop) (σ : St) : Prop := fX12_in N x2.toInt64 2 20 (fun r_9 σ_8 => ((r_9 = 0 → fX12_piece_j73 N x1 x2 Q σ_8) ∧ (¬ r_9 = 0 → fX12_piece_j74 N x1 x2 1 Q σ_8))) σ
set_option maxHeartbeats 4000000 in
set_option maxRecDepth 100000 in
theorem bX12_piece_55 {p : Program} {e : Env} {s : State} {m : MethodId} {args : Array Value} {below : List Frame} {meth : Method} {c : Code} (l : Launch) (w : Wd) (N : Nat) (Q : Int32 → St → Prop) (E : Cx 38 w X2 cX12_piece 5 RX12 (.code yX12_piece cX12_piece 5 (some .int)) (some .int) p s m args meth c) (x1 : Int32) (x2 : Int32) {σ : St} {H : Heap} {locs : List Loc} {ls : Array Slot} (hR : Rr 38 ev2 w σ s H locs) (hl : lv_has ls 5 [(0, .ref (w.2.1 0)), (1, .int x1), (2, .int x2)]) (h : fX12_piece_j55 N x1 x2 Q σ) : W p l e rmX12_piece s m args below meth c H locs 0 0 (MQ below (va_Qi Q (Rp 38 ev2 w) (Aw 38 w)) args s 0 0 (Aw 38 w)) (F0 m 55 ls []) := by
  obtain ⟨hx, hb, hml, hown, hts, hr, hlk, hK, hI, hX⟩ := id E
  unfold fX12_piece_j55 at h
  refine lv_iload_n (pc := 55) hx hb dX12_piece_55 rfl (lv_at hl 2 rfl) ?_
  refine lv_i2l (pc := 56) (v := x2.toInt64) hx hb dX12_piece_56 rfl ?_
  refine lv_ldc2 (pc := 57) (v := 2) hx hb hown (hts _ (Uin mw284)) dX12_piece_57 ?_
  refine lv_ldc2 (pc := 60) (v := 20) hx hb hown (hts _ (Uin mw336)) dX12_piece_60 ?_
  refine q_ci (pc := 63) hR (q_rS E (xp2 w) (As := [.long x2.toInt64, .long 2, .long 20]) (rest := []) (cX12_in_met l w hI N x2.toInt64 2 20 _ σ h) ckX12_in csX12_in mw258 ⟨rfl, rfl, Nat.le_of_ble_eq_true rfl, Nat.le_of_ble_eq_true rfl⟩ hR rfl hl.1 rfl (Nat.le_of_ble_eq_true rfl) dX12_piece_63) (fun r_9 σ_8 H locs h hR => ?_)
  refine lv_if_eq (pc := 66) (tgt := 73) hx hb dX12_piece_66 (by decide) (fun c_10 => ?_) (fun c_10 => ?_)
  · have h := h.1 c_10
    exact bX12_piece_73 l w N Q E x1 x2 hR (lv_sub hl [0, 1, 2] rfl) h
  · have h := h.2 c_10
    refine lv_iconst (pc := 69) (v := 1) hx hb dX12_piece_69 (by decide) ?_
    refine lv_goto (pc := 70) (tgt := 74) hx hb dX12_piece_70 (by decide) ?_
    exact bX12_piece_74 l w N Q E x1 x2 1 hR (lv_sub hl [0, 1, 2] rfl) h
def fX12_piece (N : Nat) (x1 : Int32) (Q : Int32 → St → Prop) (σ : St) : Prop := ∀ v_1 : Int32, v_1 = σ.1 0 5 → ∀ σ_2 : St, σ_2 = u1 σ 0 5 0 → ((x1 = 2 → fX12_piece_j32 N x1 v_1 Q σ_2) ∧ (¬ x1 = 2 → ((x1 = 4 → fX12_piece_j32 N x1 v_1 Q σ_2) ∧ (¬ x1 = 4 → ((x1 = 8 → fX12_piece_j32 N x1 v_1 Q σ_2) ∧ (¬ x1 = 8 → ((x1 = 9 → fX12_piece_j32 N x1 v_1 Q σ_2) ∧ (¬ x1 = 9 → ((x1 = 3 → fX12_piece_j55 N x1 v_1 Q σ_2) ∧ (¬ x1 = 3 → ((x1 = 5 → fX12_piece_j55 N x1 v_1 Q σ_2) ∧ (¬ x1 = 5 → fX12_piece_j73 N x1 v_1 Q σ_2))))))))))))
set_option maxHeartbeats 4000000 in
set_option maxRecDepth 100000 in
theorem bX12_piece_e {p : Program} {e : Env} {s : State} {m : MethodId} {args : Array Value} {below : List Frame} {meth : Method} {c : Code} (l : Launch) (w : Wd) (N : Nat) (Q : Int32 → St → Prop) (E : Cx 38 w X2 cX12_piece 5 RX12 (.code yX12_piece cX12_piece 5 (some .int)) (some .int) p s m args meth c) (x1 : Int32) {σ : St} {H : Heap} {locs : List Loc} {ls : Array Slot} (hR : Rr 38 ev2 w σ s H locs) (hl : lv_has ls 5 [(0, .ref (w.2.1 0)), (1, .int x1)]) (h : fX12_piece N x1 Q σ) : W p l e rmX12_piece s m args below meth c H locs 0 0 (MQ below (va_Qi Q (Rp 38 ev2 w) (Aw 38 w)) args s 0 0 (Aw 38 w)) (F0 m 0 ls []) := by
  obtain ⟨hx, hb, hml, hown, hts, hr, hlk, hK, hI, hX⟩ := id E
  unfold fX12_piece at h
  refine lv_aload_n (pc := 0) hx hb dX12_piece_0 rfl (lv_at hl 0 rfl) ?_
  refine gf2_0_5 (pc := 1) hx hb hts hown hK hR mw328 dX12_piece_1 ?_
  refine lv_topi (pc := 4) (fun v_1 ev_1 => ?_)
  have h := h v_1 ev_1
  refine lv_istore_n (pc := 4) (lv' := [(2, .int v_1), (0, .ref (w.2.1 0)), (1, .int x1)]) hx hb dX12_piece_4 rfl hl (by decide) rfl (fun ls hl => ?_)
  refine lv_aload_n (pc := 5) hx hb dX12_piece_5 rfl (lv_at hl 1 rfl) ?_
  refine lv_iconst (pc := 6) (v := 0) hx hb dX12_piece_6 (by decide) ?_
  refine pf2_0_5 (pc := 7) hx hb hts hown hK hI hR mw328 dX12_piece_7 (fun H locs σ_2 eσ_2 hR => ?_)
  have h := h σ_2 eσ_2
  refine lv_iload_n (pc := 10) hx hb dX12_piece_10 rfl (lv_at hl 2 rfl) ?_
  refine lv_iconst (pc := 11) (v := 2) hx hb dX12_piece_11 (by decide) ?_
  refine lv_icmp_eq (pc := 12) (tgt := 32) hx hb dX12_piece_12 (by decide) (fun c_3 => ?_) (fun c_3 => ?_)
  · have h := h.1 c_3
    exact bX12_piece_32 l w N Q E x1 v_1 hR (lv_sub hl [1, 2, 0] rfl) h
  · have h := h.2 c_3
    refine lv_iload_n (pc := 15) hx hb dX12_piece_15 rfl (lv_at hl 2 rfl) ?_
    refine lv_iconst (pc := 16) (v := 4) hx hb dX12_piece_16 (by decide) ?_
    refine lv_icmp_eq (pc := 17) (tgt := 32) hx hb dX12_piece_17 (by decide) (fun c_4 => ?_) (fun c_4 => ?_)
    · have h := h.1 c_4
      exact bX12_piece_32 l w N Q E x1 v_1 hR (lv_sub hl [1, 2, 0] rfl) h
    · have h := h.2 c_4
      refine lv_iload_n (pc := 20) hx hb dX12_piece_20 rfl (lv_at hl 2 rfl) ?_
      refine lv_bipush (pc := 21) (v := 8) hx hb dX12_piece_21 (by decide) ?_
      refine lv_icmp_eq (pc := 23) (tgt := 32) hx hb dX12_piece_23 (by decide) (fun c_5 => ?_) (fun c_5 => ?_)
      · have h := h.1 c_5
        exact bX12_piece_32 l w N Q E x1 v_1 hR (lv_sub hl [1, 2, 0] rfl) h
      · have h := h.2 c_5
        refine lv_iload_n (pc := 26) hx hb dX12_piece_26 rfl (lv_at hl 2 rfl) ?_
        refine lv_bipush (pc := 27) (v := 9) hx hb dX12_piece_27 (by decide) ?_
        refine lv_icmp_ne (pc := 29) (tgt := 45) hx hb dX12_piece_29 (by decide) (fun c_6 => ?_) (fun c_6 => ?_)
        · have h := h.2 c_6
          refine lv_iload_n (pc := 45) hx hb dX12_piece_45 rfl (lv_at hl 2 rfl) ?_
          refine lv_iconst (pc := 46) (v := 3) hx hb dX12_piece_46 (by decide) ?_
          refine lv_icmp_eq (pc := 47) (tgt := 55) hx hb dX12_piece_47 (by decide) (fun c_7 => ?_) (fun c_7 => ?_)
          · have h := h.1 c_7
            exact bX12_piece_55 l w N Q E x1 v_1 hR (lv_sub hl [1, 2, 0] rfl) h
          · have h := h.2 c_7
            refine lv_iload_n (pc := 50) hx hb dX12_piece_50 rfl (lv_at hl 2 rfl) ?_
            refine lv_iconst (pc := 51) (v := 5) hx hb dX12_piece_51 (by decide) ?_
            refine lv_icmp_ne (pc := 52) (tgt := 73) hx hb dX12_piece_52 (by decide) (fun c_8 => ?_) (fun c_8 => ?_)
            · have h := h.2 c_8
              exact bX12_piece_73 l w N Q E x1 v_1 hR (lv_sub hl [1, 2, 0] rfl) h
            · have h := h.1 c_8
              exact bX12_piece_55 l w N Q E x1 v_1 hR (lv_sub hl [1, 2, 0] rfl) h
        · have h := h.1 c_6
          exact bX12_piece_32 l w N Q E x1 v_1 hR (lv_sub hl [1, 2, 0] rfl) h
theorem cX12_piece_met (l : Launch) (w : Wd) (hI : Ij 38 w) (N : Nat) (x1 : Int32) (Q : Int32 → St → Prop) (σ : St) (h : fX12_piece N x1 Q σ) : Met l yX12_piece (.code yX12_piece cX12_piece 5 (some .int) :: Uw) rmX12_piece (va_Pc [.ref (w.2.1 0), .int x1] (fun U => Rp 38 ev2 w σ U ∧ X2 U)) (va_Qi Q (Rp 38 ev2 w) (Aw 38 w)) 0 0 (Aw 38 w) :=
  q_met (by decide) (Nat.le_of_ble_eq_true rfl) hI (fun p e s m below meth c ls E hl hR => bX12_piece_e l w N Q E x1 hR hl h)
-- GlulxStringsModel.signOf(II)I
abbrev rmX12_signOf : Room := { frames := 0, cells := 0, slots := 0, locals := 0 }
def fX12_signOf (N : Nat) (x1 : Int32) (x2 : Int32) (Q : Int32 → St → Prop) (σ : St) : Prop := vp_in x1 60 ∧ (((σ.1 16 x1.toNatClampNeg) < 8 → vp_in ((20 * x1) + x2) 1200 ∧ Q (σ.1 17 ((20 * x1) + x2).toNatClampNeg) σ) ∧ (¬ (σ.1 16 x1.toNatClampNeg) < 8 → Q ((-1000) - x1) σ))
set_option maxHeartbeats 4000000 in
set_option maxRecDepth 100000 in
theorem bX12_signOf_e {p : Program} {e : Env} {s : State} {m : MethodId} {args : Array Value} {below : List Frame} {meth : Method} {c : Code} (l : Launch) (w : Wd) (N : Nat) (Q : Int32 → St → Prop) (E : Cx 38 w X2 cX12_signOf 3 RX12 (.code yX12_signOf cX12_signOf 3 (some .int)) (some .int) p s m args meth c) (x1 : Int32) (x2 : Int32) {σ : St} {H : Heap} {locs : List Loc} {ls : Array Slot} (hR : Rr 38 ev2 w σ s H locs) (hl : lv_has ls 3 [(0, .ref (w.2.1 0)), (1, .int x1), (2, .int x2)]) (h : fX12_signOf N x1 x2 Q σ) : W p l e rmX12_signOf s m args below meth c H locs 0 0 (MQ below (va_Qi Q (Rp 38 ev2 w) (Aw 38 w)) args s 0 0 (Aw 38 w)) (F0 m 0 ls []) := by
  obtain ⟨hx, hb, hml, hown, hts, hr, hlk, hK, hI, hX⟩ := id E
  unfold fX12_signOf at h
  refine lv_aload_n (pc := 0) hx hb dX12_signOf_0 rfl (lv_at hl 0 rfl) ?_
  refine gf2_0_37 (pc := 1) hx hb hts hown hK hR mw332 dX12_signOf_1 ?_
  refine lv_iload_n (pc := 4) hx hb dX12_signOf_4 rfl (lv_at hl 1 rfl) ?_
  have g_1 := h.1
  have h := h.2
  refine q_iald (pc := 5) hx hb hK hR (k := 16) lt2_16 (ar2_16 _ _ _) g_1 dX12_signOf_5 ?_
  refine lv_bipush (pc := 6) (v := 8) hx hb dX12_signOf_6 (by decide) ?_
  refine lv_icmp_lt (pc := 8) (tgt := 19) hx hb dX12_signOf_8 (by decide) (fun c_2 => ?_) (fun c_2 => ?_)
  · have h := h.1 c_2
    refine lv_aload_n (pc := 19) hx hb dX12_signOf_19 rfl (lv_at hl 0 rfl) ?_
    refine gf2_0_38 (pc := 20) hx hb hts hown hK hR mw335 dX12_signOf_20 ?_
    refine lv_bipush (pc := 23) (v := 20) hx hb dX12_signOf_23 (by decide) ?_
    refine lv_iload_n (pc := 25) hx hb dX12_signOf_25 rfl (lv_at hl 1 rfl) ?_
    refine lv_imul (pc := 26) hx hb dX12_signOf_26 ?_
    refine lv_iload_n (pc := 27) hx hb dX12_signOf_27 rfl (lv_at hl 2 rfl) ?_
    refine lv_iadd (pc := 28) hx hb dX12_signOf_28 ?_
    have g_3 := h.1
    have h := h.2
    refine q_iald (pc := 29) hx hb hK hR (k := 17) lt2_17 (ar2_17 _ _ _) g_3 dX12_signOf_29 ?_
    exact q_iret (pc := 30) E hR h dX12_signOf_30
  · have h := h.2 c_2
    refine lv_sipush (pc := 11) (v := (-1000)) hx hb dX12_signOf_11 (by decide) ?_
    refine lv_iload_n (pc := 14) hx hb dX12_signOf_14 rfl (lv_at hl 1 rfl) ?_
    refine lv_isub (pc := 15) hx hb dX12_signOf_15 ?_
    refine lv_goto (pc := 16) (tgt := 30) hx hb dX12_signOf_16 (by decide) ?_
    exact q_iret (pc := 30) E hR h dX12_signOf_30
theorem cX12_signOf_met (l : Launch) (w : Wd) (hI : Ij 38 w) (N : Nat) (x1 : Int32) (x2 : Int32) (Q : Int32 → St → Prop) (σ : St) (h : fX12_signOf N x1 x2 Q σ) : Met l yX12_signOf (.code yX12_signOf cX12_signOf 3 (some .int) :: Uw) rmX12_signOf (va_Pc [.ref (w.2.1 0), .int x1, .int x2] (fun U => Rp 38 ev2 w σ U ∧ X2 U)) (va_Qi Q (Rp 38 ev2 w) (Aw 38 w)) 0 0 (Aw 38 w) :=
  q_met (by decide) (Nat.le_of_ble_eq_true rfl) hI (fun p e s m below meth c ls E hl hR => bX12_signOf_e l w N Q E x1 x2 hR hl h)
-- GlulxStringsModel.parted(II)I
abbrev rmX12_parted : Room := { frames := 1, cells := 0, slots := 0, locals := 22 }
def fX12_parted_l251 (N : Nat) (Q : Int32 → St → Prop) (r251 : Int32 → Int32 → St → Prop) (x3 : Int32) (x4 : Int32) (σ : St) : Prop := vp_in 0 121 ∧ (((σ.1 24 (0 : Int32).toNatClampNeg) ≤ x4 → vp_in 0 121 ∧ Q (σ.1 24 (0 : Int32).toNatClampNeg) σ) ∧ (¬ (σ.1 24 (0 : Int32).toNatClampNeg) ≤ x4 → vp_in x3 121 ∧ ∀ v_11 : Int32, v_11 = σ.1 25 x3.toNatClampNeg → vp_in x4 120 ∧ ∀ σ_13 : St, σ_13 = u1 σ 26 x4.toNatClampNeg v_11 → vp_in x3 121 ∧ vp_in (σ_13.1 25 x3.toNatClampNeg) 60 ∧ ∀ v_16 : Int32, v_16 = x3 + (σ_13.1 18 (σ_13.1 25 x3.toNatClampNeg).toNatClampNeg) → ∀ v_17 : Int32, v_17 = x4 + 1 → r251 v_16 v_17 σ_13))
set_option maxHeartbeats 4000000 in
set_option maxRecDepth 100000 in
theorem bX12_parted_251 {p : Program} {e : Env} {s : State} {m : MethodId} {args : Array Value} {below : List Frame} {meth : Method} {c : Code} (l : Launch) (w : Wd) (N : Nat) (Q : Int32 → St → Prop) (E : Cx 38 w X2 cX12_parted 9 RX12 (.code yX12_parted cX12_parted 9 (some .int)) (some .int) p s m args meth c) : ∀ (n : Nat) (x3 : Int32) (x4 : Int32) (σ : St) (H : Heap) (locs : List Loc) (ls : Array Slot), Rr 38 ev2 w σ s H locs → lv_has ls 9 [(0, .ref (w.2.1 0)), (3, .int x3), (4, .int x4)] → lo2 (fX12_parted_l251 N Q) n x3 x4 σ → W p l e rmX12_parted s m args below meth c H locs 0 0 (MQ below (va_Qi Q (Rp 38 ev2 w) (Aw 38 w)) args s 0 0 (Aw 38 w)) (F0 m 251 ls []) := by
  obtain ⟨hx, hb, hml, hown, hts, hr, hlk, hK, hI, hX⟩ := id E
  intro n
  induction n with
  | zero => intro x3 x4 σ H locs ls hR hl h; exact h.elim
  | succ n ih =>
    intro x3 x4 σ H locs ls hR hl h
    have h : fX12_parted_l251 N Q (lo2 (fX12_parted_l251 N Q) n) x3 x4 σ := h
    unfold fX12_parted_l251 at h
    refine lv_iload (pc := 251) hx hb dX12_parted_251 (lv_at hl 2 rfl) ?_
    refine lv_aload_n (pc := 253) hx hb dX12_parted_253 rfl (lv_at hl 0 rfl) ?_
    refine gf2_0_47 (pc := 254) hx hb hts hown hK hR mw337 dX12_parted_254 ?_
    refine lv_iconst (pc := 257) (v := 0) hx hb dX12_parted_257 (by decide) ?_
    have g_7 := h.1
    have h := h.2
    refine q_iald (pc := 258) hx hb hK hR (k := 24) lt2_24 (ar2_24 _ _ _) g_7 dX12_parted_258 ?_
    refine lv_icmp_ge (pc := 259) (tgt := 295) hx hb dX12_parted_259 (by decide) (fun c_8 => ?_) (fun c_8 => ?_)
    · have h := h.1 c_8
      refine lv_aload_n (pc := 295) hx hb dX12_parted_295 rfl (lv_at hl 0 rfl) ?_
      refine gf2_0_47 (pc := 296) hx hb hts hown hK hR mw337 dX12_parted_296 ?_
      refine lv_iconst (pc := 299) (v := 0) hx hb dX12_parted_299 (by decide) ?_
      have g_9 := h.1
      have h := h.2
      refine q_iald (pc := 300) hx hb hK hR (k := 24) lt2_24 (ar2_24 _ _ _) g_9 dX12_parted_300 ?_
      exact q_iret (pc := 301) E hR h dX12_parted_301
    · have h := h.2 c_8
      refine lv_aload_n (pc := 262) hx hb dX12_parted_262 rfl (lv_at hl 0 rfl) ?_
      refine gf2_0_49 (pc := 263) hx hb hts hown hK hR mw338 dX12_parted_263 ?_
      refine lv_iload (pc := 266) hx hb dX12_parted_266 (lv_at hl 2 rfl) ?_
      refine lv_aload_n (pc := 268) hx hb dX12_parted_268 rfl (lv_at hl 0 rfl) ?_
      refine gf2_0_48 (pc := 269) hx hb hts hown hK hR mw339 dX12_parted_269 ?_
      refine lv_iload_n (pc := 272) hx hb dX12_parted_272 rfl (lv_at hl 1 rfl) ?_
      have g_10 := h.1
      have h := h.2
      refine q_iald (pc := 273) hx hb hK hR (k := 25) lt2_25 (ar2_25 _ _ _) g_10 dX12_parted_273 ?_
      refine lv_topi (pc := 274) (fun v_11 ev_11 => ?_)
      have h := h v_11 ev_11
      have g_12 := h.1
      have h := h.2
      refine q_iast (pc := 274) hx hb hK hI hR (k := 26) lt2_26 (fun f => (ar2_26 _ f _)) g_12 dX12_parted_274 (fun H locs σ_13 eσ_13 hR => ?_)
      have h := h σ_13 eσ_13
      refine lv_iload_n (pc := 275) hx hb dX12_parted_275 rfl (lv_at hl 1 rfl) ?_
      refine lv_aload_n (pc := 276) hx hb dX12_parted_276 rfl (lv_at hl 0 rfl) ?_
      refine gf2_0_39 (pc := 277) hx hb hts hown hK hR mw333 dX12_parted_277 ?_
      refine lv_aload_n (pc := 280) hx hb dX12_parted_280 rfl (lv_at hl 0 rfl) ?_
      refine gf2_0_48 (pc := 281) hx hb hts hown hK hR mw339 dX12_parted_281 ?_
      refine lv_iload_n (pc := 284) hx hb dX12_parted_284 rfl (lv_at hl 1 rfl) ?_
      have g_14 := h.1
      have h := h.2
      refine q_iald (pc := 285) hx hb hK hR (k := 25) lt2_25 (ar2_25 _ _ _) g_14 dX12_parted_285 ?_
      have g_15 := h.1
      have h := h.2
      refine q_iald (pc := 286) hx hb hK hR (k := 18) lt2_18 (ar2_18 _ _ _) g_15 dX12_parted_286 ?_
      refine lv_iadd (pc := 287) hx hb dX12_parted_287 ?_
      refine lv_topi (pc := 288) (fun v_16 ev_16 => ?_)
      have h := h v_16 ev_16
      refine lv_istore_n (pc := 288) (lv' := [(3, .int v_16), (0, .ref (w.2.1 0)), (4, .int x4)]) hx hb dX12_parted_288 rfl hl (by decide) rfl (fun ls hl => ?_)
      obtain ⟨v_17, ev_17⟩ : ∃ z : Int32, z = x4 + 1 := ⟨_, rfl⟩
      have h := h v_17 ev_17
      refine lv_iinc (pc := 289) (v := v_17) (lv' := [(4, .int v_17), (3, .int v_16), (0, .ref (w.2.1 0))]) hx hb dX12_parted_289 hl (k := 2) rfl (by rw [ev_17]; rfl) (by decide) rfl (fun ls hl => ?_)
      refine lv_goto (pc := 292) (tgt := 251) hx hb dX12_parted_292 (by decide) ?_
      exact ih v_16 v_17 σ_13 _ _ _ hR (lv_sub hl [2, 1, 0] rfl) h
def fX12_parted_j220 (N : Nat) (r27 : Int32 → St → Prop) (r11 : Int32 → St → Prop) (x1 : Int32) (x2 : Int32) (x3 : Int32) (x4 : Int32) (Q : Int32 → St → Prop) (σ : St) : Prop := ∀ v_16 : Int32, v_16 = x4 + 1 → r27 v_16 σ
set_option maxHeartbeats 4000000 in
set_option maxRecDepth 100000 in
theorem bX12_parted_220 {p : Program} {e : Env} {s : State} {m : MethodId} {args : Array Value} {below : List Frame} {meth : Method} {c : Code} (l : Launch) (w : Wd) (N : Nat) (Q : Int32 → St → Prop) (E : Cx 38 w X2 cX12_parted 9 RX12 (.code yX12_parted cX12_parted 9 (some .int)) (some .int) p s m args meth c) (x1 : Int32) (x2 : Int32) (x3 : Int32) (x4 : Int32) (r27 : Int32 → St → Prop) (hr27 : ∀ (x4 : Int32) (σ : St) (H : Heap) (locs : List Loc) (ls : Array Slot), Rr 38 ev2 w σ s H locs → lv_has ls 9 [(0, .ref (w.2.1 0)), (1, .int x1), (2, .int x2), (3, .int x3), (4, .int x4)] → r27 x4 σ → W p l e rmX12_parted s m args below meth c H locs 0 0 (MQ below (va_Qi Q (Rp 38 ev2 w) (Aw 38 w)) args s 0 0 (Aw 38 w)) (F0 m 27 ls [])) (r11 : Int32 → St → Prop) (hr11 : ∀ (x3 : Int32) (σ : St) (H : Heap) (locs : List Loc) (ls : Array Slot), Rr 38 ev2 w σ s H locs → lv_has ls 9 [(0, .ref (w.2.1 0)), (1, .int x1), (2, .int x2), (3, .int x3)] → r11 x3 σ → W p l e rmX12_parted s m args below meth c H locs 0 0 (MQ below (va_Qi Q (Rp 38 ev2 w) (Aw 38 w)) args s 0 0 (Aw 38 w)) (F0 m 11 ls [])) {σ : St} {H : Heap} {locs : List Loc} {ls : Array Slot} (hR : Rr 38 ev2 w σ s H locs) (hl : lv_has ls 9 [(0, .ref (w.2.1 0)), (1, .int x1), (2, .int x2), (3, .int x3), (4, .int x4)]) (h : fX12_parted_j220 N r27 r11 x1 x2 x3 x4 Q σ) : W p l e rmX12_parted s m args below meth c H locs 0 0 (MQ below (va_Qi Q (Rp 38 ev2 w) (Aw 38 w)) args s 0 0 (Aw 38 w)) (F0 m 220 ls []) := by
  obtain ⟨hx, hb, hml, hown, hts, hr, hlk, hK, hI, hX⟩ := id E
  unfold fX12_parted_j220 at h
  obtain ⟨v_16, ev_16⟩ : ∃ z : Int32, z = x4 + 1 := ⟨_, rfl⟩
  have h := h v_16 ev_16
  refine lv_iinc (pc := 220) (v := v_16) (lv' := [(4, .int v_16), (0, .ref (w.2.1 0)), (1, .int x1), (2, .int x2), (3, .int x3)]) hx hb dX12_parted_220 hl (k := 4) rfl (by rw [ev_16]; rfl) (by decide) rfl (fun ls hl => ?_)
  refine lv_goto (pc := 223) (tgt := 27) hx hb dX12_parted_223 (by decide) ?_
  exact hr27 v_16 σ _ _ _ hR (lv_sub hl [1, 2, 3, 4, 0] rfl) h
def fX12_parted_j204 (N : Nat) (r27 : Int32 → St → Prop) (r11 : Int32 → St → Prop) (x1 : Int32) (x2 : Int32) (x3 : Int32) (x4 : Int32) (x7 : Int32) (Q : Int32 → St → Prop) (σ : St) : Prop := vp_in x3 121 ∧ ∀ σ_21 : St, σ_21 = u1 σ 24 x3.toNatClampNeg x7 → vp_in x3 121 ∧ ∀ σ_23 : St, σ_23 = u1 σ_21 25 x3.toNatClampNeg x4 → fX12_parted_j220 N r27 r11 x1 x2 x3 x4 Q σ_23
set_option maxHeartbeats 4000000 in
set_option maxRecDepth 100000 in
theorem bX12_parted_204 {p : Program} {e : Env} {s : State} {m : MethodId} {args : Array Value} {below : List Frame} {meth : Method} {c : Code} (l : Launch) (w : Wd) (N : Nat) (Q : Int32 → St → Prop) (E : Cx 38 w X2 cX12_parted 9 RX12 (.code yX12_parted cX12_parted 9 (some .int)) (some .int) p s m args meth c) (x1 : Int32) (x2 : Int32) (x3 : Int32) (x4 : Int32) (x7 : Int32) (r27 : Int32 → St → Prop) (hr27 : ∀ (x4 : Int32) (σ : St) (H : Heap) (locs : List Loc) (ls : Array Slot), Rr 38 ev2 w σ s H locs → lv_has ls 9 [(0, .ref (w.2.1 0)), (1, .int x1), (2, .int x2), (3, .int x3), (4, .int x4)] → r27 x4 σ → W p l e rmX12_parted s m args below meth c H locs 0 0 (MQ below (va_Qi Q (Rp 38 ev2 w) (Aw 38 w)) args s 0 0 (Aw 38 w)) (F0 m 27 ls [])) (r11 : Int32 → St → Prop) (hr11 : ∀ (x3 : Int32) (σ : St) (H : Heap) (locs : List Loc) (ls : Array Slot), Rr 38 ev2 w σ s H locs → lv_has ls 9 [(0, .ref (w.2.1 0)), (1, .int x1), (2, .int x2), (3, .int x3)] → r11 x3 σ → W p l e rmX12_parted s m args below meth c H locs 0 0 (MQ below (va_Qi Q (Rp 38 ev2 w) (Aw 38 w)) args s 0 0 (Aw 38 w)) (F0 m 11 ls [])) {σ : St} {H : Heap} {locs : List Loc} {ls : Array Slot} (hR : Rr 38 ev2 w σ s H locs) (hl : lv_has ls 9 [(0, .ref (w.2.1 0)), (1, .int x1), (2, .int x2), (3, .int x3), (4, .int x4), (7, .int x7)]) (h : fX12_parted_j204 N r27 r11 x1 x2 x3 x4 x7 Q σ) : W p l e rmX12_parted s m args below meth c H locs 0 0 (MQ below (va_Qi Q (Rp 38 ev2 w) (Aw 38 w)) args s 0 0 (Aw 38 w)) (F0 m 204 ls []) := by
  obtain ⟨hx, hb, hml, hown, hts, hr, hlk, hK, hI, hX⟩ := id E
  unfold fX12_parted_j204 at h
  refine lv_aload_n (pc := 204) hx hb dX12_parted_204 rfl (lv_at hl 0 rfl) ?_
  refine gf2_0_47 (pc := 205) hx hb hts hown hK hR mw337 dX12_parted_205 ?_
  refine lv_iload_n (pc := 208) hx hb dX12_parted_208 rfl (lv_at hl 3 rfl) ?_
  refine lv_iload (pc := 209) hx hb dX12_parted_209 (lv_at hl 5 rfl) ?_
  have g_20 := h.1
  have h := h.2
  refine q_iast (pc := 211) hx hb hK hI hR (k := 24) lt2_24 (fun f => (ar2_24 _ f _)) g_20 dX12_parted_211 (fun H locs σ_21 eσ_21 hR => ?_)
  have h := h σ_21 eσ_21
  refine lv_aload_n (pc := 212) hx hb dX12_parted_212 rfl (lv_at hl 0 rfl) ?_
  refine gf2_0_48 (pc := 213) hx hb hts hown hK hR mw339 dX12_parted_213 ?_
  refine lv_iload_n (pc := 216) hx hb dX12_parted_216 rfl (lv_at hl 3 rfl) ?_
  refine lv_iload (pc := 217) hx hb dX12_parted_217 (lv_at hl 4 rfl) ?_
  have g_22 := h.1
  have h := h.2
  refine q_iast (pc := 219) hx hb hK hI hR (k := 25) lt2_25 (fun f => (ar2_25 _ f _)) g_22 dX12_parted_219 (fun H locs σ_23 eσ_23 hR => ?_)
  have h := h σ_23 eσ_23
  exact bX12_parted_220 l w N Q E x1 x2 x3 x4 r27 hr27 r11 hr11 hR (lv_sub hl [0, 1, 2, 3, 4] rfl) h
def fX12_parted_j148 (N : Nat) (r27 : Int32 → St → Prop) (r11 : Int32 → St → Prop) (x1 : Int32) (x2 : Int32) (x3 : Int32) (x4 : Int32) (x5 : Int32) (x6 : Int32) (Q : Int32 → St → Prop) (σ : St) : Prop := ((x6 = 0 → fX12_parted_j220 N r27 r11 x1 x2 x3 x4 Q σ) ∧ (¬ x6 = 0 → vp_in (x3 + x5) 121 ∧ ∀ v_17 : Int32, v_17 = (σ.1 24 (x3 + x5).toNatClampNeg) + 1 → vp_in x3 121 ∧ ((v_17 < (σ.1 24 x3.toNatClampNeg) → fX12_parted_j204 N r27 r11 x1 x2 x3 x4 v_17 Q σ) ∧ (¬ v_17 < (σ.1 24 x3.toNatClampNeg) → vp_in x3 121 ∧ ((v_17 = (σ.1 24 x3.toNatClampNeg) → vp_in x3 121 ∧ vp_in (σ.1 25 x3.toNatClampNeg) 60 ∧ ((x5 ≤ (σ.1 18 (σ.1 25 x3.toNatClampNeg).toNatClampNeg) → fX12_parted_j220 N r27 r11 x1 x2 x3 x4 Q σ) ∧ (¬ x5 ≤ (σ.1 18 (σ.1 25 x3.toNatClampNeg).toNatClampNeg) → fX12_parted_j204 N r27 r11 x1 x2 x3 x4 v_17 Q σ))) ∧ (¬ v_17 = (σ.1 24 x3.toNatClampNeg) → fX12_parted_j220 N r27 r11 x1 x2 x3 x4 Q σ))))))
set_option maxHeartbeats 4000000 in
set_option maxRecDepth 100000 in
theorem bX12_parted_148 {p : Program} {e : Env} {s : State} {m : MethodId} {args : Array Value} {below : List Frame} {meth : Method} {c : Code} (l : Launch) (w : Wd) (N : Nat) (Q : Int32 → St → Prop) (E : Cx 38 w X2 cX12_parted 9 RX12 (.code yX12_parted cX12_parted 9 (some .int)) (some .int) p s m args meth c) (x1 : Int32) (x2 : Int32) (x3 : Int32) (x4 : Int32) (x5 : Int32) (x6 : Int32) (r27 : Int32 → St → Prop) (hr27 : ∀ (x4 : Int32) (σ : St) (H : Heap) (locs : List Loc) (ls : Array Slot), Rr 38 ev2 w σ s H locs → lv_has ls 9 [(0, .ref (w.2.1 0)), (1, .int x1), (2, .int x2), (3, .int x3), (4, .int x4)] → r27 x4 σ → W p l e rmX12_parted s m args below meth c H locs 0 0 (MQ below (va_Qi Q (Rp 38 ev2 w) (Aw 38 w)) args s 0 0 (Aw 38 w)) (F0 m 27 ls [])) (r11 : Int32 → St → Prop) (hr11 : ∀ (x3 : Int32) (σ : St) (H : Heap) (locs : List Loc) (ls : Array Slot), Rr 38 ev2 w σ s H locs → lv_has ls 9 [(0, .ref (w.2.1 0)), (1, .int x1), (2, .int x2), (3, .int x3)] → r11 x3 σ → W p l e rmX12_parted s m args below meth c H locs 0 0 (MQ below (va_Qi Q (Rp 38 ev2 w) (Aw 38 w)) args s 0 0 (Aw 38 w)) (F0 m 11 ls [])) {σ : St} {H : Heap} {locs : List Loc} {ls : Array Slot} (hR : Rr 38 ev2 w σ s H locs) (hl : lv_has ls 9 [(0, .ref (w.2.1 0)), (1, .int x1), (2, .int x2), (3, .int x3), (4, .int x4), (5, .int x5), (6, .int x6)]) (h : fX12_parted_j148 N r27 r11 x1 x2 x3 x4 x5 x6 Q σ) : W p l e rmX12_parted s m args below meth c H locs 0 0 (MQ below (va_Qi Q (Rp 38 ev2 w) (Aw 38 w)) args s 0 0 (Aw 38 w)) (F0 m 148 ls []) := by
  obtain ⟨hx, hb, hml, hown, hts, hr, hlk, hK, hI, hX⟩ := id E
  unfold fX12_parted_j148 at h
  refine lv_iload (pc := 148) hx hb dX12_parted_148 (lv_at hl 6 rfl) ?_
  refine lv_if_eq (pc := 150) (tgt := 220) hx hb dX12_parted_150 (by decide) (fun c_15 => ?_) (fun c_15 => ?_)
  · have h := h.1 c_15
    exact bX12_parted_220 l w N Q E x1 x2 x3 x4 r27 hr27 r11 hr11 hR (lv_sub hl [0, 1, 2, 3, 4] rfl) h
  · have h := h.2 c_15
    refine lv_aload_n (pc := 153) hx hb dX12_parted_153 rfl (lv_at hl 0 rfl) ?_
    refine gf2_0_47 (pc := 154) hx hb hts hown hK hR mw337 dX12_parted_154 ?_
    refine lv_iload_n (pc := 157) hx hb dX12_parted_157 rfl (lv_at hl 3 rfl) ?_
    refine lv_iload (pc := 158) hx hb dX12_parted_158 (lv_at hl 5 rfl) ?_
    refine lv_iadd (pc := 160) hx hb dX12_parted_160 ?_
    have g_16 := h.1
    have h := h.2
    refine q_iald (pc := 161) hx hb hK hR (k := 24) lt2_24 (ar2_24 _ _ _) g_16 dX12_parted_161 ?_
    refine lv_iconst (pc := 162) (v := 1) hx hb dX12_parted_162 (by decide) ?_
    refine lv_iadd (pc := 163) hx hb dX12_parted_163 ?_
    refine lv_topi (pc := 164) (fun v_17 ev_17 => ?_)
    have h := h v_17 ev_17
    refine lv_istore (pc := 164) (lv' := [(7, .int v_17), (0, .ref (w.2.1 0)), (1, .int x1), (2, .int x2), (3, .int x3), (4, .int x4), (5, .int x5), (6, .int x6)]) hx hb dX12_parted_164 hl (by decide) rfl (fun ls hl => ?_)
    refine lv_iload (pc := 166) hx hb dX12_parted_166 (lv_at hl 0 rfl) ?_
    refine lv_aload_n (pc := 168) hx hb dX12_parted_168 rfl (lv_at hl 1 rfl) ?_
    refine gf2_0_47 (pc := 169) hx hb hts hown hK hR mw337 dX12_parted_169 ?_
    refine lv_iload_n (pc := 172) hx hb dX12_parted_172 rfl (lv_at hl 4 rfl) ?_
    have g_18 := h.1
    have h := h.2
    refine q_iald (pc := 173) hx hb hK hR (k := 24) lt2_24 (ar2_24 _ _ _) g_18 dX12_parted_173 ?_
    refine lv_icmp_lt (pc := 174) (tgt := 204) hx hb dX12_parted_174 (by decide) (fun c_19 => ?_) (fun c_19 => ?_)
    · have h := h.1 c_19
      exact bX12_parted_204 l w N Q E x1 x2 x3 x4 v_17 r27 hr27 r11 hr11 hR (lv_sub hl [1, 2, 3, 4, 5, 0] rfl) h
    · have h := h.2 c_19
      refine lv_iload (pc := 177) hx hb dX12_parted_177 (lv_at hl 0 rfl) ?_
      refine lv_aload_n (pc := 179) hx hb dX12_parted_179 rfl (lv_at hl 1 rfl) ?_
      refine gf2_0_47 (pc := 180) hx hb hts hown hK hR mw337 dX12_parted_180 ?_
      refine lv_iload_n (pc := 183) hx hb dX12_parted_183 rfl (lv_at hl 4 rfl) ?_
      have g_20 := h.1
      have h := h.2
      refine q_iald (pc := 184) hx hb hK hR (k := 24) lt2_24 (ar2_24 _ _ _) g_20 dX12_parted_184 ?_
      refine lv_icmp_ne (pc := 185) (tgt := 220) hx hb dX12_parted_185 (by decide) (fun c_21 => ?_) (fun c_21 => ?_)
      · have h := h.2 c_21
        exact bX12_parted_220 l w N Q E x1 x2 x3 x4 r27 hr27 r11 hr11 hR (lv_sub hl [1, 2, 3, 4, 5] rfl) h
      · have h := h.1 c_21
        refine lv_iload (pc := 188) hx hb dX12_parted_188 (lv_at hl 6 rfl) ?_
        refine lv_aload_n (pc := 190) hx hb dX12_parted_190 rfl (lv_at hl 1 rfl) ?_
        refine gf2_0_39 (pc := 191) hx hb hts hown hK hR mw333 dX12_parted_191 ?_
        refine lv_aload_n (pc := 194) hx hb dX12_parted_194 rfl (lv_at hl 1 rfl) ?_
        refine gf2_0_48 (pc := 195) hx hb hts hown hK hR mw339 dX12_parted_195 ?_
        refine lv_iload_n (pc := 198) hx hb dX12_parted_198 rfl (lv_at hl 4 rfl) ?_
        have g_22 := h.1
        have h := h.2
        refine q_iald (pc := 199) hx hb hK hR (k := 25) lt2_25 (ar2_25 _ _ _) g_22 dX12_parted_199 ?_
        have g_23 := h.1
        have h := h.2
        refine q_iald (pc := 200) hx hb hK hR (k := 18) lt2_18 (ar2_18 _ _ _) g_23 dX12_parted_200 ?_
        refine lv_icmp_le (pc := 201) (tgt := 220) hx hb dX12_parted_201 (by decide) (fun c_24 => ?_) (fun c_24 => ?_)
        · have h := h.1 c_24
          exact bX12_parted_220 l w N Q E x1 x2 x3 x4 r27 hr27 r11 hr11 hR (lv_sub hl [1, 2, 3, 4, 5] rfl) h
        · have h := h.2 c_24
          exact bX12_parted_204 l w N Q E x1 x2 x3 x4 v_17 r27 hr27 r11 hr11 hR (lv_sub hl [1, 2, 3, 4, 5, 0] rfl) h
def fX12_parted_j140 (N : Nat) (r78 : Int32 → Int32 → St → Prop) (r27 : Int32 → St → Prop) (r11 : Int32 → St → Prop) (x1 : Int32) (x2 : Int32) (x3 : Int32) (x4 : Int32) (x5 : Int32) (x7 : Int32) (t0 : Int32) (Q : Int32 → St → Prop) (σ : St) : Prop := ∀ v_21 : Int32, v_21 = x7 + 1 → r78 t0 v_21 σ
set_option maxHeartbeats 4000000 in
set_option maxRecDepth 100000 in
theorem bX12_parted_140 {p : Program} {e : Env} {s : State} {m : MethodId} {args : Array Value} {below : List Frame} {meth : Method} {c : Code} (l : Launch) (w : Wd) (N : Nat) (Q : Int32 → St → Prop) (E : Cx 38 w X2 cX12_parted 9 RX12 (.code yX12_parted cX12_parted 9 (some .int)) (some .int) p s m args meth c) (x1 : Int32) (x2 : Int32) (x3 : Int32) (x4 : Int32) (x5 : Int32) (x7 : Int32) (t0 : Int32) (r78 : Int32 → Int32 → St → Prop) (hr78 : ∀ (x6 : Int32) (x7 : Int32) (σ : St) (H : Heap) (locs : List Loc) (ls : Array Slot), Rr 38 ev2 w σ s H locs → lv_has ls 9 [(0, .ref (w.2.1 0)), (1, .int x1), (2, .int x2), (3, .int x3), (4, .int x4), (5, .int x5), (6, .int x6), (7, .int x7)] → r78 x6 x7 σ → W p l e rmX12_parted s m args below meth c H locs 0 0 (MQ below (va_Qi Q (Rp 38 ev2 w) (Aw 38 w)) args s 0 0 (Aw 38 w)) (F0 m 78 ls [])) (r27 : Int32 → St → Prop) (hr27 : ∀ (x4 : Int32) (σ : St) (H : Heap) (locs : List Loc) (ls : Array Slot), Rr 38 ev2 w σ s H locs → lv_has ls 9 [(0, .ref (w.2.1 0)), (1, .int x1), (2, .int x2), (3, .int x3), (4, .int x4)] → r27 x4 σ → W p l e rmX12_parted s m args below meth c H locs 0 0 (MQ below (va_Qi Q (Rp 38 ev2 w) (Aw 38 w)) args s 0 0 (Aw 38 w)) (F0 m 27 ls [])) (r11 : Int32 → St → Prop) (hr11 : ∀ (x3 : Int32) (σ : St) (H : Heap) (locs : List Loc) (ls : Array Slot), Rr 38 ev2 w σ s H locs → lv_has ls 9 [(0, .ref (w.2.1 0)), (1, .int x1), (2, .int x2), (3, .int x3)] → r11 x3 σ → W p l e rmX12_parted s m args below meth c H locs 0 0 (MQ below (va_Qi Q (Rp 38 ev2 w) (Aw 38 w)) args s 0 0 (Aw 38 w)) (F0 m 11 ls [])) {σ : St} {H : Heap} {locs : List Loc} {ls : Array Slot} (hR : Rr 38 ev2 w σ s H locs) (hl : lv_has ls 9 [(0, .ref (w.2.1 0)), (1, .int x1), (2, .int x2), (3, .int x3), (4, .int x4), (5, .int x5), (7, .int x7)]) (h : fX12_parted_j140 N r78 r27 r11 x1 x2 x3 x4 x5 x7 t0 Q σ) : W p l e rmX12_parted s m args below meth c H locs 0 0 (MQ below (va_Qi Q (Rp 38 ev2 w) (Aw 38 w)) args s 0 0 (Aw 38 w)) (F0 m 140 ls [.int t0]) := by
  obtain ⟨hx, hb, hml, hown, hts, hr, hlk, hK, hI, hX⟩ := id E
  unfold fX12_parted_j140 at h
  refine lv_istore (pc := 140) (lv' := [(6, .int t0), (0, .ref (w.2.1 0)), (1, .int x1), (2, .int x2), (3, .int x3), (4, .int x4), (5, .int x5), (7, .int x7)]) hx hb dX12_parted_140 hl (by decide) rfl (fun ls hl => ?_)
  obtain ⟨v_21, ev_21⟩ : ∃ z : Int32, z = x7 + 1 := ⟨_, rfl⟩
  have h := h v_21 ev_21
  refine lv_iinc (pc := 142) (v := v_21) (lv' := [(7, .int v_21), (6, .int t0), (0, .ref (w.2.1 0)), (1, .int x1), (2, .int x2), (3, .int x3), (4, .int x4), (5, .int x5)]) hx hb dX12_parted_142 hl (k := 7) rfl (by rw [ev_21]; rfl) (by decide) rfl (fun ls hl => ?_)
  refine lv_goto (pc := 145) (tgt := 78) hx hb dX12_parted_145 (by decide) ?_
  exact hr78 t0 v_21 σ _ _ _ hR (lv_sub hl [2, 3, 4, 5, 6, 7, 1, 0] rfl) h
def fX12_parted_j120 (N : Nat) (r78 : Int32 → Int32 → St → Prop) (r27 : Int32 → St → Prop) (r11 : Int32 → St → Prop) (x1 : Int32) (x2 : Int32) (x3 : Int32) (x4 : Int32) (x5 : Int32) (x7 : Int32) (t0 : Int32) (Q : Int32 → St → Prop) (σ : St) : Prop := fX12_signOf N x4 x7 (fun r_19 σ_18 => ((r_19 = t0 → fX12_parted_j140 N r78 r27 r11 x1 x2 x3 x4 x5 x7 1 Q σ_18) ∧ (¬ r_19 = t0 → fX12_parted_j140 N r78 r27 r11 x1 x2 x3 x4 x5 x7 0 Q σ_18))) σ
set_option maxHeartbeats 4000000 in
set_option maxRecDepth 100000 in
theorem bX12_parted_120 {p : Program} {e : Env} {s : State} {m : MethodId} {args : Array Value} {below : List Frame} {meth : Method} {c : Code} (l : Launch) (w : Wd) (N : Nat) (Q : Int32 → St → Prop) (E : Cx 38 w X2 cX12_parted 9 RX12 (.code yX12_parted cX12_parted 9 (some .int)) (some .int) p s m args meth c) (x1 : Int32) (x2 : Int32) (x3 : Int32) (x4 : Int32) (x5 : Int32) (x7 : Int32) (t0 : Int32) (r78 : Int32 → Int32 → St → Prop) (hr78 : ∀ (x6 : Int32) (x7 : Int32) (σ : St) (H : Heap) (locs : List Loc) (ls : Array Slot), Rr 38 ev2 w σ s H locs → lv_has ls 9 [(0, .ref (w.2.1 0)), (1, .int x1), (2, .int x2), (3, .int x3), (4, .int x4), (5, .int x5), (6, .int x6), (7, .int x7)] → r78 x6 x7 σ → W p l e rmX12_parted s m args below meth c H locs 0 0 (MQ below (va_Qi Q (Rp 38 ev2 w) (Aw 38 w)) args s 0 0 (Aw 38 w)) (F0 m 78 ls [])) (r27 : Int32 → St → Prop) (hr27 : ∀ (x4 : Int32) (σ : St) (H : Heap) (locs : List Loc) (ls : Array Slot), Rr 38 ev2 w σ s H locs → lv_has ls 9 [(0, .ref (w.2.1 0)), (1, .int x1), (2, .int x2), (3, .int x3), (4, .int x4)] → r27 x4 σ → W p l e rmX12_parted s m args below meth c H locs 0 0 (MQ below (va_Qi Q (Rp 38 ev2 w) (Aw 38 w)) args s 0 0 (Aw 38 w)) (F0 m 27 ls [])) (r11 : Int32 → St → Prop) (hr11 : ∀ (x3 : Int32) (σ : St) (H : Heap) (locs : List Loc) (ls : Array Slot), Rr 38 ev2 w σ s H locs → lv_has ls 9 [(0, .ref (w.2.1 0)), (1, .int x1), (2, .int x2), (3, .int x3)] → r11 x3 σ → W p l e rmX12_parted s m args below meth c H locs 0 0 (MQ below (va_Qi Q (Rp 38 ev2 w) (Aw 38 w)) args s 0 0 (Aw 38 w)) (F0 m 11 ls [])) {σ : St} {H : Heap} {locs : List Loc} {ls : Array Slot} (hR : Rr 38 ev2 w σ s H locs) (hl : lv_has ls 9 [(0, .ref (w.2.1 0)), (1, .int x1), (2, .int x2), (3, .int x3), (4, .int x4), (5, .int x5), (7, .int x7)]) (h : fX12_parted_j120 N r78 r27 r11 x1 x2 x3 x4 x5 x7 t0 Q σ) : W p l e rmX12_parted s m args below meth c H locs 0 0 (MQ below (va_Qi Q (Rp 38 ev2 w) (Aw 38 w)) args s 0 0 (Aw 38 w)) (F0 m 120 ls [.int t0]) := by
  obtain ⟨hx, hb, hml, hown, hts, hr, hlk, hK, hI, hX⟩ := id E
  unfold fX12_parted_j120 at h
  refine lv_istore (pc := 120) (lv' := [(8, .int t0), (0, .ref (w.2.1 0)), (1, .int x1), (2, .int x2), (3, .int x3), (4, .int x4), (5, .int x5), (7, .int x7)]) hx hb dX12_parted_120 hl (by decide) rfl (fun ls hl => ?_)
  refine lv_aload_n (pc := 122) hx hb dX12_parted_122 rfl (lv_at hl 1 rfl) ?_
  refine lv_iload (pc := 123) hx hb dX12_parted_123 (lv_at hl 5 rfl) ?_
  refine lv_iload (pc := 125) hx hb dX12_parted_125 (lv_at hl 7 rfl) ?_
  refine q_ci (pc := 127) hR (q_rV E (xp2 w) (As := [.int x4, .int x7]) (rest := []) (cX12_signOf_met l w hI N x4 x7 _ σ h) ckX12_signOf cvX12_signOf mw341 ⟨rfl, rfl, Nat.le_of_ble_eq_true rfl, Nat.le_of_ble_eq_true rfl⟩ hR (rc2_0 w) rfl hl.1 rfl (Nat.le_of_ble_eq_true rfl) dX12_parted_127) (fun r_19 σ_18 H locs h hR => ?_)
  refine lv_iload (pc := 130) hx hb dX12_parted_130 (lv_at hl 0 rfl) ?_
  refine lv_icmp_ne (pc := 132) (tgt := 139) hx hb dX12_parted_132 (by decide) (fun c_20 => ?_) (fun c_20 => ?_)
  · have h := h.2 c_20
    refine lv_iconst (pc := 139) (v := 0) hx hb dX12_parted_139 (by decide) ?_
    exact bX12_parted_140 l w N Q E x1 x2 x3 x4 x5 x7 0 r78 hr78 r27 hr27 r11 hr11 hR (lv_sub hl [1, 2, 3, 4, 5, 6, 7] rfl) h
  · have h := h.1 c_20
    refine lv_iconst (pc := 135) (v := 1) hx hb dX12_parted_135 (by decide) ?_
    refine lv_goto (pc := 136) (tgt := 140) hx hb dX12_parted_136 (by decide) ?_
    exact bX12_parted_140 l w N Q E x1 x2 x3 x4 x5 x7 1 r78 hr78 r27 hr27 r11 hr11 hR (lv_sub hl [1, 2, 3, 4, 5, 6, 7] rfl) h
def fX12_parted_l78 (N : Nat) (r27 : Int32 → St → Prop) (r11 : Int32 → St → Prop) (x1 : Int32) (x2 : Int32) (x3 : Int32) (x4 : Int32) (x5 : Int32) (Q : Int32 → St → Prop) (r78 : Int32 → Int32 → St → Prop) (x6 : Int32) (x7 : Int32) (σ : St) : Prop := ((x5 ≤ x7 → fX12_parted_j148 N r27 r11 x1 x2 x3 x4 x5 x6 Q σ) ∧ (¬ x5 ≤ x7 → ((x6 = 0 → fX12_parted_j148 N r27 r11 x1 x2 x3 x4 x5 x6 Q σ) ∧ (¬ x6 = 0 → ((0 ≤ x1 → vp_in (((120 * x1) + x3) + x7) 2400 ∧ fX12_parted_j120 N r78 r27 r11 x1 x2 x3 x4 x5 x7 (σ.1 20 (((120 * x1) + x3) + x7).toNatClampNeg) Q σ) ∧ (¬ 0 ≤ x1 → vp_in (x3 + x7) 120 ∧ fX12_parted_j120 N r78 r27 r11 x1 x2 x3 x4 x5 x7 (σ.1 3 (x3 + x7).toNatClampNeg) Q σ))))))
set_option maxHeartbeats 4000000 in
set_option maxRecDepth 100000 in
theorem bX12_parted_78 {p : Program} {e : Env} {s : State} {m : MethodId} {args : Array Value} {below : List Frame} {meth : Method} {c : Code} (l : Launch) (w : Wd) (N : Nat) (Q : Int32 → St → Prop) (E : Cx 38 w X2 cX12_parted 9 RX12 (.code yX12_parted cX12_parted 9 (some .int)) (some .int) p s m args meth c) (x1 : Int32) (x2 : Int32) (x3 : Int32) (x4 : Int32) (x5 : Int32) (r27 : Int32 → St → Prop) (hr27 : ∀ (x4 : Int32) (σ : St) (H : Heap) (locs : List Loc) (ls : Array Slot), Rr 38 ev2 w σ s H locs → lv_has ls 9 [(0, .ref (w.2.1 0)), (1, .int x1), (2, .int x2), (3, .int x3), (4, .int x4)] → r27 x4 σ → W p l e rmX12_parted s m args below meth c H locs 0 0 (MQ below (va_Qi Q (Rp 38 ev2 w) (Aw 38 w)) args s 0 0 (Aw 38 w)) (F0 m 27 ls [])) (r11 : Int32 → St → Prop) (hr11 : ∀ (x3 : Int32) (σ : St) (H : Heap) (locs : List Loc) (ls : Array Slot), Rr 38 ev2 w σ s H locs → lv_has ls 9 [(0, .ref (w.2.1 0)), (1, .int x1), (2, .int x2), (3, .int x3)] → r11 x3 σ → W p l e rmX12_parted s m args below meth c H locs 0 0 (MQ below (va_Qi Q (Rp 38 ev2 w) (Aw 38 w)) args s 0 0 (Aw 38 w)) (F0 m 11 ls [])) : ∀ (n : Nat) (x6 : Int32) (x7 : Int32) (σ : St) (H : Heap) (locs : List Loc) (ls : Array Slot), Rr 38 ev2 w σ s H locs → lv_has ls 9 [(0, .ref (w.2.1 0)), (1, .int x1), (2, .int x2), (3, .int x3), (4, .int x4), (5, .int x5), (6, .int x6), (7, .int x7)] → lo2 (fX12_parted_l78 N r27 r11 x1 x2 x3 x4 x5 Q) n x6 x7 σ → W p l e rmX12_parted s m args below meth c H locs 0 0 (MQ below (va_Qi Q (Rp 38 ev2 w) (Aw 38 w)) args s 0 0 (Aw 38 w)) (F0 m 78 ls []) := by
  obtain ⟨hx, hb, hml, hown, hts, hr, hlk, hK, hI, hX⟩ := id E
  intro n
  induction n with
  | zero => intro x6 x7 σ H locs ls hR hl h; exact h.elim
  | succ n ih =>
    intro x6 x7 σ H locs ls hR hl h
    have h : fX12_parted_l78 N r27 r11 x1 x2 x3 x4 x5 Q (lo2 (fX12_parted_l78 N r27 r11 x1 x2 x3 x4 x5 Q) n) x6 x7 σ := h
    unfold fX12_parted_l78 at h
    refine lv_iload (pc := 78) hx hb dX12_parted_78 (lv_at hl 7 rfl) ?_
    refine lv_iload (pc := 80) hx hb dX12_parted_80 (lv_at hl 5 rfl) ?_
    refine lv_icmp_ge (pc := 82) (tgt := 148) hx hb dX12_parted_82 (by decide) (fun c_14 => ?_) (fun c_14 => ?_)
    · have h := h.1 c_14
      exact bX12_parted_148 l w N Q E x1 x2 x3 x4 x5 x6 r27 hr27 r11 hr11 hR (lv_sub hl [0, 1, 2, 3, 4, 5, 6] rfl) h
    · have h := h.2 c_14
      refine lv_iload (pc := 85) hx hb dX12_parted_85 (lv_at hl 6 rfl) ?_
      refine lv_if_eq (pc := 87) (tgt := 148) hx hb dX12_parted_87 (by decide) (fun c_15 => ?_) (fun c_15 => ?_)
      · have h := h.1 c_15
        exact bX12_parted_148 l w N Q E x1 x2 x3 x4 x5 x6 r27 hr27 r11 hr11 hR (lv_sub hl [0, 1, 2, 3, 4, 5, 6] rfl) h
      · have h := h.2 c_15
        refine lv_iload_n (pc := 90) hx hb dX12_parted_90 rfl (lv_at hl 1 rfl) ?_
        refine lv_if_ge (pc := 91) (tgt := 106) hx hb dX12_parted_91 (by decide) (fun c_16 => ?_) (fun c_16 => ?_)
        · have h := h.1 c_16
          refine lv_aload_n (pc := 106) hx hb dX12_parted_106 rfl (lv_at hl 0 rfl) ?_
          refine gf2_0_42 (pc := 107) hx hb hts hown hK hR mw340 dX12_parted_107 ?_
          refine lv_bipush (pc := 110) (v := 120) hx hb dX12_parted_110 (by decide) ?_
          refine lv_iload_n (pc := 112) hx hb dX12_parted_112 rfl (lv_at hl 1 rfl) ?_
          refine lv_imul (pc := 113) hx hb dX12_parted_113 ?_
          refine lv_iload_n (pc := 114) hx hb dX12_parted_114 rfl (lv_at hl 3 rfl) ?_
          refine lv_iadd (pc := 115) hx hb dX12_parted_115 ?_
          refine lv_iload (pc := 116) hx hb dX12_parted_116 (lv_at hl 7 rfl) ?_
          refine lv_iadd (pc := 118) hx hb dX12_parted_118 ?_
          have g_17 := h.1
          have h := h.2
          refine q_iald (pc := 119) hx hb hK hR (k := 20) lt2_20 (ar2_20 _ _ _) g_17 dX12_parted_119 ?_
          exact bX12_parted_120 l w N Q E x1 x2 x3 x4 x5 x7 (σ.1 20 (((120 * x1) + x3) + x7).toNatClampNeg) _ ih r27 hr27 r11 hr11 hR (lv_sub hl [0, 1, 2, 3, 4, 5, 7] rfl) h
        · have h := h.2 c_16
          refine lv_aload_n (pc := 94) hx hb dX12_parted_94 rfl (lv_at hl 0 rfl) ?_
          refine gf2_0_4 (pc := 95) hx hb hts hown hK hR mw329 dX12_parted_95 ?_
          refine lv_iload_n (pc := 98) hx hb dX12_parted_98 rfl (lv_at hl 3 rfl) ?_
          refine lv_iload (pc := 99) hx hb dX12_parted_99 (lv_at hl 7 rfl) ?_
          refine lv_iadd (pc := 101) hx hb dX12_parted_101 ?_
          have g_18 := h.1
          have h := h.2
          refine q_iald (pc := 102) hx hb hK hR (k := 3) lt2_3 (ar2_3 _ _ _) g_18 dX12_parted_102 ?_
          refine lv_goto (pc := 103) (tgt := 120) hx hb dX12_parted_103 (by decide) ?_
          exact bX12_parted_120 l w N Q E x1 x2 x3 x4 x5 x7 (σ.1 3 (x3 + x7).toNatClampNeg) _ ih r27 hr27 r11 hr11 hR (lv_sub hl [0, 1, 2, 3, 4, 5, 7] rfl) h
def fX12_parted_j73 (N : Nat) (r27 : Int32 → St → Prop) (r11 : Int32 → St → Prop) (x1 : Int32) (x2 : Int32) (x3 : Int32) (x4 : Int32) (x5 : Int32) (t0 : Int32) (Q : Int32 → St → Prop) (σ : St) : Prop := lo2 (fX12_parted_l78 N r27 r11 x1 x2 x3 x4 x5 Q) N t0 0 σ
set_option maxHeartbeats 4000000 in
set_option maxRecDepth 100000 in
theorem bX12_parted_73 {p : Program} {e : Env} {s : State} {m : MethodId} {args : Array Value} {below : List Frame} {meth : Method} {c : Code} (l : Launch) (w : Wd) (N : Nat) (Q : Int32 → St → Prop) (E : Cx 38 w X2 cX12_parted 9 RX12 (.code yX12_parted cX12_parted 9 (some .int)) (some .int) p s m args meth c) (x1 : Int32) (x2 : Int32) (x3 : Int32) (x4 : Int32) (x5 : Int32) (t0 : Int32) (r27 : Int32 → St → Prop) (hr27 : ∀ (x4 : Int32) (σ : St) (H : Heap) (locs : List Loc) (ls : Array Slot), Rr 38 ev2 w σ s H locs → lv_has ls 9 [(0, .ref (w.2.1 0)), (1, .int x1), (2, .int x2), (3, .int x3), (4, .int x4)] → r27 x4 σ → W p l e rmX12_parted s m args below meth c H locs 0 0 (MQ below (va_Qi Q (Rp 38 ev2 w) (Aw 38 w)) args s 0 0 (Aw 38 w)) (F0 m 27 ls [])) (r11 : Int32 → St → Prop) (hr11 : ∀ (x3 : Int32) (σ : St) (H : Heap) (locs : List Loc) (ls : Array Slot), Rr 38 ev2 w σ s H locs → lv_has ls 9 [(0, .ref (w.2.1 0)), (1, .int x1), (2, .int x2), (3, .int x3)] → r11 x3 σ → W p l e rmX12_parted s m args below meth c H locs 0 0 (MQ below (va_Qi Q (Rp 38 ev2 w) (Aw 38 w)) args s 0 0 (Aw 38 w)) (F0 m 11 ls [])) {σ : St} {H : Heap} {locs : List Loc} {ls : Array Slot} (hR : Rr 38 ev2 w σ s H locs) (hl : lv_has ls 9 [(0, .ref (w.2.1 0)), (1, .int x1), (2, .int x2), (3, .int x3), (4, .int x4), (5, .int x5)]) (h : fX12_parted_j73 N r27 r11 x1 x2 x3 x4 x5 t0 Q σ) : W p l e rmX12_parted s m args below meth c H locs 0 0 (MQ below (va_Qi Q (Rp 38 ev2 w) (Aw 38 w)) args s 0 0 (Aw 38 w)) (F0 m 73 ls [.int t0]) := by
  obtain ⟨hx, hb, hml, hown, hts, hr, hlk, hK, hI, hX⟩ := id E
  unfold fX12_parted_j73 at h
  refine lv_istore (pc := 73) (lv' := [(6, .int t0), (0, .ref (w.2.1 0)), (1, .int x1), (2, .int x2), (3, .int x3), (4, .int x4), (5, .int x5)]) hx hb dX12_parted_73 hl (by decide) rfl (fun ls hl => ?_)
  refine lv_iconst (pc := 75) (v := 0) hx hb dX12_parted_75 (by decide) ?_
  refine lv_istore (pc := 76) (lv' := [(7, .int 0), (6, .int t0), (0, .ref (w.2.1 0)), (1, .int x1), (2, .int x2), (3, .int x3), (4, .int x4), (5, .int x5)]) hx hb dX12_parted_76 hl (by decide) rfl (fun ls hl => ?_)
  exact bX12_parted_78 l w N Q E x1 x2 x3 x4 x5 r27 hr27 r11 hr11 N t0 0 σ _ _ _ hR (lv_sub hl [2, 3, 4, 5, 6, 7, 1, 0] rfl) h
def fX12_parted_j72 (N : Nat) (r27 : Int32 → St → Prop) (r11 : Int32 → St → Prop) (x1 : Int32) (x2 : Int32) (x3 : Int32) (x4 : Int32) (x5 : Int32) (Q : Int32 → St → Prop) (σ : St) : Prop := fX12_parted_j73 N r27 r11 x1 x2 x3 x4 x5 0 Q σ
set_option maxHeartbeats 4000000 in
set_option maxRecDepth 100000 in
theorem bX12_parted_72 {p : Program} {e : Env} {s : State} {m : MethodId} {args : Array Value} {below : List Frame} {meth : Method} {c : Code} (l : Launch) (w : Wd) (N : Nat) (Q : Int32 → St → Prop) (E : Cx 38 w X2 cX12_parted 9 RX12 (.code yX12_parted cX12_parted 9 (some .int)) (some .int) p s m args meth c) (x1 : Int32) (x2 : Int32) (x3 : Int32) (x4 : Int32) (x5 : Int32) (r27 : Int32 → St → Prop) (hr27 : ∀ (x4 : Int32) (σ : St) (H : Heap) (locs : List Loc) (ls : Array Slot), Rr 38 ev2 w σ s H locs → lv_has ls 9 [(0, .ref (w.2.1 0)), (1, .int x1), (2, .int x2), (3, .int x3), (4, .int x4)] → r27 x4 σ → W p l e rmX12_parted s m args below meth c H locs 0 0 (MQ below (va_Qi Q (Rp 38 ev2 w) (Aw 38 w)) args s 0 0 (Aw 38 w)) (F0 m 27 ls [])) (r11 : Int32 → St → Prop) (hr11 : ∀ (x3 : Int32) (σ : St) (H : Heap) (locs : List Loc) (ls : Array Slot), Rr 38 ev2 w σ s H locs → lv_has ls 9 [(0, .ref (w.2.1 0)), (1, .int x1), (2, .int x2), (3, .int x3)] → r11 x3 σ → W p l e rmX12_parted s m args below meth c H locs 0 0 (MQ below (va_Qi Q (Rp 38 ev2 w) (Aw 38 w)) args s 0 0 (Aw 38 w)) (F0 m 11 ls [])) {σ : St} {H : Heap} {locs : List Loc} {ls : Array Slot} (hR : Rr 38 ev2 w σ s H locs) (hl : lv_has ls 9 [(0, .ref (w.2.1 0)), (1, .int x1), (2, .int x2), (3, .int x3), (4, .int x4), (5, .int x5)]) (h : fX12_parted_j72 N r27 r11 x1 x2 x3 x4 x5 Q σ) : W p l e rmX12_parted s m args below meth c H locs 0 0 (MQ below (va_Qi Q (Rp 38 ev2 w) (Aw 38 w)) args s 0 0 (Aw 38 w)) (F0 m 72 ls []) := by
  obtain ⟨hx, hb, hml, hown, hts, hr, hlk, hK, hI, hX⟩ := id E
  unfold fX12_parted_j72 at h
  refine lv_iconst (pc := 72) (v := 0) hx hb dX12_parted_72 (by decide) ?_
  exact bX12_parted_73 l w N Q E x1 x2 x3 x4 x5 0 r27 hr27 r11 hr11 hR (lv_sub hl [0, 1, 2, 3, 4, 5] rfl) h
def fX12_parted_l27 (N : Nat) (r11 : Int32 → St → Prop) (x1 : Int32) (x2 : Int32) (x3 : Int32) (Q : Int32 → St → Prop) (r27 : Int32 → St → Prop) (x4 : Int32) (σ : St) : Prop := (((σ.1 0 36) ≤ x4 → ∀ v_10 : Int32, v_10 = x3 + (-1) → r11 v_10 σ) ∧ (¬ (σ.1 0 36) ≤ x4 → vp_in x4 60 ∧ ∀ v_12 : Int32, v_12 = σ.1 18 x4.toNatClampNeg → ((x2 < (x3 + v_12) → fX12_parted_j72 N r27 r11 x1 x2 x3 x4 v_12 Q σ) ∧ (¬ x2 < (x3 + v_12) → vp_in (x3 + v_12) 121 ∧ ((1000 ≤ (σ.1 24 (x3 + v_12).toNatClampNeg) → fX12_parted_j72 N r27 r11 x1 x2 x3 x4 v_12 Q σ) ∧ (¬ 1000 ≤ (σ.1 24 (x3 + v_12).toNatClampNeg) → fX12_parted_j73 N r27 r11 x1 x2 x3 x4 v_12 1 Q σ))))))
set_option maxHeartbeats 4000000 in
set_option maxRecDepth 100000 in
theorem bX12_parted_27 {p : Program} {e : Env} {s : State} {m : MethodId} {args : Array Value} {below : List Frame} {meth : Method} {c : Code} (l : Launch) (w : Wd) (N : Nat) (Q : Int32 → St → Prop) (E : Cx 38 w X2 cX12_parted 9 RX12 (.code yX12_parted cX12_parted 9 (some .int)) (some .int) p s m args meth c) (x1 : Int32) (x2 : Int32) (x3 : Int32) (r11 : Int32 → St → Prop) (hr11 : ∀ (x3 : Int32) (σ : St) (H : Heap) (locs : List Loc) (ls : Array Slot), Rr 38 ev2 w σ s H locs → lv_has ls 9 [(0, .ref (w.2.1 0)), (1, .int x1), (2, .int x2), (3, .int x3)] → r11 x3 σ → W p l e rmX12_parted s m args below meth c H locs 0 0 (MQ below (va_Qi Q (Rp 38 ev2 w) (Aw 38 w)) args s 0 0 (Aw 38 w)) (F0 m 11 ls [])) : ∀ (n : Nat) (x4 : Int32) (σ : St) (H : Heap) (locs : List Loc) (ls : Array Slot), Rr 38 ev2 w σ s H locs → lv_has ls 9 [(0, .ref (w.2.1 0)), (1, .int x1), (2, .int x2), (3, .int x3), (4, .int x4)] → lo1 (fX12_parted_l27 N r11 x1 x2 x3 Q) n x4 σ → W p l e rmX12_parted s m args below meth c H locs 0 0 (MQ below (va_Qi Q (Rp 38 ev2 w) (Aw 38 w)) args s 0 0 (Aw 38 w)) (F0 m 27 ls []) := by
  obtain ⟨hx, hb, hml, hown, hts, hr, hlk, hK, hI, hX⟩ := id E
  intro n
  induction n with
  | zero => intro x4 σ H locs ls hR hl h; exact h.elim
  | succ n ih =>
    intro x4 σ H locs ls hR hl h
    have h : fX12_parted_l27 N r11 x1 x2 x3 Q (lo1 (fX12_parted_l27 N r11 x1 x2 x3 Q) n) x4 σ := h
    unfold fX12_parted_l27 at h
    refine lv_iload (pc := 27) hx hb dX12_parted_27 (lv_at hl 4 rfl) ?_
    refine lv_aload_n (pc := 29) hx hb dX12_parted_29 rfl (lv_at hl 0 rfl) ?_
    refine gf2_0_36 (pc := 30) hx hb hts hown hK hR mw330 dX12_parted_30 ?_
    refine lv_icmp_ge (pc := 33) (tgt := 226) hx hb dX12_parted_33 (by decide) (fun c_9 => ?_) (fun c_9 => ?_)
    · have h := h.1 c_9
      obtain ⟨v_10, ev_10⟩ : ∃ z : Int32, z = x3 + (-1) := ⟨_, rfl⟩
      have h := h v_10 ev_10
      refine lv_iinc (pc := 226) (v := v_10) (lv' := [(3, .int v_10), (0, .ref (w.2.1 0)), (1, .int x1), (2, .int x2), (4, .int x4)]) hx hb dX12_parted_226 hl (k := 3) rfl (by rw [ev_10]; rfl) (by decide) rfl (fun ls hl => ?_)
      refine lv_goto (pc := 229) (tgt := 11) hx hb dX12_parted_229 (by decide) ?_
      exact hr11 v_10 σ _ _ _ hR (lv_sub hl [1, 2, 3, 0] rfl) h
    · have h := h.2 c_9
      refine lv_aload_n (pc := 36) hx hb dX12_parted_36 rfl (lv_at hl 0 rfl) ?_
      refine gf2_0_39 (pc := 37) hx hb hts hown hK hR mw333 dX12_parted_37 ?_
      refine lv_iload (pc := 40) hx hb dX12_parted_40 (lv_at hl 4 rfl) ?_
      have g_11 := h.1
      have h := h.2
      refine q_iald (pc := 42) hx hb hK hR (k := 18) lt2_18 (ar2_18 _ _ _) g_11 dX12_parted_42 ?_
      refine lv_topi (pc := 43) (fun v_12 ev_12 => ?_)
      have h := h v_12 ev_12
      refine lv_istore (pc := 43) (lv' := [(5, .int v_12), (0, .ref (w.2.1 0)), (1, .int x1), (2, .int x2), (3, .int x3), (4, .int x4)]) hx hb dX12_parted_43 hl (by decide) rfl (fun ls hl => ?_)
      refine lv_iload_n (pc := 45) hx hb dX12_parted_45 rfl (lv_at hl 4 rfl) ?_
      refine lv_iload (pc := 46) hx hb dX12_parted_46 (lv_at hl 0 rfl) ?_
      refine lv_iadd (pc := 48) hx hb dX12_parted_48 ?_
      refine lv_iload_n (pc := 49) hx hb dX12_parted_49 rfl (lv_at hl 3 rfl) ?_
      refine lv_icmp_gt (pc := 50) (tgt := 72) hx hb dX12_parted_50 (by decide) (fun c_13 => ?_) (fun c_13 => ?_)
      · have h := h.1 c_13
        exact bX12_parted_72 l w N Q E x1 x2 x3 x4 v_12 _ ih r11 hr11 hR (lv_sub hl [1, 2, 3, 4, 5, 0] rfl) h
      · have h := h.2 c_13
        refine lv_aload_n (pc := 53) hx hb dX12_parted_53 rfl (lv_at hl 1 rfl) ?_
        refine gf2_0_47 (pc := 54) hx hb hts hown hK hR mw337 dX12_parted_54 ?_
        refine lv_iload_n (pc := 57) hx hb dX12_parted_57 rfl (lv_at hl 4 rfl) ?_
        refine lv_iload (pc := 58) hx hb dX12_parted_58 (lv_at hl 0 rfl) ?_
        refine lv_iadd (pc := 60) hx hb dX12_parted_60 ?_
        have g_14 := h.1
        have h := h.2
        refine q_iald (pc := 61) hx hb hK hR (k := 24) lt2_24 (ar2_24 _ _ _) g_14 dX12_parted_61 ?_
        refine lv_sipush (pc := 62) (v := 1000) hx hb dX12_parted_62 (by decide) ?_
        refine lv_icmp_ge (pc := 65) (tgt := 72) hx hb dX12_parted_65 (by decide) (fun c_15 => ?_) (fun c_15 => ?_)
        · have h := h.1 c_15
          exact bX12_parted_72 l w N Q E x1 x2 x3 x4 v_12 _ ih r11 hr11 hR (lv_sub hl [1, 2, 3, 4, 5, 0] rfl) h
        · have h := h.2 c_15
          refine lv_iconst (pc := 68) (v := 1) hx hb dX12_parted_68 (by decide) ?_
          refine lv_goto (pc := 69) (tgt := 73) hx hb dX12_parted_69 (by decide) ?_
          exact bX12_parted_73 l w N Q E x1 x2 x3 x4 v_12 1 _ ih r11 hr11 hR (lv_sub hl [1, 2, 3, 4, 5, 0] rfl) h
def fX12_parted_l11 (N : Nat) (x1 : Int32) (x2 : Int32) (Q : Int32 → St → Prop) (r11 : Int32 → St → Prop) (x3 : Int32) (σ : St) : Prop := ((x3 < 0 → vp_in 0 121 ∧ (((σ.1 24 (0 : Int32).toNatClampNeg) = 1000 → Q (-1) σ) ∧ (¬ (σ.1 24 (0 : Int32).toNatClampNeg) = 1000 → lo2 (fX12_parted_l251 N Q) N 0 0 σ))) ∧ (¬ x3 < 0 → vp_in x3 121 ∧ ∀ σ_8 : St, σ_8 = u1 σ 24 x3.toNatClampNeg 1000 → lo1 (fX12_parted_l27 N r11 x1 x2 x3 Q) N 0 σ_8))
set_option maxHeartbeats 4000000 in
set_option maxRecDepth 100000 in
theorem bX12_parted_11 {p : Program} {e : Env} {s : State} {m : MethodId} {args : Array Value} {below : List Frame} {meth : Method} {c : Code} (l : Launch) (w : Wd) (N : Nat) (Q : Int32 → St → Prop) (E : Cx 38 w X2 cX12_parted 9 RX12 (.code yX12_parted cX12_parted 9 (some .int)) (some .int) p s m args meth c) (x1 : Int32) (x2 : Int32) : ∀ (n : Nat) (x3 : Int32) (σ : St) (H : Heap) (locs : List Loc) (ls : Array Slot), Rr 38 ev2 w σ s H locs → lv_has ls 9 [(0, .ref (w.2.1 0)), (1, .int x1), (2, .int x2), (3, .int x3)] → lo1 (fX12_parted_l11 N x1 x2 Q) n x3 σ → W p l e rmX12_parted s m args below meth c H locs 0 0 (MQ below (va_Qi Q (Rp 38 ev2 w) (Aw 38 w)) args s 0 0 (Aw 38 w)) (F0 m 11 ls []) := by
  obtain ⟨hx, hb, hml, hown, hts, hr, hlk, hK, hI, hX⟩ := id E
  intro n
  induction n with
  | zero => intro x3 σ H locs ls hR hl h; exact h.elim
  | succ n ih =>
    intro x3 σ H locs ls hR hl h
    have h : fX12_parted_l11 N x1 x2 Q (lo1 (fX12_parted_l11 N x1 x2 Q) n) x3 σ := h
    unfold fX12_parted_l11 at h
    refine lv_iload_n (pc := 11) hx hb dX12_parted_11 rfl (lv_at hl 3 rfl) ?_
    refine lv_if_lt (pc := 12) (tgt := 232) hx hb dX12_parted_12 (by decide) (fun c_4 => ?_) (fun c_4 => ?_)
    · have h := h.1 c_4
      refine lv_aload_n (pc := 232) hx hb dX12_parted_232 rfl (lv_at hl 0 rfl) ?_
      refine gf2_0_47 (pc := 233) hx hb hts hown hK hR mw337 dX12_parted_233 ?_
      refine lv_iconst (pc := 236) (v := 0) hx hb dX12_parted_236 (by decide) ?_
      have g_5 := h.1
      have h := h.2
      refine q_iald (pc := 237) hx hb hK hR (k := 24) lt2_24 (ar2_24 _ _ _) g_5 dX12_parted_237 ?_
      refine lv_sipush (pc := 238) (v := 1000) hx hb dX12_parted_238 (by decide) ?_
      refine lv_icmp_ne (pc := 241) (tgt := 246) hx hb dX12_parted_241 (by decide) (fun c_6 => ?_) (fun c_6 => ?_)
      · have h := h.2 c_6
        refine lv_iconst (pc := 246) (v := 0) hx hb dX12_parted_246 (by decide) ?_
        refine lv_istore_n (pc := 247) (lv' := [(3, .int 0), (0, .ref (w.2.1 0)), (1, .int x1), (2, .int x2)]) hx hb dX12_parted_247 rfl hl (by decide) rfl (fun ls hl => ?_)
        refine lv_iconst (pc := 248) (v := 0) hx hb dX12_parted_248 (by decide) ?_
        refine lv_istore (pc := 249) (lv' := [(4, .int 0), (3, .int 0), (0, .ref (w.2.1 0)), (1, .int x1), (2, .int x2)]) hx hb dX12_parted_249 hl (by decide) rfl (fun ls hl => ?_)
        exact bX12_parted_251 l w N Q E N 0 0 σ _ _ _ hR (lv_sub hl [2, 1, 0] rfl) h
      · have h := h.1 c_6
        refine lv_iconst (pc := 244) (v := (-1)) hx hb dX12_parted_244 (by decide) ?_
        exact q_iret (pc := 245) E hR h dX12_parted_245
    · have h := h.2 c_4
      refine lv_aload_n (pc := 15) hx hb dX12_parted_15 rfl (lv_at hl 0 rfl) ?_
      refine gf2_0_47 (pc := 16) hx hb hts hown hK hR mw337 dX12_parted_16 ?_
      refine lv_iload_n (pc := 19) hx hb dX12_parted_19 rfl (lv_at hl 3 rfl) ?_
      refine lv_sipush (pc := 20) (v := 1000) hx hb dX12_parted_20 (by decide) ?_
      have g_7 := h.1
      have h := h.2
      refine q_iast (pc := 23) hx hb hK hI hR (k := 24) lt2_24 (fun f => (ar2_24 _ f _)) g_7 dX12_parted_23 (fun H locs σ_8 eσ_8 hR => ?_)
      have h := h σ_8 eσ_8
      refine lv_iconst (pc := 24) (v := 0) hx hb dX12_parted_24 (by decide) ?_
      refine lv_istore (pc := 25) (lv' := [(4, .int 0), (0, .ref (w.2.1 0)), (1, .int x1), (2, .int x2), (3, .int x3)]) hx hb dX12_parted_25 hl (by decide) rfl (fun ls hl => ?_)
      exact bX12_parted_27 l w N Q E x1 x2 x3 _ ih N 0 σ_8 _ _ _ hR (lv_sub hl [1, 2, 3, 4, 0] rfl) h
def fX12_parted (N : Nat) (x1 : Int32) (x2 : Int32) (Q : Int32 → St → Prop) (σ : St) : Prop := vp_in x2 121 ∧ ∀ σ_2 : St, σ_2 = u1 σ 24 x2.toNatClampNeg 0 → ∀ v_3 : Int32, v_3 = x2 - 1 → lo1 (fX12_parted_l11 N x1 x2 Q) N v_3 σ_2
set_option maxHeartbeats 4000000 in
set_option maxRecDepth 100000 in
theorem bX12_parted_e {p : Program} {e : Env} {s : State} {m : MethodId} {args : Array Value} {below : List Frame} {meth : Method} {c : Code} (l : Launch) (w : Wd) (N : Nat) (Q : Int32 → St → Prop) (E : Cx 38 w X2 cX12_parted 9 RX12 (.code yX12_parted cX12_parted 9 (some .int)) (some .int) p s m args meth c) (x1 : Int32) (x2 : Int32) {σ : St} {H : Heap} {locs : List Loc} {ls : Array Slot} (hR : Rr 38 ev2 w σ s H locs) (hl : lv_has ls 9 [(0, .ref (w.2.1 0)), (1, .int x1), (2, .int x2)]) (h : fX12_parted N x1 x2 Q σ) : W p l e rmX12_parted s m args below meth c H locs 0 0 (MQ below (va_Qi Q (Rp 38 ev2 w) (Aw 38 w)) args s 0 0 (Aw 38 w)) (F0 m 0 ls []) := by
  obtain ⟨hx, hb, hml, hown, hts, hr, hlk, hK, hI, hX⟩ := id E
  unfold fX12_parted at h
  refine lv_aload_n (pc := 0) hx hb dX12_parted_0 rfl (lv_at hl 0 rfl) ?_
  refine gf2_0_47 (pc := 1) hx hb hts hown hK hR mw337 dX12_parted_1 ?_
  refine lv_iload_n (pc := 4) hx hb dX12_parted_4 rfl (lv_at hl 2 rfl) ?_
  refine lv_iconst (pc := 5) (v := 0) hx hb dX12_parted_5 (by decide) ?_
  have g_1 := h.1
  have h := h.2
  refine q_iast (pc := 6) hx hb hK hI hR (k := 24) lt2_24 (fun f => (ar2_24 _ f _)) g_1 dX12_parted_6 (fun H locs σ_2 eσ_2 hR => ?_)
  have h := h σ_2 eσ_2
  refine lv_iload_n (pc := 7) hx hb dX12_parted_7 rfl (lv_at hl 2 rfl) ?_
  refine lv_iconst (pc := 8) (v := 1) hx hb dX12_parted_8 (by decide) ?_
  refine lv_isub (pc := 9) hx hb dX12_parted_9 ?_
  refine lv_topi (pc := 10) (fun v_3 ev_3 => ?_)
  have h := h v_3 ev_3
  refine lv_istore_n (pc := 10) (lv' := [(3, .int v_3), (0, .ref (w.2.1 0)), (1, .int x1), (2, .int x2)]) hx hb dX12_parted_10 rfl hl (by decide) rfl (fun ls hl => ?_)
  exact bX12_parted_11 l w N Q E x1 x2 N v_3 σ_2 _ _ _ hR (lv_sub hl [1, 2, 3, 0] rfl) h
theorem cX12_parted_met (l : Launch) (w : Wd) (hI : Ij 38 w) (N : Nat) (x1 : Int32) (x2 : Int32) (Q : Int32 → St → Prop) (σ : St) (h : fX12_parted N x1 x2 Q σ) : Met l yX12_parted (.code yX12_parted cX12_parted 9 (some .int) :: Uw) rmX12_parted (va_Pc [.ref (w.2.1 0), .int x1, .int x2] (fun U => Rp 38 ev2 w σ U ∧ X2 U)) (va_Qi Q (Rp 38 ev2 w) (Aw 38 w)) 0 0 (Aw 38 w) :=
  q_met (by decide) (Nat.le_of_ble_eq_true rfl) hI (fun p e s m below meth c ls E hl hR => bX12_parted_e l w N Q E x1 x2 hR hl h)
