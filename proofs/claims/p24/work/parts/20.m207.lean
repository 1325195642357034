-- GlulxStringsModel.text()I
abbrev rmX12_text : Room := { frames := 2, cells := 0, slots := 0, locals := 50 }
def fX12_text_l36 (N : Nat) (x1 : Int32) (Q : Int32 → St → Prop) (r36 : Int32 → St → Prop) (x2 : Int32) (σ : St) : Prop := ((x1 ≤ x2 → vp_in (σ.1 0 41) 20 ∧ ∀ σ_9 : St, σ_9 = u1 σ 21 (σ.1 0 41).toNatClampNeg x1 → vp_in (σ_9.1 0 41) 20 ∧ ∀ σ_11 : St, σ_11 = u1 σ_9 22 (σ_9.1 0 41).toNatClampNeg (-1) → vp_in (σ_11.1 0 41) 20 ∧ ∀ σ_13 : St, σ_13 = u1 σ_11 23 (σ_11.1 0 41).toNatClampNeg 0 → ∀ v_14 : Int32, v_14 = (σ_13.1 0 41) + 1 → ∀ σ_15 : St, σ_15 = u1 σ_13 0 41 v_14 → Q ((σ_15.1 0 41) - 1) σ_15) ∧ (¬ x1 ≤ x2 → vp_in x2 120 ∧ ∀ v_17 : Int32, v_17 = σ.1 3 x2.toNatClampNeg → vp_in ((120 * (σ.1 0 41)) + x2) 2400 ∧ ∀ σ_19 : St, σ_19 = u1 σ 20 ((120 * (σ.1 0 41)) + x2).toNatClampNeg v_17 → ∀ v_20 : Int32, v_20 = x2 + 1 → r36 v_20 σ_19))
set_option maxHeartbeats 4000000 in
set_option maxRecDepth 100000 in
theorem bX12_text_36 {p : Program} {e : Env} {s : State} {m : MethodId} {args : Array Value} {below : List Frame} {meth : Method} {c : Code} (l : Launch) (w : Wd) (N : Nat) (Q : Int32 → St → Prop) (E : Cx 38 w X2 cX12_text 3 RX12 (.code yX12_text cX12_text 3 (some .int)) (some .int) p s m args meth c) (x1 : Int32) : ∀ (n : Nat) (x2 : Int32) (σ : St) (H : Heap) (locs : List Loc) (ls : Array Slot), Rr 38 ev2 w σ s H locs → lv_has ls 3 [(0, .ref (w.2.1 0)), (1, .int x1), (2, .int x2)] → lo1 (fX12_text_l36 N x1 Q) n x2 σ → W p l e rmX12_text s m args below meth c H locs 0 0 (MQ below (va_Qi Q (Rp 38 ev2 w) (Aw 38 w)) args s 0 0 (Aw 38 w)) (F0 m 36 ls []) := by
  obtain ⟨hx, hb, hml, hown, hts, hr, hlk, hK, hI, hX⟩ := id E
  intro n
  induction n with
  | zero => intro x2 σ H locs ls hR hl h; exact h.elim
  | succ n ih =>
    intro x2 σ H locs ls hR hl h
    have h : fX12_text_l36 N x1 Q (lo1 (fX12_text_l36 N x1 Q) n) x2 σ := h
    unfold fX12_text_l36 at h
    refine lv_iload_n (pc := 36) hx hb dX12_text_36 rfl (lv_at hl 2 rfl) ?_
    refine lv_iload_n (pc := 37) hx hb dX12_text_37 rfl (lv_at hl 1 rfl) ?_
    refine lv_icmp_ge (pc := 38) (tgt := 67) hx hb dX12_text_38 (by decide) (fun c_7 => ?_) (fun c_7 => ?_)
    · have h := h.1 c_7
      refine lv_aload_n (pc := 67) hx hb dX12_text_67 rfl (lv_at hl 0 rfl) ?_
      refine gf2_0_43 (pc := 68) hx hb hts hown hK hR mw343 dX12_text_68 ?_
      refine lv_aload_n (pc := 71) hx hb dX12_text_71 rfl (lv_at hl 0 rfl) ?_
      refine gf2_0_41 (pc := 72) hx hb hts hown hK hR mw331 dX12_text_72 ?_
      refine lv_iload_n (pc := 75) hx hb dX12_text_75 rfl (lv_at hl 1 rfl) ?_
      have g_8 := h.1
      have h := h.2
      refine q_iast (pc := 76) hx hb hK hI hR (k := 21) lt2_21 (fun f => (ar2_21 _ f _)) g_8 dX12_text_76 (fun H locs σ_9 eσ_9 hR => ?_)
      have h := h σ_9 eσ_9
      refine lv_aload_n (pc := 77) hx hb dX12_text_77 rfl (lv_at hl 0 rfl) ?_
      refine gf2_0_44 (pc := 78) hx hb hts hown hK hR mw344 dX12_text_78 ?_
      refine lv_aload_n (pc := 81) hx hb dX12_text_81 rfl (lv_at hl 0 rfl) ?_
      refine gf2_0_41 (pc := 82) hx hb hts hown hK hR mw331 dX12_text_82 ?_
      refine lv_iconst (pc := 85) (v := (-1)) hx hb dX12_text_85 (by decide) ?_
      have g_10 := h.1
      have h := h.2
      refine q_iast (pc := 86) hx hb hK hI hR (k := 22) lt2_22 (fun f => (ar2_22 _ f _)) g_10 dX12_text_86 (fun H locs σ_11 eσ_11 hR => ?_)
      have h := h σ_11 eσ_11
      refine lv_aload_n (pc := 87) hx hb dX12_text_87 rfl (lv_at hl 0 rfl) ?_
      refine gf2_0_45 (pc := 88) hx hb hts hown hK hR mw345 dX12_text_88 ?_
      refine lv_aload_n (pc := 91) hx hb dX12_text_91 rfl (lv_at hl 0 rfl) ?_
      refine gf2_0_41 (pc := 92) hx hb hts hown hK hR mw331 dX12_text_92 ?_
      refine lv_iconst (pc := 95) (v := 0) hx hb dX12_text_95 (by decide) ?_
      have g_12 := h.1
      have h := h.2
      refine q_iast (pc := 96) hx hb hK hI hR (k := 23) lt2_23 (fun f => (ar2_23 _ f _)) g_12 dX12_text_96 (fun H locs σ_13 eσ_13 hR => ?_)
      have h := h σ_13 eσ_13
      refine lv_aload_n (pc := 97) hx hb dX12_text_97 rfl (lv_at hl 0 rfl) ?_
      refine lv_dup (pc := 98) hx hb dX12_text_98 rfl ?_
      refine gf2_0_41 (pc := 99) hx hb hts hown hK hR mw331 dX12_text_99 ?_
      refine lv_iconst (pc := 102) (v := 1) hx hb dX12_text_102 (by decide) ?_
      refine lv_iadd (pc := 103) hx hb dX12_text_103 ?_
      refine lv_topi (pc := 104) (fun v_14 ev_14 => ?_)
      have h := h v_14 ev_14
      refine pf2_0_41 (pc := 104) hx hb hts hown hK hI hR mw331 dX12_text_104 (fun H locs σ_15 eσ_15 hR => ?_)
      have h := h σ_15 eσ_15
      refine lv_aload_n (pc := 107) hx hb dX12_text_107 rfl (lv_at hl 0 rfl) ?_
      refine gf2_0_41 (pc := 108) hx hb hts hown hK hR mw331 dX12_text_108 ?_
      refine lv_iconst (pc := 111) (v := 1) hx hb dX12_text_111 (by decide) ?_
      refine lv_isub (pc := 112) hx hb dX12_text_112 ?_
      exact q_iret (pc := 113) E hR h dX12_text_113
    · have h := h.2 c_7
      refine lv_aload_n (pc := 41) hx hb dX12_text_41 rfl (lv_at hl 0 rfl) ?_
      refine gf2_0_42 (pc := 42) hx hb hts hown hK hR mw340 dX12_text_42 ?_
      refine lv_bipush (pc := 45) (v := 120) hx hb dX12_text_45 (by decide) ?_
      refine lv_aload_n (pc := 47) hx hb dX12_text_47 rfl (lv_at hl 0 rfl) ?_
      refine gf2_0_41 (pc := 48) hx hb hts hown hK hR mw331 dX12_text_48 ?_
      refine lv_imul (pc := 51) hx hb dX12_text_51 ?_
      refine lv_iload_n (pc := 52) hx hb dX12_text_52 rfl (lv_at hl 2 rfl) ?_
      refine lv_iadd (pc := 53) hx hb dX12_text_53 ?_
      refine lv_aload_n (pc := 54) hx hb dX12_text_54 rfl (lv_at hl 0 rfl) ?_
      refine gf2_0_4 (pc := 55) hx hb hts hown hK hR mw329 dX12_text_55 ?_
      refine lv_iload_n (pc := 58) hx hb dX12_text_58 rfl (lv_at hl 2 rfl) ?_
      have g_16 := h.1
      have h := h.2
      refine q_iald (pc := 59) hx hb hK hR (k := 3) lt2_3 (ar2_3 _ _ _) g_16 dX12_text_59 ?_
      refine lv_topi (pc := 60) (fun v_17 ev_17 => ?_)
      have h := h v_17 ev_17
      have g_18 := h.1
      have h := h.2
      refine q_iast (pc := 60) hx hb hK hI hR (k := 20) lt2_20 (fun f => (ar2_20 _ f _)) g_18 dX12_text_60 (fun H locs σ_19 eσ_19 hR => ?_)
      have h := h σ_19 eσ_19
      obtain ⟨v_20, ev_20⟩ : ∃ z : Int32, z = x2 + 1 := ⟨_, rfl⟩
      have h := h v_20 ev_20
      refine lv_iinc (pc := 61) (v := v_20) (lv' := [(2, .int v_20), (0, .ref (w.2.1 0)), (1, .int x1)]) hx hb dX12_text_61 hl (k := 2) rfl (by rw [ev_20]; rfl) (by decide) rfl (fun ls hl => ?_)
      refine lv_goto (pc := 64) (tgt := 36) hx hb dX12_text_64 (by decide) ?_
      exact ih v_20 σ_19 _ _ _ hR (lv_sub hl [1, 2, 0] rfl) h
def fX12_text (N : Nat) (Q : Int32 → St → Prop) (σ : St) : Prop := ∀ v_1 : Int32, v_1 = σ.1 0 5 → ∀ σ_2 : St, σ_2 = u1 σ 0 5 0 → fX12_parted N (-1) v_1 (fun r_4 σ_3 => ((0 ≤ r_4 → (((σ_3.1 0 41) = 20 → Q (-4) σ_3) ∧ (¬ (σ_3.1 0 41) = 20 → lo1 (fX12_text_l36 N v_1 Q) N 0 σ_3))) ∧ (¬ 0 ≤ r_4 → Q (-3) σ_3))) σ_2
set_option maxHeartbeats 4000000 in
set_option maxRecDepth 100000 in
theorem bX12_text_e {p : Program} {e : Env} {s : State} {m : MethodId} {args : Array Value} {below : List Frame} {meth : Method} {c : Code} (l : Launch) (w : Wd) (N : Nat) (Q : Int32 → St → Prop) (E : Cx 38 w X2 cX12_text 3 RX12 (.code yX12_text cX12_text 3 (some .int)) (some .int) p s m args meth c) {σ : St} {H : Heap} {locs : List Loc} {ls : Array Slot} (hR : Rr 38 ev2 w σ s H locs) (hl : lv_has ls 3 [(0, .ref (w.2.1 0))]) (h : fX12_text N Q σ) : W p l e rmX12_text s m args below meth c H locs 0 0 (MQ below (va_Qi Q (Rp 38 ev2 w) (Aw 38 w)) args s 0 0 (Aw 38 w)) (F0 m 0 ls []) := by
  obtain ⟨hx, hb, hml, hown, hts, hr, hlk, hK, hI, hX⟩ := id E
  unfold fX12_text at h
  refine lv_aload_n (pc := 0) hx hb dX12_text_0 rfl (lv_at hl 0 rfl) ?_
  refine gf2_0_5 (pc := 1) hx hb hts hown hK hR mw328 dX12_text_1 ?_
  refine lv_topi (pc := 4) (fun v_1 ev_1 => ?_)
  have h := h v_1 ev_1
  refine lv_istore_n (pc := 4) (lv' := [(1, .int v_1), (0, .ref (w.2.1 0))]) hx hb dX12_text_4 rfl hl (by decide) rfl (fun ls hl => ?_)
  refine lv_aload_n (pc := 5) hx hb dX12_text_5 rfl (lv_at hl 1 rfl) ?_
  refine lv_iconst (pc := 6) (v := 0) hx hb dX12_text_6 (by decide) ?_
  refine pf2_0_5 (pc := 7) hx hb hts hown hK hI hR mw328 dX12_text_7 (fun H locs σ_2 eσ_2 hR => ?_)
  have h := h σ_2 eσ_2
  refine lv_aload_n (pc := 10) hx hb dX12_text_10 rfl (lv_at hl 1 rfl) ?_
  refine lv_iconst (pc := 11) (v := (-1)) hx hb dX12_text_11 (by decide) ?_
  refine lv_iload_n (pc := 12) hx hb dX12_text_12 rfl (lv_at hl 0 rfl) ?_
  refine q_ci (pc := 13) hR (q_rV E (xp2 w) (As := [.int (-1), .int v_1]) (rest := []) (cX12_parted_met l w hI N (-1) v_1 _ σ_2 h) ckX12_parted cvX12_parted mw342 ⟨rfl, rfl, Nat.le_of_ble_eq_true rfl, Nat.le_of_ble_eq_true rfl⟩ hR (rc2_0 w) rfl hl.1 rfl (Nat.le_of_ble_eq_true rfl) dX12_text_13) (fun r_4 σ_3 H locs h hR => ?_)
  refine lv_if_ge (pc := 16) (tgt := 22) hx hb dX12_text_16 (by decide) (fun c_5 => ?_) (fun c_5 => ?_)
  · have h := h.1 c_5
    refine lv_aload_n (pc := 22) hx hb dX12_text_22 rfl (lv_at hl 1 rfl) ?_
    refine gf2_0_41 (pc := 23) hx hb hts hown hK hR mw331 dX12_text_23 ?_
    refine lv_bipush (pc := 26) (v := 20) hx hb dX12_text_26 (by decide) ?_
    refine lv_icmp_ne (pc := 28) (tgt := 34) hx hb dX12_text_28 (by decide) (fun c_6 => ?_) (fun c_6 => ?_)
    · have h := h.2 c_6
      refine lv_iconst (pc := 34) (v := 0) hx hb dX12_text_34 (by decide) ?_
      refine lv_istore_n (pc := 35) (lv' := [(2, .int 0), (1, .int v_1), (0, .ref (w.2.1 0))]) hx hb dX12_text_35 rfl hl (by decide) rfl (fun ls hl => ?_)
      exact bX12_text_36 l w N Q E v_1 N 0 σ_3 _ _ _ hR (lv_sub hl [2, 1, 0] rfl) h
    · have h := h.1 c_6
      refine lv_bipush (pc := 31) (v := (-4)) hx hb dX12_text_31 (by decide) ?_
      exact q_iret (pc := 33) E hR h dX12_text_33
  · have h := h.2 c_5
    refine lv_bipush (pc := 19) (v := (-3)) hx hb dX12_text_19 (by decide) ?_
    exact q_iret (pc := 21) E hR h dX12_text_21
theorem cX12_text_met (l : Launch) (w : Wd) (hI : Ij 38 w) (N : Nat) (Q : Int32 → St → Prop) (σ : St) (h : fX12_text N Q σ) : Met l yX12_text (.code yX12_text cX12_text 3 (some .int) :: Uw) rmX12_text (va_Pc [.ref (w.2.1 0)] (fun U => Rp 38 ev2 w σ U ∧ X2 U)) (va_Qi Q (Rp 38 ev2 w) (Aw 38 w)) 0 0 (Aw 38 w) :=
  q_met (by decide) (Nat.le_of_ble_eq_true rfl) hI (fun p e s m below meth c ls E hl hR => bX12_text_e l w N Q E hR hl h)
-- GlulxStringsModel.leaf(III)V
abbrev rmX12_leaf : Room := { frames := 0, cells := 0, slots := 0, locals := 0 }
def fX12_leaf (N : Nat) (x1 : Int32) (x2 : Int32) (x3 : Int32) (Q : St → Prop) (σ : St) : Prop := vp_in (σ.1 0 50) 122 ∧ ∀ σ_2 : St, σ_2 = u1 σ 27 (σ.1 0 50).toNatClampNeg x1 → vp_in (σ_2.1 0 50) 122 ∧ ∀ σ_4 : St, σ_4 = u1 σ_2 28 (σ_2.1 0 50).toNatClampNeg x2 → vp_in (σ_4.1 0 50) 122 ∧ ∀ σ_6 : St, σ_6 = u1 σ_4 29 (σ_4.1 0 50).toNatClampNeg (vp_nar .boolean 1) → vp_in (σ_6.1 0 50) 122 ∧ ∀ σ_8 : St, σ_8 = u1 σ_6 33 (σ_6.1 0 50).toNatClampNeg x3 → vp_in (σ_8.1 0 50) 122 ∧ ∀ σ_10 : St, σ_10 = u1 σ_8 32 (σ_8.1 0 50).toNatClampNeg (-1) → ∀ v_11 : Int32, v_11 = (σ_10.1 0 50) + 1 → ∀ σ_12 : St, σ_12 = u1 σ_10 0 50 v_11 → Q σ_12
set_option maxHeartbeats 4000000 in
set_option maxRecDepth 100000 in
theorem bX12_leaf_e {p : Program} {e : Env} {s : State} {m : MethodId} {args : Array Value} {below : List Frame} {meth : Method} {c : Code} (l : Launch) (w : Wd) (N : Nat) (Q : St → Prop) (E : Cx 38 w X2 cX12_leaf 4 RX12 (.code yX12_leaf cX12_leaf 4 none) none p s m args meth c) (x1 : Int32) (x2 : Int32) (x3 : Int32) {σ : St} {H : Heap} {locs : List Loc} {ls : Array Slot} (hR : Rr 38 ev2 w σ s H locs) (hl : lv_has ls 4 [(0, .ref (w.2.1 0)), (1, .int x1), (2, .int x2), (3, .int x3)]) (h : fX12_leaf N x1 x2 x3 Q σ) : W p l e rmX12_leaf s m args below meth c H locs 0 0 (MQ below (va_Qv Q (Rp 38 ev2 w) (Aw 38 w)) args s 0 0 (Aw 38 w)) (F0 m 0 ls []) := by
  obtain ⟨hx, hb, hml, hown, hts, hr, hlk, hK, hI, hX⟩ := id E
  unfold fX12_leaf at h
  refine lv_aload_n (pc := 0) hx hb dX12_leaf_0 rfl (lv_at hl 0 rfl) ?_
  refine gf2_0_52 (pc := 1) hx hb hts hown hK hR mw346 dX12_leaf_1 ?_
  refine lv_aload_n (pc := 4) hx hb dX12_leaf_4 rfl (lv_at hl 0 rfl) ?_
  refine gf2_0_50 (pc := 5) hx hb hts hown hK hR mw347 dX12_leaf_5 ?_
  refine lv_iload_n (pc := 8) hx hb dX12_leaf_8 rfl (lv_at hl 1 rfl) ?_
  have g_1 := h.1
  have h := h.2
  refine q_iast (pc := 9) hx hb hK hI hR (k := 27) lt2_27 (fun f => (ar2_27 _ f _)) g_1 dX12_leaf_9 (fun H locs σ_2 eσ_2 hR => ?_)
  have h := h σ_2 eσ_2
  refine lv_aload_n (pc := 10) hx hb dX12_leaf_10 rfl (lv_at hl 0 rfl) ?_
  refine gf2_0_53 (pc := 11) hx hb hts hown hK hR mw348 dX12_leaf_11 ?_
  refine lv_aload_n (pc := 14) hx hb dX12_leaf_14 rfl (lv_at hl 0 rfl) ?_
  refine gf2_0_50 (pc := 15) hx hb hts hown hK hR mw347 dX12_leaf_15 ?_
  refine lv_iload_n (pc := 18) hx hb dX12_leaf_18 rfl (lv_at hl 2 rfl) ?_
  have g_3 := h.1
  have h := h.2
  refine q_iast (pc := 19) hx hb hK hI hR (k := 28) lt2_28 (fun f => (ar2_28 _ f _)) g_3 dX12_leaf_19 (fun H locs σ_4 eσ_4 hR => ?_)
  have h := h σ_4 eσ_4
  refine lv_aload_n (pc := 20) hx hb dX12_leaf_20 rfl (lv_at hl 0 rfl) ?_
  refine gf2_0_54 (pc := 21) hx hb hts hown hK hR mw349 dX12_leaf_21 ?_
  refine lv_aload_n (pc := 24) hx hb dX12_leaf_24 rfl (lv_at hl 0 rfl) ?_
  refine gf2_0_50 (pc := 25) hx hb hts hown hK hR mw347 dX12_leaf_25 ?_
  refine lv_iconst (pc := 28) (v := 1) hx hb dX12_leaf_28 (by decide) ?_
  have g_5 := h.1
  have h := h.2
  refine q_zast (pc := 29) hx hb hK hI hR (k := 29) lt2_29 (fun f => (ar2_29 _ f _)) g_5 dX12_leaf_29 (fun H locs σ_6 eσ_6 hR => ?_)
  have h := h σ_6 eσ_6
  refine lv_aload_n (pc := 30) hx hb dX12_leaf_30 rfl (lv_at hl 0 rfl) ?_
  refine gf2_0_58 (pc := 31) hx hb hts hown hK hR mw350 dX12_leaf_31 ?_
  refine lv_aload_n (pc := 34) hx hb dX12_leaf_34 rfl (lv_at hl 0 rfl) ?_
  refine gf2_0_50 (pc := 35) hx hb hts hown hK hR mw347 dX12_leaf_35 ?_
  refine lv_iload_n (pc := 38) hx hb dX12_leaf_38 rfl (lv_at hl 3 rfl) ?_
  have g_7 := h.1
  have h := h.2
  refine q_iast (pc := 39) hx hb hK hI hR (k := 33) lt2_33 (fun f => (ar2_33 _ f _)) g_7 dX12_leaf_39 (fun H locs σ_8 eσ_8 hR => ?_)
  have h := h σ_8 eσ_8
  refine lv_aload_n (pc := 40) hx hb dX12_leaf_40 rfl (lv_at hl 0 rfl) ?_
  refine gf2_0_57 (pc := 41) hx hb hts hown hK hR mw351 dX12_leaf_41 ?_
  refine lv_aload_n (pc := 44) hx hb dX12_leaf_44 rfl (lv_at hl 0 rfl) ?_
  refine gf2_0_50 (pc := 45) hx hb hts hown hK hR mw347 dX12_leaf_45 ?_
  refine lv_iconst (pc := 48) (v := (-1)) hx hb dX12_leaf_48 (by decide) ?_
  have g_9 := h.1
  have h := h.2
  refine q_iast (pc := 49) hx hb hK hI hR (k := 32) lt2_32 (fun f => (ar2_32 _ f _)) g_9 dX12_leaf_49 (fun H locs σ_10 eσ_10 hR => ?_)
  have h := h σ_10 eσ_10
  refine lv_aload_n (pc := 50) hx hb dX12_leaf_50 rfl (lv_at hl 0 rfl) ?_
  refine lv_dup (pc := 51) hx hb dX12_leaf_51 rfl ?_
  refine gf2_0_50 (pc := 52) hx hb hts hown hK hR mw347 dX12_leaf_52 ?_
  refine lv_iconst (pc := 55) (v := 1) hx hb dX12_leaf_55 (by decide) ?_
  refine lv_iadd (pc := 56) hx hb dX12_leaf_56 ?_
  refine lv_topi (pc := 57) (fun v_11 ev_11 => ?_)
  have h := h v_11 ev_11
  refine pf2_0_50 (pc := 57) hx hb hts hown hK hI hR mw347 dX12_leaf_57 (fun H locs σ_12 eσ_12 hR => ?_)
  have h := h σ_12 eσ_12
  exact q_vret (pc := 60) E hR h dX12_leaf_60
theorem cX12_leaf_met (l : Launch) (w : Wd) (hI : Ij 38 w) (N : Nat) (x1 : Int32) (x2 : Int32) (x3 : Int32) (Q : St → Prop) (σ : St) (h : fX12_leaf N x1 x2 x3 Q σ) : Met l yX12_leaf (.code yX12_leaf cX12_leaf 4 none :: Uw) rmX12_leaf (va_Pc [.ref (w.2.1 0), .int x1, .int x2, .int x3] (fun U => Rp 38 ev2 w σ U ∧ X2 U)) (va_Qv Q (Rp 38 ev2 w) (Aw 38 w)) 0 0 (Aw 38 w) :=
  q_met (by decide) (Nat.le_of_ble_eq_true rfl) hI (fun p e s m below meth c ls E hl hR => bX12_leaf_e l w N Q E x1 x2 x3 hR hl h)
-- GlulxStringsModel.sizeOf(I)I
abbrev rmX12_sizeOf : Room := { frames := 0, cells := 0, slots := 0, locals := 0 }
def fX12_sizeOf (N : Nat) (x1 : Int32) (Q : Int32 → St → Prop) (σ : St) : Prop := vp_in x1 60 ∧ ∀ v_2 : Int32, v_2 = σ.1 18 x1.toNatClampNeg → vp_in x1 60 ∧ ∀ v_4 : Int32, v_4 = σ.1 16 x1.toNatClampNeg → ((v_4 = 2 → Q 2 σ) ∧ (¬ v_4 = 2 → ((v_4 = 3 → Q (v_2 + 2) σ) ∧ (¬ v_4 = 3 → ((v_4 = 5 → Q ((4 * v_2) + 5) σ) ∧ (¬ v_4 = 5 → Q 5 σ))))))
set_option maxHeartbeats 4000000 in
set_option maxRecDepth 100000 in
theorem bX12_sizeOf_e {p : Program} {e : Env} {s : State} {m : MethodId} {args : Array Value} {below : List Frame} {meth : Method} {c : Code} (l : Launch) (w : Wd) (N : Nat) (Q : Int32 → St → Prop) (E : Cx 38 w X2 cX12_sizeOf 4 RX12 (.code yX12_sizeOf cX12_sizeOf 4 (some .int)) (some .int) p s m args meth c) (x1 : Int32) {σ : St} {H : Heap} {locs : List Loc} {ls : Array Slot} (hR : Rr 38 ev2 w σ s H locs) (hl : lv_has ls 4 [(0, .ref (w.2.1 0)), (1, .int x1)]) (h : fX12_sizeOf N x1 Q σ) : W p l e rmX12_sizeOf s m args below meth c H locs 0 0 (MQ below (va_Qi Q (Rp 38 ev2 w) (Aw 38 w)) args s 0 0 (Aw 38 w)) (F0 m 0 ls []) := by
  obtain ⟨hx, hb, hml, hown, hts, hr, hlk, hK, hI, hX⟩ := id E
  unfold fX12_sizeOf at h
  refine lv_aload_n (pc := 0) hx hb dX12_sizeOf_0 rfl (lv_at hl 0 rfl) ?_
  refine gf2_0_39 (pc := 1) hx hb hts hown hK hR mw333 dX12_sizeOf_1 ?_
  refine lv_iload_n (pc := 4) hx hb dX12_sizeOf_4 rfl (lv_at hl 1 rfl) ?_
  have g_1 := h.1
  have h := h.2
  refine q_iald (pc := 5) hx hb hK hR (k := 18) lt2_18 (ar2_18 _ _ _) g_1 dX12_sizeOf_5 ?_
  refine lv_topi (pc := 6) (fun v_2 ev_2 => ?_)
  have h := h v_2 ev_2
  refine lv_istore_n (pc := 6) (lv' := [(2, .int v_2), (0, .ref (w.2.1 0)), (1, .int x1)]) hx hb dX12_sizeOf_6 rfl hl (by decide) rfl (fun ls hl => ?_)
  refine lv_aload_n (pc := 7) hx hb dX12_sizeOf_7 rfl (lv_at hl 1 rfl) ?_
  refine gf2_0_37 (pc := 8) hx hb hts hown hK hR mw332 dX12_sizeOf_8 ?_
  refine lv_iload_n (pc := 11) hx hb dX12_sizeOf_11 rfl (lv_at hl 2 rfl) ?_
  have g_3 := h.1
  have h := h.2
  refine q_iald (pc := 12) hx hb hK hR (k := 16) lt2_16 (ar2_16 _ _ _) g_3 dX12_sizeOf_12 ?_
  refine lv_topi (pc := 13) (fun v_4 ev_4 => ?_)
  have h := h v_4 ev_4
  refine lv_istore_n (pc := 13) (lv' := [(3, .int v_4), (2, .int v_2), (0, .ref (w.2.1 0)), (1, .int x1)]) hx hb dX12_sizeOf_13 rfl hl (by decide) rfl (fun ls hl => ?_)
  refine lv_iload_n (pc := 14) hx hb dX12_sizeOf_14 rfl (lv_at hl 0 rfl) ?_
  refine lv_iconst (pc := 15) (v := 2) hx hb dX12_sizeOf_15 (by decide) ?_
  refine lv_icmp_ne (pc := 16) (tgt := 23) hx hb dX12_sizeOf_16 (by decide) (fun c_5 => ?_) (fun c_5 => ?_)
  · have h := h.2 c_5
    refine lv_iload_n (pc := 23) hx hb dX12_sizeOf_23 rfl (lv_at hl 0 rfl) ?_
    refine lv_iconst (pc := 24) (v := 3) hx hb dX12_sizeOf_24 (by decide) ?_
    refine lv_icmp_ne (pc := 25) (tgt := 34) hx hb dX12_sizeOf_25 (by decide) (fun c_6 => ?_) (fun c_6 => ?_)
    · have h := h.2 c_6
      refine lv_iload_n (pc := 34) hx hb dX12_sizeOf_34 rfl (lv_at hl 0 rfl) ?_
      refine lv_iconst (pc := 35) (v := 5) hx hb dX12_sizeOf_35 (by decide) ?_
      refine lv_icmp_ne (pc := 36) (tgt := 47) hx hb dX12_sizeOf_36 (by decide) (fun c_7 => ?_) (fun c_7 => ?_)
      · have h := h.2 c_7
        refine lv_iconst (pc := 47) (v := 5) hx hb dX12_sizeOf_47 (by decide) ?_
        exact q_iret (pc := 48) E hR h dX12_sizeOf_48
      · have h := h.1 c_7
        refine lv_iconst (pc := 39) (v := 4) hx hb dX12_sizeOf_39 (by decide) ?_
        refine lv_iload_n (pc := 40) hx hb dX12_sizeOf_40 rfl (lv_at hl 1 rfl) ?_
        refine lv_imul (pc := 41) hx hb dX12_sizeOf_41 ?_
        refine lv_iconst (pc := 42) (v := 5) hx hb dX12_sizeOf_42 (by decide) ?_
        refine lv_iadd (pc := 43) hx hb dX12_sizeOf_43 ?_
        refine lv_goto (pc := 44) (tgt := 48) hx hb dX12_sizeOf_44 (by decide) ?_
        exact q_iret (pc := 48) E hR h dX12_sizeOf_48
    · have h := h.1 c_6
      refine lv_iload_n (pc := 28) hx hb dX12_sizeOf_28 rfl (lv_at hl 1 rfl) ?_
      refine lv_iconst (pc := 29) (v := 2) hx hb dX12_sizeOf_29 (by decide) ?_
      refine lv_iadd (pc := 30) hx hb dX12_sizeOf_30 ?_
      refine lv_goto (pc := 31) (tgt := 48) hx hb dX12_sizeOf_31 (by decide) ?_
      exact q_iret (pc := 48) E hR h dX12_sizeOf_48
  · have h := h.1 c_5
    refine lv_iconst (pc := 19) (v := 2) hx hb dX12_sizeOf_19 (by decide) ?_
    refine lv_goto (pc := 20) (tgt := 48) hx hb dX12_sizeOf_20 (by decide) ?_
    exact q_iret (pc := 48) E hR h dX12_sizeOf_48
theorem cX12_sizeOf_met (l : Launch) (w : Wd) (hI : Ij 38 w) (N : Nat) (x1 : Int32) (Q : Int32 → St → Prop) (σ : St) (h : fX12_sizeOf N x1 Q σ) : Met l yX12_sizeOf (.code yX12_sizeOf cX12_sizeOf 4 (some .int) :: Uw) rmX12_sizeOf (va_Pc [.ref (w.2.1 0), .int x1] (fun U => Rp 38 ev2 w σ U ∧ X2 U)) (va_Qi Q (Rp 38 ev2 w) (Aw 38 w)) 0 0 (Aw 38 w) :=
  q_met (by decide) (Nat.le_of_ble_eq_true rfl) hI (fun p e s m below meth c ls E hl hR => bX12_sizeOf_e l w N Q E x1 hR hl h)
-- GlulxStringsModel.least()I
abbrev rmX12_least : Room := { frames := 0, cells := 0, slots := 0, locals := 0 }
def fX12_least_j42 (N : Nat) (r4 : Int32 → Int32 → St → Prop) (x1 : Int32) (x2 : Int32) (Q : Int32 → St → Prop) (σ : St) : Prop := ∀ v_6 : Int32, v_6 = x2 + 1 → r4 x1 v_6 σ
set_option maxHeartbeats 4000000 in
set_option maxRecDepth 100000 in
theorem bX12_least_42 {p : Program} {e : Env} {s : State} {m : MethodId} {args : Array Value} {below : List Frame} {meth : Method} {c : Code} (l : Launch) (w : Wd) (N : Nat) (Q : Int32 → St → Prop) (E : Cx 38 w X2 cX12_least 3 RX12 (.code yX12_least cX12_least 3 (some .int)) (some .int) p s m args meth c) (x1 : Int32) (x2 : Int32) (r4 : Int32 → Int32 → St → Prop) (hr4 : ∀ (x1 : Int32) (x2 : Int32) (σ : St) (H : Heap) (locs : List Loc) (ls : Array Slot), Rr 38 ev2 w σ s H locs → lv_has ls 3 [(0, .ref (w.2.1 0)), (1, .int x1), (2, .int x2)] → r4 x1 x2 σ → W p l e rmX12_least s m args below meth c H locs 0 0 (MQ below (va_Qi Q (Rp 38 ev2 w) (Aw 38 w)) args s 0 0 (Aw 38 w)) (F0 m 4 ls [])) {σ : St} {H : Heap} {locs : List Loc} {ls : Array Slot} (hR : Rr 38 ev2 w σ s H locs) (hl : lv_has ls 3 [(0, .ref (w.2.1 0)), (1, .int x1), (2, .int x2)]) (h : fX12_least_j42 N r4 x1 x2 Q σ) : W p l e rmX12_least s m args below meth c H locs 0 0 (MQ below (va_Qi Q (Rp 38 ev2 w) (Aw 38 w)) args s 0 0 (Aw 38 w)) (F0 m 42 ls []) := by
  obtain ⟨hx, hb, hml, hown, hts, hr, hlk, hK, hI, hX⟩ := id E
  unfold fX12_least_j42 at h
  obtain ⟨v_6, ev_6⟩ : ∃ z : Int32, z = x2 + 1 := ⟨_, rfl⟩
  have h := h v_6 ev_6
  refine lv_iinc (pc := 42) (v := v_6) (lv' := [(2, .int v_6), (0, .ref (w.2.1 0)), (1, .int x1)]) hx hb dX12_least_42 hl (k := 2) rfl (by rw [ev_6]; rfl) (by decide) rfl (fun ls hl => ?_)
  refine lv_goto (pc := 45) (tgt := 4) hx hb dX12_least_45 (by decide) ?_
  exact hr4 x1 v_6 σ _ _ _ hR (lv_sub hl [1, 2, 0] rfl) h
def fX12_least_j40 (N : Nat) (r4 : Int32 → Int32 → St → Prop) (x2 : Int32) (Q : Int32 → St → Prop) (σ : St) : Prop := fX12_least_j42 N r4 x2 x2 Q σ
set_option maxHeartbeats 4000000 in
set_option maxRecDepth 100000 in
theorem bX12_least_40 {p : Program} {e : Env} {s : State} {m : MethodId} {args : Array Value} {below : List Frame} {meth : Method} {c : Code} (l : Launch) (w : Wd) (N : Nat) (Q : Int32 → St → Prop) (E : Cx 38 w X2 cX12_least 3 RX12 (.code yX12_least cX12_least 3 (some .int)) (some .int) p s m args meth c) (x2 : Int32) (r4 : Int32 → Int32 → St → Prop) (hr4 : ∀ (x1 : Int32) (x2 : Int32) (σ : St) (H : Heap) (locs : List Loc) (ls : Array Slot), Rr 38 ev2 w σ s H locs → lv_has ls 3 [(0, .ref (w.2.1 0)), (1, .int x1), (2, .int x2)] → r4 x1 x2 σ → W p l e rmX12_least s m args below meth c H locs 0 0 (MQ below (va_Qi Q (Rp 38 ev2 w) (Aw 38 w)) args s 0 0 (Aw 38 w)) (F0 m 4 ls [])) {σ : St} {H : Heap} {locs : List Loc} {ls : Array Slot} (hR : Rr 38 ev2 w σ s H locs) (hl : lv_has ls 3 [(0, .ref (w.2.1 0)), (2, .int x2)]) (h : fX12_least_j40 N r4 x2 Q σ) : W p l e rmX12_least s m args below meth c H locs 0 0 (MQ below (va_Qi Q (Rp 38 ev2 w) (Aw 38 w)) args s 0 0 (Aw 38 w)) (F0 m 40 ls []) := by
  obtain ⟨hx, hb, hml, hown, hts, hr, hlk, hK, hI, hX⟩ := id E
  unfold fX12_least_j40 at h
  refine lv_iload_n (pc := 40) hx hb dX12_least_40 rfl (lv_at hl 1 rfl) ?_
  refine lv_istore_n (pc := 41) (lv' := [(1, .int x2), (0, .ref (w.2.1 0)), (2, .int x2)]) hx hb dX12_least_41 rfl hl (by decide) rfl (fun ls hl => ?_)
  exact bX12_least_42 l w N Q E x2 x2 r4 hr4 hR (lv_sub hl [1, 0, 2] rfl) h
def fX12_least_l4 (N : Nat) (Q : Int32 → St → Prop) (r4 : Int32 → Int32 → St → Prop) (x1 : Int32) (x2 : Int32) (σ : St) : Prop := (((σ.1 0 50) ≤ x2 → vp_in x1 122 ∧ ∀ σ_3 : St, σ_3 = u1 σ 29 x1.toNatClampNeg (vp_nar .boolean 0) → Q x1 σ_3) ∧ (¬ (σ.1 0 50) ≤ x2 → vp_in x2 122 ∧ (((σ.1 29 x2.toNatClampNeg) = 0 → fX12_least_j42 N r4 x1 x2 Q σ) ∧ (¬ (σ.1 29 x2.toNatClampNeg) = 0 → ((x1 < 0 → fX12_least_j40 N r4 x2 Q σ) ∧ (¬ x1 < 0 → vp_in x2 122 ∧ vp_in x1 122 ∧ (((σ.1 28 x1.toNatClampNeg) ≤ (σ.1 28 x2.toNatClampNeg) → fX12_least_j42 N r4 x1 x2 Q σ) ∧ (¬ (σ.1 28 x1.toNatClampNeg) ≤ (σ.1 28 x2.toNatClampNeg) → fX12_least_j40 N r4 x2 Q σ))))))))
set_option maxHeartbeats 4000000 in
set_option maxRecDepth 100000 in
theorem bX12_least_4 {p : Program} {e : Env} {s : State} {m : MethodId} {args : Array Value} {below : List Frame} {meth : Method} {c : Code} (l : Launch) (w : Wd) (N : Nat) (Q : Int32 → St → Prop) (E : Cx 38 w X2 cX12_least 3 RX12 (.code yX12_least cX12_least 3 (some .int)) (some .int) p s m args meth c) : ∀ (n : Nat) (x1 : Int32) (x2 : Int32) (σ : St) (H : Heap) (locs : List Loc) (ls : Array Slot), Rr 38 ev2 w σ s H locs → lv_has ls 3 [(0, .ref (w.2.1 0)), (1, .int x1), (2, .int x2)] → lo2 (fX12_least_l4 N Q) n x1 x2 σ → W p l e rmX12_least s m args below meth c H locs 0 0 (MQ below (va_Qi Q (Rp 38 ev2 w) (Aw 38 w)) args s 0 0 (Aw 38 w)) (F0 m 4 ls []) := by
  obtain ⟨hx, hb, hml, hown, hts, hr, hlk, hK, hI, hX⟩ := id E
  intro n
  induction n with
  | zero => intro x1 x2 σ H locs ls hR hl h; exact h.elim
  | succ n ih =>
    intro x1 x2 σ H locs ls hR hl h
    have h : fX12_least_l4 N Q (lo2 (fX12_least_l4 N Q) n) x1 x2 σ := h
    unfold fX12_least_l4 at h
    refine lv_iload_n (pc := 4) hx hb dX12_least_4 rfl (lv_at hl 2 rfl) ?_
    refine lv_aload_n (pc := 5) hx hb dX12_least_5 rfl (lv_at hl 0 rfl) ?_
    refine gf2_0_50 (pc := 6) hx hb hts hown hK hR mw347 dX12_least_6 ?_
    refine lv_icmp_ge (pc := 9) (tgt := 48) hx hb dX12_least_9 (by decide) (fun c_1 => ?_) (fun c_1 => ?_)
    · have h := h.1 c_1
      refine lv_aload_n (pc := 48) hx hb dX12_least_48 rfl (lv_at hl 0 rfl) ?_
      refine gf2_0_54 (pc := 49) hx hb hts hown hK hR mw349 dX12_least_49 ?_
      refine lv_iload_n (pc := 52) hx hb dX12_least_52 rfl (lv_at hl 1 rfl) ?_
      refine lv_iconst (pc := 53) (v := 0) hx hb dX12_least_53 (by decide) ?_
      have g_2 := h.1
      have h := h.2
      refine q_zast (pc := 54) hx hb hK hI hR (k := 29) lt2_29 (fun f => (ar2_29 _ f _)) g_2 dX12_least_54 (fun H locs σ_3 eσ_3 hR => ?_)
      have h := h σ_3 eσ_3
      refine lv_iload_n (pc := 55) hx hb dX12_least_55 rfl (lv_at hl 1 rfl) ?_
      exact q_iret (pc := 56) E hR h dX12_least_56
    · have h := h.2 c_1
      refine lv_aload_n (pc := 12) hx hb dX12_least_12 rfl (lv_at hl 0 rfl) ?_
      refine gf2_0_54 (pc := 13) hx hb hts hown hK hR mw349 dX12_least_13 ?_
      refine lv_iload_n (pc := 16) hx hb dX12_least_16 rfl (lv_at hl 2 rfl) ?_
      have g_4 := h.1
      have h := h.2
      refine q_zald (pc := 17) hx hb hK hR (k := 29) lt2_29 (ar2_29 _ _ _) g_4 dX12_least_17 ?_
      refine lv_if_eq (pc := 18) (tgt := 42) hx hb dX12_least_18 (by decide) (fun c_5 => ?_) (fun c_5 => ?_)
      · have h := h.1 c_5
        exact bX12_least_42 l w N Q E x1 x2 _ ih hR (lv_sub hl [0, 1, 2] rfl) h
      · have h := h.2 c_5
        refine lv_iload_n (pc := 21) hx hb dX12_least_21 rfl (lv_at hl 1 rfl) ?_
        refine lv_if_lt (pc := 22) (tgt := 40) hx hb dX12_least_22 (by decide) (fun c_6 => ?_) (fun c_6 => ?_)
        · have h := h.1 c_6
          exact bX12_least_40 l w N Q E x2 _ ih hR (lv_sub hl [0, 2] rfl) h
        · have h := h.2 c_6
          refine lv_aload_n (pc := 25) hx hb dX12_least_25 rfl (lv_at hl 0 rfl) ?_
          refine gf2_0_53 (pc := 26) hx hb hts hown hK hR mw348 dX12_least_26 ?_
          refine lv_iload_n (pc := 29) hx hb dX12_least_29 rfl (lv_at hl 2 rfl) ?_
          have g_7 := h.1
          have h := h.2
          refine q_iald (pc := 30) hx hb hK hR (k := 28) lt2_28 (ar2_28 _ _ _) g_7 dX12_least_30 ?_
          refine lv_aload_n (pc := 31) hx hb dX12_least_31 rfl (lv_at hl 0 rfl) ?_
          refine gf2_0_53 (pc := 32) hx hb hts hown hK hR mw348 dX12_least_32 ?_
          refine lv_iload_n (pc := 35) hx hb dX12_least_35 rfl (lv_at hl 1 rfl) ?_
          have g_8 := h.1
          have h := h.2
          refine q_iald (pc := 36) hx hb hK hR (k := 28) lt2_28 (ar2_28 _ _ _) g_8 dX12_least_36 ?_
          refine lv_icmp_ge (pc := 37) (tgt := 42) hx hb dX12_least_37 (by decide) (fun c_9 => ?_) (fun c_9 => ?_)
          · have h := h.1 c_9
            exact bX12_least_42 l w N Q E x1 x2 _ ih hR (lv_sub hl [0, 1, 2] rfl) h
          · have h := h.2 c_9
            exact bX12_least_40 l w N Q E x2 _ ih hR (lv_sub hl [0, 2] rfl) h
def fX12_least (N : Nat) (Q : Int32 → St → Prop) (σ : St) : Prop := lo2 (fX12_least_l4 N Q) N (-1) 0 σ
set_option maxHeartbeats 4000000 in
set_option maxRecDepth 100000 in
theorem bX12_least_e {p : Program} {e : Env} {s : State} {m : MethodId} {args : Array Value} {below : List Frame} {meth : Method} {c : Code} (l : Launch) (w : Wd) (N : Nat) (Q : Int32 → St → Prop) (E : Cx 38 w X2 cX12_least 3 RX12 (.code yX12_least cX12_least 3 (some .int)) (some .int) p s m args meth c) {σ : St} {H : Heap} {locs : List Loc} {ls : Array Slot} (hR : Rr 38 ev2 w σ s H locs) (hl : lv_has ls 3 [(0, .ref (w.2.1 0))]) (h : fX12_least N Q σ) : W p l e rmX12_least s m args below meth c H locs 0 0 (MQ below (va_Qi Q (Rp 38 ev2 w) (Aw 38 w)) args s 0 0 (Aw 38 w)) (F0 m 0 ls []) := by
  obtain ⟨hx, hb, hml, hown, hts, hr, hlk, hK, hI, hX⟩ := id E
  unfold fX12_least at h
  refine lv_iconst (pc := 0) (v := (-1)) hx hb dX12_least_0 (by decide) ?_
  refine lv_istore_n (pc := 1) (lv' := [(1, .int (-1)), (0, .ref (w.2.1 0))]) hx hb dX12_least_1 rfl hl (by decide) rfl (fun ls hl => ?_)
  refine lv_iconst (pc := 2) (v := 0) hx hb dX12_least_2 (by decide) ?_
  refine lv_istore_n (pc := 3) (lv' := [(2, .int 0), (1, .int (-1)), (0, .ref (w.2.1 0))]) hx hb dX12_least_3 rfl hl (by decide) rfl (fun ls hl => ?_)
  exact bX12_least_4 l w N Q E N (-1) 0 σ _ _ _ hR (lv_sub hl [2, 1, 0] rfl) h
theorem cX12_least_met (l : Launch) (w : Wd) (hI : Ij 38 w) (N : Nat) (Q : Int32 → St → Prop) (σ : St) (h : fX12_least N Q σ) : Met l yX12_least (.code yX12_least cX12_least 3 (some .int) :: Uw) rmX12_least (va_Pc [.ref (w.2.1 0)] (fun U => Rp 38 ev2 w σ U ∧ X2 U)) (va_Qi Q (Rp 38 ev2 w) (Aw 38 w)) 0 0 (Aw 38 w) :=
  q_met (by decide) (Nat.le_of_ble_eq_true rfl) hI (fun p e s m below meth c ls E hl hR => bX12_least_e l w N Q E hR hl h)
-- GlulxStringsModel.join()V
abbrev rmX12_join : Room := { frames := 2, cells := 0, slots := 0, locals := 50 }
def fX12_join_l155 (N : Nat) (Q : St → Prop) (r155 : Int32 → St → Prop) (x1 : Int32) (σ : St) : Prop := (((σ.1 0 51) ≤ x1 → Q σ) ∧ (¬ (σ.1 0 51) ≤ x1 → fX12_least N (fun r_10 σ_9 => fX12_least N (fun r_12 σ_11 => vp_in (σ_11.1 0 50) 122 ∧ ∀ σ_14 : St, σ_14 = u1 σ_11 30 (σ_11.1 0 50).toNatClampNeg r_10 → vp_in (σ_14.1 0 50) 122 ∧ ∀ σ_16 : St, σ_16 = u1 σ_14 31 (σ_14.1 0 50).toNatClampNeg r_12 → ∀ v_17 : Int32, v_17 = σ_16.1 0 50 → vp_in r_10 122 ∧ ∀ σ_19 : St, σ_19 = u1 σ_16 32 r_10.toNatClampNeg v_17 → ∀ v_20 : Int32, v_20 = σ_19.1 0 50 → vp_in r_12 122 ∧ ∀ σ_22 : St, σ_22 = u1 σ_19 32 r_12.toNatClampNeg v_20 → vp_in r_10 122 ∧ vp_in r_12 122 ∧ vp_in r_10 122 ∧ vp_in r_12 122 ∧ fX12_leaf N (-2) ((σ_22.1 28 r_10.toNatClampNeg) + (σ_22.1 28 r_12.toNatClampNeg)) ((9 + (σ_22.1 33 r_10.toNatClampNeg)) + (σ_22.1 33 r_12.toNatClampNeg)) (fun σ_27 => ∀ v_28 : Int32, v_28 = x1 + 1 → r155 v_28 σ_27) σ_22) σ_9) σ))
set_option maxHeartbeats 4000000 in
set_option maxRecDepth 100000 in
theorem bX12_join_155 {p : Program} {e : Env} {s : State} {m : MethodId} {args : Array Value} {below : List Frame} {meth : Method} {c : Code} (l : Launch) (w : Wd) (N : Nat) (Q : St → Prop) (E : Cx 38 w X2 cX12_join 4 RX12 (.code yX12_join cX12_join 4 none) none p s m args meth c) : ∀ (n : Nat) (x1 : Int32) (σ : St) (H : Heap) (locs : List Loc) (ls : Array Slot), Rr 38 ev2 w σ s H locs → lv_has ls 4 [(0, .ref (w.2.1 0)), (1, .int x1)] → lo1 (fX12_join_l155 N Q) n x1 σ → W p l e rmX12_join s m args below meth c H locs 0 0 (MQ below (va_Qv Q (Rp 38 ev2 w) (Aw 38 w)) args s 0 0 (Aw 38 w)) (F0 m 155 ls []) := by
  obtain ⟨hx, hb, hml, hown, hts, hr, hlk, hK, hI, hX⟩ := id E
  intro n
  induction n with
  | zero => intro x1 σ H locs ls hR hl h; exact h.elim
  | succ n ih =>
    intro x1 σ H locs ls hR hl h
    have h : fX12_join_l155 N Q (lo1 (fX12_join_l155 N Q) n) x1 σ := h
    unfold fX12_join_l155 at h
    refine lv_iload_n (pc := 155) hx hb dX12_join_155 rfl (lv_at hl 1 rfl) ?_
    refine lv_aload_n (pc := 156) hx hb dX12_join_156 rfl (lv_at hl 0 rfl) ?_
    refine gf2_0_51 (pc := 157) hx hb hts hown hK hR mw353 dX12_join_157 ?_
    refine lv_icmp_ge (pc := 160) (tgt := 254) hx hb dX12_join_160 (by decide) (fun c_8 => ?_) (fun c_8 => ?_)
    · have h := h.1 c_8
      exact q_vret (pc := 254) E hR h dX12_join_254
    · have h := h.2 c_8
      refine lv_aload_n (pc := 163) hx hb dX12_join_163 rfl (lv_at hl 0 rfl) ?_
      refine q_ci (pc := 164) hR (q_rV E (xp2 w) (As := []) (rest := []) (cX12_least_met l w hI N _ σ h) ckX12_least cvX12_least mw354 ⟨rfl, rfl, Nat.le_of_ble_eq_true rfl, Nat.le_of_ble_eq_true rfl⟩ hR (rc2_0 w) rfl hl.1 rfl (Nat.le_of_ble_eq_true rfl) dX12_join_164) (fun r_10 σ_9 H locs h hR => ?_)
      refine lv_istore_n (pc := 167) (lv' := [(2, .int r_10), (0, .ref (w.2.1 0)), (1, .int x1)]) hx hb dX12_join_167 rfl hl (by decide) rfl (fun ls hl => ?_)
      refine lv_aload_n (pc := 168) hx hb dX12_join_168 rfl (lv_at hl 1 rfl) ?_
      refine q_ci (pc := 169) hR (q_rV E (xp2 w) (As := []) (rest := []) (cX12_least_met l w hI N _ σ_9 h) ckX12_least cvX12_least mw354 ⟨rfl, rfl, Nat.le_of_ble_eq_true rfl, Nat.le_of_ble_eq_true rfl⟩ hR (rc2_0 w) rfl hl.1 rfl (Nat.le_of_ble_eq_true rfl) dX12_join_169) (fun r_12 σ_11 H locs h hR => ?_)
      refine lv_istore_n (pc := 172) (lv' := [(3, .int r_12), (2, .int r_10), (0, .ref (w.2.1 0)), (1, .int x1)]) hx hb dX12_join_172 rfl hl (by decide) rfl (fun ls hl => ?_)
      refine lv_aload_n (pc := 173) hx hb dX12_join_173 rfl (lv_at hl 2 rfl) ?_
      refine gf2_0_55 (pc := 174) hx hb hts hown hK hR mw355 dX12_join_174 ?_
      refine lv_aload_n (pc := 177) hx hb dX12_join_177 rfl (lv_at hl 2 rfl) ?_
      refine gf2_0_50 (pc := 178) hx hb hts hown hK hR mw347 dX12_join_178 ?_
      refine lv_iload_n (pc := 181) hx hb dX12_join_181 rfl (lv_at hl 1 rfl) ?_
      have g_13 := h.1
      have h := h.2
      refine q_iast (pc := 182) hx hb hK hI hR (k := 30) lt2_30 (fun f => (ar2_30 _ f _)) g_13 dX12_join_182 (fun H locs σ_14 eσ_14 hR => ?_)
      have h := h σ_14 eσ_14
      refine lv_aload_n (pc := 183) hx hb dX12_join_183 rfl (lv_at hl 2 rfl) ?_
      refine gf2_0_56 (pc := 184) hx hb hts hown hK hR mw356 dX12_join_184 ?_
      refine lv_aload_n (pc := 187) hx hb dX12_join_187 rfl (lv_at hl 2 rfl) ?_
      refine gf2_0_50 (pc := 188) hx hb hts hown hK hR mw347 dX12_join_188 ?_
      refine lv_iload_n (pc := 191) hx hb dX12_join_191 rfl (lv_at hl 0 rfl) ?_
      have g_15 := h.1
      have h := h.2
      refine q_iast (pc := 192) hx hb hK hI hR (k := 31) lt2_31 (fun f => (ar2_31 _ f _)) g_15 dX12_join_192 (fun H locs σ_16 eσ_16 hR => ?_)
      have h := h σ_16 eσ_16
      refine lv_aload_n (pc := 193) hx hb dX12_join_193 rfl (lv_at hl 2 rfl) ?_
      refine gf2_0_57 (pc := 194) hx hb hts hown hK hR mw351 dX12_join_194 ?_
      refine lv_iload_n (pc := 197) hx hb dX12_join_197 rfl (lv_at hl 1 rfl) ?_
      refine lv_aload_n (pc := 198) hx hb dX12_join_198 rfl (lv_at hl 2 rfl) ?_
      refine gf2_0_50 (pc := 199) hx hb hts hown hK hR mw347 dX12_join_199 ?_
      refine lv_topi (pc := 202) (fun v_17 ev_17 => ?_)
      have h := h v_17 ev_17
      have g_18 := h.1
      have h := h.2
      refine q_iast (pc := 202) hx hb hK hI hR (k := 32) lt2_32 (fun f => (ar2_32 _ f _)) g_18 dX12_join_202 (fun H locs σ_19 eσ_19 hR => ?_)
      have h := h σ_19 eσ_19
      refine lv_aload_n (pc := 203) hx hb dX12_join_203 rfl (lv_at hl 2 rfl) ?_
      refine gf2_0_57 (pc := 204) hx hb hts hown hK hR mw351 dX12_join_204 ?_
      refine lv_iload_n (pc := 207) hx hb dX12_join_207 rfl (lv_at hl 0 rfl) ?_
      refine lv_aload_n (pc := 208) hx hb dX12_join_208 rfl (lv_at hl 2 rfl) ?_
      refine gf2_0_50 (pc := 209) hx hb hts hown hK hR mw347 dX12_join_209 ?_
      refine lv_topi (pc := 212) (fun v_20 ev_20 => ?_)
      have h := h v_20 ev_20
      have g_21 := h.1
      have h := h.2
      refine q_iast (pc := 212) hx hb hK hI hR (k := 32) lt2_32 (fun f => (ar2_32 _ f _)) g_21 dX12_join_212 (fun H locs σ_22 eσ_22 hR => ?_)
      have h := h σ_22 eσ_22
      refine lv_aload_n (pc := 213) hx hb dX12_join_213 rfl (lv_at hl 2 rfl) ?_
      refine lv_bipush (pc := 214) (v := (-2)) hx hb dX12_join_214 (by decide) ?_
      refine lv_aload_n (pc := 216) hx hb dX12_join_216 rfl (lv_at hl 2 rfl) ?_
      refine gf2_0_53 (pc := 217) hx hb hts hown hK hR mw348 dX12_join_217 ?_
      refine lv_iload_n (pc := 220) hx hb dX12_join_220 rfl (lv_at hl 1 rfl) ?_
      have g_23 := h.1
      have h := h.2
      refine q_iald (pc := 221) hx hb hK hR (k := 28) lt2_28 (ar2_28 _ _ _) g_23 dX12_join_221 ?_
      refine lv_aload_n (pc := 222) hx hb dX12_join_222 rfl (lv_at hl 2 rfl) ?_
      refine gf2_0_53 (pc := 223) hx hb hts hown hK hR mw348 dX12_join_223 ?_
      refine lv_iload_n (pc := 226) hx hb dX12_join_226 rfl (lv_at hl 0 rfl) ?_
      have g_24 := h.1
      have h := h.2
      refine q_iald (pc := 227) hx hb hK hR (k := 28) lt2_28 (ar2_28 _ _ _) g_24 dX12_join_227 ?_
      refine lv_iadd (pc := 228) hx hb dX12_join_228 ?_
      refine lv_bipush (pc := 229) (v := 9) hx hb dX12_join_229 (by decide) ?_
      refine lv_aload_n (pc := 231) hx hb dX12_join_231 rfl (lv_at hl 2 rfl) ?_
      refine gf2_0_58 (pc := 232) hx hb hts hown hK hR mw350 dX12_join_232 ?_
      refine lv_iload_n (pc := 235) hx hb dX12_join_235 rfl (lv_at hl 1 rfl) ?_
      have g_25 := h.1
      have h := h.2
      refine q_iald (pc := 236) hx hb hK hR (k := 33) lt2_33 (ar2_33 _ _ _) g_25 dX12_join_236 ?_
      refine lv_iadd (pc := 237) hx hb dX12_join_237 ?_
      refine lv_aload_n (pc := 238) hx hb dX12_join_238 rfl (lv_at hl 2 rfl) ?_
      refine gf2_0_58 (pc := 239) hx hb hts hown hK hR mw350 dX12_join_239 ?_
      refine lv_iload_n (pc := 242) hx hb dX12_join_242 rfl (lv_at hl 0 rfl) ?_
      have g_26 := h.1
      have h := h.2
      refine q_iald (pc := 243) hx hb hK hR (k := 33) lt2_33 (ar2_33 _ _ _) g_26 dX12_join_243 ?_
      refine lv_iadd (pc := 244) hx hb dX12_join_244 ?_
      refine q_cv (pc := 245) hR (q_rV E (xp2 w) (As := [.int (-2), .int ((σ_22.1 28 r_10.toNatClampNeg) + (σ_22.1 28 r_12.toNatClampNeg)), .int ((9 + (σ_22.1 33 r_10.toNatClampNeg)) + (σ_22.1 33 r_12.toNatClampNeg))]) (rest := []) (cX12_leaf_met l w hI N (-2) ((σ_22.1 28 r_10.toNatClampNeg) + (σ_22.1 28 r_12.toNatClampNeg)) ((9 + (σ_22.1 33 r_10.toNatClampNeg)) + (σ_22.1 33 r_12.toNatClampNeg)) _ σ_22 h) ckX12_leaf cvX12_leaf mw352 ⟨rfl, rfl, Nat.le_of_ble_eq_true rfl, Nat.le_of_ble_eq_true rfl⟩ hR (rc2_0 w) rfl hl.1 rfl (Nat.le_of_ble_eq_true rfl) dX12_join_245) (fun σ_27 H locs h hR => ?_)
      obtain ⟨v_28, ev_28⟩ : ∃ z : Int32, z = x1 + 1 := ⟨_, rfl⟩
      have h := h v_28 ev_28
      refine lv_iinc (pc := 248) (v := v_28) (lv' := [(1, .int v_28), (3, .int r_12), (2, .int r_10), (0, .ref (w.2.1 0))]) hx hb dX12_join_248 hl (k := 3) rfl (by rw [ev_28]; rfl) (by decide) rfl (fun ls hl => ?_)
      refine lv_goto (pc := 251) (tgt := 155) hx hb dX12_join_251 (by decide) ?_
      exact ih v_28 σ_27 _ _ _ hR (lv_sub hl [3, 0] rfl) h
def fX12_join_j139 (N : Nat) (r96 : Int32 → St → Prop) (x1 : Int32) (Q : St → Prop) (σ : St) : Prop := ∀ v_10 : Int32, v_10 = x1 + 1 → r96 v_10 σ
set_option maxHeartbeats 4000000 in
set_option maxRecDepth 100000 in
theorem bX12_join_139 {p : Program} {e : Env} {s : State} {m : MethodId} {args : Array Value} {below : List Frame} {meth : Method} {c : Code} (l : Launch) (w : Wd) (N : Nat) (Q : St → Prop) (E : Cx 38 w X2 cX12_join 4 RX12 (.code yX12_join cX12_join 4 none) none p s m args meth c) (x1 : Int32) (r96 : Int32 → St → Prop) (hr96 : ∀ (x1 : Int32) (σ : St) (H : Heap) (locs : List Loc) (ls : Array Slot), Rr 38 ev2 w σ s H locs → lv_has ls 4 [(0, .ref (w.2.1 0)), (1, .int x1)] → r96 x1 σ → W p l e rmX12_join s m args below meth c H locs 0 0 (MQ below (va_Qv Q (Rp 38 ev2 w) (Aw 38 w)) args s 0 0 (Aw 38 w)) (F0 m 96 ls [])) {σ : St} {H : Heap} {locs : List Loc} {ls : Array Slot} (hR : Rr 38 ev2 w σ s H locs) (hl : lv_has ls 4 [(0, .ref (w.2.1 0)), (1, .int x1)]) (h : fX12_join_j139 N r96 x1 Q σ) : W p l e rmX12_join s m args below meth c H locs 0 0 (MQ below (va_Qv Q (Rp 38 ev2 w) (Aw 38 w)) args s 0 0 (Aw 38 w)) (F0 m 139 ls []) := by
  obtain ⟨hx, hb, hml, hown, hts, hr, hlk, hK, hI, hX⟩ := id E
  unfold fX12_join_j139 at h
  obtain ⟨v_10, ev_10⟩ : ∃ z : Int32, z = x1 + 1 := ⟨_, rfl⟩
  have h := h v_10 ev_10
  refine lv_iinc (pc := 139) (v := v_10) (lv' := [(1, .int v_10), (0, .ref (w.2.1 0))]) hx hb dX12_join_139 hl (k := 1) rfl (by rw [ev_10]; rfl) (by decide) rfl (fun ls hl => ?_)
  refine lv_goto (pc := 142) (tgt := 96) hx hb dX12_join_142 (by decide) ?_
  exact hr96 v_10 σ _ _ _ hR (lv_sub hl [1, 0] rfl) h
def fX12_join_l96 (N : Nat) (Q : St → Prop) (r96 : Int32 → St → Prop) (x1 : Int32) (σ : St) : Prop := (((σ.1 0 36) ≤ x1 → ∀ v_6 : Int32, v_6 = σ.1 0 50 → ∀ σ_7 : St, σ_7 = u1 σ 0 51 v_6 → lo1 (fX12_join_l155 N Q) N 1 σ_7) ∧ (¬ (σ.1 0 36) ≤ x1 → vp_in x1 60 ∧ (((σ.1 37 x1.toNatClampNeg) ≤ 0 → fX12_join_j139 N r96 x1 Q σ) ∧ (¬ (σ.1 37 x1.toNatClampNeg) ≤ 0 → ∀ v_10 : Int32, v_10 = σ.1 0 50 → vp_in x1 60 ∧ ∀ σ_12 : St, σ_12 = u1 σ 36 x1.toNatClampNeg v_10 → vp_in x1 60 ∧ fX12_sizeOf N x1 (fun r_15 σ_14 => fX12_leaf N x1 (σ_12.1 37 x1.toNatClampNeg) r_15 (fun σ_16 => fX12_join_j139 N r96 x1 Q σ_16) σ_14) σ_12))))
set_option maxHeartbeats 4000000 in
set_option maxRecDepth 100000 in
theorem bX12_join_96 {p : Program} {e : Env} {s : State} {m : MethodId} {args : Array Value} {below : List Frame} {meth : Method} {c : Code} (l : Launch) (w : Wd) (N : Nat) (Q : St → Prop) (E : Cx 38 w X2 cX12_join 4 RX12 (.code yX12_join cX12_join 4 none) none p s m args meth c) : ∀ (n : Nat) (x1 : Int32) (σ : St) (H : Heap) (locs : List Loc) (ls : Array Slot), Rr 38 ev2 w σ s H locs → lv_has ls 4 [(0, .ref (w.2.1 0)), (1, .int x1)] → lo1 (fX12_join_l96 N Q) n x1 σ → W p l e rmX12_join s m args below meth c H locs 0 0 (MQ below (va_Qv Q (Rp 38 ev2 w) (Aw 38 w)) args s 0 0 (Aw 38 w)) (F0 m 96 ls []) := by
  obtain ⟨hx, hb, hml, hown, hts, hr, hlk, hK, hI, hX⟩ := id E
  intro n
  induction n with
  | zero => intro x1 σ H locs ls hR hl h; exact h.elim
  | succ n ih =>
    intro x1 σ H locs ls hR hl h
    have h : fX12_join_l96 N Q (lo1 (fX12_join_l96 N Q) n) x1 σ := h
    unfold fX12_join_l96 at h
    refine lv_iload_n (pc := 96) hx hb dX12_join_96 rfl (lv_at hl 1 rfl) ?_
    refine lv_aload_n (pc := 97) hx hb dX12_join_97 rfl (lv_at hl 0 rfl) ?_
    refine gf2_0_36 (pc := 98) hx hb hts hown hK hR mw330 dX12_join_98 ?_
    refine lv_icmp_ge (pc := 101) (tgt := 145) hx hb dX12_join_101 (by decide) (fun c_5 => ?_) (fun c_5 => ?_)
    · have h := h.1 c_5
      refine lv_aload_n (pc := 145) hx hb dX12_join_145 rfl (lv_at hl 0 rfl) ?_
      refine lv_aload_n (pc := 146) hx hb dX12_join_146 rfl (lv_at hl 0 rfl) ?_
      refine gf2_0_50 (pc := 147) hx hb hts hown hK hR mw347 dX12_join_147 ?_
      refine lv_topi (pc := 150) (fun v_6 ev_6 => ?_)
      have h := h v_6 ev_6
      refine pf2_0_51 (pc := 150) hx hb hts hown hK hI hR mw353 dX12_join_150 (fun H locs σ_7 eσ_7 hR => ?_)
      have h := h σ_7 eσ_7
      refine lv_iconst (pc := 153) (v := 1) hx hb dX12_join_153 (by decide) ?_
      refine lv_istore_n (pc := 154) (lv' := [(1, .int 1), (0, .ref (w.2.1 0))]) hx hb dX12_join_154 rfl hl (by decide) rfl (fun ls hl => ?_)
      exact bX12_join_155 l w N Q E N 1 σ_7 _ _ _ hR (lv_sub hl [1, 0] rfl) h
    · have h := h.2 c_5
      refine lv_aload_n (pc := 104) hx hb dX12_join_104 rfl (lv_at hl 0 rfl) ?_
      refine gf2_0_62 (pc := 105) hx hb hts hown hK hR mw357 dX12_join_105 ?_
      refine lv_iload_n (pc := 108) hx hb dX12_join_108 rfl (lv_at hl 1 rfl) ?_
      have g_8 := h.1
      have h := h.2
      refine q_iald (pc := 109) hx hb hK hR (k := 37) lt2_37 (ar2_37 _ _ _) g_8 dX12_join_109 ?_
      refine lv_if_le (pc := 110) (tgt := 139) hx hb dX12_join_110 (by decide) (fun c_9 => ?_) (fun c_9 => ?_)
      · have h := h.1 c_9
        exact bX12_join_139 l w N Q E x1 _ ih hR (lv_sub hl [0, 1] rfl) h
      · have h := h.2 c_9
        refine lv_aload_n (pc := 113) hx hb dX12_join_113 rfl (lv_at hl 0 rfl) ?_
        refine gf2_0_61 (pc := 114) hx hb hts hown hK hR mw358 dX12_join_114 ?_
        refine lv_iload_n (pc := 117) hx hb dX12_join_117 rfl (lv_at hl 1 rfl) ?_
        refine lv_aload_n (pc := 118) hx hb dX12_join_118 rfl (lv_at hl 0 rfl) ?_
        refine gf2_0_50 (pc := 119) hx hb hts hown hK hR mw347 dX12_join_119 ?_
        refine lv_topi (pc := 122) (fun v_10 ev_10 => ?_)
        have h := h v_10 ev_10
        have g_11 := h.1
        have h := h.2
        refine q_iast (pc := 122) hx hb hK hI hR (k := 36) lt2_36 (fun f => (ar2_36 _ f _)) g_11 dX12_join_122 (fun H locs σ_12 eσ_12 hR => ?_)
        have h := h σ_12 eσ_12
        refine lv_aload_n (pc := 123) hx hb dX12_join_123 rfl (lv_at hl 0 rfl) ?_
        refine lv_iload_n (pc := 124) hx hb dX12_join_124 rfl (lv_at hl 1 rfl) ?_
        refine lv_aload_n (pc := 125) hx hb dX12_join_125 rfl (lv_at hl 0 rfl) ?_
        refine gf2_0_62 (pc := 126) hx hb hts hown hK hR mw357 dX12_join_126 ?_
        refine lv_iload_n (pc := 129) hx hb dX12_join_129 rfl (lv_at hl 1 rfl) ?_
        have g_13 := h.1
        have h := h.2
        refine q_iald (pc := 130) hx hb hK hR (k := 37) lt2_37 (ar2_37 _ _ _) g_13 dX12_join_130 ?_
        refine lv_aload_n (pc := 131) hx hb dX12_join_131 rfl (lv_at hl 0 rfl) ?_
        refine lv_iload_n (pc := 132) hx hb dX12_join_132 rfl (lv_at hl 1 rfl) ?_
        refine q_ci (pc := 133) hR (q_rV E (xp2 w) (As := [.int x1]) (rest := [.int (σ_12.1 37 x1.toNatClampNeg), .int x1, .ref (w.2.1 0)]) (cX12_sizeOf_met l w hI N x1 _ σ_12 h) ckX12_sizeOf cvX12_sizeOf mw359 ⟨rfl, rfl, Nat.le_of_ble_eq_true rfl, Nat.le_of_ble_eq_true rfl⟩ hR (rc2_0 w) rfl hl.1 rfl (Nat.le_of_ble_eq_true rfl) dX12_join_133) (fun r_15 σ_14 H locs h hR => ?_)
        refine q_cv (pc := 136) hR (q_rV E (xp2 w) (As := [.int x1, .int (σ_12.1 37 x1.toNatClampNeg), .int r_15]) (rest := []) (cX12_leaf_met l w hI N x1 (σ_12.1 37 x1.toNatClampNeg) r_15 _ σ_14 h) ckX12_leaf cvX12_leaf mw352 ⟨rfl, rfl, Nat.le_of_ble_eq_true rfl, Nat.le_of_ble_eq_true rfl⟩ hR (rc2_0 w) rfl hl.1 rfl (Nat.le_of_ble_eq_true rfl) dX12_join_136) (fun σ_16 H locs h hR => ?_)
        exact bX12_join_139 l w N Q E x1 _ ih hR (lv_sub hl [0, 1] rfl) h
def fX12_join_l62 (N : Nat) (r40 : Int32 → St → Prop) (x1 : Int32) (x2 : Int32) (Q : St → Prop) (r62 : Int32 → St → Prop) (x3 : Int32) (σ : St) : Prop := ((x2 ≤ x3 → ∀ v_9 : Int32, v_9 = x1 + 1 → r40 v_9 σ) ∧ (¬ x2 ≤ x3 → vp_in x3 120 ∧ vp_in (σ.1 26 x3.toNatClampNeg) 60 ∧ ∀ v_12 : Int32, v_12 = (σ.1 37 (σ.1 26 x3.toNatClampNeg).toNatClampNeg) + 1 → vp_in (σ.1 26 x3.toNatClampNeg) 60 ∧ ∀ σ_14 : St, σ_14 = u1 σ 37 (σ.1 26 x3.toNatClampNeg).toNatClampNeg v_12 → ∀ v_15 : Int32, v_15 = x3 + 1 → r62 v_15 σ_14))
set_option maxHeartbeats 4000000 in
set_option maxRecDepth 100000 in
theorem bX12_join_62 {p : Program} {e : Env} {s : State} {m : MethodId} {args : Array Value} {below : List Frame} {meth : Method} {c : Code} (l : Launch) (w : Wd) (N : Nat) (Q : St → Prop) (E : Cx 38 w X2 cX12_join 4 RX12 (.code yX12_join cX12_join 4 none) none p s m args meth c) (x1 : Int32) (x2 : Int32) (r40 : Int32 → St → Prop) (hr40 : ∀ (x1 : Int32) (σ : St) (H : Heap) (locs : List Loc) (ls : Array Slot), Rr 38 ev2 w σ s H locs → lv_has ls 4 [(0, .ref (w.2.1 0)), (1, .int x1)] → r40 x1 σ → W p l e rmX12_join s m args below meth c H locs 0 0 (MQ below (va_Qv Q (Rp 38 ev2 w) (Aw 38 w)) args s 0 0 (Aw 38 w)) (F0 m 40 ls [])) : ∀ (n : Nat) (x3 : Int32) (σ : St) (H : Heap) (locs : List Loc) (ls : Array Slot), Rr 38 ev2 w σ s H locs → lv_has ls 4 [(0, .ref (w.2.1 0)), (1, .int x1), (2, .int x2), (3, .int x3)] → lo1 (fX12_join_l62 N r40 x1 x2 Q) n x3 σ → W p l e rmX12_join s m args below meth c H locs 0 0 (MQ below (va_Qv Q (Rp 38 ev2 w) (Aw 38 w)) args s 0 0 (Aw 38 w)) (F0 m 62 ls []) := by
  obtain ⟨hx, hb, hml, hown, hts, hr, hlk, hK, hI, hX⟩ := id E
  intro n
  induction n with
  | zero => intro x3 σ H locs ls hR hl h; exact h.elim
  | succ n ih =>
    intro x3 σ H locs ls hR hl h
    have h : fX12_join_l62 N r40 x1 x2 Q (lo1 (fX12_join_l62 N r40 x1 x2 Q) n) x3 σ := h
    unfold fX12_join_l62 at h
    refine lv_iload_n (pc := 62) hx hb dX12_join_62 rfl (lv_at hl 3 rfl) ?_
    refine lv_iload_n (pc := 63) hx hb dX12_join_63 rfl (lv_at hl 2 rfl) ?_
    refine lv_icmp_ge (pc := 64) (tgt := 88) hx hb dX12_join_64 (by decide) (fun c_8 => ?_) (fun c_8 => ?_)
    · have h := h.1 c_8
      obtain ⟨v_9, ev_9⟩ : ∃ z : Int32, z = x1 + 1 := ⟨_, rfl⟩
      have h := h v_9 ev_9
      refine lv_iinc (pc := 88) (v := v_9) (lv' := [(1, .int v_9), (0, .ref (w.2.1 0)), (2, .int x2), (3, .int x3)]) hx hb dX12_join_88 hl (k := 1) rfl (by rw [ev_9]; rfl) (by decide) rfl (fun ls hl => ?_)
      refine lv_goto (pc := 91) (tgt := 40) hx hb dX12_join_91 (by decide) ?_
      exact hr40 v_9 σ _ _ _ hR (lv_sub hl [1, 0] rfl) h
    · have h := h.2 c_8
      refine lv_aload_n (pc := 67) hx hb dX12_join_67 rfl (lv_at hl 0 rfl) ?_
      refine gf2_0_62 (pc := 68) hx hb hts hown hK hR mw357 dX12_join_68 ?_
      refine lv_aload_n (pc := 71) hx hb dX12_join_71 rfl (lv_at hl 0 rfl) ?_
      refine gf2_0_49 (pc := 72) hx hb hts hown hK hR mw338 dX12_join_72 ?_
      refine lv_iload_n (pc := 75) hx hb dX12_join_75 rfl (lv_at hl 3 rfl) ?_
      have g_10 := h.1
      have h := h.2
      refine q_iald (pc := 76) hx hb hK hR (k := 26) lt2_26 (ar2_26 _ _ _) g_10 dX12_join_76 ?_
      refine lv_dup2_11 (pc := 77) hx hb dX12_join_77 rfl rfl ?_
      have g_11 := h.1
      have h := h.2
      refine q_iald (pc := 78) hx hb hK hR (k := 37) lt2_37 (ar2_37 _ _ _) g_11 dX12_join_78 ?_
      refine lv_iconst (pc := 79) (v := 1) hx hb dX12_join_79 (by decide) ?_
      refine lv_iadd (pc := 80) hx hb dX12_join_80 ?_
      refine lv_topi (pc := 81) (fun v_12 ev_12 => ?_)
      have h := h v_12 ev_12
      have g_13 := h.1
      have h := h.2
      refine q_iast (pc := 81) hx hb hK hI hR (k := 37) lt2_37 (fun f => (ar2_37 _ f _)) g_13 dX12_join_81 (fun H locs σ_14 eσ_14 hR => ?_)
      have h := h σ_14 eσ_14
      obtain ⟨v_15, ev_15⟩ : ∃ z : Int32, z = x3 + 1 := ⟨_, rfl⟩
      have h := h v_15 ev_15
      refine lv_iinc (pc := 82) (v := v_15) (lv' := [(3, .int v_15), (0, .ref (w.2.1 0)), (1, .int x1), (2, .int x2)]) hx hb dX12_join_82 hl (k := 3) rfl (by rw [ev_15]; rfl) (by decide) rfl (fun ls hl => ?_)
      refine lv_goto (pc := 85) (tgt := 62) hx hb dX12_join_85 (by decide) ?_
      exact ih v_15 σ_14 _ _ _ hR (lv_sub hl [1, 2, 3, 0] rfl) h
def fX12_join_l40 (N : Nat) (Q : St → Prop) (r40 : Int32 → St → Prop) (x1 : Int32) (σ : St) : Prop := (((σ.1 0 41) ≤ x1 → lo1 (fX12_join_l96 N Q) N 0 σ) ∧ (¬ (σ.1 0 41) ≤ x1 → vp_in x1 20 ∧ fX12_parted N x1 (σ.1 21 x1.toNatClampNeg) (fun r_7 σ_6 => lo1 (fX12_join_l62 N r40 x1 r_7 Q) N 0 σ_6) σ))
set_option maxHeartbeats 4000000 in
set_option maxRecDepth 100000 in
theorem bX12_join_40 {p : Program} {e : Env} {s : State} {m : MethodId} {args : Array Value} {below : List Frame} {meth : Method} {c : Code} (l : Launch) (w : Wd) (N : Nat) (Q : St → Prop) (E : Cx 38 w X2 cX12_join 4 RX12 (.code yX12_join cX12_join 4 none) none p s m args meth c) : ∀ (n : Nat) (x1 : Int32) (σ : St) (H : Heap) (locs : List Loc) (ls : Array Slot), Rr 38 ev2 w σ s H locs → lv_has ls 4 [(0, .ref (w.2.1 0)), (1, .int x1)] → lo1 (fX12_join_l40 N Q) n x1 σ → W p l e rmX12_join s m args below meth c H locs 0 0 (MQ below (va_Qv Q (Rp 38 ev2 w) (Aw 38 w)) args s 0 0 (Aw 38 w)) (F0 m 40 ls []) := by
  obtain ⟨hx, hb, hml, hown, hts, hr, hlk, hK, hI, hX⟩ := id E
  intro n
  induction n with
  | zero => intro x1 σ H locs ls hR hl h; exact h.elim
  | succ n ih =>
    intro x1 σ H locs ls hR hl h
    have h : fX12_join_l40 N Q (lo1 (fX12_join_l40 N Q) n) x1 σ := h
    unfold fX12_join_l40 at h
    refine lv_iload_n (pc := 40) hx hb dX12_join_40 rfl (lv_at hl 1 rfl) ?_
    refine lv_aload_n (pc := 41) hx hb dX12_join_41 rfl (lv_at hl 0 rfl) ?_
    refine gf2_0_41 (pc := 42) hx hb hts hown hK hR mw331 dX12_join_42 ?_
    refine lv_icmp_ge (pc := 45) (tgt := 94) hx hb dX12_join_45 (by decide) (fun c_4 => ?_) (fun c_4 => ?_)
    · have h := h.1 c_4
      refine lv_iconst (pc := 94) (v := 0) hx hb dX12_join_94 (by decide) ?_
      refine lv_istore_n (pc := 95) (lv' := [(1, .int 0), (0, .ref (w.2.1 0))]) hx hb dX12_join_95 rfl hl (by decide) rfl (fun ls hl => ?_)
      exact bX12_join_96 l w N Q E N 0 σ _ _ _ hR (lv_sub hl [1, 0] rfl) h
    · have h := h.2 c_4
      refine lv_aload_n (pc := 48) hx hb dX12_join_48 rfl (lv_at hl 0 rfl) ?_
      refine lv_iload_n (pc := 49) hx hb dX12_join_49 rfl (lv_at hl 1 rfl) ?_
      refine lv_aload_n (pc := 50) hx hb dX12_join_50 rfl (lv_at hl 0 rfl) ?_
      refine gf2_0_43 (pc := 51) hx hb hts hown hK hR mw343 dX12_join_51 ?_
      refine lv_iload_n (pc := 54) hx hb dX12_join_54 rfl (lv_at hl 1 rfl) ?_
      have g_5 := h.1
      have h := h.2
      refine q_iald (pc := 55) hx hb hK hR (k := 21) lt2_21 (ar2_21 _ _ _) g_5 dX12_join_55 ?_
      refine q_ci (pc := 56) hR (q_rV E (xp2 w) (As := [.int x1, .int (σ.1 21 x1.toNatClampNeg)]) (rest := []) (cX12_parted_met l w hI N x1 (σ.1 21 x1.toNatClampNeg) _ σ h) ckX12_parted cvX12_parted mw342 ⟨rfl, rfl, Nat.le_of_ble_eq_true rfl, Nat.le_of_ble_eq_true rfl⟩ hR (rc2_0 w) rfl hl.1 rfl (Nat.le_of_ble_eq_true rfl) dX12_join_56) (fun r_7 σ_6 H locs h hR => ?_)
      refine lv_istore_n (pc := 59) (lv' := [(2, .int r_7), (0, .ref (w.2.1 0)), (1, .int x1)]) hx hb dX12_join_59 rfl hl (by decide) rfl (fun ls hl => ?_)
      refine lv_iconst (pc := 60) (v := 0) hx hb dX12_join_60 (by decide) ?_
      refine lv_istore_n (pc := 61) (lv' := [(3, .int 0), (2, .int r_7), (0, .ref (w.2.1 0)), (1, .int x1)]) hx hb dX12_join_61 rfl hl (by decide) rfl (fun ls hl => ?_)
      exact bX12_join_62 l w N Q E x1 r_7 _ ih N 0 σ_6 _ _ _ hR (lv_sub hl [2, 3, 1, 0] rfl) h
def fX12_join_l17 (N : Nat) (Q : St → Prop) (r17 : Int32 → St → Prop) (x1 : Int32) (σ : St) : Prop := (((σ.1 0 36) ≤ x1 → lo1 (fX12_join_l40 N Q) N 0 σ) ∧ (¬ (σ.1 0 36) ≤ x1 → vp_in x1 60 ∧ ∀ σ_5 : St, σ_5 = u1 σ 37 x1.toNatClampNeg 0 → ∀ v_6 : Int32, v_6 = x1 + 1 → r17 v_6 σ_5))
set_option maxHeartbeats 4000000 in
set_option maxRecDepth 100000 in
theorem bX12_join_17 {p : Program} {e : Env} {s : State} {m : MethodId} {args : Array Value} {below : List Frame} {meth : Method} {c : Code} (l : Launch) (w : Wd) (N : Nat) (Q : St → Prop) (E : Cx 38 w X2 cX12_join 4 RX12 (.code yX12_join cX12_join 4 none) none p s m args meth c) : ∀ (n : Nat) (x1 : Int32) (σ : St) (H : Heap) (locs : List Loc) (ls : Array Slot), Rr 38 ev2 w σ s H locs → lv_has ls 4 [(0, .ref (w.2.1 0)), (1, .int x1)] → lo1 (fX12_join_l17 N Q) n x1 σ → W p l e rmX12_join s m args below meth c H locs 0 0 (MQ below (va_Qv Q (Rp 38 ev2 w) (Aw 38 w)) args s 0 0 (Aw 38 w)) (F0 m 17 ls []) := by
  obtain ⟨hx, hb, hml, hown, hts, hr, hlk, hK, hI, hX⟩ := id E
  intro n
  induction n with
  | zero => intro x1 σ H locs ls hR hl h; exact h.elim
  | succ n ih =>
    intro x1 σ H locs ls hR hl h
    have h : fX12_join_l17 N Q (lo1 (fX12_join_l17 N Q) n) x1 σ := h
    unfold fX12_join_l17 at h
    refine lv_iload_n (pc := 17) hx hb dX12_join_17 rfl (lv_at hl 1 rfl) ?_
    refine lv_aload_n (pc := 18) hx hb dX12_join_18 rfl (lv_at hl 0 rfl) ?_
    refine gf2_0_36 (pc := 19) hx hb hts hown hK hR mw330 dX12_join_19 ?_
    refine lv_icmp_ge (pc := 22) (tgt := 38) hx hb dX12_join_22 (by decide) (fun c_3 => ?_) (fun c_3 => ?_)
    · have h := h.1 c_3
      refine lv_iconst (pc := 38) (v := 0) hx hb dX12_join_38 (by decide) ?_
      refine lv_istore_n (pc := 39) (lv' := [(1, .int 0), (0, .ref (w.2.1 0))]) hx hb dX12_join_39 rfl hl (by decide) rfl (fun ls hl => ?_)
      exact bX12_join_40 l w N Q E N 0 σ _ _ _ hR (lv_sub hl [1, 0] rfl) h
    · have h := h.2 c_3
      refine lv_aload_n (pc := 25) hx hb dX12_join_25 rfl (lv_at hl 0 rfl) ?_
      refine gf2_0_62 (pc := 26) hx hb hts hown hK hR mw357 dX12_join_26 ?_
      refine lv_iload_n (pc := 29) hx hb dX12_join_29 rfl (lv_at hl 1 rfl) ?_
      refine lv_iconst (pc := 30) (v := 0) hx hb dX12_join_30 (by decide) ?_
      have g_4 := h.1
      have h := h.2
      refine q_iast (pc := 31) hx hb hK hI hR (k := 37) lt2_37 (fun f => (ar2_37 _ f _)) g_4 dX12_join_31 (fun H locs σ_5 eσ_5 hR => ?_)
      have h := h σ_5 eσ_5
      obtain ⟨v_6, ev_6⟩ : ∃ z : Int32, z = x1 + 1 := ⟨_, rfl⟩
      have h := h v_6 ev_6
      refine lv_iinc (pc := 32) (v := v_6) (lv' := [(1, .int v_6), (0, .ref (w.2.1 0))]) hx hb dX12_join_32 hl (k := 1) rfl (by rw [ev_6]; rfl) (by decide) rfl (fun ls hl => ?_)
      refine lv_goto (pc := 35) (tgt := 17) hx hb dX12_join_35 (by decide) ?_
      exact ih v_6 σ_5 _ _ _ hR (lv_sub hl [1, 0] rfl) h
def fX12_join (N : Nat) (Q : St → Prop) (σ : St) : Prop := ∀ σ_1 : St, σ_1 = u1 σ 0 50 0 → fX12_leaf N (-1) (σ_1.1 0 41) 1 (fun σ_2 => lo1 (fX12_join_l17 N Q) N 0 σ_2) σ_1
set_option maxHeartbeats 4000000 in
set_option maxRecDepth 100000 in
theorem bX12_join_e {p : Program} {e : Env} {s : State} {m : MethodId} {args : Array Value} {below : List Frame} {meth : Method} {c : Code} (l : Launch) (w : Wd) (N : Nat) (Q : St → Prop) (E : Cx 38 w X2 cX12_join 4 RX12 (.code yX12_join cX12_join 4 none) none p s m args meth c) {σ : St} {H : Heap} {locs : List Loc} {ls : Array Slot} (hR : Rr 38 ev2 w σ s H locs) (hl : lv_has ls 4 [(0, .ref (w.2.1 0))]) (h : fX12_join N Q σ) : W p l e rmX12_join s m args below meth c H locs 0 0 (MQ below (va_Qv Q (Rp 38 ev2 w) (Aw 38 w)) args s 0 0 (Aw 38 w)) (F0 m 0 ls []) := by
  obtain ⟨hx, hb, hml, hown, hts, hr, hlk, hK, hI, hX⟩ := id E
  unfold fX12_join at h
  refine lv_aload_n (pc := 0) hx hb dX12_join_0 rfl (lv_at hl 0 rfl) ?_
  refine lv_iconst (pc := 1) (v := 0) hx hb dX12_join_1 (by decide) ?_
  refine pf2_0_50 (pc := 2) hx hb hts hown hK hI hR mw347 dX12_join_2 (fun H locs σ_1 eσ_1 hR => ?_)
  have h := h σ_1 eσ_1
  refine lv_aload_n (pc := 5) hx hb dX12_join_5 rfl (lv_at hl 0 rfl) ?_
  refine lv_iconst (pc := 6) (v := (-1)) hx hb dX12_join_6 (by decide) ?_
  refine lv_aload_n (pc := 7) hx hb dX12_join_7 rfl (lv_at hl 0 rfl) ?_
  refine gf2_0_41 (pc := 8) hx hb hts hown hK hR mw331 dX12_join_8 ?_
  refine lv_iconst (pc := 11) (v := 1) hx hb dX12_join_11 (by decide) ?_
  refine q_cv (pc := 12) hR (q_rV E (xp2 w) (As := [.int (-1), .int (σ_1.1 0 41), .int 1]) (rest := []) (cX12_leaf_met l w hI N (-1) (σ_1.1 0 41) 1 _ σ_1 h) ckX12_leaf cvX12_leaf mw352 ⟨rfl, rfl, Nat.le_of_ble_eq_true rfl, Nat.le_of_ble_eq_true rfl⟩ hR (rc2_0 w) rfl hl.1 rfl (Nat.le_of_ble_eq_true rfl) dX12_join_12) (fun σ_2 H locs h hR => ?_)
  refine lv_iconst (pc := 15) (v := 0) hx hb dX12_join_15 (by decide) ?_
  refine lv_istore_n (pc := 16) (lv' := [(1, .int 0), (0, .ref (w.2.1 0))]) hx hb dX12_join_16 rfl hl (by decide) rfl (fun ls hl => ?_)
  exact bX12_join_17 l w N Q E N 0 σ_2 _ _ _ hR (lv_sub hl [1, 0] rfl) h
theorem cX12_join_met (l : Launch) (w : Wd) (hI : Ij 38 w) (N : Nat) (Q : St → Prop) (σ : St) (h : fX12_join N Q σ) : Met l yX12_join (.code yX12_join cX12_join 4 none :: Uw) rmX12_join (va_Pc [.ref (w.2.1 0)] (fun U => Rp 38 ev2 w σ U ∧ X2 U)) (va_Qv Q (Rp 38 ev2 w) (Aw 38 w)) 0 0 (Aw 38 w) :=
  q_met (by decide) (Nat.le_of_ble_eq_true rfl) hI (fun p e s m below meth c ls E hl hR => bX12_join_e l w N Q E hR hl h)
