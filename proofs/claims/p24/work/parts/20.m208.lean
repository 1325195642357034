-- GlulxStringsModel.places(I)V
abbrev rmX12_places : Room := { frames := 0, cells := 0, slots := 0, locals := 0 }
def fX12_places_l31 (N : Nat) (Q : St → Prop) (r31 : Int32 → St → Prop) (x2 : Int32) (σ : St) : Prop := ((x2 < (σ.1 0 51) → Q σ) ∧ (¬ x2 < (σ.1 0 51) → vp_in x2 122 ∧ vp_in x2 122 ∧ ∀ v_9 : Int32, v_9 = (σ.1 34 x2.toNatClampNeg) + 9 → vp_in (σ.1 30 x2.toNatClampNeg) 122 ∧ ∀ σ_11 : St, σ_11 = u1 σ 34 (σ.1 30 x2.toNatClampNeg).toNatClampNeg v_9 → vp_in x2 122 ∧ vp_in x2 122 ∧ vp_in x2 122 ∧ vp_in (σ_11.1 30 x2.toNatClampNeg) 122 ∧ ∀ v_16 : Int32, v_16 = ((σ_11.1 34 x2.toNatClampNeg) + 9) + (σ_11.1 33 (σ_11.1 30 x2.toNatClampNeg).toNatClampNeg) → vp_in (σ_11.1 31 x2.toNatClampNeg) 122 ∧ ∀ σ_18 : St, σ_18 = u1 σ_11 34 (σ_11.1 31 x2.toNatClampNeg).toNatClampNeg v_16 → vp_in x2 122 ∧ vp_in x2 122 ∧ ∀ v_21 : Int32, v_21 = (σ_18.1 35 x2.toNatClampNeg) + 1 → vp_in (σ_18.1 30 x2.toNatClampNeg) 122 ∧ ∀ σ_23 : St, σ_23 = u1 σ_18 35 (σ_18.1 30 x2.toNatClampNeg).toNatClampNeg v_21 → vp_in x2 122 ∧ vp_in x2 122 ∧ ∀ v_26 : Int32, v_26 = (σ_23.1 35 x2.toNatClampNeg) + 1 → vp_in (σ_23.1 31 x2.toNatClampNeg) 122 ∧ ∀ σ_28 : St, σ_28 = u1 σ_23 35 (σ_23.1 31 x2.toNatClampNeg).toNatClampNeg v_26 → ∀ v_29 : Int32, v_29 = x2 + (-1) → r31 v_29 σ_28))
set_option maxHeartbeats 4000000 in
set_option maxRecDepth 100000 in
theorem bX12_places_31 {p : Program} {e : Env} {s : State} {m : MethodId} {args : Array Value} {below : List Frame} {meth : Method} {c : Code} (l : Launch) (w : Wd) (N : Nat) (Q : St → Prop) (E : Cx 38 w X2 cX12_places 3 RX12 (.code yX12_places cX12_places 3 none) none p s m args meth c) : ∀ (n : Nat) (x2 : Int32) (σ : St) (H : Heap) (locs : List Loc) (ls : Array Slot), Rr 38 ev2 w σ s H locs → lv_has ls 3 [(0, .ref (w.2.1 0)), (2, .int x2)] → lo1 (fX12_places_l31 N Q) n x2 σ → W p l e rmX12_places s m args below meth c H locs 0 0 (MQ below (va_Qv Q (Rp 38 ev2 w) (Aw 38 w)) args s 0 0 (Aw 38 w)) (F0 m 31 ls []) := by
  obtain ⟨hx, hb, hml, hown, hts, hr, hlk, hK, hI, hX⟩ := id E
  intro n
  induction n with
  | zero => intro x2 σ H locs ls hR hl h; exact h.elim
  | succ n ih =>
    intro x2 σ H locs ls hR hl h
    have h : fX12_places_l31 N Q (lo1 (fX12_places_l31 N Q) n) x2 σ := h
    unfold fX12_places_l31 at h
    refine lv_iload_n (pc := 31) hx hb dX12_places_31 rfl (lv_at hl 1 rfl) ?_
    refine lv_aload_n (pc := 32) hx hb dX12_places_32 rfl (lv_at hl 0 rfl) ?_
    refine gf2_0_51 (pc := 33) hx hb hts hown hK hR mw353 dX12_places_33 ?_
    refine lv_icmp_lt (pc := 36) (tgt := 135) hx hb dX12_places_36 (by decide) (fun c_6 => ?_) (fun c_6 => ?_)
    · have h := h.1 c_6
      exact q_vret (pc := 135) E hR h dX12_places_135
    · have h := h.2 c_6
      refine lv_aload_n (pc := 39) hx hb dX12_places_39 rfl (lv_at hl 0 rfl) ?_
      refine gf2_0_59 (pc := 40) hx hb hts hown hK hR mw360 dX12_places_40 ?_
      refine lv_aload_n (pc := 43) hx hb dX12_places_43 rfl (lv_at hl 0 rfl) ?_
      refine gf2_0_55 (pc := 44) hx hb hts hown hK hR mw355 dX12_places_44 ?_
      refine lv_iload_n (pc := 47) hx hb dX12_places_47 rfl (lv_at hl 1 rfl) ?_
      have g_7 := h.1
      have h := h.2
      refine q_iald (pc := 48) hx hb hK hR (k := 30) lt2_30 (ar2_30 _ _ _) g_7 dX12_places_48 ?_
      refine lv_aload_n (pc := 49) hx hb dX12_places_49 rfl (lv_at hl 0 rfl) ?_
      refine gf2_0_59 (pc := 50) hx hb hts hown hK hR mw360 dX12_places_50 ?_
      refine lv_iload_n (pc := 53) hx hb dX12_places_53 rfl (lv_at hl 1 rfl) ?_
      have g_8 := h.1
      have h := h.2
      refine q_iald (pc := 54) hx hb hK hR (k := 34) lt2_34 (ar2_34 _ _ _) g_8 dX12_places_54 ?_
      refine lv_bipush (pc := 55) (v := 9) hx hb dX12_places_55 (by decide) ?_
      refine lv_iadd (pc := 57) hx hb dX12_places_57 ?_
      refine lv_topi (pc := 58) (fun v_9 ev_9 => ?_)
      have h := h v_9 ev_9
      have g_10 := h.1
      have h := h.2
      refine q_iast (pc := 58) hx hb hK hI hR (k := 34) lt2_34 (fun f => (ar2_34 _ f _)) g_10 dX12_places_58 (fun H locs σ_11 eσ_11 hR => ?_)
      have h := h σ_11 eσ_11
      refine lv_aload_n (pc := 59) hx hb dX12_places_59 rfl (lv_at hl 0 rfl) ?_
      refine gf2_0_59 (pc := 60) hx hb hts hown hK hR mw360 dX12_places_60 ?_
      refine lv_aload_n (pc := 63) hx hb dX12_places_63 rfl (lv_at hl 0 rfl) ?_
      refine gf2_0_56 (pc := 64) hx hb hts hown hK hR mw356 dX12_places_64 ?_
      refine lv_iload_n (pc := 67) hx hb dX12_places_67 rfl (lv_at hl 1 rfl) ?_
      have g_12 := h.1
      have h := h.2
      refine q_iald (pc := 68) hx hb hK hR (k := 31) lt2_31 (ar2_31 _ _ _) g_12 dX12_places_68 ?_
      refine lv_aload_n (pc := 69) hx hb dX12_places_69 rfl (lv_at hl 0 rfl) ?_
      refine gf2_0_59 (pc := 70) hx hb hts hown hK hR mw360 dX12_places_70 ?_
      refine lv_iload_n (pc := 73) hx hb dX12_places_73 rfl (lv_at hl 1 rfl) ?_
      have g_13 := h.1
      have h := h.2
      refine q_iald (pc := 74) hx hb hK hR (k := 34) lt2_34 (ar2_34 _ _ _) g_13 dX12_places_74 ?_
      refine lv_bipush (pc := 75) (v := 9) hx hb dX12_places_75 (by decide) ?_
      refine lv_iadd (pc := 77) hx hb dX12_places_77 ?_
      refine lv_aload_n (pc := 78) hx hb dX12_places_78 rfl (lv_at hl 0 rfl) ?_
      refine gf2_0_58 (pc := 79) hx hb hts hown hK hR mw350 dX12_places_79 ?_
      refine lv_aload_n (pc := 82) hx hb dX12_places_82 rfl (lv_at hl 0 rfl) ?_
      refine gf2_0_55 (pc := 83) hx hb hts hown hK hR mw355 dX12_places_83 ?_
      refine lv_iload_n (pc := 86) hx hb dX12_places_86 rfl (lv_at hl 1 rfl) ?_
      have g_14 := h.1
      have h := h.2
      refine q_iald (pc := 87) hx hb hK hR (k := 30) lt2_30 (ar2_30 _ _ _) g_14 dX12_places_87 ?_
      have g_15 := h.1
      have h := h.2
      refine q_iald (pc := 88) hx hb hK hR (k := 33) lt2_33 (ar2_33 _ _ _) g_15 dX12_places_88 ?_
      refine lv_iadd (pc := 89) hx hb dX12_places_89 ?_
      refine lv_topi (pc := 90) (fun v_16 ev_16 => ?_)
      have h := h v_16 ev_16
      have g_17 := h.1
      have h := h.2
      refine q_iast (pc := 90) hx hb hK hI hR (k := 34) lt2_34 (fun f => (ar2_34 _ f _)) g_17 dX12_places_90 (fun H locs σ_18 eσ_18 hR => ?_)
      have h := h σ_18 eσ_18
      refine lv_aload_n (pc := 91) hx hb dX12_places_91 rfl (lv_at hl 0 rfl) ?_
      refine gf2_0_60 (pc := 92) hx hb hts hown hK hR mw361 dX12_places_92 ?_
      refine lv_aload_n (pc := 95) hx hb dX12_places_95 rfl (lv_at hl 0 rfl) ?_
      refine gf2_0_55 (pc := 96) hx hb hts hown hK hR mw355 dX12_places_96 ?_
      refine lv_iload_n (pc := 99) hx hb dX12_places_99 rfl (lv_at hl 1 rfl) ?_
      have g_19 := h.1
      have h := h.2
      refine q_iald (pc := 100) hx hb hK hR (k := 30) lt2_30 (ar2_30 _ _ _) g_19 dX12_places_100 ?_
      refine lv_aload_n (pc := 101) hx hb dX12_places_101 rfl (lv_at hl 0 rfl) ?_
      refine gf2_0_60 (pc := 102) hx hb hts hown hK hR mw361 dX12_places_102 ?_
      refine lv_iload_n (pc := 105) hx hb dX12_places_105 rfl (lv_at hl 1 rfl) ?_
      have g_20 := h.1
      have h := h.2
      refine q_iald (pc := 106) hx hb hK hR (k := 35) lt2_35 (ar2_35 _ _ _) g_20 dX12_places_106 ?_
      refine lv_iconst (pc := 107) (v := 1) hx hb dX12_places_107 (by decide) ?_
      refine lv_iadd (pc := 108) hx hb dX12_places_108 ?_
      refine lv_topi (pc := 109) (fun v_21 ev_21 => ?_)
      have h := h v_21 ev_21
      have g_22 := h.1
      have h := h.2
      refine q_iast (pc := 109) hx hb hK hI hR (k := 35) lt2_35 (fun f => (ar2_35 _ f _)) g_22 dX12_places_109 (fun H locs σ_23 eσ_23 hR => ?_)
      have h := h σ_23 eσ_23
      refine lv_aload_n (pc := 110) hx hb dX12_places_110 rfl (lv_at hl 0 rfl) ?_
      refine gf2_0_60 (pc := 111) hx hb hts hown hK hR mw361 dX12_places_111 ?_
      refine lv_aload_n (pc := 114) hx hb dX12_places_114 rfl (lv_at hl 0 rfl) ?_
      refine gf2_0_56 (pc := 115) hx hb hts hown hK hR mw356 dX12_places_115 ?_
      refine lv_iload_n (pc := 118) hx hb dX12_places_118 rfl (lv_at hl 1 rfl) ?_
      have g_24 := h.1
      have h := h.2
      refine q_iald (pc := 119) hx hb hK hR (k := 31) lt2_31 (ar2_31 _ _ _) g_24 dX12_places_119 ?_
      refine lv_aload_n (pc := 120) hx hb dX12_places_120 rfl (lv_at hl 0 rfl) ?_
      refine gf2_0_60 (pc := 121) hx hb hts hown hK hR mw361 dX12_places_121 ?_
      refine lv_iload_n (pc := 124) hx hb dX12_places_124 rfl (lv_at hl 1 rfl) ?_
      have g_25 := h.1
      have h := h.2
      refine q_iald (pc := 125) hx hb hK hR (k := 35) lt2_35 (ar2_35 _ _ _) g_25 dX12_places_125 ?_
      refine lv_iconst (pc := 126) (v := 1) hx hb dX12_places_126 (by decide) ?_
      refine lv_iadd (pc := 127) hx hb dX12_places_127 ?_
      refine lv_topi (pc := 128) (fun v_26 ev_26 => ?_)
      have h := h v_26 ev_26
      have g_27 := h.1
      have h := h.2
      refine q_iast (pc := 128) hx hb hK hI hR (k := 35) lt2_35 (fun f => (ar2_35 _ f _)) g_27 dX12_places_128 (fun H locs σ_28 eσ_28 hR => ?_)
      have h := h σ_28 eσ_28
      obtain ⟨v_29, ev_29⟩ : ∃ z : Int32, z = x2 + (-1) := ⟨_, rfl⟩
      have h := h v_29 ev_29
      refine lv_iinc (pc := 129) (v := v_29) (lv' := [(2, .int v_29), (0, .ref (w.2.1 0))]) hx hb dX12_places_129 hl (k := 1) rfl (by rw [ev_29]; rfl) (by decide) rfl (fun ls hl => ?_)
      refine lv_goto (pc := 132) (tgt := 31) hx hb dX12_places_132 (by decide) ?_
      exact ih v_29 σ_28 _ _ _ hR (lv_sub hl [1, 0] rfl) h
def fX12_places (N : Nat) (x1 : Int32) (Q : St → Prop) (σ : St) : Prop := vp_in ((σ.1 0 50) - 1) 122 ∧ ∀ σ_2 : St, σ_2 = u1 σ 34 ((σ.1 0 50) - 1).toNatClampNeg x1 → vp_in ((σ_2.1 0 50) - 1) 122 ∧ ∀ σ_4 : St, σ_4 = u1 σ_2 35 ((σ_2.1 0 50) - 1).toNatClampNeg 0 → ∀ v_5 : Int32, v_5 = (σ_4.1 0 50) - 1 → lo1 (fX12_places_l31 N Q) N v_5 σ_4
set_option maxHeartbeats 4000000 in
set_option maxRecDepth 100000 in
theorem bX12_places_e {p : Program} {e : Env} {s : State} {m : MethodId} {args : Array Value} {below : List Frame} {meth : Method} {c : Code} (l : Launch) (w : Wd) (N : Nat) (Q : St → Prop) (E : Cx 38 w X2 cX12_places 3 RX12 (.code yX12_places cX12_places 3 none) none p s m args meth c) (x1 : Int32) {σ : St} {H : Heap} {locs : List Loc} {ls : Array Slot} (hR : Rr 38 ev2 w σ s H locs) (hl : lv_has ls 3 [(0, .ref (w.2.1 0)), (1, .int x1)]) (h : fX12_places N x1 Q σ) : W p l e rmX12_places s m args below meth c H locs 0 0 (MQ below (va_Qv Q (Rp 38 ev2 w) (Aw 38 w)) args s 0 0 (Aw 38 w)) (F0 m 0 ls []) := by
  obtain ⟨hx, hb, hml, hown, hts, hr, hlk, hK, hI, hX⟩ := id E
  unfold fX12_places at h
  refine lv_aload_n (pc := 0) hx hb dX12_places_0 rfl (lv_at hl 0 rfl) ?_
  refine gf2_0_59 (pc := 1) hx hb hts hown hK hR mw360 dX12_places_1 ?_
  refine lv_aload_n (pc := 4) hx hb dX12_places_4 rfl (lv_at hl 0 rfl) ?_
  refine gf2_0_50 (pc := 5) hx hb hts hown hK hR mw347 dX12_places_5 ?_
  refine lv_iconst (pc := 8) (v := 1) hx hb dX12_places_8 (by decide) ?_
  refine lv_isub (pc := 9) hx hb dX12_places_9 ?_
  refine lv_iload_n (pc := 10) hx hb dX12_places_10 rfl (lv_at hl 1 rfl) ?_
  have g_1 := h.1
  have h := h.2
  refine q_iast (pc := 11) hx hb hK hI hR (k := 34) lt2_34 (fun f => (ar2_34 _ f _)) g_1 dX12_places_11 (fun H locs σ_2 eσ_2 hR => ?_)
  have h := h σ_2 eσ_2
  refine lv_aload_n (pc := 12) hx hb dX12_places_12 rfl (lv_at hl 0 rfl) ?_
  refine gf2_0_60 (pc := 13) hx hb hts hown hK hR mw361 dX12_places_13 ?_
  refine lv_aload_n (pc := 16) hx hb dX12_places_16 rfl (lv_at hl 0 rfl) ?_
  refine gf2_0_50 (pc := 17) hx hb hts hown hK hR mw347 dX12_places_17 ?_
  refine lv_iconst (pc := 20) (v := 1) hx hb dX12_places_20 (by decide) ?_
  refine lv_isub (pc := 21) hx hb dX12_places_21 ?_
  refine lv_iconst (pc := 22) (v := 0) hx hb dX12_places_22 (by decide) ?_
  have g_3 := h.1
  have h := h.2
  refine q_iast (pc := 23) hx hb hK hI hR (k := 35) lt2_35 (fun f => (ar2_35 _ f _)) g_3 dX12_places_23 (fun H locs σ_4 eσ_4 hR => ?_)
  have h := h σ_4 eσ_4
  refine lv_aload_n (pc := 24) hx hb dX12_places_24 rfl (lv_at hl 0 rfl) ?_
  refine gf2_0_50 (pc := 25) hx hb hts hown hK hR mw347 dX12_places_25 ?_
  refine lv_iconst (pc := 28) (v := 1) hx hb dX12_places_28 (by decide) ?_
  refine lv_isub (pc := 29) hx hb dX12_places_29 ?_
  refine lv_topi (pc := 30) (fun v_5 ev_5 => ?_)
  have h := h v_5 ev_5
  refine lv_istore_n (pc := 30) (lv' := [(2, .int v_5), (0, .ref (w.2.1 0)), (1, .int x1)]) hx hb dX12_places_30 rfl hl (by decide) rfl (fun ls hl => ?_)
  exact bX12_places_31 l w N Q E N v_5 σ_4 _ _ _ hR (lv_sub hl [1, 0] rfl) h
theorem cX12_places_met (l : Launch) (w : Wd) (hI : Ij 38 w) (N : Nat) (x1 : Int32) (Q : St → Prop) (σ : St) (h : fX12_places N x1 Q σ) : Met l yX12_places (.code yX12_places cX12_places 3 none :: Uw) rmX12_places (va_Pc [.ref (w.2.1 0), .int x1] (fun U => Rp 38 ev2 w σ U ∧ X2 U)) (va_Qv Q (Rp 38 ev2 w) (Aw 38 w)) 0 0 (Aw 38 w) :=
  q_met (by decide) (Nat.le_of_ble_eq_true rfl) hI (fun p e s m below meth c ls E hl hR => bX12_places_e l w N Q E x1 hR hl h)
-- GlulxStringsModel.tellFour(II)V
abbrev rmX12_tellFour : Room := { frames := 1, cells := 0, slots := 0, locals := 22 }
def fX12_tellFour_l2 (N : Nat) (x1 : Int32) (x2 : Int32) (Q : St → Prop) (r2 : Int32 → St → Prop) (x3 : Int32) (σ : St) : Prop := ((4 ≤ x3 → Q σ) ∧ (¬ 4 ≤ x3 → fX12_tell N (x1 + x3) (x2 >>> ((24 - (8 * x3)) &&& 31)) (fun σ_2 => ∀ v_3 : Int32, v_3 = x3 + 1 → r2 v_3 σ_2) σ))
set_option maxHeartbeats 4000000 in
set_option maxRecDepth 100000 in
theorem bX12_tellFour_2 {p : Program} {e : Env} {s : State} {m : MethodId} {args : Array Value} {below : List Frame} {meth : Method} {c : Code} (l : Launch) (w : Wd) (N : Nat) (Q : St → Prop) (E : Cx 38 w X2 cX12_tellFour 4 RX12 (.code yX12_tellFour cX12_tellFour 4 none) none p s m args meth c) (x1 : Int32) (x2 : Int32) : ∀ (n : Nat) (x3 : Int32) (σ : St) (H : Heap) (locs : List Loc) (ls : Array Slot), Rr 38 ev2 w σ s H locs → lv_has ls 4 [(0, .ref (w.2.1 0)), (1, .int x1), (2, .int x2), (3, .int x3)] → lo1 (fX12_tellFour_l2 N x1 x2 Q) n x3 σ → W p l e rmX12_tellFour s m args below meth c H locs 0 0 (MQ below (va_Qv Q (Rp 38 ev2 w) (Aw 38 w)) args s 0 0 (Aw 38 w)) (F0 m 2 ls []) := by
  obtain ⟨hx, hb, hml, hown, hts, hr, hlk, hK, hI, hX⟩ := id E
  intro n
  induction n with
  | zero => intro x3 σ H locs ls hR hl h; exact h.elim
  | succ n ih =>
    intro x3 σ H locs ls hR hl h
    have h : fX12_tellFour_l2 N x1 x2 Q (lo1 (fX12_tellFour_l2 N x1 x2 Q) n) x3 σ := h
    unfold fX12_tellFour_l2 at h
    refine lv_iload_n (pc := 2) hx hb dX12_tellFour_2 rfl (lv_at hl 3 rfl) ?_
    refine lv_iconst (pc := 3) (v := 4) hx hb dX12_tellFour_3 (by decide) ?_
    refine lv_icmp_ge (pc := 4) (tgt := 29) hx hb dX12_tellFour_4 (by decide) (fun c_1 => ?_) (fun c_1 => ?_)
    · have h := h.1 c_1
      exact q_vret (pc := 29) E hR h dX12_tellFour_29
    · have h := h.2 c_1
      refine lv_aload_n (pc := 7) hx hb dX12_tellFour_7 rfl (lv_at hl 0 rfl) ?_
      refine lv_iload_n (pc := 8) hx hb dX12_tellFour_8 rfl (lv_at hl 1 rfl) ?_
      refine lv_iload_n (pc := 9) hx hb dX12_tellFour_9 rfl (lv_at hl 3 rfl) ?_
      refine lv_iadd (pc := 10) hx hb dX12_tellFour_10 ?_
      refine lv_iload_n (pc := 11) hx hb dX12_tellFour_11 rfl (lv_at hl 2 rfl) ?_
      refine lv_bipush (pc := 12) (v := 24) hx hb dX12_tellFour_12 (by decide) ?_
      refine lv_bipush (pc := 14) (v := 8) hx hb dX12_tellFour_14 (by decide) ?_
      refine lv_iload_n (pc := 16) hx hb dX12_tellFour_16 rfl (lv_at hl 3 rfl) ?_
      refine lv_imul (pc := 17) hx hb dX12_tellFour_17 ?_
      refine lv_isub (pc := 18) hx hb dX12_tellFour_18 ?_
      refine lv_ishr (pc := 19) hx hb dX12_tellFour_19 ?_
      refine q_cv (pc := 20) hR (q_rV E (xp2 w) (As := [.int (x1 + x3), .int (x2 >>> ((24 - (8 * x3)) &&& 31))]) (rest := []) (cX12_tell_met l w hI N (x1 + x3) (x2 >>> ((24 - (8 * x3)) &&& 31)) _ σ h) ckX12_tell cvX12_tell mw267 ⟨rfl, rfl, Nat.le_of_ble_eq_true rfl, Nat.le_of_ble_eq_true rfl⟩ hR (rc2_0 w) rfl hl.1 rfl (Nat.le_of_ble_eq_true rfl) dX12_tellFour_20) (fun σ_2 H locs h hR => ?_)
      obtain ⟨v_3, ev_3⟩ : ∃ z : Int32, z = x3 + 1 := ⟨_, rfl⟩
      have h := h v_3 ev_3
      refine lv_iinc (pc := 23) (v := v_3) (lv' := [(3, .int v_3), (0, .ref (w.2.1 0)), (1, .int x1), (2, .int x2)]) hx hb dX12_tellFour_23 hl (k := 3) rfl (by rw [ev_3]; rfl) (by decide) rfl (fun ls hl => ?_)
      refine lv_goto (pc := 26) (tgt := 2) hx hb dX12_tellFour_26 (by decide) ?_
      exact ih v_3 σ_2 _ _ _ hR (lv_sub hl [1, 2, 3, 0] rfl) h
def fX12_tellFour (N : Nat) (x1 : Int32) (x2 : Int32) (Q : St → Prop) (σ : St) : Prop := lo1 (fX12_tellFour_l2 N x1 x2 Q) N 0 σ
set_option maxHeartbeats 4000000 in
set_option maxRecDepth 100000 in
theorem bX12_tellFour_e {p : Program} {e : Env} {s : State} {m : MethodId} {args : Array Value} {below : List Frame} {meth : Method} {c : Code} (l : Launch) (w : Wd) (N : Nat) (Q : St → Prop) (E : Cx 38 w X2 cX12_tellFour 4 RX12 (.code yX12_tellFour cX12_tellFour 4 none) none p s m args meth c) (x1 : Int32) (x2 : Int32) {σ : St} {H : Heap} {locs : List Loc} {ls : Array Slot} (hR : Rr 38 ev2 w σ s H locs) (hl : lv_has ls 4 [(0, .ref (w.2.1 0)), (1, .int x1), (2, .int x2)]) (h : fX12_tellFour N x1 x2 Q σ) : W p l e rmX12_tellFour s m args below meth c H locs 0 0 (MQ below (va_Qv Q (Rp 38 ev2 w) (Aw 38 w)) args s 0 0 (Aw 38 w)) (F0 m 0 ls []) := by
  obtain ⟨hx, hb, hml, hown, hts, hr, hlk, hK, hI, hX⟩ := id E
  unfold fX12_tellFour at h
  refine lv_iconst (pc := 0) (v := 0) hx hb dX12_tellFour_0 (by decide) ?_
  refine lv_istore_n (pc := 1) (lv' := [(3, .int 0), (0, .ref (w.2.1 0)), (1, .int x1), (2, .int x2)]) hx hb dX12_tellFour_1 rfl hl (by decide) rfl (fun ls hl => ?_)
  exact bX12_tellFour_2 l w N Q E x1 x2 N 0 σ _ _ _ hR (lv_sub hl [1, 2, 3, 0] rfl) h
theorem cX12_tellFour_met (l : Launch) (w : Wd) (hI : Ij 38 w) (N : Nat) (x1 : Int32) (x2 : Int32) (Q : St → Prop) (σ : St) (h : fX12_tellFour N x1 x2 Q σ) : Met l yX12_tellFour (.code yX12_tellFour cX12_tellFour 4 none :: Uw) rmX12_tellFour (va_Pc [.ref (w.2.1 0), .int x1, .int x2] (fun U => Rp 38 ev2 w σ U ∧ X2 U)) (va_Qv Q (Rp 38 ev2 w) (Aw 38 w)) 0 0 (Aw 38 w) :=
  q_met (by decide) (Nat.le_of_ble_eq_true rfl) hI (fun p e s m below meth c ls E hl hR => bX12_tellFour_e l w N Q E x1 x2 hR hl h)
-- GlulxStringsModel.lay(I)V
abbrev rmX12_lay : Room := { frames := 2, cells := 0, slots := 0, locals := 45 }
def fX12_lay_j208 (N : Nat) (x2 : Int32) (x3 : Int32) (Q : St → Prop) (σ : St) : Prop := vp_in x3 60 ∧ (((σ.1 16 x3.toNatClampNeg) = 5 → fX12_tellFour N x2 0 (fun σ_19 => Q σ_19) σ) ∧ (¬ (σ.1 16 x3.toNatClampNeg) = 5 → Q σ))
set_option maxHeartbeats 4000000 in
set_option maxRecDepth 100000 in
theorem bX12_lay_208 {p : Program} {e : Env} {s : State} {m : MethodId} {args : Array Value} {below : List Frame} {meth : Method} {c : Code} (l : Launch) (w : Wd) (N : Nat) (Q : St → Prop) (E : Cx 38 w X2 cX12_lay 6 RX12 (.code yX12_lay cX12_lay 6 none) none p s m args meth c) (x2 : Int32) (x3 : Int32) {σ : St} {H : Heap} {locs : List Loc} {ls : Array Slot} (hR : Rr 38 ev2 w σ s H locs) (hl : lv_has ls 6 [(0, .ref (w.2.1 0)), (2, .int x2), (3, .int x3)]) (h : fX12_lay_j208 N x2 x3 Q σ) : W p l e rmX12_lay s m args below meth c H locs 0 0 (MQ below (va_Qv Q (Rp 38 ev2 w) (Aw 38 w)) args s 0 0 (Aw 38 w)) (F0 m 208 ls []) := by
  obtain ⟨hx, hb, hml, hown, hts, hr, hlk, hK, hI, hX⟩ := id E
  unfold fX12_lay_j208 at h
  refine lv_aload_n (pc := 208) hx hb dX12_lay_208 rfl (lv_at hl 0 rfl) ?_
  refine gf2_0_37 (pc := 209) hx hb hts hown hK hR mw332 dX12_lay_209 ?_
  refine lv_iload_n (pc := 212) hx hb dX12_lay_212 rfl (lv_at hl 2 rfl) ?_
  have g_17 := h.1
  have h := h.2
  refine q_iald (pc := 213) hx hb hK hR (k := 16) lt2_16 (ar2_16 _ _ _) g_17 dX12_lay_213 ?_
  refine lv_iconst (pc := 214) (v := 5) hx hb dX12_lay_214 (by decide) ?_
  refine lv_icmp_ne (pc := 215) (tgt := 224) hx hb dX12_lay_215 (by decide) (fun c_18 => ?_) (fun c_18 => ?_)
  · have h := h.2 c_18
    exact q_vret (pc := 224) E hR h dX12_lay_224
  · have h := h.1 c_18
    refine lv_aload_n (pc := 218) hx hb dX12_lay_218 rfl (lv_at hl 0 rfl) ?_
    refine lv_iload_n (pc := 219) hx hb dX12_lay_219 rfl (lv_at hl 1 rfl) ?_
    refine lv_iconst (pc := 220) (v := 0) hx hb dX12_lay_220 (by decide) ?_
    refine q_cv (pc := 221) hR (q_rV E (xp2 w) (As := [.int x2, .int 0]) (rest := []) (cX12_tellFour_met l w hI N x2 0 _ σ h) ckX12_tellFour cvX12_tellFour mw362 ⟨rfl, rfl, Nat.le_of_ble_eq_true rfl, Nat.le_of_ble_eq_true rfl⟩ hR (rc2_0 w) rfl hl.1 rfl (Nat.le_of_ble_eq_true rfl) dX12_lay_221) (fun σ_19 H locs h hR => ?_)
    exact q_vret (pc := 224) E hR h dX12_lay_224
def fX12_lay_j184 (N : Nat) (r120 : Int32 → Int32 → St → Prop) (x3 : Int32) (x4 : Int32) (x5 : Int32) (t0 : Int32) (t1 : Int32) (Q : St → Prop) (σ : St) : Prop := ∀ v_22 : Int32, v_22 = t1 + t0 → ∀ v_23 : Int32, v_23 = x5 + 1 → r120 v_22 v_23 σ
set_option maxHeartbeats 4000000 in
set_option maxRecDepth 100000 in
theorem bX12_lay_184 {p : Program} {e : Env} {s : State} {m : MethodId} {args : Array Value} {below : List Frame} {meth : Method} {c : Code} (l : Launch) (w : Wd) (N : Nat) (Q : St → Prop) (E : Cx 38 w X2 cX12_lay 6 RX12 (.code yX12_lay cX12_lay 6 none) none p s m args meth c) (x3 : Int32) (x4 : Int32) (x5 : Int32) (t0 : Int32) (t1 : Int32) (r120 : Int32 → Int32 → St → Prop) (hr120 : ∀ (x2 : Int32) (x5 : Int32) (σ : St) (H : Heap) (locs : List Loc) (ls : Array Slot), Rr 38 ev2 w σ s H locs → lv_has ls 6 [(0, .ref (w.2.1 0)), (2, .int x2), (3, .int x3), (4, .int x4), (5, .int x5)] → r120 x2 x5 σ → W p l e rmX12_lay s m args below meth c H locs 0 0 (MQ below (va_Qv Q (Rp 38 ev2 w) (Aw 38 w)) args s 0 0 (Aw 38 w)) (F0 m 120 ls [])) {σ : St} {H : Heap} {locs : List Loc} {ls : Array Slot} (hR : Rr 38 ev2 w σ s H locs) (hl : lv_has ls 6 [(0, .ref (w.2.1 0)), (3, .int x3), (4, .int x4), (5, .int x5)]) (h : fX12_lay_j184 N r120 x3 x4 x5 t0 t1 Q σ) : W p l e rmX12_lay s m args below meth c H locs 0 0 (MQ below (va_Qv Q (Rp 38 ev2 w) (Aw 38 w)) args s 0 0 (Aw 38 w)) (F0 m 184 ls [.int t0, .int t1]) := by
  obtain ⟨hx, hb, hml, hown, hts, hr, hlk, hK, hI, hX⟩ := id E
  unfold fX12_lay_j184 at h
  refine lv_iadd (pc := 184) hx hb dX12_lay_184 ?_
  refine lv_topi (pc := 185) (fun v_22 ev_22 => ?_)
  have h := h v_22 ev_22
  refine lv_istore_n (pc := 185) (lv' := [(2, .int v_22), (0, .ref (w.2.1 0)), (3, .int x3), (4, .int x4), (5, .int x5)]) hx hb dX12_lay_185 rfl hl (by decide) rfl (fun ls hl => ?_)
  obtain ⟨v_23, ev_23⟩ : ∃ z : Int32, z = x5 + 1 := ⟨_, rfl⟩
  have h := h v_23 ev_23
  refine lv_iinc (pc := 186) (v := v_23) (lv' := [(5, .int v_23), (2, .int v_22), (0, .ref (w.2.1 0)), (3, .int x3), (4, .int x4)]) hx hb dX12_lay_186 hl (k := 4) rfl (by rw [ev_23]; rfl) (by decide) rfl (fun ls hl => ?_)
  refine lv_goto (pc := 189) (tgt := 120) hx hb dX12_lay_189 (by decide) ?_
  exact hr120 v_22 v_23 σ _ _ _ hR (lv_sub hl [2, 1, 3, 4, 0] rfl) h
def fX12_lay_j173 (N : Nat) (r120 : Int32 → Int32 → St → Prop) (x2 : Int32) (x3 : Int32) (x4 : Int32) (x5 : Int32) (Q : St → Prop) (σ : St) : Prop := ((x4 = 0 → fX12_lay_j184 N r120 x3 x4 x5 4 x2 Q σ) ∧ (¬ x4 = 0 → fX12_lay_j184 N r120 x3 x4 x5 1 x2 Q σ))
set_option maxHeartbeats 4000000 in
set_option maxRecDepth 100000 in
theorem bX12_lay_173 {p : Program} {e : Env} {s : State} {m : MethodId} {args : Array Value} {below : List Frame} {meth : Method} {c : Code} (l : Launch) (w : Wd) (N : Nat) (Q : St → Prop) (E : Cx 38 w X2 cX12_lay 6 RX12 (.code yX12_lay cX12_lay 6 none) none p s m args meth c) (x2 : Int32) (x3 : Int32) (x4 : Int32) (x5 : Int32) (r120 : Int32 → Int32 → St → Prop) (hr120 : ∀ (x2 : Int32) (x5 : Int32) (σ : St) (H : Heap) (locs : List Loc) (ls : Array Slot), Rr 38 ev2 w σ s H locs → lv_has ls 6 [(0, .ref (w.2.1 0)), (2, .int x2), (3, .int x3), (4, .int x4), (5, .int x5)] → r120 x2 x5 σ → W p l e rmX12_lay s m args below meth c H locs 0 0 (MQ below (va_Qv Q (Rp 38 ev2 w) (Aw 38 w)) args s 0 0 (Aw 38 w)) (F0 m 120 ls [])) {σ : St} {H : Heap} {locs : List Loc} {ls : Array Slot} (hR : Rr 38 ev2 w σ s H locs) (hl : lv_has ls 6 [(0, .ref (w.2.1 0)), (2, .int x2), (3, .int x3), (4, .int x4), (5, .int x5)]) (h : fX12_lay_j173 N r120 x2 x3 x4 x5 Q σ) : W p l e rmX12_lay s m args below meth c H locs 0 0 (MQ below (va_Qv Q (Rp 38 ev2 w) (Aw 38 w)) args s 0 0 (Aw 38 w)) (F0 m 173 ls []) := by
  obtain ⟨hx, hb, hml, hown, hts, hr, hlk, hK, hI, hX⟩ := id E
  unfold fX12_lay_j173 at h
  refine lv_iload_n (pc := 173) hx hb dX12_lay_173 rfl (lv_at hl 1 rfl) ?_
  refine lv_iload (pc := 174) hx hb dX12_lay_174 (lv_at hl 3 rfl) ?_
  refine lv_if_eq (pc := 176) (tgt := 183) hx hb dX12_lay_176 (by decide) (fun c_21 => ?_) (fun c_21 => ?_)
  · have h := h.1 c_21
    refine lv_iconst (pc := 183) (v := 4) hx hb dX12_lay_183 (by decide) ?_
    exact bX12_lay_184 l w N Q E x3 x4 x5 4 x2 r120 hr120 hR (lv_sub hl [0, 2, 3, 4] rfl) h
  · have h := h.2 c_21
    refine lv_iconst (pc := 179) (v := 1) hx hb dX12_lay_179 (by decide) ?_
    refine lv_goto (pc := 180) (tgt := 184) hx hb dX12_lay_180 (by decide) ?_
    exact bX12_lay_184 l w N Q E x3 x4 x5 1 x2 r120 hr120 hR (lv_sub hl [0, 2, 3, 4] rfl) h
def fX12_lay_l120 (N : Nat) (x3 : Int32) (x4 : Int32) (Q : St → Prop) (r120 : Int32 → Int32 → St → Prop) (x2 : Int32) (x5 : Int32) (σ : St) : Prop := vp_in x3 60 ∧ (((σ.1 18 x3.toNatClampNeg) ≤ x5 → vp_in x3 60 ∧ (((σ.1 16 x3.toNatClampNeg) = 3 → fX12_tell N x2 0 (fun σ_17 => fX12_lay_j208 N x2 x3 Q σ_17) σ) ∧ (¬ (σ.1 16 x3.toNatClampNeg) = 3 → fX12_lay_j208 N x2 x3 Q σ))) ∧ (¬ (σ.1 18 x3.toNatClampNeg) ≤ x5 → ((x4 = 0 → vp_in ((20 * x3) + x5) 1200 ∧ fX12_tellFour N x2 (σ.1 17 ((20 * x3) + x5).toNatClampNeg) (fun σ_20 => fX12_lay_j173 N r120 x2 x3 x4 x5 Q σ_20) σ) ∧ (¬ x4 = 0 → vp_in ((20 * x3) + x5) 1200 ∧ fX12_tell N x2 (σ.1 17 ((20 * x3) + x5).toNatClampNeg) (fun σ_22 => fX12_lay_j173 N r120 x2 x3 x4 x5 Q σ_22) σ))))
set_option maxHeartbeats 4000000 in
set_option maxRecDepth 100000 in
theorem bX12_lay_120 {p : Program} {e : Env} {s : State} {m : MethodId} {args : Array Value} {below : List Frame} {meth : Method} {c : Code} (l : Launch) (w : Wd) (N : Nat) (Q : St → Prop) (E : Cx 38 w X2 cX12_lay 6 RX12 (.code yX12_lay cX12_lay 6 none) none p s m args meth c) (x3 : Int32) (x4 : Int32) : ∀ (n : Nat) (x2 : Int32) (x5 : Int32) (σ : St) (H : Heap) (locs : List Loc) (ls : Array Slot), Rr 38 ev2 w σ s H locs → lv_has ls 6 [(0, .ref (w.2.1 0)), (2, .int x2), (3, .int x3), (4, .int x4), (5, .int x5)] → lo2 (fX12_lay_l120 N x3 x4 Q) n x2 x5 σ → W p l e rmX12_lay s m args below meth c H locs 0 0 (MQ below (va_Qv Q (Rp 38 ev2 w) (Aw 38 w)) args s 0 0 (Aw 38 w)) (F0 m 120 ls []) := by
  obtain ⟨hx, hb, hml, hown, hts, hr, hlk, hK, hI, hX⟩ := id E
  intro n
  induction n with
  | zero => intro x2 x5 σ H locs ls hR hl h; exact h.elim
  | succ n ih =>
    intro x2 x5 σ H locs ls hR hl h
    have h : fX12_lay_l120 N x3 x4 Q (lo2 (fX12_lay_l120 N x3 x4 Q) n) x2 x5 σ := h
    unfold fX12_lay_l120 at h
    refine lv_iload (pc := 120) hx hb dX12_lay_120 (lv_at hl 4 rfl) ?_
    refine lv_aload_n (pc := 122) hx hb dX12_lay_122 rfl (lv_at hl 0 rfl) ?_
    refine gf2_0_39 (pc := 123) hx hb hts hown hK hR mw333 dX12_lay_123 ?_
    refine lv_iload_n (pc := 126) hx hb dX12_lay_126 rfl (lv_at hl 2 rfl) ?_
    have g_13 := h.1
    have h := h.2
    refine q_iald (pc := 127) hx hb hK hR (k := 18) lt2_18 (ar2_18 _ _ _) g_13 dX12_lay_127 ?_
    refine lv_icmp_ge (pc := 128) (tgt := 192) hx hb dX12_lay_128 (by decide) (fun c_14 => ?_) (fun c_14 => ?_)
    · have h := h.1 c_14
      refine lv_aload_n (pc := 192) hx hb dX12_lay_192 rfl (lv_at hl 0 rfl) ?_
      refine gf2_0_37 (pc := 193) hx hb hts hown hK hR mw332 dX12_lay_193 ?_
      refine lv_iload_n (pc := 196) hx hb dX12_lay_196 rfl (lv_at hl 2 rfl) ?_
      have g_15 := h.1
      have h := h.2
      refine q_iald (pc := 197) hx hb hK hR (k := 16) lt2_16 (ar2_16 _ _ _) g_15 dX12_lay_197 ?_
      refine lv_iconst (pc := 198) (v := 3) hx hb dX12_lay_198 (by decide) ?_
      refine lv_icmp_ne (pc := 199) (tgt := 208) hx hb dX12_lay_199 (by decide) (fun c_16 => ?_) (fun c_16 => ?_)
      · have h := h.2 c_16
        exact bX12_lay_208 l w N Q E x2 x3 hR (lv_sub hl [0, 1, 2] rfl) h
      · have h := h.1 c_16
        refine lv_aload_n (pc := 202) hx hb dX12_lay_202 rfl (lv_at hl 0 rfl) ?_
        refine lv_iload_n (pc := 203) hx hb dX12_lay_203 rfl (lv_at hl 1 rfl) ?_
        refine lv_iconst (pc := 204) (v := 0) hx hb dX12_lay_204 (by decide) ?_
        refine q_cv (pc := 205) hR (q_rV E (xp2 w) (As := [.int x2, .int 0]) (rest := []) (cX12_tell_met l w hI N x2 0 _ σ h) ckX12_tell cvX12_tell mw267 ⟨rfl, rfl, Nat.le_of_ble_eq_true rfl, Nat.le_of_ble_eq_true rfl⟩ hR (rc2_0 w) rfl hl.1 rfl (Nat.le_of_ble_eq_true rfl) dX12_lay_205) (fun σ_17 H locs h hR => ?_)
        exact bX12_lay_208 l w N Q E x2 x3 hR (lv_sub hl [0, 1, 2] rfl) h
    · have h := h.2 c_14
      refine lv_iload (pc := 131) hx hb dX12_lay_131 (lv_at hl 3 rfl) ?_
      refine lv_if_eq (pc := 133) (tgt := 156) hx hb dX12_lay_133 (by decide) (fun c_18 => ?_) (fun c_18 => ?_)
      · have h := h.1 c_18
        refine lv_aload_n (pc := 156) hx hb dX12_lay_156 rfl (lv_at hl 0 rfl) ?_
        refine lv_iload_n (pc := 157) hx hb dX12_lay_157 rfl (lv_at hl 1 rfl) ?_
        refine lv_aload_n (pc := 158) hx hb dX12_lay_158 rfl (lv_at hl 0 rfl) ?_
        refine gf2_0_38 (pc := 159) hx hb hts hown hK hR mw335 dX12_lay_159 ?_
        refine lv_bipush (pc := 162) (v := 20) hx hb dX12_lay_162 (by decide) ?_
        refine lv_iload_n (pc := 164) hx hb dX12_lay_164 rfl (lv_at hl 2 rfl) ?_
        refine lv_imul (pc := 165) hx hb dX12_lay_165 ?_
        refine lv_iload (pc := 166) hx hb dX12_lay_166 (lv_at hl 4 rfl) ?_
        refine lv_iadd (pc := 168) hx hb dX12_lay_168 ?_
        have g_19 := h.1
        have h := h.2
        refine q_iald (pc := 169) hx hb hK hR (k := 17) lt2_17 (ar2_17 _ _ _) g_19 dX12_lay_169 ?_
        refine q_cv (pc := 170) hR (q_rV E (xp2 w) (As := [.int x2, .int (σ.1 17 ((20 * x3) + x5).toNatClampNeg)]) (rest := []) (cX12_tellFour_met l w hI N x2 (σ.1 17 ((20 * x3) + x5).toNatClampNeg) _ σ h) ckX12_tellFour cvX12_tellFour mw362 ⟨rfl, rfl, Nat.le_of_ble_eq_true rfl, Nat.le_of_ble_eq_true rfl⟩ hR (rc2_0 w) rfl hl.1 rfl (Nat.le_of_ble_eq_true rfl) dX12_lay_170) (fun σ_20 H locs h hR => ?_)
        exact bX12_lay_173 l w N Q E x2 x3 x4 x5 _ ih hR (lv_sub hl [0, 1, 2, 3, 4] rfl) h
      · have h := h.2 c_18
        refine lv_aload_n (pc := 136) hx hb dX12_lay_136 rfl (lv_at hl 0 rfl) ?_
        refine lv_iload_n (pc := 137) hx hb dX12_lay_137 rfl (lv_at hl 1 rfl) ?_
        refine lv_aload_n (pc := 138) hx hb dX12_lay_138 rfl (lv_at hl 0 rfl) ?_
        refine gf2_0_38 (pc := 139) hx hb hts hown hK hR mw335 dX12_lay_139 ?_
        refine lv_bipush (pc := 142) (v := 20) hx hb dX12_lay_142 (by decide) ?_
        refine lv_iload_n (pc := 144) hx hb dX12_lay_144 rfl (lv_at hl 2 rfl) ?_
        refine lv_imul (pc := 145) hx hb dX12_lay_145 ?_
        refine lv_iload (pc := 146) hx hb dX12_lay_146 (lv_at hl 4 rfl) ?_
        refine lv_iadd (pc := 148) hx hb dX12_lay_148 ?_
        have g_21 := h.1
        have h := h.2
        refine q_iald (pc := 149) hx hb hK hR (k := 17) lt2_17 (ar2_17 _ _ _) g_21 dX12_lay_149 ?_
        refine q_cv (pc := 150) hR (q_rV E (xp2 w) (As := [.int x2, .int (σ.1 17 ((20 * x3) + x5).toNatClampNeg)]) (rest := []) (cX12_tell_met l w hI N x2 (σ.1 17 ((20 * x3) + x5).toNatClampNeg) _ σ h) ckX12_tell cvX12_tell mw267 ⟨rfl, rfl, Nat.le_of_ble_eq_true rfl, Nat.le_of_ble_eq_true rfl⟩ hR (rc2_0 w) rfl hl.1 rfl (Nat.le_of_ble_eq_true rfl) dX12_lay_150) (fun σ_22 H locs h hR => ?_)
        refine lv_goto (pc := 153) (tgt := 173) hx hb dX12_lay_153 (by decide) ?_
        exact bX12_lay_173 l w N Q E x2 x3 x4 x5 _ ih hR (lv_sub hl [0, 1, 2, 3, 4] rfl) h
def fX12_lay_j101 (N : Nat) (x2 : Int32) (x3 : Int32) (t0 : Int32) (Q : St → Prop) (σ : St) : Prop := vp_in x3 60 ∧ fX12_tell N x2 (σ.1 16 x3.toNatClampNeg) (fun σ_11 => ∀ v_12 : Int32, v_12 = x2 + 1 → lo2 (fX12_lay_l120 N x3 t0 Q) N v_12 0 σ_11) σ
set_option maxHeartbeats 4000000 in
set_option maxRecDepth 100000 in
theorem bX12_lay_101 {p : Program} {e : Env} {s : State} {m : MethodId} {args : Array Value} {below : List Frame} {meth : Method} {c : Code} (l : Launch) (w : Wd) (N : Nat) (Q : St → Prop) (E : Cx 38 w X2 cX12_lay 6 RX12 (.code yX12_lay cX12_lay 6 none) none p s m args meth c) (x2 : Int32) (x3 : Int32) (t0 : Int32) {σ : St} {H : Heap} {locs : List Loc} {ls : Array Slot} (hR : Rr 38 ev2 w σ s H locs) (hl : lv_has ls 6 [(0, .ref (w.2.1 0)), (2, .int x2), (3, .int x3)]) (h : fX12_lay_j101 N x2 x3 t0 Q σ) : W p l e rmX12_lay s m args below meth c H locs 0 0 (MQ below (va_Qv Q (Rp 38 ev2 w) (Aw 38 w)) args s 0 0 (Aw 38 w)) (F0 m 101 ls [.int t0]) := by
  obtain ⟨hx, hb, hml, hown, hts, hr, hlk, hK, hI, hX⟩ := id E
  unfold fX12_lay_j101 at h
  refine lv_istore (pc := 101) (lv' := [(4, .int t0), (0, .ref (w.2.1 0)), (2, .int x2), (3, .int x3)]) hx hb dX12_lay_101 hl (by decide) rfl (fun ls hl => ?_)
  refine lv_aload_n (pc := 103) hx hb dX12_lay_103 rfl (lv_at hl 1 rfl) ?_
  refine lv_iload_n (pc := 104) hx hb dX12_lay_104 rfl (lv_at hl 2 rfl) ?_
  refine lv_aload_n (pc := 105) hx hb dX12_lay_105 rfl (lv_at hl 1 rfl) ?_
  refine gf2_0_37 (pc := 106) hx hb hts hown hK hR mw332 dX12_lay_106 ?_
  refine lv_iload_n (pc := 109) hx hb dX12_lay_109 rfl (lv_at hl 3 rfl) ?_
  have g_10 := h.1
  have h := h.2
  refine q_iald (pc := 110) hx hb hK hR (k := 16) lt2_16 (ar2_16 _ _ _) g_10 dX12_lay_110 ?_
  refine q_cv (pc := 111) hR (q_rV E (xp2 w) (As := [.int x2, .int (σ.1 16 x3.toNatClampNeg)]) (rest := []) (cX12_tell_met l w hI N x2 (σ.1 16 x3.toNatClampNeg) _ σ h) ckX12_tell cvX12_tell mw267 ⟨rfl, rfl, Nat.le_of_ble_eq_true rfl, Nat.le_of_ble_eq_true rfl⟩ hR (rc2_0 w) rfl hl.1 rfl (Nat.le_of_ble_eq_true rfl) dX12_lay_111) (fun σ_11 H locs h hR => ?_)
  obtain ⟨v_12, ev_12⟩ : ∃ z : Int32, z = x2 + 1 := ⟨_, rfl⟩
  have h := h v_12 ev_12
  refine lv_iinc (pc := 114) (v := v_12) (lv' := [(2, .int v_12), (4, .int t0), (0, .ref (w.2.1 0)), (3, .int x3)]) hx hb dX12_lay_114 hl (k := 2) rfl (by rw [ev_12]; rfl) (by decide) rfl (fun ls hl => ?_)
  refine lv_iconst (pc := 117) (v := 0) hx hb dX12_lay_117 (by decide) ?_
  refine lv_istore (pc := 118) (lv' := [(5, .int 0), (2, .int v_12), (4, .int t0), (0, .ref (w.2.1 0)), (3, .int x3)]) hx hb dX12_lay_118 hl (by decide) rfl (fun ls hl => ?_)
  exact bX12_lay_120 l w N Q E x3 t0 N v_12 0 σ_11 _ _ _ hR (lv_sub hl [3, 1, 4, 2, 0] rfl) h
def fX12_lay (N : Nat) (x1 : Int32) (Q : St → Prop) (σ : St) : Prop := vp_in x1 122 ∧ ∀ v_2 : Int32, v_2 = σ.1 34 x1.toNatClampNeg → ((x1 < (σ.1 0 51) → vp_in x1 122 ∧ (((σ.1 27 x1.toNatClampNeg) = (-1) → fX12_tell N v_2 1 (fun σ_10 => Q σ_10) σ) ∧ (¬ (σ.1 27 x1.toNatClampNeg) = (-1) → vp_in x1 122 ∧ ∀ v_7 : Int32, v_7 = σ.1 27 x1.toNatClampNeg → vp_in v_7 60 ∧ ((3 < (σ.1 16 v_7.toNatClampNeg) → fX12_lay_j101 N v_2 v_7 0 Q σ) ∧ (¬ 3 < (σ.1 16 v_7.toNatClampNeg) → fX12_lay_j101 N v_2 v_7 1 Q σ))))) ∧ (¬ x1 < (σ.1 0 51) → fX12_tell N v_2 0 (fun σ_11 => vp_in x1 122 ∧ vp_in (σ_11.1 30 x1.toNatClampNeg) 122 ∧ fX12_tellFour N (v_2 + 1) (σ_11.1 34 (σ_11.1 30 x1.toNatClampNeg).toNatClampNeg) (fun σ_14 => vp_in x1 122 ∧ vp_in (σ_14.1 31 x1.toNatClampNeg) 122 ∧ fX12_tellFour N (v_2 + 5) (σ_14.1 34 (σ_14.1 31 x1.toNatClampNeg).toNatClampNeg) (fun σ_17 => Q σ_17) σ_14) σ_11) σ))
set_option maxHeartbeats 4000000 in
set_option maxRecDepth 100000 in
theorem bX12_lay_e {p : Program} {e : Env} {s : State} {m : MethodId} {args : Array Value} {below : List Frame} {meth : Method} {c : Code} (l : Launch) (w : Wd) (N : Nat) (Q : St → Prop) (E : Cx 38 w X2 cX12_lay 6 RX12 (.code yX12_lay cX12_lay 6 none) none p s m args meth c) (x1 : Int32) {σ : St} {H : Heap} {locs : List Loc} {ls : Array Slot} (hR : Rr 38 ev2 w σ s H locs) (hl : lv_has ls 6 [(0, .ref (w.2.1 0)), (1, .int x1)]) (h : fX12_lay N x1 Q σ) : W p l e rmX12_lay s m args below meth c H locs 0 0 (MQ below (va_Qv Q (Rp 38 ev2 w) (Aw 38 w)) args s 0 0 (Aw 38 w)) (F0 m 0 ls []) := by
  obtain ⟨hx, hb, hml, hown, hts, hr, hlk, hK, hI, hX⟩ := id E
  unfold fX12_lay at h
  refine lv_aload_n (pc := 0) hx hb dX12_lay_0 rfl (lv_at hl 0 rfl) ?_
  refine gf2_0_59 (pc := 1) hx hb hts hown hK hR mw360 dX12_lay_1 ?_
  refine lv_iload_n (pc := 4) hx hb dX12_lay_4 rfl (lv_at hl 1 rfl) ?_
  have g_1 := h.1
  have h := h.2
  refine q_iald (pc := 5) hx hb hK hR (k := 34) lt2_34 (ar2_34 _ _ _) g_1 dX12_lay_5 ?_
  refine lv_topi (pc := 6) (fun v_2 ev_2 => ?_)
  have h := h v_2 ev_2
  refine lv_istore_n (pc := 6) (lv' := [(2, .int v_2), (0, .ref (w.2.1 0)), (1, .int x1)]) hx hb dX12_lay_6 rfl hl (by decide) rfl (fun ls hl => ?_)
  refine lv_iload_n (pc := 7) hx hb dX12_lay_7 rfl (lv_at hl 2 rfl) ?_
  refine lv_aload_n (pc := 8) hx hb dX12_lay_8 rfl (lv_at hl 1 rfl) ?_
  refine gf2_0_51 (pc := 9) hx hb hts hown hK hR mw353 dX12_lay_9 ?_
  refine lv_icmp_lt (pc := 12) (tgt := 60) hx hb dX12_lay_12 (by decide) (fun c_3 => ?_) (fun c_3 => ?_)
  · have h := h.1 c_3
    refine lv_aload_n (pc := 60) hx hb dX12_lay_60 rfl (lv_at hl 1 rfl) ?_
    refine gf2_0_52 (pc := 61) hx hb hts hown hK hR mw346 dX12_lay_61 ?_
    refine lv_iload_n (pc := 64) hx hb dX12_lay_64 rfl (lv_at hl 2 rfl) ?_
    have g_4 := h.1
    have h := h.2
    refine q_iald (pc := 65) hx hb hK hR (k := 27) lt2_27 (ar2_27 _ _ _) g_4 dX12_lay_65 ?_
    refine lv_iconst (pc := 66) (v := (-1)) hx hb dX12_lay_66 (by decide) ?_
    refine lv_icmp_ne (pc := 67) (tgt := 79) hx hb dX12_lay_67 (by decide) (fun c_5 => ?_) (fun c_5 => ?_)
    · have h := h.2 c_5
      refine lv_aload_n (pc := 79) hx hb dX12_lay_79 rfl (lv_at hl 1 rfl) ?_
      refine gf2_0_52 (pc := 80) hx hb hts hown hK hR mw346 dX12_lay_80 ?_
      refine lv_iload_n (pc := 83) hx hb dX12_lay_83 rfl (lv_at hl 2 rfl) ?_
      have g_6 := h.1
      have h := h.2
      refine q_iald (pc := 84) hx hb hK hR (k := 27) lt2_27 (ar2_27 _ _ _) g_6 dX12_lay_84 ?_
      refine lv_topi (pc := 85) (fun v_7 ev_7 => ?_)
      have h := h v_7 ev_7
      refine lv_istore_n (pc := 85) (lv' := [(3, .int v_7), (2, .int v_2), (0, .ref (w.2.1 0)), (1, .int x1)]) hx hb dX12_lay_85 rfl hl (by decide) rfl (fun ls hl => ?_)
      refine lv_aload_n (pc := 86) hx hb dX12_lay_86 rfl (lv_at hl 2 rfl) ?_
      refine gf2_0_37 (pc := 87) hx hb hts hown hK hR mw332 dX12_lay_87 ?_
      refine lv_iload_n (pc := 90) hx hb dX12_lay_90 rfl (lv_at hl 0 rfl) ?_
      have g_8 := h.1
      have h := h.2
      refine q_iald (pc := 91) hx hb hK hR (k := 16) lt2_16 (ar2_16 _ _ _) g_8 dX12_lay_91 ?_
      refine lv_iconst (pc := 92) (v := 3) hx hb dX12_lay_92 (by decide) ?_
      refine lv_icmp_gt (pc := 93) (tgt := 100) hx hb dX12_lay_93 (by decide) (fun c_9 => ?_) (fun c_9 => ?_)
      · have h := h.1 c_9
        refine lv_iconst (pc := 100) (v := 0) hx hb dX12_lay_100 (by decide) ?_
        exact bX12_lay_101 l w N Q E v_2 v_7 0 hR (lv_sub hl [2, 1, 0] rfl) h
      · have h := h.2 c_9
        refine lv_iconst (pc := 96) (v := 1) hx hb dX12_lay_96 (by decide) ?_
        refine lv_goto (pc := 97) (tgt := 101) hx hb dX12_lay_97 (by decide) ?_
        exact bX12_lay_101 l w N Q E v_2 v_7 1 hR (lv_sub hl [2, 1, 0] rfl) h
    · have h := h.1 c_5
      refine lv_aload_n (pc := 70) hx hb dX12_lay_70 rfl (lv_at hl 1 rfl) ?_
      refine lv_iload_n (pc := 71) hx hb dX12_lay_71 rfl (lv_at hl 0 rfl) ?_
      refine lv_iconst (pc := 72) (v := 1) hx hb dX12_lay_72 (by decide) ?_
      refine q_cv (pc := 73) hR (q_rV E (xp2 w) (As := [.int v_2, .int 1]) (rest := []) (cX12_tell_met l w hI N v_2 1 _ σ h) ckX12_tell cvX12_tell mw267 ⟨rfl, rfl, Nat.le_of_ble_eq_true rfl, Nat.le_of_ble_eq_true rfl⟩ hR (rc2_0 w) rfl hl.1 rfl (Nat.le_of_ble_eq_true rfl) dX12_lay_73) (fun σ_10 H locs h hR => ?_)
      refine lv_goto (pc := 76) (tgt := 224) hx hb dX12_lay_76 (by decide) ?_
      exact q_vret (pc := 224) E hR h dX12_lay_224
  · have h := h.2 c_3
    refine lv_aload_n (pc := 15) hx hb dX12_lay_15 rfl (lv_at hl 1 rfl) ?_
    refine lv_iload_n (pc := 16) hx hb dX12_lay_16 rfl (lv_at hl 0 rfl) ?_
    refine lv_iconst (pc := 17) (v := 0) hx hb dX12_lay_17 (by decide) ?_
    refine q_cv (pc := 18) hR (q_rV E (xp2 w) (As := [.int v_2, .int 0]) (rest := []) (cX12_tell_met l w hI N v_2 0 _ σ h) ckX12_tell cvX12_tell mw267 ⟨rfl, rfl, Nat.le_of_ble_eq_true rfl, Nat.le_of_ble_eq_true rfl⟩ hR (rc2_0 w) rfl hl.1 rfl (Nat.le_of_ble_eq_true rfl) dX12_lay_18) (fun σ_11 H locs h hR => ?_)
    refine lv_aload_n (pc := 21) hx hb dX12_lay_21 rfl (lv_at hl 1 rfl) ?_
    refine lv_iload_n (pc := 22) hx hb dX12_lay_22 rfl (lv_at hl 0 rfl) ?_
    refine lv_iconst (pc := 23) (v := 1) hx hb dX12_lay_23 (by decide) ?_
    refine lv_iadd (pc := 24) hx hb dX12_lay_24 ?_
    refine lv_aload_n (pc := 25) hx hb dX12_lay_25 rfl (lv_at hl 1 rfl) ?_
    refine gf2_0_59 (pc := 26) hx hb hts hown hK hR mw360 dX12_lay_26 ?_
    refine lv_aload_n (pc := 29) hx hb dX12_lay_29 rfl (lv_at hl 1 rfl) ?_
    refine gf2_0_55 (pc := 30) hx hb hts hown hK hR mw355 dX12_lay_30 ?_
    refine lv_iload_n (pc := 33) hx hb dX12_lay_33 rfl (lv_at hl 2 rfl) ?_
    have g_12 := h.1
    have h := h.2
    refine q_iald (pc := 34) hx hb hK hR (k := 30) lt2_30 (ar2_30 _ _ _) g_12 dX12_lay_34 ?_
    have g_13 := h.1
    have h := h.2
    refine q_iald (pc := 35) hx hb hK hR (k := 34) lt2_34 (ar2_34 _ _ _) g_13 dX12_lay_35 ?_
    refine q_cv (pc := 36) hR (q_rV E (xp2 w) (As := [.int (v_2 + 1), .int (σ_11.1 34 (σ_11.1 30 x1.toNatClampNeg).toNatClampNeg)]) (rest := []) (cX12_tellFour_met l w hI N (v_2 + 1) (σ_11.1 34 (σ_11.1 30 x1.toNatClampNeg).toNatClampNeg) _ σ_11 h) ckX12_tellFour cvX12_tellFour mw362 ⟨rfl, rfl, Nat.le_of_ble_eq_true rfl, Nat.le_of_ble_eq_true rfl⟩ hR (rc2_0 w) rfl hl.1 rfl (Nat.le_of_ble_eq_true rfl) dX12_lay_36) (fun σ_14 H locs h hR => ?_)
    refine lv_aload_n (pc := 39) hx hb dX12_lay_39 rfl (lv_at hl 1 rfl) ?_
    refine lv_iload_n (pc := 40) hx hb dX12_lay_40 rfl (lv_at hl 0 rfl) ?_
    refine lv_iconst (pc := 41) (v := 5) hx hb dX12_lay_41 (by decide) ?_
    refine lv_iadd (pc := 42) hx hb dX12_lay_42 ?_
    refine lv_aload_n (pc := 43) hx hb dX12_lay_43 rfl (lv_at hl 1 rfl) ?_
    refine gf2_0_59 (pc := 44) hx hb hts hown hK hR mw360 dX12_lay_44 ?_
    refine lv_aload_n (pc := 47) hx hb dX12_lay_47 rfl (lv_at hl 1 rfl) ?_
    refine gf2_0_56 (pc := 48) hx hb hts hown hK hR mw356 dX12_lay_48 ?_
    refine lv_iload_n (pc := 51) hx hb dX12_lay_51 rfl (lv_at hl 2 rfl) ?_
    have g_15 := h.1
    have h := h.2
    refine q_iald (pc := 52) hx hb hK hR (k := 31) lt2_31 (ar2_31 _ _ _) g_15 dX12_lay_52 ?_
    have g_16 := h.1
    have h := h.2
    refine q_iald (pc := 53) hx hb hK hR (k := 34) lt2_34 (ar2_34 _ _ _) g_16 dX12_lay_53 ?_
    refine q_cv (pc := 54) hR (q_rV E (xp2 w) (As := [.int (v_2 + 5), .int (σ_14.1 34 (σ_14.1 31 x1.toNatClampNeg).toNatClampNeg)]) (rest := []) (cX12_tellFour_met l w hI N (v_2 + 5) (σ_14.1 34 (σ_14.1 31 x1.toNatClampNeg).toNatClampNeg) _ σ_14 h) ckX12_tellFour cvX12_tellFour mw362 ⟨rfl, rfl, Nat.le_of_ble_eq_true rfl, Nat.le_of_ble_eq_true rfl⟩ hR (rc2_0 w) rfl hl.1 rfl (Nat.le_of_ble_eq_true rfl) dX12_lay_54) (fun σ_17 H locs h hR => ?_)
    refine lv_goto (pc := 57) (tgt := 224) hx hb dX12_lay_57 (by decide) ?_
    exact q_vret (pc := 224) E hR h dX12_lay_224
theorem cX12_lay_met (l : Launch) (w : Wd) (hI : Ij 38 w) (N : Nat) (x1 : Int32) (Q : St → Prop) (σ : St) (h : fX12_lay N x1 Q σ) : Met l yX12_lay (.code yX12_lay cX12_lay 6 none :: Uw) rmX12_lay (va_Pc [.ref (w.2.1 0), .int x1] (fun U => Rp 38 ev2 w σ U ∧ X2 U)) (va_Qv Q (Rp 38 ev2 w) (Aw 38 w)) 0 0 (Aw 38 w) :=
  q_met (by decide) (Nat.le_of_ble_eq_true rfl) hI (fun p e s m below meth c ls E hl hR => bX12_lay_e l w N Q E x1 hR hl h)
-- GlulxStringsModel.way(I)V
abbrev rmX12_way_ : Room := { frames := 1, cells := 0, slots := 0, locals := 22 }
def fX12_way__j131 (N : Nat) (r2 : Int32 → St → Prop) (x1 : Int32) (x2 : Int32) (Q : St → Prop) (σ : St) : Prop := ∀ v_14 : Int32, v_14 = x2 + 1 → r2 v_14 σ
set_option maxHeartbeats 4000000 in
set_option maxRecDepth 100000 in
theorem bX12_way__131 {p : Program} {e : Env} {s : State} {m : MethodId} {args : Array Value} {below : List Frame} {meth : Method} {c : Code} (l : Launch) (w : Wd) (N : Nat) (Q : St → Prop) (E : Cx 38 w X2 cX12_way_ 5 RX12 (.code yX12_way_ cX12_way_ 5 none) none p s m args meth c) (x1 : Int32) (x2 : Int32) (r2 : Int32 → St → Prop) (hr2 : ∀ (x2 : Int32) (σ : St) (H : Heap) (locs : List Loc) (ls : Array Slot), Rr 38 ev2 w σ s H locs → lv_has ls 5 [(0, .ref (w.2.1 0)), (1, .int x1), (2, .int x2)] → r2 x2 σ → W p l e rmX12_way_ s m args below meth c H locs 0 0 (MQ below (va_Qv Q (Rp 38 ev2 w) (Aw 38 w)) args s 0 0 (Aw 38 w)) (F0 m 2 ls [])) {σ : St} {H : Heap} {locs : List Loc} {ls : Array Slot} (hR : Rr 38 ev2 w σ s H locs) (hl : lv_has ls 5 [(0, .ref (w.2.1 0)), (1, .int x1), (2, .int x2)]) (h : fX12_way__j131 N r2 x1 x2 Q σ) : W p l e rmX12_way_ s m args below meth c H locs 0 0 (MQ below (va_Qv Q (Rp 38 ev2 w) (Aw 38 w)) args s 0 0 (Aw 38 w)) (F0 m 131 ls []) := by
  obtain ⟨hx, hb, hml, hown, hts, hr, hlk, hK, hI, hX⟩ := id E
  unfold fX12_way__j131 at h
  obtain ⟨v_14, ev_14⟩ : ∃ z : Int32, z = x2 + 1 := ⟨_, rfl⟩
  have h := h v_14 ev_14
  refine lv_iinc (pc := 131) (v := v_14) (lv' := [(2, .int v_14), (0, .ref (w.2.1 0)), (1, .int x1)]) hx hb dX12_way__131 hl (k := 2) rfl (by rw [ev_14]; rfl) (by decide) rfl (fun ls hl => ?_)
  refine lv_goto (pc := 134) (tgt := 2) hx hb dX12_way__134 (by decide) ?_
  exact hr2 v_14 σ _ _ _ hR (lv_sub hl [1, 2, 0] rfl) h
def fX12_way__j70 (N : Nat) (r2 : Int32 → St → Prop) (x1 : Int32) (x2 : Int32) (t0 : Int32) (Q : St → Prop) (σ : St) : Prop := vp_in (σ.1 0 63) 4096 ∧ fX12_tell N (σ.1 0 63) ((σ.1 1 (σ.1 0 63).toNatClampNeg) ||| (t0 <<< ((σ.1 0 64) &&& 31))) (fun σ_10 => ∀ v_11 : Int32, v_11 = (σ_10.1 0 64) + 1 → ∀ σ_12 : St, σ_12 = u1 σ_10 0 64 v_11 → (((σ_12.1 0 64) = 8 → ∀ σ_14 : St, σ_14 = u1 σ_12 0 64 0 → ∀ v_15 : Int32, v_15 = (σ_14.1 0 63) + 1 → ∀ σ_16 : St, σ_16 = u1 σ_14 0 63 v_15 → fX12_way__j131 N r2 x1 x2 Q σ_16) ∧ (¬ (σ_12.1 0 64) = 8 → fX12_way__j131 N r2 x1 x2 Q σ_12))) σ
set_option maxHeartbeats 4000000 in
set_option maxRecDepth 100000 in
theorem bX12_way__70 {p : Program} {e : Env} {s : State} {m : MethodId} {args : Array Value} {below : List Frame} {meth : Method} {c : Code} (l : Launch) (w : Wd) (N : Nat) (Q : St → Prop) (E : Cx 38 w X2 cX12_way_ 5 RX12 (.code yX12_way_ cX12_way_ 5 none) none p s m args meth c) (x1 : Int32) (x2 : Int32) (t0 : Int32) (r2 : Int32 → St → Prop) (hr2 : ∀ (x2 : Int32) (σ : St) (H : Heap) (locs : List Loc) (ls : Array Slot), Rr 38 ev2 w σ s H locs → lv_has ls 5 [(0, .ref (w.2.1 0)), (1, .int x1), (2, .int x2)] → r2 x2 σ → W p l e rmX12_way_ s m args below meth c H locs 0 0 (MQ below (va_Qv Q (Rp 38 ev2 w) (Aw 38 w)) args s 0 0 (Aw 38 w)) (F0 m 2 ls [])) {σ : St} {H : Heap} {locs : List Loc} {ls : Array Slot} (hR : Rr 38 ev2 w σ s H locs) (hl : lv_has ls 5 [(0, .ref (w.2.1 0)), (1, .int x1), (2, .int x2)]) (h : fX12_way__j70 N r2 x1 x2 t0 Q σ) : W p l e rmX12_way_ s m args below meth c H locs 0 0 (MQ below (va_Qv Q (Rp 38 ev2 w) (Aw 38 w)) args s 0 0 (Aw 38 w)) (F0 m 70 ls [.int t0]) := by
  obtain ⟨hx, hb, hml, hown, hts, hr, hlk, hK, hI, hX⟩ := id E
  unfold fX12_way__j70 at h
  refine lv_istore (pc := 70) (lv' := [(4, .int t0), (0, .ref (w.2.1 0)), (1, .int x1), (2, .int x2)]) hx hb dX12_way__70 hl (by decide) rfl (fun ls hl => ?_)
  refine lv_aload_n (pc := 72) hx hb dX12_way__72 rfl (lv_at hl 1 rfl) ?_
  refine lv_aload_n (pc := 73) hx hb dX12_way__73 rfl (lv_at hl 1 rfl) ?_
  refine gf2_0_63 (pc := 74) hx hb hts hown hK hR mw364 dX12_way__74 ?_
  refine lv_aload_n (pc := 77) hx hb dX12_way__77 rfl (lv_at hl 1 rfl) ?_
  refine gf2_0_0 (pc := 78) hx hb hts hown hK hR mw262 dX12_way__78 ?_
  refine lv_aload_n (pc := 81) hx hb dX12_way__81 rfl (lv_at hl 1 rfl) ?_
  refine gf2_0_63 (pc := 82) hx hb hts hown hK hR mw364 dX12_way__82 ?_
  have g_9 := h.1
  have h := h.2
  refine q_iald (pc := 85) hx hb hK hR (k := 1) lt2_1 (ar2_1 _ _ _) g_9 dX12_way__85 ?_
  refine lv_iload (pc := 86) hx hb dX12_way__86 (lv_at hl 0 rfl) ?_
  refine lv_aload_n (pc := 88) hx hb dX12_way__88 rfl (lv_at hl 1 rfl) ?_
  refine gf2_0_64 (pc := 89) hx hb hts hown hK hR mw363 dX12_way__89 ?_
  refine lv_ishl (pc := 92) hx hb dX12_way__92 ?_
  refine lv_ior (pc := 93) hx hb dX12_way__93 ?_
  refine q_cv (pc := 94) hR (q_rV E (xp2 w) (As := [.int (σ.1 0 63), .int ((σ.1 1 (σ.1 0 63).toNatClampNeg) ||| (t0 <<< ((σ.1 0 64) &&& 31)))]) (rest := []) (cX12_tell_met l w hI N (σ.1 0 63) ((σ.1 1 (σ.1 0 63).toNatClampNeg) ||| (t0 <<< ((σ.1 0 64) &&& 31))) _ σ h) ckX12_tell cvX12_tell mw267 ⟨rfl, rfl, Nat.le_of_ble_eq_true rfl, Nat.le_of_ble_eq_true rfl⟩ hR (rc2_0 w) rfl hl.1 rfl (Nat.le_of_ble_eq_true rfl) dX12_way__94) (fun σ_10 H locs h hR => ?_)
  refine lv_aload_n (pc := 97) hx hb dX12_way__97 rfl (lv_at hl 1 rfl) ?_
  refine lv_dup (pc := 98) hx hb dX12_way__98 rfl ?_
  refine gf2_0_64 (pc := 99) hx hb hts hown hK hR mw363 dX12_way__99 ?_
  refine lv_iconst (pc := 102) (v := 1) hx hb dX12_way__102 (by decide) ?_
  refine lv_iadd (pc := 103) hx hb dX12_way__103 ?_
  refine lv_topi (pc := 104) (fun v_11 ev_11 => ?_)
  have h := h v_11 ev_11
  refine pf2_0_64 (pc := 104) hx hb hts hown hK hI hR mw363 dX12_way__104 (fun H locs σ_12 eσ_12 hR => ?_)
  have h := h σ_12 eσ_12
  refine lv_aload_n (pc := 107) hx hb dX12_way__107 rfl (lv_at hl 1 rfl) ?_
  refine gf2_0_64 (pc := 108) hx hb hts hown hK hR mw363 dX12_way__108 ?_
  refine lv_bipush (pc := 111) (v := 8) hx hb dX12_way__111 (by decide) ?_
  refine lv_icmp_ne (pc := 113) (tgt := 131) hx hb dX12_way__113 (by decide) (fun c_13 => ?_) (fun c_13 => ?_)
  · have h := h.2 c_13
    exact bX12_way__131 l w N Q E x1 x2 r2 hr2 hR (lv_sub hl [1, 2, 3] rfl) h
  · have h := h.1 c_13
    refine lv_aload_n (pc := 116) hx hb dX12_way__116 rfl (lv_at hl 1 rfl) ?_
    refine lv_iconst (pc := 117) (v := 0) hx hb dX12_way__117 (by decide) ?_
    refine pf2_0_64 (pc := 118) hx hb hts hown hK hI hR mw363 dX12_way__118 (fun H locs σ_14 eσ_14 hR => ?_)
    have h := h σ_14 eσ_14
    refine lv_aload_n (pc := 121) hx hb dX12_way__121 rfl (lv_at hl 1 rfl) ?_
    refine lv_dup (pc := 122) hx hb dX12_way__122 rfl ?_
    refine gf2_0_63 (pc := 123) hx hb hts hown hK hR mw364 dX12_way__123 ?_
    refine lv_iconst (pc := 126) (v := 1) hx hb dX12_way__126 (by decide) ?_
    refine lv_iadd (pc := 127) hx hb dX12_way__127 ?_
    refine lv_topi (pc := 128) (fun v_15 ev_15 => ?_)
    have h := h v_15 ev_15
    refine pf2_0_63 (pc := 128) hx hb hts hown hK hI hR mw364 dX12_way__128 (fun H locs σ_16 eσ_16 hR => ?_)
    have h := h σ_16 eσ_16
    exact bX12_way__131 l w N Q E x1 x2 r2 hr2 hR (lv_sub hl [1, 2, 3] rfl) h
def fX12_way__j50 (N : Nat) (r2 : Int32 → St → Prop) (x1 : Int32) (x2 : Int32) (x3 : Int32) (Q : St → Prop) (σ : St) : Prop := vp_in x3 122 ∧ vp_in (σ.1 32 x3.toNatClampNeg) 122 ∧ (((σ.1 31 (σ.1 32 x3.toNatClampNeg).toNatClampNeg) = x3 → fX12_way__j70 N r2 x1 x2 1 Q σ) ∧ (¬ (σ.1 31 (σ.1 32 x3.toNatClampNeg).toNatClampNeg) = x3 → fX12_way__j70 N r2 x1 x2 0 Q σ))
set_option maxHeartbeats 4000000 in
set_option maxRecDepth 100000 in
theorem bX12_way__50 {p : Program} {e : Env} {s : State} {m : MethodId} {args : Array Value} {below : List Frame} {meth : Method} {c : Code} (l : Launch) (w : Wd) (N : Nat) (Q : St → Prop) (E : Cx 38 w X2 cX12_way_ 5 RX12 (.code yX12_way_ cX12_way_ 5 none) none p s m args meth c) (x1 : Int32) (x2 : Int32) (x3 : Int32) (r2 : Int32 → St → Prop) (hr2 : ∀ (x2 : Int32) (σ : St) (H : Heap) (locs : List Loc) (ls : Array Slot), Rr 38 ev2 w σ s H locs → lv_has ls 5 [(0, .ref (w.2.1 0)), (1, .int x1), (2, .int x2)] → r2 x2 σ → W p l e rmX12_way_ s m args below meth c H locs 0 0 (MQ below (va_Qv Q (Rp 38 ev2 w) (Aw 38 w)) args s 0 0 (Aw 38 w)) (F0 m 2 ls [])) {σ : St} {H : Heap} {locs : List Loc} {ls : Array Slot} (hR : Rr 38 ev2 w σ s H locs) (hl : lv_has ls 5 [(0, .ref (w.2.1 0)), (1, .int x1), (2, .int x2), (3, .int x3)]) (h : fX12_way__j50 N r2 x1 x2 x3 Q σ) : W p l e rmX12_way_ s m args below meth c H locs 0 0 (MQ below (va_Qv Q (Rp 38 ev2 w) (Aw 38 w)) args s 0 0 (Aw 38 w)) (F0 m 50 ls []) := by
  obtain ⟨hx, hb, hml, hown, hts, hr, hlk, hK, hI, hX⟩ := id E
  unfold fX12_way__j50 at h
  refine lv_aload_n (pc := 50) hx hb dX12_way__50 rfl (lv_at hl 0 rfl) ?_
  refine gf2_0_56 (pc := 51) hx hb hts hown hK hR mw356 dX12_way__51 ?_
  refine lv_aload_n (pc := 54) hx hb dX12_way__54 rfl (lv_at hl 0 rfl) ?_
  refine gf2_0_57 (pc := 55) hx hb hts hown hK hR mw351 dX12_way__55 ?_
  refine lv_iload_n (pc := 58) hx hb dX12_way__58 rfl (lv_at hl 3 rfl) ?_
  have g_6 := h.1
  have h := h.2
  refine q_iald (pc := 59) hx hb hK hR (k := 32) lt2_32 (ar2_32 _ _ _) g_6 dX12_way__59 ?_
  have g_7 := h.1
  have h := h.2
  refine q_iald (pc := 60) hx hb hK hR (k := 31) lt2_31 (ar2_31 _ _ _) g_7 dX12_way__60 ?_
  refine lv_iload_n (pc := 61) hx hb dX12_way__61 rfl (lv_at hl 3 rfl) ?_
  refine lv_icmp_ne (pc := 62) (tgt := 69) hx hb dX12_way__62 (by decide) (fun c_8 => ?_) (fun c_8 => ?_)
  · have h := h.2 c_8
    refine lv_iconst (pc := 69) (v := 0) hx hb dX12_way__69 (by decide) ?_
    exact bX12_way__70 l w N Q E x1 x2 0 r2 hr2 hR (lv_sub hl [0, 1, 2] rfl) h
  · have h := h.1 c_8
    refine lv_iconst (pc := 65) (v := 1) hx hb dX12_way__65 (by decide) ?_
    refine lv_goto (pc := 66) (tgt := 70) hx hb dX12_way__66 (by decide) ?_
    exact bX12_way__70 l w N Q E x1 x2 1 r2 hr2 hR (lv_sub hl [0, 1, 2] rfl) h
def fX12_way__l14 (N : Nat) (r2 : Int32 → St → Prop) (x1 : Int32) (x2 : Int32) (Q : St → Prop) (r14 : Int32 → St → Prop) (x3 : Int32) (σ : St) : Prop := vp_in x3 122 ∧ (((σ.1 35 x3.toNatClampNeg) ≤ x2 → (((σ.1 0 64) = 0 → fX12_tell N (σ.1 0 63) 0 (fun σ_6 => fX12_way__j50 N r2 x1 x2 x3 Q σ_6) σ) ∧ (¬ (σ.1 0 64) = 0 → fX12_way__j50 N r2 x1 x2 x3 Q σ))) ∧ (¬ (σ.1 35 x3.toNatClampNeg) ≤ x2 → vp_in x3 122 ∧ ∀ v_8 : Int32, v_8 = σ.1 32 x3.toNatClampNeg → r14 v_8 σ))
set_option maxHeartbeats 4000000 in
set_option maxRecDepth 100000 in
theorem bX12_way__14 {p : Program} {e : Env} {s : State} {m : MethodId} {args : Array Value} {below : List Frame} {meth : Method} {c : Code} (l : Launch) (w : Wd) (N : Nat) (Q : St → Prop) (E : Cx 38 w X2 cX12_way_ 5 RX12 (.code yX12_way_ cX12_way_ 5 none) none p s m args meth c) (x1 : Int32) (x2 : Int32) (r2 : Int32 → St → Prop) (hr2 : ∀ (x2 : Int32) (σ : St) (H : Heap) (locs : List Loc) (ls : Array Slot), Rr 38 ev2 w σ s H locs → lv_has ls 5 [(0, .ref (w.2.1 0)), (1, .int x1), (2, .int x2)] → r2 x2 σ → W p l e rmX12_way_ s m args below meth c H locs 0 0 (MQ below (va_Qv Q (Rp 38 ev2 w) (Aw 38 w)) args s 0 0 (Aw 38 w)) (F0 m 2 ls [])) : ∀ (n : Nat) (x3 : Int32) (σ : St) (H : Heap) (locs : List Loc) (ls : Array Slot), Rr 38 ev2 w σ s H locs → lv_has ls 5 [(0, .ref (w.2.1 0)), (1, .int x1), (2, .int x2), (3, .int x3)] → lo1 (fX12_way__l14 N r2 x1 x2 Q) n x3 σ → W p l e rmX12_way_ s m args below meth c H locs 0 0 (MQ below (va_Qv Q (Rp 38 ev2 w) (Aw 38 w)) args s 0 0 (Aw 38 w)) (F0 m 14 ls []) := by
  obtain ⟨hx, hb, hml, hown, hts, hr, hlk, hK, hI, hX⟩ := id E
  intro n
  induction n with
  | zero => intro x3 σ H locs ls hR hl h; exact h.elim
  | succ n ih =>
    intro x3 σ H locs ls hR hl h
    have h : fX12_way__l14 N r2 x1 x2 Q (lo1 (fX12_way__l14 N r2 x1 x2 Q) n) x3 σ := h
    unfold fX12_way__l14 at h
    refine lv_aload_n (pc := 14) hx hb dX12_way__14 rfl (lv_at hl 0 rfl) ?_
    refine gf2_0_60 (pc := 15) hx hb hts hown hK hR mw361 dX12_way__15 ?_
    refine lv_iload_n (pc := 18) hx hb dX12_way__18 rfl (lv_at hl 3 rfl) ?_
    have g_3 := h.1
    have h := h.2
    refine q_iald (pc := 19) hx hb hK hR (k := 35) lt2_35 (ar2_35 _ _ _) g_3 dX12_way__19 ?_
    refine lv_iload_n (pc := 20) hx hb dX12_way__20 rfl (lv_at hl 2 rfl) ?_
    refine lv_icmp_le (pc := 21) (tgt := 34) hx hb dX12_way__21 (by decide) (fun c_4 => ?_) (fun c_4 => ?_)
    · have h := h.1 c_4
      refine lv_aload_n (pc := 34) hx hb dX12_way__34 rfl (lv_at hl 0 rfl) ?_
      refine gf2_0_64 (pc := 35) hx hb hts hown hK hR mw363 dX12_way__35 ?_
      refine lv_if_ne (pc := 38) (tgt := 50) hx hb dX12_way__38 (by decide) (fun c_5 => ?_) (fun c_5 => ?_)
      · have h := h.2 c_5
        exact bX12_way__50 l w N Q E x1 x2 x3 r2 hr2 hR (lv_sub hl [0, 1, 2, 3] rfl) h
      · have h := h.1 c_5
        refine lv_aload_n (pc := 41) hx hb dX12_way__41 rfl (lv_at hl 0 rfl) ?_
        refine lv_aload_n (pc := 42) hx hb dX12_way__42 rfl (lv_at hl 0 rfl) ?_
        refine gf2_0_63 (pc := 43) hx hb hts hown hK hR mw364 dX12_way__43 ?_
        refine lv_iconst (pc := 46) (v := 0) hx hb dX12_way__46 (by decide) ?_
        refine q_cv (pc := 47) hR (q_rV E (xp2 w) (As := [.int (σ.1 0 63), .int 0]) (rest := []) (cX12_tell_met l w hI N (σ.1 0 63) 0 _ σ h) ckX12_tell cvX12_tell mw267 ⟨rfl, rfl, Nat.le_of_ble_eq_true rfl, Nat.le_of_ble_eq_true rfl⟩ hR (rc2_0 w) rfl hl.1 rfl (Nat.le_of_ble_eq_true rfl) dX12_way__47) (fun σ_6 H locs h hR => ?_)
        exact bX12_way__50 l w N Q E x1 x2 x3 r2 hr2 hR (lv_sub hl [0, 1, 2, 3] rfl) h
    · have h := h.2 c_4
      refine lv_aload_n (pc := 24) hx hb dX12_way__24 rfl (lv_at hl 0 rfl) ?_
      refine gf2_0_57 (pc := 25) hx hb hts hown hK hR mw351 dX12_way__25 ?_
      refine lv_iload_n (pc := 28) hx hb dX12_way__28 rfl (lv_at hl 3 rfl) ?_
      have g_7 := h.1
      have h := h.2
      refine q_iald (pc := 29) hx hb hK hR (k := 32) lt2_32 (ar2_32 _ _ _) g_7 dX12_way__29 ?_
      refine lv_topi (pc := 30) (fun v_8 ev_8 => ?_)
      have h := h v_8 ev_8
      refine lv_istore_n (pc := 30) (lv' := [(3, .int v_8), (0, .ref (w.2.1 0)), (1, .int x1), (2, .int x2)]) hx hb dX12_way__30 rfl hl (by decide) rfl (fun ls hl => ?_)
      refine lv_goto (pc := 31) (tgt := 14) hx hb dX12_way__31 (by decide) ?_
      exact ih v_8 σ _ _ _ hR (lv_sub hl [1, 2, 3, 0] rfl) h
def fX12_way__l2 (N : Nat) (x1 : Int32) (Q : St → Prop) (r2 : Int32 → St → Prop) (x2 : Int32) (σ : St) : Prop := vp_in x1 122 ∧ (((σ.1 35 x1.toNatClampNeg) < x2 → Q σ) ∧ (¬ (σ.1 35 x1.toNatClampNeg) < x2 → lo1 (fX12_way__l14 N r2 x1 x2 Q) N x1 σ))
set_option maxHeartbeats 4000000 in
set_option maxRecDepth 100000 in
theorem bX12_way__2 {p : Program} {e : Env} {s : State} {m : MethodId} {args : Array Value} {below : List Frame} {meth : Method} {c : Code} (l : Launch) (w : Wd) (N : Nat) (Q : St → Prop) (E : Cx 38 w X2 cX12_way_ 5 RX12 (.code yX12_way_ cX12_way_ 5 none) none p s m args meth c) (x1 : Int32) : ∀ (n : Nat) (x2 : Int32) (σ : St) (H : Heap) (locs : List Loc) (ls : Array Slot), Rr 38 ev2 w σ s H locs → lv_has ls 5 [(0, .ref (w.2.1 0)), (1, .int x1), (2, .int x2)] → lo1 (fX12_way__l2 N x1 Q) n x2 σ → W p l e rmX12_way_ s m args below meth c H locs 0 0 (MQ below (va_Qv Q (Rp 38 ev2 w) (Aw 38 w)) args s 0 0 (Aw 38 w)) (F0 m 2 ls []) := by
  obtain ⟨hx, hb, hml, hown, hts, hr, hlk, hK, hI, hX⟩ := id E
  intro n
  induction n with
  | zero => intro x2 σ H locs ls hR hl h; exact h.elim
  | succ n ih =>
    intro x2 σ H locs ls hR hl h
    have h : fX12_way__l2 N x1 Q (lo1 (fX12_way__l2 N x1 Q) n) x2 σ := h
    unfold fX12_way__l2 at h
    refine lv_iload_n (pc := 2) hx hb dX12_way__2 rfl (lv_at hl 2 rfl) ?_
    refine lv_aload_n (pc := 3) hx hb dX12_way__3 rfl (lv_at hl 0 rfl) ?_
    refine gf2_0_60 (pc := 4) hx hb hts hown hK hR mw361 dX12_way__4 ?_
    refine lv_iload_n (pc := 7) hx hb dX12_way__7 rfl (lv_at hl 1 rfl) ?_
    have g_1 := h.1
    have h := h.2
    refine q_iald (pc := 8) hx hb hK hR (k := 35) lt2_35 (ar2_35 _ _ _) g_1 dX12_way__8 ?_
    refine lv_icmp_gt (pc := 9) (tgt := 137) hx hb dX12_way__9 (by decide) (fun c_2 => ?_) (fun c_2 => ?_)
    · have h := h.1 c_2
      exact q_vret (pc := 137) E hR h dX12_way__137
    · have h := h.2 c_2
      refine lv_iload_n (pc := 12) hx hb dX12_way__12 rfl (lv_at hl 1 rfl) ?_
      refine lv_istore_n (pc := 13) (lv' := [(3, .int x1), (0, .ref (w.2.1 0)), (1, .int x1), (2, .int x2)]) hx hb dX12_way__13 rfl hl (by decide) rfl (fun ls hl => ?_)
      exact bX12_way__14 l w N Q E x1 x2 _ ih N x1 σ _ _ _ hR (lv_sub hl [1, 2, 3, 0] rfl) h
def fX12_way_ (N : Nat) (x1 : Int32) (Q : St → Prop) (σ : St) : Prop := lo1 (fX12_way__l2 N x1 Q) N 1 σ
set_option maxHeartbeats 4000000 in
set_option maxRecDepth 100000 in
theorem bX12_way__e {p : Program} {e : Env} {s : State} {m : MethodId} {args : Array Value} {below : List Frame} {meth : Method} {c : Code} (l : Launch) (w : Wd) (N : Nat) (Q : St → Prop) (E : Cx 38 w X2 cX12_way_ 5 RX12 (.code yX12_way_ cX12_way_ 5 none) none p s m args meth c) (x1 : Int32) {σ : St} {H : Heap} {locs : List Loc} {ls : Array Slot} (hR : Rr 38 ev2 w σ s H locs) (hl : lv_has ls 5 [(0, .ref (w.2.1 0)), (1, .int x1)]) (h : fX12_way_ N x1 Q σ) : W p l e rmX12_way_ s m args below meth c H locs 0 0 (MQ below (va_Qv Q (Rp 38 ev2 w) (Aw 38 w)) args s 0 0 (Aw 38 w)) (F0 m 0 ls []) := by
  obtain ⟨hx, hb, hml, hown, hts, hr, hlk, hK, hI, hX⟩ := id E
  unfold fX12_way_ at h
  refine lv_iconst (pc := 0) (v := 1) hx hb dX12_way__0 (by decide) ?_
  refine lv_istore_n (pc := 1) (lv' := [(2, .int 1), (0, .ref (w.2.1 0)), (1, .int x1)]) hx hb dX12_way__1 rfl hl (by decide) rfl (fun ls hl => ?_)
  exact bX12_way__2 l w N Q E x1 N 1 σ _ _ _ hR (lv_sub hl [1, 2, 0] rfl) h
theorem cX12_way__met (l : Launch) (w : Wd) (hI : Ij 38 w) (N : Nat) (x1 : Int32) (Q : St → Prop) (σ : St) (h : fX12_way_ N x1 Q σ) : Met l yX12_way_ (.code yX12_way_ cX12_way_ 5 none :: Uw) rmX12_way_ (va_Pc [.ref (w.2.1 0), .int x1] (fun U => Rp 38 ev2 w σ U ∧ X2 U)) (va_Qv Q (Rp 38 ev2 w) (Aw 38 w)) 0 0 (Aw 38 w) :=
  q_met (by decide) (Nat.le_of_ble_eq_true rfl) hI (fun p e s m below meth c ls E hl hR => bX12_way__e l w N Q E x1 hR hl h)
