theorem and31 (x : Int32) : 0 ≤ (x &&& 31).toInt ∧ (x &&& 31).toInt ≤ 31 := by
  obtain ⟨j, hj, e⟩ := pk_andE x (m := 31) 5 (by decide)
  rw [e, nI_toInt (by omega)]
  omega
set_option maxHeartbeats 8000000 in
set_option maxRecDepth 100000 in
theorem law_loop {p : Program} {e : Env} {s : State} {m : MethodId} {below : List Frame} {meth : Method} {c : Code} (l : Launch) {w1 w2 : Wd} {b L : Nat} {xs : Nat → Int32} (E : Lx w1 w2 b L xs p s m #[Value.ref b] meth c) (hL : L ≤ 2048) (hr : meth.sig.returnType = ret) (hlk : meth.locks = false) : ∀ (n : Nat) (i : Int32) (σ1 σ2 : St) (H : Heap) (locs : List Loc) (ls : Array Slot), 0 ≤ i.toInt → i.toInt ≤ 4000 → (L : Int) - 4 - i.toInt < n → lv_has ls 4 [(3, .int i), (0, .ref b), (1, .ref (w1.2.1 0)), (2, .ref (w2.2.1 0))] → Rl w1 w2 σ1 σ2 s H locs → GI σ1 σ2 → W p l e room_1 s m #[Value.ref b] below meth c H locs 261 46861 (lw_Z below #[Value.ref b] s) (F0 m 18 ls []) := by
  obtain ⟨hx, hb, hml, hown, hts, hX0, hbl, hK1, hK2, hX1, hA1, hA2, hdis, hI1, hI2⟩ := id E
  have hbA : ¬ An s.heap.size b := fun z => absurd hbl (Nat.not_lt.mpr z)
  have z1 : (1 : Int32).toInt = 1 := by decide
  have z2 : (2 : Int32).toInt = 2 := by decide
  have z3 : (3 : Int32).toInt = 3 := by decide
  have z4 : (4 : Int32).toInt = 4 := by decide
  have hLi : (Int32.ofNat L).toInt = (L : Int) := nI_toInt (n := L) (by omega)
  have hL4 : (Int32.ofNat L - 4).toInt = (L : Int) - 4 := sOkE hLi z4 (by omega) (by omega)
  intro n
  induction n with
  | zero =>
    intro i σ1 σ2 H locs ls hi0 hi1 hn hl hR hG
    refine lv_iload_n (pc := 18) hx hb dl_18 rfl (lv_at hl 0 rfl) ?_
    refine lv_aload_n (pc := 19) hx hb dl_19 rfl (lv_at hl 1 rfl) ?_
    refine va_slen (pc := 20) hx hb hX0 hbl hbA hR.2.2 dl_20 ?_
    refine lv_iconst (pc := 21) (v := 4) hx hb dl_21 (by decide) ?_
    refine lv_isub (pc := 22) hx hb dl_22 ?_
    refine lv_icmp_gt (pc := 23) (tgt := 725) hx hb dl_23 (by decide) (fun c_1 => ?_) (fun c_1 => ?_)
    · refine lv_iconst (pc := 725) (v := 1) hx hb dl_725 (by decide) ?_
      refine va_forget (fun q hq => hR.2.2.2.2 q hq) ?_
      refine W.widen (k := 600000) (n := 7302250) (Nat.le_of_ble_eq_true rfl) (Nat.le_of_ble_eq_true rfl) ?_
      exact lw_ret hx hb hr hlk dl_726
    · have := (notltE hL4 (rfl : i.toInt = i.toInt)).mp c_1
      omega
  | succ n ih =>
    intro i σ1 σ2 H locs ls hi0 hi1 hn hl hR hG
    refine lv_iload_n (pc := 18) hx hb dl_18 rfl (lv_at hl 0 rfl) ?_
    refine lv_aload_n (pc := 19) hx hb dl_19 rfl (lv_at hl 1 rfl) ?_
    refine va_slen (pc := 20) hx hb hX0 hbl hbA hR.2.2 dl_20 ?_
    refine lv_iconst (pc := 21) (v := 4) hx hb dl_21 (by decide) ?_
    refine lv_isub (pc := 22) hx hb dl_22 ?_
    refine lv_icmp_gt (pc := 23) (tgt := 725) hx hb dl_23 (by decide) (fun c_1 => ?_) (fun c_1 => ?_)
    · refine lv_iconst (pc := 725) (v := 1) hx hb dl_725 (by decide) ?_
      refine va_forget (fun q hq => hR.2.2.2.2 q hq) ?_
      refine W.widen (k := 600000) (n := 7302250) (Nat.le_of_ble_eq_true rfl) (Nat.le_of_ble_eq_true rfl) ?_
      exact lw_ret hx hb hr hlk dl_726
    · have hle := (notltE hL4 (rfl : i.toInt = i.toInt)).mp c_1
      have g1 : (i + 1).toInt = i.toInt + 1 := aOkE rfl z1 (by omega) (by omega)
      have g2 : (i + 2).toInt = i.toInt + 2 := aOkE rfl z2 (by omega) (by omega)
      have g3 : (i + 3).toInt = i.toInt + 3 := aOkE rfl z3 (by omega) (by omega)
      have g4 : (i + 4).toInt = i.toInt + 4 := aOkE rfl z4 (by omega) (by omega)
      have h0 : vp_in i L := inE (rfl : i.toInt = i.toInt) (by omega) (by omega)
      have h1 : vp_in (i + 1) L := inE g1 (by omega) (by omega)
      have h2 : vp_in (i + 2) L := inE g2 (by omega) (by omega)
      have h3 : vp_in (i + 3) L := inE g3 (by omega) (by omega)
      refine lv_aload_n (pc := 26) hx hb dl_26 rfl (lv_at hl 1 rfl) ?_
      refine lv_iload_n (pc := 27) hx hb dl_27 rfl (lv_at hl 0 rfl) ?_
      refine va_sld (pc := 28) hx hb hX0 hbl hbA hR.2.2 h0 dl_28 ?_
      refine lv_bipush (pc := 29) (v := 31) hx hb dl_29 (by decide) ?_
      refine lv_iand (pc := 31) hx hb dl_31 ?_
      have hv := and31 (xs i.toNatClampNeg)
      generalize (xs i.toNatClampNeg) &&& 31 = v at hv
      have next : ∀ (τ1 τ2 : St) (H1 : Heap) (locs1 : List Loc), Rl w1 w2 τ1 τ2 s H1 locs1 → GI τ1 τ2 → W p l e room_1 s m #[Value.ref b] below meth c H1 locs1 261 46861 (lw_Z below #[Value.ref b] s) (F0 m 719 ls []) := by
        intro τ1 τ2 H1 locs1 hR1 hG1
        refine lv_iinc (pc := 719) (v := i + 4) (lv' := [(3, .int (i + 4)), (0, .ref b), (1, .ref (w1.2.1 0)), (2, .ref (w2.2.1 0))]) hx hb dl_719 hl (k := 0) rfl rfl (by decide) rfl (fun ls hl => ?_)
        refine lv_goto (pc := 722) (tgt := 18) hx hb dl_722 (by decide) ?_
        exact ih (i + 4) τ1 τ2 H1 locs1 ls (by omega) (by omega) (by omega) hl hR1 hG1
      by_cases c0 : v = 0
      · refine lv_tableIn (pc := 32) (tgt := 140) (off := 108) hx hb dl_32 (by rw [c0]; decide) (by rw [c0]; decide) (by rw [c0]; rfl) (by decide) ?_
        exact lc_feed l E h1 h2 h3 hl hR hG next
      by_cases c1 : v = 1
      · refine lv_tableIn (pc := 32) (tgt := 203) (off := 171) hx hb dl_32 (by rw [c1]; decide) (by rw [c1]; decide) (by rw [c1]; rfl) (by decide) ?_
        exact lc_load l E h1 h2 h3 hl hR hG next
      by_cases c2 : v = 2
      · refine lv_tableIn (pc := 32) (tgt := 226) (off := 194) hx hb dl_32 (by rw [c2]; decide) (by rw [c2]; decide) (by rw [c2]; rfl) (by decide) ?_
        exact lc_border l E h1 h2 h3 hl hR hG next
      by_cases c3 : v = 3
      · refine lv_tableIn (pc := 32) (tgt := 249) (off := 217) hx hb dl_32 (by rw [c3]; decide) (by rw [c3]; decide) (by rw [c3]; rfl) (by decide) ?_
        exact lc_byteAt l E h1 h2 h3 hl hR hG next
      by_cases c4 : v = 4
      · refine lv_tableIn (pc := 32) (tgt := 272) (off := 240) hx hb dl_32 (by rw [c4]; decide) (by rw [c4]; decide) (by rw [c4]; rfl) (by decide) ?_
        exact lc_table l E h1 h2 h3 hl hR hG next
      by_cases c5 : v = 5
      · refine lv_tableIn (pc := 32) (tgt := 295) (off := 263) hx hb dl_32 (by rw [c5]; decide) (by rw [c5]; decide) (by rw [c5]; rfl) (by decide) ?_
        exact lc_system l E h1 h2 h3 hl hR hG next
      by_cases c6 : v = 6
      · refine lv_tableIn (pc := 32) (tgt := 328) (off := 296) hx hb dl_32 (by rw [c6]; decide) (by rw [c6]; decide) (by rw [c6]; rfl) (by decide) ?_
        exact lc_print l E h1 h2 h3 hl hR hG next
      by_cases c7 : v = 7
      · refine lv_tableIn (pc := 32) (tgt := 361) (off := 329) hx hb dl_32 (by rw [c7]; decide) (by rw [c7]; decide) (by rw [c7]; rfl) (by decide) ?_
        exact lc_number l E h1 h2 h3 hl hR hG next
      by_cases c8 : v = 8
      · refine lv_tableIn (pc := 32) (tgt := 394) (off := 362) hx hb dl_32 (by rw [c8]; decide) (by rw [c8]; decide) (by rw [c8]; rfl) (by decide) ?_
        exact lc_call l E h1 h2 h3 hl hR hG next
      by_cases c9 : v = 9
      · refine lv_tableIn (pc := 32) (tgt := 427) (off := 395) hx hb dl_32 (by rw [c9]; decide) (by rw [c9]; decide) (by rw [c9]; rfl) (by decide) ?_
        exact lc_resume l E h1 h2 h3 hl hR hG next
      by_cases c10 : v = 10
      · refine lv_tableIn (pc := 32) (tgt := 450) (off := 418) hx hb dl_32 (by rw [c10]; decide) (by rw [c10]; decide) (by rw [c10]; rfl) (by decide) ?_
        exact lc_stop l E h1 h2 h3 hl hR hG next
      by_cases c11 : v = 11
      · refine lv_tableIn (pc := 32) (tgt := 463) (off := 431) hx hb dl_32 (by rw [c11]; decide) (by rw [c11]; decide) (by rw [c11]; rfl) (by decide) ?_
        exact lc_jobs l E h1 h2 h3 hl hR hG next
      by_cases c12 : v = 12
      · refine lv_tableIn (pc := 32) (tgt := 476) (off := 444) hx hb dl_32 (by rw [c12]; decide) (by rw [c12]; decide) (by rw [c12]; rfl) (by decide) ?_
        exact lc_job l E h1 h2 h3 hl hR hG next
      by_cases c13 : v = 13
      · refine lv_tableIn (pc := 32) (tgt := 509) (off := 477) hx hb dl_32 (by rw [c13]; decide) (by rw [c13]; decide) (by rw [c13]; rfl) (by decide) ?_
        exact lc_at l E h1 h2 h3 hl hR hG next
      by_cases c14 : v = 14
      · refine lv_tableIn (pc := 32) (tgt := 532) (off := 500) hx hb dl_32 (by rw [c14]; decide) (by rw [c14]; decide) (by rw [c14]; rfl) (by decide) ?_
        exact lc_clear l E h1 h2 h3 hl hR hG next
      by_cases c15 : v = 15
      · refine lv_tableIn (pc := 32) (tgt := 545) (off := 513) hx hb dl_32 (by rw [c15]; decide) (by rw [c15]; decide) (by rw [c15]; rfl) (by decide) ?_
        exact lc_told l E h1 h2 h3 hl hR hG next
      by_cases c16 : v = 16
      · refine lv_tableIn (pc := 32) (tgt := 568) (off := 536) hx hb dl_32 (by rw [c16]; decide) (by rw [c16]; decide) (by rw [c16]; rfl) (by decide) ?_
        exact lc_sign l E h1 h2 h3 hl hR hG next
      by_cases c17 : v = 17
      · refine lv_tableIn (pc := 32) (tgt := 591) (off := 559) hx hb dl_32 (by rw [c17]; decide) (by rw [c17]; decide) (by rw [c17]; rfl) (by decide) ?_
        exact lc_piece l E h1 h2 h3 hl hR hG next
      by_cases c18 : v = 18
      · refine lv_tableIn (pc := 32) (tgt := 614) (off := 582) hx hb dl_32 (by rw [c18]; decide) (by rw [c18]; decide) (by rw [c18]; rfl) (by decide) ?_
        exact lc_text l E h1 h2 h3 hl hR hG next
      by_cases c19 : v = 19
      · refine lv_tableIn (pc := 32) (tgt := 627) (off := 595) hx hb dl_32 (by rw [c19]; decide) (by rw [c19]; decide) (by rw [c19]; rfl) (by decide) ?_
        exact lc_tree l E h1 h2 h3 hl hR hG next
      by_cases c20 : v = 20
      · refine lv_tableIn (pc := 32) (tgt := 650) (off := 618) hx hb dl_32 (by rw [c20]; decide) (by rw [c20]; decide) (by rw [c20]; rfl) (by decide) ?_
        exact lc_laid l E h1 h2 h3 hl hR hG next
      by_cases c21 : v = 21
      · refine lv_tableIn (pc := 32) (tgt := 683) (off := 651) hx hb dl_32 (by rw [c21]; decide) (by rw [c21]; decide) (by rw [c21]; rfl) (by decide) ?_
        exact lc_bits l E h1 h2 h3 hl hR hG next
      by_cases c22 : v = 22
      · refine lv_tableIn (pc := 32) (tgt := 706) (off := 674) hx hb dl_32 (by rw [c22]; decide) (by rw [c22]; decide) (by rw [c22]; rfl) (by decide) ?_
        exact lc_forget l E h1 h2 h3 hl hR hG next
      have n0 := ne_i (show (0 : Int32).toInt = 0 from by decide) c0
      have n1 := ne_i (show (1 : Int32).toInt = 1 from by decide) c1
      have n2 := ne_i (show (2 : Int32).toInt = 2 from by decide) c2
      have n3 := ne_i (show (3 : Int32).toInt = 3 from by decide) c3
      have n4 := ne_i (show (4 : Int32).toInt = 4 from by decide) c4
      have n5 := ne_i (show (5 : Int32).toInt = 5 from by decide) c5
      have n6 := ne_i (show (6 : Int32).toInt = 6 from by decide) c6
      have n7 := ne_i (show (7 : Int32).toInt = 7 from by decide) c7
      have n8 := ne_i (show (8 : Int32).toInt = 8 from by decide) c8
      have n9 := ne_i (show (9 : Int32).toInt = 9 from by decide) c9
      have n10 := ne_i (show (10 : Int32).toInt = 10 from by decide) c10
      have n11 := ne_i (show (11 : Int32).toInt = 11 from by decide) c11
      have n12 := ne_i (show (12 : Int32).toInt = 12 from by decide) c12
      have n13 := ne_i (show (13 : Int32).toInt = 13 from by decide) c13
      have n14 := ne_i (show (14 : Int32).toInt = 14 from by decide) c14
      have n15 := ne_i (show (15 : Int32).toInt = 15 from by decide) c15
      have n16 := ne_i (show (16 : Int32).toInt = 16 from by decide) c16
      have n17 := ne_i (show (17 : Int32).toInt = 17 from by decide) c17
      have n18 := ne_i (show (18 : Int32).toInt = 18 from by decide) c18
      have n19 := ne_i (show (19 : Int32).toInt = 19 from by decide) c19
      have n20 := ne_i (show (20 : Int32).toInt = 20 from by decide) c20
      have n21 := ne_i (show (21 : Int32).toInt = 21 from by decide) c21
      have n22 := ne_i (show (22 : Int32).toInt = 22 from by decide) c22
      refine lv_tableOut (pc := 32) (tgt := 719) hx hb dl_32 (by omega) (by decide) ?_
      exact next _ _ _ _ hR hG
theorem g1_init : ∀ a b : Nat, Rg1 a b (σ1i.1 a b) := by
  intro a b
  have z : (0 : Int32).toInt = 0 := by decide
  have key : i1 a b = 0 ∨ a = 4 ∨ (43 ≤ a ∧ a < 83) := by
    unfold i1
    split
    · exact Or.inr (Or.inl rfl)
    · split
      · exact Or.inr (Or.inr ⟨by omega, by omega⟩)
      · exact Or.inl rfl
    · exact Or.inl rfl
  rcases key with h | h | h
  · show Rg1 a b (i1 a b)
    rw [h]
    unfold Rg1
    split <;> simp [In32, z]
  · subst h
    show 203 ≤ 4 → _
    intro q
    omega
  · exact rg_un h.1 (by omega)
theorem g2_init : G2 σ2i := by
  have z : (0 : Int32).toInt = 0 := by decide
  have zz : ∀ a b : Nat, ¬ (a = 0 ∧ b = 46) → σ2i.1 a b = 0 := by
    intro a b h
    show i2 a b = 0
    unfold i2
    split
    · exact if_neg (fun q => h ⟨rfl, q⟩)
    · rfl
  refine ⟨fun a b => ?_, fun p hp => ?_, Or.inl ?_⟩
  · by_cases h : a = 0 ∧ b = 46
    · obtain ⟨rfl, rfl⟩ := h
      exact Rg2.q_0_46 _
    · rw [zz a b h]
      unfold Rg2
      split <;> simp [In32, z]
  · rw [zz 0 36 (by omega), z] at hp
    omega
  · rw [zz 0 14 (by omega)]; exact z
theorem rbt_init : Rbt Xr σ1i σ2i := by
  have z : (0 : Int32).toInt = 0 := by decide
  have e5 : σ2i.1 0 5 = 0 := rfl
  have e3 : σ2i.1 0 3 = 0 := rfl
  have e36 : σ2i.1 0 36 = 0 := rfl
  have e41 : σ2i.1 0 41 = 0 := rfl
  have e14 : σ2i.1 0 14 = 0 := rfl
  have a12 : ∀ x : Nat, σ1i.1 12 x = 0 := fun x => by show i1 12 x = 0; unfold i1; rfl
  have a16 : ∀ x : Nat, σ1i.1 16 x = 0 := fun x => by show i1 16 x = 0; unfold i1; rfl
  refine ⟨?_, fun x _ => by rw [a12]; rfl, funext (fun x => a16 x), ⟨⟨rfl, fun i hi => ?_⟩, fun i hi => ?_, fun p _ hp => ?_, fun k _ hk => ?_⟩, g2_init, rfl, fun j hj => ?_⟩
  · show ∀ q ∈ SC, i1 q.1 q.2.1 = i2 q.2.2.1 q.2.2.2
    decide
  · rw [e5, z] at hi; omega
  · rw [e3, z] at hi; omega
  · rw [e36, z] at hp; omega
  · rw [e41, z] at hk; omega
  · rw [e14, z] at hj; omega
set_option maxHeartbeats 8000000 in
set_option maxRecDepth 100000 in
theorem whole_start {p : Program} {e : Env} {s : State} {m : MethodId} {below : List Frame} {meth : Method} {c : Code} (l : Launch) {b L : Nat} {xs : Nat → Int32} (hL : L ≤ 2048) (C0 : lw_At p s m meth c b L xs) : W p l e room_1 s m #[Value.ref b] below meth c s.heap [] 0 0 (lw_Z below #[Value.ref b] s) (entryFrame m ([Value.ref b] : List Value).toArray 4) := by
  obtain ⟨hx, hb, hr, hml, hown, hts0, hX0, hbl, hlk, hgv⟩ := C0
  have hts : ∀ w ∈ Uw, w.before #[Value.ref b] s = true := fun w hw => hts0 w (Uw_sub hw)
  obtain ⟨G, cl, hW⟩ := wd_ex hts0
  obtain ⟨t1, ht1, hZ1⟩ := st_VALUES hgv hts0
  obtain ⟨t2, ht2, hZ2⟩ := st_TAILS hgv hts0
  obtain ⟨w1, ew1⟩ : ∃ w1 : Wd, w1 = (G, ad1 s.heap.size t1 t2, cl) := ⟨_, rfl⟩
  obtain ⟨w2, ew2⟩ : ∃ w2 : Wd, w2 = (G, ad2 (s.heap.size + 223), cl) := ⟨_, rfl⟩
  have hK1 : va_K w1.1 vwCl (tyW w1) s := by rw [ew1]; exact (hW _).1
  have hXw1 : Xw w1 s := by rw [ew1]; exact (hW _).2
  have hK2 : va_K w2.1 vwCl (tyW w2) s := by rw [ew2]; exact (hW _).1
  have hXw2 : Xw w2 s := by rw [ew2]; exact (hW _).2
  have a1 : ∀ k : Nat, k < 223 → w1.2.1 k = s.heap.size + off1 k := fun k hk => by rw [ew1]; exact ad1_off _ _ _ k hk
  have a2 : ∀ k : Nat, w2.2.1 k = s.heap.size + 223 + k := fun k => by rw [ew2]; exact ad2_off _ k
  have hA1 : ∀ q : Nat, Aw 223 w1 q → s.heap.size ≤ q ∧ q < s.heap.size + 223 := by
    intro q ⟨k, hk, hq⟩
    have := off1_lt k hk
    rw [hq, a1 k hk]
    omega
  have hA2 : ∀ q : Nat, Aw 38 w2 q → s.heap.size + 223 ≤ q := by
    intro q ⟨k, hk, hq⟩
    rw [hq, a2 k]
    omega
  have hI1 : Ij 223 w1 := by
    intro i j hi hj h
    rw [a1 i hi, a1 j hj] at h
    exact off1_inj hi hj (by omega)
  have hI2 : Ij 38 w2 := by
    intro i j hi hj h
    rw [a2 i, a2 j] at h
    omega
  have hout : ∀ a : Nat, a < s.heap.size → ¬ Aw 223 w1 a := fun a ha z => by have := hA1 a z; omega
  have hX1 : X1 w1 s := by
    have e1 : w1.2.1 1000 = t1 := by rw [ew1]; rfl
    have e2 : w1.2.1 1001 = t2 := by rw [ew1]; rfl
    unfold X1
    rw [e1, e2]
    exact ⟨(hZ1 _ hout).1, (hZ1 _ hout).2, (hZ2 _ hout).1, (hZ2 _ hout).2⟩
  have E : Lx w1 w2 b L xs p s m #[Value.ref b] meth c := ⟨hx, hb, hml, hown, hts, hX0, hbl, hK1, hK2, hX1, fun q h => (hA1 q h).1, fun q h => by have := hA2 q h; omega, fun q h h' => by have := hA1 q h; have := hA2 q h'; omega, hI1, hI2⟩
  have hl := lv_entry ([.ref b]) (n := 4) (Nat.le_of_ble_eq_true rfl)
  rw [lg_entry_eq]
  generalize (lg_sl ([.ref b]) ++ List.replicate (4 - (lg_sl ([.ref b])).length) Slot.unset).toArray = ls at hl ⊢
  have hl : lv_has ls 4 [(0, .ref b)] := hl
  have hC : Ln w1 [] s s.heap [] := ⟨by simp, fun i e h => by simp at h, va_S.rf⟩
  refine l_new (pc := 0) (ci' := 10) (fs' := blX11) hx hb hown hts hK1 hC (s.heap.size + 0) rfl iuX11 tyX11 tyX11_ok (Uw_of (inT1 _ (List.mem_of_getElem? (i := 16) rfl)) rfl) (Uw_of (inT1 _ (List.mem_of_getElem? (i := 17) rfl)) rfl) (Uw_of (inT1 _ (List.mem_of_getElem? (i := 1) rfl)) rfl) rfl (by decide +kernel) (Nat.le_of_ble_eq_true rfl) (Nat.le_of_ble_eq_true rfl) dl_0 (fun H hC => ?_)
  refine lv_dup (pc := 3) hx hb dl_3 rfl ?_
  refine l_init (pc := 4) hx hb hml hown hts hK1 hXw1 hC (s.heap.size + 0) rfl (kX11_init l w1 (s.heap.size + 0) (s.heap.size + 0 + 1)) ⟨ku_code11, (Uw_of (inT1 _ (List.mem_of_getElem? (i := 1) rfl)) rfl), by decide, by decide, by decide +kernel⟩ rfl (Uw_of (inT1 _ (List.mem_of_getElem? (i := 19) rfl)) rfl) (Uw_of (inT1 _ (List.mem_of_getElem? (i := 18) rfl)) rfl) ⟨rfl, rfl, Nat.le_of_ble_eq_true rfl, Nat.le_of_ble_eq_true rfl⟩ hl.1 rfl (Nat.le_of_ble_eq_true rfl) dl_4 ⟨Nat.le_of_ble_eq_true rfl, Nat.le_of_ble_eq_true rfl⟩ (fun H locs hC => ?_)
  have hlen1 : (La w1 s.heap.size).length = 223 := by
    show (LX11 w1 _).length + 1 = 223
    rw [lenX11]
  have hC : Ln w1 (La w1 s.heap.size) s H locs := hC
  refine lv_astore_n (pc := 7) (lv' := [(1, .ref (s.heap.size + 0)), (0, .ref b)]) hx hb dl_7 rfl hl (by decide) rfl (fun ls hl => ?_)
  have hC2 : Ln w2 (La w1 s.heap.size) s H locs := by
    have eG : w2.1 = w1.1 := by rw [ew1, ew2]
    obtain ⟨d1, d2, d3⟩ := hC
    exact ⟨d1, fun i e hi => by rw [eG]; exact d2 i e hi, d3⟩
  refine l_new (pc := 8) (ci' := 11) (fs' := blX12) hx hb hown hts hK2 hC2 (s.heap.size + 223) (by rw [hlen1]) iuX12 tyX12 tyX12_ok (Uw_of (inT4 _ (List.mem_of_getElem? (i := 172) rfl)) rfl) (Uw_of (inT4 _ (List.mem_of_getElem? (i := 173) rfl)) rfl) (Uw_of (inT1 _ (List.mem_of_getElem? (i := 12) rfl)) rfl) rfl (by decide +kernel) (Nat.le_of_ble_eq_true rfl) (Nat.le_of_ble_eq_true rfl) dl_8 (fun H hC2 => ?_)
  refine lv_dup (pc := 11) hx hb dl_11 rfl ?_
  refine l_init (pc := 12) hx hb hml hown hts hK2 hXw2 hC2 (s.heap.size + 223) (by rw [hlen1]) (kX12_init l w2 (s.heap.size + 223) (s.heap.size + 223 + 1)) ⟨ku_code12, (Uw_of (inT1 _ (List.mem_of_getElem? (i := 12) rfl)) rfl), by decide, by decide, by decide +kernel⟩ rfl (Uw_of (inT4 _ (List.mem_of_getElem? (i := 175) rfl)) rfl) (Uw_of (inT4 _ (List.mem_of_getElem? (i := 174) rfl)) rfl) ⟨rfl, rfl, Nat.le_of_ble_eq_true rfl, Nat.le_of_ble_eq_true rfl⟩ hl.1 rfl (Nat.le_of_ble_eq_true rfl) dl_12 ⟨Nat.le_of_ble_eq_true rfl, Nat.le_of_ble_eq_true rfl⟩ (fun H locs hC2 => ?_)
  have hC2 : Ln w2 (La w1 s.heap.size ++ Lb w2 (s.heap.size + 223)) s H locs := hC2
  refine lv_astore_n (pc := 15) (lv' := [(2, .ref (s.heap.size + 223)), (1, .ref (s.heap.size + 0)), (0, .ref b)]) hx hb dl_15 rfl hl (by decide) rfl (fun ls hl => ?_)
  refine lv_iconst (pc := 16) (v := 0) hx hb dl_16 (by decide) ?_
  refine lv_istore_n (pc := 17) (lv' := [(3, .int 0), (2, .ref (s.heap.size + 223)), (1, .ref (s.heap.size + 0)), (0, .ref b)]) hx hb dl_17 rfl hl (by decide) rfl (fun ls hl => ?_)
  obtain ⟨d1, d2, d3⟩ := hC2
  have hP1 : va_P w1.1 vwCl (rg 223 ev1 w1 σ1i) H := by
    intro k q hq
    have hk : k < 223 := by
      have := (List.getElem?_eq_some_iff.mp hq).1
      rwa [rg_len] at this
    rw [rg_at hk] at hq
    cases hq
    have hm : (La w1 s.heap.size)[off1 k]? = some (ev1 w1 (σ1i.1 k) (σ1i.2 k) k) := by rw [ew1]; exact map1 G cl s.heap.size t1 t2 k hk
    have := d2 (off1 k) _ (gB hm)
    rw [a1 k hk]
    have eG : w1.1 = w2.1 := by rw [ew1, ew2]
    rw [eG]
    exact this
  have hP2 : va_P w2.1 vwCl (rg 38 ev2 w2 σ2i) H := by
    intro k q hq
    have hk : k < 38 := by
      have := (List.getElem?_eq_some_iff.mp hq).1
      rwa [rg_len] at this
    rw [rg_at hk] at hq
    cases hq
    have hm : (Lb w2 (s.heap.size + 223))[k]? = some (ev2 w2 (σ2i.1 k) (σ2i.2 k) k) := by rw [ew2]; exact map2 G cl (s.heap.size + 223) k hk
    have := d2 (223 + k) _ (gA hlen1 hm)
    rw [a2 k, show s.heap.size + 223 + k = s.heap.size + (223 + k) by omega]
    exact this
  have e10 : w1.2.1 0 = s.heap.size + 0 := by rw [ew1]; rfl
  have e20 : w2.2.1 0 = s.heap.size + 223 := by rw [ew2]; rfl
  refine W.widen (k := 261) (n := 46861) (Nat.le_of_ble_eq_true rfl) (Nat.le_of_ble_eq_true rfl) ?_
  have z0 : (0 : Int32).toInt = 0 := by decide
  exact law_loop l E hL hr hlk 3000 0 σ1i σ2i H locs ls (by decide) (by decide) (by omega) (by rw [e10, e20]; exact lv_sub hl [0, 3, 2, 1] rfl) ⟨hP1, hP2, d3⟩ ⟨g1_init, rbt_init⟩
