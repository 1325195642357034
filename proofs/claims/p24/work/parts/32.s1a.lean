theorem sJ7_fill_53178 {N : Nat} (hN : 4294967400 ≤ N) {k0 n0 : Nat} {x1 : Int32} (hn : n0 < 2147483648) (hr : ∀ (j : Nat) (v : Int32), Rg1 k0 j v) (h1 : 9 < k0) (h2 : 9 < k0) {Q : St → Prop} {σ0 σ : St} (hσ : K1 σ0 σ) (hQ : ∀ τ : St, K1 σ0 τ → (τ.1 3 7 = σ.1 3 7 ∧ τ.1 3 11 = σ.1 3 11 ∧ τ.1 3 6 = σ.1 3 6 ∧ τ.1 9 9 = σ.1 9 9 ∧ τ.1 9 10 = σ.1 9 10 ∧ τ.1 6 5 = σ.1 6 5 ∧ τ.1 7 4 = σ.1 7 4 ∧ τ.1 2 4 = σ.1 2 4 ∧ τ.1 2 5 = σ.1 2 5 ∧ τ.1 2 6 = σ.1 2 6 ∧ τ.1 3 8 = σ.1 3 8) → Q τ) : fJ7_fill_53178 N k0 n0 x1 Q σ := by
  unfold fJ7_fill_53178
  intro v ev
  have hv : v.toInt = n0 := by rw [ev]; exact nI_toInt (by omega)
  have f0 : (0 : Int32).toInt = 0 := by decide
  refine lo1_i (fun (i : Int32) (τ : St) => K1 σ0 τ ∧ 0 ≤ i.toInt ∧ ∀ c, c ≤ 9 → τ.1 c = σ.1 c) (fun i _ => (2147483648 - i.toInt).toNat) ?_ N 0 σ ⟨hσ, by decide, fun _ _ => rfl⟩ (by (try dsimp only); omega)
  intro rr i τ hI ih
  obtain ⟨hτ, hi, hc⟩ := hI
  unfold fJ7_fill_53178_l5
  refine ⟨fun _ => hQ τ hτ ?_, fun c => ?_⟩
  · rw [hc 3 (by omega), hc 9 (by omega), hc 6 (by omega), hc 7 (by omega), hc 2 (by omega)]
    exact ⟨rfl, rfl, rfl, rfl, rfl, rfl, rfl, rfl, rfl, rfl, rfl⟩
  · have c1 := mt Int32.le_iff_toInt_le.mpr c
    refine ⟨inI hi (by omega), ?_⟩
    intro τ1 e1 u eu
    have f1 := tA i 1
    have f2 := tB (i + 1)
    have f3 : (1 : Int32).toInt = 1 := by decide
    have f4 := congrArg Int32.toInt eu
    have f5 := tB v
    refine ih u τ1 ⟨?_, by omega, fun c hc9 => ?_⟩ (by show (2147483648 - u.toInt).toNat < (2147483648 - i.toInt).toNat; omega)
    · rw [e1]; exact hτ.u (hr _ _) (by omega) (by omega)
    · rw [e1, u1_ne (by omega)]; exact hc c hc9
set_option maxHeartbeats 4000000 in
theorem sX8_drop {N : Nat} (hN : 4294967400 ≤ N) {Q : St → Prop} {σ0 σ : St} (hσ : K1 σ0 σ) (hQ : ∀ τ : St, K1 σ0 τ → (τ.1 3 7 = σ.1 3 7 ∧ τ.1 3 11 = σ.1 3 11 ∧ τ.1 3 6 = σ.1 3 6 ∧ τ.1 9 9 = σ.1 9 9 ∧ τ.1 9 10 = σ.1 9 10 ∧ τ.1 6 5 = σ.1 6 5 ∧ τ.1 7 4 = σ.1 7 4 ∧ τ.1 2 4 = σ.1 2 4 ∧ τ.1 3 8 = σ.1 3 8) → Q τ) : fX8_drop N  Q σ := by
  unfold fX8_drop
  intro σ1 eσ1
  have hσ1 : K1 σ0 σ1 := by rw [eσ1]; exact hσ.u (Rg1.r_2_5 (leP (show (0 : Int32).toInt = 0 from by decide) (by omega)) (geP (show (0 : Int32).toInt = 0 from by decide) (by omega))) (fun q => absurd q.1 (by decide)) (fun q => absurd q.1 (by decide))
  intro σ2 eσ2
  have hσ2 : K1 σ0 σ2 := by rw [eσ2]; exact hσ1.u (Rg1.r_2_6 (leP (show (0 : Int32).toInt = 0 from by decide) (by omega)) (geP (show (0 : Int32).toInt = 0 from by decide) (by omega))) (fun q => absurd q.1 (by decide)) (fun q => absurd q.1 (by decide))
  intro σ3 eσ3
  have hσ3 : K1 σ0 σ3 := by rw [eσ3]; exact hσ2.u (Rg1.u_2_7 _) (fun q => absurd q.1 (by decide)) (fun q => absurd q.1 (by decide))
  exact hQ _ hσ3 (⟨(kq (a := 3) (b := 7) eσ3 (fun q => absurd q.1 (by decide))).trans ((kq (a := 3) (b := 7) eσ2 (fun q => absurd q.1 (by decide))).trans ((kq (a := 3) (b := 7) eσ1 (fun q => absurd q.1 (by decide))))), (kq (a := 3) (b := 11) eσ3 (fun q => absurd q.1 (by decide))).trans ((kq (a := 3) (b := 11) eσ2 (fun q => absurd q.1 (by decide))).trans ((kq (a := 3) (b := 11) eσ1 (fun q => absurd q.1 (by decide))))), (kq (a := 3) (b := 6) eσ3 (fun q => absurd q.1 (by decide))).trans ((kq (a := 3) (b := 6) eσ2 (fun q => absurd q.1 (by decide))).trans ((kq (a := 3) (b := 6) eσ1 (fun q => absurd q.1 (by decide))))), (kq (a := 9) (b := 9) eσ3 (fun q => absurd q.1 (by decide))).trans ((kq (a := 9) (b := 9) eσ2 (fun q => absurd q.1 (by decide))).trans ((kq (a := 9) (b := 9) eσ1 (fun q => absurd q.1 (by decide))))), (kq (a := 9) (b := 10) eσ3 (fun q => absurd q.1 (by decide))).trans ((kq (a := 9) (b := 10) eσ2 (fun q => absurd q.1 (by decide))).trans ((kq (a := 9) (b := 10) eσ1 (fun q => absurd q.1 (by decide))))), (kq (a := 6) (b := 5) eσ3 (fun q => absurd q.1 (by decide))).trans ((kq (a := 6) (b := 5) eσ2 (fun q => absurd q.1 (by decide))).trans ((kq (a := 6) (b := 5) eσ1 (fun q => absurd q.1 (by decide))))), (kq (a := 7) (b := 4) eσ3 (fun q => absurd q.1 (by decide))).trans ((kq (a := 7) (b := 4) eσ2 (fun q => absurd q.1 (by decide))).trans ((kq (a := 7) (b := 4) eσ1 (fun q => absurd q.1 (by decide))))), (kq (a := 2) (b := 4) eσ3 (fun q => absurd q.2 (by decide))).trans ((kq (a := 2) (b := 4) eσ2 (fun q => absurd q.2 (by decide))).trans ((kq (a := 2) (b := 4) eσ1 (fun q => absurd q.2 (by decide))))), (kq (a := 3) (b := 8) eσ3 (fun q => absurd q.1 (by decide))).trans ((kq (a := 3) (b := 8) eσ2 (fun q => absurd q.1 (by decide))).trans ((kq (a := 3) (b := 8) eσ1 (fun q => absurd q.1 (by decide)))))⟩)
set_option maxHeartbeats 4000000 in
theorem sX8_dropIfTouched {N : Nat} (hN : 4294967400 ≤ N) {x1 : Int32} {x2 : Int32} {Q : St → Prop} {σ0 σ : St} (hσ : K1 σ0 σ) (hQ : ∀ τ : St, K1 σ0 τ → (τ.1 3 7 = σ.1 3 7 ∧ τ.1 3 11 = σ.1 3 11 ∧ τ.1 3 6 = σ.1 3 6 ∧ τ.1 9 9 = σ.1 9 9 ∧ τ.1 9 10 = σ.1 9 10 ∧ τ.1 6 5 = σ.1 6 5 ∧ τ.1 7 4 = σ.1 7 4 ∧ τ.1 2 4 = σ.1 2 4 ∧ τ.1 3 8 = σ.1 3 8) → Q τ) : fX8_dropIfTouched N x1 x2 Q σ := by
  unfold fX8_dropIfTouched
  refine ⟨fun c1 => ?_, fun c1 => ?_⟩
  · have f2 := K1.g_2_6 hσ
    have f3 := tB x1
    first | have f4 := (leE (rfl : (σ.1 2 6).toInt = (σ.1 2 6).toInt) (rfl : x1.toInt = x1.toInt)).mp c1 | skip
    exact hQ _ hσ (⟨rfl, rfl, rfl, rfl, rfl, rfl, rfl, rfl, rfl⟩)
  · have f5 := K1.g_2_6 hσ
    have f6 := tB x1
    first | have f7 := (notleE (rfl : (σ.1 2 6).toInt = (σ.1 2 6).toInt) (rfl : x1.toInt = x1.toInt)).mp c1 | skip
    refine ⟨fun c8 => ?_, fun c8 => ?_⟩
    · have f9 := tB x2
      have f10 := K1.g_2_5 hσ
      first | have f11 := (leE (rfl : x2.toInt = x2.toInt) (rfl : (σ.1 2 5).toInt = (σ.1 2 5).toInt)).mp c8 | skip
      exact hQ _ hσ (⟨rfl, rfl, rfl, rfl, rfl, rfl, rfl, rfl, rfl⟩)
    · have f12 := tB x2
      have f13 := K1.g_2_5 hσ
      first | have f14 := (notleE (rfl : x2.toInt = x2.toInt) (rfl : (σ.1 2 5).toInt = (σ.1 2 5).toInt)).mp c8 | skip
      unfold fX8_drop
      intro σ15 eσ15
      have hσ15 : K1 σ0 σ15 := by rw [eσ15]; exact hσ.u (Rg1.r_2_5 (leP (show (0 : Int32).toInt = 0 from by decide) (by omega)) (geP (show (0 : Int32).toInt = 0 from by decide) (by omega))) (fun q => absurd q.1 (by decide)) (fun q => absurd q.1 (by decide))
      intro σ16 eσ16
      have hσ16 : K1 σ0 σ16 := by rw [eσ16]; exact hσ15.u (Rg1.r_2_6 (leP (show (0 : Int32).toInt = 0 from by decide) (by omega)) (geP (show (0 : Int32).toInt = 0 from by decide) (by omega))) (fun q => absurd q.1 (by decide)) (fun q => absurd q.1 (by decide))
      intro σ17 eσ17
      have hσ17 : K1 σ0 σ17 := by rw [eσ17]; exact hσ16.u (Rg1.u_2_7 _) (fun q => absurd q.1 (by decide)) (fun q => absurd q.1 (by decide))
      try dsimp only
      exact hQ _ hσ17 (⟨(kq (a := 3) (b := 7) eσ17 (fun q => absurd q.1 (by decide))).trans ((kq (a := 3) (b := 7) eσ16 (fun q => absurd q.1 (by decide))).trans ((kq (a := 3) (b := 7) eσ15 (fun q => absurd q.1 (by decide))))), (kq (a := 3) (b := 11) eσ17 (fun q => absurd q.1 (by decide))).trans ((kq (a := 3) (b := 11) eσ16 (fun q => absurd q.1 (by decide))).trans ((kq (a := 3) (b := 11) eσ15 (fun q => absurd q.1 (by decide))))), (kq (a := 3) (b := 6) eσ17 (fun q => absurd q.1 (by decide))).trans ((kq (a := 3) (b := 6) eσ16 (fun q => absurd q.1 (by decide))).trans ((kq (a := 3) (b := 6) eσ15 (fun q => absurd q.1 (by decide))))), (kq (a := 9) (b := 9) eσ17 (fun q => absurd q.1 (by decide))).trans ((kq (a := 9) (b := 9) eσ16 (fun q => absurd q.1 (by decide))).trans ((kq (a := 9) (b := 9) eσ15 (fun q => absurd q.1 (by decide))))), (kq (a := 9) (b := 10) eσ17 (fun q => absurd q.1 (by decide))).trans ((kq (a := 9) (b := 10) eσ16 (fun q => absurd q.1 (by decide))).trans ((kq (a := 9) (b := 10) eσ15 (fun q => absurd q.1 (by decide))))), (kq (a := 6) (b := 5) eσ17 (fun q => absurd q.1 (by decide))).trans ((kq (a := 6) (b := 5) eσ16 (fun q => absurd q.1 (by decide))).trans ((kq (a := 6) (b := 5) eσ15 (fun q => absurd q.1 (by decide))))), (kq (a := 7) (b := 4) eσ17 (fun q => absurd q.1 (by decide))).trans ((kq (a := 7) (b := 4) eσ16 (fun q => absurd q.1 (by decide))).trans ((kq (a := 7) (b := 4) eσ15 (fun q => absurd q.1 (by decide))))), (kq (a := 2) (b := 4) eσ17 (fun q => absurd q.2 (by decide))).trans ((kq (a := 2) (b := 4) eσ16 (fun q => absurd q.2 (by decide))).trans ((kq (a := 2) (b := 4) eσ15 (fun q => absurd q.2 (by decide))))), (kq (a := 3) (b := 8) eσ17 (fun q => absurd q.1 (by decide))).trans ((kq (a := 3) (b := 8) eσ16 (fun q => absurd q.1 (by decide))).trans ((kq (a := 3) (b := 8) eσ15 (fun q => absurd q.1 (by decide)))))⟩)
set_option maxHeartbeats 4000000 in
theorem sX3_has {N : Nat} (hN : 4294967400 ≤ N) {x1 : Int32} {Q : Int32 → St → Prop} {σ0 σ : St} (hσ : K1 σ0 σ) (hQ : ∀ r : Int32, True → Q r σ) : fX3_has N x1 Q σ := by
  unfold fX3_has
  refine ⟨fun c1 => ?_, fun c1 => ?_⟩
  · have f2 := tB x1
    first | have f3 := (ltE (rfl : x1.toInt = x1.toInt) (show (0 : Int32).toInt = 0 from by decide)).mp c1 | skip
    exact hQ _ trivial
  · have f4 := tB x1
    first | have f5 := (notltE (rfl : x1.toInt = x1.toInt) (show (0 : Int32).toInt = 0 from by decide)).mp c1 | skip
    refine ⟨fun c6 => ?_, fun c6 => ?_⟩
    · first | have f8 := (leE (show (4096 : Int32).toInt = 4096 from by decide) (rfl : x1.toInt = x1.toInt)).mp c6 | skip
      exact hQ _ trivial
    · first | have f10 := (notleE (show (4096 : Int32).toInt = 4096 from by decide) (rfl : x1.toInt = x1.toInt)).mp c6 | skip
      exact hQ _ trivial
set_option maxHeartbeats 4000000 in
theorem sX3_byteOf {N : Nat} (hN : 4294967400 ≤ N) {x1 : Int32} {Q : Int32 → St → Prop} {σ0 σ : St} (hσ : K1 σ0 σ) (hQ : ∀ r : Int32, (0) ≤ r.toInt ∧ r.toInt ≤ 255 → Q r σ) : fX3_byteOf N x1 Q σ := by
  unfold fX3_byteOf
  refine ⟨fun c1 => ?_, fun c1 => ?_⟩
  · have f2 := tB x1
    first | have f3 := (ltE (rfl : x1.toInt = x1.toInt) (show (0 : Int32).toInt = 0 from by decide)).mp c1 | skip
    exact hQ _ ⟨leP (show (0 : Int32).toInt = 0 from by decide) (by omega), geP (show (0 : Int32).toInt = 0 from by decide) (by omega)⟩
  · have f4 := tB x1
    first | have f5 := (notltE (rfl : x1.toInt = x1.toInt) (show (0 : Int32).toInt = 0 from by decide)).mp c1 | skip
    refine ⟨fun c6 => ?_, fun c6 => ?_⟩
    · first | have f8 := (leE (show (4096 : Int32).toInt = 4096 from by decide) (rfl : x1.toInt = x1.toInt)).mp c6 | skip
      exact hQ _ ⟨leP (show (0 : Int32).toInt = 0 from by decide) (by omega), geP (show (0 : Int32).toInt = 0 from by decide) (by omega)⟩
    · first | have f10 := (notleE (show (4096 : Int32).toInt = 4096 from by decide) (rfl : x1.toInt = x1.toInt)).mp c6 | skip
      have g12 : vp_in x1 4096 := inE (rfl : x1.toInt = x1.toInt) (by omega) (by omega)
      refine ⟨g12, ?_⟩
      have f13 := and255 (σ.1 12 x1.toNatClampNeg)
      exact hQ _ ⟨leP (rfl : ((σ.1 12 x1.toNatClampNeg) &&& 255).toInt = ((σ.1 12 x1.toNatClampNeg) &&& 255).toInt) (by omega), geP (rfl : ((σ.1 12 x1.toNatClampNeg) &&& 255).toInt = ((σ.1 12 x1.toNatClampNeg) &&& 255).toInt) (by omega)⟩
set_option maxHeartbeats 4000000 in
theorem sX11_byteAt {N : Nat} (hN : 4294967400 ≤ N) {x1 : Int32} {Q : Int32 → St → Prop} {σ0 σ : St} (hσ : K1 σ0 σ) (hQ : ∀ r : Int32, True → Q r σ) : fX11_byteAt N x1 Q σ := by
  unfold fX11_byteAt
  unfold fX3_has
  refine ⟨fun c1 => ?_, fun c1 => ?_⟩
  · have f2 := tB x1
    first | have f3 := (ltE (rfl : x1.toInt = x1.toInt) (show (0 : Int32).toInt = 0 from by decide)).mp c1 | skip
    try dsimp only
    refine ⟨fun c4 => ?_, fun c4 => ?_⟩
    · first | have f5 := (eqE (show (0 : Int32).toInt = 0 from by decide) (show (0 : Int32).toInt = 0 from by decide)).mp c4 | skip
      exact hQ _ trivial
    · first | have f6 := (noteqE (show (0 : Int32).toInt = 0 from by decide) (show (0 : Int32).toInt = 0 from by decide)).mp c4 | skip
      refine sX3_byteOf hN hσ (fun r21 p22 => ?_)
      exact hQ _ trivial
  · have f23 := tB x1
    first | have f24 := (notltE (rfl : x1.toInt = x1.toInt) (show (0 : Int32).toInt = 0 from by decide)).mp c1 | skip
    refine ⟨fun c25 => ?_, fun c25 => ?_⟩
    · first | have f27 := (leE (show (4096 : Int32).toInt = 4096 from by decide) (rfl : x1.toInt = x1.toInt)).mp c25 | skip
      try dsimp only
      refine ⟨fun c28 => ?_, fun c28 => ?_⟩
      · first | have f29 := (eqE (show (0 : Int32).toInt = 0 from by decide) (show (0 : Int32).toInt = 0 from by decide)).mp c28 | skip
        exact hQ _ trivial
      · first | have f30 := (noteqE (show (0 : Int32).toInt = 0 from by decide) (show (0 : Int32).toInt = 0 from by decide)).mp c28 | skip
        refine sX3_byteOf hN hσ (fun r45 p46 => ?_)
        exact hQ _ trivial
    · first | have f48 := (notleE (show (4096 : Int32).toInt = 4096 from by decide) (rfl : x1.toInt = x1.toInt)).mp c25 | skip
      try dsimp only
      refine ⟨fun c49 => ?_, fun c49 => ?_⟩
      · first | have f50 := (eqE (show (1 : Int32).toInt = 1 from by decide) (show (0 : Int32).toInt = 0 from by decide)).mp c49 | skip
        exact hQ _ trivial
      · first | have f51 := (noteqE (show (1 : Int32).toInt = 1 from by decide) (show (0 : Int32).toInt = 0 from by decide)).mp c49 | skip
        refine sX3_byteOf hN hσ (fun r66 p67 => ?_)
        exact hQ _ trivial
set_option maxHeartbeats 4000000 in
theorem sX3_fourOf {N : Nat} (hN : 4294967400 ≤ N) {x1 : Int32} {Q : Int32 → St → Prop} {σ0 σ : St} (hσ : K1 σ0 σ) (hQ : ∀ r : Int32, True → Q r σ) : fX3_fourOf N x1 Q σ := by
  unfold fX3_fourOf
  refine ⟨fun c1 => ?_, fun c1 => ?_⟩
  · have f2 := tB x1
    first | have f3 := (ltE (rfl : x1.toInt = x1.toInt) (show (0 : Int32).toInt = 0 from by decide)).mp c1 | skip
    exact hQ _ trivial
  · have f4 := tB x1
    first | have f5 := (notltE (rfl : x1.toInt = x1.toInt) (show (0 : Int32).toInt = 0 from by decide)).mp c1 | skip
    refine ⟨fun c6 => ?_, fun c6 => ?_⟩
    · first | have f8 := (leE (rfl : x1.toInt = x1.toInt) (show (4092 : Int32).toInt = 4092 from by decide)).mp c6 | skip
      have g10 : vp_in x1 4096 := inE (rfl : x1.toInt = x1.toInt) (by omega) (by omega)
      refine ⟨g10, ?_⟩
      have g12 : vp_in (x1 + 1) 4096 := inE (aOkE (rfl : x1.toInt = x1.toInt) (show (1 : Int32).toInt = 1 from by decide) (by omega) (by omega)) (by omega) (by omega)
      refine ⟨g12, ?_⟩
      have g14 : vp_in (x1 + 2) 4096 := inE (aOkE (rfl : x1.toInt = x1.toInt) (show (2 : Int32).toInt = 2 from by decide) (by omega) (by omega)) (by omega) (by omega)
      refine ⟨g14, ?_⟩
      have g16 : vp_in (x1 + 3) 4096 := inE (aOkE (rfl : x1.toInt = x1.toInt) (show (3 : Int32).toInt = 3 from by decide) (by omega) (by omega)) (by omega) (by omega)
      refine ⟨g16, ?_⟩
      exact hQ _ trivial
    · first | have f18 := (notleE (rfl : x1.toInt = x1.toInt) (show (4092 : Int32).toInt = 4092 from by decide)).mp c6 | skip
      exact hQ _ trivial
set_option maxHeartbeats 4000000 in
theorem sX8_tell {N : Nat} (hN : 4294967400 ≤ N) {x1 : Int32} {Q : St → Prop} {σ0 σ : St} (hσ : K1 σ0 σ) (hQ : ∀ τ : St, K1 σ0 τ → (τ.1 3 7 = σ.1 3 7 ∧ τ.1 3 11 = σ.1 3 11 ∧ τ.1 3 6 = σ.1 3 6 ∧ τ.1 9 9 = σ.1 9 9 ∧ τ.1 9 10 = σ.1 9 10 ∧ τ.1 6 5 = σ.1 6 5 ∧ τ.1 7 4 = σ.1 7 4 ∧ τ.1 2 4 = σ.1 2 4 ∧ τ.1 3 8 = σ.1 3 8) → Q τ) : fX8_tell N x1 Q σ := by
  unfold fX8_tell
  intro σ1 eσ1
  have hσ1 : K1 σ0 σ1 := by rw [eσ1]; exact hσ.u (Rg1.u_2_8 _) (fun q => absurd q.1 (by decide)) (fun q => absurd q.1 (by decide))
  unfold fX8_drop
  intro σ2 eσ2
  have hσ2 : K1 σ0 σ2 := by rw [eσ2]; exact hσ1.u (Rg1.r_2_5 (leP (show (0 : Int32).toInt = 0 from by decide) (by omega)) (geP (show (0 : Int32).toInt = 0 from by decide) (by omega))) (fun q => absurd q.1 (by decide)) (fun q => absurd q.1 (by decide))
  intro σ3 eσ3
  have hσ3 : K1 σ0 σ3 := by rw [eσ3]; exact hσ2.u (Rg1.r_2_6 (leP (show (0 : Int32).toInt = 0 from by decide) (by omega)) (geP (show (0 : Int32).toInt = 0 from by decide) (by omega))) (fun q => absurd q.1 (by decide)) (fun q => absurd q.1 (by decide))
  intro σ4 eσ4
  have hσ4 : K1 σ0 σ4 := by rw [eσ4]; exact hσ3.u (Rg1.u_2_7 _) (fun q => absurd q.1 (by decide)) (fun q => absurd q.1 (by decide))
  try dsimp only
  refine ⟨fun c5 => ?_, fun c5 => ?_⟩
  · have f6 := tB x1
    first | have f7 := (leE (rfl : x1.toInt = x1.toInt) (show (0 : Int32).toInt = 0 from by decide)).mp c5 | skip
    exact hQ _ hσ4 (⟨(kq (a := 3) (b := 7) eσ4 (fun q => absurd q.1 (by decide))).trans ((kq (a := 3) (b := 7) eσ3 (fun q => absurd q.1 (by decide))).trans ((kq (a := 3) (b := 7) eσ2 (fun q => absurd q.1 (by decide))).trans ((kq (a := 3) (b := 7) eσ1 (fun q => absurd q.1 (by decide)))))), (kq (a := 3) (b := 11) eσ4 (fun q => absurd q.1 (by decide))).trans ((kq (a := 3) (b := 11) eσ3 (fun q => absurd q.1 (by decide))).trans ((kq (a := 3) (b := 11) eσ2 (fun q => absurd q.1 (by decide))).trans ((kq (a := 3) (b := 11) eσ1 (fun q => absurd q.1 (by decide)))))), (kq (a := 3) (b := 6) eσ4 (fun q => absurd q.1 (by decide))).trans ((kq (a := 3) (b := 6) eσ3 (fun q => absurd q.1 (by decide))).trans ((kq (a := 3) (b := 6) eσ2 (fun q => absurd q.1 (by decide))).trans ((kq (a := 3) (b := 6) eσ1 (fun q => absurd q.1 (by decide)))))), (kq (a := 9) (b := 9) eσ4 (fun q => absurd q.1 (by decide))).trans ((kq (a := 9) (b := 9) eσ3 (fun q => absurd q.1 (by decide))).trans ((kq (a := 9) (b := 9) eσ2 (fun q => absurd q.1 (by decide))).trans ((kq (a := 9) (b := 9) eσ1 (fun q => absurd q.1 (by decide)))))), (kq (a := 9) (b := 10) eσ4 (fun q => absurd q.1 (by decide))).trans ((kq (a := 9) (b := 10) eσ3 (fun q => absurd q.1 (by decide))).trans ((kq (a := 9) (b := 10) eσ2 (fun q => absurd q.1 (by decide))).trans ((kq (a := 9) (b := 10) eσ1 (fun q => absurd q.1 (by decide)))))), (kq (a := 6) (b := 5) eσ4 (fun q => absurd q.1 (by decide))).trans ((kq (a := 6) (b := 5) eσ3 (fun q => absurd q.1 (by decide))).trans ((kq (a := 6) (b := 5) eσ2 (fun q => absurd q.1 (by decide))).trans ((kq (a := 6) (b := 5) eσ1 (fun q => absurd q.1 (by decide)))))), (kq (a := 7) (b := 4) eσ4 (fun q => absurd q.1 (by decide))).trans ((kq (a := 7) (b := 4) eσ3 (fun q => absurd q.1 (by decide))).trans ((kq (a := 7) (b := 4) eσ2 (fun q => absurd q.1 (by decide))).trans ((kq (a := 7) (b := 4) eσ1 (fun q => absurd q.1 (by decide)))))), (kq (a := 2) (b := 4) eσ4 (fun q => absurd q.2 (by decide))).trans ((kq (a := 2) (b := 4) eσ3 (fun q => absurd q.2 (by decide))).trans ((kq (a := 2) (b := 4) eσ2 (fun q => absurd q.2 (by decide))).trans ((kq (a := 2) (b := 4) eσ1 (fun q => absurd q.2 (by decide)))))), (kq (a := 3) (b := 8) eσ4 (fun q => absurd q.1 (by decide))).trans ((kq (a := 3) (b := 8) eσ3 (fun q => absurd q.1 (by decide))).trans ((kq (a := 3) (b := 8) eσ2 (fun q => absurd q.1 (by decide))).trans ((kq (a := 3) (b := 8) eσ1 (fun q => absurd q.1 (by decide))))))⟩)
  · have f8 := tB x1
    first | have f9 := (notleE (rfl : x1.toInt = x1.toInt) (show (0 : Int32).toInt = 0 from by decide)).mp c5 | skip
    refine ⟨fun c10 => ?_, fun c10 => ?_⟩
    · have f12 := K1.g_1_1 hσ4
      have q13 : σ4.1 1 1 = σ3.1 1 1 := by rw [eσ4]; exact congrFun (u1_ne (by decide)) 1
      have f14 := congrArg Int32.toInt q13
      have f15 := K1.g_1_1 hσ3
      have q16 : σ3.1 1 1 = σ2.1 1 1 := by rw [eσ3]; exact congrFun (u1_ne (by decide)) 1
      have f17 := congrArg Int32.toInt q16
      have f18 := K1.g_1_1 hσ2
      have q19 : σ2.1 1 1 = σ1.1 1 1 := by rw [eσ2]; exact congrFun (u1_ne (by decide)) 1
      have f20 := congrArg Int32.toInt q19
      have f21 := K1.g_1_1 hσ1
      have q22 : σ1.1 1 1 = σ.1 1 1 := by rw [eσ1]; exact congrFun (u1_ne (by decide)) 1
      have f23 := congrArg Int32.toInt q22
      have f24 := K1.g_1_1 hσ
      first | have f25 := (leE (rfl : x1.toInt = x1.toInt) (sOkE (rfl : (σ4.1 1 1).toInt = (σ4.1 1 1).toInt) (show (12 : Int32).toInt = 12 from by decide) (by omega) (by omega))).mp c10 | skip
      refine sX3_fourOf hN hσ4 (fun r40 p41 => ?_)
      refine ⟨fun c42 => ?_, fun c42 => ?_⟩
      · have f43 := tB r40
        first | have f44 := (ltE (rfl : r40.toInt = r40.toInt) (show (12 : Int32).toInt = 12 from by decide)).mp c42 | skip
        exact hQ _ hσ4 (⟨(kq (a := 3) (b := 7) eσ4 (fun q => absurd q.1 (by decide))).trans ((kq (a := 3) (b := 7) eσ3 (fun q => absurd q.1 (by decide))).trans ((kq (a := 3) (b := 7) eσ2 (fun q => absurd q.1 (by decide))).trans ((kq (a := 3) (b := 7) eσ1 (fun q => absurd q.1 (by decide)))))), (kq (a := 3) (b := 11) eσ4 (fun q => absurd q.1 (by decide))).trans ((kq (a := 3) (b := 11) eσ3 (fun q => absurd q.1 (by decide))).trans ((kq (a := 3) (b := 11) eσ2 (fun q => absurd q.1 (by decide))).trans ((kq (a := 3) (b := 11) eσ1 (fun q => absurd q.1 (by decide)))))), (kq (a := 3) (b := 6) eσ4 (fun q => absurd q.1 (by decide))).trans ((kq (a := 3) (b := 6) eσ3 (fun q => absurd q.1 (by decide))).trans ((kq (a := 3) (b := 6) eσ2 (fun q => absurd q.1 (by decide))).trans ((kq (a := 3) (b := 6) eσ1 (fun q => absurd q.1 (by decide)))))), (kq (a := 9) (b := 9) eσ4 (fun q => absurd q.1 (by decide))).trans ((kq (a := 9) (b := 9) eσ3 (fun q => absurd q.1 (by decide))).trans ((kq (a := 9) (b := 9) eσ2 (fun q => absurd q.1 (by decide))).trans ((kq (a := 9) (b := 9) eσ1 (fun q => absurd q.1 (by decide)))))), (kq (a := 9) (b := 10) eσ4 (fun q => absurd q.1 (by decide))).trans ((kq (a := 9) (b := 10) eσ3 (fun q => absurd q.1 (by decide))).trans ((kq (a := 9) (b := 10) eσ2 (fun q => absurd q.1 (by decide))).trans ((kq (a := 9) (b := 10) eσ1 (fun q => absurd q.1 (by decide)))))), (kq (a := 6) (b := 5) eσ4 (fun q => absurd q.1 (by decide))).trans ((kq (a := 6) (b := 5) eσ3 (fun q => absurd q.1 (by decide))).trans ((kq (a := 6) (b := 5) eσ2 (fun q => absurd q.1 (by decide))).trans ((kq (a := 6) (b := 5) eσ1 (fun q => absurd q.1 (by decide)))))), (kq (a := 7) (b := 4) eσ4 (fun q => absurd q.1 (by decide))).trans ((kq (a := 7) (b := 4) eσ3 (fun q => absurd q.1 (by decide))).trans ((kq (a := 7) (b := 4) eσ2 (fun q => absurd q.1 (by decide))).trans ((kq (a := 7) (b := 4) eσ1 (fun q => absurd q.1 (by decide)))))), (kq (a := 2) (b := 4) eσ4 (fun q => absurd q.2 (by decide))).trans ((kq (a := 2) (b := 4) eσ3 (fun q => absurd q.2 (by decide))).trans ((kq (a := 2) (b := 4) eσ2 (fun q => absurd q.2 (by decide))).trans ((kq (a := 2) (b := 4) eσ1 (fun q => absurd q.2 (by decide)))))), (kq (a := 3) (b := 8) eσ4 (fun q => absurd q.1 (by decide))).trans ((kq (a := 3) (b := 8) eσ3 (fun q => absurd q.1 (by decide))).trans ((kq (a := 3) (b := 8) eσ2 (fun q => absurd q.1 (by decide))).trans ((kq (a := 3) (b := 8) eσ1 (fun q => absurd q.1 (by decide))))))⟩)
      · have f45 := tB r40
        first | have f46 := (notltE (rfl : r40.toInt = r40.toInt) (show (12 : Int32).toInt = 12 from by decide)).mp c42 | skip
        refine ⟨fun c47 => ?_, fun c47 => ?_⟩
        · first | have f51 := (leE (rfl : r40.toInt = r40.toInt) (sOkE (rfl : (σ4.1 1 1).toInt = (σ4.1 1 1).toInt) (rfl : x1.toInt = x1.toInt) (by omega) (by omega))).mp c47 | skip
          intro σ52 eσ52
          have hσ52 : K1 σ0 σ52 := by rw [eσ52]; exact hσ4.u (Rg1.r_2_5 (leP (rfl : x1.toInt = x1.toInt) (by omega)) (geP (rfl : x1.toInt = x1.toInt) (by omega))) (fun q => absurd q.1 (by decide)) (fun q => absurd q.1 (by decide))
          intro v54 ev54
          intro σ55 eσ55
          have f56 := tB v54
          first | have f59 : v54.toInt = (x1.toInt + r40.toInt) := (congrArg Int32.toInt ev54).trans (aOkE (rfl : x1.toInt = x1.toInt) (rfl : r40.toInt = r40.toInt) (by omega) (by omega)) | skip
          have hσ55 : K1 σ0 σ55 := by rw [eσ55]; exact hσ52.u (Rg1.r_2_6 (leP (rfl : v54.toInt = v54.toInt) (by omega)) (geP (rfl : v54.toInt = v54.toInt) (by omega))) (fun q => absurd q.1 (by decide)) (fun q => absurd q.1 (by decide))
          intro σ60 eσ60
          have hσ60 : K1 σ0 σ60 := by rw [eσ60]; exact hσ55.u (Rg1.u_2_7 _) (fun q => absurd q.1 (by decide)) (fun q => absurd q.1 (by decide))
          exact hQ _ hσ60 (⟨(kq (a := 3) (b := 7) eσ60 (fun q => absurd q.1 (by decide))).trans ((kq (a := 3) (b := 7) eσ55 (fun q => absurd q.1 (by decide))).trans ((kq (a := 3) (b := 7) eσ52 (fun q => absurd q.1 (by decide))).trans ((kq (a := 3) (b := 7) eσ4 (fun q => absurd q.1 (by decide))).trans ((kq (a := 3) (b := 7) eσ3 (fun q => absurd q.1 (by decide))).trans ((kq (a := 3) (b := 7) eσ2 (fun q => absurd q.1 (by decide))).trans ((kq (a := 3) (b := 7) eσ1 (fun q => absurd q.1 (by decide))))))))), (kq (a := 3) (b := 11) eσ60 (fun q => absurd q.1 (by decide))).trans ((kq (a := 3) (b := 11) eσ55 (fun q => absurd q.1 (by decide))).trans ((kq (a := 3) (b := 11) eσ52 (fun q => absurd q.1 (by decide))).trans ((kq (a := 3) (b := 11) eσ4 (fun q => absurd q.1 (by decide))).trans ((kq (a := 3) (b := 11) eσ3 (fun q => absurd q.1 (by decide))).trans ((kq (a := 3) (b := 11) eσ2 (fun q => absurd q.1 (by decide))).trans ((kq (a := 3) (b := 11) eσ1 (fun q => absurd q.1 (by decide))))))))), (kq (a := 3) (b := 6) eσ60 (fun q => absurd q.1 (by decide))).trans ((kq (a := 3) (b := 6) eσ55 (fun q => absurd q.1 (by decide))).trans ((kq (a := 3) (b := 6) eσ52 (fun q => absurd q.1 (by decide))).trans ((kq (a := 3) (b := 6) eσ4 (fun q => absurd q.1 (by decide))).trans ((kq (a := 3) (b := 6) eσ3 (fun q => absurd q.1 (by decide))).trans ((kq (a := 3) (b := 6) eσ2 (fun q => absurd q.1 (by decide))).trans ((kq (a := 3) (b := 6) eσ1 (fun q => absurd q.1 (by decide))))))))), (kq (a := 9) (b := 9) eσ60 (fun q => absurd q.1 (by decide))).trans ((kq (a := 9) (b := 9) eσ55 (fun q => absurd q.1 (by decide))).trans ((kq (a := 9) (b := 9) eσ52 (fun q => absurd q.1 (by decide))).trans ((kq (a := 9) (b := 9) eσ4 (fun q => absurd q.1 (by decide))).trans ((kq (a := 9) (b := 9) eσ3 (fun q => absurd q.1 (by decide))).trans ((kq (a := 9) (b := 9) eσ2 (fun q => absurd q.1 (by decide))).trans ((kq (a := 9) (b := 9) eσ1 (fun q => absurd q.1 (by decide))))))))), (kq (a := 9) (b := 10) eσ60 (fun q => absurd q.1 (by decide))).trans ((kq (a := 9) (b := 10) eσ55 (fun q => absurd q.1 (by decide))).trans ((kq (a := 9) (b := 10) eσ52 (fun q => absurd q.1 (by decide))).trans ((kq (a := 9) (b := 10) eσ4 (fun q => absurd q.1 (by decide))).trans ((kq (a := 9) (b := 10) eσ3 (fun q => absurd q.1 (by decide))).trans ((kq (a := 9) (b := 10) eσ2 (fun q => absurd q.1 (by decide))).trans ((kq (a := 9) (b := 10) eσ1 (fun q => absurd q.1 (by decide))))))))), (kq (a := 6) (b := 5) eσ60 (fun q => absurd q.1 (by decide))).trans ((kq (a := 6) (b := 5) eσ55 (fun q => absurd q.1 (by decide))).trans ((kq (a := 6) (b := 5) eσ52 (fun q => absurd q.1 (by decide))).trans ((kq (a := 6) (b := 5) eσ4 (fun q => absurd q.1 (by decide))).trans ((kq (a := 6) (b := 5) eσ3 (fun q => absurd q.1 (by decide))).trans ((kq (a := 6) (b := 5) eσ2 (fun q => absurd q.1 (by decide))).trans ((kq (a := 6) (b := 5) eσ1 (fun q => absurd q.1 (by decide))))))))), (kq (a := 7) (b := 4) eσ60 (fun q => absurd q.1 (by decide))).trans ((kq (a := 7) (b := 4) eσ55 (fun q => absurd q.1 (by decide))).trans ((kq (a := 7) (b := 4) eσ52 (fun q => absurd q.1 (by decide))).trans ((kq (a := 7) (b := 4) eσ4 (fun q => absurd q.1 (by decide))).trans ((kq (a := 7) (b := 4) eσ3 (fun q => absurd q.1 (by decide))).trans ((kq (a := 7) (b := 4) eσ2 (fun q => absurd q.1 (by decide))).trans ((kq (a := 7) (b := 4) eσ1 (fun q => absurd q.1 (by decide))))))))), (kq (a := 2) (b := 4) eσ60 (fun q => absurd q.2 (by decide))).trans ((kq (a := 2) (b := 4) eσ55 (fun q => absurd q.2 (by decide))).trans ((kq (a := 2) (b := 4) eσ52 (fun q => absurd q.2 (by decide))).trans ((kq (a := 2) (b := 4) eσ4 (fun q => absurd q.2 (by decide))).trans ((kq (a := 2) (b := 4) eσ3 (fun q => absurd q.2 (by decide))).trans ((kq (a := 2) (b := 4) eσ2 (fun q => absurd q.2 (by decide))).trans ((kq (a := 2) (b := 4) eσ1 (fun q => absurd q.2 (by decide))))))))), (kq (a := 3) (b := 8) eσ60 (fun q => absurd q.1 (by decide))).trans ((kq (a := 3) (b := 8) eσ55 (fun q => absurd q.1 (by decide))).trans ((kq (a := 3) (b := 8) eσ52 (fun q => absurd q.1 (by decide))).trans ((kq (a := 3) (b := 8) eσ4 (fun q => absurd q.1 (by decide))).trans ((kq (a := 3) (b := 8) eσ3 (fun q => absurd q.1 (by decide))).trans ((kq (a := 3) (b := 8) eσ2 (fun q => absurd q.1 (by decide))).trans ((kq (a := 3) (b := 8) eσ1 (fun q => absurd q.1 (by decide)))))))))⟩)
        · first | have f64 := (notleE (rfl : r40.toInt = r40.toInt) (sOkE (rfl : (σ4.1 1 1).toInt = (σ4.1 1 1).toInt) (rfl : x1.toInt = x1.toInt) (by omega) (by omega))).mp c47 | skip
          exact hQ _ hσ4 (⟨(kq (a := 3) (b := 7) eσ4 (fun q => absurd q.1 (by decide))).trans ((kq (a := 3) (b := 7) eσ3 (fun q => absurd q.1 (by decide))).trans ((kq (a := 3) (b := 7) eσ2 (fun q => absurd q.1 (by decide))).trans ((kq (a := 3) (b := 7) eσ1 (fun q => absurd q.1 (by decide)))))), (kq (a := 3) (b := 11) eσ4 (fun q => absurd q.1 (by decide))).trans ((kq (a := 3) (b := 11) eσ3 (fun q => absurd q.1 (by decide))).trans ((kq (a := 3) (b := 11) eσ2 (fun q => absurd q.1 (by decide))).trans ((kq (a := 3) (b := 11) eσ1 (fun q => absurd q.1 (by decide)))))), (kq (a := 3) (b := 6) eσ4 (fun q => absurd q.1 (by decide))).trans ((kq (a := 3) (b := 6) eσ3 (fun q => absurd q.1 (by decide))).trans ((kq (a := 3) (b := 6) eσ2 (fun q => absurd q.1 (by decide))).trans ((kq (a := 3) (b := 6) eσ1 (fun q => absurd q.1 (by decide)))))), (kq (a := 9) (b := 9) eσ4 (fun q => absurd q.1 (by decide))).trans ((kq (a := 9) (b := 9) eσ3 (fun q => absurd q.1 (by decide))).trans ((kq (a := 9) (b := 9) eσ2 (fun q => absurd q.1 (by decide))).trans ((kq (a := 9) (b := 9) eσ1 (fun q => absurd q.1 (by decide)))))), (kq (a := 9) (b := 10) eσ4 (fun q => absurd q.1 (by decide))).trans ((kq (a := 9) (b := 10) eσ3 (fun q => absurd q.1 (by decide))).trans ((kq (a := 9) (b := 10) eσ2 (fun q => absurd q.1 (by decide))).trans ((kq (a := 9) (b := 10) eσ1 (fun q => absurd q.1 (by decide)))))), (kq (a := 6) (b := 5) eσ4 (fun q => absurd q.1 (by decide))).trans ((kq (a := 6) (b := 5) eσ3 (fun q => absurd q.1 (by decide))).trans ((kq (a := 6) (b := 5) eσ2 (fun q => absurd q.1 (by decide))).trans ((kq (a := 6) (b := 5) eσ1 (fun q => absurd q.1 (by decide)))))), (kq (a := 7) (b := 4) eσ4 (fun q => absurd q.1 (by decide))).trans ((kq (a := 7) (b := 4) eσ3 (fun q => absurd q.1 (by decide))).trans ((kq (a := 7) (b := 4) eσ2 (fun q => absurd q.1 (by decide))).trans ((kq (a := 7) (b := 4) eσ1 (fun q => absurd q.1 (by decide)))))), (kq (a := 2) (b := 4) eσ4 (fun q => absurd q.2 (by decide))).trans ((kq (a := 2) (b := 4) eσ3 (fun q => absurd q.2 (by decide))).trans ((kq (a := 2) (b := 4) eσ2 (fun q => absurd q.2 (by decide))).trans ((kq (a := 2) (b := 4) eσ1 (fun q => absurd q.2 (by decide)))))), (kq (a := 3) (b := 8) eσ4 (fun q => absurd q.1 (by decide))).trans ((kq (a := 3) (b := 8) eσ3 (fun q => absurd q.1 (by decide))).trans ((kq (a := 3) (b := 8) eσ2 (fun q => absurd q.1 (by decide))).trans ((kq (a := 3) (b := 8) eσ1 (fun q => absurd q.1 (by decide))))))⟩)
    · have f66 := K1.g_1_1 hσ4
      have q67 : σ4.1 1 1 = σ3.1 1 1 := by rw [eσ4]; exact congrFun (u1_ne (by decide)) 1
      have f68 := congrArg Int32.toInt q67
      have f69 := K1.g_1_1 hσ3
      have q70 : σ3.1 1 1 = σ2.1 1 1 := by rw [eσ3]; exact congrFun (u1_ne (by decide)) 1
      have f71 := congrArg Int32.toInt q70
      have f72 := K1.g_1_1 hσ2
      have q73 : σ2.1 1 1 = σ1.1 1 1 := by rw [eσ2]; exact congrFun (u1_ne (by decide)) 1
      have f74 := congrArg Int32.toInt q73
      have f75 := K1.g_1_1 hσ1
      have q76 : σ1.1 1 1 = σ.1 1 1 := by rw [eσ1]; exact congrFun (u1_ne (by decide)) 1
      have f77 := congrArg Int32.toInt q76
      have f78 := K1.g_1_1 hσ
      first | have f79 := (notleE (rfl : x1.toInt = x1.toInt) (sOkE (rfl : (σ4.1 1 1).toInt = (σ4.1 1 1).toInt) (show (12 : Int32).toInt = 12 from by decide) (by omega) (by omega))).mp c10 | skip
      exact hQ _ hσ4 (⟨(kq (a := 3) (b := 7) eσ4 (fun q => absurd q.1 (by decide))).trans ((kq (a := 3) (b := 7) eσ3 (fun q => absurd q.1 (by decide))).trans ((kq (a := 3) (b := 7) eσ2 (fun q => absurd q.1 (by decide))).trans ((kq (a := 3) (b := 7) eσ1 (fun q => absurd q.1 (by decide)))))), (kq (a := 3) (b := 11) eσ4 (fun q => absurd q.1 (by decide))).trans ((kq (a := 3) (b := 11) eσ3 (fun q => absurd q.1 (by decide))).trans ((kq (a := 3) (b := 11) eσ2 (fun q => absurd q.1 (by decide))).trans ((kq (a := 3) (b := 11) eσ1 (fun q => absurd q.1 (by decide)))))), (kq (a := 3) (b := 6) eσ4 (fun q => absurd q.1 (by decide))).trans ((kq (a := 3) (b := 6) eσ3 (fun q => absurd q.1 (by decide))).trans ((kq (a := 3) (b := 6) eσ2 (fun q => absurd q.1 (by decide))).trans ((kq (a := 3) (b := 6) eσ1 (fun q => absurd q.1 (by decide)))))), (kq (a := 9) (b := 9) eσ4 (fun q => absurd q.1 (by decide))).trans ((kq (a := 9) (b := 9) eσ3 (fun q => absurd q.1 (by decide))).trans ((kq (a := 9) (b := 9) eσ2 (fun q => absurd q.1 (by decide))).trans ((kq (a := 9) (b := 9) eσ1 (fun q => absurd q.1 (by decide)))))), (kq (a := 9) (b := 10) eσ4 (fun q => absurd q.1 (by decide))).trans ((kq (a := 9) (b := 10) eσ3 (fun q => absurd q.1 (by decide))).trans ((kq (a := 9) (b := 10) eσ2 (fun q => absurd q.1 (by decide))).trans ((kq (a := 9) (b := 10) eσ1 (fun q => absurd q.1 (by decide)))))), (kq (a := 6) (b := 5) eσ4 (fun q => absurd q.1 (by decide))).trans ((kq (a := 6) (b := 5) eσ3 (fun q => absurd q.1 (by decide))).trans ((kq (a := 6) (b := 5) eσ2 (fun q => absurd q.1 (by decide))).trans ((kq (a := 6) (b := 5) eσ1 (fun q => absurd q.1 (by decide)))))), (kq (a := 7) (b := 4) eσ4 (fun q => absurd q.1 (by decide))).trans ((kq (a := 7) (b := 4) eσ3 (fun q => absurd q.1 (by decide))).trans ((kq (a := 7) (b := 4) eσ2 (fun q => absurd q.1 (by decide))).trans ((kq (a := 7) (b := 4) eσ1 (fun q => absurd q.1 (by decide)))))), (kq (a := 2) (b := 4) eσ4 (fun q => absurd q.2 (by decide))).trans ((kq (a := 2) (b := 4) eσ3 (fun q => absurd q.2 (by decide))).trans ((kq (a := 2) (b := 4) eσ2 (fun q => absurd q.2 (by decide))).trans ((kq (a := 2) (b := 4) eσ1 (fun q => absurd q.2 (by decide)))))), (kq (a := 3) (b := 8) eσ4 (fun q => absurd q.1 (by decide))).trans ((kq (a := 3) (b := 8) eσ3 (fun q => absurd q.1 (by decide))).trans ((kq (a := 3) (b := 8) eσ2 (fun q => absurd q.1 (by decide))).trans ((kq (a := 3) (b := 8) eσ1 (fun q => absurd q.1 (by decide))))))⟩)
set_option maxHeartbeats 4000000 in
theorem sX8_hasEndOfBytes {N : Nat} (hN : 4294967400 ≤ N) {x1 : Int32} {Q : Int32 → St → Prop} {σ0 σ : St} (hp1 : 0 ≤ x1.toInt ∧ x1.toInt ≤ 4096) (hσ : K1 σ0 σ) (hQ : ∀ r : Int32, (0) ≤ r.toInt ∧ r.toInt ≤ 1 → Q r σ) : fX8_hasEndOfBytes N x1 Q σ := by
  unfold fX8_hasEndOfBytes
  have f2 := tB x1
  refine lo1_i (fun (y1 : Int32) (τ : St) => σ = τ ∧ 0 ≤ y1.toInt) (fun (y1 : Int32) (τ : St) => (2147483648 - y1.toInt).toNat) ?_ N x1 σ ⟨rfl, by first | decide | (omega)⟩ (by (try dsimp only); omega)
  intro rr3 y6 σ5 hIσ5 ih4
  obtain ⟨hσ5, i7⟩ := hIσ5
  subst hσ5
  unfold fX8_hasEndOfBytes_l2
  have f8 := tB y6
  refine ⟨fun c9 => ?_, fun c9 => ?_⟩
  · have f10 := K1.g_2_6 hσ
    first | have f12 := (leE (rfl : (σ.1 2 6).toInt = (σ.1 2 6).toInt) (rfl : y6.toInt = y6.toInt)).mp c9 | skip
    exact hQ _ ⟨leP (show (0 : Int32).toInt = 0 from by decide) (by omega), geP (show (0 : Int32).toInt = 0 from by decide) (by omega)⟩
  · have f13 := K1.g_2_6 hσ
    first | have f15 := (notleE (rfl : (σ.1 2 6).toInt = (σ.1 2 6).toInt) (rfl : y6.toInt = y6.toInt)).mp c9 | skip
    refine sX3_byteOf hN hσ (fun r30 p31 => ?_)
    refine ⟨fun c32 => ?_, fun c32 => ?_⟩
    · have f33 := tB r30
      first | have f34 := (eqE (rfl : r30.toInt = r30.toInt) (show (0 : Int32).toInt = 0 from by decide)).mp c32 | skip
      exact hQ _ ⟨leP (show (1 : Int32).toInt = 1 from by decide) (by omega), geP (show (1 : Int32).toInt = 1 from by decide) (by omega)⟩
    · have f35 := tB r30
      first | have f36 := (noteqE (rfl : r30.toInt = r30.toInt) (show (0 : Int32).toInt = 0 from by decide)).mp c32 | skip
      intro v37 ev37
      have f38 := tB v37
      first | have f40 : v37.toInt = (y6.toInt + (1)) := (congrArg Int32.toInt ev37).trans (aOkE (rfl : y6.toInt = y6.toInt) (show (1 : Int32).toInt = 1 from by decide) (by omega) (by omega)) | skip
      exact ih4 v37 σ ⟨rfl, by omega⟩ (by (try dsimp only); omega)
set_option maxHeartbeats 4000000 in
theorem sX8_hasEndOfFours {N : Nat} (hN : 4294967400 ≤ N) {x1 : Int32} {Q : Int32 → St → Prop} {σ0 σ : St} (hp1 : 0 ≤ x1.toInt ∧ x1.toInt ≤ 4096) (hσ : K1 σ0 σ) (hQ : ∀ r : Int32, (0) ≤ r.toInt ∧ r.toInt ≤ 1 → Q r σ) : fX8_hasEndOfFours N x1 Q σ := by
  unfold fX8_hasEndOfFours
  have f2 := tB x1
  refine lo1_i (fun (y1 : Int32) (τ : St) => σ = τ ∧ 0 ≤ y1.toInt ∧ y1.toInt ≤ 4100) (fun (y1 : Int32) (τ : St) => (2147483648 - y1.toInt).toNat) ?_ N x1 σ ⟨rfl, by first | decide | (omega), by first | decide | (omega)⟩ (by (try dsimp only); omega)
  intro rr3 y6 σ5 hIσ5 ih4
  obtain ⟨hσ5, i7, i8⟩ := hIσ5
  subst hσ5
  unfold fX8_hasEndOfFours_l2
  have f9 := tB y6
  refine ⟨fun c10 => ?_, fun c10 => ?_⟩
  · have f11 := K1.g_2_6 hσ
    first | have f13 := (ltE (rfl : (σ.1 2 6).toInt = (σ.1 2 6).toInt) (aOkE (rfl : y6.toInt = y6.toInt) (show (4 : Int32).toInt = 4 from by decide) (by omega) (by omega))).mp c10 | skip
    exact hQ _ ⟨leP (show (0 : Int32).toInt = 0 from by decide) (by omega), geP (show (0 : Int32).toInt = 0 from by decide) (by omega)⟩
  · have f14 := K1.g_2_6 hσ
    first | have f16 := (notltE (rfl : (σ.1 2 6).toInt = (σ.1 2 6).toInt) (aOkE (rfl : y6.toInt = y6.toInt) (show (4 : Int32).toInt = 4 from by decide) (by omega) (by omega))).mp c10 | skip
    refine sX3_fourOf hN hσ (fun r31 p32 => ?_)
    refine ⟨fun c33 => ?_, fun c33 => ?_⟩
    · have f34 := tB r31
      first | have f35 := (eqE (rfl : r31.toInt = r31.toInt) (show (0 : Int32).toInt = 0 from by decide)).mp c33 | skip
      exact hQ _ ⟨leP (show (1 : Int32).toInt = 1 from by decide) (by omega), geP (show (1 : Int32).toInt = 1 from by decide) (by omega)⟩
    · have f36 := tB r31
      first | have f37 := (noteqE (rfl : r31.toInt = r31.toInt) (show (0 : Int32).toInt = 0 from by decide)).mp c33 | skip
      intro v38 ev38
      have f39 := tB v38
      first | have f41 : v38.toInt = (y6.toInt + (4)) := (congrArg Int32.toInt ev38).trans (aOkE (rfl : y6.toInt = y6.toInt) (show (4 : Int32).toInt = 4 from by decide) (by omega) (by omega)) | skip
      exact ih4 v38 σ ⟨rfl, by omega, by omega⟩ (by (try dsimp only); omega)
set_option maxHeartbeats 4000000 in
theorem sX8_argumentBytes {N : Nat} (hN : 4294967400 ≤ N) {x1 : Int32} {Q : Int32 → St → Prop} {σ0 σ : St} (hσ : K1 σ0 σ) (hQ : ∀ r : Int32, True → Q r σ) : fX8_argumentBytes N x1 Q σ := by
  unfold fX8_argumentBytes
  have f1 := tB x1
  refine sX3_fourOf hN hσ (fun r15 p16 => ?_)
  refine ⟨fun c17 => ?_, fun c17 => ?_⟩
  · have f18 := tB r15
    first | have f19 := (ltE (rfl : r15.toInt = r15.toInt) (show (0 : Int32).toInt = 0 from by decide)).mp c17 | skip
    exact hQ _ trivial
  · have f20 := tB r15
    first | have f21 := (notltE (rfl : r15.toInt = r15.toInt) (show (0 : Int32).toInt = 0 from by decide)).mp c17 | skip
    refine ⟨fun c22 => ?_, fun c22 => ?_⟩
    · first | have f24 := (ltE (show (4 : Int32).toInt = 4 from by decide) (rfl : r15.toInt = r15.toInt)).mp c22 | skip
      exact hQ _ trivial
    · first | have f26 := (notltE (show (4 : Int32).toInt = 4 from by decide) (rfl : r15.toInt = r15.toInt)).mp c22 | skip
      exact hQ _ trivial
set_option maxHeartbeats 4000000 in
theorem sX8_isWhole {N : Nat} (hN : 4294967400 ≤ N) {x1 : Int32} {Q : Int32 → St → Prop} {σ0 σ : St} (hp1 : 0 ≤ x1.toInt ∧ x1.toInt ≤ 4095) (hσ : K1 σ0 σ) (hQ : ∀ r : Int32, True → Q r σ) : fX8_isWhole N x1 Q σ := by
  unfold fX8_isWhole
  intro v1 ev1
  have f2 := tB x1
  refine sX3_byteOf hN hσ (fun r16 p17 => ?_)
  refine ⟨fun c18 => ?_, fun c18 => ?_⟩
  · have f19 := tB r16
    first | have f20 := (eqE (rfl : r16.toInt = r16.toInt) (show (0 : Int32).toInt = 0 from by decide)).mp c18 | skip
    refine ⟨fun c21 => ?_, fun c21 => ?_⟩
    · have f22 := tB v1
      have f23 := K1.g_2_6 hσ
      first | have f25 : v1.toInt = ((σ.1 2 6).toInt - x1.toInt) := (congrArg Int32.toInt ev1).trans (sOkE (rfl : (σ.1 2 6).toInt = (σ.1 2 6).toInt) (rfl : x1.toInt = x1.toInt) (by omega) (by omega)) | skip
      first | have f26 := (ltE (rfl : v1.toInt = v1.toInt) (show (9 : Int32).toInt = 9 from by decide)).mp c21 | skip
      exact hQ _ trivial
    · have f27 := tB v1
      have f28 := K1.g_2_6 hσ
      first | have f30 : v1.toInt = ((σ.1 2 6).toInt - x1.toInt) := (congrArg Int32.toInt ev1).trans (sOkE (rfl : (σ.1 2 6).toInt = (σ.1 2 6).toInt) (rfl : x1.toInt = x1.toInt) (by omega) (by omega)) | skip
      first | have f31 := (notltE (rfl : v1.toInt = v1.toInt) (show (9 : Int32).toInt = 9 from by decide)).mp c21 | skip
      exact hQ _ trivial
  · have f32 := tB r16
    first | have f33 := (noteqE (rfl : r16.toInt = r16.toInt) (show (0 : Int32).toInt = 0 from by decide)).mp c18 | skip
    refine ⟨fun c34 => ?_, fun c34 => ?_⟩
    · first | have f36 := (eqE (rfl : r16.toInt = r16.toInt) (show (1 : Int32).toInt = 1 from by decide)).mp c34 | skip
      exact hQ _ trivial
    · first | have f38 := (noteqE (rfl : r16.toInt = r16.toInt) (show (1 : Int32).toInt = 1 from by decide)).mp c34 | skip
      refine ⟨fun c39 => ?_, fun c39 => ?_⟩
      · first | have f41 := (eqE (rfl : r16.toInt = r16.toInt) (show (2 : Int32).toInt = 2 from by decide)).mp c39 | skip
        refine ⟨fun c42 => ?_, fun c42 => ?_⟩
        · have f43 := tB v1
          have f44 := K1.g_2_6 hσ
          first | have f46 : v1.toInt = ((σ.1 2 6).toInt - x1.toInt) := (congrArg Int32.toInt ev1).trans (sOkE (rfl : (σ.1 2 6).toInt = (σ.1 2 6).toInt) (rfl : x1.toInt = x1.toInt) (by omega) (by omega)) | skip
          first | have f47 := (ltE (rfl : v1.toInt = v1.toInt) (show (2 : Int32).toInt = 2 from by decide)).mp c42 | skip
          exact hQ _ trivial
        · have f48 := tB v1
          have f49 := K1.g_2_6 hσ
          first | have f51 : v1.toInt = ((σ.1 2 6).toInt - x1.toInt) := (congrArg Int32.toInt ev1).trans (sOkE (rfl : (σ.1 2 6).toInt = (σ.1 2 6).toInt) (rfl : x1.toInt = x1.toInt) (by omega) (by omega)) | skip
          first | have f52 := (notltE (rfl : v1.toInt = v1.toInt) (show (2 : Int32).toInt = 2 from by decide)).mp c42 | skip
          exact hQ _ trivial
      · first | have f54 := (noteqE (rfl : r16.toInt = r16.toInt) (show (2 : Int32).toInt = 2 from by decide)).mp c39 | skip
        refine ⟨fun c55 => ?_, fun c55 => ?_⟩
        · first | have f57 := (eqE (rfl : r16.toInt = r16.toInt) (show (3 : Int32).toInt = 3 from by decide)).mp c55 | skip
          refine sX8_hasEndOfBytes hN ⟨leP (aOkE (rfl : x1.toInt = x1.toInt) (show (1 : Int32).toInt = 1 from by decide) (by omega) (by omega)) (by omega), geP (aOkE (rfl : x1.toInt = x1.toInt) (show (1 : Int32).toInt = 1 from by decide) (by omega) (by omega)) (by omega)⟩ hσ (fun r72 p73 => ?_)
          refine ⟨nb01 (by omega) (by omega), ?_⟩
          exact hQ _ trivial
        · first | have f75 := (noteqE (rfl : r16.toInt = r16.toInt) (show (3 : Int32).toInt = 3 from by decide)).mp c55 | skip
          refine ⟨fun c76 => ?_, fun c76 => ?_⟩
          · first | have f78 := (eqE (rfl : r16.toInt = r16.toInt) (show (4 : Int32).toInt = 4 from by decide)).mp c76 | skip
            unfold fX8_isWhole_j109
            refine ⟨fun c79 => ?_, fun c79 => ?_⟩
            · have f80 := tB v1
              have f81 := K1.g_2_6 hσ
              first | have f83 : v1.toInt = ((σ.1 2 6).toInt - x1.toInt) := (congrArg Int32.toInt ev1).trans (sOkE (rfl : (σ.1 2 6).toInt = (σ.1 2 6).toInt) (rfl : x1.toInt = x1.toInt) (by omega) (by omega)) | skip
              first | have f84 := (ltE (rfl : v1.toInt = v1.toInt) (show (5 : Int32).toInt = 5 from by decide)).mp c79 | skip
              exact hQ _ trivial
            · have f85 := tB v1
              have f86 := K1.g_2_6 hσ
              first | have f88 : v1.toInt = ((σ.1 2 6).toInt - x1.toInt) := (congrArg Int32.toInt ev1).trans (sOkE (rfl : (σ.1 2 6).toInt = (σ.1 2 6).toInt) (rfl : x1.toInt = x1.toInt) (by omega) (by omega)) | skip
              first | have f89 := (notltE (rfl : v1.toInt = v1.toInt) (show (5 : Int32).toInt = 5 from by decide)).mp c79 | skip
              exact hQ _ trivial
          · first | have f91 := (noteqE (rfl : r16.toInt = r16.toInt) (show (4 : Int32).toInt = 4 from by decide)).mp c76 | skip
            refine ⟨fun c92 => ?_, fun c92 => ?_⟩
            · first | have f94 := (eqE (rfl : r16.toInt = r16.toInt) (show (5 : Int32).toInt = 5 from by decide)).mp c92 | skip
              refine sX8_hasEndOfFours hN ⟨leP (aOkE (rfl : x1.toInt = x1.toInt) (show (1 : Int32).toInt = 1 from by decide) (by omega) (by omega)) (by omega), geP (aOkE (rfl : x1.toInt = x1.toInt) (show (1 : Int32).toInt = 1 from by decide) (by omega) (by omega)) (by omega)⟩ hσ (fun r109 p110 => ?_)
              refine ⟨nb01 (by omega) (by omega), ?_⟩
              exact hQ _ trivial
            · first | have f112 := (noteqE (rfl : r16.toInt = r16.toInt) (show (5 : Int32).toInt = 5 from by decide)).mp c92 | skip
              refine ⟨fun c113 => ?_, fun c113 => ?_⟩
              · first | have f115 := (eqE (rfl : r16.toInt = r16.toInt) (show (8 : Int32).toInt = 8 from by decide)).mp c113 | skip
                unfold fX8_isWhole_j109
                refine ⟨fun c116 => ?_, fun c116 => ?_⟩
                · have f117 := tB v1
                  have f118 := K1.g_2_6 hσ
                  first | have f120 : v1.toInt = ((σ.1 2 6).toInt - x1.toInt) := (congrArg Int32.toInt ev1).trans (sOkE (rfl : (σ.1 2 6).toInt = (σ.1 2 6).toInt) (rfl : x1.toInt = x1.toInt) (by omega) (by omega)) | skip
                  first | have f121 := (ltE (rfl : v1.toInt = v1.toInt) (show (5 : Int32).toInt = 5 from by decide)).mp c116 | skip
                  exact hQ _ trivial
                · have f122 := tB v1
                  have f123 := K1.g_2_6 hσ
                  first | have f125 : v1.toInt = ((σ.1 2 6).toInt - x1.toInt) := (congrArg Int32.toInt ev1).trans (sOkE (rfl : (σ.1 2 6).toInt = (σ.1 2 6).toInt) (rfl : x1.toInt = x1.toInt) (by omega) (by omega)) | skip
                  first | have f126 := (notltE (rfl : v1.toInt = v1.toInt) (show (5 : Int32).toInt = 5 from by decide)).mp c116 | skip
                  exact hQ _ trivial
              · first | have f128 := (noteqE (rfl : r16.toInt = r16.toInt) (show (8 : Int32).toInt = 8 from by decide)).mp c113 | skip
                refine ⟨fun c129 => ?_, fun c129 => ?_⟩
                · first | have f131 := (eqE (rfl : r16.toInt = r16.toInt) (show (9 : Int32).toInt = 9 from by decide)).mp c129 | skip
                  unfold fX8_isWhole_j109
                  refine ⟨fun c132 => ?_, fun c132 => ?_⟩
                  · have f133 := tB v1
                    have f134 := K1.g_2_6 hσ
                    first | have f136 : v1.toInt = ((σ.1 2 6).toInt - x1.toInt) := (congrArg Int32.toInt ev1).trans (sOkE (rfl : (σ.1 2 6).toInt = (σ.1 2 6).toInt) (rfl : x1.toInt = x1.toInt) (by omega) (by omega)) | skip
                    first | have f137 := (ltE (rfl : v1.toInt = v1.toInt) (show (5 : Int32).toInt = 5 from by decide)).mp c132 | skip
                    exact hQ _ trivial
                  · have f138 := tB v1
                    have f139 := K1.g_2_6 hσ
                    first | have f141 : v1.toInt = ((σ.1 2 6).toInt - x1.toInt) := (congrArg Int32.toInt ev1).trans (sOkE (rfl : (σ.1 2 6).toInt = (σ.1 2 6).toInt) (rfl : x1.toInt = x1.toInt) (by omega) (by omega)) | skip
                    first | have f142 := (notltE (rfl : v1.toInt = v1.toInt) (show (5 : Int32).toInt = 5 from by decide)).mp c132 | skip
                    exact hQ _ trivial
                · first | have f144 := (noteqE (rfl : r16.toInt = r16.toInt) (show (9 : Int32).toInt = 9 from by decide)).mp c129 | skip
                  refine ⟨fun c145 => ?_, fun c145 => ?_⟩
                  · first | have f147 := (eqE (rfl : r16.toInt = r16.toInt) (show (10 : Int32).toInt = 10 from by decide)).mp c145 | skip
                    unfold fX8_isWhole_j128
                    refine sX8_argumentBytes hN hσ (fun r162 p163 => ?_)
                    refine ⟨fun c164 => ?_, fun c164 => ?_⟩
                    · have f165 := tB v1
                      have f166 := K1.g_2_6 hσ
                      first | have f168 : v1.toInt = ((σ.1 2 6).toInt - x1.toInt) := (congrArg Int32.toInt ev1).trans (sOkE (rfl : (σ.1 2 6).toInt = (σ.1 2 6).toInt) (rfl : x1.toInt = x1.toInt) (by omega) (by omega)) | skip
                      have f169 := tB r162
                      first | have f170 := (ltE (rfl : v1.toInt = v1.toInt) (aOkE (show (9 : Int32).toInt = 9 from by decide) (rfl : r162.toInt = r162.toInt) (by omega) (by omega))).mp c164 | skip
                      exact hQ _ trivial
                    · have f171 := tB v1
                      have f172 := K1.g_2_6 hσ
                      first | have f174 : v1.toInt = ((σ.1 2 6).toInt - x1.toInt) := (congrArg Int32.toInt ev1).trans (sOkE (rfl : (σ.1 2 6).toInt = (σ.1 2 6).toInt) (rfl : x1.toInt = x1.toInt) (by omega) (by omega)) | skip
                      have f175 := tB r162
                      first | have f176 := (notltE (rfl : v1.toInt = v1.toInt) (aOkE (show (9 : Int32).toInt = 9 from by decide) (rfl : r162.toInt = r162.toInt) (by omega) (by omega))).mp c164 | skip
                      exact hQ _ trivial
                  · first | have f178 := (noteqE (rfl : r16.toInt = r16.toInt) (show (10 : Int32).toInt = 10 from by decide)).mp c145 | skip
                    refine ⟨fun c179 => ?_, fun c179 => ?_⟩
                    · first | have f181 := (eqE (rfl : r16.toInt = r16.toInt) (show (11 : Int32).toInt = 11 from by decide)).mp c179 | skip
                      unfold fX8_isWhole_j128
                      refine sX8_argumentBytes hN hσ (fun r196 p197 => ?_)
                      refine ⟨fun c198 => ?_, fun c198 => ?_⟩
                      · have f199 := tB v1
                        have f200 := K1.g_2_6 hσ
                        first | have f202 : v1.toInt = ((σ.1 2 6).toInt - x1.toInt) := (congrArg Int32.toInt ev1).trans (sOkE (rfl : (σ.1 2 6).toInt = (σ.1 2 6).toInt) (rfl : x1.toInt = x1.toInt) (by omega) (by omega)) | skip
                        have f203 := tB r196
                        first | have f204 := (ltE (rfl : v1.toInt = v1.toInt) (aOkE (show (9 : Int32).toInt = 9 from by decide) (rfl : r196.toInt = r196.toInt) (by omega) (by omega))).mp c198 | skip
                        exact hQ _ trivial
                      · have f205 := tB v1
                        have f206 := K1.g_2_6 hσ
                        first | have f208 : v1.toInt = ((σ.1 2 6).toInt - x1.toInt) := (congrArg Int32.toInt ev1).trans (sOkE (rfl : (σ.1 2 6).toInt = (σ.1 2 6).toInt) (rfl : x1.toInt = x1.toInt) (by omega) (by omega)) | skip
                        have f209 := tB r196
                        first | have f210 := (notltE (rfl : v1.toInt = v1.toInt) (aOkE (show (9 : Int32).toInt = 9 from by decide) (rfl : r196.toInt = r196.toInt) (by omega) (by omega))).mp c198 | skip
                        exact hQ _ trivial
                    · first | have f212 := (noteqE (rfl : r16.toInt = r16.toInt) (show (11 : Int32).toInt = 11 from by decide)).mp c179 | skip
                      exact hQ _ trivial
set_option maxHeartbeats 4000000 in
theorem sX8_find {N : Nat} (hN : 4294967400 ≤ N) {x1 : Int32} {Q : St → Prop} {σ0 σ : St} (hσ : K1 σ0 σ) (hQ : ∀ τ : St, K1 σ0 τ → (τ.1 3 7 = σ.1 3 7 ∧ τ.1 3 11 = σ.1 3 11 ∧ τ.1 3 6 = σ.1 3 6 ∧ τ.1 9 9 = σ.1 9 9 ∧ τ.1 9 10 = σ.1 9 10 ∧ τ.1 6 5 = σ.1 6 5 ∧ τ.1 7 4 = σ.1 7 4 ∧ τ.1 2 5 = σ.1 2 5 ∧ τ.1 2 6 = σ.1 2 6 ∧ τ.1 3 8 = σ.1 3 8) → Q τ) : fX8_find N x1 Q σ := by
  unfold fX8_find
  refine ⟨fun c1 => ?_, fun c1 => ?_⟩
  · have f2 := tB x1
    have f3 := K1.g_2_5 hσ
    first | have f4 := (ltE (rfl : x1.toInt = x1.toInt) (rfl : (σ.1 2 5).toInt = (σ.1 2 5).toInt)).mp c1 | skip
    exact hQ _ hσ (⟨rfl, rfl, rfl, rfl, rfl, rfl, rfl, rfl, rfl, rfl⟩)
  · have f5 := tB x1
    have f6 := K1.g_2_5 hσ
    first | have f7 := (notltE (rfl : x1.toInt = x1.toInt) (rfl : (σ.1 2 5).toInt = (σ.1 2 5).toInt)).mp c1 | skip
    refine ⟨fun c8 => ?_, fun c8 => ?_⟩
    · have f9 := K1.g_2_6 hσ
      first | have f11 := (leE (rfl : (σ.1 2 6).toInt = (σ.1 2 6).toInt) (rfl : x1.toInt = x1.toInt)).mp c8 | skip
      exact hQ _ hσ (⟨rfl, rfl, rfl, rfl, rfl, rfl, rfl, rfl, rfl, rfl⟩)
    · have f12 := K1.g_2_6 hσ
      first | have f14 := (notleE (rfl : (σ.1 2 6).toInt = (σ.1 2 6).toInt) (rfl : x1.toInt = x1.toInt)).mp c8 | skip
      unfold fX3_has
      refine ⟨fun c15 => ?_, fun c15 => ?_⟩
      · first | have f17 := (ltE (rfl : x1.toInt = x1.toInt) (show (0 : Int32).toInt = 0 from by decide)).mp c15 | skip
        try dsimp only
        refine ⟨fun c18 => ?_, fun c18 => ?_⟩
        · first | have f19 := (eqE (show (0 : Int32).toInt = 0 from by decide) (show (0 : Int32).toInt = 0 from by decide)).mp c18 | skip
          exact hQ _ hσ (⟨rfl, rfl, rfl, rfl, rfl, rfl, rfl, rfl, rfl, rfl⟩)
        · first | have f20 := (noteqE (show (0 : Int32).toInt = 0 from by decide) (show (0 : Int32).toInt = 0 from by decide)).mp c18 | skip
          have g22 : vp_in x1 4096 := inE (rfl : x1.toInt = x1.toInt) (by omega) (by omega)
          refine ⟨g22, ?_⟩
          refine ⟨fun c23 => ?_, fun c23 => ?_⟩
          · have f24 := tB (σ.1 13 x1.toNatClampNeg)
            have f25 := tB (σ.1 2 3)
            first | have f26 := (eqE (rfl : (σ.1 13 x1.toNatClampNeg).toInt = (σ.1 13 x1.toNatClampNeg).toInt) (rfl : (σ.1 2 3).toInt = (σ.1 2 3).toInt)).mp c23 | skip
            exact hQ _ hσ (⟨rfl, rfl, rfl, rfl, rfl, rfl, rfl, rfl, rfl, rfl⟩)
          · have f27 := tB (σ.1 13 x1.toNatClampNeg)
            have f28 := tB (σ.1 2 3)
            first | have f29 := (noteqE (rfl : (σ.1 13 x1.toNatClampNeg).toInt = (σ.1 13 x1.toNatClampNeg).toInt) (rfl : (σ.1 2 3).toInt = (σ.1 2 3).toInt)).mp c23 | skip
            intro v30 ev30
            refine ⟨inE (rfl : x1.toInt = x1.toInt) (by omega) (by omega), ?_⟩
            intro σ32 eσ32
            have hσ32 : K1 σ0 σ32 := by rw [eσ32]; exact hσ.u (Rg1.ra_13 _ _) (fun q => absurd q.1 (by decide)) (fun q => absurd q.1 (by decide))
            refine sX8_isWhole hN ⟨leP (rfl : x1.toInt = x1.toInt) (by omega), geP (rfl : x1.toInt = x1.toInt) (by omega)⟩ hσ32 (fun r47 p48 => ?_)
            refine ⟨fun c49 => ?_, fun c49 => ?_⟩
            · have f50 := tB r47
              first | have f51 := (eqE (rfl : r47.toInt = r47.toInt) (show (0 : Int32).toInt = 0 from by decide)).mp c49 | skip
              exact hQ _ hσ32 (⟨(kq (a := 3) (b := 7) eσ32 (fun q => absurd q.1 (by decide))), (kq (a := 3) (b := 11) eσ32 (fun q => absurd q.1 (by decide))), (kq (a := 3) (b := 6) eσ32 (fun q => absurd q.1 (by decide))), (kq (a := 9) (b := 9) eσ32 (fun q => absurd q.1 (by decide))), (kq (a := 9) (b := 10) eσ32 (fun q => absurd q.1 (by decide))), (kq (a := 6) (b := 5) eσ32 (fun q => absurd q.1 (by decide))), (kq (a := 7) (b := 4) eσ32 (fun q => absurd q.1 (by decide))), (kq (a := 2) (b := 5) eσ32 (fun q => absurd q.1 (by decide))), (kq (a := 2) (b := 6) eσ32 (fun q => absurd q.1 (by decide))), (kq (a := 3) (b := 8) eσ32 (fun q => absurd q.1 (by decide)))⟩)
            · have f52 := tB r47
              first | have f53 := (noteqE (rfl : r47.toInt = r47.toInt) (show (0 : Int32).toInt = 0 from by decide)).mp c49 | skip
              refine ⟨fun c54 => ?_, fun c54 => ?_⟩
              · have f55 := K1.g_2_4 hσ32
                have q56 : σ32.1 2 4 = σ.1 2 4 := by rw [eσ32]; exact congrFun (u1_ne (by decide)) 4
                have f57 := congrArg Int32.toInt q56
                have f58 := K1.g_2_4 hσ
                first | have f59 := (leE (show (4096 : Int32).toInt = 4096 from by decide) (rfl : (σ32.1 2 4).toInt = (σ32.1 2 4).toInt)).mp c54 | skip
                exact hQ _ hσ32 (⟨(kq (a := 3) (b := 7) eσ32 (fun q => absurd q.1 (by decide))), (kq (a := 3) (b := 11) eσ32 (fun q => absurd q.1 (by decide))), (kq (a := 3) (b := 6) eσ32 (fun q => absurd q.1 (by decide))), (kq (a := 9) (b := 9) eσ32 (fun q => absurd q.1 (by decide))), (kq (a := 9) (b := 10) eσ32 (fun q => absurd q.1 (by decide))), (kq (a := 6) (b := 5) eσ32 (fun q => absurd q.1 (by decide))), (kq (a := 7) (b := 4) eσ32 (fun q => absurd q.1 (by decide))), (kq (a := 2) (b := 5) eσ32 (fun q => absurd q.1 (by decide))), (kq (a := 2) (b := 6) eσ32 (fun q => absurd q.1 (by decide))), (kq (a := 3) (b := 8) eσ32 (fun q => absurd q.1 (by decide)))⟩)
              · have f60 := K1.g_2_4 hσ32
                have q61 : σ32.1 2 4 = σ.1 2 4 := by rw [eσ32]; exact congrFun (u1_ne (by decide)) 4
                have f62 := congrArg Int32.toInt q61
                have f63 := K1.g_2_4 hσ
                first | have f64 := (notleE (show (4096 : Int32).toInt = 4096 from by decide) (rfl : (σ32.1 2 4).toInt = (σ32.1 2 4).toInt)).mp c54 | skip
                refine ⟨inE (rfl : (σ32.1 2 4).toInt = (σ32.1 2 4).toInt) (by omega) (by omega), ?_⟩
                intro σ66 eσ66
                have hσ66 : K1 σ0 σ66 := by rw [eσ66]; exact hσ32.u (Rg1.ra_14 _ _) (fun q => absurd q.1 (by decide)) (fun q => absurd q.1 (by decide))
                intro v67 ev67
                intro σ68 eσ68
                have f69 := tB v67
                have f70 := K1.g_2_4 hσ66
                have q71 : σ66.1 2 4 = σ32.1 2 4 := by rw [eσ66]; exact congrFun (u1_ne (by decide)) 4
                have f72 := congrArg Int32.toInt q71
                first | have f74 : v67.toInt = ((σ66.1 2 4).toInt + (1)) := (congrArg Int32.toInt ev67).trans (aOkE (rfl : (σ66.1 2 4).toInt = (σ66.1 2 4).toInt) (show (1 : Int32).toInt = 1 from by decide) (by omega) (by omega)) | skip
                have hσ68 : K1 σ0 σ68 := by rw [eσ68]; exact hσ66.u (Rg1.r_2_4 (leP (rfl : v67.toInt = v67.toInt) (by omega)) (geP (rfl : v67.toInt = v67.toInt) (by omega))) (fun q => absurd q.1 (by decide)) (fun q => absurd q.1 (by decide))
                exact hQ _ hσ68 (⟨(kq (a := 3) (b := 7) eσ68 (fun q => absurd q.1 (by decide))).trans ((kq (a := 3) (b := 7) eσ66 (fun q => absurd q.1 (by decide))).trans ((kq (a := 3) (b := 7) eσ32 (fun q => absurd q.1 (by decide))))), (kq (a := 3) (b := 11) eσ68 (fun q => absurd q.1 (by decide))).trans ((kq (a := 3) (b := 11) eσ66 (fun q => absurd q.1 (by decide))).trans ((kq (a := 3) (b := 11) eσ32 (fun q => absurd q.1 (by decide))))), (kq (a := 3) (b := 6) eσ68 (fun q => absurd q.1 (by decide))).trans ((kq (a := 3) (b := 6) eσ66 (fun q => absurd q.1 (by decide))).trans ((kq (a := 3) (b := 6) eσ32 (fun q => absurd q.1 (by decide))))), (kq (a := 9) (b := 9) eσ68 (fun q => absurd q.1 (by decide))).trans ((kq (a := 9) (b := 9) eσ66 (fun q => absurd q.1 (by decide))).trans ((kq (a := 9) (b := 9) eσ32 (fun q => absurd q.1 (by decide))))), (kq (a := 9) (b := 10) eσ68 (fun q => absurd q.1 (by decide))).trans ((kq (a := 9) (b := 10) eσ66 (fun q => absurd q.1 (by decide))).trans ((kq (a := 9) (b := 10) eσ32 (fun q => absurd q.1 (by decide))))), (kq (a := 6) (b := 5) eσ68 (fun q => absurd q.1 (by decide))).trans ((kq (a := 6) (b := 5) eσ66 (fun q => absurd q.1 (by decide))).trans ((kq (a := 6) (b := 5) eσ32 (fun q => absurd q.1 (by decide))))), (kq (a := 7) (b := 4) eσ68 (fun q => absurd q.1 (by decide))).trans ((kq (a := 7) (b := 4) eσ66 (fun q => absurd q.1 (by decide))).trans ((kq (a := 7) (b := 4) eσ32 (fun q => absurd q.1 (by decide))))), (kq (a := 2) (b := 5) eσ68 (fun q => absurd q.2 (by decide))).trans ((kq (a := 2) (b := 5) eσ66 (fun q => absurd q.1 (by decide))).trans ((kq (a := 2) (b := 5) eσ32 (fun q => absurd q.1 (by decide))))), (kq (a := 2) (b := 6) eσ68 (fun q => absurd q.2 (by decide))).trans ((kq (a := 2) (b := 6) eσ66 (fun q => absurd q.1 (by decide))).trans ((kq (a := 2) (b := 6) eσ32 (fun q => absurd q.1 (by decide))))), (kq (a := 3) (b := 8) eσ68 (fun q => absurd q.1 (by decide))).trans ((kq (a := 3) (b := 8) eσ66 (fun q => absurd q.1 (by decide))).trans ((kq (a := 3) (b := 8) eσ32 (fun q => absurd q.1 (by decide)))))⟩)
      · first | have f76 := (notltE (rfl : x1.toInt = x1.toInt) (show (0 : Int32).toInt = 0 from by decide)).mp c15 | skip
        refine ⟨fun c77 => ?_, fun c77 => ?_⟩
        · first | have f79 := (leE (show (4096 : Int32).toInt = 4096 from by decide) (rfl : x1.toInt = x1.toInt)).mp c77 | skip
          try dsimp only
          refine ⟨fun c80 => ?_, fun c80 => ?_⟩
          · first | have f81 := (eqE (show (0 : Int32).toInt = 0 from by decide) (show (0 : Int32).toInt = 0 from by decide)).mp c80 | skip
            exact hQ _ hσ (⟨rfl, rfl, rfl, rfl, rfl, rfl, rfl, rfl, rfl, rfl⟩)
          · first | have f82 := (noteqE (show (0 : Int32).toInt = 0 from by decide) (show (0 : Int32).toInt = 0 from by decide)).mp c80 | skip
            have g84 : vp_in x1 4096 := inE (rfl : x1.toInt = x1.toInt) (by omega) (by omega)
            refine ⟨g84, ?_⟩
            refine ⟨fun c85 => ?_, fun c85 => ?_⟩
            · have f86 := tB (σ.1 13 x1.toNatClampNeg)
              have f87 := tB (σ.1 2 3)
              first | have f88 := (eqE (rfl : (σ.1 13 x1.toNatClampNeg).toInt = (σ.1 13 x1.toNatClampNeg).toInt) (rfl : (σ.1 2 3).toInt = (σ.1 2 3).toInt)).mp c85 | skip
              exact hQ _ hσ (⟨rfl, rfl, rfl, rfl, rfl, rfl, rfl, rfl, rfl, rfl⟩)
            · have f89 := tB (σ.1 13 x1.toNatClampNeg)
              have f90 := tB (σ.1 2 3)
              first | have f91 := (noteqE (rfl : (σ.1 13 x1.toNatClampNeg).toInt = (σ.1 13 x1.toNatClampNeg).toInt) (rfl : (σ.1 2 3).toInt = (σ.1 2 3).toInt)).mp c85 | skip
              intro v92 ev92
              refine ⟨inE (rfl : x1.toInt = x1.toInt) (by omega) (by omega), ?_⟩
              intro σ94 eσ94
              have hσ94 : K1 σ0 σ94 := by rw [eσ94]; exact hσ.u (Rg1.ra_13 _ _) (fun q => absurd q.1 (by decide)) (fun q => absurd q.1 (by decide))
              refine sX8_isWhole hN ⟨leP (rfl : x1.toInt = x1.toInt) (by omega), geP (rfl : x1.toInt = x1.toInt) (by omega)⟩ hσ94 (fun r109 p110 => ?_)
              refine ⟨fun c111 => ?_, fun c111 => ?_⟩
              · have f112 := tB r109
                first | have f113 := (eqE (rfl : r109.toInt = r109.toInt) (show (0 : Int32).toInt = 0 from by decide)).mp c111 | skip
                exact hQ _ hσ94 (⟨(kq (a := 3) (b := 7) eσ94 (fun q => absurd q.1 (by decide))), (kq (a := 3) (b := 11) eσ94 (fun q => absurd q.1 (by decide))), (kq (a := 3) (b := 6) eσ94 (fun q => absurd q.1 (by decide))), (kq (a := 9) (b := 9) eσ94 (fun q => absurd q.1 (by decide))), (kq (a := 9) (b := 10) eσ94 (fun q => absurd q.1 (by decide))), (kq (a := 6) (b := 5) eσ94 (fun q => absurd q.1 (by decide))), (kq (a := 7) (b := 4) eσ94 (fun q => absurd q.1 (by decide))), (kq (a := 2) (b := 5) eσ94 (fun q => absurd q.1 (by decide))), (kq (a := 2) (b := 6) eσ94 (fun q => absurd q.1 (by decide))), (kq (a := 3) (b := 8) eσ94 (fun q => absurd q.1 (by decide)))⟩)
              · have f114 := tB r109
                first | have f115 := (noteqE (rfl : r109.toInt = r109.toInt) (show (0 : Int32).toInt = 0 from by decide)).mp c111 | skip
                refine ⟨fun c116 => ?_, fun c116 => ?_⟩
                · have f117 := K1.g_2_4 hσ94
                  have q118 : σ94.1 2 4 = σ.1 2 4 := by rw [eσ94]; exact congrFun (u1_ne (by decide)) 4
                  have f119 := congrArg Int32.toInt q118
                  have f120 := K1.g_2_4 hσ
                  first | have f121 := (leE (show (4096 : Int32).toInt = 4096 from by decide) (rfl : (σ94.1 2 4).toInt = (σ94.1 2 4).toInt)).mp c116 | skip
                  exact hQ _ hσ94 (⟨(kq (a := 3) (b := 7) eσ94 (fun q => absurd q.1 (by decide))), (kq (a := 3) (b := 11) eσ94 (fun q => absurd q.1 (by decide))), (kq (a := 3) (b := 6) eσ94 (fun q => absurd q.1 (by decide))), (kq (a := 9) (b := 9) eσ94 (fun q => absurd q.1 (by decide))), (kq (a := 9) (b := 10) eσ94 (fun q => absurd q.1 (by decide))), (kq (a := 6) (b := 5) eσ94 (fun q => absurd q.1 (by decide))), (kq (a := 7) (b := 4) eσ94 (fun q => absurd q.1 (by decide))), (kq (a := 2) (b := 5) eσ94 (fun q => absurd q.1 (by decide))), (kq (a := 2) (b := 6) eσ94 (fun q => absurd q.1 (by decide))), (kq (a := 3) (b := 8) eσ94 (fun q => absurd q.1 (by decide)))⟩)
                · have f122 := K1.g_2_4 hσ94
                  have q123 : σ94.1 2 4 = σ.1 2 4 := by rw [eσ94]; exact congrFun (u1_ne (by decide)) 4
                  have f124 := congrArg Int32.toInt q123
                  have f125 := K1.g_2_4 hσ
                  first | have f126 := (notleE (show (4096 : Int32).toInt = 4096 from by decide) (rfl : (σ94.1 2 4).toInt = (σ94.1 2 4).toInt)).mp c116 | skip
                  refine ⟨inE (rfl : (σ94.1 2 4).toInt = (σ94.1 2 4).toInt) (by omega) (by omega), ?_⟩
                  intro σ128 eσ128
                  have hσ128 : K1 σ0 σ128 := by rw [eσ128]; exact hσ94.u (Rg1.ra_14 _ _) (fun q => absurd q.1 (by decide)) (fun q => absurd q.1 (by decide))
                  intro v129 ev129
                  intro σ130 eσ130
                  have f131 := tB v129
                  have f132 := K1.g_2_4 hσ128
                  have q133 : σ128.1 2 4 = σ94.1 2 4 := by rw [eσ128]; exact congrFun (u1_ne (by decide)) 4
                  have f134 := congrArg Int32.toInt q133
                  first | have f136 : v129.toInt = ((σ128.1 2 4).toInt + (1)) := (congrArg Int32.toInt ev129).trans (aOkE (rfl : (σ128.1 2 4).toInt = (σ128.1 2 4).toInt) (show (1 : Int32).toInt = 1 from by decide) (by omega) (by omega)) | skip
                  have hσ130 : K1 σ0 σ130 := by rw [eσ130]; exact hσ128.u (Rg1.r_2_4 (leP (rfl : v129.toInt = v129.toInt) (by omega)) (geP (rfl : v129.toInt = v129.toInt) (by omega))) (fun q => absurd q.1 (by decide)) (fun q => absurd q.1 (by decide))
                  exact hQ _ hσ130 (⟨(kq (a := 3) (b := 7) eσ130 (fun q => absurd q.1 (by decide))).trans ((kq (a := 3) (b := 7) eσ128 (fun q => absurd q.1 (by decide))).trans ((kq (a := 3) (b := 7) eσ94 (fun q => absurd q.1 (by decide))))), (kq (a := 3) (b := 11) eσ130 (fun q => absurd q.1 (by decide))).trans ((kq (a := 3) (b := 11) eσ128 (fun q => absurd q.1 (by decide))).trans ((kq (a := 3) (b := 11) eσ94 (fun q => absurd q.1 (by decide))))), (kq (a := 3) (b := 6) eσ130 (fun q => absurd q.1 (by decide))).trans ((kq (a := 3) (b := 6) eσ128 (fun q => absurd q.1 (by decide))).trans ((kq (a := 3) (b := 6) eσ94 (fun q => absurd q.1 (by decide))))), (kq (a := 9) (b := 9) eσ130 (fun q => absurd q.1 (by decide))).trans ((kq (a := 9) (b := 9) eσ128 (fun q => absurd q.1 (by decide))).trans ((kq (a := 9) (b := 9) eσ94 (fun q => absurd q.1 (by decide))))), (kq (a := 9) (b := 10) eσ130 (fun q => absurd q.1 (by decide))).trans ((kq (a := 9) (b := 10) eσ128 (fun q => absurd q.1 (by decide))).trans ((kq (a := 9) (b := 10) eσ94 (fun q => absurd q.1 (by decide))))), (kq (a := 6) (b := 5) eσ130 (fun q => absurd q.1 (by decide))).trans ((kq (a := 6) (b := 5) eσ128 (fun q => absurd q.1 (by decide))).trans ((kq (a := 6) (b := 5) eσ94 (fun q => absurd q.1 (by decide))))), (kq (a := 7) (b := 4) eσ130 (fun q => absurd q.1 (by decide))).trans ((kq (a := 7) (b := 4) eσ128 (fun q => absurd q.1 (by decide))).trans ((kq (a := 7) (b := 4) eσ94 (fun q => absurd q.1 (by decide))))), (kq (a := 2) (b := 5) eσ130 (fun q => absurd q.2 (by decide))).trans ((kq (a := 2) (b := 5) eσ128 (fun q => absurd q.1 (by decide))).trans ((kq (a := 2) (b := 5) eσ94 (fun q => absurd q.1 (by decide))))), (kq (a := 2) (b := 6) eσ130 (fun q => absurd q.2 (by decide))).trans ((kq (a := 2) (b := 6) eσ128 (fun q => absurd q.1 (by decide))).trans ((kq (a := 2) (b := 6) eσ94 (fun q => absurd q.1 (by decide))))), (kq (a := 3) (b := 8) eσ130 (fun q => absurd q.1 (by decide))).trans ((kq (a := 3) (b := 8) eσ128 (fun q => absurd q.1 (by decide))).trans ((kq (a := 3) (b := 8) eσ94 (fun q => absurd q.1 (by decide)))))⟩)
        · first | have f138 := (notleE (show (4096 : Int32).toInt = 4096 from by decide) (rfl : x1.toInt = x1.toInt)).mp c77 | skip
          try dsimp only
          refine ⟨fun c139 => ?_, fun c139 => ?_⟩
          · first | have f140 := (eqE (show (1 : Int32).toInt = 1 from by decide) (show (0 : Int32).toInt = 0 from by decide)).mp c139 | skip
            exact hQ _ hσ (⟨rfl, rfl, rfl, rfl, rfl, rfl, rfl, rfl, rfl, rfl⟩)
          · first | have f141 := (noteqE (show (1 : Int32).toInt = 1 from by decide) (show (0 : Int32).toInt = 0 from by decide)).mp c139 | skip
            have g143 : vp_in x1 4096 := inE (rfl : x1.toInt = x1.toInt) (by omega) (by omega)
            refine ⟨g143, ?_⟩
            refine ⟨fun c144 => ?_, fun c144 => ?_⟩
            · have f145 := tB (σ.1 13 x1.toNatClampNeg)
              have f146 := tB (σ.1 2 3)
              first | have f147 := (eqE (rfl : (σ.1 13 x1.toNatClampNeg).toInt = (σ.1 13 x1.toNatClampNeg).toInt) (rfl : (σ.1 2 3).toInt = (σ.1 2 3).toInt)).mp c144 | skip
              exact hQ _ hσ (⟨rfl, rfl, rfl, rfl, rfl, rfl, rfl, rfl, rfl, rfl⟩)
            · have f148 := tB (σ.1 13 x1.toNatClampNeg)
              have f149 := tB (σ.1 2 3)
              first | have f150 := (noteqE (rfl : (σ.1 13 x1.toNatClampNeg).toInt = (σ.1 13 x1.toNatClampNeg).toInt) (rfl : (σ.1 2 3).toInt = (σ.1 2 3).toInt)).mp c144 | skip
              intro v151 ev151
              refine ⟨inE (rfl : x1.toInt = x1.toInt) (by omega) (by omega), ?_⟩
              intro σ153 eσ153
              have hσ153 : K1 σ0 σ153 := by rw [eσ153]; exact hσ.u (Rg1.ra_13 _ _) (fun q => absurd q.1 (by decide)) (fun q => absurd q.1 (by decide))
              refine sX8_isWhole hN ⟨leP (rfl : x1.toInt = x1.toInt) (by omega), geP (rfl : x1.toInt = x1.toInt) (by omega)⟩ hσ153 (fun r168 p169 => ?_)
              refine ⟨fun c170 => ?_, fun c170 => ?_⟩
              · have f171 := tB r168
                first | have f172 := (eqE (rfl : r168.toInt = r168.toInt) (show (0 : Int32).toInt = 0 from by decide)).mp c170 | skip
                exact hQ _ hσ153 (⟨(kq (a := 3) (b := 7) eσ153 (fun q => absurd q.1 (by decide))), (kq (a := 3) (b := 11) eσ153 (fun q => absurd q.1 (by decide))), (kq (a := 3) (b := 6) eσ153 (fun q => absurd q.1 (by decide))), (kq (a := 9) (b := 9) eσ153 (fun q => absurd q.1 (by decide))), (kq (a := 9) (b := 10) eσ153 (fun q => absurd q.1 (by decide))), (kq (a := 6) (b := 5) eσ153 (fun q => absurd q.1 (by decide))), (kq (a := 7) (b := 4) eσ153 (fun q => absurd q.1 (by decide))), (kq (a := 2) (b := 5) eσ153 (fun q => absurd q.1 (by decide))), (kq (a := 2) (b := 6) eσ153 (fun q => absurd q.1 (by decide))), (kq (a := 3) (b := 8) eσ153 (fun q => absurd q.1 (by decide)))⟩)
              · have f173 := tB r168
                first | have f174 := (noteqE (rfl : r168.toInt = r168.toInt) (show (0 : Int32).toInt = 0 from by decide)).mp c170 | skip
                refine ⟨fun c175 => ?_, fun c175 => ?_⟩
                · have f176 := K1.g_2_4 hσ153
                  have q177 : σ153.1 2 4 = σ.1 2 4 := by rw [eσ153]; exact congrFun (u1_ne (by decide)) 4
                  have f178 := congrArg Int32.toInt q177
                  have f179 := K1.g_2_4 hσ
                  first | have f180 := (leE (show (4096 : Int32).toInt = 4096 from by decide) (rfl : (σ153.1 2 4).toInt = (σ153.1 2 4).toInt)).mp c175 | skip
                  exact hQ _ hσ153 (⟨(kq (a := 3) (b := 7) eσ153 (fun q => absurd q.1 (by decide))), (kq (a := 3) (b := 11) eσ153 (fun q => absurd q.1 (by decide))), (kq (a := 3) (b := 6) eσ153 (fun q => absurd q.1 (by decide))), (kq (a := 9) (b := 9) eσ153 (fun q => absurd q.1 (by decide))), (kq (a := 9) (b := 10) eσ153 (fun q => absurd q.1 (by decide))), (kq (a := 6) (b := 5) eσ153 (fun q => absurd q.1 (by decide))), (kq (a := 7) (b := 4) eσ153 (fun q => absurd q.1 (by decide))), (kq (a := 2) (b := 5) eσ153 (fun q => absurd q.1 (by decide))), (kq (a := 2) (b := 6) eσ153 (fun q => absurd q.1 (by decide))), (kq (a := 3) (b := 8) eσ153 (fun q => absurd q.1 (by decide)))⟩)
                · have f181 := K1.g_2_4 hσ153
                  have q182 : σ153.1 2 4 = σ.1 2 4 := by rw [eσ153]; exact congrFun (u1_ne (by decide)) 4
                  have f183 := congrArg Int32.toInt q182
                  have f184 := K1.g_2_4 hσ
                  first | have f185 := (notleE (show (4096 : Int32).toInt = 4096 from by decide) (rfl : (σ153.1 2 4).toInt = (σ153.1 2 4).toInt)).mp c175 | skip
                  refine ⟨inE (rfl : (σ153.1 2 4).toInt = (σ153.1 2 4).toInt) (by omega) (by omega), ?_⟩
                  intro σ187 eσ187
                  have hσ187 : K1 σ0 σ187 := by rw [eσ187]; exact hσ153.u (Rg1.ra_14 _ _) (fun q => absurd q.1 (by decide)) (fun q => absurd q.1 (by decide))
                  intro v188 ev188
                  intro σ189 eσ189
                  have f190 := tB v188
                  have f191 := K1.g_2_4 hσ187
                  have q192 : σ187.1 2 4 = σ153.1 2 4 := by rw [eσ187]; exact congrFun (u1_ne (by decide)) 4
                  have f193 := congrArg Int32.toInt q192
                  first | have f195 : v188.toInt = ((σ187.1 2 4).toInt + (1)) := (congrArg Int32.toInt ev188).trans (aOkE (rfl : (σ187.1 2 4).toInt = (σ187.1 2 4).toInt) (show (1 : Int32).toInt = 1 from by decide) (by omega) (by omega)) | skip
                  have hσ189 : K1 σ0 σ189 := by rw [eσ189]; exact hσ187.u (Rg1.r_2_4 (leP (rfl : v188.toInt = v188.toInt) (by omega)) (geP (rfl : v188.toInt = v188.toInt) (by omega))) (fun q => absurd q.1 (by decide)) (fun q => absurd q.1 (by decide))
                  exact hQ _ hσ189 (⟨(kq (a := 3) (b := 7) eσ189 (fun q => absurd q.1 (by decide))).trans ((kq (a := 3) (b := 7) eσ187 (fun q => absurd q.1 (by decide))).trans ((kq (a := 3) (b := 7) eσ153 (fun q => absurd q.1 (by decide))))), (kq (a := 3) (b := 11) eσ189 (fun q => absurd q.1 (by decide))).trans ((kq (a := 3) (b := 11) eσ187 (fun q => absurd q.1 (by decide))).trans ((kq (a := 3) (b := 11) eσ153 (fun q => absurd q.1 (by decide))))), (kq (a := 3) (b := 6) eσ189 (fun q => absurd q.1 (by decide))).trans ((kq (a := 3) (b := 6) eσ187 (fun q => absurd q.1 (by decide))).trans ((kq (a := 3) (b := 6) eσ153 (fun q => absurd q.1 (by decide))))), (kq (a := 9) (b := 9) eσ189 (fun q => absurd q.1 (by decide))).trans ((kq (a := 9) (b := 9) eσ187 (fun q => absurd q.1 (by decide))).trans ((kq (a := 9) (b := 9) eσ153 (fun q => absurd q.1 (by decide))))), (kq (a := 9) (b := 10) eσ189 (fun q => absurd q.1 (by decide))).trans ((kq (a := 9) (b := 10) eσ187 (fun q => absurd q.1 (by decide))).trans ((kq (a := 9) (b := 10) eσ153 (fun q => absurd q.1 (by decide))))), (kq (a := 6) (b := 5) eσ189 (fun q => absurd q.1 (by decide))).trans ((kq (a := 6) (b := 5) eσ187 (fun q => absurd q.1 (by decide))).trans ((kq (a := 6) (b := 5) eσ153 (fun q => absurd q.1 (by decide))))), (kq (a := 7) (b := 4) eσ189 (fun q => absurd q.1 (by decide))).trans ((kq (a := 7) (b := 4) eσ187 (fun q => absurd q.1 (by decide))).trans ((kq (a := 7) (b := 4) eσ153 (fun q => absurd q.1 (by decide))))), (kq (a := 2) (b := 5) eσ189 (fun q => absurd q.2 (by decide))).trans ((kq (a := 2) (b := 5) eσ187 (fun q => absurd q.1 (by decide))).trans ((kq (a := 2) (b := 5) eσ153 (fun q => absurd q.1 (by decide))))), (kq (a := 2) (b := 6) eσ189 (fun q => absurd q.2 (by decide))).trans ((kq (a := 2) (b := 6) eσ187 (fun q => absurd q.1 (by decide))).trans ((kq (a := 2) (b := 6) eσ153 (fun q => absurd q.1 (by decide))))), (kq (a := 3) (b := 8) eσ189 (fun q => absurd q.1 (by decide))).trans ((kq (a := 3) (b := 8) eσ187 (fun q => absurd q.1 (by decide))).trans ((kq (a := 3) (b := 8) eσ153 (fun q => absurd q.1 (by decide)))))⟩)
set_option maxHeartbeats 4000000 in
theorem sX8_countNodes {N : Nat} (hN : 4294967400 ≤ N) {Q : Int32 → St → Prop} {σ0 σ : St} (hσ : K1 σ0 σ) (hQ : ∀ (r : Int32) (τ : St), K1 σ0 τ → (τ.1 3 7 = σ.1 3 7 ∧ τ.1 3 11 = σ.1 3 11 ∧ τ.1 3 6 = σ.1 3 6 ∧ τ.1 9 9 = σ.1 9 9 ∧ τ.1 9 10 = σ.1 9 10 ∧ τ.1 6 5 = σ.1 6 5 ∧ τ.1 7 4 = σ.1 7 4 ∧ τ.1 2 5 = σ.1 2 5 ∧ τ.1 2 6 = σ.1 2 6 ∧ τ.1 3 8 = σ.1 3 8) → True → Q r τ) : fX8_countNodes N  Q σ := by
  unfold fX8_countNodes
  intro v1 ev1
  intro σ2 eσ2
  have hσ2 : K1 σ0 σ2 := by rw [eσ2]; exact hσ.u (Rg1.u_2_3 _) (fun q => absurd q.1 (by decide)) (fun q => absurd q.1 (by decide))
  intro σ3 eσ3
  have hσ3 : K1 σ0 σ3 := by rw [eσ3]; exact hσ2.u (Rg1.r_2_4 (leP (show (0 : Int32).toInt = 0 from by decide) (by omega)) (geP (show (0 : Int32).toInt = 0 from by decide) (by omega))) (fun q => absurd q.1 (by decide)) (fun q => absurd q.1 (by decide))
  have f4 := K1.g_2_5 hσ3
  have q5 : σ3.1 2 5 = σ2.1 2 5 := by rw [eσ3, u1_at]; exact if_neg (by decide)
  have f6 := congrArg Int32.toInt q5
  have f7 := K1.g_2_5 hσ2
  have q8 : σ2.1 2 5 = σ.1 2 5 := by rw [eσ2, u1_at]; exact if_neg (by decide)
  have f9 := congrArg Int32.toInt q8
  have f10 := K1.g_2_5 hσ
  refine sX3_fourOf hN hσ3 (fun r24 p25 => ?_)
  have f26 := tB r24
  refine sX8_find hN hσ3 (fun σ27 hσ27 kk38 => ?_)
  obtain ⟨k28, k29, k30, k31, k32, k33, k34, k35, k36, k37⟩ := kk38
  refine lo1_i (fun (y39 : Int32) (τ : St) => K1 σ0 τ ∧ τ.1 3 7 = σ27.1 3 7 ∧ τ.1 3 11 = σ27.1 3 11 ∧ τ.1 3 6 = σ27.1 3 6 ∧ τ.1 9 9 = σ27.1 9 9 ∧ τ.1 9 10 = σ27.1 9 10 ∧ τ.1 6 5 = σ27.1 6 5 ∧ τ.1 7 4 = σ27.1 7 4 ∧ τ.1 2 5 = σ27.1 2 5 ∧ τ.1 2 6 = σ27.1 2 6 ∧ τ.1 3 8 = σ27.1 3 8 ∧ 0 ≤ y39.toInt) (fun (y39 : Int32) (τ : St) => (2147483648 - y39.toInt).toNat) ?_ N (0 : Int32) σ27 ⟨hσ27, rfl, rfl, rfl, rfl, rfl, rfl, rfl, rfl, rfl, rfl, by first | decide | (have z0 : (0 : Int32).toInt = 0 := (by decide); omega)⟩ (by have z0 : (0 : Int32).toInt = 0 := (by decide); (try dsimp only); omega)
  intro rr40 y43 σ42 hIσ42 ih41
  obtain ⟨hσ42, k44, k45, k46, k47, k48, k49, k50, k51, k52, k53, i54⟩ := hIσ42
  unfold fX8_countNodes_l35
  have f55 := tB y43
  refine ⟨fun c56 => ?_, fun c56 => ?_⟩
  · have f57 := K1.g_2_4 hσ42
    first | have f59 := (leE (rfl : (σ42.1 2 4).toInt = (σ42.1 2 4).toInt) (rfl : y43.toInt = y43.toInt)).mp c56 | skip
    unfold fX8_countNodes_j102
    exact hQ _ _ hσ42 (⟨k44.trans (k28.trans ((kq (a := 3) (b := 7) eσ3 (fun q => absurd q.1 (by decide))).trans ((kq (a := 3) (b := 7) eσ2 (fun q => absurd q.1 (by decide)))))), k45.trans (k29.trans ((kq (a := 3) (b := 11) eσ3 (fun q => absurd q.1 (by decide))).trans ((kq (a := 3) (b := 11) eσ2 (fun q => absurd q.1 (by decide)))))), k46.trans (k30.trans ((kq (a := 3) (b := 6) eσ3 (fun q => absurd q.1 (by decide))).trans ((kq (a := 3) (b := 6) eσ2 (fun q => absurd q.1 (by decide)))))), k47.trans (k31.trans ((kq (a := 9) (b := 9) eσ3 (fun q => absurd q.1 (by decide))).trans ((kq (a := 9) (b := 9) eσ2 (fun q => absurd q.1 (by decide)))))), k48.trans (k32.trans ((kq (a := 9) (b := 10) eσ3 (fun q => absurd q.1 (by decide))).trans ((kq (a := 9) (b := 10) eσ2 (fun q => absurd q.1 (by decide)))))), k49.trans (k33.trans ((kq (a := 6) (b := 5) eσ3 (fun q => absurd q.1 (by decide))).trans ((kq (a := 6) (b := 5) eσ2 (fun q => absurd q.1 (by decide)))))), k50.trans (k34.trans ((kq (a := 7) (b := 4) eσ3 (fun q => absurd q.1 (by decide))).trans ((kq (a := 7) (b := 4) eσ2 (fun q => absurd q.1 (by decide)))))), k51.trans (k35.trans ((kq (a := 2) (b := 5) eσ3 (fun q => absurd q.2 (by decide))).trans ((kq (a := 2) (b := 5) eσ2 (fun q => absurd q.2 (by decide)))))), k52.trans (k36.trans ((kq (a := 2) (b := 6) eσ3 (fun q => absurd q.2 (by decide))).trans ((kq (a := 2) (b := 6) eσ2 (fun q => absurd q.2 (by decide)))))), k53.trans (k37.trans ((kq (a := 3) (b := 8) eσ3 (fun q => absurd q.1 (by decide))).trans ((kq (a := 3) (b := 8) eσ2 (fun q => absurd q.1 (by decide))))))⟩) trivial
  · have f60 := K1.g_2_4 hσ42
    first | have f62 := (notleE (rfl : (σ42.1 2 4).toInt = (σ42.1 2 4).toInt) (rfl : y43.toInt = y43.toInt)).mp c56 | skip
    refine ⟨fun c63 => ?_, fun c63 => ?_⟩
    · first | have f65 := (leE (show (4096 : Int32).toInt = 4096 from by decide) (rfl : y43.toInt = y43.toInt)).mp c63 | skip
      unfold fX8_countNodes_j102
      exact hQ _ _ hσ42 (⟨k44.trans (k28.trans ((kq (a := 3) (b := 7) eσ3 (fun q => absurd q.1 (by decide))).trans ((kq (a := 3) (b := 7) eσ2 (fun q => absurd q.1 (by decide)))))), k45.trans (k29.trans ((kq (a := 3) (b := 11) eσ3 (fun q => absurd q.1 (by decide))).trans ((kq (a := 3) (b := 11) eσ2 (fun q => absurd q.1 (by decide)))))), k46.trans (k30.trans ((kq (a := 3) (b := 6) eσ3 (fun q => absurd q.1 (by decide))).trans ((kq (a := 3) (b := 6) eσ2 (fun q => absurd q.1 (by decide)))))), k47.trans (k31.trans ((kq (a := 9) (b := 9) eσ3 (fun q => absurd q.1 (by decide))).trans ((kq (a := 9) (b := 9) eσ2 (fun q => absurd q.1 (by decide)))))), k48.trans (k32.trans ((kq (a := 9) (b := 10) eσ3 (fun q => absurd q.1 (by decide))).trans ((kq (a := 9) (b := 10) eσ2 (fun q => absurd q.1 (by decide)))))), k49.trans (k33.trans ((kq (a := 6) (b := 5) eσ3 (fun q => absurd q.1 (by decide))).trans ((kq (a := 6) (b := 5) eσ2 (fun q => absurd q.1 (by decide)))))), k50.trans (k34.trans ((kq (a := 7) (b := 4) eσ3 (fun q => absurd q.1 (by decide))).trans ((kq (a := 7) (b := 4) eσ2 (fun q => absurd q.1 (by decide)))))), k51.trans (k35.trans ((kq (a := 2) (b := 5) eσ3 (fun q => absurd q.2 (by decide))).trans ((kq (a := 2) (b := 5) eσ2 (fun q => absurd q.2 (by decide)))))), k52.trans (k36.trans ((kq (a := 2) (b := 6) eσ3 (fun q => absurd q.2 (by decide))).trans ((kq (a := 2) (b := 6) eσ2 (fun q => absurd q.2 (by decide)))))), k53.trans (k37.trans ((kq (a := 3) (b := 8) eσ3 (fun q => absurd q.1 (by decide))).trans ((kq (a := 3) (b := 8) eσ2 (fun q => absurd q.1 (by decide))))))⟩) trivial
    · first | have f67 := (notleE (show (4096 : Int32).toInt = 4096 from by decide) (rfl : y43.toInt = y43.toInt)).mp c63 | skip
      have g69 : vp_in y43 4096 := inE (rfl : y43.toInt = y43.toInt) (by omega) (by omega)
      refine ⟨g69, ?_⟩
      intro v70 ev70
      have f71 := tB v70
      have f72 := tB (σ42.1 14 y43.toNatClampNeg)
      first | have f73 : v70.toInt = (σ42.1 14 y43.toNatClampNeg).toInt := (congrArg Int32.toInt ev70).trans (rfl : (σ42.1 14 y43.toNatClampNeg).toInt = (σ42.1 14 y43.toNatClampNeg).toInt) | skip
      refine sX3_byteOf hN hσ42 (fun r87 p88 => ?_)
      refine ⟨fun c89 => ?_, fun c89 => ?_⟩
      · have f90 := tB r87
        first | have f91 := (eqE (rfl : r87.toInt = r87.toInt) (show (0 : Int32).toInt = 0 from by decide)).mp c89 | skip
        refine sX3_fourOf hN hσ42 (fun r106 p107 => ?_)
        have f108 := tB r106
        refine sX8_find hN hσ42 (fun σ109 hσ109 kk120 => ?_)
        obtain ⟨k110, k111, k112, k113, k114, k115, k116, k117, k118, k119⟩ := kk120
        refine sX3_fourOf hN hσ109 (fun r135 p136 => ?_)
        have f137 := tB r135
        refine sX8_find hN hσ109 (fun σ138 hσ138 kk149 => ?_)
        obtain ⟨k139, k140, k141, k142, k143, k144, k145, k146, k147, k148⟩ := kk149
        unfold fX8_countNodes_j96
        intro v150 ev150
        have f151 := tB v150
        first | have f153 : v150.toInt = (y43.toInt + (1)) := (congrArg Int32.toInt ev150).trans (aOkE (rfl : y43.toInt = y43.toInt) (show (1 : Int32).toInt = 1 from by decide) (by omega) (by omega)) | skip
        exact ih41 v150 σ138 ⟨hσ138, k139.trans (k110.trans (k44)), k140.trans (k111.trans (k45)), k141.trans (k112.trans (k46)), k142.trans (k113.trans (k47)), k143.trans (k114.trans (k48)), k144.trans (k115.trans (k49)), k145.trans (k116.trans (k50)), k146.trans (k117.trans (k51)), k147.trans (k118.trans (k52)), k148.trans (k119.trans (k53)), by omega⟩ (by (try dsimp only); omega)
      · have f154 := tB r87
        first | have f155 := (noteqE (rfl : r87.toInt = r87.toInt) (show (0 : Int32).toInt = 0 from by decide)).mp c89 | skip
        unfold fX8_countNodes_j96
        intro v156 ev156
        have f157 := tB v156
        first | have f159 : v156.toInt = (y43.toInt + (1)) := (congrArg Int32.toInt ev156).trans (aOkE (rfl : y43.toInt = y43.toInt) (show (1 : Int32).toInt = 1 from by decide) (by omega) (by omega)) | skip
        exact ih41 v156 σ42 ⟨hσ42, k44, k45, k46, k47, k48, k49, k50, k51, k52, k53, by omega⟩ (by (try dsimp only); omega)
set_option maxHeartbeats 4000000 in
theorem sX8_cachedNodes {N : Nat} (hN : 4294967400 ≤ N) {Q : Int32 → St → Prop} {σ0 σ : St} (hσ : K1 σ0 σ) (hQ : ∀ (r : Int32) (τ : St), K1 σ0 τ → (τ.1 3 7 = σ.1 3 7 ∧ τ.1 3 11 = σ.1 3 11 ∧ τ.1 3 6 = σ.1 3 6 ∧ τ.1 9 9 = σ.1 9 9 ∧ τ.1 9 10 = σ.1 9 10 ∧ τ.1 6 5 = σ.1 6 5 ∧ τ.1 7 4 = σ.1 7 4 ∧ τ.1 2 5 = σ.1 2 5 ∧ τ.1 2 6 = σ.1 2 6 ∧ τ.1 3 8 = σ.1 3 8) → True → Q r τ) : fX8_cachedNodes N  Q σ := by
  unfold fX8_cachedNodes
  refine ⟨fun c1 => ?_, fun c1 => ?_⟩
  · have f2 := tB (σ.1 2 7)
    first | have f3 := (eqE (rfl : (σ.1 2 7).toInt = (σ.1 2 7).toInt) (show ((-1) : Int32).toInt = -1 from by decide)).mp c1 | skip
    refine sX8_countNodes hN hσ (fun r16 σ4 hσ4 kk15 p17 => ?_)
    obtain ⟨k5, k6, k7, k8, k9, k10, k11, k12, k13, k14⟩ := kk15
    intro σ18 eσ18
    have hσ18 : K1 σ0 σ18 := by rw [eσ18]; exact hσ4.u (Rg1.u_2_7 _) (fun q => absurd q.1 (by decide)) (fun q => absurd q.1 (by decide))
    unfold fX8_cachedNodes_j16
    exact hQ _ _ hσ18 (⟨(kq (a := 3) (b := 7) eσ18 (fun q => absurd q.1 (by decide))).trans (k5), (kq (a := 3) (b := 11) eσ18 (fun q => absurd q.1 (by decide))).trans (k6), (kq (a := 3) (b := 6) eσ18 (fun q => absurd q.1 (by decide))).trans (k7), (kq (a := 9) (b := 9) eσ18 (fun q => absurd q.1 (by decide))).trans (k8), (kq (a := 9) (b := 10) eσ18 (fun q => absurd q.1 (by decide))).trans (k9), (kq (a := 6) (b := 5) eσ18 (fun q => absurd q.1 (by decide))).trans (k10), (kq (a := 7) (b := 4) eσ18 (fun q => absurd q.1 (by decide))).trans (k11), (kq (a := 2) (b := 5) eσ18 (fun q => absurd q.2 (by decide))).trans (k12), (kq (a := 2) (b := 6) eσ18 (fun q => absurd q.2 (by decide))).trans (k13), (kq (a := 3) (b := 8) eσ18 (fun q => absurd q.1 (by decide))).trans (k14)⟩) trivial
  · have f19 := tB (σ.1 2 7)
    first | have f20 := (noteqE (rfl : (σ.1 2 7).toInt = (σ.1 2 7).toInt) (show ((-1) : Int32).toInt = -1 from by decide)).mp c1 | skip
    unfold fX8_cachedNodes_j16
    exact hQ _ _ hσ (⟨rfl, rfl, rfl, rfl, rfl, rfl, rfl, rfl, rfl, rfl⟩) trivial
set_option maxHeartbeats 4000000 in
theorem sX11_table {N : Nat} (hN : 4294967400 ≤ N) {x1 : Int32} {Q : Int32 → St → Prop} {σ0 σ : St} (hσ : K1 σ0 σ) (hQ : ∀ (r : Int32) (τ : St), K1 σ0 τ → (τ.1 3 7 = σ.1 3 7 ∧ τ.1 3 11 = σ.1 3 11 ∧ τ.1 3 6 = σ.1 3 6 ∧ τ.1 9 9 = σ.1 9 9 ∧ τ.1 9 10 = σ.1 9 10 ∧ τ.1 6 5 = σ.1 6 5 ∧ τ.1 7 4 = σ.1 7 4 ∧ τ.1 3 8 = σ.1 3 8) → True → Q r τ) : fX11_table N x1 Q σ := by
  unfold fX11_table
  refine ⟨fun c1 => ?_, fun c1 => ?_⟩
  · have f2 := K1.g_3_7 hσ
    first | have f3 := (leE (rfl : (σ.1 3 7).toInt = (σ.1 3 7).toInt) (show (0 : Int32).toInt = 0 from by decide)).mp c1 | skip
    have f4 := tB x1
    refine sX8_tell hN hσ (fun σ5 hσ5 kk15 => ?_)
    obtain ⟨k6, k7, k8, k9, k10, k11, k12, k13, k14⟩ := kk15
    refine sX8_cachedNodes hN hσ5 (fun r28 σ16 hσ16 kk27 p29 => ?_)
    obtain ⟨k17, k18, k19, k20, k21, k22, k23, k24, k25, k26⟩ := kk27
    exact hQ _ _ hσ16 (⟨k17.trans (k6), k18.trans (k7), k19.trans (k8), k20.trans (k9), k21.trans (k10), k22.trans (k11), k23.trans (k12), k26.trans (k14)⟩) trivial
  · have f30 := K1.g_3_7 hσ
    first | have f31 := (notleE (rfl : (σ.1 3 7).toInt = (σ.1 3 7).toInt) (show (0 : Int32).toInt = 0 from by decide)).mp c1 | skip
    exact hQ _ _ hσ (⟨rfl, rfl, rfl, rfl, rfl, rfl, rfl, rfl⟩) trivial
set_option maxHeartbeats 4000000 in
theorem sX2_isSystem {N : Nat} (hN : 4294967400 ≤ N) {x0 : Int32} {Q : Int32 → St → Prop} {σ0 σ : St} (hσ : K1 σ0 σ) (hQ : ∀ r : Int32, True → Q r σ) : fX2_isSystem N x0 Q σ := by
  unfold fX2_isSystem
  refine ⟨fun c1 => ?_, fun c1 => ?_⟩
  · have f2 := tB x0
    first | have f3 := (ltE (rfl : x0.toInt = x0.toInt) (show (0 : Int32).toInt = 0 from by decide)).mp c1 | skip
    exact hQ _ trivial
  · have f4 := tB x0
    first | have f5 := (notltE (rfl : x0.toInt = x0.toInt) (show (0 : Int32).toInt = 0 from by decide)).mp c1 | skip
    refine ⟨fun c6 => ?_, fun c6 => ?_⟩
    · first | have f8 := (ltE (show (2 : Int32).toInt = 2 from by decide) (rfl : x0.toInt = x0.toInt)).mp c6 | skip
      exact hQ _ trivial
    · first | have f10 := (notltE (show (2 : Int32).toInt = 2 from by decide) (rfl : x0.toInt = x0.toInt)).mp c6 | skip
      exact hQ _ trivial
set_option maxHeartbeats 4000000 in
theorem sX2_setSystem {N : Nat} (hN : 4294967400 ≤ N) {x1 : Int32} {x2 : Int32} {Q : St → Prop} {σ0 σ : St} (hσ : K1 σ0 σ) (hQ : ∀ τ : St, K1 σ0 τ → (τ.1 3 7 = σ.1 3 7 ∧ τ.1 3 11 = σ.1 3 11 ∧ τ.1 3 6 = σ.1 3 6 ∧ τ.1 9 9 = σ.1 9 9 ∧ τ.1 9 10 = σ.1 9 10 ∧ τ.1 6 5 = σ.1 6 5 ∧ τ.1 7 4 = σ.1 7 4 ∧ τ.1 2 4 = σ.1 2 4 ∧ τ.1 2 5 = σ.1 2 5 ∧ τ.1 2 6 = σ.1 2 6 ∧ τ.1 3 8 = σ.1 3 8) → Q τ) : fX2_setSystem N x1 x2 Q σ := by
  unfold fX2_setSystem
  unfold fX2_isSystem
  refine ⟨fun c1 => ?_, fun c1 => ?_⟩
  · have f2 := tB x1
    first | have f3 := (ltE (rfl : x1.toInt = x1.toInt) (show (0 : Int32).toInt = 0 from by decide)).mp c1 | skip
    try dsimp only
    refine ⟨fun c4 => ?_, fun c4 => ?_⟩
    · first | have f5 := (eqE (show (0 : Int32).toInt = 0 from by decide) (show (0 : Int32).toInt = 0 from by decide)).mp c4 | skip
      unfold fX2_setSystem_j13
      intro σ6 eσ6
      have hσ6 : K1 σ0 σ6 := by rw [eσ6]; exact hσ.u (Rg1.u_3_9 _) (fun q => absurd q.1 (by decide)) (fun q => absurd q.1 (by decide))
      intro σ7 eσ7
      have hσ7 : K1 σ0 σ7 := by rw [eσ7]; exact hσ6.u (Rg1.u_3_10 _) (fun q => absurd q.1 (by decide)) (fun q => absurd q.1 (by decide))
      exact hQ _ hσ7 (⟨(kq (a := 3) (b := 7) eσ7 (fun q => absurd q.2 (by decide))).trans ((kq (a := 3) (b := 7) eσ6 (fun q => absurd q.2 (by decide)))), (kq (a := 3) (b := 11) eσ7 (fun q => absurd q.2 (by decide))).trans ((kq (a := 3) (b := 11) eσ6 (fun q => absurd q.2 (by decide)))), (kq (a := 3) (b := 6) eσ7 (fun q => absurd q.2 (by decide))).trans ((kq (a := 3) (b := 6) eσ6 (fun q => absurd q.2 (by decide)))), (kq (a := 9) (b := 9) eσ7 (fun q => absurd q.1 (by decide))).trans ((kq (a := 9) (b := 9) eσ6 (fun q => absurd q.1 (by decide)))), (kq (a := 9) (b := 10) eσ7 (fun q => absurd q.1 (by decide))).trans ((kq (a := 9) (b := 10) eσ6 (fun q => absurd q.1 (by decide)))), (kq (a := 6) (b := 5) eσ7 (fun q => absurd q.1 (by decide))).trans ((kq (a := 6) (b := 5) eσ6 (fun q => absurd q.1 (by decide)))), (kq (a := 7) (b := 4) eσ7 (fun q => absurd q.1 (by decide))).trans ((kq (a := 7) (b := 4) eσ6 (fun q => absurd q.1 (by decide)))), (kq (a := 2) (b := 4) eσ7 (fun q => absurd q.1 (by decide))).trans ((kq (a := 2) (b := 4) eσ6 (fun q => absurd q.1 (by decide)))), (kq (a := 2) (b := 5) eσ7 (fun q => absurd q.1 (by decide))).trans ((kq (a := 2) (b := 5) eσ6 (fun q => absurd q.1 (by decide)))), (kq (a := 2) (b := 6) eσ7 (fun q => absurd q.1 (by decide))).trans ((kq (a := 2) (b := 6) eσ6 (fun q => absurd q.1 (by decide)))), (kq (a := 3) (b := 8) eσ7 (fun q => absurd q.2 (by decide))).trans ((kq (a := 3) (b := 8) eσ6 (fun q => absurd q.2 (by decide))))⟩)
    · first | have f8 := (noteqE (show (0 : Int32).toInt = 0 from by decide) (show (0 : Int32).toInt = 0 from by decide)).mp c4 | skip
      unfold fX2_setSystem_j13
      intro σ9 eσ9
      have hσ9 : K1 σ0 σ9 := by rw [eσ9]; exact hσ.u (Rg1.u_3_9 _) (fun q => absurd q.1 (by decide)) (fun q => absurd q.1 (by decide))
      intro σ10 eσ10
      have hσ10 : K1 σ0 σ10 := by rw [eσ10]; exact hσ9.u (Rg1.u_3_10 _) (fun q => absurd q.1 (by decide)) (fun q => absurd q.1 (by decide))
      exact hQ _ hσ10 (⟨(kq (a := 3) (b := 7) eσ10 (fun q => absurd q.2 (by decide))).trans ((kq (a := 3) (b := 7) eσ9 (fun q => absurd q.2 (by decide)))), (kq (a := 3) (b := 11) eσ10 (fun q => absurd q.2 (by decide))).trans ((kq (a := 3) (b := 11) eσ9 (fun q => absurd q.2 (by decide)))), (kq (a := 3) (b := 6) eσ10 (fun q => absurd q.2 (by decide))).trans ((kq (a := 3) (b := 6) eσ9 (fun q => absurd q.2 (by decide)))), (kq (a := 9) (b := 9) eσ10 (fun q => absurd q.1 (by decide))).trans ((kq (a := 9) (b := 9) eσ9 (fun q => absurd q.1 (by decide)))), (kq (a := 9) (b := 10) eσ10 (fun q => absurd q.1 (by decide))).trans ((kq (a := 9) (b := 10) eσ9 (fun q => absurd q.1 (by decide)))), (kq (a := 6) (b := 5) eσ10 (fun q => absurd q.1 (by decide))).trans ((kq (a := 6) (b := 5) eσ9 (fun q => absurd q.1 (by decide)))), (kq (a := 7) (b := 4) eσ10 (fun q => absurd q.1 (by decide))).trans ((kq (a := 7) (b := 4) eσ9 (fun q => absurd q.1 (by decide)))), (kq (a := 2) (b := 4) eσ10 (fun q => absurd q.1 (by decide))).trans ((kq (a := 2) (b := 4) eσ9 (fun q => absurd q.1 (by decide)))), (kq (a := 2) (b := 5) eσ10 (fun q => absurd q.1 (by decide))).trans ((kq (a := 2) (b := 5) eσ9 (fun q => absurd q.1 (by decide)))), (kq (a := 2) (b := 6) eσ10 (fun q => absurd q.1 (by decide))).trans ((kq (a := 2) (b := 6) eσ9 (fun q => absurd q.1 (by decide)))), (kq (a := 3) (b := 8) eσ10 (fun q => absurd q.2 (by decide))).trans ((kq (a := 3) (b := 8) eσ9 (fun q => absurd q.2 (by decide))))⟩)
  · have f11 := tB x1
    first | have f12 := (notltE (rfl : x1.toInt = x1.toInt) (show (0 : Int32).toInt = 0 from by decide)).mp c1 | skip
    refine ⟨fun c13 => ?_, fun c13 => ?_⟩
    · first | have f15 := (ltE (show (2 : Int32).toInt = 2 from by decide) (rfl : x1.toInt = x1.toInt)).mp c13 | skip
      try dsimp only
      refine ⟨fun c16 => ?_, fun c16 => ?_⟩
      · first | have f17 := (eqE (show (0 : Int32).toInt = 0 from by decide) (show (0 : Int32).toInt = 0 from by decide)).mp c16 | skip
        unfold fX2_setSystem_j13
        intro σ18 eσ18
        have hσ18 : K1 σ0 σ18 := by rw [eσ18]; exact hσ.u (Rg1.u_3_9 _) (fun q => absurd q.1 (by decide)) (fun q => absurd q.1 (by decide))
        intro σ19 eσ19
        have hσ19 : K1 σ0 σ19 := by rw [eσ19]; exact hσ18.u (Rg1.u_3_10 _) (fun q => absurd q.1 (by decide)) (fun q => absurd q.1 (by decide))
        exact hQ _ hσ19 (⟨(kq (a := 3) (b := 7) eσ19 (fun q => absurd q.2 (by decide))).trans ((kq (a := 3) (b := 7) eσ18 (fun q => absurd q.2 (by decide)))), (kq (a := 3) (b := 11) eσ19 (fun q => absurd q.2 (by decide))).trans ((kq (a := 3) (b := 11) eσ18 (fun q => absurd q.2 (by decide)))), (kq (a := 3) (b := 6) eσ19 (fun q => absurd q.2 (by decide))).trans ((kq (a := 3) (b := 6) eσ18 (fun q => absurd q.2 (by decide)))), (kq (a := 9) (b := 9) eσ19 (fun q => absurd q.1 (by decide))).trans ((kq (a := 9) (b := 9) eσ18 (fun q => absurd q.1 (by decide)))), (kq (a := 9) (b := 10) eσ19 (fun q => absurd q.1 (by decide))).trans ((kq (a := 9) (b := 10) eσ18 (fun q => absurd q.1 (by decide)))), (kq (a := 6) (b := 5) eσ19 (fun q => absurd q.1 (by decide))).trans ((kq (a := 6) (b := 5) eσ18 (fun q => absurd q.1 (by decide)))), (kq (a := 7) (b := 4) eσ19 (fun q => absurd q.1 (by decide))).trans ((kq (a := 7) (b := 4) eσ18 (fun q => absurd q.1 (by decide)))), (kq (a := 2) (b := 4) eσ19 (fun q => absurd q.1 (by decide))).trans ((kq (a := 2) (b := 4) eσ18 (fun q => absurd q.1 (by decide)))), (kq (a := 2) (b := 5) eσ19 (fun q => absurd q.1 (by decide))).trans ((kq (a := 2) (b := 5) eσ18 (fun q => absurd q.1 (by decide)))), (kq (a := 2) (b := 6) eσ19 (fun q => absurd q.1 (by decide))).trans ((kq (a := 2) (b := 6) eσ18 (fun q => absurd q.1 (by decide)))), (kq (a := 3) (b := 8) eσ19 (fun q => absurd q.2 (by decide))).trans ((kq (a := 3) (b := 8) eσ18 (fun q => absurd q.2 (by decide))))⟩)
      · first | have f20 := (noteqE (show (0 : Int32).toInt = 0 from by decide) (show (0 : Int32).toInt = 0 from by decide)).mp c16 | skip
        unfold fX2_setSystem_j13
        intro σ21 eσ21
        have hσ21 : K1 σ0 σ21 := by rw [eσ21]; exact hσ.u (Rg1.u_3_9 _) (fun q => absurd q.1 (by decide)) (fun q => absurd q.1 (by decide))
        intro σ22 eσ22
        have hσ22 : K1 σ0 σ22 := by rw [eσ22]; exact hσ21.u (Rg1.u_3_10 _) (fun q => absurd q.1 (by decide)) (fun q => absurd q.1 (by decide))
        exact hQ _ hσ22 (⟨(kq (a := 3) (b := 7) eσ22 (fun q => absurd q.2 (by decide))).trans ((kq (a := 3) (b := 7) eσ21 (fun q => absurd q.2 (by decide)))), (kq (a := 3) (b := 11) eσ22 (fun q => absurd q.2 (by decide))).trans ((kq (a := 3) (b := 11) eσ21 (fun q => absurd q.2 (by decide)))), (kq (a := 3) (b := 6) eσ22 (fun q => absurd q.2 (by decide))).trans ((kq (a := 3) (b := 6) eσ21 (fun q => absurd q.2 (by decide)))), (kq (a := 9) (b := 9) eσ22 (fun q => absurd q.1 (by decide))).trans ((kq (a := 9) (b := 9) eσ21 (fun q => absurd q.1 (by decide)))), (kq (a := 9) (b := 10) eσ22 (fun q => absurd q.1 (by decide))).trans ((kq (a := 9) (b := 10) eσ21 (fun q => absurd q.1 (by decide)))), (kq (a := 6) (b := 5) eσ22 (fun q => absurd q.1 (by decide))).trans ((kq (a := 6) (b := 5) eσ21 (fun q => absurd q.1 (by decide)))), (kq (a := 7) (b := 4) eσ22 (fun q => absurd q.1 (by decide))).trans ((kq (a := 7) (b := 4) eσ21 (fun q => absurd q.1 (by decide)))), (kq (a := 2) (b := 4) eσ22 (fun q => absurd q.1 (by decide))).trans ((kq (a := 2) (b := 4) eσ21 (fun q => absurd q.1 (by decide)))), (kq (a := 2) (b := 5) eσ22 (fun q => absurd q.1 (by decide))).trans ((kq (a := 2) (b := 5) eσ21 (fun q => absurd q.1 (by decide)))), (kq (a := 2) (b := 6) eσ22 (fun q => absurd q.1 (by decide))).trans ((kq (a := 2) (b := 6) eσ21 (fun q => absurd q.1 (by decide)))), (kq (a := 3) (b := 8) eσ22 (fun q => absurd q.2 (by decide))).trans ((kq (a := 3) (b := 8) eσ21 (fun q => absurd q.2 (by decide))))⟩)
    · first | have f24 := (notltE (show (2 : Int32).toInt = 2 from by decide) (rfl : x1.toInt = x1.toInt)).mp c13 | skip
      try dsimp only
      refine ⟨fun c25 => ?_, fun c25 => ?_⟩
      · first | have f26 := (eqE (show (1 : Int32).toInt = 1 from by decide) (show (0 : Int32).toInt = 0 from by decide)).mp c25 | skip
        unfold fX2_setSystem_j13
        intro σ27 eσ27
        have hσ27 : K1 σ0 σ27 := by rw [eσ27]; exact hσ.u (Rg1.u_3_9 _) (fun q => absurd q.1 (by decide)) (fun q => absurd q.1 (by decide))
        intro σ28 eσ28
        have hσ28 : K1 σ0 σ28 := by rw [eσ28]; exact hσ27.u (Rg1.u_3_10 _) (fun q => absurd q.1 (by decide)) (fun q => absurd q.1 (by decide))
        exact hQ _ hσ28 (⟨(kq (a := 3) (b := 7) eσ28 (fun q => absurd q.2 (by decide))).trans ((kq (a := 3) (b := 7) eσ27 (fun q => absurd q.2 (by decide)))), (kq (a := 3) (b := 11) eσ28 (fun q => absurd q.2 (by decide))).trans ((kq (a := 3) (b := 11) eσ27 (fun q => absurd q.2 (by decide)))), (kq (a := 3) (b := 6) eσ28 (fun q => absurd q.2 (by decide))).trans ((kq (a := 3) (b := 6) eσ27 (fun q => absurd q.2 (by decide)))), (kq (a := 9) (b := 9) eσ28 (fun q => absurd q.1 (by decide))).trans ((kq (a := 9) (b := 9) eσ27 (fun q => absurd q.1 (by decide)))), (kq (a := 9) (b := 10) eσ28 (fun q => absurd q.1 (by decide))).trans ((kq (a := 9) (b := 10) eσ27 (fun q => absurd q.1 (by decide)))), (kq (a := 6) (b := 5) eσ28 (fun q => absurd q.1 (by decide))).trans ((kq (a := 6) (b := 5) eσ27 (fun q => absurd q.1 (by decide)))), (kq (a := 7) (b := 4) eσ28 (fun q => absurd q.1 (by decide))).trans ((kq (a := 7) (b := 4) eσ27 (fun q => absurd q.1 (by decide)))), (kq (a := 2) (b := 4) eσ28 (fun q => absurd q.1 (by decide))).trans ((kq (a := 2) (b := 4) eσ27 (fun q => absurd q.1 (by decide)))), (kq (a := 2) (b := 5) eσ28 (fun q => absurd q.1 (by decide))).trans ((kq (a := 2) (b := 5) eσ27 (fun q => absurd q.1 (by decide)))), (kq (a := 2) (b := 6) eσ28 (fun q => absurd q.1 (by decide))).trans ((kq (a := 2) (b := 6) eσ27 (fun q => absurd q.1 (by decide)))), (kq (a := 3) (b := 8) eσ28 (fun q => absurd q.2 (by decide))).trans ((kq (a := 3) (b := 8) eσ27 (fun q => absurd q.2 (by decide))))⟩)
      · first | have f29 := (noteqE (show (1 : Int32).toInt = 1 from by decide) (show (0 : Int32).toInt = 0 from by decide)).mp c25 | skip
        unfold fX2_setSystem_j13
        intro σ30 eσ30
        have hσ30 : K1 σ0 σ30 := by rw [eσ30]; exact hσ.u (Rg1.u_3_9 _) (fun q => absurd q.1 (by decide)) (fun q => absurd q.1 (by decide))
        intro σ31 eσ31
        have hσ31 : K1 σ0 σ31 := by rw [eσ31]; exact hσ30.u (Rg1.u_3_10 _) (fun q => absurd q.1 (by decide)) (fun q => absurd q.1 (by decide))
        exact hQ _ hσ31 (⟨(kq (a := 3) (b := 7) eσ31 (fun q => absurd q.2 (by decide))).trans ((kq (a := 3) (b := 7) eσ30 (fun q => absurd q.2 (by decide)))), (kq (a := 3) (b := 11) eσ31 (fun q => absurd q.2 (by decide))).trans ((kq (a := 3) (b := 11) eσ30 (fun q => absurd q.2 (by decide)))), (kq (a := 3) (b := 6) eσ31 (fun q => absurd q.2 (by decide))).trans ((kq (a := 3) (b := 6) eσ30 (fun q => absurd q.2 (by decide)))), (kq (a := 9) (b := 9) eσ31 (fun q => absurd q.1 (by decide))).trans ((kq (a := 9) (b := 9) eσ30 (fun q => absurd q.1 (by decide)))), (kq (a := 9) (b := 10) eσ31 (fun q => absurd q.1 (by decide))).trans ((kq (a := 9) (b := 10) eσ30 (fun q => absurd q.1 (by decide)))), (kq (a := 6) (b := 5) eσ31 (fun q => absurd q.1 (by decide))).trans ((kq (a := 6) (b := 5) eσ30 (fun q => absurd q.1 (by decide)))), (kq (a := 7) (b := 4) eσ31 (fun q => absurd q.1 (by decide))).trans ((kq (a := 7) (b := 4) eσ30 (fun q => absurd q.1 (by decide)))), (kq (a := 2) (b := 4) eσ31 (fun q => absurd q.1 (by decide))).trans ((kq (a := 2) (b := 4) eσ30 (fun q => absurd q.1 (by decide)))), (kq (a := 2) (b := 5) eσ31 (fun q => absurd q.1 (by decide))).trans ((kq (a := 2) (b := 5) eσ30 (fun q => absurd q.1 (by decide)))), (kq (a := 2) (b := 6) eσ31 (fun q => absurd q.1 (by decide))).trans ((kq (a := 2) (b := 6) eσ30 (fun q => absurd q.1 (by decide)))), (kq (a := 3) (b := 8) eσ31 (fun q => absurd q.2 (by decide))).trans ((kq (a := 3) (b := 8) eσ30 (fun q => absurd q.2 (by decide))))⟩)
set_option maxHeartbeats 4000000 in
theorem sX11_system {N : Nat} (hN : 4294967400 ≤ N) {x1 : Int32} {x2 : Int32} {Q : Int32 → St → Prop} {σ0 σ : St} (hσ : K1 σ0 σ) (hQ : ∀ (r : Int32) (τ : St), K1 σ0 τ → (τ.1 3 7 = σ.1 3 7 ∧ τ.1 3 11 = σ.1 3 11 ∧ τ.1 3 6 = σ.1 3 6 ∧ τ.1 9 9 = σ.1 9 9 ∧ τ.1 9 10 = σ.1 9 10 ∧ τ.1 6 5 = σ.1 6 5 ∧ τ.1 7 4 = σ.1 7 4 ∧ τ.1 2 4 = σ.1 2 4 ∧ τ.1 2 5 = σ.1 2 5 ∧ τ.1 2 6 = σ.1 2 6 ∧ τ.1 3 8 = σ.1 3 8) → True → Q r τ) : fX11_system N x1 x2 Q σ := by
  unfold fX11_system
  unfold fX2_isSystem
  refine ⟨fun c1 => ?_, fun c1 => ?_⟩
  · have f2 := tB x1
    first | have f3 := (ltE (rfl : x1.toInt = x1.toInt) (show (0 : Int32).toInt = 0 from by decide)).mp c1 | skip
    try dsimp only
    refine ⟨fun c4 => ?_, fun c4 => ?_⟩
    · first | have f5 := (eqE (show (0 : Int32).toInt = 0 from by decide) (show (0 : Int32).toInt = 0 from by decide)).mp c4 | skip
      exact hQ _ _ hσ (⟨rfl, rfl, rfl, rfl, rfl, rfl, rfl, rfl, rfl, rfl, rfl⟩) trivial
    · first | have f6 := (noteqE (show (0 : Int32).toInt = 0 from by decide) (show (0 : Int32).toInt = 0 from by decide)).mp c4 | skip
      refine ⟨fun c7 => ?_, fun c7 => ?_⟩
      · have f8 := K1.g_3_7 hσ
        first | have f9 := (leE (rfl : (σ.1 3 7).toInt = (σ.1 3 7).toInt) (show (0 : Int32).toInt = 0 from by decide)).mp c7 | skip
        unfold fX2_setSystem
        unfold fX2_isSystem
        refine ⟨fun c10 => ?_, fun c10 => ?_⟩
        · first | have f12 := (ltE (rfl : x1.toInt = x1.toInt) (show (0 : Int32).toInt = 0 from by decide)).mp c10 | skip
          try dsimp only
          refine ⟨fun c13 => ?_, fun c13 => ?_⟩
          · first | have f14 := (eqE (show (0 : Int32).toInt = 0 from by decide) (show (0 : Int32).toInt = 0 from by decide)).mp c13 | skip
            unfold fX2_setSystem_j13
            intro σ15 eσ15
            have hσ15 : K1 σ0 σ15 := by rw [eσ15]; exact hσ.u (Rg1.u_3_9 _) (fun q => absurd q.1 (by decide)) (fun q => absurd q.1 (by decide))
            intro σ16 eσ16
            have hσ16 : K1 σ0 σ16 := by rw [eσ16]; exact hσ15.u (Rg1.u_3_10 _) (fun q => absurd q.1 (by decide)) (fun q => absurd q.1 (by decide))
            try dsimp only
            exact hQ _ _ hσ16 (⟨(kq (a := 3) (b := 7) eσ16 (fun q => absurd q.2 (by decide))).trans ((kq (a := 3) (b := 7) eσ15 (fun q => absurd q.2 (by decide)))), (kq (a := 3) (b := 11) eσ16 (fun q => absurd q.2 (by decide))).trans ((kq (a := 3) (b := 11) eσ15 (fun q => absurd q.2 (by decide)))), (kq (a := 3) (b := 6) eσ16 (fun q => absurd q.2 (by decide))).trans ((kq (a := 3) (b := 6) eσ15 (fun q => absurd q.2 (by decide)))), (kq (a := 9) (b := 9) eσ16 (fun q => absurd q.1 (by decide))).trans ((kq (a := 9) (b := 9) eσ15 (fun q => absurd q.1 (by decide)))), (kq (a := 9) (b := 10) eσ16 (fun q => absurd q.1 (by decide))).trans ((kq (a := 9) (b := 10) eσ15 (fun q => absurd q.1 (by decide)))), (kq (a := 6) (b := 5) eσ16 (fun q => absurd q.1 (by decide))).trans ((kq (a := 6) (b := 5) eσ15 (fun q => absurd q.1 (by decide)))), (kq (a := 7) (b := 4) eσ16 (fun q => absurd q.1 (by decide))).trans ((kq (a := 7) (b := 4) eσ15 (fun q => absurd q.1 (by decide)))), (kq (a := 2) (b := 4) eσ16 (fun q => absurd q.1 (by decide))).trans ((kq (a := 2) (b := 4) eσ15 (fun q => absurd q.1 (by decide)))), (kq (a := 2) (b := 5) eσ16 (fun q => absurd q.1 (by decide))).trans ((kq (a := 2) (b := 5) eσ15 (fun q => absurd q.1 (by decide)))), (kq (a := 2) (b := 6) eσ16 (fun q => absurd q.1 (by decide))).trans ((kq (a := 2) (b := 6) eσ15 (fun q => absurd q.1 (by decide)))), (kq (a := 3) (b := 8) eσ16 (fun q => absurd q.2 (by decide))).trans ((kq (a := 3) (b := 8) eσ15 (fun q => absurd q.2 (by decide))))⟩) trivial
          · first | have f17 := (noteqE (show (0 : Int32).toInt = 0 from by decide) (show (0 : Int32).toInt = 0 from by decide)).mp c13 | skip
            unfold fX2_setSystem_j13
            intro σ18 eσ18
            have hσ18 : K1 σ0 σ18 := by rw [eσ18]; exact hσ.u (Rg1.u_3_9 _) (fun q => absurd q.1 (by decide)) (fun q => absurd q.1 (by decide))
            intro σ19 eσ19
            have hσ19 : K1 σ0 σ19 := by rw [eσ19]; exact hσ18.u (Rg1.u_3_10 _) (fun q => absurd q.1 (by decide)) (fun q => absurd q.1 (by decide))
            try dsimp only
            exact hQ _ _ hσ19 (⟨(kq (a := 3) (b := 7) eσ19 (fun q => absurd q.2 (by decide))).trans ((kq (a := 3) (b := 7) eσ18 (fun q => absurd q.2 (by decide)))), (kq (a := 3) (b := 11) eσ19 (fun q => absurd q.2 (by decide))).trans ((kq (a := 3) (b := 11) eσ18 (fun q => absurd q.2 (by decide)))), (kq (a := 3) (b := 6) eσ19 (fun q => absurd q.2 (by decide))).trans ((kq (a := 3) (b := 6) eσ18 (fun q => absurd q.2 (by decide)))), (kq (a := 9) (b := 9) eσ19 (fun q => absurd q.1 (by decide))).trans ((kq (a := 9) (b := 9) eσ18 (fun q => absurd q.1 (by decide)))), (kq (a := 9) (b := 10) eσ19 (fun q => absurd q.1 (by decide))).trans ((kq (a := 9) (b := 10) eσ18 (fun q => absurd q.1 (by decide)))), (kq (a := 6) (b := 5) eσ19 (fun q => absurd q.1 (by decide))).trans ((kq (a := 6) (b := 5) eσ18 (fun q => absurd q.1 (by decide)))), (kq (a := 7) (b := 4) eσ19 (fun q => absurd q.1 (by decide))).trans ((kq (a := 7) (b := 4) eσ18 (fun q => absurd q.1 (by decide)))), (kq (a := 2) (b := 4) eσ19 (fun q => absurd q.1 (by decide))).trans ((kq (a := 2) (b := 4) eσ18 (fun q => absurd q.1 (by decide)))), (kq (a := 2) (b := 5) eσ19 (fun q => absurd q.1 (by decide))).trans ((kq (a := 2) (b := 5) eσ18 (fun q => absurd q.1 (by decide)))), (kq (a := 2) (b := 6) eσ19 (fun q => absurd q.1 (by decide))).trans ((kq (a := 2) (b := 6) eσ18 (fun q => absurd q.1 (by decide)))), (kq (a := 3) (b := 8) eσ19 (fun q => absurd q.2 (by decide))).trans ((kq (a := 3) (b := 8) eσ18 (fun q => absurd q.2 (by decide))))⟩) trivial
        · first | have f21 := (notltE (rfl : x1.toInt = x1.toInt) (show (0 : Int32).toInt = 0 from by decide)).mp c10 | skip
          refine ⟨fun c22 => ?_, fun c22 => ?_⟩
          · first | have f24 := (ltE (show (2 : Int32).toInt = 2 from by decide) (rfl : x1.toInt = x1.toInt)).mp c22 | skip
            try dsimp only
            refine ⟨fun c25 => ?_, fun c25 => ?_⟩
            · first | have f26 := (eqE (show (0 : Int32).toInt = 0 from by decide) (show (0 : Int32).toInt = 0 from by decide)).mp c25 | skip
              unfold fX2_setSystem_j13
              intro σ27 eσ27
              have hσ27 : K1 σ0 σ27 := by rw [eσ27]; exact hσ.u (Rg1.u_3_9 _) (fun q => absurd q.1 (by decide)) (fun q => absurd q.1 (by decide))
              intro σ28 eσ28
              have hσ28 : K1 σ0 σ28 := by rw [eσ28]; exact hσ27.u (Rg1.u_3_10 _) (fun q => absurd q.1 (by decide)) (fun q => absurd q.1 (by decide))
              try dsimp only
              exact hQ _ _ hσ28 (⟨(kq (a := 3) (b := 7) eσ28 (fun q => absurd q.2 (by decide))).trans ((kq (a := 3) (b := 7) eσ27 (fun q => absurd q.2 (by decide)))), (kq (a := 3) (b := 11) eσ28 (fun q => absurd q.2 (by decide))).trans ((kq (a := 3) (b := 11) eσ27 (fun q => absurd q.2 (by decide)))), (kq (a := 3) (b := 6) eσ28 (fun q => absurd q.2 (by decide))).trans ((kq (a := 3) (b := 6) eσ27 (fun q => absurd q.2 (by decide)))), (kq (a := 9) (b := 9) eσ28 (fun q => absurd q.1 (by decide))).trans ((kq (a := 9) (b := 9) eσ27 (fun q => absurd q.1 (by decide)))), (kq (a := 9) (b := 10) eσ28 (fun q => absurd q.1 (by decide))).trans ((kq (a := 9) (b := 10) eσ27 (fun q => absurd q.1 (by decide)))), (kq (a := 6) (b := 5) eσ28 (fun q => absurd q.1 (by decide))).trans ((kq (a := 6) (b := 5) eσ27 (fun q => absurd q.1 (by decide)))), (kq (a := 7) (b := 4) eσ28 (fun q => absurd q.1 (by decide))).trans ((kq (a := 7) (b := 4) eσ27 (fun q => absurd q.1 (by decide)))), (kq (a := 2) (b := 4) eσ28 (fun q => absurd q.1 (by decide))).trans ((kq (a := 2) (b := 4) eσ27 (fun q => absurd q.1 (by decide)))), (kq (a := 2) (b := 5) eσ28 (fun q => absurd q.1 (by decide))).trans ((kq (a := 2) (b := 5) eσ27 (fun q => absurd q.1 (by decide)))), (kq (a := 2) (b := 6) eσ28 (fun q => absurd q.1 (by decide))).trans ((kq (a := 2) (b := 6) eσ27 (fun q => absurd q.1 (by decide)))), (kq (a := 3) (b := 8) eσ28 (fun q => absurd q.2 (by decide))).trans ((kq (a := 3) (b := 8) eσ27 (fun q => absurd q.2 (by decide))))⟩) trivial
            · first | have f29 := (noteqE (show (0 : Int32).toInt = 0 from by decide) (show (0 : Int32).toInt = 0 from by decide)).mp c25 | skip
              unfold fX2_setSystem_j13
              intro σ30 eσ30
              have hσ30 : K1 σ0 σ30 := by rw [eσ30]; exact hσ.u (Rg1.u_3_9 _) (fun q => absurd q.1 (by decide)) (fun q => absurd q.1 (by decide))
              intro σ31 eσ31
              have hσ31 : K1 σ0 σ31 := by rw [eσ31]; exact hσ30.u (Rg1.u_3_10 _) (fun q => absurd q.1 (by decide)) (fun q => absurd q.1 (by decide))
              try dsimp only
              exact hQ _ _ hσ31 (⟨(kq (a := 3) (b := 7) eσ31 (fun q => absurd q.2 (by decide))).trans ((kq (a := 3) (b := 7) eσ30 (fun q => absurd q.2 (by decide)))), (kq (a := 3) (b := 11) eσ31 (fun q => absurd q.2 (by decide))).trans ((kq (a := 3) (b := 11) eσ30 (fun q => absurd q.2 (by decide)))), (kq (a := 3) (b := 6) eσ31 (fun q => absurd q.2 (by decide))).trans ((kq (a := 3) (b := 6) eσ30 (fun q => absurd q.2 (by decide)))), (kq (a := 9) (b := 9) eσ31 (fun q => absurd q.1 (by decide))).trans ((kq (a := 9) (b := 9) eσ30 (fun q => absurd q.1 (by decide)))), (kq (a := 9) (b := 10) eσ31 (fun q => absurd q.1 (by decide))).trans ((kq (a := 9) (b := 10) eσ30 (fun q => absurd q.1 (by decide)))), (kq (a := 6) (b := 5) eσ31 (fun q => absurd q.1 (by decide))).trans ((kq (a := 6) (b := 5) eσ30 (fun q => absurd q.1 (by decide)))), (kq (a := 7) (b := 4) eσ31 (fun q => absurd q.1 (by decide))).trans ((kq (a := 7) (b := 4) eσ30 (fun q => absurd q.1 (by decide)))), (kq (a := 2) (b := 4) eσ31 (fun q => absurd q.1 (by decide))).trans ((kq (a := 2) (b := 4) eσ30 (fun q => absurd q.1 (by decide)))), (kq (a := 2) (b := 5) eσ31 (fun q => absurd q.1 (by decide))).trans ((kq (a := 2) (b := 5) eσ30 (fun q => absurd q.1 (by decide)))), (kq (a := 2) (b := 6) eσ31 (fun q => absurd q.1 (by decide))).trans ((kq (a := 2) (b := 6) eσ30 (fun q => absurd q.1 (by decide)))), (kq (a := 3) (b := 8) eσ31 (fun q => absurd q.2 (by decide))).trans ((kq (a := 3) (b := 8) eσ30 (fun q => absurd q.2 (by decide))))⟩) trivial
          · first | have f33 := (notltE (show (2 : Int32).toInt = 2 from by decide) (rfl : x1.toInt = x1.toInt)).mp c22 | skip
            try dsimp only
            refine ⟨fun c34 => ?_, fun c34 => ?_⟩
            · first | have f35 := (eqE (show (1 : Int32).toInt = 1 from by decide) (show (0 : Int32).toInt = 0 from by decide)).mp c34 | skip
              unfold fX2_setSystem_j13
              intro σ36 eσ36
              have hσ36 : K1 σ0 σ36 := by rw [eσ36]; exact hσ.u (Rg1.u_3_9 _) (fun q => absurd q.1 (by decide)) (fun q => absurd q.1 (by decide))
              intro σ37 eσ37
              have hσ37 : K1 σ0 σ37 := by rw [eσ37]; exact hσ36.u (Rg1.u_3_10 _) (fun q => absurd q.1 (by decide)) (fun q => absurd q.1 (by decide))
              try dsimp only
              exact hQ _ _ hσ37 (⟨(kq (a := 3) (b := 7) eσ37 (fun q => absurd q.2 (by decide))).trans ((kq (a := 3) (b := 7) eσ36 (fun q => absurd q.2 (by decide)))), (kq (a := 3) (b := 11) eσ37 (fun q => absurd q.2 (by decide))).trans ((kq (a := 3) (b := 11) eσ36 (fun q => absurd q.2 (by decide)))), (kq (a := 3) (b := 6) eσ37 (fun q => absurd q.2 (by decide))).trans ((kq (a := 3) (b := 6) eσ36 (fun q => absurd q.2 (by decide)))), (kq (a := 9) (b := 9) eσ37 (fun q => absurd q.1 (by decide))).trans ((kq (a := 9) (b := 9) eσ36 (fun q => absurd q.1 (by decide)))), (kq (a := 9) (b := 10) eσ37 (fun q => absurd q.1 (by decide))).trans ((kq (a := 9) (b := 10) eσ36 (fun q => absurd q.1 (by decide)))), (kq (a := 6) (b := 5) eσ37 (fun q => absurd q.1 (by decide))).trans ((kq (a := 6) (b := 5) eσ36 (fun q => absurd q.1 (by decide)))), (kq (a := 7) (b := 4) eσ37 (fun q => absurd q.1 (by decide))).trans ((kq (a := 7) (b := 4) eσ36 (fun q => absurd q.1 (by decide)))), (kq (a := 2) (b := 4) eσ37 (fun q => absurd q.1 (by decide))).trans ((kq (a := 2) (b := 4) eσ36 (fun q => absurd q.1 (by decide)))), (kq (a := 2) (b := 5) eσ37 (fun q => absurd q.1 (by decide))).trans ((kq (a := 2) (b := 5) eσ36 (fun q => absurd q.1 (by decide)))), (kq (a := 2) (b := 6) eσ37 (fun q => absurd q.1 (by decide))).trans ((kq (a := 2) (b := 6) eσ36 (fun q => absurd q.1 (by decide)))), (kq (a := 3) (b := 8) eσ37 (fun q => absurd q.2 (by decide))).trans ((kq (a := 3) (b := 8) eσ36 (fun q => absurd q.2 (by decide))))⟩) trivial
            · first | have f38 := (noteqE (show (1 : Int32).toInt = 1 from by decide) (show (0 : Int32).toInt = 0 from by decide)).mp c34 | skip
              unfold fX2_setSystem_j13
              intro σ39 eσ39
              have hσ39 : K1 σ0 σ39 := by rw [eσ39]; exact hσ.u (Rg1.u_3_9 _) (fun q => absurd q.1 (by decide)) (fun q => absurd q.1 (by decide))
              intro σ40 eσ40
              have hσ40 : K1 σ0 σ40 := by rw [eσ40]; exact hσ39.u (Rg1.u_3_10 _) (fun q => absurd q.1 (by decide)) (fun q => absurd q.1 (by decide))
              try dsimp only
              exact hQ _ _ hσ40 (⟨(kq (a := 3) (b := 7) eσ40 (fun q => absurd q.2 (by decide))).trans ((kq (a := 3) (b := 7) eσ39 (fun q => absurd q.2 (by decide)))), (kq (a := 3) (b := 11) eσ40 (fun q => absurd q.2 (by decide))).trans ((kq (a := 3) (b := 11) eσ39 (fun q => absurd q.2 (by decide)))), (kq (a := 3) (b := 6) eσ40 (fun q => absurd q.2 (by decide))).trans ((kq (a := 3) (b := 6) eσ39 (fun q => absurd q.2 (by decide)))), (kq (a := 9) (b := 9) eσ40 (fun q => absurd q.1 (by decide))).trans ((kq (a := 9) (b := 9) eσ39 (fun q => absurd q.1 (by decide)))), (kq (a := 9) (b := 10) eσ40 (fun q => absurd q.1 (by decide))).trans ((kq (a := 9) (b := 10) eσ39 (fun q => absurd q.1 (by decide)))), (kq (a := 6) (b := 5) eσ40 (fun q => absurd q.1 (by decide))).trans ((kq (a := 6) (b := 5) eσ39 (fun q => absurd q.1 (by decide)))), (kq (a := 7) (b := 4) eσ40 (fun q => absurd q.1 (by decide))).trans ((kq (a := 7) (b := 4) eσ39 (fun q => absurd q.1 (by decide)))), (kq (a := 2) (b := 4) eσ40 (fun q => absurd q.1 (by decide))).trans ((kq (a := 2) (b := 4) eσ39 (fun q => absurd q.1 (by decide)))), (kq (a := 2) (b := 5) eσ40 (fun q => absurd q.1 (by decide))).trans ((kq (a := 2) (b := 5) eσ39 (fun q => absurd q.1 (by decide)))), (kq (a := 2) (b := 6) eσ40 (fun q => absurd q.1 (by decide))).trans ((kq (a := 2) (b := 6) eσ39 (fun q => absurd q.1 (by decide)))), (kq (a := 3) (b := 8) eσ40 (fun q => absurd q.2 (by decide))).trans ((kq (a := 3) (b := 8) eσ39 (fun q => absurd q.2 (by decide))))⟩) trivial
      · have f41 := K1.g_3_7 hσ
        first | have f42 := (notleE (rfl : (σ.1 3 7).toInt = (σ.1 3 7).toInt) (show (0 : Int32).toInt = 0 from by decide)).mp c7 | skip
        exact hQ _ _ hσ (⟨rfl, rfl, rfl, rfl, rfl, rfl, rfl, rfl, rfl, rfl, rfl⟩) trivial
  · have f43 := tB x1
    first | have f44 := (notltE (rfl : x1.toInt = x1.toInt) (show (0 : Int32).toInt = 0 from by decide)).mp c1 | skip
    refine ⟨fun c45 => ?_, fun c45 => ?_⟩
    · first | have f47 := (ltE (show (2 : Int32).toInt = 2 from by decide) (rfl : x1.toInt = x1.toInt)).mp c45 | skip
      try dsimp only
      refine ⟨fun c48 => ?_, fun c48 => ?_⟩
      · first | have f49 := (eqE (show (0 : Int32).toInt = 0 from by decide) (show (0 : Int32).toInt = 0 from by decide)).mp c48 | skip
        exact hQ _ _ hσ (⟨rfl, rfl, rfl, rfl, rfl, rfl, rfl, rfl, rfl, rfl, rfl⟩) trivial
      · first | have f50 := (noteqE (show (0 : Int32).toInt = 0 from by decide) (show (0 : Int32).toInt = 0 from by decide)).mp c48 | skip
        refine ⟨fun c51 => ?_, fun c51 => ?_⟩
        · have f52 := K1.g_3_7 hσ
          first | have f53 := (leE (rfl : (σ.1 3 7).toInt = (σ.1 3 7).toInt) (show (0 : Int32).toInt = 0 from by decide)).mp c51 | skip
          unfold fX2_setSystem
          unfold fX2_isSystem
          refine ⟨fun c54 => ?_, fun c54 => ?_⟩
          · first | have f56 := (ltE (rfl : x1.toInt = x1.toInt) (show (0 : Int32).toInt = 0 from by decide)).mp c54 | skip
            try dsimp only
            refine ⟨fun c57 => ?_, fun c57 => ?_⟩
            · first | have f58 := (eqE (show (0 : Int32).toInt = 0 from by decide) (show (0 : Int32).toInt = 0 from by decide)).mp c57 | skip
              unfold fX2_setSystem_j13
              intro σ59 eσ59
              have hσ59 : K1 σ0 σ59 := by rw [eσ59]; exact hσ.u (Rg1.u_3_9 _) (fun q => absurd q.1 (by decide)) (fun q => absurd q.1 (by decide))
              intro σ60 eσ60
              have hσ60 : K1 σ0 σ60 := by rw [eσ60]; exact hσ59.u (Rg1.u_3_10 _) (fun q => absurd q.1 (by decide)) (fun q => absurd q.1 (by decide))
              try dsimp only
              exact hQ _ _ hσ60 (⟨(kq (a := 3) (b := 7) eσ60 (fun q => absurd q.2 (by decide))).trans ((kq (a := 3) (b := 7) eσ59 (fun q => absurd q.2 (by decide)))), (kq (a := 3) (b := 11) eσ60 (fun q => absurd q.2 (by decide))).trans ((kq (a := 3) (b := 11) eσ59 (fun q => absurd q.2 (by decide)))), (kq (a := 3) (b := 6) eσ60 (fun q => absurd q.2 (by decide))).trans ((kq (a := 3) (b := 6) eσ59 (fun q => absurd q.2 (by decide)))), (kq (a := 9) (b := 9) eσ60 (fun q => absurd q.1 (by decide))).trans ((kq (a := 9) (b := 9) eσ59 (fun q => absurd q.1 (by decide)))), (kq (a := 9) (b := 10) eσ60 (fun q => absurd q.1 (by decide))).trans ((kq (a := 9) (b := 10) eσ59 (fun q => absurd q.1 (by decide)))), (kq (a := 6) (b := 5) eσ60 (fun q => absurd q.1 (by decide))).trans ((kq (a := 6) (b := 5) eσ59 (fun q => absurd q.1 (by decide)))), (kq (a := 7) (b := 4) eσ60 (fun q => absurd q.1 (by decide))).trans ((kq (a := 7) (b := 4) eσ59 (fun q => absurd q.1 (by decide)))), (kq (a := 2) (b := 4) eσ60 (fun q => absurd q.1 (by decide))).trans ((kq (a := 2) (b := 4) eσ59 (fun q => absurd q.1 (by decide)))), (kq (a := 2) (b := 5) eσ60 (fun q => absurd q.1 (by decide))).trans ((kq (a := 2) (b := 5) eσ59 (fun q => absurd q.1 (by decide)))), (kq (a := 2) (b := 6) eσ60 (fun q => absurd q.1 (by decide))).trans ((kq (a := 2) (b := 6) eσ59 (fun q => absurd q.1 (by decide)))), (kq (a := 3) (b := 8) eσ60 (fun q => absurd q.2 (by decide))).trans ((kq (a := 3) (b := 8) eσ59 (fun q => absurd q.2 (by decide))))⟩) trivial
            · first | have f61 := (noteqE (show (0 : Int32).toInt = 0 from by decide) (show (0 : Int32).toInt = 0 from by decide)).mp c57 | skip
              unfold fX2_setSystem_j13
              intro σ62 eσ62
              have hσ62 : K1 σ0 σ62 := by rw [eσ62]; exact hσ.u (Rg1.u_3_9 _) (fun q => absurd q.1 (by decide)) (fun q => absurd q.1 (by decide))
              intro σ63 eσ63
              have hσ63 : K1 σ0 σ63 := by rw [eσ63]; exact hσ62.u (Rg1.u_3_10 _) (fun q => absurd q.1 (by decide)) (fun q => absurd q.1 (by decide))
              try dsimp only
              exact hQ _ _ hσ63 (⟨(kq (a := 3) (b := 7) eσ63 (fun q => absurd q.2 (by decide))).trans ((kq (a := 3) (b := 7) eσ62 (fun q => absurd q.2 (by decide)))), (kq (a := 3) (b := 11) eσ63 (fun q => absurd q.2 (by decide))).trans ((kq (a := 3) (b := 11) eσ62 (fun q => absurd q.2 (by decide)))), (kq (a := 3) (b := 6) eσ63 (fun q => absurd q.2 (by decide))).trans ((kq (a := 3) (b := 6) eσ62 (fun q => absurd q.2 (by decide)))), (kq (a := 9) (b := 9) eσ63 (fun q => absurd q.1 (by decide))).trans ((kq (a := 9) (b := 9) eσ62 (fun q => absurd q.1 (by decide)))), (kq (a := 9) (b := 10) eσ63 (fun q => absurd q.1 (by decide))).trans ((kq (a := 9) (b := 10) eσ62 (fun q => absurd q.1 (by decide)))), (kq (a := 6) (b := 5) eσ63 (fun q => absurd q.1 (by decide))).trans ((kq (a := 6) (b := 5) eσ62 (fun q => absurd q.1 (by decide)))), (kq (a := 7) (b := 4) eσ63 (fun q => absurd q.1 (by decide))).trans ((kq (a := 7) (b := 4) eσ62 (fun q => absurd q.1 (by decide)))), (kq (a := 2) (b := 4) eσ63 (fun q => absurd q.1 (by decide))).trans ((kq (a := 2) (b := 4) eσ62 (fun q => absurd q.1 (by decide)))), (kq (a := 2) (b := 5) eσ63 (fun q => absurd q.1 (by decide))).trans ((kq (a := 2) (b := 5) eσ62 (fun q => absurd q.1 (by decide)))), (kq (a := 2) (b := 6) eσ63 (fun q => absurd q.1 (by decide))).trans ((kq (a := 2) (b := 6) eσ62 (fun q => absurd q.1 (by decide)))), (kq (a := 3) (b := 8) eσ63 (fun q => absurd q.2 (by decide))).trans ((kq (a := 3) (b := 8) eσ62 (fun q => absurd q.2 (by decide))))⟩) trivial
          · first | have f65 := (notltE (rfl : x1.toInt = x1.toInt) (show (0 : Int32).toInt = 0 from by decide)).mp c54 | skip
            refine ⟨fun c66 => ?_, fun c66 => ?_⟩
            · first | have f68 := (ltE (show (2 : Int32).toInt = 2 from by decide) (rfl : x1.toInt = x1.toInt)).mp c66 | skip
              try dsimp only
              refine ⟨fun c69 => ?_, fun c69 => ?_⟩
              · first | have f70 := (eqE (show (0 : Int32).toInt = 0 from by decide) (show (0 : Int32).toInt = 0 from by decide)).mp c69 | skip
                unfold fX2_setSystem_j13
                intro σ71 eσ71
                have hσ71 : K1 σ0 σ71 := by rw [eσ71]; exact hσ.u (Rg1.u_3_9 _) (fun q => absurd q.1 (by decide)) (fun q => absurd q.1 (by decide))
                intro σ72 eσ72
                have hσ72 : K1 σ0 σ72 := by rw [eσ72]; exact hσ71.u (Rg1.u_3_10 _) (fun q => absurd q.1 (by decide)) (fun q => absurd q.1 (by decide))
                try dsimp only
                exact hQ _ _ hσ72 (⟨(kq (a := 3) (b := 7) eσ72 (fun q => absurd q.2 (by decide))).trans ((kq (a := 3) (b := 7) eσ71 (fun q => absurd q.2 (by decide)))), (kq (a := 3) (b := 11) eσ72 (fun q => absurd q.2 (by decide))).trans ((kq (a := 3) (b := 11) eσ71 (fun q => absurd q.2 (by decide)))), (kq (a := 3) (b := 6) eσ72 (fun q => absurd q.2 (by decide))).trans ((kq (a := 3) (b := 6) eσ71 (fun q => absurd q.2 (by decide)))), (kq (a := 9) (b := 9) eσ72 (fun q => absurd q.1 (by decide))).trans ((kq (a := 9) (b := 9) eσ71 (fun q => absurd q.1 (by decide)))), (kq (a := 9) (b := 10) eσ72 (fun q => absurd q.1 (by decide))).trans ((kq (a := 9) (b := 10) eσ71 (fun q => absurd q.1 (by decide)))), (kq (a := 6) (b := 5) eσ72 (fun q => absurd q.1 (by decide))).trans ((kq (a := 6) (b := 5) eσ71 (fun q => absurd q.1 (by decide)))), (kq (a := 7) (b := 4) eσ72 (fun q => absurd q.1 (by decide))).trans ((kq (a := 7) (b := 4) eσ71 (fun q => absurd q.1 (by decide)))), (kq (a := 2) (b := 4) eσ72 (fun q => absurd q.1 (by decide))).trans ((kq (a := 2) (b := 4) eσ71 (fun q => absurd q.1 (by decide)))), (kq (a := 2) (b := 5) eσ72 (fun q => absurd q.1 (by decide))).trans ((kq (a := 2) (b := 5) eσ71 (fun q => absurd q.1 (by decide)))), (kq (a := 2) (b := 6) eσ72 (fun q => absurd q.1 (by decide))).trans ((kq (a := 2) (b := 6) eσ71 (fun q => absurd q.1 (by decide)))), (kq (a := 3) (b := 8) eσ72 (fun q => absurd q.2 (by decide))).trans ((kq (a := 3) (b := 8) eσ71 (fun q => absurd q.2 (by decide))))⟩) trivial
              · first | have f73 := (noteqE (show (0 : Int32).toInt = 0 from by decide) (show (0 : Int32).toInt = 0 from by decide)).mp c69 | skip
                unfold fX2_setSystem_j13
                intro σ74 eσ74
                have hσ74 : K1 σ0 σ74 := by rw [eσ74]; exact hσ.u (Rg1.u_3_9 _) (fun q => absurd q.1 (by decide)) (fun q => absurd q.1 (by decide))
                intro σ75 eσ75
                have hσ75 : K1 σ0 σ75 := by rw [eσ75]; exact hσ74.u (Rg1.u_3_10 _) (fun q => absurd q.1 (by decide)) (fun q => absurd q.1 (by decide))
                try dsimp only
                exact hQ _ _ hσ75 (⟨(kq (a := 3) (b := 7) eσ75 (fun q => absurd q.2 (by decide))).trans ((kq (a := 3) (b := 7) eσ74 (fun q => absurd q.2 (by decide)))), (kq (a := 3) (b := 11) eσ75 (fun q => absurd q.2 (by decide))).trans ((kq (a := 3) (b := 11) eσ74 (fun q => absurd q.2 (by decide)))), (kq (a := 3) (b := 6) eσ75 (fun q => absurd q.2 (by decide))).trans ((kq (a := 3) (b := 6) eσ74 (fun q => absurd q.2 (by decide)))), (kq (a := 9) (b := 9) eσ75 (fun q => absurd q.1 (by decide))).trans ((kq (a := 9) (b := 9) eσ74 (fun q => absurd q.1 (by decide)))), (kq (a := 9) (b := 10) eσ75 (fun q => absurd q.1 (by decide))).trans ((kq (a := 9) (b := 10) eσ74 (fun q => absurd q.1 (by decide)))), (kq (a := 6) (b := 5) eσ75 (fun q => absurd q.1 (by decide))).trans ((kq (a := 6) (b := 5) eσ74 (fun q => absurd q.1 (by decide)))), (kq (a := 7) (b := 4) eσ75 (fun q => absurd q.1 (by decide))).trans ((kq (a := 7) (b := 4) eσ74 (fun q => absurd q.1 (by decide)))), (kq (a := 2) (b := 4) eσ75 (fun q => absurd q.1 (by decide))).trans ((kq (a := 2) (b := 4) eσ74 (fun q => absurd q.1 (by decide)))), (kq (a := 2) (b := 5) eσ75 (fun q => absurd q.1 (by decide))).trans ((kq (a := 2) (b := 5) eσ74 (fun q => absurd q.1 (by decide)))), (kq (a := 2) (b := 6) eσ75 (fun q => absurd q.1 (by decide))).trans ((kq (a := 2) (b := 6) eσ74 (fun q => absurd q.1 (by decide)))), (kq (a := 3) (b := 8) eσ75 (fun q => absurd q.2 (by decide))).trans ((kq (a := 3) (b := 8) eσ74 (fun q => absurd q.2 (by decide))))⟩) trivial
            · first | have f77 := (notltE (show (2 : Int32).toInt = 2 from by decide) (rfl : x1.toInt = x1.toInt)).mp c66 | skip
              try dsimp only
              refine ⟨fun c78 => ?_, fun c78 => ?_⟩
              · first | have f79 := (eqE (show (1 : Int32).toInt = 1 from by decide) (show (0 : Int32).toInt = 0 from by decide)).mp c78 | skip
                unfold fX2_setSystem_j13
                intro σ80 eσ80
                have hσ80 : K1 σ0 σ80 := by rw [eσ80]; exact hσ.u (Rg1.u_3_9 _) (fun q => absurd q.1 (by decide)) (fun q => absurd q.1 (by decide))
                intro σ81 eσ81
                have hσ81 : K1 σ0 σ81 := by rw [eσ81]; exact hσ80.u (Rg1.u_3_10 _) (fun q => absurd q.1 (by decide)) (fun q => absurd q.1 (by decide))
                try dsimp only
                exact hQ _ _ hσ81 (⟨(kq (a := 3) (b := 7) eσ81 (fun q => absurd q.2 (by decide))).trans ((kq (a := 3) (b := 7) eσ80 (fun q => absurd q.2 (by decide)))), (kq (a := 3) (b := 11) eσ81 (fun q => absurd q.2 (by decide))).trans ((kq (a := 3) (b := 11) eσ80 (fun q => absurd q.2 (by decide)))), (kq (a := 3) (b := 6) eσ81 (fun q => absurd q.2 (by decide))).trans ((kq (a := 3) (b := 6) eσ80 (fun q => absurd q.2 (by decide)))), (kq (a := 9) (b := 9) eσ81 (fun q => absurd q.1 (by decide))).trans ((kq (a := 9) (b := 9) eσ80 (fun q => absurd q.1 (by decide)))), (kq (a := 9) (b := 10) eσ81 (fun q => absurd q.1 (by decide))).trans ((kq (a := 9) (b := 10) eσ80 (fun q => absurd q.1 (by decide)))), (kq (a := 6) (b := 5) eσ81 (fun q => absurd q.1 (by decide))).trans ((kq (a := 6) (b := 5) eσ80 (fun q => absurd q.1 (by decide)))), (kq (a := 7) (b := 4) eσ81 (fun q => absurd q.1 (by decide))).trans ((kq (a := 7) (b := 4) eσ80 (fun q => absurd q.1 (by decide)))), (kq (a := 2) (b := 4) eσ81 (fun q => absurd q.1 (by decide))).trans ((kq (a := 2) (b := 4) eσ80 (fun q => absurd q.1 (by decide)))), (kq (a := 2) (b := 5) eσ81 (fun q => absurd q.1 (by decide))).trans ((kq (a := 2) (b := 5) eσ80 (fun q => absurd q.1 (by decide)))), (kq (a := 2) (b := 6) eσ81 (fun q => absurd q.1 (by decide))).trans ((kq (a := 2) (b := 6) eσ80 (fun q => absurd q.1 (by decide)))), (kq (a := 3) (b := 8) eσ81 (fun q => absurd q.2 (by decide))).trans ((kq (a := 3) (b := 8) eσ80 (fun q => absurd q.2 (by decide))))⟩) trivial
              · first | have f82 := (noteqE (show (1 : Int32).toInt = 1 from by decide) (show (0 : Int32).toInt = 0 from by decide)).mp c78 | skip
                unfold fX2_setSystem_j13
                intro σ83 eσ83
                have hσ83 : K1 σ0 σ83 := by rw [eσ83]; exact hσ.u (Rg1.u_3_9 _) (fun q => absurd q.1 (by decide)) (fun q => absurd q.1 (by decide))
                intro σ84 eσ84
                have hσ84 : K1 σ0 σ84 := by rw [eσ84]; exact hσ83.u (Rg1.u_3_10 _) (fun q => absurd q.1 (by decide)) (fun q => absurd q.1 (by decide))
                try dsimp only
                exact hQ _ _ hσ84 (⟨(kq (a := 3) (b := 7) eσ84 (fun q => absurd q.2 (by decide))).trans ((kq (a := 3) (b := 7) eσ83 (fun q => absurd q.2 (by decide)))), (kq (a := 3) (b := 11) eσ84 (fun q => absurd q.2 (by decide))).trans ((kq (a := 3) (b := 11) eσ83 (fun q => absurd q.2 (by decide)))), (kq (a := 3) (b := 6) eσ84 (fun q => absurd q.2 (by decide))).trans ((kq (a := 3) (b := 6) eσ83 (fun q => absurd q.2 (by decide)))), (kq (a := 9) (b := 9) eσ84 (fun q => absurd q.1 (by decide))).trans ((kq (a := 9) (b := 9) eσ83 (fun q => absurd q.1 (by decide)))), (kq (a := 9) (b := 10) eσ84 (fun q => absurd q.1 (by decide))).trans ((kq (a := 9) (b := 10) eσ83 (fun q => absurd q.1 (by decide)))), (kq (a := 6) (b := 5) eσ84 (fun q => absurd q.1 (by decide))).trans ((kq (a := 6) (b := 5) eσ83 (fun q => absurd q.1 (by decide)))), (kq (a := 7) (b := 4) eσ84 (fun q => absurd q.1 (by decide))).trans ((kq (a := 7) (b := 4) eσ83 (fun q => absurd q.1 (by decide)))), (kq (a := 2) (b := 4) eσ84 (fun q => absurd q.1 (by decide))).trans ((kq (a := 2) (b := 4) eσ83 (fun q => absurd q.1 (by decide)))), (kq (a := 2) (b := 5) eσ84 (fun q => absurd q.1 (by decide))).trans ((kq (a := 2) (b := 5) eσ83 (fun q => absurd q.1 (by decide)))), (kq (a := 2) (b := 6) eσ84 (fun q => absurd q.1 (by decide))).trans ((kq (a := 2) (b := 6) eσ83 (fun q => absurd q.1 (by decide)))), (kq (a := 3) (b := 8) eσ84 (fun q => absurd q.2 (by decide))).trans ((kq (a := 3) (b := 8) eσ83 (fun q => absurd q.2 (by decide))))⟩) trivial
        · have f85 := K1.g_3_7 hσ
          first | have f86 := (notleE (rfl : (σ.1 3 7).toInt = (σ.1 3 7).toInt) (show (0 : Int32).toInt = 0 from by decide)).mp c51 | skip
          exact hQ _ _ hσ (⟨rfl, rfl, rfl, rfl, rfl, rfl, rfl, rfl, rfl, rfl, rfl⟩) trivial
    · first | have f88 := (notltE (show (2 : Int32).toInt = 2 from by decide) (rfl : x1.toInt = x1.toInt)).mp c45 | skip
      try dsimp only
      refine ⟨fun c89 => ?_, fun c89 => ?_⟩
      · first | have f90 := (eqE (show (1 : Int32).toInt = 1 from by decide) (show (0 : Int32).toInt = 0 from by decide)).mp c89 | skip
        exact hQ _ _ hσ (⟨rfl, rfl, rfl, rfl, rfl, rfl, rfl, rfl, rfl, rfl, rfl⟩) trivial
      · first | have f91 := (noteqE (show (1 : Int32).toInt = 1 from by decide) (show (0 : Int32).toInt = 0 from by decide)).mp c89 | skip
        refine ⟨fun c92 => ?_, fun c92 => ?_⟩
        · have f93 := K1.g_3_7 hσ
          first | have f94 := (leE (rfl : (σ.1 3 7).toInt = (σ.1 3 7).toInt) (show (0 : Int32).toInt = 0 from by decide)).mp c92 | skip
          unfold fX2_setSystem
          unfold fX2_isSystem
          refine ⟨fun c95 => ?_, fun c95 => ?_⟩
          · first | have f97 := (ltE (rfl : x1.toInt = x1.toInt) (show (0 : Int32).toInt = 0 from by decide)).mp c95 | skip
            try dsimp only
            refine ⟨fun c98 => ?_, fun c98 => ?_⟩
            · first | have f99 := (eqE (show (0 : Int32).toInt = 0 from by decide) (show (0 : Int32).toInt = 0 from by decide)).mp c98 | skip
              unfold fX2_setSystem_j13
              intro σ100 eσ100
              have hσ100 : K1 σ0 σ100 := by rw [eσ100]; exact hσ.u (Rg1.u_3_9 _) (fun q => absurd q.1 (by decide)) (fun q => absurd q.1 (by decide))
              intro σ101 eσ101
              have hσ101 : K1 σ0 σ101 := by rw [eσ101]; exact hσ100.u (Rg1.u_3_10 _) (fun q => absurd q.1 (by decide)) (fun q => absurd q.1 (by decide))
              try dsimp only
              exact hQ _ _ hσ101 (⟨(kq (a := 3) (b := 7) eσ101 (fun q => absurd q.2 (by decide))).trans ((kq (a := 3) (b := 7) eσ100 (fun q => absurd q.2 (by decide)))), (kq (a := 3) (b := 11) eσ101 (fun q => absurd q.2 (by decide))).trans ((kq (a := 3) (b := 11) eσ100 (fun q => absurd q.2 (by decide)))), (kq (a := 3) (b := 6) eσ101 (fun q => absurd q.2 (by decide))).trans ((kq (a := 3) (b := 6) eσ100 (fun q => absurd q.2 (by decide)))), (kq (a := 9) (b := 9) eσ101 (fun q => absurd q.1 (by decide))).trans ((kq (a := 9) (b := 9) eσ100 (fun q => absurd q.1 (by decide)))), (kq (a := 9) (b := 10) eσ101 (fun q => absurd q.1 (by decide))).trans ((kq (a := 9) (b := 10) eσ100 (fun q => absurd q.1 (by decide)))), (kq (a := 6) (b := 5) eσ101 (fun q => absurd q.1 (by decide))).trans ((kq (a := 6) (b := 5) eσ100 (fun q => absurd q.1 (by decide)))), (kq (a := 7) (b := 4) eσ101 (fun q => absurd q.1 (by decide))).trans ((kq (a := 7) (b := 4) eσ100 (fun q => absurd q.1 (by decide)))), (kq (a := 2) (b := 4) eσ101 (fun q => absurd q.1 (by decide))).trans ((kq (a := 2) (b := 4) eσ100 (fun q => absurd q.1 (by decide)))), (kq (a := 2) (b := 5) eσ101 (fun q => absurd q.1 (by decide))).trans ((kq (a := 2) (b := 5) eσ100 (fun q => absurd q.1 (by decide)))), (kq (a := 2) (b := 6) eσ101 (fun q => absurd q.1 (by decide))).trans ((kq (a := 2) (b := 6) eσ100 (fun q => absurd q.1 (by decide)))), (kq (a := 3) (b := 8) eσ101 (fun q => absurd q.2 (by decide))).trans ((kq (a := 3) (b := 8) eσ100 (fun q => absurd q.2 (by decide))))⟩) trivial
            · first | have f102 := (noteqE (show (0 : Int32).toInt = 0 from by decide) (show (0 : Int32).toInt = 0 from by decide)).mp c98 | skip
              unfold fX2_setSystem_j13
              intro σ103 eσ103
              have hσ103 : K1 σ0 σ103 := by rw [eσ103]; exact hσ.u (Rg1.u_3_9 _) (fun q => absurd q.1 (by decide)) (fun q => absurd q.1 (by decide))
              intro σ104 eσ104
              have hσ104 : K1 σ0 σ104 := by rw [eσ104]; exact hσ103.u (Rg1.u_3_10 _) (fun q => absurd q.1 (by decide)) (fun q => absurd q.1 (by decide))
              try dsimp only
              exact hQ _ _ hσ104 (⟨(kq (a := 3) (b := 7) eσ104 (fun q => absurd q.2 (by decide))).trans ((kq (a := 3) (b := 7) eσ103 (fun q => absurd q.2 (by decide)))), (kq (a := 3) (b := 11) eσ104 (fun q => absurd q.2 (by decide))).trans ((kq (a := 3) (b := 11) eσ103 (fun q => absurd q.2 (by decide)))), (kq (a := 3) (b := 6) eσ104 (fun q => absurd q.2 (by decide))).trans ((kq (a := 3) (b := 6) eσ103 (fun q => absurd q.2 (by decide)))), (kq (a := 9) (b := 9) eσ104 (fun q => absurd q.1 (by decide))).trans ((kq (a := 9) (b := 9) eσ103 (fun q => absurd q.1 (by decide)))), (kq (a := 9) (b := 10) eσ104 (fun q => absurd q.1 (by decide))).trans ((kq (a := 9) (b := 10) eσ103 (fun q => absurd q.1 (by decide)))), (kq (a := 6) (b := 5) eσ104 (fun q => absurd q.1 (by decide))).trans ((kq (a := 6) (b := 5) eσ103 (fun q => absurd q.1 (by decide)))), (kq (a := 7) (b := 4) eσ104 (fun q => absurd q.1 (by decide))).trans ((kq (a := 7) (b := 4) eσ103 (fun q => absurd q.1 (by decide)))), (kq (a := 2) (b := 4) eσ104 (fun q => absurd q.1 (by decide))).trans ((kq (a := 2) (b := 4) eσ103 (fun q => absurd q.1 (by decide)))), (kq (a := 2) (b := 5) eσ104 (fun q => absurd q.1 (by decide))).trans ((kq (a := 2) (b := 5) eσ103 (fun q => absurd q.1 (by decide)))), (kq (a := 2) (b := 6) eσ104 (fun q => absurd q.1 (by decide))).trans ((kq (a := 2) (b := 6) eσ103 (fun q => absurd q.1 (by decide)))), (kq (a := 3) (b := 8) eσ104 (fun q => absurd q.2 (by decide))).trans ((kq (a := 3) (b := 8) eσ103 (fun q => absurd q.2 (by decide))))⟩) trivial
          · first | have f106 := (notltE (rfl : x1.toInt = x1.toInt) (show (0 : Int32).toInt = 0 from by decide)).mp c95 | skip
            refine ⟨fun c107 => ?_, fun c107 => ?_⟩
            · first | have f109 := (ltE (show (2 : Int32).toInt = 2 from by decide) (rfl : x1.toInt = x1.toInt)).mp c107 | skip
              try dsimp only
              refine ⟨fun c110 => ?_, fun c110 => ?_⟩
              · first | have f111 := (eqE (show (0 : Int32).toInt = 0 from by decide) (show (0 : Int32).toInt = 0 from by decide)).mp c110 | skip
                unfold fX2_setSystem_j13
                intro σ112 eσ112
                have hσ112 : K1 σ0 σ112 := by rw [eσ112]; exact hσ.u (Rg1.u_3_9 _) (fun q => absurd q.1 (by decide)) (fun q => absurd q.1 (by decide))
                intro σ113 eσ113
                have hσ113 : K1 σ0 σ113 := by rw [eσ113]; exact hσ112.u (Rg1.u_3_10 _) (fun q => absurd q.1 (by decide)) (fun q => absurd q.1 (by decide))
                try dsimp only
                exact hQ _ _ hσ113 (⟨(kq (a := 3) (b := 7) eσ113 (fun q => absurd q.2 (by decide))).trans ((kq (a := 3) (b := 7) eσ112 (fun q => absurd q.2 (by decide)))), (kq (a := 3) (b := 11) eσ113 (fun q => absurd q.2 (by decide))).trans ((kq (a := 3) (b := 11) eσ112 (fun q => absurd q.2 (by decide)))), (kq (a := 3) (b := 6) eσ113 (fun q => absurd q.2 (by decide))).trans ((kq (a := 3) (b := 6) eσ112 (fun q => absurd q.2 (by decide)))), (kq (a := 9) (b := 9) eσ113 (fun q => absurd q.1 (by decide))).trans ((kq (a := 9) (b := 9) eσ112 (fun q => absurd q.1 (by decide)))), (kq (a := 9) (b := 10) eσ113 (fun q => absurd q.1 (by decide))).trans ((kq (a := 9) (b := 10) eσ112 (fun q => absurd q.1 (by decide)))), (kq (a := 6) (b := 5) eσ113 (fun q => absurd q.1 (by decide))).trans ((kq (a := 6) (b := 5) eσ112 (fun q => absurd q.1 (by decide)))), (kq (a := 7) (b := 4) eσ113 (fun q => absurd q.1 (by decide))).trans ((kq (a := 7) (b := 4) eσ112 (fun q => absurd q.1 (by decide)))), (kq (a := 2) (b := 4) eσ113 (fun q => absurd q.1 (by decide))).trans ((kq (a := 2) (b := 4) eσ112 (fun q => absurd q.1 (by decide)))), (kq (a := 2) (b := 5) eσ113 (fun q => absurd q.1 (by decide))).trans ((kq (a := 2) (b := 5) eσ112 (fun q => absurd q.1 (by decide)))), (kq (a := 2) (b := 6) eσ113 (fun q => absurd q.1 (by decide))).trans ((kq (a := 2) (b := 6) eσ112 (fun q => absurd q.1 (by decide)))), (kq (a := 3) (b := 8) eσ113 (fun q => absurd q.2 (by decide))).trans ((kq (a := 3) (b := 8) eσ112 (fun q => absurd q.2 (by decide))))⟩) trivial
              · first | have f114 := (noteqE (show (0 : Int32).toInt = 0 from by decide) (show (0 : Int32).toInt = 0 from by decide)).mp c110 | skip
                unfold fX2_setSystem_j13
                intro σ115 eσ115
                have hσ115 : K1 σ0 σ115 := by rw [eσ115]; exact hσ.u (Rg1.u_3_9 _) (fun q => absurd q.1 (by decide)) (fun q => absurd q.1 (by decide))
                intro σ116 eσ116
                have hσ116 : K1 σ0 σ116 := by rw [eσ116]; exact hσ115.u (Rg1.u_3_10 _) (fun q => absurd q.1 (by decide)) (fun q => absurd q.1 (by decide))
                try dsimp only
                exact hQ _ _ hσ116 (⟨(kq (a := 3) (b := 7) eσ116 (fun q => absurd q.2 (by decide))).trans ((kq (a := 3) (b := 7) eσ115 (fun q => absurd q.2 (by decide)))), (kq (a := 3) (b := 11) eσ116 (fun q => absurd q.2 (by decide))).trans ((kq (a := 3) (b := 11) eσ115 (fun q => absurd q.2 (by decide)))), (kq (a := 3) (b := 6) eσ116 (fun q => absurd q.2 (by decide))).trans ((kq (a := 3) (b := 6) eσ115 (fun q => absurd q.2 (by decide)))), (kq (a := 9) (b := 9) eσ116 (fun q => absurd q.1 (by decide))).trans ((kq (a := 9) (b := 9) eσ115 (fun q => absurd q.1 (by decide)))), (kq (a := 9) (b := 10) eσ116 (fun q => absurd q.1 (by decide))).trans ((kq (a := 9) (b := 10) eσ115 (fun q => absurd q.1 (by decide)))), (kq (a := 6) (b := 5) eσ116 (fun q => absurd q.1 (by decide))).trans ((kq (a := 6) (b := 5) eσ115 (fun q => absurd q.1 (by decide)))), (kq (a := 7) (b := 4) eσ116 (fun q => absurd q.1 (by decide))).trans ((kq (a := 7) (b := 4) eσ115 (fun q => absurd q.1 (by decide)))), (kq (a := 2) (b := 4) eσ116 (fun q => absurd q.1 (by decide))).trans ((kq (a := 2) (b := 4) eσ115 (fun q => absurd q.1 (by decide)))), (kq (a := 2) (b := 5) eσ116 (fun q => absurd q.1 (by decide))).trans ((kq (a := 2) (b := 5) eσ115 (fun q => absurd q.1 (by decide)))), (kq (a := 2) (b := 6) eσ116 (fun q => absurd q.1 (by decide))).trans ((kq (a := 2) (b := 6) eσ115 (fun q => absurd q.1 (by decide)))), (kq (a := 3) (b := 8) eσ116 (fun q => absurd q.2 (by decide))).trans ((kq (a := 3) (b := 8) eσ115 (fun q => absurd q.2 (by decide))))⟩) trivial
            · first | have f118 := (notltE (show (2 : Int32).toInt = 2 from by decide) (rfl : x1.toInt = x1.toInt)).mp c107 | skip
              try dsimp only
              refine ⟨fun c119 => ?_, fun c119 => ?_⟩
              · first | have f120 := (eqE (show (1 : Int32).toInt = 1 from by decide) (show (0 : Int32).toInt = 0 from by decide)).mp c119 | skip
                unfold fX2_setSystem_j13
                intro σ121 eσ121
                have hσ121 : K1 σ0 σ121 := by rw [eσ121]; exact hσ.u (Rg1.u_3_9 _) (fun q => absurd q.1 (by decide)) (fun q => absurd q.1 (by decide))
                intro σ122 eσ122
                have hσ122 : K1 σ0 σ122 := by rw [eσ122]; exact hσ121.u (Rg1.u_3_10 _) (fun q => absurd q.1 (by decide)) (fun q => absurd q.1 (by decide))
                try dsimp only
                exact hQ _ _ hσ122 (⟨(kq (a := 3) (b := 7) eσ122 (fun q => absurd q.2 (by decide))).trans ((kq (a := 3) (b := 7) eσ121 (fun q => absurd q.2 (by decide)))), (kq (a := 3) (b := 11) eσ122 (fun q => absurd q.2 (by decide))).trans ((kq (a := 3) (b := 11) eσ121 (fun q => absurd q.2 (by decide)))), (kq (a := 3) (b := 6) eσ122 (fun q => absurd q.2 (by decide))).trans ((kq (a := 3) (b := 6) eσ121 (fun q => absurd q.2 (by decide)))), (kq (a := 9) (b := 9) eσ122 (fun q => absurd q.1 (by decide))).trans ((kq (a := 9) (b := 9) eσ121 (fun q => absurd q.1 (by decide)))), (kq (a := 9) (b := 10) eσ122 (fun q => absurd q.1 (by decide))).trans ((kq (a := 9) (b := 10) eσ121 (fun q => absurd q.1 (by decide)))), (kq (a := 6) (b := 5) eσ122 (fun q => absurd q.1 (by decide))).trans ((kq (a := 6) (b := 5) eσ121 (fun q => absurd q.1 (by decide)))), (kq (a := 7) (b := 4) eσ122 (fun q => absurd q.1 (by decide))).trans ((kq (a := 7) (b := 4) eσ121 (fun q => absurd q.1 (by decide)))), (kq (a := 2) (b := 4) eσ122 (fun q => absurd q.1 (by decide))).trans ((kq (a := 2) (b := 4) eσ121 (fun q => absurd q.1 (by decide)))), (kq (a := 2) (b := 5) eσ122 (fun q => absurd q.1 (by decide))).trans ((kq (a := 2) (b := 5) eσ121 (fun q => absurd q.1 (by decide)))), (kq (a := 2) (b := 6) eσ122 (fun q => absurd q.1 (by decide))).trans ((kq (a := 2) (b := 6) eσ121 (fun q => absurd q.1 (by decide)))), (kq (a := 3) (b := 8) eσ122 (fun q => absurd q.2 (by decide))).trans ((kq (a := 3) (b := 8) eσ121 (fun q => absurd q.2 (by decide))))⟩) trivial
              · first | have f123 := (noteqE (show (1 : Int32).toInt = 1 from by decide) (show (0 : Int32).toInt = 0 from by decide)).mp c119 | skip
                unfold fX2_setSystem_j13
                intro σ124 eσ124
                have hσ124 : K1 σ0 σ124 := by rw [eσ124]; exact hσ.u (Rg1.u_3_9 _) (fun q => absurd q.1 (by decide)) (fun q => absurd q.1 (by decide))
                intro σ125 eσ125
                have hσ125 : K1 σ0 σ125 := by rw [eσ125]; exact hσ124.u (Rg1.u_3_10 _) (fun q => absurd q.1 (by decide)) (fun q => absurd q.1 (by decide))
                try dsimp only
                exact hQ _ _ hσ125 (⟨(kq (a := 3) (b := 7) eσ125 (fun q => absurd q.2 (by decide))).trans ((kq (a := 3) (b := 7) eσ124 (fun q => absurd q.2 (by decide)))), (kq (a := 3) (b := 11) eσ125 (fun q => absurd q.2 (by decide))).trans ((kq (a := 3) (b := 11) eσ124 (fun q => absurd q.2 (by decide)))), (kq (a := 3) (b := 6) eσ125 (fun q => absurd q.2 (by decide))).trans ((kq (a := 3) (b := 6) eσ124 (fun q => absurd q.2 (by decide)))), (kq (a := 9) (b := 9) eσ125 (fun q => absurd q.1 (by decide))).trans ((kq (a := 9) (b := 9) eσ124 (fun q => absurd q.1 (by decide)))), (kq (a := 9) (b := 10) eσ125 (fun q => absurd q.1 (by decide))).trans ((kq (a := 9) (b := 10) eσ124 (fun q => absurd q.1 (by decide)))), (kq (a := 6) (b := 5) eσ125 (fun q => absurd q.1 (by decide))).trans ((kq (a := 6) (b := 5) eσ124 (fun q => absurd q.1 (by decide)))), (kq (a := 7) (b := 4) eσ125 (fun q => absurd q.1 (by decide))).trans ((kq (a := 7) (b := 4) eσ124 (fun q => absurd q.1 (by decide)))), (kq (a := 2) (b := 4) eσ125 (fun q => absurd q.1 (by decide))).trans ((kq (a := 2) (b := 4) eσ124 (fun q => absurd q.1 (by decide)))), (kq (a := 2) (b := 5) eσ125 (fun q => absurd q.1 (by decide))).trans ((kq (a := 2) (b := 5) eσ124 (fun q => absurd q.1 (by decide)))), (kq (a := 2) (b := 6) eσ125 (fun q => absurd q.1 (by decide))).trans ((kq (a := 2) (b := 6) eσ124 (fun q => absurd q.1 (by decide)))), (kq (a := 3) (b := 8) eσ125 (fun q => absurd q.2 (by decide))).trans ((kq (a := 3) (b := 8) eσ124 (fun q => absurd q.2 (by decide))))⟩) trivial
        · have f126 := K1.g_3_7 hσ
          first | have f127 := (notleE (rfl : (σ.1 3 7).toInt = (σ.1 3 7).toInt) (show (0 : Int32).toInt = 0 from by decide)).mp c92 | skip
          exact hQ _ _ hσ (⟨rfl, rfl, rfl, rfl, rfl, rfl, rfl, rfl, rfl, rfl, rfl⟩) trivial
set_option maxHeartbeats 4000000 in
theorem sX11_isStepCount {N : Nat} (hN : 4294967400 ≤ N) {x0 : Int32} {Q : Int32 → St → Prop} {σ0 σ : St} (hσ : K1 σ0 σ) (hQ : ∀ r : Int32, True → Q r σ) : fX11_isStepCount N x0 Q σ := by
  unfold fX11_isStepCount
  refine ⟨fun c1 => ?_, fun c1 => ?_⟩
  · have f2 := tB x0
    first | have f3 := (ltE (rfl : x0.toInt = x0.toInt) (show (0 : Int32).toInt = 0 from by decide)).mp c1 | skip
    exact hQ _ trivial
  · have f4 := tB x0
    first | have f5 := (notltE (rfl : x0.toInt = x0.toInt) (show (0 : Int32).toInt = 0 from by decide)).mp c1 | skip
    refine ⟨fun c6 => ?_, fun c6 => ?_⟩
    · first | have f8 := (ltE (show (100000 : Int32).toInt = 100000 from by decide) (rfl : x0.toInt = x0.toInt)).mp c6 | skip
      exact hQ _ trivial
    · first | have f10 := (notltE (show (100000 : Int32).toInt = 100000 from by decide) (rfl : x0.toInt = x0.toInt)).mp c6 | skip
      exact hQ _ trivial
set_option maxHeartbeats 4000000 in
theorem sX2_fail {N : Nat} (hN : 4294967400 ≤ N) {x1 : Int32} {Q : St → Prop} {σ0 σ : St} (hσ : K1 σ0 σ) (hQ : ∀ τ : St, K1 σ0 τ → (τ.1 3 7 = σ.1 3 7 ∧ τ.1 3 6 = σ.1 3 6 ∧ τ.1 9 9 = σ.1 9 9 ∧ τ.1 9 10 = σ.1 9 10 ∧ τ.1 6 5 = σ.1 6 5 ∧ τ.1 7 4 = σ.1 7 4 ∧ τ.1 2 4 = σ.1 2 4 ∧ τ.1 2 5 = σ.1 2 5 ∧ τ.1 2 6 = σ.1 2 6 ∧ τ.1 3 8 = σ.1 3 8) → Q τ) : fX2_fail N x1 Q σ := by
  unfold fX2_fail
  refine ⟨fun c1 => ?_, fun c1 => ?_⟩
  · have f2 := tB (σ.1 3 11)
    first | have f3 := (eqE (rfl : (σ.1 3 11).toInt = (σ.1 3 11).toInt) (show (0 : Int32).toInt = 0 from by decide)).mp c1 | skip
    intro σ4 eσ4
    have hσ4 : K1 σ0 σ4 := by rw [eσ4]; exact hσ.u (Rg1.u_3_11 _) (fun q => absurd q.1 (by decide)) (fun q => absurd q.1 (by decide))
    exact hQ _ hσ4 (⟨(kq (a := 3) (b := 7) eσ4 (fun q => absurd q.2 (by decide))), (kq (a := 3) (b := 6) eσ4 (fun q => absurd q.2 (by decide))), (kq (a := 9) (b := 9) eσ4 (fun q => absurd q.1 (by decide))), (kq (a := 9) (b := 10) eσ4 (fun q => absurd q.1 (by decide))), (kq (a := 6) (b := 5) eσ4 (fun q => absurd q.1 (by decide))), (kq (a := 7) (b := 4) eσ4 (fun q => absurd q.1 (by decide))), (kq (a := 2) (b := 4) eσ4 (fun q => absurd q.1 (by decide))), (kq (a := 2) (b := 5) eσ4 (fun q => absurd q.1 (by decide))), (kq (a := 2) (b := 6) eσ4 (fun q => absurd q.1 (by decide))), (kq (a := 3) (b := 8) eσ4 (fun q => absurd q.2 (by decide)))⟩)
  · have f5 := tB (σ.1 3 11)
    first | have f6 := (noteqE (rfl : (σ.1 3 11).toInt = (σ.1 3 11).toInt) (show (0 : Int32).toInt = 0 from by decide)).mp c1 | skip
    exact hQ _ hσ (⟨rfl, rfl, rfl, rfl, rfl, rfl, rfl, rfl, rfl, rfl⟩)
set_option maxHeartbeats 4000000 in
theorem sX2_readByte {N : Nat} (hN : 4294967400 ≤ N) {x1 : Int32} {Q : Int32 → St → Prop} {σ0 σ : St} (hσ : K1 σ0 σ) (hQ : ∀ (r : Int32) (τ : St), K1 σ0 τ → (τ.1 3 7 = σ.1 3 7 ∧ τ.1 3 6 = σ.1 3 6 ∧ τ.1 9 9 = σ.1 9 9 ∧ τ.1 9 10 = σ.1 9 10 ∧ τ.1 6 5 = σ.1 6 5 ∧ τ.1 7 4 = σ.1 7 4 ∧ τ.1 2 4 = σ.1 2 4 ∧ τ.1 2 5 = σ.1 2 5 ∧ τ.1 2 6 = σ.1 2 6 ∧ τ.1 3 8 = σ.1 3 8) → (0) ≤ r.toInt ∧ r.toInt ≤ 255 → Q r τ) : fX2_readByte N x1 Q σ := by
  unfold fX2_readByte
  unfold fX3_has
  refine ⟨fun c1 => ?_, fun c1 => ?_⟩
  · have f2 := tB x1
    first | have f3 := (ltE (rfl : x1.toInt = x1.toInt) (show (0 : Int32).toInt = 0 from by decide)).mp c1 | skip
    try dsimp only
    refine ⟨fun c4 => ?_, fun c4 => ?_⟩
    · first | have f5 := (eqE (show (0 : Int32).toInt = 0 from by decide) (show (0 : Int32).toInt = 0 from by decide)).mp c4 | skip
      unfold fX2_fail
      refine ⟨fun c6 => ?_, fun c6 => ?_⟩
      · have f7 := tB (σ.1 3 11)
        first | have f8 := (eqE (rfl : (σ.1 3 11).toInt = (σ.1 3 11).toInt) (show (0 : Int32).toInt = 0 from by decide)).mp c6 | skip
        intro σ9 eσ9
        have hσ9 : K1 σ0 σ9 := by rw [eσ9]; exact hσ.u (Rg1.u_3_11 _) (fun q => absurd q.1 (by decide)) (fun q => absurd q.1 (by decide))
        try dsimp only
        exact hQ _ _ hσ9 (⟨(kq (a := 3) (b := 7) eσ9 (fun q => absurd q.2 (by decide))), (kq (a := 3) (b := 6) eσ9 (fun q => absurd q.2 (by decide))), (kq (a := 9) (b := 9) eσ9 (fun q => absurd q.1 (by decide))), (kq (a := 9) (b := 10) eσ9 (fun q => absurd q.1 (by decide))), (kq (a := 6) (b := 5) eσ9 (fun q => absurd q.1 (by decide))), (kq (a := 7) (b := 4) eσ9 (fun q => absurd q.1 (by decide))), (kq (a := 2) (b := 4) eσ9 (fun q => absurd q.1 (by decide))), (kq (a := 2) (b := 5) eσ9 (fun q => absurd q.1 (by decide))), (kq (a := 2) (b := 6) eσ9 (fun q => absurd q.1 (by decide))), (kq (a := 3) (b := 8) eσ9 (fun q => absurd q.2 (by decide)))⟩) ⟨leP (show (0 : Int32).toInt = 0 from by decide) (by omega), geP (show (0 : Int32).toInt = 0 from by decide) (by omega)⟩
      · have f10 := tB (σ.1 3 11)
        first | have f11 := (noteqE (rfl : (σ.1 3 11).toInt = (σ.1 3 11).toInt) (show (0 : Int32).toInt = 0 from by decide)).mp c6 | skip
        try dsimp only
        exact hQ _ _ hσ (⟨rfl, rfl, rfl, rfl, rfl, rfl, rfl, rfl, rfl, rfl⟩) ⟨leP (show (0 : Int32).toInt = 0 from by decide) (by omega), geP (show (0 : Int32).toInt = 0 from by decide) (by omega)⟩
    · first | have f12 := (noteqE (show (0 : Int32).toInt = 0 from by decide) (show (0 : Int32).toInt = 0 from by decide)).mp c4 | skip
      refine sX3_byteOf hN hσ (fun r27 p28 => ?_)
      have f29 := tB r27
      exact hQ _ _ hσ (⟨rfl, rfl, rfl, rfl, rfl, rfl, rfl, rfl, rfl, rfl⟩) ⟨leP (rfl : r27.toInt = r27.toInt) (by omega), geP (rfl : r27.toInt = r27.toInt) (by omega)⟩
  · have f30 := tB x1
    first | have f31 := (notltE (rfl : x1.toInt = x1.toInt) (show (0 : Int32).toInt = 0 from by decide)).mp c1 | skip
    refine ⟨fun c32 => ?_, fun c32 => ?_⟩
    · first | have f34 := (leE (show (4096 : Int32).toInt = 4096 from by decide) (rfl : x1.toInt = x1.toInt)).mp c32 | skip
      try dsimp only
      refine ⟨fun c35 => ?_, fun c35 => ?_⟩
      · first | have f36 := (eqE (show (0 : Int32).toInt = 0 from by decide) (show (0 : Int32).toInt = 0 from by decide)).mp c35 | skip
        unfold fX2_fail
        refine ⟨fun c37 => ?_, fun c37 => ?_⟩
        · have f38 := tB (σ.1 3 11)
          first | have f39 := (eqE (rfl : (σ.1 3 11).toInt = (σ.1 3 11).toInt) (show (0 : Int32).toInt = 0 from by decide)).mp c37 | skip
          intro σ40 eσ40
          have hσ40 : K1 σ0 σ40 := by rw [eσ40]; exact hσ.u (Rg1.u_3_11 _) (fun q => absurd q.1 (by decide)) (fun q => absurd q.1 (by decide))
          try dsimp only
          exact hQ _ _ hσ40 (⟨(kq (a := 3) (b := 7) eσ40 (fun q => absurd q.2 (by decide))), (kq (a := 3) (b := 6) eσ40 (fun q => absurd q.2 (by decide))), (kq (a := 9) (b := 9) eσ40 (fun q => absurd q.1 (by decide))), (kq (a := 9) (b := 10) eσ40 (fun q => absurd q.1 (by decide))), (kq (a := 6) (b := 5) eσ40 (fun q => absurd q.1 (by decide))), (kq (a := 7) (b := 4) eσ40 (fun q => absurd q.1 (by decide))), (kq (a := 2) (b := 4) eσ40 (fun q => absurd q.1 (by decide))), (kq (a := 2) (b := 5) eσ40 (fun q => absurd q.1 (by decide))), (kq (a := 2) (b := 6) eσ40 (fun q => absurd q.1 (by decide))), (kq (a := 3) (b := 8) eσ40 (fun q => absurd q.2 (by decide)))⟩) ⟨leP (show (0 : Int32).toInt = 0 from by decide) (by omega), geP (show (0 : Int32).toInt = 0 from by decide) (by omega)⟩
        · have f41 := tB (σ.1 3 11)
          first | have f42 := (noteqE (rfl : (σ.1 3 11).toInt = (σ.1 3 11).toInt) (show (0 : Int32).toInt = 0 from by decide)).mp c37 | skip
          try dsimp only
          exact hQ _ _ hσ (⟨rfl, rfl, rfl, rfl, rfl, rfl, rfl, rfl, rfl, rfl⟩) ⟨leP (show (0 : Int32).toInt = 0 from by decide) (by omega), geP (show (0 : Int32).toInt = 0 from by decide) (by omega)⟩
      · first | have f43 := (noteqE (show (0 : Int32).toInt = 0 from by decide) (show (0 : Int32).toInt = 0 from by decide)).mp c35 | skip
        refine sX3_byteOf hN hσ (fun r58 p59 => ?_)
        have f60 := tB r58
        exact hQ _ _ hσ (⟨rfl, rfl, rfl, rfl, rfl, rfl, rfl, rfl, rfl, rfl⟩) ⟨leP (rfl : r58.toInt = r58.toInt) (by omega), geP (rfl : r58.toInt = r58.toInt) (by omega)⟩
    · first | have f62 := (notleE (show (4096 : Int32).toInt = 4096 from by decide) (rfl : x1.toInt = x1.toInt)).mp c32 | skip
      try dsimp only
      refine ⟨fun c63 => ?_, fun c63 => ?_⟩
      · first | have f64 := (eqE (show (1 : Int32).toInt = 1 from by decide) (show (0 : Int32).toInt = 0 from by decide)).mp c63 | skip
        unfold fX2_fail
        refine ⟨fun c65 => ?_, fun c65 => ?_⟩
        · have f66 := tB (σ.1 3 11)
          first | have f67 := (eqE (rfl : (σ.1 3 11).toInt = (σ.1 3 11).toInt) (show (0 : Int32).toInt = 0 from by decide)).mp c65 | skip
          intro σ68 eσ68
          have hσ68 : K1 σ0 σ68 := by rw [eσ68]; exact hσ.u (Rg1.u_3_11 _) (fun q => absurd q.1 (by decide)) (fun q => absurd q.1 (by decide))
          try dsimp only
          exact hQ _ _ hσ68 (⟨(kq (a := 3) (b := 7) eσ68 (fun q => absurd q.2 (by decide))), (kq (a := 3) (b := 6) eσ68 (fun q => absurd q.2 (by decide))), (kq (a := 9) (b := 9) eσ68 (fun q => absurd q.1 (by decide))), (kq (a := 9) (b := 10) eσ68 (fun q => absurd q.1 (by decide))), (kq (a := 6) (b := 5) eσ68 (fun q => absurd q.1 (by decide))), (kq (a := 7) (b := 4) eσ68 (fun q => absurd q.1 (by decide))), (kq (a := 2) (b := 4) eσ68 (fun q => absurd q.1 (by decide))), (kq (a := 2) (b := 5) eσ68 (fun q => absurd q.1 (by decide))), (kq (a := 2) (b := 6) eσ68 (fun q => absurd q.1 (by decide))), (kq (a := 3) (b := 8) eσ68 (fun q => absurd q.2 (by decide)))⟩) ⟨leP (show (0 : Int32).toInt = 0 from by decide) (by omega), geP (show (0 : Int32).toInt = 0 from by decide) (by omega)⟩
        · have f69 := tB (σ.1 3 11)
          first | have f70 := (noteqE (rfl : (σ.1 3 11).toInt = (σ.1 3 11).toInt) (show (0 : Int32).toInt = 0 from by decide)).mp c65 | skip
          try dsimp only
          exact hQ _ _ hσ (⟨rfl, rfl, rfl, rfl, rfl, rfl, rfl, rfl, rfl, rfl⟩) ⟨leP (show (0 : Int32).toInt = 0 from by decide) (by omega), geP (show (0 : Int32).toInt = 0 from by decide) (by omega)⟩
      · first | have f71 := (noteqE (show (1 : Int32).toInt = 1 from by decide) (show (0 : Int32).toInt = 0 from by decide)).mp c63 | skip
        refine sX3_byteOf hN hσ (fun r86 p87 => ?_)
        have f88 := tB r86
        exact hQ _ _ hσ (⟨rfl, rfl, rfl, rfl, rfl, rfl, rfl, rfl, rfl, rfl⟩) ⟨leP (rfl : r86.toInt = r86.toInt) (by omega), geP (rfl : r86.toInt = r86.toInt) (by omega)⟩
set_option maxHeartbeats 4000000 in
theorem sX1_reset {N : Nat} (hN : 4294967400 ≤ N) {k0 : Nat} {x1 : Int32} {x2 : Int32} (hk0 : jobK k0) {Q : St → Prop} {σ0 σ : St} (hσ : K1 σ0 σ) (hQ : ∀ τ : St, K1 σ0 τ → (τ.1 3 7 = σ.1 3 7 ∧ τ.1 3 11 = σ.1 3 11 ∧ τ.1 3 6 = σ.1 3 6 ∧ τ.1 9 9 = σ.1 9 9 ∧ τ.1 9 10 = σ.1 9 10 ∧ τ.1 6 5 = σ.1 6 5 ∧ τ.1 7 4 = σ.1 7 4 ∧ τ.1 2 4 = σ.1 2 4 ∧ τ.1 2 5 = σ.1 2 5 ∧ τ.1 2 6 = σ.1 2 6 ∧ τ.1 3 8 = σ.1 3 8) → Q τ) : fX1_reset N k0 x1 x2 Q σ := by
  unfold fX1_reset
  have kbhk0 := jobK_b hk0
  intro σ1 eσ1
  have kb2 := jobK_b hk0
  have hσ1 : K1 σ0 σ1 := by rw [eσ1]; exact hσ.u (rg_jobK hk0) (by omega) (by omega)
  intro σ3 eσ3
  have kb4 := jobK_b hk0
  have hσ3 : K1 σ0 σ3 := by rw [eσ3]; exact hσ1.u (rg_jobK hk0) (by omega) (by omega)
  intro σ5 eσ5
  have kb6 := jobK_b hk0
  have hσ5 : K1 σ0 σ5 := by rw [eσ5]; exact hσ3.u (rg_jobK hk0) (by omega) (by omega)
  intro σ7 eσ7
  have kb8 := jobK_b hk0
  have hσ7 : K1 σ0 σ7 := by rw [eσ7]; exact hσ5.u (rg_jobK hk0) (by omega) (by omega)
  intro σ9 eσ9
  have kb10 := jobK_b hk0
  have hσ9 : K1 σ0 σ9 := by rw [eσ9]; exact hσ7.u (rg_jobK hk0) (by omega) (by omega)
  intro σ11 eσ11
  have kb12 := jobK_b hk0
  have hσ11 : K1 σ0 σ11 := by rw [eσ11]; exact hσ9.u (rg_jobK hk0) (by omega) (by omega)
  intro σ13 eσ13
  have kb14 := jobK_b hk0
  have hσ13 : K1 σ0 σ13 := by rw [eσ13]; exact hσ11.u (rg_jobK hk0) (by omega) (by omega)
  exact hQ _ hσ13 (⟨(kq (a := 3) (b := 7) eσ13 (by omega)).trans ((kq (a := 3) (b := 7) eσ11 (by omega)).trans ((kq (a := 3) (b := 7) eσ9 (by omega)).trans ((kq (a := 3) (b := 7) eσ7 (by omega)).trans ((kq (a := 3) (b := 7) eσ5 (by omega)).trans ((kq (a := 3) (b := 7) eσ3 (by omega)).trans ((kq (a := 3) (b := 7) eσ1 (by omega)))))))), (kq (a := 3) (b := 11) eσ13 (by omega)).trans ((kq (a := 3) (b := 11) eσ11 (by omega)).trans ((kq (a := 3) (b := 11) eσ9 (by omega)).trans ((kq (a := 3) (b := 11) eσ7 (by omega)).trans ((kq (a := 3) (b := 11) eσ5 (by omega)).trans ((kq (a := 3) (b := 11) eσ3 (by omega)).trans ((kq (a := 3) (b := 11) eσ1 (by omega)))))))), (kq (a := 3) (b := 6) eσ13 (by omega)).trans ((kq (a := 3) (b := 6) eσ11 (by omega)).trans ((kq (a := 3) (b := 6) eσ9 (by omega)).trans ((kq (a := 3) (b := 6) eσ7 (by omega)).trans ((kq (a := 3) (b := 6) eσ5 (by omega)).trans ((kq (a := 3) (b := 6) eσ3 (by omega)).trans ((kq (a := 3) (b := 6) eσ1 (by omega)))))))), (kq (a := 9) (b := 9) eσ13 (by omega)).trans ((kq (a := 9) (b := 9) eσ11 (by omega)).trans ((kq (a := 9) (b := 9) eσ9 (by omega)).trans ((kq (a := 9) (b := 9) eσ7 (by omega)).trans ((kq (a := 9) (b := 9) eσ5 (by omega)).trans ((kq (a := 9) (b := 9) eσ3 (by omega)).trans ((kq (a := 9) (b := 9) eσ1 (by omega)))))))), (kq (a := 9) (b := 10) eσ13 (by omega)).trans ((kq (a := 9) (b := 10) eσ11 (by omega)).trans ((kq (a := 9) (b := 10) eσ9 (by omega)).trans ((kq (a := 9) (b := 10) eσ7 (by omega)).trans ((kq (a := 9) (b := 10) eσ5 (by omega)).trans ((kq (a := 9) (b := 10) eσ3 (by omega)).trans ((kq (a := 9) (b := 10) eσ1 (by omega)))))))), (kq (a := 6) (b := 5) eσ13 (by omega)).trans ((kq (a := 6) (b := 5) eσ11 (by omega)).trans ((kq (a := 6) (b := 5) eσ9 (by omega)).trans ((kq (a := 6) (b := 5) eσ7 (by omega)).trans ((kq (a := 6) (b := 5) eσ5 (by omega)).trans ((kq (a := 6) (b := 5) eσ3 (by omega)).trans ((kq (a := 6) (b := 5) eσ1 (by omega)))))))), (kq (a := 7) (b := 4) eσ13 (by omega)).trans ((kq (a := 7) (b := 4) eσ11 (by omega)).trans ((kq (a := 7) (b := 4) eσ9 (by omega)).trans ((kq (a := 7) (b := 4) eσ7 (by omega)).trans ((kq (a := 7) (b := 4) eσ5 (by omega)).trans ((kq (a := 7) (b := 4) eσ3 (by omega)).trans ((kq (a := 7) (b := 4) eσ1 (by omega)))))))), (kq (a := 2) (b := 4) eσ13 (by omega)).trans ((kq (a := 2) (b := 4) eσ11 (by omega)).trans ((kq (a := 2) (b := 4) eσ9 (by omega)).trans ((kq (a := 2) (b := 4) eσ7 (by omega)).trans ((kq (a := 2) (b := 4) eσ5 (by omega)).trans ((kq (a := 2) (b := 4) eσ3 (by omega)).trans ((kq (a := 2) (b := 4) eσ1 (by omega)))))))), (kq (a := 2) (b := 5) eσ13 (by omega)).trans ((kq (a := 2) (b := 5) eσ11 (by omega)).trans ((kq (a := 2) (b := 5) eσ9 (by omega)).trans ((kq (a := 2) (b := 5) eσ7 (by omega)).trans ((kq (a := 2) (b := 5) eσ5 (by omega)).trans ((kq (a := 2) (b := 5) eσ3 (by omega)).trans ((kq (a := 2) (b := 5) eσ1 (by omega)))))))), (kq (a := 2) (b := 6) eσ13 (by omega)).trans ((kq (a := 2) (b := 6) eσ11 (by omega)).trans ((kq (a := 2) (b := 6) eσ9 (by omega)).trans ((kq (a := 2) (b := 6) eσ7 (by omega)).trans ((kq (a := 2) (b := 6) eσ5 (by omega)).trans ((kq (a := 2) (b := 6) eσ3 (by omega)).trans ((kq (a := 2) (b := 6) eσ1 (by omega)))))))), (kq (a := 3) (b := 8) eσ13 (by omega)).trans ((kq (a := 3) (b := 8) eσ11 (by omega)).trans ((kq (a := 3) (b := 8) eσ9 (by omega)).trans ((kq (a := 3) (b := 8) eσ7 (by omega)).trans ((kq (a := 3) (b := 8) eσ5 (by omega)).trans ((kq (a := 3) (b := 8) eσ3 (by omega)).trans ((kq (a := 3) (b := 8) eσ1 (by omega))))))))⟩)
set_option maxHeartbeats 4000000 in
theorem sX2_begin {N : Nat} (hN : 4294967400 ≤ N) {x1 : Int32} {x2 : Int32} {Q : St → Prop} {σ0 σ : St} (hσ : K1 σ0 σ) (hQ : ∀ τ : St, K1 σ0 τ → (τ.1 3 6 = σ.1 3 6 ∧ τ.1 9 9 = σ.1 9 9 ∧ τ.1 9 10 = σ.1 9 10 ∧ τ.1 6 5 = σ.1 6 5 ∧ τ.1 7 4 = σ.1 7 4 ∧ τ.1 2 4 = σ.1 2 4 ∧ τ.1 2 5 = σ.1 2 5 ∧ τ.1 2 6 = σ.1 2 6 ∧ τ.1 3 8 = σ.1 3 8) → Q τ) : fX2_begin N x1 x2 Q σ := by
  unfold fX2_begin
  refine ⟨fun c1 => ?_, fun c1 => ?_⟩
  · have f2 := tB (σ.1 3 11)
    first | have f3 := (eqE (rfl : (σ.1 3 11).toInt = (σ.1 3 11).toInt) (show (0 : Int32).toInt = 0 from by decide)).mp c1 | skip
    refine ⟨fun c4 => ?_, fun c4 => ?_⟩
    · have f5 := K1.g_3_7 hσ
      first | have f6 := (ltE (rfl : (σ.1 3 7).toInt = (σ.1 3 7).toInt) (show (40 : Int32).toInt = 40 from by decide)).mp c4 | skip
      have g8 : vp_in (σ.1 3 7) 40 := inE (rfl : (σ.1 3 7).toInt = (σ.1 3 7).toInt) (by omega) (by omega)
      refine ⟨g8, ?_⟩
      have hk9 : jobK (43 + (σ.1 3 7).toNatClampNeg) := (jobK_in g8)
      have hk9x := vp_lt g8
      have hk9b := jobK_b hk9
      unfold fX1_reset
      intro σ10 eσ10
      have kb11 := jobK_b hk9
      have hσ10 : K1 σ0 σ10 := by rw [eσ10]; exact hσ.u (rg_jobK hk9) (by omega) (by omega)
      intro σ12 eσ12
      have kb13 := jobK_b hk9
      have hσ12 : K1 σ0 σ12 := by rw [eσ12]; exact hσ10.u (rg_jobK hk9) (by omega) (by omega)
      intro σ14 eσ14
      have kb15 := jobK_b hk9
      have hσ14 : K1 σ0 σ14 := by rw [eσ14]; exact hσ12.u (rg_jobK hk9) (by omega) (by omega)
      intro σ16 eσ16
      have kb17 := jobK_b hk9
      have hσ16 : K1 σ0 σ16 := by rw [eσ16]; exact hσ14.u (rg_jobK hk9) (by omega) (by omega)
      intro σ18 eσ18
      have kb19 := jobK_b hk9
      have hσ18 : K1 σ0 σ18 := by rw [eσ18]; exact hσ16.u (rg_jobK hk9) (by omega) (by omega)
      intro σ20 eσ20
      have kb21 := jobK_b hk9
      have hσ20 : K1 σ0 σ20 := by rw [eσ20]; exact hσ18.u (rg_jobK hk9) (by omega) (by omega)
      intro σ22 eσ22
      have kb23 := jobK_b hk9
      have hσ22 : K1 σ0 σ22 := by rw [eσ22]; exact hσ20.u (rg_jobK hk9) (by omega) (by omega)
      try dsimp only
      intro v24 ev24
      intro σ25 eσ25
      have f26 := tB v24
      have f27 := K1.g_3_7 hσ22
      have q28 : σ22.1 3 7 = σ20.1 3 7 := by rw [eσ22]; exact congrFun (u1_ne (by omega)) 7
      have f29 := congrArg Int32.toInt q28
      have f30 := K1.g_3_7 hσ20
      have q31 : σ20.1 3 7 = σ18.1 3 7 := by rw [eσ20]; exact congrFun (u1_ne (by omega)) 7
      have f32 := congrArg Int32.toInt q31
      have f33 := K1.g_3_7 hσ18
      have q34 : σ18.1 3 7 = σ16.1 3 7 := by rw [eσ18]; exact congrFun (u1_ne (by omega)) 7
      have f35 := congrArg Int32.toInt q34
      have f36 := K1.g_3_7 hσ16
      have q37 : σ16.1 3 7 = σ14.1 3 7 := by rw [eσ16]; exact congrFun (u1_ne (by omega)) 7
      have f38 := congrArg Int32.toInt q37
      have f39 := K1.g_3_7 hσ14
      have q40 : σ14.1 3 7 = σ12.1 3 7 := by rw [eσ14]; exact congrFun (u1_ne (by omega)) 7
      have f41 := congrArg Int32.toInt q40
      have f42 := K1.g_3_7 hσ12
      have q43 : σ12.1 3 7 = σ10.1 3 7 := by rw [eσ12]; exact congrFun (u1_ne (by omega)) 7
      have f44 := congrArg Int32.toInt q43
      have f45 := K1.g_3_7 hσ10
      have q46 : σ10.1 3 7 = σ.1 3 7 := by rw [eσ10]; exact congrFun (u1_ne (by omega)) 7
      have f47 := congrArg Int32.toInt q46
      first | have f49 : v24.toInt = ((σ22.1 3 7).toInt + (1)) := (congrArg Int32.toInt ev24).trans (aOkE (rfl : (σ22.1 3 7).toInt = (σ22.1 3 7).toInt) (show (1 : Int32).toInt = 1 from by decide) (by omega) (by omega)) | skip
      have hσ25 : K1 σ0 σ25 := by rw [eσ25]; exact hσ22.u (Rg1.r_3_7 (leP (rfl : v24.toInt = v24.toInt) (by omega)) (geP (rfl : v24.toInt = v24.toInt) (by omega))) (fun q => absurd q.1 (by decide)) (fun q => absurd q.1 (by decide))
      intro v50 ev50
      intro σ51 eσ51
      have hσ51 : K1 σ0 σ51 := by rw [eσ51]; exact hσ25.u (Rg1.u_5_7 _) (fun q => absurd q.1 (by decide)) (fun q => absurd q.1 (by decide))
      exact hQ _ hσ51 (⟨(kq (a := 3) (b := 6) eσ51 (fun q => absurd q.1 (by decide))).trans ((kq (a := 3) (b := 6) eσ25 (fun q => absurd q.2 (by decide))).trans ((kq (a := 3) (b := 6) eσ22 (by omega)).trans ((kq (a := 3) (b := 6) eσ20 (by omega)).trans ((kq (a := 3) (b := 6) eσ18 (by omega)).trans ((kq (a := 3) (b := 6) eσ16 (by omega)).trans ((kq (a := 3) (b := 6) eσ14 (by omega)).trans ((kq (a := 3) (b := 6) eσ12 (by omega)).trans ((kq (a := 3) (b := 6) eσ10 (by omega)))))))))), (kq (a := 9) (b := 9) eσ51 (fun q => absurd q.1 (by decide))).trans ((kq (a := 9) (b := 9) eσ25 (fun q => absurd q.1 (by decide))).trans ((kq (a := 9) (b := 9) eσ22 (by omega)).trans ((kq (a := 9) (b := 9) eσ20 (by omega)).trans ((kq (a := 9) (b := 9) eσ18 (by omega)).trans ((kq (a := 9) (b := 9) eσ16 (by omega)).trans ((kq (a := 9) (b := 9) eσ14 (by omega)).trans ((kq (a := 9) (b := 9) eσ12 (by omega)).trans ((kq (a := 9) (b := 9) eσ10 (by omega)))))))))), (kq (a := 9) (b := 10) eσ51 (fun q => absurd q.1 (by decide))).trans ((kq (a := 9) (b := 10) eσ25 (fun q => absurd q.1 (by decide))).trans ((kq (a := 9) (b := 10) eσ22 (by omega)).trans ((kq (a := 9) (b := 10) eσ20 (by omega)).trans ((kq (a := 9) (b := 10) eσ18 (by omega)).trans ((kq (a := 9) (b := 10) eσ16 (by omega)).trans ((kq (a := 9) (b := 10) eσ14 (by omega)).trans ((kq (a := 9) (b := 10) eσ12 (by omega)).trans ((kq (a := 9) (b := 10) eσ10 (by omega)))))))))), (kq (a := 6) (b := 5) eσ51 (fun q => absurd q.1 (by decide))).trans ((kq (a := 6) (b := 5) eσ25 (fun q => absurd q.1 (by decide))).trans ((kq (a := 6) (b := 5) eσ22 (by omega)).trans ((kq (a := 6) (b := 5) eσ20 (by omega)).trans ((kq (a := 6) (b := 5) eσ18 (by omega)).trans ((kq (a := 6) (b := 5) eσ16 (by omega)).trans ((kq (a := 6) (b := 5) eσ14 (by omega)).trans ((kq (a := 6) (b := 5) eσ12 (by omega)).trans ((kq (a := 6) (b := 5) eσ10 (by omega)))))))))), (kq (a := 7) (b := 4) eσ51 (fun q => absurd q.1 (by decide))).trans ((kq (a := 7) (b := 4) eσ25 (fun q => absurd q.1 (by decide))).trans ((kq (a := 7) (b := 4) eσ22 (by omega)).trans ((kq (a := 7) (b := 4) eσ20 (by omega)).trans ((kq (a := 7) (b := 4) eσ18 (by omega)).trans ((kq (a := 7) (b := 4) eσ16 (by omega)).trans ((kq (a := 7) (b := 4) eσ14 (by omega)).trans ((kq (a := 7) (b := 4) eσ12 (by omega)).trans ((kq (a := 7) (b := 4) eσ10 (by omega)))))))))), (kq (a := 2) (b := 4) eσ51 (fun q => absurd q.1 (by decide))).trans ((kq (a := 2) (b := 4) eσ25 (fun q => absurd q.1 (by decide))).trans ((kq (a := 2) (b := 4) eσ22 (by omega)).trans ((kq (a := 2) (b := 4) eσ20 (by omega)).trans ((kq (a := 2) (b := 4) eσ18 (by omega)).trans ((kq (a := 2) (b := 4) eσ16 (by omega)).trans ((kq (a := 2) (b := 4) eσ14 (by omega)).trans ((kq (a := 2) (b := 4) eσ12 (by omega)).trans ((kq (a := 2) (b := 4) eσ10 (by omega)))))))))), (kq (a := 2) (b := 5) eσ51 (fun q => absurd q.1 (by decide))).trans ((kq (a := 2) (b := 5) eσ25 (fun q => absurd q.1 (by decide))).trans ((kq (a := 2) (b := 5) eσ22 (by omega)).trans ((kq (a := 2) (b := 5) eσ20 (by omega)).trans ((kq (a := 2) (b := 5) eσ18 (by omega)).trans ((kq (a := 2) (b := 5) eσ16 (by omega)).trans ((kq (a := 2) (b := 5) eσ14 (by omega)).trans ((kq (a := 2) (b := 5) eσ12 (by omega)).trans ((kq (a := 2) (b := 5) eσ10 (by omega)))))))))), (kq (a := 2) (b := 6) eσ51 (fun q => absurd q.1 (by decide))).trans ((kq (a := 2) (b := 6) eσ25 (fun q => absurd q.1 (by decide))).trans ((kq (a := 2) (b := 6) eσ22 (by omega)).trans ((kq (a := 2) (b := 6) eσ20 (by omega)).trans ((kq (a := 2) (b := 6) eσ18 (by omega)).trans ((kq (a := 2) (b := 6) eσ16 (by omega)).trans ((kq (a := 2) (b := 6) eσ14 (by omega)).trans ((kq (a := 2) (b := 6) eσ12 (by omega)).trans ((kq (a := 2) (b := 6) eσ10 (by omega)))))))))), (kq (a := 3) (b := 8) eσ51 (fun q => absurd q.1 (by decide))).trans ((kq (a := 3) (b := 8) eσ25 (fun q => absurd q.2 (by decide))).trans ((kq (a := 3) (b := 8) eσ22 (by omega)).trans ((kq (a := 3) (b := 8) eσ20 (by omega)).trans ((kq (a := 3) (b := 8) eσ18 (by omega)).trans ((kq (a := 3) (b := 8) eσ16 (by omega)).trans ((kq (a := 3) (b := 8) eσ14 (by omega)).trans ((kq (a := 3) (b := 8) eσ12 (by omega)).trans ((kq (a := 3) (b := 8) eσ10 (by omega))))))))))⟩)
    · have f52 := K1.g_3_7 hσ
      first | have f53 := (notltE (rfl : (σ.1 3 7).toInt = (σ.1 3 7).toInt) (show (40 : Int32).toInt = 40 from by decide)).mp c4 | skip
      unfold fX2_fail
      refine ⟨fun c54 => ?_, fun c54 => ?_⟩
      · first | have f56 := (eqE (rfl : (σ.1 3 11).toInt = (σ.1 3 11).toInt) (show (0 : Int32).toInt = 0 from by decide)).mp c54 | skip
        intro σ57 eσ57
        have hσ57 : K1 σ0 σ57 := by rw [eσ57]; exact hσ.u (Rg1.u_3_11 _) (fun q => absurd q.1 (by decide)) (fun q => absurd q.1 (by decide))
        try dsimp only
        exact hQ _ hσ57 (⟨(kq (a := 3) (b := 6) eσ57 (fun q => absurd q.2 (by decide))), (kq (a := 9) (b := 9) eσ57 (fun q => absurd q.1 (by decide))), (kq (a := 9) (b := 10) eσ57 (fun q => absurd q.1 (by decide))), (kq (a := 6) (b := 5) eσ57 (fun q => absurd q.1 (by decide))), (kq (a := 7) (b := 4) eσ57 (fun q => absurd q.1 (by decide))), (kq (a := 2) (b := 4) eσ57 (fun q => absurd q.1 (by decide))), (kq (a := 2) (b := 5) eσ57 (fun q => absurd q.1 (by decide))), (kq (a := 2) (b := 6) eσ57 (fun q => absurd q.1 (by decide))), (kq (a := 3) (b := 8) eσ57 (fun q => absurd q.2 (by decide)))⟩)
      · first | have f59 := (noteqE (rfl : (σ.1 3 11).toInt = (σ.1 3 11).toInt) (show (0 : Int32).toInt = 0 from by decide)).mp c54 | skip
        try dsimp only
        exact hQ _ hσ (⟨rfl, rfl, rfl, rfl, rfl, rfl, rfl, rfl, rfl⟩)
  · have f60 := tB (σ.1 3 11)
    first | have f61 := (noteqE (rfl : (σ.1 3 11).toInt = (σ.1 3 11).toInt) (show (0 : Int32).toInt = 0 from by decide)).mp c1 | skip
    exact hQ _ hσ (⟨rfl, rfl, rfl, rfl, rfl, rfl, rfl, rfl, rfl⟩)
set_option maxHeartbeats 4000000 in
theorem sX2_beginString {N : Nat} (hN : 4294967400 ≤ N) {x1 : Int32} {Q : St → Prop} {σ0 σ : St} (hσ : K1 σ0 σ) (hQ : ∀ τ : St, K1 σ0 τ → (τ.1 3 6 = σ.1 3 6 ∧ τ.1 9 9 = σ.1 9 9 ∧ τ.1 9 10 = σ.1 9 10 ∧ τ.1 6 5 = σ.1 6 5 ∧ τ.1 7 4 = σ.1 7 4 ∧ τ.1 2 4 = σ.1 2 4 ∧ τ.1 2 5 = σ.1 2 5 ∧ τ.1 2 6 = σ.1 2 6 ∧ τ.1 3 8 = σ.1 3 8) → Q τ) : fX2_beginString N x1 Q σ := by
  unfold fX2_beginString
  have f1 := tB x1
  refine sX2_readByte hN hσ (fun r14 σ2 hσ2 kk13 p15 => ?_)
  obtain ⟨k3, k4, k5, k6, k7, k8, k9, k10, k11, k12⟩ := kk13
  refine ⟨fun c16 => ?_, fun c16 => ?_⟩
  · have f17 := tB (σ2.1 3 11)
    first | have f18 := (eqE (rfl : (σ2.1 3 11).toInt = (σ2.1 3 11).toInt) (show (0 : Int32).toInt = 0 from by decide)).mp c16 | skip
    refine ⟨fun c19 => ?_, fun c19 => ?_⟩
    · have f20 := tB r14
      first | have f21 := (eqE (rfl : r14.toInt = r14.toInt) (show (224 : Int32).toInt = 224 from by decide)).mp c19 | skip
      refine sX2_begin hN hσ2 (fun σ23 hσ23 kk33 => ?_)
      obtain ⟨k24, k25, k26, k27, k28, k29, k30, k31, k32⟩ := kk33
      exact hQ _ hσ23 (⟨k24.trans (k4), k25.trans (k5), k26.trans (k6), k27.trans (k7), k28.trans (k8), k29.trans (k9), k30.trans (k10), k31.trans (k11), k32.trans (k12)⟩)
    · have f34 := tB r14
      first | have f35 := (noteqE (rfl : r14.toInt = r14.toInt) (show (224 : Int32).toInt = 224 from by decide)).mp c19 | skip
      refine ⟨fun c36 => ?_, fun c36 => ?_⟩
      · first | have f38 := (eqE (rfl : r14.toInt = r14.toInt) (show (225 : Int32).toInt = 225 from by decide)).mp c36 | skip
        refine sX2_begin hN hσ2 (fun σ40 hσ40 kk50 => ?_)
        obtain ⟨k41, k42, k43, k44, k45, k46, k47, k48, k49⟩ := kk50
        exact hQ _ hσ40 (⟨k41.trans (k4), k42.trans (k5), k43.trans (k6), k44.trans (k7), k45.trans (k8), k46.trans (k9), k47.trans (k10), k48.trans (k11), k49.trans (k12)⟩)
      · first | have f52 := (noteqE (rfl : r14.toInt = r14.toInt) (show (225 : Int32).toInt = 225 from by decide)).mp c36 | skip
        refine ⟨fun c53 => ?_, fun c53 => ?_⟩
        · first | have f55 := (eqE (rfl : r14.toInt = r14.toInt) (show (226 : Int32).toInt = 226 from by decide)).mp c53 | skip
          refine sX2_begin hN hσ2 (fun σ57 hσ57 kk67 => ?_)
          obtain ⟨k58, k59, k60, k61, k62, k63, k64, k65, k66⟩ := kk67
          exact hQ _ hσ57 (⟨k58.trans (k4), k59.trans (k5), k60.trans (k6), k61.trans (k7), k62.trans (k8), k63.trans (k9), k64.trans (k10), k65.trans (k11), k66.trans (k12)⟩)
        · first | have f69 := (noteqE (rfl : r14.toInt = r14.toInt) (show (226 : Int32).toInt = 226 from by decide)).mp c53 | skip
          unfold fX2_fail
          refine ⟨fun c70 => ?_, fun c70 => ?_⟩
          · first | have f72 := (eqE (rfl : (σ2.1 3 11).toInt = (σ2.1 3 11).toInt) (show (0 : Int32).toInt = 0 from by decide)).mp c70 | skip
            intro σ73 eσ73
            have hσ73 : K1 σ0 σ73 := by rw [eσ73]; exact hσ2.u (Rg1.u_3_11 _) (fun q => absurd q.1 (by decide)) (fun q => absurd q.1 (by decide))
            try dsimp only
            exact hQ _ hσ73 (⟨(kq (a := 3) (b := 6) eσ73 (fun q => absurd q.2 (by decide))).trans (k4), (kq (a := 9) (b := 9) eσ73 (fun q => absurd q.1 (by decide))).trans (k5), (kq (a := 9) (b := 10) eσ73 (fun q => absurd q.1 (by decide))).trans (k6), (kq (a := 6) (b := 5) eσ73 (fun q => absurd q.1 (by decide))).trans (k7), (kq (a := 7) (b := 4) eσ73 (fun q => absurd q.1 (by decide))).trans (k8), (kq (a := 2) (b := 4) eσ73 (fun q => absurd q.1 (by decide))).trans (k9), (kq (a := 2) (b := 5) eσ73 (fun q => absurd q.1 (by decide))).trans (k10), (kq (a := 2) (b := 6) eσ73 (fun q => absurd q.1 (by decide))).trans (k11), (kq (a := 3) (b := 8) eσ73 (fun q => absurd q.2 (by decide))).trans (k12)⟩)
          · first | have f75 := (noteqE (rfl : (σ2.1 3 11).toInt = (σ2.1 3 11).toInt) (show (0 : Int32).toInt = 0 from by decide)).mp c70 | skip
            try dsimp only
            exact hQ _ hσ2 (⟨k4, k5, k6, k7, k8, k9, k10, k11, k12⟩)
  · have f76 := tB (σ2.1 3 11)
    first | have f77 := (noteqE (rfl : (σ2.1 3 11).toInt = (σ2.1 3 11).toInt) (show (0 : Int32).toInt = 0 from by decide)).mp c16 | skip
    exact hQ _ hσ2 (⟨k4, k5, k6, k7, k8, k9, k10, k11, k12⟩)
set_option maxHeartbeats 4000000 in
theorem sX2_nextByte {N : Nat} (hN : 4294967400 ≤ N) {Q : Int32 → St → Prop} {σ0 σ : St} (hσ : K1 σ0 σ) (hQ : ∀ (r : Int32) (τ : St), K1 σ0 τ → (τ.1 3 7 = σ.1 3 7 ∧ τ.1 3 6 = σ.1 3 6 ∧ τ.1 9 9 = σ.1 9 9 ∧ τ.1 9 10 = σ.1 9 10 ∧ τ.1 6 5 = σ.1 6 5 ∧ τ.1 7 4 = σ.1 7 4 ∧ τ.1 2 4 = σ.1 2 4 ∧ τ.1 2 5 = σ.1 2 5 ∧ τ.1 2 6 = σ.1 2 6 ∧ τ.1 3 8 = σ.1 3 8) → (0) ≤ r.toInt ∧ r.toInt ≤ 255 → Q r τ) : fX2_nextByte N  Q σ := by
  unfold fX2_nextByte
  have f1 := tB (σ.1 3 12)
  refine sX2_readByte hN hσ (fun r14 σ2 hσ2 kk13 p15 => ?_)
  obtain ⟨k3, k4, k5, k6, k7, k8, k9, k10, k11, k12⟩ := kk13
  intro v16 ev16
  intro σ17 eσ17
  have hσ17 : K1 σ0 σ17 := by rw [eσ17]; exact hσ2.u (Rg1.u_3_12 _) (fun q => absurd q.1 (by decide)) (fun q => absurd q.1 (by decide))
  have f18 := tB r14
  exact hQ _ _ hσ17 (⟨(kq (a := 3) (b := 7) eσ17 (fun q => absurd q.2 (by decide))).trans (k3), (kq (a := 3) (b := 6) eσ17 (fun q => absurd q.2 (by decide))).trans (k4), (kq (a := 9) (b := 9) eσ17 (fun q => absurd q.1 (by decide))).trans (k5), (kq (a := 9) (b := 10) eσ17 (fun q => absurd q.1 (by decide))).trans (k6), (kq (a := 6) (b := 5) eσ17 (fun q => absurd q.1 (by decide))).trans (k7), (kq (a := 7) (b := 4) eσ17 (fun q => absurd q.1 (by decide))).trans (k8), (kq (a := 2) (b := 4) eσ17 (fun q => absurd q.1 (by decide))).trans (k9), (kq (a := 2) (b := 5) eσ17 (fun q => absurd q.1 (by decide))).trans (k10), (kq (a := 2) (b := 6) eσ17 (fun q => absurd q.1 (by decide))).trans (k11), (kq (a := 3) (b := 8) eσ17 (fun q => absurd q.2 (by decide))).trans (k12)⟩) ⟨leP (rfl : r14.toInt = r14.toInt) (by omega), geP (rfl : r14.toInt = r14.toInt) (by omega)⟩
set_option maxHeartbeats 4000000 in
theorem sX3_hasFour {N : Nat} (hN : 4294967400 ≤ N) {x1 : Int32} {Q : Int32 → St → Prop} {σ0 σ : St} (hσ : K1 σ0 σ) (hQ : ∀ r : Int32, True → Q r σ) : fX3_hasFour N x1 Q σ := by
  unfold fX3_hasFour
  refine ⟨fun c1 => ?_, fun c1 => ?_⟩
  · have f2 := tB x1
    first | have f3 := (ltE (rfl : x1.toInt = x1.toInt) (show (0 : Int32).toInt = 0 from by decide)).mp c1 | skip
    exact hQ _ trivial
  · have f4 := tB x1
    first | have f5 := (notltE (rfl : x1.toInt = x1.toInt) (show (0 : Int32).toInt = 0 from by decide)).mp c1 | skip
    refine ⟨fun c6 => ?_, fun c6 => ?_⟩
    · first | have f8 := (ltE (show (4092 : Int32).toInt = 4092 from by decide) (rfl : x1.toInt = x1.toInt)).mp c6 | skip
      exact hQ _ trivial
    · first | have f10 := (notltE (show (4092 : Int32).toInt = 4092 from by decide) (rfl : x1.toInt = x1.toInt)).mp c6 | skip
      exact hQ _ trivial
set_option maxHeartbeats 4000000 in
theorem sX2_readFour {N : Nat} (hN : 4294967400 ≤ N) {x1 : Int32} {Q : Int32 → St → Prop} {σ0 σ : St} (hσ : K1 σ0 σ) (hQ : ∀ (r : Int32) (τ : St), K1 σ0 τ → (τ.1 3 7 = σ.1 3 7 ∧ τ.1 3 6 = σ.1 3 6 ∧ τ.1 9 9 = σ.1 9 9 ∧ τ.1 9 10 = σ.1 9 10 ∧ τ.1 6 5 = σ.1 6 5 ∧ τ.1 7 4 = σ.1 7 4 ∧ τ.1 2 4 = σ.1 2 4 ∧ τ.1 2 5 = σ.1 2 5 ∧ τ.1 2 6 = σ.1 2 6 ∧ τ.1 3 8 = σ.1 3 8) → True → Q r τ) : fX2_readFour N x1 Q σ := by
  unfold fX2_readFour
  unfold fX3_hasFour
  refine ⟨fun c1 => ?_, fun c1 => ?_⟩
  · have f2 := tB x1
    first | have f3 := (ltE (rfl : x1.toInt = x1.toInt) (show (0 : Int32).toInt = 0 from by decide)).mp c1 | skip
    try dsimp only
    refine ⟨fun c4 => ?_, fun c4 => ?_⟩
    · first | have f5 := (eqE (show (0 : Int32).toInt = 0 from by decide) (show (0 : Int32).toInt = 0 from by decide)).mp c4 | skip
      unfold fX2_fail
      refine ⟨fun c6 => ?_, fun c6 => ?_⟩
      · have f7 := tB (σ.1 3 11)
        first | have f8 := (eqE (rfl : (σ.1 3 11).toInt = (σ.1 3 11).toInt) (show (0 : Int32).toInt = 0 from by decide)).mp c6 | skip
        intro σ9 eσ9
        have hσ9 : K1 σ0 σ9 := by rw [eσ9]; exact hσ.u (Rg1.u_3_11 _) (fun q => absurd q.1 (by decide)) (fun q => absurd q.1 (by decide))
        try dsimp only
        exact hQ _ _ hσ9 (⟨(kq (a := 3) (b := 7) eσ9 (fun q => absurd q.2 (by decide))), (kq (a := 3) (b := 6) eσ9 (fun q => absurd q.2 (by decide))), (kq (a := 9) (b := 9) eσ9 (fun q => absurd q.1 (by decide))), (kq (a := 9) (b := 10) eσ9 (fun q => absurd q.1 (by decide))), (kq (a := 6) (b := 5) eσ9 (fun q => absurd q.1 (by decide))), (kq (a := 7) (b := 4) eσ9 (fun q => absurd q.1 (by decide))), (kq (a := 2) (b := 4) eσ9 (fun q => absurd q.1 (by decide))), (kq (a := 2) (b := 5) eσ9 (fun q => absurd q.1 (by decide))), (kq (a := 2) (b := 6) eσ9 (fun q => absurd q.1 (by decide))), (kq (a := 3) (b := 8) eσ9 (fun q => absurd q.2 (by decide)))⟩) trivial
      · have f10 := tB (σ.1 3 11)
        first | have f11 := (noteqE (rfl : (σ.1 3 11).toInt = (σ.1 3 11).toInt) (show (0 : Int32).toInt = 0 from by decide)).mp c6 | skip
        try dsimp only
        exact hQ _ _ hσ (⟨rfl, rfl, rfl, rfl, rfl, rfl, rfl, rfl, rfl, rfl⟩) trivial
    · first | have f12 := (noteqE (show (0 : Int32).toInt = 0 from by decide) (show (0 : Int32).toInt = 0 from by decide)).mp c4 | skip
      refine sX3_fourOf hN hσ (fun r27 p28 => ?_)
      exact hQ _ _ hσ (⟨rfl, rfl, rfl, rfl, rfl, rfl, rfl, rfl, rfl, rfl⟩) trivial
  · have f29 := tB x1
    first | have f30 := (notltE (rfl : x1.toInt = x1.toInt) (show (0 : Int32).toInt = 0 from by decide)).mp c1 | skip
    refine ⟨fun c31 => ?_, fun c31 => ?_⟩
    · first | have f33 := (ltE (show (4092 : Int32).toInt = 4092 from by decide) (rfl : x1.toInt = x1.toInt)).mp c31 | skip
      try dsimp only
      refine ⟨fun c34 => ?_, fun c34 => ?_⟩
      · first | have f35 := (eqE (show (0 : Int32).toInt = 0 from by decide) (show (0 : Int32).toInt = 0 from by decide)).mp c34 | skip
        unfold fX2_fail
        refine ⟨fun c36 => ?_, fun c36 => ?_⟩
        · have f37 := tB (σ.1 3 11)
          first | have f38 := (eqE (rfl : (σ.1 3 11).toInt = (σ.1 3 11).toInt) (show (0 : Int32).toInt = 0 from by decide)).mp c36 | skip
          intro σ39 eσ39
          have hσ39 : K1 σ0 σ39 := by rw [eσ39]; exact hσ.u (Rg1.u_3_11 _) (fun q => absurd q.1 (by decide)) (fun q => absurd q.1 (by decide))
          try dsimp only
          exact hQ _ _ hσ39 (⟨(kq (a := 3) (b := 7) eσ39 (fun q => absurd q.2 (by decide))), (kq (a := 3) (b := 6) eσ39 (fun q => absurd q.2 (by decide))), (kq (a := 9) (b := 9) eσ39 (fun q => absurd q.1 (by decide))), (kq (a := 9) (b := 10) eσ39 (fun q => absurd q.1 (by decide))), (kq (a := 6) (b := 5) eσ39 (fun q => absurd q.1 (by decide))), (kq (a := 7) (b := 4) eσ39 (fun q => absurd q.1 (by decide))), (kq (a := 2) (b := 4) eσ39 (fun q => absurd q.1 (by decide))), (kq (a := 2) (b := 5) eσ39 (fun q => absurd q.1 (by decide))), (kq (a := 2) (b := 6) eσ39 (fun q => absurd q.1 (by decide))), (kq (a := 3) (b := 8) eσ39 (fun q => absurd q.2 (by decide)))⟩) trivial
        · have f40 := tB (σ.1 3 11)
          first | have f41 := (noteqE (rfl : (σ.1 3 11).toInt = (σ.1 3 11).toInt) (show (0 : Int32).toInt = 0 from by decide)).mp c36 | skip
          try dsimp only
          exact hQ _ _ hσ (⟨rfl, rfl, rfl, rfl, rfl, rfl, rfl, rfl, rfl, rfl⟩) trivial
      · first | have f42 := (noteqE (show (0 : Int32).toInt = 0 from by decide) (show (0 : Int32).toInt = 0 from by decide)).mp c34 | skip
        refine sX3_fourOf hN hσ (fun r57 p58 => ?_)
        exact hQ _ _ hσ (⟨rfl, rfl, rfl, rfl, rfl, rfl, rfl, rfl, rfl, rfl⟩) trivial
    · first | have f60 := (notltE (show (4092 : Int32).toInt = 4092 from by decide) (rfl : x1.toInt = x1.toInt)).mp c31 | skip
      try dsimp only
      refine ⟨fun c61 => ?_, fun c61 => ?_⟩
      · first | have f62 := (eqE (show (1 : Int32).toInt = 1 from by decide) (show (0 : Int32).toInt = 0 from by decide)).mp c61 | skip
        unfold fX2_fail
        refine ⟨fun c63 => ?_, fun c63 => ?_⟩
        · have f64 := tB (σ.1 3 11)
          first | have f65 := (eqE (rfl : (σ.1 3 11).toInt = (σ.1 3 11).toInt) (show (0 : Int32).toInt = 0 from by decide)).mp c63 | skip
          intro σ66 eσ66
          have hσ66 : K1 σ0 σ66 := by rw [eσ66]; exact hσ.u (Rg1.u_3_11 _) (fun q => absurd q.1 (by decide)) (fun q => absurd q.1 (by decide))
          try dsimp only
          exact hQ _ _ hσ66 (⟨(kq (a := 3) (b := 7) eσ66 (fun q => absurd q.2 (by decide))), (kq (a := 3) (b := 6) eσ66 (fun q => absurd q.2 (by decide))), (kq (a := 9) (b := 9) eσ66 (fun q => absurd q.1 (by decide))), (kq (a := 9) (b := 10) eσ66 (fun q => absurd q.1 (by decide))), (kq (a := 6) (b := 5) eσ66 (fun q => absurd q.1 (by decide))), (kq (a := 7) (b := 4) eσ66 (fun q => absurd q.1 (by decide))), (kq (a := 2) (b := 4) eσ66 (fun q => absurd q.1 (by decide))), (kq (a := 2) (b := 5) eσ66 (fun q => absurd q.1 (by decide))), (kq (a := 2) (b := 6) eσ66 (fun q => absurd q.1 (by decide))), (kq (a := 3) (b := 8) eσ66 (fun q => absurd q.2 (by decide)))⟩) trivial
        · have f67 := tB (σ.1 3 11)
          first | have f68 := (noteqE (rfl : (σ.1 3 11).toInt = (σ.1 3 11).toInt) (show (0 : Int32).toInt = 0 from by decide)).mp c63 | skip
          try dsimp only
          exact hQ _ _ hσ (⟨rfl, rfl, rfl, rfl, rfl, rfl, rfl, rfl, rfl, rfl⟩) trivial
      · first | have f69 := (noteqE (show (1 : Int32).toInt = 1 from by decide) (show (0 : Int32).toInt = 0 from by decide)).mp c61 | skip
        refine sX3_fourOf hN hσ (fun r84 p85 => ?_)
        exact hQ _ _ hσ (⟨rfl, rfl, rfl, rfl, rfl, rfl, rfl, rfl, rfl, rfl⟩) trivial
set_option maxHeartbeats 4000000 in
theorem sX2_nextFour {N : Nat} (hN : 4294967400 ≤ N) {Q : Int32 → St → Prop} {σ0 σ : St} (hσ : K1 σ0 σ) (hQ : ∀ (r : Int32) (τ : St), K1 σ0 τ → (τ.1 3 7 = σ.1 3 7 ∧ τ.1 3 6 = σ.1 3 6 ∧ τ.1 9 9 = σ.1 9 9 ∧ τ.1 9 10 = σ.1 9 10 ∧ τ.1 6 5 = σ.1 6 5 ∧ τ.1 7 4 = σ.1 7 4 ∧ τ.1 2 4 = σ.1 2 4 ∧ τ.1 2 5 = σ.1 2 5 ∧ τ.1 2 6 = σ.1 2 6 ∧ τ.1 3 8 = σ.1 3 8) → True → Q r τ) : fX2_nextFour N  Q σ := by
  unfold fX2_nextFour
  have f1 := tB (σ.1 3 12)
  refine sX2_readFour hN hσ (fun r14 σ2 hσ2 kk13 p15 => ?_)
  obtain ⟨k3, k4, k5, k6, k7, k8, k9, k10, k11, k12⟩ := kk13
  intro v16 ev16
  intro σ17 eσ17
  have hσ17 : K1 σ0 σ17 := by rw [eσ17]; exact hσ2.u (Rg1.u_3_12 _) (fun q => absurd q.1 (by decide)) (fun q => absurd q.1 (by decide))
  exact hQ _ _ hσ17 (⟨(kq (a := 3) (b := 7) eσ17 (fun q => absurd q.2 (by decide))).trans (k3), (kq (a := 3) (b := 6) eσ17 (fun q => absurd q.2 (by decide))).trans (k4), (kq (a := 9) (b := 9) eσ17 (fun q => absurd q.1 (by decide))).trans (k5), (kq (a := 9) (b := 10) eσ17 (fun q => absurd q.1 (by decide))).trans (k6), (kq (a := 6) (b := 5) eσ17 (fun q => absurd q.1 (by decide))).trans (k7), (kq (a := 7) (b := 4) eσ17 (fun q => absurd q.1 (by decide))).trans (k8), (kq (a := 2) (b := 4) eσ17 (fun q => absurd q.1 (by decide))).trans (k9), (kq (a := 2) (b := 5) eσ17 (fun q => absurd q.1 (by decide))).trans (k10), (kq (a := 2) (b := 6) eσ17 (fun q => absurd q.1 (by decide))).trans (k11), (kq (a := 3) (b := 8) eσ17 (fun q => absurd q.2 (by decide))).trans (k12)⟩) trivial
set_option maxHeartbeats 4000000 in
theorem sX1_hasLocal {N : Nat} (hN : 4294967400 ≤ N) {k0 : Nat} {x1 : Int32} (hk0 : jobK k0) {Q : Int32 → St → Prop} {σ0 σ : St} (hσ : K1 σ0 σ) (hQ : ∀ r : Int32, True → Q r σ) : fX1_hasLocal N k0 x1 Q σ := by
  unfold fX1_hasLocal
  have kbhk0 := jobK_b hk0
  refine ⟨fun c1 => ?_, fun c1 => ?_⟩
  · have f2 := tB x1
    first | have f3 := (ltE (rfl : x1.toInt = x1.toInt) (show (0 : Int32).toInt = 0 from by decide)).mp c1 | skip
    exact hQ _ trivial
  · have f4 := tB x1
    first | have f5 := (notltE (rfl : x1.toInt = x1.toInt) (show (0 : Int32).toInt = 0 from by decide)).mp c1 | skip
    refine ⟨fun c6 => ?_, fun c6 => ?_⟩
    · have f7 := tB (σ.1 k0 4)
      first | have f9 := (leE (rfl : (σ.1 k0 4).toInt = (σ.1 k0 4).toInt) (rfl : x1.toInt = x1.toInt)).mp c6 | skip
      exact hQ _ trivial
    · have f10 := tB (σ.1 k0 4)
      first | have f12 := (notleE (rfl : (σ.1 k0 4).toInt = (σ.1 k0 4).toInt) (rfl : x1.toInt = x1.toInt)).mp c6 | skip
      refine ⟨fun c13 => ?_, fun c13 => ?_⟩
      · first | have f15 := (leE (show (8 : Int32).toInt = 8 from by decide) (rfl : x1.toInt = x1.toInt)).mp c13 | skip
        exact hQ _ trivial
      · first | have f17 := (notleE (show (8 : Int32).toInt = 8 from by decide) (rfl : x1.toInt = x1.toInt)).mp c13 | skip
        exact hQ _ trivial
set_option maxHeartbeats 4000000 in
theorem sX2_localOf {N : Nat} (hN : 4294967400 ≤ N) {k1 : Nat} {x2 : Int32} (hk1 : jobK k1) {Q : Int32 → St → Prop} {σ0 σ : St} (hσ : K1 σ0 σ) (hQ : ∀ (r : Int32) (τ : St), K1 σ0 τ → (τ.1 3 7 = σ.1 3 7 ∧ τ.1 3 6 = σ.1 3 6 ∧ τ.1 9 9 = σ.1 9 9 ∧ τ.1 9 10 = σ.1 9 10 ∧ τ.1 6 5 = σ.1 6 5 ∧ τ.1 7 4 = σ.1 7 4 ∧ τ.1 2 4 = σ.1 2 4 ∧ τ.1 2 5 = σ.1 2 5 ∧ τ.1 2 6 = σ.1 2 6 ∧ τ.1 3 8 = σ.1 3 8) → True → Q r τ) : fX2_localOf N k1 x2 Q σ := by
  unfold fX2_localOf
  have kbhk1 := jobK_b hk1
  unfold fX1_hasLocal
  refine ⟨fun c1 => ?_, fun c1 => ?_⟩
  · have f2 := tB x2
    first | have f3 := (ltE (rfl : x2.toInt = x2.toInt) (show (0 : Int32).toInt = 0 from by decide)).mp c1 | skip
    try dsimp only
    refine ⟨fun c4 => ?_, fun c4 => ?_⟩
    · first | have f5 := (eqE (show (0 : Int32).toInt = 0 from by decide) (show (0 : Int32).toInt = 0 from by decide)).mp c4 | skip
      unfold fX2_fail
      refine ⟨fun c6 => ?_, fun c6 => ?_⟩
      · have f7 := tB (σ.1 3 11)
        first | have f8 := (eqE (rfl : (σ.1 3 11).toInt = (σ.1 3 11).toInt) (show (0 : Int32).toInt = 0 from by decide)).mp c6 | skip
        intro σ9 eσ9
        have hσ9 : K1 σ0 σ9 := by rw [eσ9]; exact hσ.u (Rg1.u_3_11 _) (fun q => absurd q.1 (by decide)) (fun q => absurd q.1 (by decide))
        try dsimp only
        exact hQ _ _ hσ9 (⟨(kq (a := 3) (b := 7) eσ9 (fun q => absurd q.2 (by decide))), (kq (a := 3) (b := 6) eσ9 (fun q => absurd q.2 (by decide))), (kq (a := 9) (b := 9) eσ9 (fun q => absurd q.1 (by decide))), (kq (a := 9) (b := 10) eσ9 (fun q => absurd q.1 (by decide))), (kq (a := 6) (b := 5) eσ9 (fun q => absurd q.1 (by decide))), (kq (a := 7) (b := 4) eσ9 (fun q => absurd q.1 (by decide))), (kq (a := 2) (b := 4) eσ9 (fun q => absurd q.1 (by decide))), (kq (a := 2) (b := 5) eσ9 (fun q => absurd q.1 (by decide))), (kq (a := 2) (b := 6) eσ9 (fun q => absurd q.1 (by decide))), (kq (a := 3) (b := 8) eσ9 (fun q => absurd q.2 (by decide)))⟩) trivial
      · have f10 := tB (σ.1 3 11)
        first | have f11 := (noteqE (rfl : (σ.1 3 11).toInt = (σ.1 3 11).toInt) (show (0 : Int32).toInt = 0 from by decide)).mp c6 | skip
        try dsimp only
        exact hQ _ _ hσ (⟨rfl, rfl, rfl, rfl, rfl, rfl, rfl, rfl, rfl, rfl⟩) trivial
    · first | have f12 := (noteqE (show (0 : Int32).toInt = 0 from by decide) (show (0 : Int32).toInt = 0 from by decide)).mp c4 | skip
      have g14 : vp_in x2 8 := inE (rfl : x2.toInt = x2.toInt) (by omega) (by omega)
      refine ⟨g14, ?_⟩
      exact hQ _ _ hσ (⟨rfl, rfl, rfl, rfl, rfl, rfl, rfl, rfl, rfl, rfl⟩) trivial
  · have f15 := tB x2
    first | have f16 := (notltE (rfl : x2.toInt = x2.toInt) (show (0 : Int32).toInt = 0 from by decide)).mp c1 | skip
    refine ⟨fun c17 => ?_, fun c17 => ?_⟩
    · have f18 := tB (σ.1 k1 4)
      first | have f20 := (leE (rfl : (σ.1 k1 4).toInt = (σ.1 k1 4).toInt) (rfl : x2.toInt = x2.toInt)).mp c17 | skip
      try dsimp only
      refine ⟨fun c21 => ?_, fun c21 => ?_⟩
      · first | have f22 := (eqE (show (0 : Int32).toInt = 0 from by decide) (show (0 : Int32).toInt = 0 from by decide)).mp c21 | skip
        unfold fX2_fail
        refine ⟨fun c23 => ?_, fun c23 => ?_⟩
        · have f24 := tB (σ.1 3 11)
          first | have f25 := (eqE (rfl : (σ.1 3 11).toInt = (σ.1 3 11).toInt) (show (0 : Int32).toInt = 0 from by decide)).mp c23 | skip
          intro σ26 eσ26
          have hσ26 : K1 σ0 σ26 := by rw [eσ26]; exact hσ.u (Rg1.u_3_11 _) (fun q => absurd q.1 (by decide)) (fun q => absurd q.1 (by decide))
          try dsimp only
          exact hQ _ _ hσ26 (⟨(kq (a := 3) (b := 7) eσ26 (fun q => absurd q.2 (by decide))), (kq (a := 3) (b := 6) eσ26 (fun q => absurd q.2 (by decide))), (kq (a := 9) (b := 9) eσ26 (fun q => absurd q.1 (by decide))), (kq (a := 9) (b := 10) eσ26 (fun q => absurd q.1 (by decide))), (kq (a := 6) (b := 5) eσ26 (fun q => absurd q.1 (by decide))), (kq (a := 7) (b := 4) eσ26 (fun q => absurd q.1 (by decide))), (kq (a := 2) (b := 4) eσ26 (fun q => absurd q.1 (by decide))), (kq (a := 2) (b := 5) eσ26 (fun q => absurd q.1 (by decide))), (kq (a := 2) (b := 6) eσ26 (fun q => absurd q.1 (by decide))), (kq (a := 3) (b := 8) eσ26 (fun q => absurd q.2 (by decide)))⟩) trivial
        · have f27 := tB (σ.1 3 11)
          first | have f28 := (noteqE (rfl : (σ.1 3 11).toInt = (σ.1 3 11).toInt) (show (0 : Int32).toInt = 0 from by decide)).mp c23 | skip
          try dsimp only
          exact hQ _ _ hσ (⟨rfl, rfl, rfl, rfl, rfl, rfl, rfl, rfl, rfl, rfl⟩) trivial
      · first | have f29 := (noteqE (show (0 : Int32).toInt = 0 from by decide) (show (0 : Int32).toInt = 0 from by decide)).mp c21 | skip
        have g31 : vp_in x2 8 := inE (rfl : x2.toInt = x2.toInt) (by omega) (by omega)
        refine ⟨g31, ?_⟩
        exact hQ _ _ hσ (⟨rfl, rfl, rfl, rfl, rfl, rfl, rfl, rfl, rfl, rfl⟩) trivial
    · have f32 := tB (σ.1 k1 4)
      first | have f34 := (notleE (rfl : (σ.1 k1 4).toInt = (σ.1 k1 4).toInt) (rfl : x2.toInt = x2.toInt)).mp c17 | skip
      refine ⟨fun c35 => ?_, fun c35 => ?_⟩
      · first | have f37 := (leE (show (8 : Int32).toInt = 8 from by decide) (rfl : x2.toInt = x2.toInt)).mp c35 | skip
        try dsimp only
        refine ⟨fun c38 => ?_, fun c38 => ?_⟩
        · first | have f39 := (eqE (show (0 : Int32).toInt = 0 from by decide) (show (0 : Int32).toInt = 0 from by decide)).mp c38 | skip
          unfold fX2_fail
          refine ⟨fun c40 => ?_, fun c40 => ?_⟩
          · have f41 := tB (σ.1 3 11)
            first | have f42 := (eqE (rfl : (σ.1 3 11).toInt = (σ.1 3 11).toInt) (show (0 : Int32).toInt = 0 from by decide)).mp c40 | skip
            intro σ43 eσ43
            have hσ43 : K1 σ0 σ43 := by rw [eσ43]; exact hσ.u (Rg1.u_3_11 _) (fun q => absurd q.1 (by decide)) (fun q => absurd q.1 (by decide))
            try dsimp only
            exact hQ _ _ hσ43 (⟨(kq (a := 3) (b := 7) eσ43 (fun q => absurd q.2 (by decide))), (kq (a := 3) (b := 6) eσ43 (fun q => absurd q.2 (by decide))), (kq (a := 9) (b := 9) eσ43 (fun q => absurd q.1 (by decide))), (kq (a := 9) (b := 10) eσ43 (fun q => absurd q.1 (by decide))), (kq (a := 6) (b := 5) eσ43 (fun q => absurd q.1 (by decide))), (kq (a := 7) (b := 4) eσ43 (fun q => absurd q.1 (by decide))), (kq (a := 2) (b := 4) eσ43 (fun q => absurd q.1 (by decide))), (kq (a := 2) (b := 5) eσ43 (fun q => absurd q.1 (by decide))), (kq (a := 2) (b := 6) eσ43 (fun q => absurd q.1 (by decide))), (kq (a := 3) (b := 8) eσ43 (fun q => absurd q.2 (by decide)))⟩) trivial
          · have f44 := tB (σ.1 3 11)
            first | have f45 := (noteqE (rfl : (σ.1 3 11).toInt = (σ.1 3 11).toInt) (show (0 : Int32).toInt = 0 from by decide)).mp c40 | skip
            try dsimp only
            exact hQ _ _ hσ (⟨rfl, rfl, rfl, rfl, rfl, rfl, rfl, rfl, rfl, rfl⟩) trivial
        · first | have f46 := (noteqE (show (0 : Int32).toInt = 0 from by decide) (show (0 : Int32).toInt = 0 from by decide)).mp c38 | skip
          have g48 : vp_in x2 8 := inE (rfl : x2.toInt = x2.toInt) (by omega) (by omega)
          refine ⟨g48, ?_⟩
          exact hQ _ _ hσ (⟨rfl, rfl, rfl, rfl, rfl, rfl, rfl, rfl, rfl, rfl⟩) trivial
      · first | have f50 := (notleE (show (8 : Int32).toInt = 8 from by decide) (rfl : x2.toInt = x2.toInt)).mp c35 | skip
        try dsimp only
        refine ⟨fun c51 => ?_, fun c51 => ?_⟩
        · first | have f52 := (eqE (show (1 : Int32).toInt = 1 from by decide) (show (0 : Int32).toInt = 0 from by decide)).mp c51 | skip
          unfold fX2_fail
          refine ⟨fun c53 => ?_, fun c53 => ?_⟩
          · have f54 := tB (σ.1 3 11)
            first | have f55 := (eqE (rfl : (σ.1 3 11).toInt = (σ.1 3 11).toInt) (show (0 : Int32).toInt = 0 from by decide)).mp c53 | skip
            intro σ56 eσ56
            have hσ56 : K1 σ0 σ56 := by rw [eσ56]; exact hσ.u (Rg1.u_3_11 _) (fun q => absurd q.1 (by decide)) (fun q => absurd q.1 (by decide))
            try dsimp only
            exact hQ _ _ hσ56 (⟨(kq (a := 3) (b := 7) eσ56 (fun q => absurd q.2 (by decide))), (kq (a := 3) (b := 6) eσ56 (fun q => absurd q.2 (by decide))), (kq (a := 9) (b := 9) eσ56 (fun q => absurd q.1 (by decide))), (kq (a := 9) (b := 10) eσ56 (fun q => absurd q.1 (by decide))), (kq (a := 6) (b := 5) eσ56 (fun q => absurd q.1 (by decide))), (kq (a := 7) (b := 4) eσ56 (fun q => absurd q.1 (by decide))), (kq (a := 2) (b := 4) eσ56 (fun q => absurd q.1 (by decide))), (kq (a := 2) (b := 5) eσ56 (fun q => absurd q.1 (by decide))), (kq (a := 2) (b := 6) eσ56 (fun q => absurd q.1 (by decide))), (kq (a := 3) (b := 8) eσ56 (fun q => absurd q.2 (by decide)))⟩) trivial
          · have f57 := tB (σ.1 3 11)
            first | have f58 := (noteqE (rfl : (σ.1 3 11).toInt = (σ.1 3 11).toInt) (show (0 : Int32).toInt = 0 from by decide)).mp c53 | skip
            try dsimp only
            exact hQ _ _ hσ (⟨rfl, rfl, rfl, rfl, rfl, rfl, rfl, rfl, rfl, rfl⟩) trivial
        · first | have f59 := (noteqE (show (1 : Int32).toInt = 1 from by decide) (show (0 : Int32).toInt = 0 from by decide)).mp c51 | skip
          have g61 : vp_in x2 8 := inE (rfl : x2.toInt = x2.toInt) (by omega) (by omega)
          refine ⟨g61, ?_⟩
          exact hQ _ _ hσ (⟨rfl, rfl, rfl, rfl, rfl, rfl, rfl, rfl, rfl, rfl⟩) trivial
set_option maxHeartbeats 4000000 in
theorem sX2_nextValue {N : Nat} (hN : 4294967400 ≤ N) {k1 : Nat} (hk1 : jobK k1) {Q : Int32 → St → Prop} {σ0 σ : St} (hσ : K1 σ0 σ) (hQ : ∀ (r : Int32) (τ : St), K1 σ0 τ → (τ.1 3 7 = σ.1 3 7 ∧ τ.1 3 6 = σ.1 3 6 ∧ τ.1 9 9 = σ.1 9 9 ∧ τ.1 9 10 = σ.1 9 10 ∧ τ.1 6 5 = σ.1 6 5 ∧ τ.1 7 4 = σ.1 7 4 ∧ τ.1 2 4 = σ.1 2 4 ∧ τ.1 2 5 = σ.1 2 5 ∧ τ.1 2 6 = σ.1 2 6 ∧ τ.1 3 8 = σ.1 3 8) → True → Q r τ) : fX2_nextValue N k1 Q σ := by
  unfold fX2_nextValue
  have kbhk1 := jobK_b hk1
  refine sX2_nextByte hN hσ (fun r13 σ1 hσ1 kk12 p14 => ?_)
  obtain ⟨k2, k3, k4, k5, k6, k7, k8, k9, k10, k11⟩ := kk12
  refine ⟨fun c15 => ?_, fun c15 => ?_⟩
  · have f16 := tB r13
    first | have f17 := (eqE (rfl : r13.toInt = r13.toInt) (show (0 : Int32).toInt = 0 from by decide)).mp c15 | skip
    exact hQ _ _ hσ1 (⟨k2, k3, k4, k5, k6, k7, k8, k9, k10, k11⟩) trivial
  · have f18 := tB r13
    first | have f19 := (noteqE (rfl : r13.toInt = r13.toInt) (show (0 : Int32).toInt = 0 from by decide)).mp c15 | skip
    refine ⟨fun c20 => ?_, fun c20 => ?_⟩
    · first | have f22 := (eqE (rfl : r13.toInt = r13.toInt) (show (1 : Int32).toInt = 1 from by decide)).mp c20 | skip
      refine sX2_nextByte hN hσ1 (fun r35 σ23 hσ23 kk34 p36 => ?_)
      obtain ⟨k24, k25, k26, k27, k28, k29, k30, k31, k32, k33⟩ := kk34
      exact hQ _ _ hσ23 (⟨k24.trans (k2), k25.trans (k3), k26.trans (k4), k27.trans (k5), k28.trans (k6), k29.trans (k7), k30.trans (k8), k31.trans (k9), k32.trans (k10), k33.trans (k11)⟩) trivial
    · first | have f38 := (noteqE (rfl : r13.toInt = r13.toInt) (show (1 : Int32).toInt = 1 from by decide)).mp c20 | skip
      refine ⟨fun c39 => ?_, fun c39 => ?_⟩
      · first | have f41 := (eqE (rfl : r13.toInt = r13.toInt) (show (2 : Int32).toInt = 2 from by decide)).mp c39 | skip
        refine sX2_nextFour hN hσ1 (fun r54 σ42 hσ42 kk53 p55 => ?_)
        obtain ⟨k43, k44, k45, k46, k47, k48, k49, k50, k51, k52⟩ := kk53
        exact hQ _ _ hσ42 (⟨k43.trans (k2), k44.trans (k3), k45.trans (k4), k46.trans (k5), k47.trans (k6), k48.trans (k7), k49.trans (k8), k50.trans (k9), k51.trans (k10), k52.trans (k11)⟩) trivial
      · first | have f57 := (noteqE (rfl : r13.toInt = r13.toInt) (show (2 : Int32).toInt = 2 from by decide)).mp c39 | skip
        refine ⟨fun c58 => ?_, fun c58 => ?_⟩
        · first | have f60 := (eqE (rfl : r13.toInt = r13.toInt) (show (3 : Int32).toInt = 3 from by decide)).mp c58 | skip
          refine sX2_nextByte hN hσ1 (fun r73 σ61 hσ61 kk72 p74 => ?_)
          obtain ⟨k62, k63, k64, k65, k66, k67, k68, k69, k70, k71⟩ := kk72
          have f75 := tB r73
          refine sX2_localOf hN hk1 hσ61 (fun r88 σ76 hσ76 kk87 p89 => ?_)
          obtain ⟨k77, k78, k79, k80, k81, k82, k83, k84, k85, k86⟩ := kk87
          exact hQ _ _ hσ76 (⟨k77.trans (k62.trans (k2)), k78.trans (k63.trans (k3)), k79.trans (k64.trans (k4)), k80.trans (k65.trans (k5)), k81.trans (k66.trans (k6)), k82.trans (k67.trans (k7)), k83.trans (k68.trans (k8)), k84.trans (k69.trans (k9)), k85.trans (k70.trans (k10)), k86.trans (k71.trans (k11))⟩) trivial
        · first | have f91 := (noteqE (rfl : r13.toInt = r13.toInt) (show (3 : Int32).toInt = 3 from by decide)).mp c58 | skip
          unfold fX2_fail
          refine ⟨fun c92 => ?_, fun c92 => ?_⟩
          · have f93 := tB (σ1.1 3 11)
            first | have f94 := (eqE (rfl : (σ1.1 3 11).toInt = (σ1.1 3 11).toInt) (show (0 : Int32).toInt = 0 from by decide)).mp c92 | skip
            intro σ95 eσ95
            have hσ95 : K1 σ0 σ95 := by rw [eσ95]; exact hσ1.u (Rg1.u_3_11 _) (fun q => absurd q.1 (by decide)) (fun q => absurd q.1 (by decide))
            try dsimp only
            exact hQ _ _ hσ95 (⟨(kq (a := 3) (b := 7) eσ95 (fun q => absurd q.2 (by decide))).trans (k2), (kq (a := 3) (b := 6) eσ95 (fun q => absurd q.2 (by decide))).trans (k3), (kq (a := 9) (b := 9) eσ95 (fun q => absurd q.1 (by decide))).trans (k4), (kq (a := 9) (b := 10) eσ95 (fun q => absurd q.1 (by decide))).trans (k5), (kq (a := 6) (b := 5) eσ95 (fun q => absurd q.1 (by decide))).trans (k6), (kq (a := 7) (b := 4) eσ95 (fun q => absurd q.1 (by decide))).trans (k7), (kq (a := 2) (b := 4) eσ95 (fun q => absurd q.1 (by decide))).trans (k8), (kq (a := 2) (b := 5) eσ95 (fun q => absurd q.1 (by decide))).trans (k9), (kq (a := 2) (b := 6) eσ95 (fun q => absurd q.1 (by decide))).trans (k10), (kq (a := 3) (b := 8) eσ95 (fun q => absurd q.2 (by decide))).trans (k11)⟩) trivial
          · have f96 := tB (σ1.1 3 11)
            first | have f97 := (noteqE (rfl : (σ1.1 3 11).toInt = (σ1.1 3 11).toInt) (show (0 : Int32).toInt = 0 from by decide)).mp c92 | skip
            try dsimp only
            exact hQ _ _ hσ1 (⟨k2, k3, k4, k5, k6, k7, k8, k9, k10, k11⟩) trivial
set_option maxHeartbeats 4000000 in
theorem sX2_nextTarget {N : Nat} (hN : 4294967400 ≤ N) {k1 : Nat} (hk1 : jobK k1) {Q : Int32 → St → Prop} {σ0 σ : St} (hσ : K1 σ0 σ) (hQ : ∀ (r : Int32) (τ : St), K1 σ0 τ → (τ.1 3 7 = σ.1 3 7 ∧ τ.1 3 6 = σ.1 3 6 ∧ τ.1 9 9 = σ.1 9 9 ∧ τ.1 9 10 = σ.1 9 10 ∧ τ.1 6 5 = σ.1 6 5 ∧ τ.1 7 4 = σ.1 7 4 ∧ τ.1 2 4 = σ.1 2 4 ∧ τ.1 2 5 = σ.1 2 5 ∧ τ.1 2 6 = σ.1 2 6 ∧ τ.1 3 8 = σ.1 3 8) → True → Q r τ) : fX2_nextTarget N k1 Q σ := by
  unfold fX2_nextTarget
  have kbhk1 := jobK_b hk1
  refine sX2_nextByte hN hσ (fun r13 σ1 hσ1 kk12 p14 => ?_)
  obtain ⟨k2, k3, k4, k5, k6, k7, k8, k9, k10, k11⟩ := kk12
  refine ⟨fun c15 => ?_, fun c15 => ?_⟩
  · have f16 := tB r13
    first | have f17 := (eqE (rfl : r13.toInt = r13.toInt) (show (255 : Int32).toInt = 255 from by decide)).mp c15 | skip
    exact hQ _ _ hσ1 (⟨k2, k3, k4, k5, k6, k7, k8, k9, k10, k11⟩) trivial
  · have f18 := tB r13
    first | have f19 := (noteqE (rfl : r13.toInt = r13.toInt) (show (255 : Int32).toInt = 255 from by decide)).mp c15 | skip
    unfold fX1_hasLocal
    refine ⟨fun c20 => ?_, fun c20 => ?_⟩
    · first | have f22 := (ltE (rfl : r13.toInt = r13.toInt) (show (0 : Int32).toInt = 0 from by decide)).mp c20 | skip
      try dsimp only
      refine ⟨fun c23 => ?_, fun c23 => ?_⟩
      · first | have f24 := (eqE (show (0 : Int32).toInt = 0 from by decide) (show (0 : Int32).toInt = 0 from by decide)).mp c23 | skip
        unfold fX2_fail
        refine ⟨fun c25 => ?_, fun c25 => ?_⟩
        · have f26 := tB (σ1.1 3 11)
          first | have f27 := (eqE (rfl : (σ1.1 3 11).toInt = (σ1.1 3 11).toInt) (show (0 : Int32).toInt = 0 from by decide)).mp c25 | skip
          intro σ28 eσ28
          have hσ28 : K1 σ0 σ28 := by rw [eσ28]; exact hσ1.u (Rg1.u_3_11 _) (fun q => absurd q.1 (by decide)) (fun q => absurd q.1 (by decide))
          try dsimp only
          exact hQ _ _ hσ28 (⟨(kq (a := 3) (b := 7) eσ28 (fun q => absurd q.2 (by decide))).trans (k2), (kq (a := 3) (b := 6) eσ28 (fun q => absurd q.2 (by decide))).trans (k3), (kq (a := 9) (b := 9) eσ28 (fun q => absurd q.1 (by decide))).trans (k4), (kq (a := 9) (b := 10) eσ28 (fun q => absurd q.1 (by decide))).trans (k5), (kq (a := 6) (b := 5) eσ28 (fun q => absurd q.1 (by decide))).trans (k6), (kq (a := 7) (b := 4) eσ28 (fun q => absurd q.1 (by decide))).trans (k7), (kq (a := 2) (b := 4) eσ28 (fun q => absurd q.1 (by decide))).trans (k8), (kq (a := 2) (b := 5) eσ28 (fun q => absurd q.1 (by decide))).trans (k9), (kq (a := 2) (b := 6) eσ28 (fun q => absurd q.1 (by decide))).trans (k10), (kq (a := 3) (b := 8) eσ28 (fun q => absurd q.2 (by decide))).trans (k11)⟩) trivial
        · have f29 := tB (σ1.1 3 11)
          first | have f30 := (noteqE (rfl : (σ1.1 3 11).toInt = (σ1.1 3 11).toInt) (show (0 : Int32).toInt = 0 from by decide)).mp c25 | skip
          try dsimp only
          exact hQ _ _ hσ1 (⟨k2, k3, k4, k5, k6, k7, k8, k9, k10, k11⟩) trivial
      · first | have f31 := (noteqE (show (0 : Int32).toInt = 0 from by decide) (show (0 : Int32).toInt = 0 from by decide)).mp c23 | skip
        exact hQ _ _ hσ1 (⟨k2, k3, k4, k5, k6, k7, k8, k9, k10, k11⟩) trivial
    · first | have f33 := (notltE (rfl : r13.toInt = r13.toInt) (show (0 : Int32).toInt = 0 from by decide)).mp c20 | skip
      refine ⟨fun c34 => ?_, fun c34 => ?_⟩
      · have f35 := tB (σ1.1 k1 4)
        first | have f37 := (leE (rfl : (σ1.1 k1 4).toInt = (σ1.1 k1 4).toInt) (rfl : r13.toInt = r13.toInt)).mp c34 | skip
        try dsimp only
        refine ⟨fun c38 => ?_, fun c38 => ?_⟩
        · first | have f39 := (eqE (show (0 : Int32).toInt = 0 from by decide) (show (0 : Int32).toInt = 0 from by decide)).mp c38 | skip
          unfold fX2_fail
          refine ⟨fun c40 => ?_, fun c40 => ?_⟩
          · have f41 := tB (σ1.1 3 11)
            first | have f42 := (eqE (rfl : (σ1.1 3 11).toInt = (σ1.1 3 11).toInt) (show (0 : Int32).toInt = 0 from by decide)).mp c40 | skip
            intro σ43 eσ43
            have hσ43 : K1 σ0 σ43 := by rw [eσ43]; exact hσ1.u (Rg1.u_3_11 _) (fun q => absurd q.1 (by decide)) (fun q => absurd q.1 (by decide))
            try dsimp only
            exact hQ _ _ hσ43 (⟨(kq (a := 3) (b := 7) eσ43 (fun q => absurd q.2 (by decide))).trans (k2), (kq (a := 3) (b := 6) eσ43 (fun q => absurd q.2 (by decide))).trans (k3), (kq (a := 9) (b := 9) eσ43 (fun q => absurd q.1 (by decide))).trans (k4), (kq (a := 9) (b := 10) eσ43 (fun q => absurd q.1 (by decide))).trans (k5), (kq (a := 6) (b := 5) eσ43 (fun q => absurd q.1 (by decide))).trans (k6), (kq (a := 7) (b := 4) eσ43 (fun q => absurd q.1 (by decide))).trans (k7), (kq (a := 2) (b := 4) eσ43 (fun q => absurd q.1 (by decide))).trans (k8), (kq (a := 2) (b := 5) eσ43 (fun q => absurd q.1 (by decide))).trans (k9), (kq (a := 2) (b := 6) eσ43 (fun q => absurd q.1 (by decide))).trans (k10), (kq (a := 3) (b := 8) eσ43 (fun q => absurd q.2 (by decide))).trans (k11)⟩) trivial
          · have f44 := tB (σ1.1 3 11)
            first | have f45 := (noteqE (rfl : (σ1.1 3 11).toInt = (σ1.1 3 11).toInt) (show (0 : Int32).toInt = 0 from by decide)).mp c40 | skip
            try dsimp only
            exact hQ _ _ hσ1 (⟨k2, k3, k4, k5, k6, k7, k8, k9, k10, k11⟩) trivial
        · first | have f46 := (noteqE (show (0 : Int32).toInt = 0 from by decide) (show (0 : Int32).toInt = 0 from by decide)).mp c38 | skip
          exact hQ _ _ hσ1 (⟨k2, k3, k4, k5, k6, k7, k8, k9, k10, k11⟩) trivial
      · have f47 := tB (σ1.1 k1 4)
        first | have f49 := (notleE (rfl : (σ1.1 k1 4).toInt = (σ1.1 k1 4).toInt) (rfl : r13.toInt = r13.toInt)).mp c34 | skip
        refine ⟨fun c50 => ?_, fun c50 => ?_⟩
        · first | have f52 := (leE (show (8 : Int32).toInt = 8 from by decide) (rfl : r13.toInt = r13.toInt)).mp c50 | skip
          try dsimp only
          refine ⟨fun c53 => ?_, fun c53 => ?_⟩
          · first | have f54 := (eqE (show (0 : Int32).toInt = 0 from by decide) (show (0 : Int32).toInt = 0 from by decide)).mp c53 | skip
            unfold fX2_fail
            refine ⟨fun c55 => ?_, fun c55 => ?_⟩
            · have f56 := tB (σ1.1 3 11)
              first | have f57 := (eqE (rfl : (σ1.1 3 11).toInt = (σ1.1 3 11).toInt) (show (0 : Int32).toInt = 0 from by decide)).mp c55 | skip
              intro σ58 eσ58
              have hσ58 : K1 σ0 σ58 := by rw [eσ58]; exact hσ1.u (Rg1.u_3_11 _) (fun q => absurd q.1 (by decide)) (fun q => absurd q.1 (by decide))
              try dsimp only
              exact hQ _ _ hσ58 (⟨(kq (a := 3) (b := 7) eσ58 (fun q => absurd q.2 (by decide))).trans (k2), (kq (a := 3) (b := 6) eσ58 (fun q => absurd q.2 (by decide))).trans (k3), (kq (a := 9) (b := 9) eσ58 (fun q => absurd q.1 (by decide))).trans (k4), (kq (a := 9) (b := 10) eσ58 (fun q => absurd q.1 (by decide))).trans (k5), (kq (a := 6) (b := 5) eσ58 (fun q => absurd q.1 (by decide))).trans (k6), (kq (a := 7) (b := 4) eσ58 (fun q => absurd q.1 (by decide))).trans (k7), (kq (a := 2) (b := 4) eσ58 (fun q => absurd q.1 (by decide))).trans (k8), (kq (a := 2) (b := 5) eσ58 (fun q => absurd q.1 (by decide))).trans (k9), (kq (a := 2) (b := 6) eσ58 (fun q => absurd q.1 (by decide))).trans (k10), (kq (a := 3) (b := 8) eσ58 (fun q => absurd q.2 (by decide))).trans (k11)⟩) trivial
            · have f59 := tB (σ1.1 3 11)
              first | have f60 := (noteqE (rfl : (σ1.1 3 11).toInt = (σ1.1 3 11).toInt) (show (0 : Int32).toInt = 0 from by decide)).mp c55 | skip
              try dsimp only
              exact hQ _ _ hσ1 (⟨k2, k3, k4, k5, k6, k7, k8, k9, k10, k11⟩) trivial
          · first | have f61 := (noteqE (show (0 : Int32).toInt = 0 from by decide) (show (0 : Int32).toInt = 0 from by decide)).mp c53 | skip
            exact hQ _ _ hσ1 (⟨k2, k3, k4, k5, k6, k7, k8, k9, k10, k11⟩) trivial
        · first | have f63 := (notleE (show (8 : Int32).toInt = 8 from by decide) (rfl : r13.toInt = r13.toInt)).mp c50 | skip
          try dsimp only
          refine ⟨fun c64 => ?_, fun c64 => ?_⟩
          · first | have f65 := (eqE (show (1 : Int32).toInt = 1 from by decide) (show (0 : Int32).toInt = 0 from by decide)).mp c64 | skip
            unfold fX2_fail
            refine ⟨fun c66 => ?_, fun c66 => ?_⟩
            · have f67 := tB (σ1.1 3 11)
              first | have f68 := (eqE (rfl : (σ1.1 3 11).toInt = (σ1.1 3 11).toInt) (show (0 : Int32).toInt = 0 from by decide)).mp c66 | skip
              intro σ69 eσ69
              have hσ69 : K1 σ0 σ69 := by rw [eσ69]; exact hσ1.u (Rg1.u_3_11 _) (fun q => absurd q.1 (by decide)) (fun q => absurd q.1 (by decide))
              try dsimp only
              exact hQ _ _ hσ69 (⟨(kq (a := 3) (b := 7) eσ69 (fun q => absurd q.2 (by decide))).trans (k2), (kq (a := 3) (b := 6) eσ69 (fun q => absurd q.2 (by decide))).trans (k3), (kq (a := 9) (b := 9) eσ69 (fun q => absurd q.1 (by decide))).trans (k4), (kq (a := 9) (b := 10) eσ69 (fun q => absurd q.1 (by decide))).trans (k5), (kq (a := 6) (b := 5) eσ69 (fun q => absurd q.1 (by decide))).trans (k6), (kq (a := 7) (b := 4) eσ69 (fun q => absurd q.1 (by decide))).trans (k7), (kq (a := 2) (b := 4) eσ69 (fun q => absurd q.1 (by decide))).trans (k8), (kq (a := 2) (b := 5) eσ69 (fun q => absurd q.1 (by decide))).trans (k9), (kq (a := 2) (b := 6) eσ69 (fun q => absurd q.1 (by decide))).trans (k10), (kq (a := 3) (b := 8) eσ69 (fun q => absurd q.2 (by decide))).trans (k11)⟩) trivial
            · have f70 := tB (σ1.1 3 11)
              first | have f71 := (noteqE (rfl : (σ1.1 3 11).toInt = (σ1.1 3 11).toInt) (show (0 : Int32).toInt = 0 from by decide)).mp c66 | skip
              try dsimp only
              exact hQ _ _ hσ1 (⟨k2, k3, k4, k5, k6, k7, k8, k9, k10, k11⟩) trivial
          · first | have f72 := (noteqE (show (1 : Int32).toInt = 1 from by decide) (show (0 : Int32).toInt = 0 from by decide)).mp c64 | skip
            exact hQ _ _ hσ1 (⟨k2, k3, k4, k5, k6, k7, k8, k9, k10, k11⟩) trivial
set_option maxHeartbeats 4000000 in
theorem sX1_setLocal {N : Nat} (hN : 4294967400 ≤ N) {k0 : Nat} {x1 : Int32} {x2 : Int32} (hk0 : jobK k0) {Q : St → Prop} {σ0 σ : St} (hσ : K1 σ0 σ) (hQ : ∀ τ : St, K1 σ0 τ → (τ.1 3 7 = σ.1 3 7 ∧ τ.1 3 11 = σ.1 3 11 ∧ τ.1 3 6 = σ.1 3 6 ∧ τ.1 9 9 = σ.1 9 9 ∧ τ.1 9 10 = σ.1 9 10 ∧ τ.1 6 5 = σ.1 6 5 ∧ τ.1 7 4 = σ.1 7 4 ∧ τ.1 2 4 = σ.1 2 4 ∧ τ.1 2 5 = σ.1 2 5 ∧ τ.1 2 6 = σ.1 2 6 ∧ τ.1 3 8 = σ.1 3 8) → Q τ) : fX1_setLocal N k0 x1 x2 Q σ := by
  unfold fX1_setLocal
  have kbhk0 := jobK_b hk0
  refine ⟨fun c1 => ?_, fun c1 => ?_⟩
  · have f2 := tB x1
    first | have f3 := (ltE (rfl : x1.toInt = x1.toInt) (show (0 : Int32).toInt = 0 from by decide)).mp c1 | skip
    exact hQ _ hσ (⟨rfl, rfl, rfl, rfl, rfl, rfl, rfl, rfl, rfl, rfl, rfl⟩)
  · have f4 := tB x1
    first | have f5 := (notltE (rfl : x1.toInt = x1.toInt) (show (0 : Int32).toInt = 0 from by decide)).mp c1 | skip
    refine ⟨fun c6 => ?_, fun c6 => ?_⟩
    · have f7 := tB (σ.1 k0 4)
      first | have f9 := (leE (rfl : (σ.1 k0 4).toInt = (σ.1 k0 4).toInt) (rfl : x1.toInt = x1.toInt)).mp c6 | skip
      exact hQ _ hσ (⟨rfl, rfl, rfl, rfl, rfl, rfl, rfl, rfl, rfl, rfl, rfl⟩)
    · have f10 := tB (σ.1 k0 4)
      first | have f12 := (notleE (rfl : (σ.1 k0 4).toInt = (σ.1 k0 4).toInt) (rfl : x1.toInt = x1.toInt)).mp c6 | skip
      refine ⟨fun c13 => ?_, fun c13 => ?_⟩
      · first | have f15 := (leE (show (8 : Int32).toInt = 8 from by decide) (rfl : x1.toInt = x1.toInt)).mp c13 | skip
        exact hQ _ hσ (⟨rfl, rfl, rfl, rfl, rfl, rfl, rfl, rfl, rfl, rfl, rfl⟩)
      · first | have f17 := (notleE (show (8 : Int32).toInt = 8 from by decide) (rfl : x1.toInt = x1.toInt)).mp c13 | skip
        refine ⟨inE (rfl : x1.toInt = x1.toInt) (by omega) (by omega), ?_⟩
        intro σ19 eσ19
        have kb20 := loc8_b (loc8_of hk0)
        have hσ19 : K1 σ0 σ19 := by rw [eσ19]; exact hσ.u (rg_loc8 (loc8_of hk0)) (by omega) (by omega)
        exact hQ _ hσ19 (⟨(kq (a := 3) (b := 7) eσ19 (by omega)), (kq (a := 3) (b := 11) eσ19 (by omega)), (kq (a := 3) (b := 6) eσ19 (by omega)), (kq (a := 9) (b := 9) eσ19 (by omega)), (kq (a := 9) (b := 10) eσ19 (by omega)), (kq (a := 6) (b := 5) eσ19 (by omega)), (kq (a := 7) (b := 4) eσ19 (by omega)), (kq (a := 2) (b := 4) eσ19 (by omega)), (kq (a := 2) (b := 5) eσ19 (by omega)), (kq (a := 2) (b := 6) eσ19 (by omega)), (kq (a := 3) (b := 8) eσ19 (by omega))⟩)
set_option maxHeartbeats 4000000 in
theorem sX2_fillLocals {N : Nat} (hN : 4294967400 ≤ N) {k1 : Nat} {x2 : Int32} (hk1 : jobK k1) {Q : St → Prop} {σ0 σ : St} (hσ : K1 σ0 σ) (hQ : ∀ τ : St, K1 σ0 τ → (τ.1 3 7 = σ.1 3 7 ∧ τ.1 3 11 = σ.1 3 11 ∧ τ.1 3 6 = σ.1 3 6 ∧ τ.1 9 9 = σ.1 9 9 ∧ τ.1 9 10 = σ.1 9 10 ∧ τ.1 6 5 = σ.1 6 5 ∧ τ.1 7 4 = σ.1 7 4 ∧ τ.1 2 4 = σ.1 2 4 ∧ τ.1 2 5 = σ.1 2 5 ∧ τ.1 2 6 = σ.1 2 6 ∧ τ.1 3 8 = σ.1 3 8) → Q τ) : fX2_fillLocals N k1 x2 Q σ := by
  unfold fX2_fillLocals
  have kbhk1 := jobK_b hk1
  refine sJ7_fill_53178 hN (by decide) (fun j v => rg_loc8 (loc8_of hk1)) (by have := (loc8_of hk1).1; omega) (by have := (loc8_of hk1).1; omega) hσ (fun σ1 hσ1 kk13 => ?_)
  obtain ⟨k2, k3, k4, k5, k6, k7, k8, k9, k10, k11, k12⟩ := kk13
  refine ⟨fun c14 => ?_, fun c14 => ?_⟩
  · have f15 := tB x2
    first | have f16 := (eqE (rfl : x2.toInt = x2.toInt) (show (0 : Int32).toInt = 0 from by decide)).mp c14 | skip
    unfold fX2_fillLocals_j25
    refine lo1_i (fun (y17 : Int32) (τ : St) => K1 σ0 τ ∧ τ.1 3 7 = σ1.1 3 7 ∧ τ.1 3 11 = σ1.1 3 11 ∧ τ.1 3 6 = σ1.1 3 6 ∧ τ.1 9 9 = σ1.1 9 9 ∧ τ.1 9 10 = σ1.1 9 10 ∧ τ.1 6 5 = σ1.1 6 5 ∧ τ.1 7 4 = σ1.1 7 4 ∧ τ.1 2 4 = σ1.1 2 4 ∧ τ.1 2 5 = σ1.1 2 5 ∧ τ.1 2 6 = σ1.1 2 6 ∧ τ.1 3 8 = σ1.1 3 8 ∧ 0 ≤ y17.toInt) (fun (y17 : Int32) (τ : St) => (2147483648 - y17.toInt).toNat) ?_ N (0 : Int32) σ1 ⟨hσ1, rfl, rfl, rfl, rfl, rfl, rfl, rfl, rfl, rfl, rfl, rfl, by first | decide | (have z0 : (0 : Int32).toInt = 0 := (by decide); omega)⟩ (by have z0 : (0 : Int32).toInt = 0 := (by decide); (try dsimp only); omega)
    intro rr18 y21 σ20 hIσ20 ih19
    obtain ⟨hσ20, k22, k23, k24, k25, k26, k27, k28, k29, k30, k31, k32, i33⟩ := hIσ20
    unfold fX2_fillLocals_l28
    have f34 := tB y21
    refine ⟨fun c35 => ?_, fun c35 => ?_⟩
    · have f36 := K1.g_3_6 hσ20
      have f37 := congrArg Int32.toInt k24
      have f38 := K1.g_3_6 hσ1
      have f39 := congrArg Int32.toInt k4
      have f40 := K1.g_3_6 hσ
      first | have f42 := (leE (rfl : (σ20.1 3 6).toInt = (σ20.1 3 6).toInt) (rfl : y21.toInt = y21.toInt)).mp c35 | skip
      exact hQ _ hσ20 (⟨k22.trans (k2), k23.trans (k3), k24.trans (k4), k25.trans (k5), k26.trans (k6), k27.trans (k7), k28.trans (k8), k29.trans (k9), k30.trans (k10), k31.trans (k11), k32.trans (k12)⟩)
    · have f43 := K1.g_3_6 hσ20
      have f44 := congrArg Int32.toInt k24
      have f45 := K1.g_3_6 hσ1
      have f46 := congrArg Int32.toInt k4
      have f47 := K1.g_3_6 hσ
      first | have f49 := (notleE (rfl : (σ20.1 3 6).toInt = (σ20.1 3 6).toInt) (rfl : y21.toInt = y21.toInt)).mp c35 | skip
      refine ⟨fun c50 => ?_, fun c50 => ?_⟩
      · first | have f52 := (leE (show (4 : Int32).toInt = 4 from by decide) (rfl : y21.toInt = y21.toInt)).mp c50 | skip
        exact hQ _ hσ20 (⟨k22.trans (k2), k23.trans (k3), k24.trans (k4), k25.trans (k5), k26.trans (k6), k27.trans (k7), k28.trans (k8), k29.trans (k9), k30.trans (k10), k31.trans (k11), k32.trans (k12)⟩)
      · first | have f54 := (notleE (show (4 : Int32).toInt = 4 from by decide) (rfl : y21.toInt = y21.toInt)).mp c50 | skip
        have g56 : vp_in y21 4 := inE (rfl : y21.toInt = y21.toInt) (by omega) (by omega)
        refine ⟨g56, ?_⟩
        have f58 := tB (σ20.1 17 y21.toNatClampNeg)
        refine sX1_setLocal hN hk1 hσ20 (fun σ59 hσ59 kk71 => ?_)
        obtain ⟨k60, k61, k62, k63, k64, k65, k66, k67, k68, k69, k70⟩ := kk71
        intro v72 ev72
        have f73 := tB v72
        first | have f75 : v72.toInt = (y21.toInt + (1)) := (congrArg Int32.toInt ev72).trans (aOkE (rfl : y21.toInt = y21.toInt) (show (1 : Int32).toInt = 1 from by decide) (by omega) (by omega)) | skip
        exact ih19 v72 σ59 ⟨hσ59, k60.trans (k22), k61.trans (k23), k62.trans (k24), k63.trans (k25), k64.trans (k26), k65.trans (k27), k66.trans (k28), k67.trans (k29), k68.trans (k30), k69.trans (k31), k70.trans (k32), by omega⟩ (by (try dsimp only); omega)
  · have f76 := tB x2
    first | have f77 := (noteqE (rfl : x2.toInt = x2.toInt) (show (0 : Int32).toInt = 0 from by decide)).mp c14 | skip
    have f78 := K1.g_3_6 hσ1
    have f79 := congrArg Int32.toInt k4
    have f80 := K1.g_3_6 hσ
    refine sX1_setLocal hN hk1 hσ1 (fun σ81 hσ81 kk93 => ?_)
    obtain ⟨k82, k83, k84, k85, k86, k87, k88, k89, k90, k91, k92⟩ := kk93
    unfold fX2_fillLocals_j25
    refine lo1_i (fun (y94 : Int32) (τ : St) => K1 σ0 τ ∧ τ.1 3 7 = σ81.1 3 7 ∧ τ.1 3 11 = σ81.1 3 11 ∧ τ.1 3 6 = σ81.1 3 6 ∧ τ.1 9 9 = σ81.1 9 9 ∧ τ.1 9 10 = σ81.1 9 10 ∧ τ.1 6 5 = σ81.1 6 5 ∧ τ.1 7 4 = σ81.1 7 4 ∧ τ.1 2 4 = σ81.1 2 4 ∧ τ.1 2 5 = σ81.1 2 5 ∧ τ.1 2 6 = σ81.1 2 6 ∧ τ.1 3 8 = σ81.1 3 8 ∧ 0 ≤ y94.toInt) (fun (y94 : Int32) (τ : St) => (2147483648 - y94.toInt).toNat) ?_ N (0 : Int32) σ81 ⟨hσ81, rfl, rfl, rfl, rfl, rfl, rfl, rfl, rfl, rfl, rfl, rfl, by first | decide | (have z0 : (0 : Int32).toInt = 0 := (by decide); omega)⟩ (by have z0 : (0 : Int32).toInt = 0 := (by decide); (try dsimp only); omega)
    intro rr95 y98 σ97 hIσ97 ih96
    obtain ⟨hσ97, k99, k100, k101, k102, k103, k104, k105, k106, k107, k108, k109, i110⟩ := hIσ97
    unfold fX2_fillLocals_l28
    have f111 := tB y98
    refine ⟨fun c112 => ?_, fun c112 => ?_⟩
    · have f113 := K1.g_3_6 hσ97
      have f114 := congrArg Int32.toInt k101
      have f115 := K1.g_3_6 hσ81
      have f116 := congrArg Int32.toInt k84
      first | have f119 := (leE (rfl : (σ97.1 3 6).toInt = (σ97.1 3 6).toInt) (rfl : y98.toInt = y98.toInt)).mp c112 | skip
      exact hQ _ hσ97 (⟨k99.trans (k82.trans (k2)), k100.trans (k83.trans (k3)), k101.trans (k84.trans (k4)), k102.trans (k85.trans (k5)), k103.trans (k86.trans (k6)), k104.trans (k87.trans (k7)), k105.trans (k88.trans (k8)), k106.trans (k89.trans (k9)), k107.trans (k90.trans (k10)), k108.trans (k91.trans (k11)), k109.trans (k92.trans (k12))⟩)
    · have f120 := K1.g_3_6 hσ97
      have f121 := congrArg Int32.toInt k101
      have f122 := K1.g_3_6 hσ81
      have f123 := congrArg Int32.toInt k84
      first | have f126 := (notleE (rfl : (σ97.1 3 6).toInt = (σ97.1 3 6).toInt) (rfl : y98.toInt = y98.toInt)).mp c112 | skip
      refine ⟨fun c127 => ?_, fun c127 => ?_⟩
      · first | have f129 := (leE (show (4 : Int32).toInt = 4 from by decide) (rfl : y98.toInt = y98.toInt)).mp c127 | skip
        exact hQ _ hσ97 (⟨k99.trans (k82.trans (k2)), k100.trans (k83.trans (k3)), k101.trans (k84.trans (k4)), k102.trans (k85.trans (k5)), k103.trans (k86.trans (k6)), k104.trans (k87.trans (k7)), k105.trans (k88.trans (k8)), k106.trans (k89.trans (k9)), k107.trans (k90.trans (k10)), k108.trans (k91.trans (k11)), k109.trans (k92.trans (k12))⟩)
      · first | have f131 := (notleE (show (4 : Int32).toInt = 4 from by decide) (rfl : y98.toInt = y98.toInt)).mp c127 | skip
        have g133 : vp_in y98 4 := inE (rfl : y98.toInt = y98.toInt) (by omega) (by omega)
        refine ⟨g133, ?_⟩
        have f135 := tB (σ97.1 17 y98.toNatClampNeg)
        refine sX1_setLocal hN hk1 hσ97 (fun σ136 hσ136 kk148 => ?_)
        obtain ⟨k137, k138, k139, k140, k141, k142, k143, k144, k145, k146, k147⟩ := kk148
        intro v149 ev149
        have f150 := tB v149
        first | have f152 : v149.toInt = (y98.toInt + (1)) := (congrArg Int32.toInt ev149).trans (aOkE (rfl : y98.toInt = y98.toInt) (show (1 : Int32).toInt = 1 from by decide) (by omega) (by omega)) | skip
        exact ih96 v149 σ136 ⟨hσ136, k137.trans (k99), k138.trans (k100), k139.trans (k101), k140.trans (k102), k141.trans (k103), k142.trans (k104), k143.trans (k105), k144.trans (k106), k145.trans (k107), k146.trans (k108), k147.trans (k109), by omega⟩ (by (try dsimp only); omega)
set_option maxHeartbeats 4000000 in
theorem sX2_callFunction {N : Nat} (hN : 4294967400 ≤ N) {x1 : Int32} {x2 : Int32} {Q : St → Prop} {σ0 σ : St} (hσ : K1 σ0 σ) (hQ : ∀ τ : St, K1 σ0 τ → (τ.1 3 6 = σ.1 3 6 ∧ τ.1 9 9 = σ.1 9 9 ∧ τ.1 9 10 = σ.1 9 10 ∧ τ.1 6 5 = σ.1 6 5 ∧ τ.1 7 4 = σ.1 7 4 ∧ τ.1 2 4 = σ.1 2 4 ∧ τ.1 2 5 = σ.1 2 5 ∧ τ.1 2 6 = σ.1 2 6 ∧ τ.1 3 8 = σ.1 3 8) → Q τ) : fX2_callFunction N x1 x2 Q σ := by
  unfold fX2_callFunction
  have f1 := tB x1
  refine sX2_readByte hN hσ (fun r14 σ2 hσ2 kk13 p15 => ?_)
  obtain ⟨k3, k4, k5, k6, k7, k8, k9, k10, k11, k12⟩ := kk13
  refine ⟨fun c16 => ?_, fun c16 => ?_⟩
  · have f17 := tB (σ2.1 3 11)
    first | have f18 := (eqE (rfl : (σ2.1 3 11).toInt = (σ2.1 3 11).toInt) (show (0 : Int32).toInt = 0 from by decide)).mp c16 | skip
    refine ⟨fun c19 => ?_, fun c19 => ?_⟩
    · have f20 := tB r14
      first | have f21 := (eqE (rfl : r14.toInt = r14.toInt) (show (192 : Int32).toInt = 192 from by decide)).mp c19 | skip
      unfold fX2_callFunction_j34
      refine sX2_readByte hN hσ2 (fun r35 σ23 hσ23 kk34 p36 => ?_)
      obtain ⟨k24, k25, k26, k27, k28, k29, k30, k31, k32, k33⟩ := kk34
      refine ⟨fun c37 => ?_, fun c37 => ?_⟩
      · have f38 := tB r35
        first | have f39 := (leE (rfl : r35.toInt = r35.toInt) (show (8 : Int32).toInt = 8 from by decide)).mp c37 | skip
        unfold fX2_callFunction_j55
        refine sX2_begin hN hσ23 (fun σ41 hσ41 kk51 => ?_)
        obtain ⟨k42, k43, k44, k45, k46, k47, k48, k49, k50⟩ := kk51
        refine ⟨fun c52 => ?_, fun c52 => ?_⟩
        · have f53 := tB (σ41.1 3 11)
          first | have f54 := (eqE (rfl : (σ41.1 3 11).toInt = (σ41.1 3 11).toInt) (show (0 : Int32).toInt = 0 from by decide)).mp c52 | skip
          refine ⟨fun c55 => ?_, fun c55 => ?_⟩
          · have f56 := K1.g_3_7 hσ41
            first | have f57 := (eqE (rfl : (σ41.1 3 7).toInt = (σ41.1 3 7).toInt) (show (0 : Int32).toInt = 0 from by decide)).mp c55 | skip
            exact hQ _ hσ41 (⟨k42.trans (k25.trans (k4)), k43.trans (k26.trans (k5)), k44.trans (k27.trans (k6)), k45.trans (k28.trans (k7)), k46.trans (k29.trans (k8)), k47.trans (k30.trans (k9)), k48.trans (k31.trans (k10)), k49.trans (k32.trans (k11)), k50.trans (k33.trans (k12))⟩)
          · have f58 := K1.g_3_7 hσ41
            first | have f59 := (noteqE (rfl : (σ41.1 3 7).toInt = (σ41.1 3 7).toInt) (show (0 : Int32).toInt = 0 from by decide)).mp c55 | skip
            have g61 : vp_in ((σ41.1 3 7) - 1) 40 := inE (sOkE (rfl : (σ41.1 3 7).toInt = (σ41.1 3 7).toInt) (show (1 : Int32).toInt = 1 from by decide) (by omega) (by omega)) (by omega) (by omega)
            refine ⟨g61, ?_⟩
            have hk62 : jobK (43 + ((σ41.1 3 7) - 1).toNatClampNeg) := (jobK_in g61)
            have hk62x := vp_lt g61
            have hk62b := jobK_b hk62
            intro σ63 eσ63
            have kb64 := jobK_b hk62
            have hσ63 : K1 σ0 σ63 := by rw [eσ63]; exact hσ41.u (rg_jobK hk62) (by omega) (by omega)
            intro σ65 eσ65
            have kb66 := jobK_b hk62
            have hσ65 : K1 σ0 σ65 := by rw [eσ65]; exact hσ63.u (rg_jobK hk62) (by omega) (by omega)
            refine ⟨fun c67 => ?_, fun c67 => ?_⟩
            · first | have f69 := (eqE (rfl : r14.toInt = r14.toInt) (show (192 : Int32).toInt = 192 from by decide)).mp c67 | skip
              unfold fX2_callFunction_j119
              refine sX2_fillLocals hN hk62 hσ65 (fun σ70 hσ70 kk82 => ?_)
              obtain ⟨k71, k72, k73, k74, k75, k76, k77, k78, k79, k80, k81⟩ := kk82
              exact hQ _ hσ70 (⟨k73.trans ((kq (a := 3) (b := 6) eσ65 (by omega)).trans ((kq (a := 3) (b := 6) eσ63 (by omega)).trans (k42.trans (k25.trans (k4))))), k74.trans ((kq (a := 9) (b := 9) eσ65 (by omega)).trans ((kq (a := 9) (b := 9) eσ63 (by omega)).trans (k43.trans (k26.trans (k5))))), k75.trans ((kq (a := 9) (b := 10) eσ65 (by omega)).trans ((kq (a := 9) (b := 10) eσ63 (by omega)).trans (k44.trans (k27.trans (k6))))), k76.trans ((kq (a := 6) (b := 5) eσ65 (by omega)).trans ((kq (a := 6) (b := 5) eσ63 (by omega)).trans (k45.trans (k28.trans (k7))))), k77.trans ((kq (a := 7) (b := 4) eσ65 (by omega)).trans ((kq (a := 7) (b := 4) eσ63 (by omega)).trans (k46.trans (k29.trans (k8))))), k78.trans ((kq (a := 2) (b := 4) eσ65 (by omega)).trans ((kq (a := 2) (b := 4) eσ63 (by omega)).trans (k47.trans (k30.trans (k9))))), k79.trans ((kq (a := 2) (b := 5) eσ65 (by omega)).trans ((kq (a := 2) (b := 5) eσ63 (by omega)).trans (k48.trans (k31.trans (k10))))), k80.trans ((kq (a := 2) (b := 6) eσ65 (by omega)).trans ((kq (a := 2) (b := 6) eσ63 (by omega)).trans (k49.trans (k32.trans (k11))))), k81.trans ((kq (a := 3) (b := 8) eσ65 (by omega)).trans ((kq (a := 3) (b := 8) eσ63 (by omega)).trans (k50.trans (k33.trans (k12)))))⟩)
            · first | have f84 := (noteqE (rfl : r14.toInt = r14.toInt) (show (192 : Int32).toInt = 192 from by decide)).mp c67 | skip
              unfold fX2_callFunction_j119
              refine sX2_fillLocals hN hk62 hσ65 (fun σ85 hσ85 kk97 => ?_)
              obtain ⟨k86, k87, k88, k89, k90, k91, k92, k93, k94, k95, k96⟩ := kk97
              exact hQ _ hσ85 (⟨k88.trans ((kq (a := 3) (b := 6) eσ65 (by omega)).trans ((kq (a := 3) (b := 6) eσ63 (by omega)).trans (k42.trans (k25.trans (k4))))), k89.trans ((kq (a := 9) (b := 9) eσ65 (by omega)).trans ((kq (a := 9) (b := 9) eσ63 (by omega)).trans (k43.trans (k26.trans (k5))))), k90.trans ((kq (a := 9) (b := 10) eσ65 (by omega)).trans ((kq (a := 9) (b := 10) eσ63 (by omega)).trans (k44.trans (k27.trans (k6))))), k91.trans ((kq (a := 6) (b := 5) eσ65 (by omega)).trans ((kq (a := 6) (b := 5) eσ63 (by omega)).trans (k45.trans (k28.trans (k7))))), k92.trans ((kq (a := 7) (b := 4) eσ65 (by omega)).trans ((kq (a := 7) (b := 4) eσ63 (by omega)).trans (k46.trans (k29.trans (k8))))), k93.trans ((kq (a := 2) (b := 4) eσ65 (by omega)).trans ((kq (a := 2) (b := 4) eσ63 (by omega)).trans (k47.trans (k30.trans (k9))))), k94.trans ((kq (a := 2) (b := 5) eσ65 (by omega)).trans ((kq (a := 2) (b := 5) eσ63 (by omega)).trans (k48.trans (k31.trans (k10))))), k95.trans ((kq (a := 2) (b := 6) eσ65 (by omega)).trans ((kq (a := 2) (b := 6) eσ63 (by omega)).trans (k49.trans (k32.trans (k11))))), k96.trans ((kq (a := 3) (b := 8) eσ65 (by omega)).trans ((kq (a := 3) (b := 8) eσ63 (by omega)).trans (k50.trans (k33.trans (k12)))))⟩)
        · have f98 := tB (σ41.1 3 11)
          first | have f99 := (noteqE (rfl : (σ41.1 3 11).toInt = (σ41.1 3 11).toInt) (show (0 : Int32).toInt = 0 from by decide)).mp c52 | skip
          exact hQ _ hσ41 (⟨k42.trans (k25.trans (k4)), k43.trans (k26.trans (k5)), k44.trans (k27.trans (k6)), k45.trans (k28.trans (k7)), k46.trans (k29.trans (k8)), k47.trans (k30.trans (k9)), k48.trans (k31.trans (k10)), k49.trans (k32.trans (k11)), k50.trans (k33.trans (k12))⟩)
      · have f100 := tB r35
        first | have f101 := (notleE (rfl : r35.toInt = r35.toInt) (show (8 : Int32).toInt = 8 from by decide)).mp c37 | skip
        unfold fX2_fail
        refine ⟨fun c102 => ?_, fun c102 => ?_⟩
        · have f103 := tB (σ23.1 3 11)
          first | have f104 := (eqE (rfl : (σ23.1 3 11).toInt = (σ23.1 3 11).toInt) (show (0 : Int32).toInt = 0 from by decide)).mp c102 | skip
          intro σ105 eσ105
          have hσ105 : K1 σ0 σ105 := by rw [eσ105]; exact hσ23.u (Rg1.u_3_11 _) (fun q => absurd q.1 (by decide)) (fun q => absurd q.1 (by decide))
          try dsimp only
          unfold fX2_callFunction_j55
          refine sX2_begin hN hσ105 (fun σ107 hσ107 kk117 => ?_)
          obtain ⟨k108, k109, k110, k111, k112, k113, k114, k115, k116⟩ := kk117
          refine ⟨fun c118 => ?_, fun c118 => ?_⟩
          · have f119 := tB (σ107.1 3 11)
            first | have f120 := (eqE (rfl : (σ107.1 3 11).toInt = (σ107.1 3 11).toInt) (show (0 : Int32).toInt = 0 from by decide)).mp c118 | skip
            refine ⟨fun c121 => ?_, fun c121 => ?_⟩
            · have f122 := K1.g_3_7 hσ107
              first | have f123 := (eqE (rfl : (σ107.1 3 7).toInt = (σ107.1 3 7).toInt) (show (0 : Int32).toInt = 0 from by decide)).mp c121 | skip
              exact hQ _ hσ107 (⟨k108.trans ((kq (a := 3) (b := 6) eσ105 (fun q => absurd q.2 (by decide))).trans (k25.trans (k4))), k109.trans ((kq (a := 9) (b := 9) eσ105 (fun q => absurd q.1 (by decide))).trans (k26.trans (k5))), k110.trans ((kq (a := 9) (b := 10) eσ105 (fun q => absurd q.1 (by decide))).trans (k27.trans (k6))), k111.trans ((kq (a := 6) (b := 5) eσ105 (fun q => absurd q.1 (by decide))).trans (k28.trans (k7))), k112.trans ((kq (a := 7) (b := 4) eσ105 (fun q => absurd q.1 (by decide))).trans (k29.trans (k8))), k113.trans ((kq (a := 2) (b := 4) eσ105 (fun q => absurd q.1 (by decide))).trans (k30.trans (k9))), k114.trans ((kq (a := 2) (b := 5) eσ105 (fun q => absurd q.1 (by decide))).trans (k31.trans (k10))), k115.trans ((kq (a := 2) (b := 6) eσ105 (fun q => absurd q.1 (by decide))).trans (k32.trans (k11))), k116.trans ((kq (a := 3) (b := 8) eσ105 (fun q => absurd q.2 (by decide))).trans (k33.trans (k12)))⟩)
            · have f124 := K1.g_3_7 hσ107
              first | have f125 := (noteqE (rfl : (σ107.1 3 7).toInt = (σ107.1 3 7).toInt) (show (0 : Int32).toInt = 0 from by decide)).mp c121 | skip
              have g127 : vp_in ((σ107.1 3 7) - 1) 40 := inE (sOkE (rfl : (σ107.1 3 7).toInt = (σ107.1 3 7).toInt) (show (1 : Int32).toInt = 1 from by decide) (by omega) (by omega)) (by omega) (by omega)
              refine ⟨g127, ?_⟩
              have hk128 : jobK (43 + ((σ107.1 3 7) - 1).toNatClampNeg) := (jobK_in g127)
              have hk128x := vp_lt g127
              have hk128b := jobK_b hk128
              intro σ129 eσ129
              have kb130 := jobK_b hk128
              have hσ129 : K1 σ0 σ129 := by rw [eσ129]; exact hσ107.u (rg_jobK hk128) (by omega) (by omega)
              intro σ131 eσ131
              have kb132 := jobK_b hk128
              have hσ131 : K1 σ0 σ131 := by rw [eσ131]; exact hσ129.u (rg_jobK hk128) (by omega) (by omega)
              refine ⟨fun c133 => ?_, fun c133 => ?_⟩
              · first | have f135 := (eqE (rfl : r14.toInt = r14.toInt) (show (192 : Int32).toInt = 192 from by decide)).mp c133 | skip
                unfold fX2_callFunction_j119
                refine sX2_fillLocals hN hk128 hσ131 (fun σ136 hσ136 kk148 => ?_)
                obtain ⟨k137, k138, k139, k140, k141, k142, k143, k144, k145, k146, k147⟩ := kk148
                exact hQ _ hσ136 (⟨k139.trans ((kq (a := 3) (b := 6) eσ131 (by omega)).trans ((kq (a := 3) (b := 6) eσ129 (by omega)).trans (k108.trans ((kq (a := 3) (b := 6) eσ105 (fun q => absurd q.2 (by decide))).trans (k25.trans (k4)))))), k140.trans ((kq (a := 9) (b := 9) eσ131 (by omega)).trans ((kq (a := 9) (b := 9) eσ129 (by omega)).trans (k109.trans ((kq (a := 9) (b := 9) eσ105 (fun q => absurd q.1 (by decide))).trans (k26.trans (k5)))))), k141.trans ((kq (a := 9) (b := 10) eσ131 (by omega)).trans ((kq (a := 9) (b := 10) eσ129 (by omega)).trans (k110.trans ((kq (a := 9) (b := 10) eσ105 (fun q => absurd q.1 (by decide))).trans (k27.trans (k6)))))), k142.trans ((kq (a := 6) (b := 5) eσ131 (by omega)).trans ((kq (a := 6) (b := 5) eσ129 (by omega)).trans (k111.trans ((kq (a := 6) (b := 5) eσ105 (fun q => absurd q.1 (by decide))).trans (k28.trans (k7)))))), k143.trans ((kq (a := 7) (b := 4) eσ131 (by omega)).trans ((kq (a := 7) (b := 4) eσ129 (by omega)).trans (k112.trans ((kq (a := 7) (b := 4) eσ105 (fun q => absurd q.1 (by decide))).trans (k29.trans (k8)))))), k144.trans ((kq (a := 2) (b := 4) eσ131 (by omega)).trans ((kq (a := 2) (b := 4) eσ129 (by omega)).trans (k113.trans ((kq (a := 2) (b := 4) eσ105 (fun q => absurd q.1 (by decide))).trans (k30.trans (k9)))))), k145.trans ((kq (a := 2) (b := 5) eσ131 (by omega)).trans ((kq (a := 2) (b := 5) eσ129 (by omega)).trans (k114.trans ((kq (a := 2) (b := 5) eσ105 (fun q => absurd q.1 (by decide))).trans (k31.trans (k10)))))), k146.trans ((kq (a := 2) (b := 6) eσ131 (by omega)).trans ((kq (a := 2) (b := 6) eσ129 (by omega)).trans (k115.trans ((kq (a := 2) (b := 6) eσ105 (fun q => absurd q.1 (by decide))).trans (k32.trans (k11)))))), k147.trans ((kq (a := 3) (b := 8) eσ131 (by omega)).trans ((kq (a := 3) (b := 8) eσ129 (by omega)).trans (k116.trans ((kq (a := 3) (b := 8) eσ105 (fun q => absurd q.2 (by decide))).trans (k33.trans (k12))))))⟩)
              · first | have f150 := (noteqE (rfl : r14.toInt = r14.toInt) (show (192 : Int32).toInt = 192 from by decide)).mp c133 | skip
                unfold fX2_callFunction_j119
                refine sX2_fillLocals hN hk128 hσ131 (fun σ151 hσ151 kk163 => ?_)
                obtain ⟨k152, k153, k154, k155, k156, k157, k158, k159, k160, k161, k162⟩ := kk163
                exact hQ _ hσ151 (⟨k154.trans ((kq (a := 3) (b := 6) eσ131 (by omega)).trans ((kq (a := 3) (b := 6) eσ129 (by omega)).trans (k108.trans ((kq (a := 3) (b := 6) eσ105 (fun q => absurd q.2 (by decide))).trans (k25.trans (k4)))))), k155.trans ((kq (a := 9) (b := 9) eσ131 (by omega)).trans ((kq (a := 9) (b := 9) eσ129 (by omega)).trans (k109.trans ((kq (a := 9) (b := 9) eσ105 (fun q => absurd q.1 (by decide))).trans (k26.trans (k5)))))), k156.trans ((kq (a := 9) (b := 10) eσ131 (by omega)).trans ((kq (a := 9) (b := 10) eσ129 (by omega)).trans (k110.trans ((kq (a := 9) (b := 10) eσ105 (fun q => absurd q.1 (by decide))).trans (k27.trans (k6)))))), k157.trans ((kq (a := 6) (b := 5) eσ131 (by omega)).trans ((kq (a := 6) (b := 5) eσ129 (by omega)).trans (k111.trans ((kq (a := 6) (b := 5) eσ105 (fun q => absurd q.1 (by decide))).trans (k28.trans (k7)))))), k158.trans ((kq (a := 7) (b := 4) eσ131 (by omega)).trans ((kq (a := 7) (b := 4) eσ129 (by omega)).trans (k112.trans ((kq (a := 7) (b := 4) eσ105 (fun q => absurd q.1 (by decide))).trans (k29.trans (k8)))))), k159.trans ((kq (a := 2) (b := 4) eσ131 (by omega)).trans ((kq (a := 2) (b := 4) eσ129 (by omega)).trans (k113.trans ((kq (a := 2) (b := 4) eσ105 (fun q => absurd q.1 (by decide))).trans (k30.trans (k9)))))), k160.trans ((kq (a := 2) (b := 5) eσ131 (by omega)).trans ((kq (a := 2) (b := 5) eσ129 (by omega)).trans (k114.trans ((kq (a := 2) (b := 5) eσ105 (fun q => absurd q.1 (by decide))).trans (k31.trans (k10)))))), k161.trans ((kq (a := 2) (b := 6) eσ131 (by omega)).trans ((kq (a := 2) (b := 6) eσ129 (by omega)).trans (k115.trans ((kq (a := 2) (b := 6) eσ105 (fun q => absurd q.1 (by decide))).trans (k32.trans (k11)))))), k162.trans ((kq (a := 3) (b := 8) eσ131 (by omega)).trans ((kq (a := 3) (b := 8) eσ129 (by omega)).trans (k116.trans ((kq (a := 3) (b := 8) eσ105 (fun q => absurd q.2 (by decide))).trans (k33.trans (k12))))))⟩)
          · have f164 := tB (σ107.1 3 11)
            first | have f165 := (noteqE (rfl : (σ107.1 3 11).toInt = (σ107.1 3 11).toInt) (show (0 : Int32).toInt = 0 from by decide)).mp c118 | skip
            exact hQ _ hσ107 (⟨k108.trans ((kq (a := 3) (b := 6) eσ105 (fun q => absurd q.2 (by decide))).trans (k25.trans (k4))), k109.trans ((kq (a := 9) (b := 9) eσ105 (fun q => absurd q.1 (by decide))).trans (k26.trans (k5))), k110.trans ((kq (a := 9) (b := 10) eσ105 (fun q => absurd q.1 (by decide))).trans (k27.trans (k6))), k111.trans ((kq (a := 6) (b := 5) eσ105 (fun q => absurd q.1 (by decide))).trans (k28.trans (k7))), k112.trans ((kq (a := 7) (b := 4) eσ105 (fun q => absurd q.1 (by decide))).trans (k29.trans (k8))), k113.trans ((kq (a := 2) (b := 4) eσ105 (fun q => absurd q.1 (by decide))).trans (k30.trans (k9))), k114.trans ((kq (a := 2) (b := 5) eσ105 (fun q => absurd q.1 (by decide))).trans (k31.trans (k10))), k115.trans ((kq (a := 2) (b := 6) eσ105 (fun q => absurd q.1 (by decide))).trans (k32.trans (k11))), k116.trans ((kq (a := 3) (b := 8) eσ105 (fun q => absurd q.2 (by decide))).trans (k33.trans (k12)))⟩)
        · have f166 := tB (σ23.1 3 11)
          first | have f167 := (noteqE (rfl : (σ23.1 3 11).toInt = (σ23.1 3 11).toInt) (show (0 : Int32).toInt = 0 from by decide)).mp c102 | skip
          try dsimp only
          unfold fX2_callFunction_j55
          refine sX2_begin hN hσ23 (fun σ169 hσ169 kk179 => ?_)
          obtain ⟨k170, k171, k172, k173, k174, k175, k176, k177, k178⟩ := kk179
          refine ⟨fun c180 => ?_, fun c180 => ?_⟩
          · have f181 := tB (σ169.1 3 11)
            first | have f182 := (eqE (rfl : (σ169.1 3 11).toInt = (σ169.1 3 11).toInt) (show (0 : Int32).toInt = 0 from by decide)).mp c180 | skip
            refine ⟨fun c183 => ?_, fun c183 => ?_⟩
            · have f184 := K1.g_3_7 hσ169
              first | have f185 := (eqE (rfl : (σ169.1 3 7).toInt = (σ169.1 3 7).toInt) (show (0 : Int32).toInt = 0 from by decide)).mp c183 | skip
              exact hQ _ hσ169 (⟨k170.trans (k25.trans (k4)), k171.trans (k26.trans (k5)), k172.trans (k27.trans (k6)), k173.trans (k28.trans (k7)), k174.trans (k29.trans (k8)), k175.trans (k30.trans (k9)), k176.trans (k31.trans (k10)), k177.trans (k32.trans (k11)), k178.trans (k33.trans (k12))⟩)
            · have f186 := K1.g_3_7 hσ169
              first | have f187 := (noteqE (rfl : (σ169.1 3 7).toInt = (σ169.1 3 7).toInt) (show (0 : Int32).toInt = 0 from by decide)).mp c183 | skip
              have g189 : vp_in ((σ169.1 3 7) - 1) 40 := inE (sOkE (rfl : (σ169.1 3 7).toInt = (σ169.1 3 7).toInt) (show (1 : Int32).toInt = 1 from by decide) (by omega) (by omega)) (by omega) (by omega)
              refine ⟨g189, ?_⟩
              have hk190 : jobK (43 + ((σ169.1 3 7) - 1).toNatClampNeg) := (jobK_in g189)
              have hk190x := vp_lt g189
              have hk190b := jobK_b hk190
              intro σ191 eσ191
              have kb192 := jobK_b hk190
              have hσ191 : K1 σ0 σ191 := by rw [eσ191]; exact hσ169.u (rg_jobK hk190) (by omega) (by omega)
              intro σ193 eσ193
              have kb194 := jobK_b hk190
              have hσ193 : K1 σ0 σ193 := by rw [eσ193]; exact hσ191.u (rg_jobK hk190) (by omega) (by omega)
              refine ⟨fun c195 => ?_, fun c195 => ?_⟩
              · first | have f197 := (eqE (rfl : r14.toInt = r14.toInt) (show (192 : Int32).toInt = 192 from by decide)).mp c195 | skip
                unfold fX2_callFunction_j119
                refine sX2_fillLocals hN hk190 hσ193 (fun σ198 hσ198 kk210 => ?_)
                obtain ⟨k199, k200, k201, k202, k203, k204, k205, k206, k207, k208, k209⟩ := kk210
                exact hQ _ hσ198 (⟨k201.trans ((kq (a := 3) (b := 6) eσ193 (by omega)).trans ((kq (a := 3) (b := 6) eσ191 (by omega)).trans (k170.trans (k25.trans (k4))))), k202.trans ((kq (a := 9) (b := 9) eσ193 (by omega)).trans ((kq (a := 9) (b := 9) eσ191 (by omega)).trans (k171.trans (k26.trans (k5))))), k203.trans ((kq (a := 9) (b := 10) eσ193 (by omega)).trans ((kq (a := 9) (b := 10) eσ191 (by omega)).trans (k172.trans (k27.trans (k6))))), k204.trans ((kq (a := 6) (b := 5) eσ193 (by omega)).trans ((kq (a := 6) (b := 5) eσ191 (by omega)).trans (k173.trans (k28.trans (k7))))), k205.trans ((kq (a := 7) (b := 4) eσ193 (by omega)).trans ((kq (a := 7) (b := 4) eσ191 (by omega)).trans (k174.trans (k29.trans (k8))))), k206.trans ((kq (a := 2) (b := 4) eσ193 (by omega)).trans ((kq (a := 2) (b := 4) eσ191 (by omega)).trans (k175.trans (k30.trans (k9))))), k207.trans ((kq (a := 2) (b := 5) eσ193 (by omega)).trans ((kq (a := 2) (b := 5) eσ191 (by omega)).trans (k176.trans (k31.trans (k10))))), k208.trans ((kq (a := 2) (b := 6) eσ193 (by omega)).trans ((kq (a := 2) (b := 6) eσ191 (by omega)).trans (k177.trans (k32.trans (k11))))), k209.trans ((kq (a := 3) (b := 8) eσ193 (by omega)).trans ((kq (a := 3) (b := 8) eσ191 (by omega)).trans (k178.trans (k33.trans (k12)))))⟩)
              · first | have f212 := (noteqE (rfl : r14.toInt = r14.toInt) (show (192 : Int32).toInt = 192 from by decide)).mp c195 | skip
                unfold fX2_callFunction_j119
                refine sX2_fillLocals hN hk190 hσ193 (fun σ213 hσ213 kk225 => ?_)
                obtain ⟨k214, k215, k216, k217, k218, k219, k220, k221, k222, k223, k224⟩ := kk225
                exact hQ _ hσ213 (⟨k216.trans ((kq (a := 3) (b := 6) eσ193 (by omega)).trans ((kq (a := 3) (b := 6) eσ191 (by omega)).trans (k170.trans (k25.trans (k4))))), k217.trans ((kq (a := 9) (b := 9) eσ193 (by omega)).trans ((kq (a := 9) (b := 9) eσ191 (by omega)).trans (k171.trans (k26.trans (k5))))), k218.trans ((kq (a := 9) (b := 10) eσ193 (by omega)).trans ((kq (a := 9) (b := 10) eσ191 (by omega)).trans (k172.trans (k27.trans (k6))))), k219.trans ((kq (a := 6) (b := 5) eσ193 (by omega)).trans ((kq (a := 6) (b := 5) eσ191 (by omega)).trans (k173.trans (k28.trans (k7))))), k220.trans ((kq (a := 7) (b := 4) eσ193 (by omega)).trans ((kq (a := 7) (b := 4) eσ191 (by omega)).trans (k174.trans (k29.trans (k8))))), k221.trans ((kq (a := 2) (b := 4) eσ193 (by omega)).trans ((kq (a := 2) (b := 4) eσ191 (by omega)).trans (k175.trans (k30.trans (k9))))), k222.trans ((kq (a := 2) (b := 5) eσ193 (by omega)).trans ((kq (a := 2) (b := 5) eσ191 (by omega)).trans (k176.trans (k31.trans (k10))))), k223.trans ((kq (a := 2) (b := 6) eσ193 (by omega)).trans ((kq (a := 2) (b := 6) eσ191 (by omega)).trans (k177.trans (k32.trans (k11))))), k224.trans ((kq (a := 3) (b := 8) eσ193 (by omega)).trans ((kq (a := 3) (b := 8) eσ191 (by omega)).trans (k178.trans (k33.trans (k12)))))⟩)
          · have f226 := tB (σ169.1 3 11)
            first | have f227 := (noteqE (rfl : (σ169.1 3 11).toInt = (σ169.1 3 11).toInt) (show (0 : Int32).toInt = 0 from by decide)).mp c180 | skip
            exact hQ _ hσ169 (⟨k170.trans (k25.trans (k4)), k171.trans (k26.trans (k5)), k172.trans (k27.trans (k6)), k173.trans (k28.trans (k7)), k174.trans (k29.trans (k8)), k175.trans (k30.trans (k9)), k176.trans (k31.trans (k10)), k177.trans (k32.trans (k11)), k178.trans (k33.trans (k12))⟩)
    · have f228 := tB r14
      first | have f229 := (noteqE (rfl : r14.toInt = r14.toInt) (show (192 : Int32).toInt = 192 from by decide)).mp c19 | skip
      refine ⟨fun c230 => ?_, fun c230 => ?_⟩
      · first | have f232 := (eqE (rfl : r14.toInt = r14.toInt) (show (193 : Int32).toInt = 193 from by decide)).mp c230 | skip
        unfold fX2_callFunction_j34
        refine sX2_readByte hN hσ2 (fun r246 σ234 hσ234 kk245 p247 => ?_)
        obtain ⟨k235, k236, k237, k238, k239, k240, k241, k242, k243, k244⟩ := kk245
        refine ⟨fun c248 => ?_, fun c248 => ?_⟩
        · have f249 := tB r246
          first | have f250 := (leE (rfl : r246.toInt = r246.toInt) (show (8 : Int32).toInt = 8 from by decide)).mp c248 | skip
          unfold fX2_callFunction_j55
          refine sX2_begin hN hσ234 (fun σ252 hσ252 kk262 => ?_)
          obtain ⟨k253, k254, k255, k256, k257, k258, k259, k260, k261⟩ := kk262
          refine ⟨fun c263 => ?_, fun c263 => ?_⟩
          · have f264 := tB (σ252.1 3 11)
            first | have f265 := (eqE (rfl : (σ252.1 3 11).toInt = (σ252.1 3 11).toInt) (show (0 : Int32).toInt = 0 from by decide)).mp c263 | skip
            refine ⟨fun c266 => ?_, fun c266 => ?_⟩
            · have f267 := K1.g_3_7 hσ252
              first | have f268 := (eqE (rfl : (σ252.1 3 7).toInt = (σ252.1 3 7).toInt) (show (0 : Int32).toInt = 0 from by decide)).mp c266 | skip
              exact hQ _ hσ252 (⟨k253.trans (k236.trans (k4)), k254.trans (k237.trans (k5)), k255.trans (k238.trans (k6)), k256.trans (k239.trans (k7)), k257.trans (k240.trans (k8)), k258.trans (k241.trans (k9)), k259.trans (k242.trans (k10)), k260.trans (k243.trans (k11)), k261.trans (k244.trans (k12))⟩)
            · have f269 := K1.g_3_7 hσ252
              first | have f270 := (noteqE (rfl : (σ252.1 3 7).toInt = (σ252.1 3 7).toInt) (show (0 : Int32).toInt = 0 from by decide)).mp c266 | skip
              have g272 : vp_in ((σ252.1 3 7) - 1) 40 := inE (sOkE (rfl : (σ252.1 3 7).toInt = (σ252.1 3 7).toInt) (show (1 : Int32).toInt = 1 from by decide) (by omega) (by omega)) (by omega) (by omega)
              refine ⟨g272, ?_⟩
              have hk273 : jobK (43 + ((σ252.1 3 7) - 1).toNatClampNeg) := (jobK_in g272)
              have hk273x := vp_lt g272
              have hk273b := jobK_b hk273
              intro σ274 eσ274
              have kb275 := jobK_b hk273
              have hσ274 : K1 σ0 σ274 := by rw [eσ274]; exact hσ252.u (rg_jobK hk273) (by omega) (by omega)
              intro σ276 eσ276
              have kb277 := jobK_b hk273
              have hσ276 : K1 σ0 σ276 := by rw [eσ276]; exact hσ274.u (rg_jobK hk273) (by omega) (by omega)
              refine ⟨fun c278 => ?_, fun c278 => ?_⟩
              · first | have f280 := (eqE (rfl : r14.toInt = r14.toInt) (show (192 : Int32).toInt = 192 from by decide)).mp c278 | skip
                unfold fX2_callFunction_j119
                refine sX2_fillLocals hN hk273 hσ276 (fun σ281 hσ281 kk293 => ?_)
                obtain ⟨k282, k283, k284, k285, k286, k287, k288, k289, k290, k291, k292⟩ := kk293
                exact hQ _ hσ281 (⟨k284.trans ((kq (a := 3) (b := 6) eσ276 (by omega)).trans ((kq (a := 3) (b := 6) eσ274 (by omega)).trans (k253.trans (k236.trans (k4))))), k285.trans ((kq (a := 9) (b := 9) eσ276 (by omega)).trans ((kq (a := 9) (b := 9) eσ274 (by omega)).trans (k254.trans (k237.trans (k5))))), k286.trans ((kq (a := 9) (b := 10) eσ276 (by omega)).trans ((kq (a := 9) (b := 10) eσ274 (by omega)).trans (k255.trans (k238.trans (k6))))), k287.trans ((kq (a := 6) (b := 5) eσ276 (by omega)).trans ((kq (a := 6) (b := 5) eσ274 (by omega)).trans (k256.trans (k239.trans (k7))))), k288.trans ((kq (a := 7) (b := 4) eσ276 (by omega)).trans ((kq (a := 7) (b := 4) eσ274 (by omega)).trans (k257.trans (k240.trans (k8))))), k289.trans ((kq (a := 2) (b := 4) eσ276 (by omega)).trans ((kq (a := 2) (b := 4) eσ274 (by omega)).trans (k258.trans (k241.trans (k9))))), k290.trans ((kq (a := 2) (b := 5) eσ276 (by omega)).trans ((kq (a := 2) (b := 5) eσ274 (by omega)).trans (k259.trans (k242.trans (k10))))), k291.trans ((kq (a := 2) (b := 6) eσ276 (by omega)).trans ((kq (a := 2) (b := 6) eσ274 (by omega)).trans (k260.trans (k243.trans (k11))))), k292.trans ((kq (a := 3) (b := 8) eσ276 (by omega)).trans ((kq (a := 3) (b := 8) eσ274 (by omega)).trans (k261.trans (k244.trans (k12)))))⟩)
              · first | have f295 := (noteqE (rfl : r14.toInt = r14.toInt) (show (192 : Int32).toInt = 192 from by decide)).mp c278 | skip
                unfold fX2_callFunction_j119
                refine sX2_fillLocals hN hk273 hσ276 (fun σ296 hσ296 kk308 => ?_)
                obtain ⟨k297, k298, k299, k300, k301, k302, k303, k304, k305, k306, k307⟩ := kk308
                exact hQ _ hσ296 (⟨k299.trans ((kq (a := 3) (b := 6) eσ276 (by omega)).trans ((kq (a := 3) (b := 6) eσ274 (by omega)).trans (k253.trans (k236.trans (k4))))), k300.trans ((kq (a := 9) (b := 9) eσ276 (by omega)).trans ((kq (a := 9) (b := 9) eσ274 (by omega)).trans (k254.trans (k237.trans (k5))))), k301.trans ((kq (a := 9) (b := 10) eσ276 (by omega)).trans ((kq (a := 9) (b := 10) eσ274 (by omega)).trans (k255.trans (k238.trans (k6))))), k302.trans ((kq (a := 6) (b := 5) eσ276 (by omega)).trans ((kq (a := 6) (b := 5) eσ274 (by omega)).trans (k256.trans (k239.trans (k7))))), k303.trans ((kq (a := 7) (b := 4) eσ276 (by omega)).trans ((kq (a := 7) (b := 4) eσ274 (by omega)).trans (k257.trans (k240.trans (k8))))), k304.trans ((kq (a := 2) (b := 4) eσ276 (by omega)).trans ((kq (a := 2) (b := 4) eσ274 (by omega)).trans (k258.trans (k241.trans (k9))))), k305.trans ((kq (a := 2) (b := 5) eσ276 (by omega)).trans ((kq (a := 2) (b := 5) eσ274 (by omega)).trans (k259.trans (k242.trans (k10))))), k306.trans ((kq (a := 2) (b := 6) eσ276 (by omega)).trans ((kq (a := 2) (b := 6) eσ274 (by omega)).trans (k260.trans (k243.trans (k11))))), k307.trans ((kq (a := 3) (b := 8) eσ276 (by omega)).trans ((kq (a := 3) (b := 8) eσ274 (by omega)).trans (k261.trans (k244.trans (k12)))))⟩)
          · have f309 := tB (σ252.1 3 11)
            first | have f310 := (noteqE (rfl : (σ252.1 3 11).toInt = (σ252.1 3 11).toInt) (show (0 : Int32).toInt = 0 from by decide)).mp c263 | skip
            exact hQ _ hσ252 (⟨k253.trans (k236.trans (k4)), k254.trans (k237.trans (k5)), k255.trans (k238.trans (k6)), k256.trans (k239.trans (k7)), k257.trans (k240.trans (k8)), k258.trans (k241.trans (k9)), k259.trans (k242.trans (k10)), k260.trans (k243.trans (k11)), k261.trans (k244.trans (k12))⟩)
        · have f311 := tB r246
          first | have f312 := (notleE (rfl : r246.toInt = r246.toInt) (show (8 : Int32).toInt = 8 from by decide)).mp c248 | skip
          unfold fX2_fail
          refine ⟨fun c313 => ?_, fun c313 => ?_⟩
          · have f314 := tB (σ234.1 3 11)
            first | have f315 := (eqE (rfl : (σ234.1 3 11).toInt = (σ234.1 3 11).toInt) (show (0 : Int32).toInt = 0 from by decide)).mp c313 | skip
            intro σ316 eσ316
            have hσ316 : K1 σ0 σ316 := by rw [eσ316]; exact hσ234.u (Rg1.u_3_11 _) (fun q => absurd q.1 (by decide)) (fun q => absurd q.1 (by decide))
            try dsimp only
            unfold fX2_callFunction_j55
            refine sX2_begin hN hσ316 (fun σ318 hσ318 kk328 => ?_)
            obtain ⟨k319, k320, k321, k322, k323, k324, k325, k326, k327⟩ := kk328
            refine ⟨fun c329 => ?_, fun c329 => ?_⟩
            · have f330 := tB (σ318.1 3 11)
              first | have f331 := (eqE (rfl : (σ318.1 3 11).toInt = (σ318.1 3 11).toInt) (show (0 : Int32).toInt = 0 from by decide)).mp c329 | skip
              refine ⟨fun c332 => ?_, fun c332 => ?_⟩
              · have f333 := K1.g_3_7 hσ318
                first | have f334 := (eqE (rfl : (σ318.1 3 7).toInt = (σ318.1 3 7).toInt) (show (0 : Int32).toInt = 0 from by decide)).mp c332 | skip
                exact hQ _ hσ318 (⟨k319.trans ((kq (a := 3) (b := 6) eσ316 (fun q => absurd q.2 (by decide))).trans (k236.trans (k4))), k320.trans ((kq (a := 9) (b := 9) eσ316 (fun q => absurd q.1 (by decide))).trans (k237.trans (k5))), k321.trans ((kq (a := 9) (b := 10) eσ316 (fun q => absurd q.1 (by decide))).trans (k238.trans (k6))), k322.trans ((kq (a := 6) (b := 5) eσ316 (fun q => absurd q.1 (by decide))).trans (k239.trans (k7))), k323.trans ((kq (a := 7) (b := 4) eσ316 (fun q => absurd q.1 (by decide))).trans (k240.trans (k8))), k324.trans ((kq (a := 2) (b := 4) eσ316 (fun q => absurd q.1 (by decide))).trans (k241.trans (k9))), k325.trans ((kq (a := 2) (b := 5) eσ316 (fun q => absurd q.1 (by decide))).trans (k242.trans (k10))), k326.trans ((kq (a := 2) (b := 6) eσ316 (fun q => absurd q.1 (by decide))).trans (k243.trans (k11))), k327.trans ((kq (a := 3) (b := 8) eσ316 (fun q => absurd q.2 (by decide))).trans (k244.trans (k12)))⟩)
              · have f335 := K1.g_3_7 hσ318
                first | have f336 := (noteqE (rfl : (σ318.1 3 7).toInt = (σ318.1 3 7).toInt) (show (0 : Int32).toInt = 0 from by decide)).mp c332 | skip
                have g338 : vp_in ((σ318.1 3 7) - 1) 40 := inE (sOkE (rfl : (σ318.1 3 7).toInt = (σ318.1 3 7).toInt) (show (1 : Int32).toInt = 1 from by decide) (by omega) (by omega)) (by omega) (by omega)
                refine ⟨g338, ?_⟩
                have hk339 : jobK (43 + ((σ318.1 3 7) - 1).toNatClampNeg) := (jobK_in g338)
                have hk339x := vp_lt g338
                have hk339b := jobK_b hk339
                intro σ340 eσ340
                have kb341 := jobK_b hk339
                have hσ340 : K1 σ0 σ340 := by rw [eσ340]; exact hσ318.u (rg_jobK hk339) (by omega) (by omega)
                intro σ342 eσ342
                have kb343 := jobK_b hk339
                have hσ342 : K1 σ0 σ342 := by rw [eσ342]; exact hσ340.u (rg_jobK hk339) (by omega) (by omega)
                refine ⟨fun c344 => ?_, fun c344 => ?_⟩
                · first | have f346 := (eqE (rfl : r14.toInt = r14.toInt) (show (192 : Int32).toInt = 192 from by decide)).mp c344 | skip
                  unfold fX2_callFunction_j119
                  refine sX2_fillLocals hN hk339 hσ342 (fun σ347 hσ347 kk359 => ?_)
                  obtain ⟨k348, k349, k350, k351, k352, k353, k354, k355, k356, k357, k358⟩ := kk359
                  exact hQ _ hσ347 (⟨k350.trans ((kq (a := 3) (b := 6) eσ342 (by omega)).trans ((kq (a := 3) (b := 6) eσ340 (by omega)).trans (k319.trans ((kq (a := 3) (b := 6) eσ316 (fun q => absurd q.2 (by decide))).trans (k236.trans (k4)))))), k351.trans ((kq (a := 9) (b := 9) eσ342 (by omega)).trans ((kq (a := 9) (b := 9) eσ340 (by omega)).trans (k320.trans ((kq (a := 9) (b := 9) eσ316 (fun q => absurd q.1 (by decide))).trans (k237.trans (k5)))))), k352.trans ((kq (a := 9) (b := 10) eσ342 (by omega)).trans ((kq (a := 9) (b := 10) eσ340 (by omega)).trans (k321.trans ((kq (a := 9) (b := 10) eσ316 (fun q => absurd q.1 (by decide))).trans (k238.trans (k6)))))), k353.trans ((kq (a := 6) (b := 5) eσ342 (by omega)).trans ((kq (a := 6) (b := 5) eσ340 (by omega)).trans (k322.trans ((kq (a := 6) (b := 5) eσ316 (fun q => absurd q.1 (by decide))).trans (k239.trans (k7)))))), k354.trans ((kq (a := 7) (b := 4) eσ342 (by omega)).trans ((kq (a := 7) (b := 4) eσ340 (by omega)).trans (k323.trans ((kq (a := 7) (b := 4) eσ316 (fun q => absurd q.1 (by decide))).trans (k240.trans (k8)))))), k355.trans ((kq (a := 2) (b := 4) eσ342 (by omega)).trans ((kq (a := 2) (b := 4) eσ340 (by omega)).trans (k324.trans ((kq (a := 2) (b := 4) eσ316 (fun q => absurd q.1 (by decide))).trans (k241.trans (k9)))))), k356.trans ((kq (a := 2) (b := 5) eσ342 (by omega)).trans ((kq (a := 2) (b := 5) eσ340 (by omega)).trans (k325.trans ((kq (a := 2) (b := 5) eσ316 (fun q => absurd q.1 (by decide))).trans (k242.trans (k10)))))), k357.trans ((kq (a := 2) (b := 6) eσ342 (by omega)).trans ((kq (a := 2) (b := 6) eσ340 (by omega)).trans (k326.trans ((kq (a := 2) (b := 6) eσ316 (fun q => absurd q.1 (by decide))).trans (k243.trans (k11)))))), k358.trans ((kq (a := 3) (b := 8) eσ342 (by omega)).trans ((kq (a := 3) (b := 8) eσ340 (by omega)).trans (k327.trans ((kq (a := 3) (b := 8) eσ316 (fun q => absurd q.2 (by decide))).trans (k244.trans (k12))))))⟩)
                · first | have f361 := (noteqE (rfl : r14.toInt = r14.toInt) (show (192 : Int32).toInt = 192 from by decide)).mp c344 | skip
                  unfold fX2_callFunction_j119
                  refine sX2_fillLocals hN hk339 hσ342 (fun σ362 hσ362 kk374 => ?_)
                  obtain ⟨k363, k364, k365, k366, k367, k368, k369, k370, k371, k372, k373⟩ := kk374
                  exact hQ _ hσ362 (⟨k365.trans ((kq (a := 3) (b := 6) eσ342 (by omega)).trans ((kq (a := 3) (b := 6) eσ340 (by omega)).trans (k319.trans ((kq (a := 3) (b := 6) eσ316 (fun q => absurd q.2 (by decide))).trans (k236.trans (k4)))))), k366.trans ((kq (a := 9) (b := 9) eσ342 (by omega)).trans ((kq (a := 9) (b := 9) eσ340 (by omega)).trans (k320.trans ((kq (a := 9) (b := 9) eσ316 (fun q => absurd q.1 (by decide))).trans (k237.trans (k5)))))), k367.trans ((kq (a := 9) (b := 10) eσ342 (by omega)).trans ((kq (a := 9) (b := 10) eσ340 (by omega)).trans (k321.trans ((kq (a := 9) (b := 10) eσ316 (fun q => absurd q.1 (by decide))).trans (k238.trans (k6)))))), k368.trans ((kq (a := 6) (b := 5) eσ342 (by omega)).trans ((kq (a := 6) (b := 5) eσ340 (by omega)).trans (k322.trans ((kq (a := 6) (b := 5) eσ316 (fun q => absurd q.1 (by decide))).trans (k239.trans (k7)))))), k369.trans ((kq (a := 7) (b := 4) eσ342 (by omega)).trans ((kq (a := 7) (b := 4) eσ340 (by omega)).trans (k323.trans ((kq (a := 7) (b := 4) eσ316 (fun q => absurd q.1 (by decide))).trans (k240.trans (k8)))))), k370.trans ((kq (a := 2) (b := 4) eσ342 (by omega)).trans ((kq (a := 2) (b := 4) eσ340 (by omega)).trans (k324.trans ((kq (a := 2) (b := 4) eσ316 (fun q => absurd q.1 (by decide))).trans (k241.trans (k9)))))), k371.trans ((kq (a := 2) (b := 5) eσ342 (by omega)).trans ((kq (a := 2) (b := 5) eσ340 (by omega)).trans (k325.trans ((kq (a := 2) (b := 5) eσ316 (fun q => absurd q.1 (by decide))).trans (k242.trans (k10)))))), k372.trans ((kq (a := 2) (b := 6) eσ342 (by omega)).trans ((kq (a := 2) (b := 6) eσ340 (by omega)).trans (k326.trans ((kq (a := 2) (b := 6) eσ316 (fun q => absurd q.1 (by decide))).trans (k243.trans (k11)))))), k373.trans ((kq (a := 3) (b := 8) eσ342 (by omega)).trans ((kq (a := 3) (b := 8) eσ340 (by omega)).trans (k327.trans ((kq (a := 3) (b := 8) eσ316 (fun q => absurd q.2 (by decide))).trans (k244.trans (k12))))))⟩)
            · have f375 := tB (σ318.1 3 11)
              first | have f376 := (noteqE (rfl : (σ318.1 3 11).toInt = (σ318.1 3 11).toInt) (show (0 : Int32).toInt = 0 from by decide)).mp c329 | skip
              exact hQ _ hσ318 (⟨k319.trans ((kq (a := 3) (b := 6) eσ316 (fun q => absurd q.2 (by decide))).trans (k236.trans (k4))), k320.trans ((kq (a := 9) (b := 9) eσ316 (fun q => absurd q.1 (by decide))).trans (k237.trans (k5))), k321.trans ((kq (a := 9) (b := 10) eσ316 (fun q => absurd q.1 (by decide))).trans (k238.trans (k6))), k322.trans ((kq (a := 6) (b := 5) eσ316 (fun q => absurd q.1 (by decide))).trans (k239.trans (k7))), k323.trans ((kq (a := 7) (b := 4) eσ316 (fun q => absurd q.1 (by decide))).trans (k240.trans (k8))), k324.trans ((kq (a := 2) (b := 4) eσ316 (fun q => absurd q.1 (by decide))).trans (k241.trans (k9))), k325.trans ((kq (a := 2) (b := 5) eσ316 (fun q => absurd q.1 (by decide))).trans (k242.trans (k10))), k326.trans ((kq (a := 2) (b := 6) eσ316 (fun q => absurd q.1 (by decide))).trans (k243.trans (k11))), k327.trans ((kq (a := 3) (b := 8) eσ316 (fun q => absurd q.2 (by decide))).trans (k244.trans (k12)))⟩)
          · have f377 := tB (σ234.1 3 11)
            first | have f378 := (noteqE (rfl : (σ234.1 3 11).toInt = (σ234.1 3 11).toInt) (show (0 : Int32).toInt = 0 from by decide)).mp c313 | skip
            try dsimp only
            unfold fX2_callFunction_j55
            refine sX2_begin hN hσ234 (fun σ380 hσ380 kk390 => ?_)
            obtain ⟨k381, k382, k383, k384, k385, k386, k387, k388, k389⟩ := kk390
            refine ⟨fun c391 => ?_, fun c391 => ?_⟩
            · have f392 := tB (σ380.1 3 11)
              first | have f393 := (eqE (rfl : (σ380.1 3 11).toInt = (σ380.1 3 11).toInt) (show (0 : Int32).toInt = 0 from by decide)).mp c391 | skip
              refine ⟨fun c394 => ?_, fun c394 => ?_⟩
              · have f395 := K1.g_3_7 hσ380
                first | have f396 := (eqE (rfl : (σ380.1 3 7).toInt = (σ380.1 3 7).toInt) (show (0 : Int32).toInt = 0 from by decide)).mp c394 | skip
                exact hQ _ hσ380 (⟨k381.trans (k236.trans (k4)), k382.trans (k237.trans (k5)), k383.trans (k238.trans (k6)), k384.trans (k239.trans (k7)), k385.trans (k240.trans (k8)), k386.trans (k241.trans (k9)), k387.trans (k242.trans (k10)), k388.trans (k243.trans (k11)), k389.trans (k244.trans (k12))⟩)
              · have f397 := K1.g_3_7 hσ380
                first | have f398 := (noteqE (rfl : (σ380.1 3 7).toInt = (σ380.1 3 7).toInt) (show (0 : Int32).toInt = 0 from by decide)).mp c394 | skip
                have g400 : vp_in ((σ380.1 3 7) - 1) 40 := inE (sOkE (rfl : (σ380.1 3 7).toInt = (σ380.1 3 7).toInt) (show (1 : Int32).toInt = 1 from by decide) (by omega) (by omega)) (by omega) (by omega)
                refine ⟨g400, ?_⟩
                have hk401 : jobK (43 + ((σ380.1 3 7) - 1).toNatClampNeg) := (jobK_in g400)
                have hk401x := vp_lt g400
                have hk401b := jobK_b hk401
                intro σ402 eσ402
                have kb403 := jobK_b hk401
                have hσ402 : K1 σ0 σ402 := by rw [eσ402]; exact hσ380.u (rg_jobK hk401) (by omega) (by omega)
                intro σ404 eσ404
                have kb405 := jobK_b hk401
                have hσ404 : K1 σ0 σ404 := by rw [eσ404]; exact hσ402.u (rg_jobK hk401) (by omega) (by omega)
                refine ⟨fun c406 => ?_, fun c406 => ?_⟩
                · first | have f408 := (eqE (rfl : r14.toInt = r14.toInt) (show (192 : Int32).toInt = 192 from by decide)).mp c406 | skip
                  unfold fX2_callFunction_j119
                  refine sX2_fillLocals hN hk401 hσ404 (fun σ409 hσ409 kk421 => ?_)
                  obtain ⟨k410, k411, k412, k413, k414, k415, k416, k417, k418, k419, k420⟩ := kk421
                  exact hQ _ hσ409 (⟨k412.trans ((kq (a := 3) (b := 6) eσ404 (by omega)).trans ((kq (a := 3) (b := 6) eσ402 (by omega)).trans (k381.trans (k236.trans (k4))))), k413.trans ((kq (a := 9) (b := 9) eσ404 (by omega)).trans ((kq (a := 9) (b := 9) eσ402 (by omega)).trans (k382.trans (k237.trans (k5))))), k414.trans ((kq (a := 9) (b := 10) eσ404 (by omega)).trans ((kq (a := 9) (b := 10) eσ402 (by omega)).trans (k383.trans (k238.trans (k6))))), k415.trans ((kq (a := 6) (b := 5) eσ404 (by omega)).trans ((kq (a := 6) (b := 5) eσ402 (by omega)).trans (k384.trans (k239.trans (k7))))), k416.trans ((kq (a := 7) (b := 4) eσ404 (by omega)).trans ((kq (a := 7) (b := 4) eσ402 (by omega)).trans (k385.trans (k240.trans (k8))))), k417.trans ((kq (a := 2) (b := 4) eσ404 (by omega)).trans ((kq (a := 2) (b := 4) eσ402 (by omega)).trans (k386.trans (k241.trans (k9))))), k418.trans ((kq (a := 2) (b := 5) eσ404 (by omega)).trans ((kq (a := 2) (b := 5) eσ402 (by omega)).trans (k387.trans (k242.trans (k10))))), k419.trans ((kq (a := 2) (b := 6) eσ404 (by omega)).trans ((kq (a := 2) (b := 6) eσ402 (by omega)).trans (k388.trans (k243.trans (k11))))), k420.trans ((kq (a := 3) (b := 8) eσ404 (by omega)).trans ((kq (a := 3) (b := 8) eσ402 (by omega)).trans (k389.trans (k244.trans (k12)))))⟩)
                · first | have f423 := (noteqE (rfl : r14.toInt = r14.toInt) (show (192 : Int32).toInt = 192 from by decide)).mp c406 | skip
                  unfold fX2_callFunction_j119
                  refine sX2_fillLocals hN hk401 hσ404 (fun σ424 hσ424 kk436 => ?_)
                  obtain ⟨k425, k426, k427, k428, k429, k430, k431, k432, k433, k434, k435⟩ := kk436
                  exact hQ _ hσ424 (⟨k427.trans ((kq (a := 3) (b := 6) eσ404 (by omega)).trans ((kq (a := 3) (b := 6) eσ402 (by omega)).trans (k381.trans (k236.trans (k4))))), k428.trans ((kq (a := 9) (b := 9) eσ404 (by omega)).trans ((kq (a := 9) (b := 9) eσ402 (by omega)).trans (k382.trans (k237.trans (k5))))), k429.trans ((kq (a := 9) (b := 10) eσ404 (by omega)).trans ((kq (a := 9) (b := 10) eσ402 (by omega)).trans (k383.trans (k238.trans (k6))))), k430.trans ((kq (a := 6) (b := 5) eσ404 (by omega)).trans ((kq (a := 6) (b := 5) eσ402 (by omega)).trans (k384.trans (k239.trans (k7))))), k431.trans ((kq (a := 7) (b := 4) eσ404 (by omega)).trans ((kq (a := 7) (b := 4) eσ402 (by omega)).trans (k385.trans (k240.trans (k8))))), k432.trans ((kq (a := 2) (b := 4) eσ404 (by omega)).trans ((kq (a := 2) (b := 4) eσ402 (by omega)).trans (k386.trans (k241.trans (k9))))), k433.trans ((kq (a := 2) (b := 5) eσ404 (by omega)).trans ((kq (a := 2) (b := 5) eσ402 (by omega)).trans (k387.trans (k242.trans (k10))))), k434.trans ((kq (a := 2) (b := 6) eσ404 (by omega)).trans ((kq (a := 2) (b := 6) eσ402 (by omega)).trans (k388.trans (k243.trans (k11))))), k435.trans ((kq (a := 3) (b := 8) eσ404 (by omega)).trans ((kq (a := 3) (b := 8) eσ402 (by omega)).trans (k389.trans (k244.trans (k12)))))⟩)
            · have f437 := tB (σ380.1 3 11)
              first | have f438 := (noteqE (rfl : (σ380.1 3 11).toInt = (σ380.1 3 11).toInt) (show (0 : Int32).toInt = 0 from by decide)).mp c391 | skip
              exact hQ _ hσ380 (⟨k381.trans (k236.trans (k4)), k382.trans (k237.trans (k5)), k383.trans (k238.trans (k6)), k384.trans (k239.trans (k7)), k385.trans (k240.trans (k8)), k386.trans (k241.trans (k9)), k387.trans (k242.trans (k10)), k388.trans (k243.trans (k11)), k389.trans (k244.trans (k12))⟩)
      · first | have f440 := (noteqE (rfl : r14.toInt = r14.toInt) (show (193 : Int32).toInt = 193 from by decide)).mp c230 | skip
        unfold fX2_fail
        refine ⟨fun c441 => ?_, fun c441 => ?_⟩
        · first | have f443 := (eqE (rfl : (σ2.1 3 11).toInt = (σ2.1 3 11).toInt) (show (0 : Int32).toInt = 0 from by decide)).mp c441 | skip
          intro σ444 eσ444
          have hσ444 : K1 σ0 σ444 := by rw [eσ444]; exact hσ2.u (Rg1.u_3_11 _) (fun q => absurd q.1 (by decide)) (fun q => absurd q.1 (by decide))
          try dsimp only
          exact hQ _ hσ444 (⟨(kq (a := 3) (b := 6) eσ444 (fun q => absurd q.2 (by decide))).trans (k4), (kq (a := 9) (b := 9) eσ444 (fun q => absurd q.1 (by decide))).trans (k5), (kq (a := 9) (b := 10) eσ444 (fun q => absurd q.1 (by decide))).trans (k6), (kq (a := 6) (b := 5) eσ444 (fun q => absurd q.1 (by decide))).trans (k7), (kq (a := 7) (b := 4) eσ444 (fun q => absurd q.1 (by decide))).trans (k8), (kq (a := 2) (b := 4) eσ444 (fun q => absurd q.1 (by decide))).trans (k9), (kq (a := 2) (b := 5) eσ444 (fun q => absurd q.1 (by decide))).trans (k10), (kq (a := 2) (b := 6) eσ444 (fun q => absurd q.1 (by decide))).trans (k11), (kq (a := 3) (b := 8) eσ444 (fun q => absurd q.2 (by decide))).trans (k12)⟩)
        · first | have f446 := (noteqE (rfl : (σ2.1 3 11).toInt = (σ2.1 3 11).toInt) (show (0 : Int32).toInt = 0 from by decide)).mp c441 | skip
          try dsimp only
          exact hQ _ hσ2 (⟨k4, k5, k6, k7, k8, k9, k10, k11, k12⟩)
  · have f447 := tB (σ2.1 3 11)
    first | have f448 := (noteqE (rfl : (σ2.1 3 11).toInt = (σ2.1 3 11).toInt) (show (0 : Int32).toInt = 0 from by decide)).mp c16 | skip
    exact hQ _ hσ2 (⟨k4, k5, k6, k7, k8, k9, k10, k11, k12⟩)
set_option maxHeartbeats 4000000 in
theorem sX2_doCallOrder {N : Nat} (hN : 4294967400 ≤ N) {k1 : Nat} (hk1 : jobK k1) {Q : St → Prop} {σ0 σ : St} (hσ : K1 σ0 σ) (hQ : ∀ τ : St, K1 σ0 τ → (τ.1 9 9 = σ.1 9 9 ∧ τ.1 9 10 = σ.1 9 10 ∧ τ.1 6 5 = σ.1 6 5 ∧ τ.1 7 4 = σ.1 7 4 ∧ τ.1 2 4 = σ.1 2 4 ∧ τ.1 2 5 = σ.1 2 5 ∧ τ.1 2 6 = σ.1 2 6 ∧ τ.1 3 8 = σ.1 3 8) → Q τ) : fX2_doCallOrder N k1 Q σ := by
  unfold fX2_doCallOrder
  have kbhk1 := jobK_b hk1
  refine sX2_nextValue hN hk1 hσ (fun r13 σ1 hσ1 kk12 p14 => ?_)
  obtain ⟨k2, k3, k4, k5, k6, k7, k8, k9, k10, k11⟩ := kk12
  refine sX2_nextByte hN hσ1 (fun r27 σ15 hσ15 kk26 p28 => ?_)
  obtain ⟨k16, k17, k18, k19, k20, k21, k22, k23, k24, k25⟩ := kk26
  refine ⟨fun c29 => ?_, fun c29 => ?_⟩
  · have f30 := tB r27
    first | have f31 := (leE (rfl : r27.toInt = r27.toInt) (show (4 : Int32).toInt = 4 from by decide)).mp c29 | skip
    unfold fX2_doCallOrder_j22
    refine ⟨fun c32 => ?_, fun c32 => ?_⟩
    · have f33 := tB (σ15.1 3 11)
      first | have f34 := (eqE (rfl : (σ15.1 3 11).toInt = (σ15.1 3 11).toInt) (show (0 : Int32).toInt = 0 from by decide)).mp c32 | skip
      have f36 := tB r13
      refine lo1_i (fun (y35 : Int32) (τ : St) => K1 σ0 τ ∧ τ.1 3 7 = σ15.1 3 7 ∧ τ.1 3 6 = σ15.1 3 6 ∧ τ.1 9 9 = σ15.1 9 9 ∧ τ.1 9 10 = σ15.1 9 10 ∧ τ.1 6 5 = σ15.1 6 5 ∧ τ.1 7 4 = σ15.1 7 4 ∧ τ.1 2 4 = σ15.1 2 4 ∧ τ.1 2 5 = σ15.1 2 5 ∧ τ.1 2 6 = σ15.1 2 6 ∧ τ.1 3 8 = σ15.1 3 8 ∧ 0 ≤ y35.toInt) (fun (y35 : Int32) (τ : St) => (2147483648 - y35.toInt).toNat) ?_ N (0 : Int32) σ15 ⟨hσ15, rfl, rfl, rfl, rfl, rfl, rfl, rfl, rfl, rfl, rfl, by first | decide | (have z0 : (0 : Int32).toInt = 0 := (by decide); omega)⟩ (by have z0 : (0 : Int32).toInt = 0 := (by decide); (try dsimp only); omega)
      intro rr38 y41 σ40 hIσ40 ih39
      obtain ⟨hσ40, k42, k43, k44, k45, k46, k47, k48, k49, k50, k51, i52⟩ := hIσ40
      unfold fX2_doCallOrder_l33
      have f53 := tB y41
      refine ⟨fun c54 => ?_, fun c54 => ?_⟩
      · first | have f57 := (leE (rfl : r27.toInt = r27.toInt) (rfl : y41.toInt = y41.toInt)).mp c54 | skip
        intro σ58 eσ58
        have hσ58 : K1 σ0 σ58 := by rw [eσ58]; exact hσ40.u (Rg1.r_3_6 (leP (rfl : r27.toInt = r27.toInt) (by omega)) (geP (rfl : r27.toInt = r27.toInt) (by omega))) (fun q => absurd q.1 (by decide)) (fun q => absurd q.1 (by decide))
        refine sX2_nextTarget hN hk1 hσ58 (fun r72 σ60 hσ60 kk71 p73 => ?_)
        obtain ⟨k61, k62, k63, k64, k65, k66, k67, k68, k69, k70⟩ := kk71
        refine ⟨fun c74 => ?_, fun c74 => ?_⟩
        · have f75 := tB (σ60.1 3 11)
          first | have f76 := (eqE (rfl : (σ60.1 3 11).toInt = (σ60.1 3 11).toInt) (show (0 : Int32).toInt = 0 from by decide)).mp c74 | skip
          intro v77 ev77
          intro σ78 eσ78
          have kb79 := jobK_b hk1
          have hσ78 : K1 σ0 σ78 := by rw [eσ78]; exact hσ60.u (rg_jobK hk1) (by omega) (by omega)
          have f81 := tB r72
          refine sX2_callFunction hN hσ78 (fun σ82 hσ82 kk92 => ?_)
          obtain ⟨k83, k84, k85, k86, k87, k88, k89, k90, k91⟩ := kk92
          exact hQ _ hσ82 (⟨k84.trans ((kq (a := 9) (b := 9) eσ78 (by omega)).trans (k63.trans ((kq (a := 9) (b := 9) eσ58 (fun q => absurd q.1 (by decide))).trans (k44.trans (k18.trans (k4)))))), k85.trans ((kq (a := 9) (b := 10) eσ78 (by omega)).trans (k64.trans ((kq (a := 9) (b := 10) eσ58 (fun q => absurd q.1 (by decide))).trans (k45.trans (k19.trans (k5)))))), k86.trans ((kq (a := 6) (b := 5) eσ78 (by omega)).trans (k65.trans ((kq (a := 6) (b := 5) eσ58 (fun q => absurd q.1 (by decide))).trans (k46.trans (k20.trans (k6)))))), k87.trans ((kq (a := 7) (b := 4) eσ78 (by omega)).trans (k66.trans ((kq (a := 7) (b := 4) eσ58 (fun q => absurd q.1 (by decide))).trans (k47.trans (k21.trans (k7)))))), k88.trans ((kq (a := 2) (b := 4) eσ78 (by omega)).trans (k67.trans ((kq (a := 2) (b := 4) eσ58 (fun q => absurd q.1 (by decide))).trans (k48.trans (k22.trans (k8)))))), k89.trans ((kq (a := 2) (b := 5) eσ78 (by omega)).trans (k68.trans ((kq (a := 2) (b := 5) eσ58 (fun q => absurd q.1 (by decide))).trans (k49.trans (k23.trans (k9)))))), k90.trans ((kq (a := 2) (b := 6) eσ78 (by omega)).trans (k69.trans ((kq (a := 2) (b := 6) eσ58 (fun q => absurd q.1 (by decide))).trans (k50.trans (k24.trans (k10)))))), k91.trans ((kq (a := 3) (b := 8) eσ78 (by omega)).trans (k70.trans ((kq (a := 3) (b := 8) eσ58 (fun q => absurd q.2 (by decide))).trans (k51.trans (k25.trans (k11))))))⟩)
        · have f93 := tB (σ60.1 3 11)
          first | have f94 := (noteqE (rfl : (σ60.1 3 11).toInt = (σ60.1 3 11).toInt) (show (0 : Int32).toInt = 0 from by decide)).mp c74 | skip
          exact hQ _ hσ60 (⟨k63.trans ((kq (a := 9) (b := 9) eσ58 (fun q => absurd q.1 (by decide))).trans (k44.trans (k18.trans (k4)))), k64.trans ((kq (a := 9) (b := 10) eσ58 (fun q => absurd q.1 (by decide))).trans (k45.trans (k19.trans (k5)))), k65.trans ((kq (a := 6) (b := 5) eσ58 (fun q => absurd q.1 (by decide))).trans (k46.trans (k20.trans (k6)))), k66.trans ((kq (a := 7) (b := 4) eσ58 (fun q => absurd q.1 (by decide))).trans (k47.trans (k21.trans (k7)))), k67.trans ((kq (a := 2) (b := 4) eσ58 (fun q => absurd q.1 (by decide))).trans (k48.trans (k22.trans (k8)))), k68.trans ((kq (a := 2) (b := 5) eσ58 (fun q => absurd q.1 (by decide))).trans (k49.trans (k23.trans (k9)))), k69.trans ((kq (a := 2) (b := 6) eσ58 (fun q => absurd q.1 (by decide))).trans (k50.trans (k24.trans (k10)))), k70.trans ((kq (a := 3) (b := 8) eσ58 (fun q => absurd q.2 (by decide))).trans (k51.trans (k25.trans (k11))))⟩)
      · first | have f97 := (notleE (rfl : r27.toInt = r27.toInt) (rfl : y41.toInt = y41.toInt)).mp c54 | skip
        refine sX2_nextValue hN hk1 hσ40 (fun r110 σ98 hσ98 kk109 p111 => ?_)
        obtain ⟨k99, k100, k101, k102, k103, k104, k105, k106, k107, k108⟩ := kk109
        refine ⟨inE (rfl : y41.toInt = y41.toInt) (by omega) (by omega), ?_⟩
        intro σ113 eσ113
        have hσ113 : K1 σ0 σ113 := by rw [eσ113]; exact hσ98.u (Rg1.ra_17 _ _) (fun q => absurd q.1 (by decide)) (fun q => absurd q.1 (by decide))
        intro v114 ev114
        have f115 := tB v114
        first | have f117 : v114.toInt = (y41.toInt + (1)) := (congrArg Int32.toInt ev114).trans (aOkE (rfl : y41.toInt = y41.toInt) (show (1 : Int32).toInt = 1 from by decide) (by omega) (by omega)) | skip
        exact ih39 v114 σ113 ⟨hσ113, (kq (a := 3) (b := 7) eσ113 (fun q => absurd q.1 (by decide))).trans (k99.trans (k42)), (kq (a := 3) (b := 6) eσ113 (fun q => absurd q.1 (by decide))).trans (k100.trans (k43)), (kq (a := 9) (b := 9) eσ113 (fun q => absurd q.1 (by decide))).trans (k101.trans (k44)), (kq (a := 9) (b := 10) eσ113 (fun q => absurd q.1 (by decide))).trans (k102.trans (k45)), (kq (a := 6) (b := 5) eσ113 (fun q => absurd q.1 (by decide))).trans (k103.trans (k46)), (kq (a := 7) (b := 4) eσ113 (fun q => absurd q.1 (by decide))).trans (k104.trans (k47)), (kq (a := 2) (b := 4) eσ113 (fun q => absurd q.1 (by decide))).trans (k105.trans (k48)), (kq (a := 2) (b := 5) eσ113 (fun q => absurd q.1 (by decide))).trans (k106.trans (k49)), (kq (a := 2) (b := 6) eσ113 (fun q => absurd q.1 (by decide))).trans (k107.trans (k50)), (kq (a := 3) (b := 8) eσ113 (fun q => absurd q.1 (by decide))).trans (k108.trans (k51)), by omega⟩ (by (try dsimp only); omega)
    · have f118 := tB (σ15.1 3 11)
      first | have f119 := (noteqE (rfl : (σ15.1 3 11).toInt = (σ15.1 3 11).toInt) (show (0 : Int32).toInt = 0 from by decide)).mp c32 | skip
      exact hQ _ hσ15 (⟨k18.trans (k4), k19.trans (k5), k20.trans (k6), k21.trans (k7), k22.trans (k8), k23.trans (k9), k24.trans (k10), k25.trans (k11)⟩)
  · have f120 := tB r27
    first | have f121 := (notleE (rfl : r27.toInt = r27.toInt) (show (4 : Int32).toInt = 4 from by decide)).mp c29 | skip
    unfold fX2_fail
    refine ⟨fun c122 => ?_, fun c122 => ?_⟩
    · have f123 := tB (σ15.1 3 11)
      first | have f124 := (eqE (rfl : (σ15.1 3 11).toInt = (σ15.1 3 11).toInt) (show (0 : Int32).toInt = 0 from by decide)).mp c122 | skip
      intro σ125 eσ125
      have hσ125 : K1 σ0 σ125 := by rw [eσ125]; exact hσ15.u (Rg1.u_3_11 _) (fun q => absurd q.1 (by decide)) (fun q => absurd q.1 (by decide))
      try dsimp only
      unfold fX2_doCallOrder_j22
      refine ⟨fun c126 => ?_, fun c126 => ?_⟩
      · have f127 := tB (σ125.1 3 11)
        have q128 : σ125.1 3 11 = 6 := by rw [eσ125, u1_at]; exact if_pos rfl
        first | have f129 : (σ125.1 3 11).toInt = (6) := (congrArg Int32.toInt q128).trans (show (6 : Int32).toInt = 6 from by decide) | skip
        first | have f130 := (eqE (rfl : (σ125.1 3 11).toInt = (σ125.1 3 11).toInt) (show (0 : Int32).toInt = 0 from by decide)).mp c126 | skip
        have f132 := tB r13
        refine lo1_i (fun (y131 : Int32) (τ : St) => K1 σ0 τ ∧ τ.1 3 7 = σ125.1 3 7 ∧ τ.1 3 6 = σ125.1 3 6 ∧ τ.1 9 9 = σ125.1 9 9 ∧ τ.1 9 10 = σ125.1 9 10 ∧ τ.1 6 5 = σ125.1 6 5 ∧ τ.1 7 4 = σ125.1 7 4 ∧ τ.1 2 4 = σ125.1 2 4 ∧ τ.1 2 5 = σ125.1 2 5 ∧ τ.1 2 6 = σ125.1 2 6 ∧ τ.1 3 8 = σ125.1 3 8 ∧ 0 ≤ y131.toInt) (fun (y131 : Int32) (τ : St) => (2147483648 - y131.toInt).toNat) ?_ N (0 : Int32) σ125 ⟨hσ125, rfl, rfl, rfl, rfl, rfl, rfl, rfl, rfl, rfl, rfl, by first | decide | (have z0 : (0 : Int32).toInt = 0 := (by decide); omega)⟩ (by have z0 : (0 : Int32).toInt = 0 := (by decide); (try dsimp only); omega)
        intro rr134 y137 σ136 hIσ136 ih135
        obtain ⟨hσ136, k138, k139, k140, k141, k142, k143, k144, k145, k146, k147, i148⟩ := hIσ136
        unfold fX2_doCallOrder_l33
        have f149 := tB y137
        refine ⟨fun c150 => ?_, fun c150 => ?_⟩
        · first | have f153 := (leE (rfl : r27.toInt = r27.toInt) (rfl : y137.toInt = y137.toInt)).mp c150 | skip
          intro σ154 eσ154
          have hσ154 : K1 σ0 σ154 := by rw [eσ154]; exact hσ136.u (Rg1.r_3_6 (leP (rfl : r27.toInt = r27.toInt) (by omega)) (geP (rfl : r27.toInt = r27.toInt) (by omega))) (fun q => absurd q.1 (by decide)) (fun q => absurd q.1 (by decide))
          refine sX2_nextTarget hN hk1 hσ154 (fun r168 σ156 hσ156 kk167 p169 => ?_)
          obtain ⟨k157, k158, k159, k160, k161, k162, k163, k164, k165, k166⟩ := kk167
          refine ⟨fun c170 => ?_, fun c170 => ?_⟩
          · have f171 := tB (σ156.1 3 11)
            first | have f172 := (eqE (rfl : (σ156.1 3 11).toInt = (σ156.1 3 11).toInt) (show (0 : Int32).toInt = 0 from by decide)).mp c170 | skip
            intro v173 ev173
            intro σ174 eσ174
            have kb175 := jobK_b hk1
            have hσ174 : K1 σ0 σ174 := by rw [eσ174]; exact hσ156.u (rg_jobK hk1) (by omega) (by omega)
            have f177 := tB r168
            refine sX2_callFunction hN hσ174 (fun σ178 hσ178 kk188 => ?_)
            obtain ⟨k179, k180, k181, k182, k183, k184, k185, k186, k187⟩ := kk188
            exact hQ _ hσ178 (⟨k180.trans ((kq (a := 9) (b := 9) eσ174 (by omega)).trans (k159.trans ((kq (a := 9) (b := 9) eσ154 (fun q => absurd q.1 (by decide))).trans (k140.trans ((kq (a := 9) (b := 9) eσ125 (fun q => absurd q.1 (by decide))).trans (k18.trans (k4))))))), k181.trans ((kq (a := 9) (b := 10) eσ174 (by omega)).trans (k160.trans ((kq (a := 9) (b := 10) eσ154 (fun q => absurd q.1 (by decide))).trans (k141.trans ((kq (a := 9) (b := 10) eσ125 (fun q => absurd q.1 (by decide))).trans (k19.trans (k5))))))), k182.trans ((kq (a := 6) (b := 5) eσ174 (by omega)).trans (k161.trans ((kq (a := 6) (b := 5) eσ154 (fun q => absurd q.1 (by decide))).trans (k142.trans ((kq (a := 6) (b := 5) eσ125 (fun q => absurd q.1 (by decide))).trans (k20.trans (k6))))))), k183.trans ((kq (a := 7) (b := 4) eσ174 (by omega)).trans (k162.trans ((kq (a := 7) (b := 4) eσ154 (fun q => absurd q.1 (by decide))).trans (k143.trans ((kq (a := 7) (b := 4) eσ125 (fun q => absurd q.1 (by decide))).trans (k21.trans (k7))))))), k184.trans ((kq (a := 2) (b := 4) eσ174 (by omega)).trans (k163.trans ((kq (a := 2) (b := 4) eσ154 (fun q => absurd q.1 (by decide))).trans (k144.trans ((kq (a := 2) (b := 4) eσ125 (fun q => absurd q.1 (by decide))).trans (k22.trans (k8))))))), k185.trans ((kq (a := 2) (b := 5) eσ174 (by omega)).trans (k164.trans ((kq (a := 2) (b := 5) eσ154 (fun q => absurd q.1 (by decide))).trans (k145.trans ((kq (a := 2) (b := 5) eσ125 (fun q => absurd q.1 (by decide))).trans (k23.trans (k9))))))), k186.trans ((kq (a := 2) (b := 6) eσ174 (by omega)).trans (k165.trans ((kq (a := 2) (b := 6) eσ154 (fun q => absurd q.1 (by decide))).trans (k146.trans ((kq (a := 2) (b := 6) eσ125 (fun q => absurd q.1 (by decide))).trans (k24.trans (k10))))))), k187.trans ((kq (a := 3) (b := 8) eσ174 (by omega)).trans (k166.trans ((kq (a := 3) (b := 8) eσ154 (fun q => absurd q.2 (by decide))).trans (k147.trans ((kq (a := 3) (b := 8) eσ125 (fun q => absurd q.2 (by decide))).trans (k25.trans (k11)))))))⟩)
          · have f189 := tB (σ156.1 3 11)
            first | have f190 := (noteqE (rfl : (σ156.1 3 11).toInt = (σ156.1 3 11).toInt) (show (0 : Int32).toInt = 0 from by decide)).mp c170 | skip
            exact hQ _ hσ156 (⟨k159.trans ((kq (a := 9) (b := 9) eσ154 (fun q => absurd q.1 (by decide))).trans (k140.trans ((kq (a := 9) (b := 9) eσ125 (fun q => absurd q.1 (by decide))).trans (k18.trans (k4))))), k160.trans ((kq (a := 9) (b := 10) eσ154 (fun q => absurd q.1 (by decide))).trans (k141.trans ((kq (a := 9) (b := 10) eσ125 (fun q => absurd q.1 (by decide))).trans (k19.trans (k5))))), k161.trans ((kq (a := 6) (b := 5) eσ154 (fun q => absurd q.1 (by decide))).trans (k142.trans ((kq (a := 6) (b := 5) eσ125 (fun q => absurd q.1 (by decide))).trans (k20.trans (k6))))), k162.trans ((kq (a := 7) (b := 4) eσ154 (fun q => absurd q.1 (by decide))).trans (k143.trans ((kq (a := 7) (b := 4) eσ125 (fun q => absurd q.1 (by decide))).trans (k21.trans (k7))))), k163.trans ((kq (a := 2) (b := 4) eσ154 (fun q => absurd q.1 (by decide))).trans (k144.trans ((kq (a := 2) (b := 4) eσ125 (fun q => absurd q.1 (by decide))).trans (k22.trans (k8))))), k164.trans ((kq (a := 2) (b := 5) eσ154 (fun q => absurd q.1 (by decide))).trans (k145.trans ((kq (a := 2) (b := 5) eσ125 (fun q => absurd q.1 (by decide))).trans (k23.trans (k9))))), k165.trans ((kq (a := 2) (b := 6) eσ154 (fun q => absurd q.1 (by decide))).trans (k146.trans ((kq (a := 2) (b := 6) eσ125 (fun q => absurd q.1 (by decide))).trans (k24.trans (k10))))), k166.trans ((kq (a := 3) (b := 8) eσ154 (fun q => absurd q.2 (by decide))).trans (k147.trans ((kq (a := 3) (b := 8) eσ125 (fun q => absurd q.2 (by decide))).trans (k25.trans (k11)))))⟩)
        · first | have f193 := (notleE (rfl : r27.toInt = r27.toInt) (rfl : y137.toInt = y137.toInt)).mp c150 | skip
          refine sX2_nextValue hN hk1 hσ136 (fun r206 σ194 hσ194 kk205 p207 => ?_)
          obtain ⟨k195, k196, k197, k198, k199, k200, k201, k202, k203, k204⟩ := kk205
          refine ⟨inE (rfl : y137.toInt = y137.toInt) (by omega) (by omega), ?_⟩
          intro σ209 eσ209
          have hσ209 : K1 σ0 σ209 := by rw [eσ209]; exact hσ194.u (Rg1.ra_17 _ _) (fun q => absurd q.1 (by decide)) (fun q => absurd q.1 (by decide))
          intro v210 ev210
          have f211 := tB v210
          first | have f213 : v210.toInt = (y137.toInt + (1)) := (congrArg Int32.toInt ev210).trans (aOkE (rfl : y137.toInt = y137.toInt) (show (1 : Int32).toInt = 1 from by decide) (by omega) (by omega)) | skip
          exact ih135 v210 σ209 ⟨hσ209, (kq (a := 3) (b := 7) eσ209 (fun q => absurd q.1 (by decide))).trans (k195.trans (k138)), (kq (a := 3) (b := 6) eσ209 (fun q => absurd q.1 (by decide))).trans (k196.trans (k139)), (kq (a := 9) (b := 9) eσ209 (fun q => absurd q.1 (by decide))).trans (k197.trans (k140)), (kq (a := 9) (b := 10) eσ209 (fun q => absurd q.1 (by decide))).trans (k198.trans (k141)), (kq (a := 6) (b := 5) eσ209 (fun q => absurd q.1 (by decide))).trans (k199.trans (k142)), (kq (a := 7) (b := 4) eσ209 (fun q => absurd q.1 (by decide))).trans (k200.trans (k143)), (kq (a := 2) (b := 4) eσ209 (fun q => absurd q.1 (by decide))).trans (k201.trans (k144)), (kq (a := 2) (b := 5) eσ209 (fun q => absurd q.1 (by decide))).trans (k202.trans (k145)), (kq (a := 2) (b := 6) eσ209 (fun q => absurd q.1 (by decide))).trans (k203.trans (k146)), (kq (a := 3) (b := 8) eσ209 (fun q => absurd q.1 (by decide))).trans (k204.trans (k147)), by omega⟩ (by (try dsimp only); omega)
      · have f214 := tB (σ125.1 3 11)
        have q215 : σ125.1 3 11 = 6 := by rw [eσ125, u1_at]; exact if_pos rfl
        first | have f216 : (σ125.1 3 11).toInt = (6) := (congrArg Int32.toInt q215).trans (show (6 : Int32).toInt = 6 from by decide) | skip
        first | have f217 := (noteqE (rfl : (σ125.1 3 11).toInt = (σ125.1 3 11).toInt) (show (0 : Int32).toInt = 0 from by decide)).mp c126 | skip
        exact hQ _ hσ125 (⟨(kq (a := 9) (b := 9) eσ125 (fun q => absurd q.1 (by decide))).trans (k18.trans (k4)), (kq (a := 9) (b := 10) eσ125 (fun q => absurd q.1 (by decide))).trans (k19.trans (k5)), (kq (a := 6) (b := 5) eσ125 (fun q => absurd q.1 (by decide))).trans (k20.trans (k6)), (kq (a := 7) (b := 4) eσ125 (fun q => absurd q.1 (by decide))).trans (k21.trans (k7)), (kq (a := 2) (b := 4) eσ125 (fun q => absurd q.1 (by decide))).trans (k22.trans (k8)), (kq (a := 2) (b := 5) eσ125 (fun q => absurd q.1 (by decide))).trans (k23.trans (k9)), (kq (a := 2) (b := 6) eσ125 (fun q => absurd q.1 (by decide))).trans (k24.trans (k10)), (kq (a := 3) (b := 8) eσ125 (fun q => absurd q.2 (by decide))).trans (k25.trans (k11))⟩)
    · have f218 := tB (σ15.1 3 11)
      first | have f219 := (noteqE (rfl : (σ15.1 3 11).toInt = (σ15.1 3 11).toInt) (show (0 : Int32).toInt = 0 from by decide)).mp c122 | skip
      try dsimp only
      unfold fX2_doCallOrder_j22
      refine ⟨fun c220 => ?_, fun c220 => ?_⟩
      · first | have f222 := (eqE (rfl : (σ15.1 3 11).toInt = (σ15.1 3 11).toInt) (show (0 : Int32).toInt = 0 from by decide)).mp c220 | skip
        have f224 := tB r13
        refine lo1_i (fun (y223 : Int32) (τ : St) => K1 σ0 τ ∧ τ.1 3 7 = σ15.1 3 7 ∧ τ.1 3 6 = σ15.1 3 6 ∧ τ.1 9 9 = σ15.1 9 9 ∧ τ.1 9 10 = σ15.1 9 10 ∧ τ.1 6 5 = σ15.1 6 5 ∧ τ.1 7 4 = σ15.1 7 4 ∧ τ.1 2 4 = σ15.1 2 4 ∧ τ.1 2 5 = σ15.1 2 5 ∧ τ.1 2 6 = σ15.1 2 6 ∧ τ.1 3 8 = σ15.1 3 8 ∧ 0 ≤ y223.toInt) (fun (y223 : Int32) (τ : St) => (2147483648 - y223.toInt).toNat) ?_ N (0 : Int32) σ15 ⟨hσ15, rfl, rfl, rfl, rfl, rfl, rfl, rfl, rfl, rfl, rfl, by first | decide | (have z0 : (0 : Int32).toInt = 0 := (by decide); omega)⟩ (by have z0 : (0 : Int32).toInt = 0 := (by decide); (try dsimp only); omega)
        intro rr226 y229 σ228 hIσ228 ih227
        obtain ⟨hσ228, k230, k231, k232, k233, k234, k235, k236, k237, k238, k239, i240⟩ := hIσ228
        unfold fX2_doCallOrder_l33
        have f241 := tB y229
        refine ⟨fun c242 => ?_, fun c242 => ?_⟩
        · first | have f245 := (leE (rfl : r27.toInt = r27.toInt) (rfl : y229.toInt = y229.toInt)).mp c242 | skip
          intro σ246 eσ246
          have hσ246 : K1 σ0 σ246 := by rw [eσ246]; exact hσ228.u (Rg1.r_3_6 (leP (rfl : r27.toInt = r27.toInt) (by omega)) (geP (rfl : r27.toInt = r27.toInt) (by omega))) (fun q => absurd q.1 (by decide)) (fun q => absurd q.1 (by decide))
          refine sX2_nextTarget hN hk1 hσ246 (fun r260 σ248 hσ248 kk259 p261 => ?_)
          obtain ⟨k249, k250, k251, k252, k253, k254, k255, k256, k257, k258⟩ := kk259
          refine ⟨fun c262 => ?_, fun c262 => ?_⟩
          · have f263 := tB (σ248.1 3 11)
            first | have f264 := (eqE (rfl : (σ248.1 3 11).toInt = (σ248.1 3 11).toInt) (show (0 : Int32).toInt = 0 from by decide)).mp c262 | skip
            intro v265 ev265
            intro σ266 eσ266
            have kb267 := jobK_b hk1
            have hσ266 : K1 σ0 σ266 := by rw [eσ266]; exact hσ248.u (rg_jobK hk1) (by omega) (by omega)
            have f269 := tB r260
            refine sX2_callFunction hN hσ266 (fun σ270 hσ270 kk280 => ?_)
            obtain ⟨k271, k272, k273, k274, k275, k276, k277, k278, k279⟩ := kk280
            exact hQ _ hσ270 (⟨k272.trans ((kq (a := 9) (b := 9) eσ266 (by omega)).trans (k251.trans ((kq (a := 9) (b := 9) eσ246 (fun q => absurd q.1 (by decide))).trans (k232.trans (k18.trans (k4)))))), k273.trans ((kq (a := 9) (b := 10) eσ266 (by omega)).trans (k252.trans ((kq (a := 9) (b := 10) eσ246 (fun q => absurd q.1 (by decide))).trans (k233.trans (k19.trans (k5)))))), k274.trans ((kq (a := 6) (b := 5) eσ266 (by omega)).trans (k253.trans ((kq (a := 6) (b := 5) eσ246 (fun q => absurd q.1 (by decide))).trans (k234.trans (k20.trans (k6)))))), k275.trans ((kq (a := 7) (b := 4) eσ266 (by omega)).trans (k254.trans ((kq (a := 7) (b := 4) eσ246 (fun q => absurd q.1 (by decide))).trans (k235.trans (k21.trans (k7)))))), k276.trans ((kq (a := 2) (b := 4) eσ266 (by omega)).trans (k255.trans ((kq (a := 2) (b := 4) eσ246 (fun q => absurd q.1 (by decide))).trans (k236.trans (k22.trans (k8)))))), k277.trans ((kq (a := 2) (b := 5) eσ266 (by omega)).trans (k256.trans ((kq (a := 2) (b := 5) eσ246 (fun q => absurd q.1 (by decide))).trans (k237.trans (k23.trans (k9)))))), k278.trans ((kq (a := 2) (b := 6) eσ266 (by omega)).trans (k257.trans ((kq (a := 2) (b := 6) eσ246 (fun q => absurd q.1 (by decide))).trans (k238.trans (k24.trans (k10)))))), k279.trans ((kq (a := 3) (b := 8) eσ266 (by omega)).trans (k258.trans ((kq (a := 3) (b := 8) eσ246 (fun q => absurd q.2 (by decide))).trans (k239.trans (k25.trans (k11))))))⟩)
          · have f281 := tB (σ248.1 3 11)
            first | have f282 := (noteqE (rfl : (σ248.1 3 11).toInt = (σ248.1 3 11).toInt) (show (0 : Int32).toInt = 0 from by decide)).mp c262 | skip
            exact hQ _ hσ248 (⟨k251.trans ((kq (a := 9) (b := 9) eσ246 (fun q => absurd q.1 (by decide))).trans (k232.trans (k18.trans (k4)))), k252.trans ((kq (a := 9) (b := 10) eσ246 (fun q => absurd q.1 (by decide))).trans (k233.trans (k19.trans (k5)))), k253.trans ((kq (a := 6) (b := 5) eσ246 (fun q => absurd q.1 (by decide))).trans (k234.trans (k20.trans (k6)))), k254.trans ((kq (a := 7) (b := 4) eσ246 (fun q => absurd q.1 (by decide))).trans (k235.trans (k21.trans (k7)))), k255.trans ((kq (a := 2) (b := 4) eσ246 (fun q => absurd q.1 (by decide))).trans (k236.trans (k22.trans (k8)))), k256.trans ((kq (a := 2) (b := 5) eσ246 (fun q => absurd q.1 (by decide))).trans (k237.trans (k23.trans (k9)))), k257.trans ((kq (a := 2) (b := 6) eσ246 (fun q => absurd q.1 (by decide))).trans (k238.trans (k24.trans (k10)))), k258.trans ((kq (a := 3) (b := 8) eσ246 (fun q => absurd q.2 (by decide))).trans (k239.trans (k25.trans (k11))))⟩)
        · first | have f285 := (notleE (rfl : r27.toInt = r27.toInt) (rfl : y229.toInt = y229.toInt)).mp c242 | skip
          refine sX2_nextValue hN hk1 hσ228 (fun r298 σ286 hσ286 kk297 p299 => ?_)
          obtain ⟨k287, k288, k289, k290, k291, k292, k293, k294, k295, k296⟩ := kk297
          refine ⟨inE (rfl : y229.toInt = y229.toInt) (by omega) (by omega), ?_⟩
          intro σ301 eσ301
          have hσ301 : K1 σ0 σ301 := by rw [eσ301]; exact hσ286.u (Rg1.ra_17 _ _) (fun q => absurd q.1 (by decide)) (fun q => absurd q.1 (by decide))
          intro v302 ev302
          have f303 := tB v302
          first | have f305 : v302.toInt = (y229.toInt + (1)) := (congrArg Int32.toInt ev302).trans (aOkE (rfl : y229.toInt = y229.toInt) (show (1 : Int32).toInt = 1 from by decide) (by omega) (by omega)) | skip
          exact ih227 v302 σ301 ⟨hσ301, (kq (a := 3) (b := 7) eσ301 (fun q => absurd q.1 (by decide))).trans (k287.trans (k230)), (kq (a := 3) (b := 6) eσ301 (fun q => absurd q.1 (by decide))).trans (k288.trans (k231)), (kq (a := 9) (b := 9) eσ301 (fun q => absurd q.1 (by decide))).trans (k289.trans (k232)), (kq (a := 9) (b := 10) eσ301 (fun q => absurd q.1 (by decide))).trans (k290.trans (k233)), (kq (a := 6) (b := 5) eσ301 (fun q => absurd q.1 (by decide))).trans (k291.trans (k234)), (kq (a := 7) (b := 4) eσ301 (fun q => absurd q.1 (by decide))).trans (k292.trans (k235)), (kq (a := 2) (b := 4) eσ301 (fun q => absurd q.1 (by decide))).trans (k293.trans (k236)), (kq (a := 2) (b := 5) eσ301 (fun q => absurd q.1 (by decide))).trans (k294.trans (k237)), (kq (a := 2) (b := 6) eσ301 (fun q => absurd q.1 (by decide))).trans (k295.trans (k238)), (kq (a := 3) (b := 8) eσ301 (fun q => absurd q.1 (by decide))).trans (k296.trans (k239)), by omega⟩ (by (try dsimp only); omega)
      · first | have f307 := (noteqE (rfl : (σ15.1 3 11).toInt = (σ15.1 3 11).toInt) (show (0 : Int32).toInt = 0 from by decide)).mp c220 | skip
        exact hQ _ hσ15 (⟨k18.trans (k4), k19.trans (k5), k20.trans (k6), k21.trans (k7), k22.trans (k8), k23.trans (k9), k24.trans (k10), k25.trans (k11)⟩)
set_option maxHeartbeats 4000000 in
theorem sX2_nextDistance {N : Nat} (hN : 4294967400 ≤ N) {Q : Int32 → St → Prop} {σ0 σ : St} (hσ : K1 σ0 σ) (hQ : ∀ (r : Int32) (τ : St), K1 σ0 τ → (τ.1 3 7 = σ.1 3 7 ∧ τ.1 3 6 = σ.1 3 6 ∧ τ.1 9 9 = σ.1 9 9 ∧ τ.1 9 10 = σ.1 9 10 ∧ τ.1 6 5 = σ.1 6 5 ∧ τ.1 7 4 = σ.1 7 4 ∧ τ.1 2 4 = σ.1 2 4 ∧ τ.1 2 5 = σ.1 2 5 ∧ τ.1 2 6 = σ.1 2 6 ∧ τ.1 3 8 = σ.1 3 8) → True → Q r τ) : fX2_nextDistance N  Q σ := by
  unfold fX2_nextDistance
  refine sX2_nextByte hN hσ (fun r13 σ1 hσ1 kk12 p14 => ?_)
  obtain ⟨k2, k3, k4, k5, k6, k7, k8, k9, k10, k11⟩ := kk12
  intro v15 ev15
  refine sX2_nextByte hN hσ1 (fun r28 σ16 hσ16 kk27 p29 => ?_)
  obtain ⟨k17, k18, k19, k20, k21, k22, k23, k24, k25, k26⟩ := kk27
  exact hQ _ _ hσ16 (⟨k17.trans (k2), k18.trans (k3), k19.trans (k4), k20.trans (k5), k21.trans (k6), k22.trans (k7), k23.trans (k8), k24.trans (k9), k25.trans (k10), k26.trans (k11)⟩) trivial
set_option maxHeartbeats 4000000 in
theorem sX2_valueFor {N : Nat} (hN : 4294967400 ≤ N) {x1 : Int32} {x2 : Int32} {x3 : Int32} {Q : Int32 → St → Prop} {σ0 σ : St} (hσ : K1 σ0 σ) (hQ : ∀ (r : Int32) (τ : St), K1 σ0 τ → (τ.1 3 7 = σ.1 3 7 ∧ τ.1 3 6 = σ.1 3 6 ∧ τ.1 9 9 = σ.1 9 9 ∧ τ.1 9 10 = σ.1 9 10 ∧ τ.1 6 5 = σ.1 6 5 ∧ τ.1 7 4 = σ.1 7 4 ∧ τ.1 2 4 = σ.1 2 4 ∧ τ.1 2 5 = σ.1 2 5 ∧ τ.1 2 6 = σ.1 2 6 ∧ τ.1 3 8 = σ.1 3 8) → True → Q r τ) : fX2_valueFor N x1 x2 x3 Q σ := by
  unfold fX2_valueFor
  refine ⟨fun c1 => ?_, fun c1 => ?_⟩
  · have f2 := tB x1
    first | have f3 := (eqE (rfl : x1.toInt = x1.toInt) (show (7 : Int32).toInt = 7 from by decide)).mp c1 | skip
    exact hQ _ _ hσ (⟨rfl, rfl, rfl, rfl, rfl, rfl, rfl, rfl, rfl, rfl⟩) trivial
  · have f4 := tB x1
    first | have f5 := (noteqE (rfl : x1.toInt = x1.toInt) (show (7 : Int32).toInt = 7 from by decide)).mp c1 | skip
    refine ⟨fun c6 => ?_, fun c6 => ?_⟩
    · first | have f8 := (eqE (rfl : x1.toInt = x1.toInt) (show (8 : Int32).toInt = 8 from by decide)).mp c6 | skip
      exact hQ _ _ hσ (⟨rfl, rfl, rfl, rfl, rfl, rfl, rfl, rfl, rfl, rfl⟩) trivial
    · first | have f10 := (noteqE (rfl : x1.toInt = x1.toInt) (show (8 : Int32).toInt = 8 from by decide)).mp c6 | skip
      refine ⟨fun c11 => ?_, fun c11 => ?_⟩
      · first | have f13 := (eqE (rfl : x1.toInt = x1.toInt) (show (9 : Int32).toInt = 9 from by decide)).mp c11 | skip
        exact hQ _ _ hσ (⟨rfl, rfl, rfl, rfl, rfl, rfl, rfl, rfl, rfl, rfl⟩) trivial
      · first | have f15 := (noteqE (rfl : x1.toInt = x1.toInt) (show (9 : Int32).toInt = 9 from by decide)).mp c11 | skip
        refine ⟨fun c16 => ?_, fun c16 => ?_⟩
        · first | have f18 := (eqE (rfl : x1.toInt = x1.toInt) (show (13 : Int32).toInt = 13 from by decide)).mp c16 | skip
          have f19 := tB x2
          refine sX2_readByte hN hσ (fun r32 σ20 hσ20 kk31 p33 => ?_)
          obtain ⟨k21, k22, k23, k24, k25, k26, k27, k28, k29, k30⟩ := kk31
          exact hQ _ _ hσ20 (⟨k21, k22, k23, k24, k25, k26, k27, k28, k29, k30⟩) trivial
        · first | have f35 := (noteqE (rfl : x1.toInt = x1.toInt) (show (13 : Int32).toInt = 13 from by decide)).mp c16 | skip
          refine ⟨fun c36 => ?_, fun c36 => ?_⟩
          · first | have f38 := (eqE (rfl : x1.toInt = x1.toInt) (show (14 : Int32).toInt = 14 from by decide)).mp c36 | skip
            have f39 := tB x2
            refine sX2_readFour hN hσ (fun r52 σ40 hσ40 kk51 p53 => ?_)
            obtain ⟨k41, k42, k43, k44, k45, k46, k47, k48, k49, k50⟩ := kk51
            exact hQ _ _ hσ40 (⟨k41, k42, k43, k44, k45, k46, k47, k48, k49, k50⟩) trivial
          · first | have f55 := (noteqE (rfl : x1.toInt = x1.toInt) (show (14 : Int32).toInt = 14 from by decide)).mp c36 | skip
            unfold fX2_valueFor_j70
            exact hQ _ _ hσ (⟨rfl, rfl, rfl, rfl, rfl, rfl, rfl, rfl, rfl, rfl⟩) trivial
set_option maxHeartbeats 4000000 in
theorem sX2_goesThere {N : Nat} (hN : 4294967400 ≤ N) {x0 : Int32} {x1 : Int32} {x2 : Int32} {Q : Int32 → St → Prop} {σ0 σ : St} (hσ : K1 σ0 σ) (hQ : ∀ r : Int32, True → Q r σ) : fX2_goesThere N x0 x1 x2 Q σ := by
  unfold fX2_goesThere
  refine ⟨fun c1 => ?_, fun c1 => ?_⟩
  · have f2 := tB x0
    first | have f3 := (eqE (rfl : x0.toInt = x0.toInt) (show (10 : Int32).toInt = 10 from by decide)).mp c1 | skip
    refine ⟨fun c4 => ?_, fun c4 => ?_⟩
    · have f5 := tB x1
      first | have f6 := (eqE (rfl : x1.toInt = x1.toInt) (show (0 : Int32).toInt = 0 from by decide)).mp c4 | skip
      exact hQ _ trivial
    · have f7 := tB x1
      first | have f8 := (noteqE (rfl : x1.toInt = x1.toInt) (show (0 : Int32).toInt = 0 from by decide)).mp c4 | skip
      exact hQ _ trivial
  · have f9 := tB x0
    first | have f10 := (noteqE (rfl : x0.toInt = x0.toInt) (show (10 : Int32).toInt = 10 from by decide)).mp c1 | skip
    refine ⟨fun c11 => ?_, fun c11 => ?_⟩
    · first | have f13 := (eqE (rfl : x0.toInt = x0.toInt) (show (11 : Int32).toInt = 11 from by decide)).mp c11 | skip
      refine ⟨fun c14 => ?_, fun c14 => ?_⟩
      · have f15 := tB x1
        first | have f16 := (eqE (rfl : x1.toInt = x1.toInt) (show (0 : Int32).toInt = 0 from by decide)).mp c14 | skip
        exact hQ _ trivial
      · have f17 := tB x1
        first | have f18 := (noteqE (rfl : x1.toInt = x1.toInt) (show (0 : Int32).toInt = 0 from by decide)).mp c14 | skip
        exact hQ _ trivial
    · first | have f20 := (noteqE (rfl : x0.toInt = x0.toInt) (show (11 : Int32).toInt = 11 from by decide)).mp c11 | skip
      refine ⟨fun c21 => ?_, fun c21 => ?_⟩
      · have f22 := tB x2
        have f23 := tB x1
        first | have f24 := (leE (rfl : x2.toInt = x2.toInt) (rfl : x1.toInt = x1.toInt)).mp c21 | skip
        exact hQ _ trivial
      · have f25 := tB x2
        have f26 := tB x1
        first | have f27 := (notleE (rfl : x2.toInt = x2.toInt) (rfl : x1.toInt = x1.toInt)).mp c21 | skip
        exact hQ _ trivial
set_option maxHeartbeats 4000000 in
theorem sX2_endFunction {N : Nat} (hN : 4294967400 ≤ N) {k1 : Nat} {x2 : Int32} (hk1 : jobK k1) {Q : St → Prop} {σ0 σ : St} (hs3_7 : 1 ≤ (σ.1 3 7).toInt ∧ (σ.1 3 7).toInt ≤ 40) (hσ : K1 σ0 σ) (hQ : ∀ τ : St, K1 σ0 τ → (τ.1 3 11 = σ.1 3 11 ∧ τ.1 3 6 = σ.1 3 6 ∧ τ.1 9 9 = σ.1 9 9 ∧ τ.1 9 10 = σ.1 9 10 ∧ τ.1 6 5 = σ.1 6 5 ∧ τ.1 7 4 = σ.1 7 4 ∧ τ.1 2 4 = σ.1 2 4 ∧ τ.1 2 5 = σ.1 2 5 ∧ τ.1 2 6 = σ.1 2 6 ∧ τ.1 3 8 = σ.1 3 8) → Q τ) : fX2_endFunction N k1 x2 Q σ := by
  unfold fX2_endFunction
  have kbhk1 := jobK_b hk1
  intro σ1 eσ1
  have hσ1 : K1 σ0 σ1 := by rw [eσ1]; exact hσ.u (Rg1.u_5_6 _) (fun q => absurd q.1 (by decide)) (fun q => absurd q.1 (by decide))
  intro v2 ev2
  intro σ3 eσ3
  have f4 := tB v2
  have f5 := K1.g_3_7 hσ1
  have q6 : σ1.1 3 7 = σ.1 3 7 := by rw [eσ1]; exact congrFun (u1_ne (by decide)) 7
  have f7 := congrArg Int32.toInt q6
  have f8 := K1.g_3_7 hσ
  first | have f9 : v2.toInt = ((σ1.1 3 7).toInt - (1)) := (congrArg Int32.toInt ev2).trans (sOkE (rfl : (σ1.1 3 7).toInt = (σ1.1 3 7).toInt) (show (1 : Int32).toInt = 1 from by decide) (by omega) (by omega)) | skip
  have hσ3 : K1 σ0 σ3 := by rw [eσ3]; exact hσ1.u (Rg1.r_3_7 (leP (rfl : v2.toInt = v2.toInt) (by omega)) (geP (rfl : v2.toInt = v2.toInt) (by omega))) (fun q => absurd q.1 (by decide)) (fun q => absurd q.1 (by decide))
  refine ⟨fun c10 => ?_, fun c10 => ?_⟩
  · have f11 := K1.g_3_7 hσ3
    have q12 : σ3.1 3 7 = v2 := by rw [eσ3, u1_at]; exact if_pos rfl
    first | have f14 : (σ3.1 3 7).toInt = v2.toInt := (congrArg Int32.toInt q12).trans (rfl : v2.toInt = v2.toInt) | skip
    first | have f15 := (leE (rfl : (σ3.1 3 7).toInt = (σ3.1 3 7).toInt) (show (0 : Int32).toInt = 0 from by decide)).mp c10 | skip
    exact hQ _ hσ3 (⟨(kq (a := 3) (b := 11) eσ3 (fun q => absurd q.2 (by decide))).trans ((kq (a := 3) (b := 11) eσ1 (fun q => absurd q.1 (by decide)))), (kq (a := 3) (b := 6) eσ3 (fun q => absurd q.2 (by decide))).trans ((kq (a := 3) (b := 6) eσ1 (fun q => absurd q.1 (by decide)))), (kq (a := 9) (b := 9) eσ3 (fun q => absurd q.1 (by decide))).trans ((kq (a := 9) (b := 9) eσ1 (fun q => absurd q.1 (by decide)))), (kq (a := 9) (b := 10) eσ3 (fun q => absurd q.1 (by decide))).trans ((kq (a := 9) (b := 10) eσ1 (fun q => absurd q.1 (by decide)))), (kq (a := 6) (b := 5) eσ3 (fun q => absurd q.1 (by decide))).trans ((kq (a := 6) (b := 5) eσ1 (fun q => absurd q.1 (by decide)))), (kq (a := 7) (b := 4) eσ3 (fun q => absurd q.1 (by decide))).trans ((kq (a := 7) (b := 4) eσ1 (fun q => absurd q.1 (by decide)))), (kq (a := 2) (b := 4) eσ3 (fun q => absurd q.1 (by decide))).trans ((kq (a := 2) (b := 4) eσ1 (fun q => absurd q.1 (by decide)))), (kq (a := 2) (b := 5) eσ3 (fun q => absurd q.1 (by decide))).trans ((kq (a := 2) (b := 5) eσ1 (fun q => absurd q.1 (by decide)))), (kq (a := 2) (b := 6) eσ3 (fun q => absurd q.1 (by decide))).trans ((kq (a := 2) (b := 6) eσ1 (fun q => absurd q.1 (by decide)))), (kq (a := 3) (b := 8) eσ3 (fun q => absurd q.2 (by decide))).trans ((kq (a := 3) (b := 8) eσ1 (fun q => absurd q.1 (by decide))))⟩)
  · have f16 := K1.g_3_7 hσ3
    have q17 : σ3.1 3 7 = v2 := by rw [eσ3, u1_at]; exact if_pos rfl
    first | have f19 : (σ3.1 3 7).toInt = v2.toInt := (congrArg Int32.toInt q17).trans (rfl : v2.toInt = v2.toInt) | skip
    first | have f20 := (notleE (rfl : (σ3.1 3 7).toInt = (σ3.1 3 7).toInt) (show (0 : Int32).toInt = 0 from by decide)).mp c10 | skip
    have g22 : vp_in ((σ3.1 3 7) - 1) 40 := inE (sOkE (rfl : (σ3.1 3 7).toInt = (σ3.1 3 7).toInt) (show (1 : Int32).toInt = 1 from by decide) (by omega) (by omega)) (by omega) (by omega)
    refine ⟨g22, ?_⟩
    have hk23 : jobK (43 + ((σ3.1 3 7) - 1).toNatClampNeg) := (jobK_in g22)
    have hk23x := vp_lt g22
    have hk23b := jobK_b hk23
    have f24 := tB (σ3.1 k1 7)
    have q25 : σ3.1 k1 7 = σ1.1 k1 7 := by rw [eσ3]; exact congrFun (u1_ne (by omega)) 7
    have f26 := congrArg Int32.toInt q25
    have f27 := tB (σ1.1 k1 7)
    have q28 : σ1.1 k1 7 = σ.1 k1 7 := by rw [eσ1]; exact congrFun (u1_ne (by omega)) 7
    have f29 := congrArg Int32.toInt q28
    have f30 := tB (σ.1 k1 7)
    have f31 := tB x2
    refine sX1_setLocal hN hk23 hσ3 (fun σ32 hσ32 kk44 => ?_)
    obtain ⟨k33, k34, k35, k36, k37, k38, k39, k40, k41, k42, k43⟩ := kk44
    exact hQ _ hσ32 (⟨k34.trans ((kq (a := 3) (b := 11) eσ3 (fun q => absurd q.2 (by decide))).trans ((kq (a := 3) (b := 11) eσ1 (fun q => absurd q.1 (by decide))))), k35.trans ((kq (a := 3) (b := 6) eσ3 (fun q => absurd q.2 (by decide))).trans ((kq (a := 3) (b := 6) eσ1 (fun q => absurd q.1 (by decide))))), k36.trans ((kq (a := 9) (b := 9) eσ3 (fun q => absurd q.1 (by decide))).trans ((kq (a := 9) (b := 9) eσ1 (fun q => absurd q.1 (by decide))))), k37.trans ((kq (a := 9) (b := 10) eσ3 (fun q => absurd q.1 (by decide))).trans ((kq (a := 9) (b := 10) eσ1 (fun q => absurd q.1 (by decide))))), k38.trans ((kq (a := 6) (b := 5) eσ3 (fun q => absurd q.1 (by decide))).trans ((kq (a := 6) (b := 5) eσ1 (fun q => absurd q.1 (by decide))))), k39.trans ((kq (a := 7) (b := 4) eσ3 (fun q => absurd q.1 (by decide))).trans ((kq (a := 7) (b := 4) eσ1 (fun q => absurd q.1 (by decide))))), k40.trans ((kq (a := 2) (b := 4) eσ3 (fun q => absurd q.1 (by decide))).trans ((kq (a := 2) (b := 4) eσ1 (fun q => absurd q.1 (by decide))))), k41.trans ((kq (a := 2) (b := 5) eσ3 (fun q => absurd q.1 (by decide))).trans ((kq (a := 2) (b := 5) eσ1 (fun q => absurd q.1 (by decide))))), k42.trans ((kq (a := 2) (b := 6) eσ3 (fun q => absurd q.1 (by decide))).trans ((kq (a := 2) (b := 6) eσ1 (fun q => absurd q.1 (by decide))))), k43.trans ((kq (a := 3) (b := 8) eσ3 (fun q => absurd q.2 (by decide))).trans ((kq (a := 3) (b := 8) eσ1 (fun q => absurd q.1 (by decide)))))⟩)
set_option maxHeartbeats 4000000 in
theorem sX2_putOut {N : Nat} (hN : 4294967400 ≤ N) {x1 : Int32} {Q : St → Prop} {σ0 σ : St} (hσ : K1 σ0 σ) (hQ : ∀ τ : St, K1 σ0 τ → (τ.1 3 7 = σ.1 3 7 ∧ τ.1 3 6 = σ.1 3 6 ∧ τ.1 9 9 = σ.1 9 9 ∧ τ.1 9 10 = σ.1 9 10 ∧ τ.1 6 5 = σ.1 6 5 ∧ τ.1 7 4 = σ.1 7 4 ∧ τ.1 2 4 = σ.1 2 4 ∧ τ.1 2 5 = σ.1 2 5 ∧ τ.1 2 6 = σ.1 2 6) → Q τ) : fX2_putOut N x1 Q σ := by
  unfold fX2_putOut
  refine ⟨fun c1 => ?_, fun c1 => ?_⟩
  · have f2 := K1.g_3_8 hσ
    first | have f3 := (ltE (rfl : (σ.1 3 8).toInt = (σ.1 3 8).toInt) (show (1000 : Int32).toInt = 1000 from by decide)).mp c1 | skip
    refine ⟨inE (rfl : (σ.1 3 8).toInt = (σ.1 3 8).toInt) (by omega) (by omega), ?_⟩
    intro σ5 eσ5
    have hσ5 : K1 σ0 σ5 := by rw [eσ5]; exact hσ.u (Rg1.ra_16 _ _) (fun q => absurd q.1 (by decide)) (fun q => absurd q.1 (by decide))
    intro v6 ev6
    intro σ7 eσ7
    have f8 := tB v6
    have f9 := K1.g_3_8 hσ5
    have q10 : σ5.1 3 8 = σ.1 3 8 := by rw [eσ5]; exact congrFun (u1_ne (by decide)) 8
    have f11 := congrArg Int32.toInt q10
    first | have f13 : v6.toInt = ((σ5.1 3 8).toInt + (1)) := (congrArg Int32.toInt ev6).trans (aOkE (rfl : (σ5.1 3 8).toInt = (σ5.1 3 8).toInt) (show (1 : Int32).toInt = 1 from by decide) (by omega) (by omega)) | skip
    have hσ7 : K1 σ0 σ7 := by rw [eσ7]; exact hσ5.u (Rg1.r_3_8 (leP (rfl : v6.toInt = v6.toInt) (by omega)) (geP (rfl : v6.toInt = v6.toInt) (by omega))) (fun q => absurd q.1 (by decide)) (fun q => absurd q.1 (by decide))
    intro v14 ev14
    intro σ15 eσ15
    have hσ15 : K1 σ0 σ15 := by rw [eσ15]; exact hσ7.u (Rg1.u_5_1 _) (fun q => absurd q.1 (by decide)) (fun q => absurd q.1 (by decide))
    exact hQ _ hσ15 (⟨(kq (a := 3) (b := 7) eσ15 (fun q => absurd q.1 (by decide))).trans ((kq (a := 3) (b := 7) eσ7 (fun q => absurd q.2 (by decide))).trans ((kq (a := 3) (b := 7) eσ5 (fun q => absurd q.1 (by decide))))), (kq (a := 3) (b := 6) eσ15 (fun q => absurd q.1 (by decide))).trans ((kq (a := 3) (b := 6) eσ7 (fun q => absurd q.2 (by decide))).trans ((kq (a := 3) (b := 6) eσ5 (fun q => absurd q.1 (by decide))))), (kq (a := 9) (b := 9) eσ15 (fun q => absurd q.1 (by decide))).trans ((kq (a := 9) (b := 9) eσ7 (fun q => absurd q.1 (by decide))).trans ((kq (a := 9) (b := 9) eσ5 (fun q => absurd q.1 (by decide))))), (kq (a := 9) (b := 10) eσ15 (fun q => absurd q.1 (by decide))).trans ((kq (a := 9) (b := 10) eσ7 (fun q => absurd q.1 (by decide))).trans ((kq (a := 9) (b := 10) eσ5 (fun q => absurd q.1 (by decide))))), (kq (a := 6) (b := 5) eσ15 (fun q => absurd q.1 (by decide))).trans ((kq (a := 6) (b := 5) eσ7 (fun q => absurd q.1 (by decide))).trans ((kq (a := 6) (b := 5) eσ5 (fun q => absurd q.1 (by decide))))), (kq (a := 7) (b := 4) eσ15 (fun q => absurd q.1 (by decide))).trans ((kq (a := 7) (b := 4) eσ7 (fun q => absurd q.1 (by decide))).trans ((kq (a := 7) (b := 4) eσ5 (fun q => absurd q.1 (by decide))))), (kq (a := 2) (b := 4) eσ15 (fun q => absurd q.1 (by decide))).trans ((kq (a := 2) (b := 4) eσ7 (fun q => absurd q.1 (by decide))).trans ((kq (a := 2) (b := 4) eσ5 (fun q => absurd q.1 (by decide))))), (kq (a := 2) (b := 5) eσ15 (fun q => absurd q.1 (by decide))).trans ((kq (a := 2) (b := 5) eσ7 (fun q => absurd q.1 (by decide))).trans ((kq (a := 2) (b := 5) eσ5 (fun q => absurd q.1 (by decide))))), (kq (a := 2) (b := 6) eσ15 (fun q => absurd q.1 (by decide))).trans ((kq (a := 2) (b := 6) eσ7 (fun q => absurd q.1 (by decide))).trans ((kq (a := 2) (b := 6) eσ5 (fun q => absurd q.1 (by decide)))))⟩)
  · have f16 := K1.g_3_8 hσ
    first | have f17 := (notltE (rfl : (σ.1 3 8).toInt = (σ.1 3 8).toInt) (show (1000 : Int32).toInt = 1000 from by decide)).mp c1 | skip
    unfold fX2_fail
    refine ⟨fun c18 => ?_, fun c18 => ?_⟩
    · have f19 := tB (σ.1 3 11)
      first | have f20 := (eqE (rfl : (σ.1 3 11).toInt = (σ.1 3 11).toInt) (show (0 : Int32).toInt = 0 from by decide)).mp c18 | skip
      intro σ21 eσ21
      have hσ21 : K1 σ0 σ21 := by rw [eσ21]; exact hσ.u (Rg1.u_3_11 _) (fun q => absurd q.1 (by decide)) (fun q => absurd q.1 (by decide))
      try dsimp only
      exact hQ _ hσ21 (⟨(kq (a := 3) (b := 7) eσ21 (fun q => absurd q.2 (by decide))), (kq (a := 3) (b := 6) eσ21 (fun q => absurd q.2 (by decide))), (kq (a := 9) (b := 9) eσ21 (fun q => absurd q.1 (by decide))), (kq (a := 9) (b := 10) eσ21 (fun q => absurd q.1 (by decide))), (kq (a := 6) (b := 5) eσ21 (fun q => absurd q.1 (by decide))), (kq (a := 7) (b := 4) eσ21 (fun q => absurd q.1 (by decide))), (kq (a := 2) (b := 4) eσ21 (fun q => absurd q.1 (by decide))), (kq (a := 2) (b := 5) eσ21 (fun q => absurd q.1 (by decide))), (kq (a := 2) (b := 6) eσ21 (fun q => absurd q.1 (by decide)))⟩)
    · have f22 := tB (σ.1 3 11)
      first | have f23 := (noteqE (rfl : (σ.1 3 11).toInt = (σ.1 3 11).toInt) (show (0 : Int32).toInt = 0 from by decide)).mp c18 | skip
      try dsimp only
      exact hQ _ hσ (⟨rfl, rfl, rfl, rfl, rfl, rfl, rfl, rfl, rfl⟩)
set_option maxHeartbeats 4000000 in
theorem sX2_give {N : Nat} (hN : 4294967400 ≤ N) {x1 : Int32} {Q : St → Prop} {σ0 σ : St} (hσ : K1 σ0 σ) (hQ : ∀ τ : St, K1 σ0 τ → (τ.1 9 9 = σ.1 9 9 ∧ τ.1 9 10 = σ.1 9 10 ∧ τ.1 6 5 = σ.1 6 5 ∧ τ.1 7 4 = σ.1 7 4 ∧ τ.1 2 4 = σ.1 2 4 ∧ τ.1 2 5 = σ.1 2 5 ∧ τ.1 2 6 = σ.1 2 6) → Q τ) : fX2_give N x1 Q σ := by
  unfold fX2_give
  refine ⟨fun c1 => ?_, fun c1 => ?_⟩
  · have f2 := tB (σ.1 3 11)
    first | have f3 := (eqE (rfl : (σ.1 3 11).toInt = (σ.1 3 11).toInt) (show (0 : Int32).toInt = 0 from by decide)).mp c1 | skip
    refine ⟨fun c4 => ?_, fun c4 => ?_⟩
    · have f5 := tB (σ.1 3 9)
      first | have f6 := (eqE (rfl : (σ.1 3 9).toInt = (σ.1 3 9).toInt) (show (2 : Int32).toInt = 2 from by decide)).mp c4 | skip
      have f7 := tB x1
      refine sX2_putOut hN hσ (fun σ8 hσ8 kk18 => ?_)
      obtain ⟨k9, k10, k11, k12, k13, k14, k15, k16, k17⟩ := kk18
      exact hQ _ hσ8 (⟨k11, k12, k13, k14, k15, k16, k17⟩)
    · have f19 := tB (σ.1 3 9)
      first | have f20 := (noteqE (rfl : (σ.1 3 9).toInt = (σ.1 3 9).toInt) (show (2 : Int32).toInt = 2 from by decide)).mp c4 | skip
      refine ⟨fun c21 => ?_, fun c21 => ?_⟩
      · first | have f23 := (eqE (rfl : (σ.1 3 9).toInt = (σ.1 3 9).toInt) (show (1 : Int32).toInt = 1 from by decide)).mp c21 | skip
        refine ⟨inE (show (0 : Int32).toInt = 0 from by decide) (by omega) (by omega), ?_⟩
        intro σ24 eσ24
        have hσ24 : K1 σ0 σ24 := by rw [eσ24]; exact hσ.u (Rg1.ra_17 _ _) (fun q => absurd q.1 (by decide)) (fun q => absurd q.1 (by decide))
        intro σ25 eσ25
        have hσ25 : K1 σ0 σ25 := by rw [eσ25]; exact hσ24.u (Rg1.r_3_6 (leP (show (1 : Int32).toInt = 1 from by decide) (by omega)) (geP (show (1 : Int32).toInt = 1 from by decide) (by omega))) (fun q => absurd q.1 (by decide)) (fun q => absurd q.1 (by decide))
        have f26 := tB (σ25.1 3 10)
        have q27 : σ25.1 3 10 = σ24.1 3 10 := by rw [eσ25, u1_at]; exact if_neg (by decide)
        have f28 := congrArg Int32.toInt q27
        have f29 := tB (σ24.1 3 10)
        have q30 : σ24.1 3 10 = σ.1 3 10 := by rw [eσ24]; exact congrFun (u1_ne (by decide)) 10
        have f31 := congrArg Int32.toInt q30
        have f32 := tB (σ.1 3 10)
        refine sX2_callFunction hN hσ25 (fun σ33 hσ33 kk43 => ?_)
        obtain ⟨k34, k35, k36, k37, k38, k39, k40, k41, k42⟩ := kk43
        refine ⟨fun c44 => ?_, fun c44 => ?_⟩
        · have f45 := tB (σ33.1 3 11)
          first | have f46 := (eqE (rfl : (σ33.1 3 11).toInt = (σ33.1 3 11).toInt) (show (0 : Int32).toInt = 0 from by decide)).mp c44 | skip
          intro v47 ev47
          intro σ48 eσ48
          have hσ48 : K1 σ0 σ48 := by rw [eσ48]; exact hσ33.u (Rg1.u_5_2 _) (fun q => absurd q.1 (by decide)) (fun q => absurd q.1 (by decide))
          exact hQ _ hσ48 (⟨(kq (a := 9) (b := 9) eσ48 (fun q => absurd q.1 (by decide))).trans (k35.trans ((kq (a := 9) (b := 9) eσ25 (fun q => absurd q.1 (by decide))).trans ((kq (a := 9) (b := 9) eσ24 (fun q => absurd q.1 (by decide)))))), (kq (a := 9) (b := 10) eσ48 (fun q => absurd q.1 (by decide))).trans (k36.trans ((kq (a := 9) (b := 10) eσ25 (fun q => absurd q.1 (by decide))).trans ((kq (a := 9) (b := 10) eσ24 (fun q => absurd q.1 (by decide)))))), (kq (a := 6) (b := 5) eσ48 (fun q => absurd q.1 (by decide))).trans (k37.trans ((kq (a := 6) (b := 5) eσ25 (fun q => absurd q.1 (by decide))).trans ((kq (a := 6) (b := 5) eσ24 (fun q => absurd q.1 (by decide)))))), (kq (a := 7) (b := 4) eσ48 (fun q => absurd q.1 (by decide))).trans (k38.trans ((kq (a := 7) (b := 4) eσ25 (fun q => absurd q.1 (by decide))).trans ((kq (a := 7) (b := 4) eσ24 (fun q => absurd q.1 (by decide)))))), (kq (a := 2) (b := 4) eσ48 (fun q => absurd q.1 (by decide))).trans (k39.trans ((kq (a := 2) (b := 4) eσ25 (fun q => absurd q.1 (by decide))).trans ((kq (a := 2) (b := 4) eσ24 (fun q => absurd q.1 (by decide)))))), (kq (a := 2) (b := 5) eσ48 (fun q => absurd q.1 (by decide))).trans (k40.trans ((kq (a := 2) (b := 5) eσ25 (fun q => absurd q.1 (by decide))).trans ((kq (a := 2) (b := 5) eσ24 (fun q => absurd q.1 (by decide)))))), (kq (a := 2) (b := 6) eσ48 (fun q => absurd q.1 (by decide))).trans (k41.trans ((kq (a := 2) (b := 6) eσ25 (fun q => absurd q.1 (by decide))).trans ((kq (a := 2) (b := 6) eσ24 (fun q => absurd q.1 (by decide))))))⟩)
        · have f49 := tB (σ33.1 3 11)
          first | have f50 := (noteqE (rfl : (σ33.1 3 11).toInt = (σ33.1 3 11).toInt) (show (0 : Int32).toInt = 0 from by decide)).mp c44 | skip
          exact hQ _ hσ33 (⟨k35.trans ((kq (a := 9) (b := 9) eσ25 (fun q => absurd q.1 (by decide))).trans ((kq (a := 9) (b := 9) eσ24 (fun q => absurd q.1 (by decide))))), k36.trans ((kq (a := 9) (b := 10) eσ25 (fun q => absurd q.1 (by decide))).trans ((kq (a := 9) (b := 10) eσ24 (fun q => absurd q.1 (by decide))))), k37.trans ((kq (a := 6) (b := 5) eσ25 (fun q => absurd q.1 (by decide))).trans ((kq (a := 6) (b := 5) eσ24 (fun q => absurd q.1 (by decide))))), k38.trans ((kq (a := 7) (b := 4) eσ25 (fun q => absurd q.1 (by decide))).trans ((kq (a := 7) (b := 4) eσ24 (fun q => absurd q.1 (by decide))))), k39.trans ((kq (a := 2) (b := 4) eσ25 (fun q => absurd q.1 (by decide))).trans ((kq (a := 2) (b := 4) eσ24 (fun q => absurd q.1 (by decide))))), k40.trans ((kq (a := 2) (b := 5) eσ25 (fun q => absurd q.1 (by decide))).trans ((kq (a := 2) (b := 5) eσ24 (fun q => absurd q.1 (by decide))))), k41.trans ((kq (a := 2) (b := 6) eσ25 (fun q => absurd q.1 (by decide))).trans ((kq (a := 2) (b := 6) eσ24 (fun q => absurd q.1 (by decide)))))⟩)
      · first | have f52 := (noteqE (rfl : (σ.1 3 9).toInt = (σ.1 3 9).toInt) (show (1 : Int32).toInt = 1 from by decide)).mp c21 | skip
        intro v53 ev53
        intro σ54 eσ54
        have hσ54 : K1 σ0 σ54 := by rw [eσ54]; exact hσ.u (Rg1.u_5_3 _) (fun q => absurd q.1 (by decide)) (fun q => absurd q.1 (by decide))
        exact hQ _ hσ54 (⟨(kq (a := 9) (b := 9) eσ54 (fun q => absurd q.1 (by decide))), (kq (a := 9) (b := 10) eσ54 (fun q => absurd q.1 (by decide))), (kq (a := 6) (b := 5) eσ54 (fun q => absurd q.1 (by decide))), (kq (a := 7) (b := 4) eσ54 (fun q => absurd q.1 (by decide))), (kq (a := 2) (b := 4) eσ54 (fun q => absurd q.1 (by decide))), (kq (a := 2) (b := 5) eσ54 (fun q => absurd q.1 (by decide))), (kq (a := 2) (b := 6) eσ54 (fun q => absurd q.1 (by decide)))⟩)
  · have f55 := tB (σ.1 3 11)
    first | have f56 := (noteqE (rfl : (σ.1 3 11).toInt = (σ.1 3 11).toInt) (show (0 : Int32).toInt = 0 from by decide)).mp c1 | skip
    exact hQ _ hσ (⟨rfl, rfl, rfl, rfl, rfl, rfl, rfl⟩)
set_option maxHeartbeats 4000000 in
theorem sX3_putByte {N : Nat} (hN : 4294967400 ≤ N) {x1 : Int32} {x2 : Int32} {Q : St → Prop} {σ0 σ : St} (hσ : K1 σ0 σ) (hQ : ∀ τ : St, K1 σ0 τ → (τ.1 3 7 = σ.1 3 7 ∧ τ.1 3 11 = σ.1 3 11 ∧ τ.1 3 6 = σ.1 3 6 ∧ τ.1 9 9 = σ.1 9 9 ∧ τ.1 9 10 = σ.1 9 10 ∧ τ.1 6 5 = σ.1 6 5 ∧ τ.1 7 4 = σ.1 7 4 ∧ τ.1 2 4 = σ.1 2 4 ∧ τ.1 2 5 = σ.1 2 5 ∧ τ.1 2 6 = σ.1 2 6 ∧ τ.1 3 8 = σ.1 3 8) → Q τ) : fX3_putByte N x1 x2 Q σ := by
  unfold fX3_putByte
  refine ⟨fun c1 => ?_, fun c1 => ?_⟩
  · have f2 := tB x1
    first | have f3 := (ltE (rfl : x1.toInt = x1.toInt) (show (0 : Int32).toInt = 0 from by decide)).mp c1 | skip
    exact hQ _ hσ (⟨rfl, rfl, rfl, rfl, rfl, rfl, rfl, rfl, rfl, rfl, rfl⟩)
  · have f4 := tB x1
    first | have f5 := (notltE (rfl : x1.toInt = x1.toInt) (show (0 : Int32).toInt = 0 from by decide)).mp c1 | skip
    refine ⟨fun c6 => ?_, fun c6 => ?_⟩
    · first | have f8 := (leE (show (4096 : Int32).toInt = 4096 from by decide) (rfl : x1.toInt = x1.toInt)).mp c6 | skip
      exact hQ _ hσ (⟨rfl, rfl, rfl, rfl, rfl, rfl, rfl, rfl, rfl, rfl, rfl⟩)
    · first | have f10 := (notleE (show (4096 : Int32).toInt = 4096 from by decide) (rfl : x1.toInt = x1.toInt)).mp c6 | skip
      intro v11 ev11
      refine ⟨inE (rfl : x1.toInt = x1.toInt) (by omega) (by omega), ?_⟩
      intro σ13 eσ13
      have hσ13 : K1 σ0 σ13 := by rw [eσ13]; exact hσ.u (Rg1.ra_12 _ _) (fun q => absurd q.1 (by decide)) (fun q => absurd q.1 (by decide))
      exact hQ _ hσ13 (⟨(kq (a := 3) (b := 7) eσ13 (fun q => absurd q.1 (by decide))), (kq (a := 3) (b := 11) eσ13 (fun q => absurd q.1 (by decide))), (kq (a := 3) (b := 6) eσ13 (fun q => absurd q.1 (by decide))), (kq (a := 9) (b := 9) eσ13 (fun q => absurd q.1 (by decide))), (kq (a := 9) (b := 10) eσ13 (fun q => absurd q.1 (by decide))), (kq (a := 6) (b := 5) eσ13 (fun q => absurd q.1 (by decide))), (kq (a := 7) (b := 4) eσ13 (fun q => absurd q.1 (by decide))), (kq (a := 2) (b := 4) eσ13 (fun q => absurd q.1 (by decide))), (kq (a := 2) (b := 5) eσ13 (fun q => absurd q.1 (by decide))), (kq (a := 2) (b := 6) eσ13 (fun q => absurd q.1 (by decide))), (kq (a := 3) (b := 8) eσ13 (fun q => absurd q.1 (by decide)))⟩)
set_option maxHeartbeats 4000000 in
theorem sX2_writeByte {N : Nat} (hN : 4294967400 ≤ N) {x1 : Int32} {x2 : Int32} {Q : St → Prop} {σ0 σ : St} (hσ : K1 σ0 σ) (hQ : ∀ τ : St, K1 σ0 τ → (τ.1 3 7 = σ.1 3 7 ∧ τ.1 3 6 = σ.1 3 6 ∧ τ.1 9 9 = σ.1 9 9 ∧ τ.1 9 10 = σ.1 9 10 ∧ τ.1 6 5 = σ.1 6 5 ∧ τ.1 7 4 = σ.1 7 4 ∧ τ.1 2 4 = σ.1 2 4 ∧ τ.1 2 5 = σ.1 2 5 ∧ τ.1 2 6 = σ.1 2 6 ∧ τ.1 3 8 = σ.1 3 8) → Q τ) : fX2_writeByte N x1 x2 Q σ := by
  unfold fX2_writeByte
  refine ⟨fun c1 => ?_, fun c1 => ?_⟩
  · have f2 := tB x1
    have f3 := K1.g_1_1 hσ
    first | have f4 := (ltE (rfl : x1.toInt = x1.toInt) (rfl : (σ.1 1 1).toInt = (σ.1 1 1).toInt)).mp c1 | skip
    unfold fX2_writeByte_j22
    unfold fX2_fail
    refine ⟨fun c5 => ?_, fun c5 => ?_⟩
    · have f6 := tB (σ.1 3 11)
      first | have f7 := (eqE (rfl : (σ.1 3 11).toInt = (σ.1 3 11).toInt) (show (0 : Int32).toInt = 0 from by decide)).mp c5 | skip
      intro σ8 eσ8
      have hσ8 : K1 σ0 σ8 := by rw [eσ8]; exact hσ.u (Rg1.u_3_11 _) (fun q => absurd q.1 (by decide)) (fun q => absurd q.1 (by decide))
      try dsimp only
      exact hQ _ hσ8 (⟨(kq (a := 3) (b := 7) eσ8 (fun q => absurd q.2 (by decide))), (kq (a := 3) (b := 6) eσ8 (fun q => absurd q.2 (by decide))), (kq (a := 9) (b := 9) eσ8 (fun q => absurd q.1 (by decide))), (kq (a := 9) (b := 10) eσ8 (fun q => absurd q.1 (by decide))), (kq (a := 6) (b := 5) eσ8 (fun q => absurd q.1 (by decide))), (kq (a := 7) (b := 4) eσ8 (fun q => absurd q.1 (by decide))), (kq (a := 2) (b := 4) eσ8 (fun q => absurd q.1 (by decide))), (kq (a := 2) (b := 5) eσ8 (fun q => absurd q.1 (by decide))), (kq (a := 2) (b := 6) eσ8 (fun q => absurd q.1 (by decide))), (kq (a := 3) (b := 8) eσ8 (fun q => absurd q.2 (by decide)))⟩)
    · have f9 := tB (σ.1 3 11)
      first | have f10 := (noteqE (rfl : (σ.1 3 11).toInt = (σ.1 3 11).toInt) (show (0 : Int32).toInt = 0 from by decide)).mp c5 | skip
      try dsimp only
      exact hQ _ hσ (⟨rfl, rfl, rfl, rfl, rfl, rfl, rfl, rfl, rfl, rfl⟩)
  · have f11 := tB x1
    have f12 := K1.g_1_1 hσ
    first | have f13 := (notltE (rfl : x1.toInt = x1.toInt) (rfl : (σ.1 1 1).toInt = (σ.1 1 1).toInt)).mp c1 | skip
    unfold fX3_has
    refine ⟨fun c14 => ?_, fun c14 => ?_⟩
    · first | have f16 := (ltE (rfl : x1.toInt = x1.toInt) (show (0 : Int32).toInt = 0 from by decide)).mp c14 | skip
      try dsimp only
      refine ⟨fun c17 => ?_, fun c17 => ?_⟩
      · first | have f18 := (eqE (show (0 : Int32).toInt = 0 from by decide) (show (0 : Int32).toInt = 0 from by decide)).mp c17 | skip
        unfold fX2_writeByte_j22
        unfold fX2_fail
        refine ⟨fun c19 => ?_, fun c19 => ?_⟩
        · have f20 := tB (σ.1 3 11)
          first | have f21 := (eqE (rfl : (σ.1 3 11).toInt = (σ.1 3 11).toInt) (show (0 : Int32).toInt = 0 from by decide)).mp c19 | skip
          intro σ22 eσ22
          have hσ22 : K1 σ0 σ22 := by rw [eσ22]; exact hσ.u (Rg1.u_3_11 _) (fun q => absurd q.1 (by decide)) (fun q => absurd q.1 (by decide))
          try dsimp only
          exact hQ _ hσ22 (⟨(kq (a := 3) (b := 7) eσ22 (fun q => absurd q.2 (by decide))), (kq (a := 3) (b := 6) eσ22 (fun q => absurd q.2 (by decide))), (kq (a := 9) (b := 9) eσ22 (fun q => absurd q.1 (by decide))), (kq (a := 9) (b := 10) eσ22 (fun q => absurd q.1 (by decide))), (kq (a := 6) (b := 5) eσ22 (fun q => absurd q.1 (by decide))), (kq (a := 7) (b := 4) eσ22 (fun q => absurd q.1 (by decide))), (kq (a := 2) (b := 4) eσ22 (fun q => absurd q.1 (by decide))), (kq (a := 2) (b := 5) eσ22 (fun q => absurd q.1 (by decide))), (kq (a := 2) (b := 6) eσ22 (fun q => absurd q.1 (by decide))), (kq (a := 3) (b := 8) eσ22 (fun q => absurd q.2 (by decide)))⟩)
        · have f23 := tB (σ.1 3 11)
          first | have f24 := (noteqE (rfl : (σ.1 3 11).toInt = (σ.1 3 11).toInt) (show (0 : Int32).toInt = 0 from by decide)).mp c19 | skip
          try dsimp only
          exact hQ _ hσ (⟨rfl, rfl, rfl, rfl, rfl, rfl, rfl, rfl, rfl, rfl⟩)
      · first | have f25 := (noteqE (show (0 : Int32).toInt = 0 from by decide) (show (0 : Int32).toInt = 0 from by decide)).mp c17 | skip
        have f27 := tB x2
        refine sX3_putByte hN hσ (fun σ28 hσ28 kk40 => ?_)
        obtain ⟨k29, k30, k31, k32, k33, k34, k35, k36, k37, k38, k39⟩ := kk40
        exact hQ _ hσ28 (⟨k29, k31, k32, k33, k34, k35, k36, k37, k38, k39⟩)
    · first | have f42 := (notltE (rfl : x1.toInt = x1.toInt) (show (0 : Int32).toInt = 0 from by decide)).mp c14 | skip
      refine ⟨fun c43 => ?_, fun c43 => ?_⟩
      · first | have f45 := (leE (show (4096 : Int32).toInt = 4096 from by decide) (rfl : x1.toInt = x1.toInt)).mp c43 | skip
        try dsimp only
        refine ⟨fun c46 => ?_, fun c46 => ?_⟩
        · first | have f47 := (eqE (show (0 : Int32).toInt = 0 from by decide) (show (0 : Int32).toInt = 0 from by decide)).mp c46 | skip
          unfold fX2_writeByte_j22
          unfold fX2_fail
          refine ⟨fun c48 => ?_, fun c48 => ?_⟩
          · have f49 := tB (σ.1 3 11)
            first | have f50 := (eqE (rfl : (σ.1 3 11).toInt = (σ.1 3 11).toInt) (show (0 : Int32).toInt = 0 from by decide)).mp c48 | skip
            intro σ51 eσ51
            have hσ51 : K1 σ0 σ51 := by rw [eσ51]; exact hσ.u (Rg1.u_3_11 _) (fun q => absurd q.1 (by decide)) (fun q => absurd q.1 (by decide))
            try dsimp only
            exact hQ _ hσ51 (⟨(kq (a := 3) (b := 7) eσ51 (fun q => absurd q.2 (by decide))), (kq (a := 3) (b := 6) eσ51 (fun q => absurd q.2 (by decide))), (kq (a := 9) (b := 9) eσ51 (fun q => absurd q.1 (by decide))), (kq (a := 9) (b := 10) eσ51 (fun q => absurd q.1 (by decide))), (kq (a := 6) (b := 5) eσ51 (fun q => absurd q.1 (by decide))), (kq (a := 7) (b := 4) eσ51 (fun q => absurd q.1 (by decide))), (kq (a := 2) (b := 4) eσ51 (fun q => absurd q.1 (by decide))), (kq (a := 2) (b := 5) eσ51 (fun q => absurd q.1 (by decide))), (kq (a := 2) (b := 6) eσ51 (fun q => absurd q.1 (by decide))), (kq (a := 3) (b := 8) eσ51 (fun q => absurd q.2 (by decide)))⟩)
          · have f52 := tB (σ.1 3 11)
            first | have f53 := (noteqE (rfl : (σ.1 3 11).toInt = (σ.1 3 11).toInt) (show (0 : Int32).toInt = 0 from by decide)).mp c48 | skip
            try dsimp only
            exact hQ _ hσ (⟨rfl, rfl, rfl, rfl, rfl, rfl, rfl, rfl, rfl, rfl⟩)
        · first | have f54 := (noteqE (show (0 : Int32).toInt = 0 from by decide) (show (0 : Int32).toInt = 0 from by decide)).mp c46 | skip
          have f56 := tB x2
          refine sX3_putByte hN hσ (fun σ57 hσ57 kk69 => ?_)
          obtain ⟨k58, k59, k60, k61, k62, k63, k64, k65, k66, k67, k68⟩ := kk69
          exact hQ _ hσ57 (⟨k58, k60, k61, k62, k63, k64, k65, k66, k67, k68⟩)
      · first | have f71 := (notleE (show (4096 : Int32).toInt = 4096 from by decide) (rfl : x1.toInt = x1.toInt)).mp c43 | skip
        try dsimp only
        refine ⟨fun c72 => ?_, fun c72 => ?_⟩
        · first | have f73 := (eqE (show (1 : Int32).toInt = 1 from by decide) (show (0 : Int32).toInt = 0 from by decide)).mp c72 | skip
          unfold fX2_writeByte_j22
          unfold fX2_fail
          refine ⟨fun c74 => ?_, fun c74 => ?_⟩
          · have f75 := tB (σ.1 3 11)
            first | have f76 := (eqE (rfl : (σ.1 3 11).toInt = (σ.1 3 11).toInt) (show (0 : Int32).toInt = 0 from by decide)).mp c74 | skip
            intro σ77 eσ77
            have hσ77 : K1 σ0 σ77 := by rw [eσ77]; exact hσ.u (Rg1.u_3_11 _) (fun q => absurd q.1 (by decide)) (fun q => absurd q.1 (by decide))
            try dsimp only
            exact hQ _ hσ77 (⟨(kq (a := 3) (b := 7) eσ77 (fun q => absurd q.2 (by decide))), (kq (a := 3) (b := 6) eσ77 (fun q => absurd q.2 (by decide))), (kq (a := 9) (b := 9) eσ77 (fun q => absurd q.1 (by decide))), (kq (a := 9) (b := 10) eσ77 (fun q => absurd q.1 (by decide))), (kq (a := 6) (b := 5) eσ77 (fun q => absurd q.1 (by decide))), (kq (a := 7) (b := 4) eσ77 (fun q => absurd q.1 (by decide))), (kq (a := 2) (b := 4) eσ77 (fun q => absurd q.1 (by decide))), (kq (a := 2) (b := 5) eσ77 (fun q => absurd q.1 (by decide))), (kq (a := 2) (b := 6) eσ77 (fun q => absurd q.1 (by decide))), (kq (a := 3) (b := 8) eσ77 (fun q => absurd q.2 (by decide)))⟩)
          · have f78 := tB (σ.1 3 11)
            first | have f79 := (noteqE (rfl : (σ.1 3 11).toInt = (σ.1 3 11).toInt) (show (0 : Int32).toInt = 0 from by decide)).mp c74 | skip
            try dsimp only
            exact hQ _ hσ (⟨rfl, rfl, rfl, rfl, rfl, rfl, rfl, rfl, rfl, rfl⟩)
        · first | have f80 := (noteqE (show (1 : Int32).toInt = 1 from by decide) (show (0 : Int32).toInt = 0 from by decide)).mp c72 | skip
          have f82 := tB x2
          refine sX3_putByte hN hσ (fun σ83 hσ83 kk95 => ?_)
          obtain ⟨k84, k85, k86, k87, k88, k89, k90, k91, k92, k93, k94⟩ := kk95
          exact hQ _ hσ83 (⟨k84, k86, k87, k88, k89, k90, k91, k92, k93, k94⟩)
set_option maxHeartbeats 4000000 in
theorem sX2_act {N : Nat} (hN : 4294967400 ≤ N) {k1 : Nat} {x2 : Int32} {x3 : Int32} {x4 : Int32} (hk1 : jobK k1) {Q : St → Prop} {σ0 σ : St} (hs3_7 : 1 ≤ (σ.1 3 7).toInt ∧ (σ.1 3 7).toInt ≤ 40) (hσ : K1 σ0 σ) (hQ : ∀ τ : St, K1 σ0 τ → (τ.1 9 9 = σ.1 9 9 ∧ τ.1 9 10 = σ.1 9 10 ∧ τ.1 6 5 = σ.1 6 5 ∧ τ.1 7 4 = σ.1 7 4 ∧ τ.1 2 4 = σ.1 2 4) → Q τ) : fX2_act N k1 x2 x3 x4 Q σ := by
  unfold fX2_act
  have kbhk1 := jobK_b hk1
  refine ⟨fun c1 => ?_, fun c1 => ?_⟩
  · have f2 := tB x2
    first | have f3 := (eqE (rfl : x2.toInt = x2.toInt) (show (0 : Int32).toInt = 0 from by decide)).mp c1 | skip
    have f4 := tB x3
    have f6 := K1.g_3_7 hσ
    refine sX2_endFunction hN hk1 ⟨by omega, by omega⟩ hσ (fun σ5 hσ5 kk17 => ?_)
    obtain ⟨k7, k8, k9, k10, k11, k12, k13, k14, k15, k16⟩ := kk17
    exact hQ _ hσ5 (⟨k9, k10, k11, k12, k13⟩)
  · have f18 := tB x2
    first | have f19 := (noteqE (rfl : x2.toInt = x2.toInt) (show (0 : Int32).toInt = 0 from by decide)).mp c1 | skip
    refine ⟨fun c20 => ?_, fun c20 => ?_⟩
    · first | have f22 := (eqE (rfl : x2.toInt = x2.toInt) (show (1 : Int32).toInt = 1 from by decide)).mp c20 | skip
      have f23 := tB x3
      refine sX2_give hN hσ (fun σ24 hσ24 kk32 => ?_)
      obtain ⟨k25, k26, k27, k28, k29, k30, k31⟩ := kk32
      exact hQ _ hσ24 (⟨k25, k26, k27, k28, k29⟩)
    · first | have f34 := (noteqE (rfl : x2.toInt = x2.toInt) (show (1 : Int32).toInt = 1 from by decide)).mp c20 | skip
      refine ⟨fun c35 => ?_, fun c35 => ?_⟩
      · first | have f37 := (eqE (rfl : x2.toInt = x2.toInt) (show (2 : Int32).toInt = 2 from by decide)).mp c35 | skip
        have f38 := tB x3
        refine sX2_beginString hN hσ (fun σ39 hσ39 kk49 => ?_)
        obtain ⟨k40, k41, k42, k43, k44, k45, k46, k47, k48⟩ := kk49
        exact hQ _ hσ39 (⟨k41, k42, k43, k44, k45⟩)
      · first | have f51 := (noteqE (rfl : x2.toInt = x2.toInt) (show (2 : Int32).toInt = 2 from by decide)).mp c35 | skip
        refine ⟨fun c52 => ?_, fun c52 => ?_⟩
        · first | have f54 := (eqE (rfl : x2.toInt = x2.toInt) (show (3 : Int32).toInt = 3 from by decide)).mp c52 | skip
          have f55 := tB x3
          refine sX2_begin hN hσ (fun σ56 hσ56 kk66 => ?_)
          obtain ⟨k57, k58, k59, k60, k61, k62, k63, k64, k65⟩ := kk66
          exact hQ _ hσ56 (⟨k58, k59, k60, k61, k62⟩)
        · first | have f68 := (noteqE (rfl : x2.toInt = x2.toInt) (show (3 : Int32).toInt = 3 from by decide)).mp c52 | skip
          refine ⟨fun c69 => ?_, fun c69 => ?_⟩
          · first | have f71 := (eqE (rfl : x2.toInt = x2.toInt) (show (4 : Int32).toInt = 4 from by decide)).mp c69 | skip
            unfold fX2_setSystem
            unfold fX2_isSystem
            refine ⟨fun c72 => ?_, fun c72 => ?_⟩
            · have f73 := tB x3
              first | have f74 := (ltE (rfl : x3.toInt = x3.toInt) (show (0 : Int32).toInt = 0 from by decide)).mp c72 | skip
              try dsimp only
              refine ⟨fun c75 => ?_, fun c75 => ?_⟩
              · first | have f76 := (eqE (show (0 : Int32).toInt = 0 from by decide) (show (0 : Int32).toInt = 0 from by decide)).mp c75 | skip
                unfold fX2_setSystem_j13
                intro σ77 eσ77
                have hσ77 : K1 σ0 σ77 := by rw [eσ77]; exact hσ.u (Rg1.u_3_9 _) (fun q => absurd q.1 (by decide)) (fun q => absurd q.1 (by decide))
                intro σ78 eσ78
                have hσ78 : K1 σ0 σ78 := by rw [eσ78]; exact hσ77.u (Rg1.u_3_10 _) (fun q => absurd q.1 (by decide)) (fun q => absurd q.1 (by decide))
                try dsimp only
                exact hQ _ hσ78 (⟨(kq (a := 9) (b := 9) eσ78 (fun q => absurd q.1 (by decide))).trans ((kq (a := 9) (b := 9) eσ77 (fun q => absurd q.1 (by decide)))), (kq (a := 9) (b := 10) eσ78 (fun q => absurd q.1 (by decide))).trans ((kq (a := 9) (b := 10) eσ77 (fun q => absurd q.1 (by decide)))), (kq (a := 6) (b := 5) eσ78 (fun q => absurd q.1 (by decide))).trans ((kq (a := 6) (b := 5) eσ77 (fun q => absurd q.1 (by decide)))), (kq (a := 7) (b := 4) eσ78 (fun q => absurd q.1 (by decide))).trans ((kq (a := 7) (b := 4) eσ77 (fun q => absurd q.1 (by decide)))), (kq (a := 2) (b := 4) eσ78 (fun q => absurd q.1 (by decide))).trans ((kq (a := 2) (b := 4) eσ77 (fun q => absurd q.1 (by decide))))⟩)
              · first | have f79 := (noteqE (show (0 : Int32).toInt = 0 from by decide) (show (0 : Int32).toInt = 0 from by decide)).mp c75 | skip
                unfold fX2_setSystem_j13
                intro σ80 eσ80
                have hσ80 : K1 σ0 σ80 := by rw [eσ80]; exact hσ.u (Rg1.u_3_9 _) (fun q => absurd q.1 (by decide)) (fun q => absurd q.1 (by decide))
                intro σ81 eσ81
                have hσ81 : K1 σ0 σ81 := by rw [eσ81]; exact hσ80.u (Rg1.u_3_10 _) (fun q => absurd q.1 (by decide)) (fun q => absurd q.1 (by decide))
                try dsimp only
                exact hQ _ hσ81 (⟨(kq (a := 9) (b := 9) eσ81 (fun q => absurd q.1 (by decide))).trans ((kq (a := 9) (b := 9) eσ80 (fun q => absurd q.1 (by decide)))), (kq (a := 9) (b := 10) eσ81 (fun q => absurd q.1 (by decide))).trans ((kq (a := 9) (b := 10) eσ80 (fun q => absurd q.1 (by decide)))), (kq (a := 6) (b := 5) eσ81 (fun q => absurd q.1 (by decide))).trans ((kq (a := 6) (b := 5) eσ80 (fun q => absurd q.1 (by decide)))), (kq (a := 7) (b := 4) eσ81 (fun q => absurd q.1 (by decide))).trans ((kq (a := 7) (b := 4) eσ80 (fun q => absurd q.1 (by decide)))), (kq (a := 2) (b := 4) eσ81 (fun q => absurd q.1 (by decide))).trans ((kq (a := 2) (b := 4) eσ80 (fun q => absurd q.1 (by decide))))⟩)
            · have f82 := tB x3
              first | have f83 := (notltE (rfl : x3.toInt = x3.toInt) (show (0 : Int32).toInt = 0 from by decide)).mp c72 | skip
              refine ⟨fun c84 => ?_, fun c84 => ?_⟩
              · first | have f86 := (ltE (show (2 : Int32).toInt = 2 from by decide) (rfl : x3.toInt = x3.toInt)).mp c84 | skip
                try dsimp only
                refine ⟨fun c87 => ?_, fun c87 => ?_⟩
                · first | have f88 := (eqE (show (0 : Int32).toInt = 0 from by decide) (show (0 : Int32).toInt = 0 from by decide)).mp c87 | skip
                  unfold fX2_setSystem_j13
                  intro σ89 eσ89
                  have hσ89 : K1 σ0 σ89 := by rw [eσ89]; exact hσ.u (Rg1.u_3_9 _) (fun q => absurd q.1 (by decide)) (fun q => absurd q.1 (by decide))
                  intro σ90 eσ90
                  have hσ90 : K1 σ0 σ90 := by rw [eσ90]; exact hσ89.u (Rg1.u_3_10 _) (fun q => absurd q.1 (by decide)) (fun q => absurd q.1 (by decide))
                  try dsimp only
                  exact hQ _ hσ90 (⟨(kq (a := 9) (b := 9) eσ90 (fun q => absurd q.1 (by decide))).trans ((kq (a := 9) (b := 9) eσ89 (fun q => absurd q.1 (by decide)))), (kq (a := 9) (b := 10) eσ90 (fun q => absurd q.1 (by decide))).trans ((kq (a := 9) (b := 10) eσ89 (fun q => absurd q.1 (by decide)))), (kq (a := 6) (b := 5) eσ90 (fun q => absurd q.1 (by decide))).trans ((kq (a := 6) (b := 5) eσ89 (fun q => absurd q.1 (by decide)))), (kq (a := 7) (b := 4) eσ90 (fun q => absurd q.1 (by decide))).trans ((kq (a := 7) (b := 4) eσ89 (fun q => absurd q.1 (by decide)))), (kq (a := 2) (b := 4) eσ90 (fun q => absurd q.1 (by decide))).trans ((kq (a := 2) (b := 4) eσ89 (fun q => absurd q.1 (by decide))))⟩)
                · first | have f91 := (noteqE (show (0 : Int32).toInt = 0 from by decide) (show (0 : Int32).toInt = 0 from by decide)).mp c87 | skip
                  unfold fX2_setSystem_j13
                  intro σ92 eσ92
                  have hσ92 : K1 σ0 σ92 := by rw [eσ92]; exact hσ.u (Rg1.u_3_9 _) (fun q => absurd q.1 (by decide)) (fun q => absurd q.1 (by decide))
                  intro σ93 eσ93
                  have hσ93 : K1 σ0 σ93 := by rw [eσ93]; exact hσ92.u (Rg1.u_3_10 _) (fun q => absurd q.1 (by decide)) (fun q => absurd q.1 (by decide))
                  try dsimp only
                  exact hQ _ hσ93 (⟨(kq (a := 9) (b := 9) eσ93 (fun q => absurd q.1 (by decide))).trans ((kq (a := 9) (b := 9) eσ92 (fun q => absurd q.1 (by decide)))), (kq (a := 9) (b := 10) eσ93 (fun q => absurd q.1 (by decide))).trans ((kq (a := 9) (b := 10) eσ92 (fun q => absurd q.1 (by decide)))), (kq (a := 6) (b := 5) eσ93 (fun q => absurd q.1 (by decide))).trans ((kq (a := 6) (b := 5) eσ92 (fun q => absurd q.1 (by decide)))), (kq (a := 7) (b := 4) eσ93 (fun q => absurd q.1 (by decide))).trans ((kq (a := 7) (b := 4) eσ92 (fun q => absurd q.1 (by decide)))), (kq (a := 2) (b := 4) eσ93 (fun q => absurd q.1 (by decide))).trans ((kq (a := 2) (b := 4) eσ92 (fun q => absurd q.1 (by decide))))⟩)
              · first | have f95 := (notltE (show (2 : Int32).toInt = 2 from by decide) (rfl : x3.toInt = x3.toInt)).mp c84 | skip
                try dsimp only
                refine ⟨fun c96 => ?_, fun c96 => ?_⟩
                · first | have f97 := (eqE (show (1 : Int32).toInt = 1 from by decide) (show (0 : Int32).toInt = 0 from by decide)).mp c96 | skip
                  unfold fX2_setSystem_j13
                  intro σ98 eσ98
                  have hσ98 : K1 σ0 σ98 := by rw [eσ98]; exact hσ.u (Rg1.u_3_9 _) (fun q => absurd q.1 (by decide)) (fun q => absurd q.1 (by decide))
                  intro σ99 eσ99
                  have hσ99 : K1 σ0 σ99 := by rw [eσ99]; exact hσ98.u (Rg1.u_3_10 _) (fun q => absurd q.1 (by decide)) (fun q => absurd q.1 (by decide))
                  try dsimp only
                  exact hQ _ hσ99 (⟨(kq (a := 9) (b := 9) eσ99 (fun q => absurd q.1 (by decide))).trans ((kq (a := 9) (b := 9) eσ98 (fun q => absurd q.1 (by decide)))), (kq (a := 9) (b := 10) eσ99 (fun q => absurd q.1 (by decide))).trans ((kq (a := 9) (b := 10) eσ98 (fun q => absurd q.1 (by decide)))), (kq (a := 6) (b := 5) eσ99 (fun q => absurd q.1 (by decide))).trans ((kq (a := 6) (b := 5) eσ98 (fun q => absurd q.1 (by decide)))), (kq (a := 7) (b := 4) eσ99 (fun q => absurd q.1 (by decide))).trans ((kq (a := 7) (b := 4) eσ98 (fun q => absurd q.1 (by decide)))), (kq (a := 2) (b := 4) eσ99 (fun q => absurd q.1 (by decide))).trans ((kq (a := 2) (b := 4) eσ98 (fun q => absurd q.1 (by decide))))⟩)
                · first | have f100 := (noteqE (show (1 : Int32).toInt = 1 from by decide) (show (0 : Int32).toInt = 0 from by decide)).mp c96 | skip
                  unfold fX2_setSystem_j13
                  intro σ101 eσ101
                  have hσ101 : K1 σ0 σ101 := by rw [eσ101]; exact hσ.u (Rg1.u_3_9 _) (fun q => absurd q.1 (by decide)) (fun q => absurd q.1 (by decide))
                  intro σ102 eσ102
                  have hσ102 : K1 σ0 σ102 := by rw [eσ102]; exact hσ101.u (Rg1.u_3_10 _) (fun q => absurd q.1 (by decide)) (fun q => absurd q.1 (by decide))
                  try dsimp only
                  exact hQ _ hσ102 (⟨(kq (a := 9) (b := 9) eσ102 (fun q => absurd q.1 (by decide))).trans ((kq (a := 9) (b := 9) eσ101 (fun q => absurd q.1 (by decide)))), (kq (a := 9) (b := 10) eσ102 (fun q => absurd q.1 (by decide))).trans ((kq (a := 9) (b := 10) eσ101 (fun q => absurd q.1 (by decide)))), (kq (a := 6) (b := 5) eσ102 (fun q => absurd q.1 (by decide))).trans ((kq (a := 6) (b := 5) eσ101 (fun q => absurd q.1 (by decide)))), (kq (a := 7) (b := 4) eσ102 (fun q => absurd q.1 (by decide))).trans ((kq (a := 7) (b := 4) eσ101 (fun q => absurd q.1 (by decide)))), (kq (a := 2) (b := 4) eσ102 (fun q => absurd q.1 (by decide))).trans ((kq (a := 2) (b := 4) eσ101 (fun q => absurd q.1 (by decide))))⟩)
          · first | have f104 := (noteqE (rfl : x2.toInt = x2.toInt) (show (4 : Int32).toInt = 4 from by decide)).mp c69 | skip
            refine ⟨fun c105 => ?_, fun c105 => ?_⟩
            · first | have f107 := (eqE (rfl : x2.toInt = x2.toInt) (show (5 : Int32).toInt = 5 from by decide)).mp c105 | skip
              have f108 := tB x3
              refine sX8_tell hN hσ (fun σ109 hσ109 kk119 => ?_)
              obtain ⟨k110, k111, k112, k113, k114, k115, k116, k117, k118⟩ := kk119
              exact hQ _ hσ109 (⟨k113, k114, k115, k116, k117⟩)
            · first | have f121 := (noteqE (rfl : x2.toInt = x2.toInt) (show (5 : Int32).toInt = 5 from by decide)).mp c105 | skip
              refine ⟨fun c122 => ?_, fun c122 => ?_⟩
              · first | have f124 := (eqE (rfl : x2.toInt = x2.toInt) (show (15 : Int32).toInt = 15 from by decide)).mp c122 | skip
                have f125 := tB x3
                have f126 := tB x4
                refine sX2_writeByte hN hσ (fun σ127 hσ127 kk138 => ?_)
                obtain ⟨k128, k129, k130, k131, k132, k133, k134, k135, k136, k137⟩ := kk138
                exact hQ _ hσ127 (⟨k130, k131, k132, k133, k134⟩)
              · first | have f140 := (noteqE (rfl : x2.toInt = x2.toInt) (show (15 : Int32).toInt = 15 from by decide)).mp c122 | skip
                unfold fX2_act_j145
                intro σ141 eσ141
                have hσ141 : K1 σ0 σ141 := by rw [eσ141]; exact hσ.u (Rg1.r_3_7 (leP (show (0 : Int32).toInt = 0 from by decide) (by omega)) (geP (show (0 : Int32).toInt = 0 from by decide) (by omega))) (fun q => absurd q.1 (by decide)) (fun q => absurd q.1 (by decide))
                exact hQ _ hσ141 (⟨(kq (a := 9) (b := 9) eσ141 (fun q => absurd q.1 (by decide))), (kq (a := 9) (b := 10) eσ141 (fun q => absurd q.1 (by decide))), (kq (a := 6) (b := 5) eσ141 (fun q => absurd q.1 (by decide))), (kq (a := 7) (b := 4) eσ141 (fun q => absurd q.1 (by decide))), (kq (a := 2) (b := 4) eσ141 (fun q => absurd q.1 (by decide)))⟩)
