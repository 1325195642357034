theorem sJ7_fill_53178 {N : Nat} (hN : 4294967400 ≤ N) {k0 n0 : Nat} {x1 : Int32} (hn : n0 < 2147483648) (hr : ∀ (j : Nat) (v : Int32), Rg1 k0 j v) (h1 : 9 < k0) (h2 : 9 < k0) {Q : St → Prop} {σ0 σ : St} (hσ : K1 σ0 σ) (hQ : ∀ τ : St, K1 σ0 τ → (τ.1 3 7 = σ.1 3 7 ∧ τ.1 3 11 = σ.1 3 11 ∧ τ.1 3 6 = σ.1 3 6 ∧ τ.1 9 9 = σ.1 9 9 ∧ τ.1 9 10 = σ.1 9 10 ∧ τ.1 6 5 = σ.1 6 5 ∧ τ.1 7 4 = σ.1 7 4 ∧ τ.1 2 4 = σ.1 2 4 ∧ τ.1 2 5 = σ.1 2 5 ∧ τ.1 2 6 = σ.1 2 6 ∧ τ.1 3 8 = σ.1 3 8) → Q τ) : fJ7_fill_53178 N k0 n0 x1 Q σ := by
  unfold fJ7_fill_53178
  intro v ev
  have hv : v.toInt = n0 := by rw [ev]; exact nI_toInt (by omega)
  have f0 : (0 : Int32).toInt = 0 := by decide
  refine lo1_i (fun (i : Int32) (τ : St) => K1 σ0 τ ∧ 0 ≤ i.toInt ∧ ∀ c, c ≤ 9 → τ.1 c = σ.1 c) (fun i _ => (2147483648 - i.toInt).toNat) ?_ N 0 σ ⟨hσ, by decide, fun _ _ => rfl⟩ (by (try dsimp only); omega)
  intro rr i τ hI ih
  obtain ⟨hτ, hi, hc⟩ := hI
  unfold fJ7_fill_53178_l5
  refine ⟨fun _ => hQ τ hτ ?_, fun c => ?_⟩
  · rw [hc 3 (by omega), hc 9 (by omega), hc 6 (by omega), hc 7 (by omega), hc 2 (by omega)]
    exact ⟨rfl, rfl, rfl, rfl, rfl, rfl, rfl, rfl, rfl, rfl, rfl⟩
  · have c1 := mt Int32.le_iff_toInt_le.mpr c
    refine ⟨inI hi (by omega), ?_⟩
    intro τ1 e1 u eu
    have f1 := tA i 1
    have f2 := tB (i + 1)
    have f3 : (1 : Int32).toInt = 1 := by decide
    have f4 := congrArg Int32.toInt eu
    have f5 := tB v
    refine ih u τ1 ⟨?_, by omega, fun c hc9 => ?_⟩ (by show (2147483648 - u.toInt).toNat < (2147483648 - i.toInt).toNat; omega)
    · rw [e1]; exact hτ.u (hr _ _) (by omega) (by omega)
    · rw [e1, u1_ne (by omega)]; exact hc c hc9
set_option maxHeartbeats 4000000 in
theorem sX8_drop {N : Nat} (hN : 4294967400 ≤ N) {Q : St → Prop} {σ0 σ : St} (hσ : K1 σ0 σ) (hQ : ∀ τ : St, K1 σ0 τ → (τ.1 3 7 = σ.1 3 7 ∧ τ.1 3 11 = σ.1 3 11 ∧ τ.1 3 6 = σ.1 3 6 ∧ τ.1 9 9 = σ.1 9 9 ∧ τ.1 9 10 = σ.1 9 10 ∧ τ.1 6 5 = σ.1 6 5 ∧ τ.1 7 4 = σ.1 7 4 ∧ τ.1 2 4 = σ.1 2 4 ∧ τ.1 3 8 = σ.1 3 8) → Q τ) : fX8_drop N  Q σ := by
  unfold fX8_drop
  intro σ1 eσ1
  have f2 : (0 : Int32).toInt = 0 := by decide
  have hσ1 : K1 σ0 σ1 := by rw [eσ1]; exact hσ.u (Rg1.r_2_5 (by omega) (by omega)) (by omega) (by omega)
  intro σ3 eσ3
  have hσ3 : K1 σ0 σ3 := by rw [eσ3]; exact hσ1.u (Rg1.r_2_6 (by omega) (by omega)) (by omega) (by omega)
  intro σ5 eσ5
  have hσ5 : K1 σ0 σ5 := by rw [eσ5]; exact hσ3.u (Rg1.u_2_7 _) (by omega) (by omega)
  exact hQ _ hσ5 (⟨(kq (a := 3) (b := 7) eσ5 (by omega)).trans ((kq (a := 3) (b := 7) eσ3 (by omega)).trans ((kq (a := 3) (b := 7) eσ1 (by omega)))), (kq (a := 3) (b := 11) eσ5 (by omega)).trans ((kq (a := 3) (b := 11) eσ3 (by omega)).trans ((kq (a := 3) (b := 11) eσ1 (by omega)))), (kq (a := 3) (b := 6) eσ5 (by omega)).trans ((kq (a := 3) (b := 6) eσ3 (by omega)).trans ((kq (a := 3) (b := 6) eσ1 (by omega)))), (kq (a := 9) (b := 9) eσ5 (by omega)).trans ((kq (a := 9) (b := 9) eσ3 (by omega)).trans ((kq (a := 9) (b := 9) eσ1 (by omega)))), (kq (a := 9) (b := 10) eσ5 (by omega)).trans ((kq (a := 9) (b := 10) eσ3 (by omega)).trans ((kq (a := 9) (b := 10) eσ1 (by omega)))), (kq (a := 6) (b := 5) eσ5 (by omega)).trans ((kq (a := 6) (b := 5) eσ3 (by omega)).trans ((kq (a := 6) (b := 5) eσ1 (by omega)))), (kq (a := 7) (b := 4) eσ5 (by omega)).trans ((kq (a := 7) (b := 4) eσ3 (by omega)).trans ((kq (a := 7) (b := 4) eσ1 (by omega)))), (kq (a := 2) (b := 4) eσ5 (by omega)).trans ((kq (a := 2) (b := 4) eσ3 (by omega)).trans ((kq (a := 2) (b := 4) eσ1 (by omega)))), (kq (a := 3) (b := 8) eσ5 (by omega)).trans ((kq (a := 3) (b := 8) eσ3 (by omega)).trans ((kq (a := 3) (b := 8) eσ1 (by omega))))⟩)
set_option maxHeartbeats 4000000 in
theorem sX8_dropIfTouched {N : Nat} (hN : 4294967400 ≤ N) {x1 : Int32} {x2 : Int32} {Q : St → Prop} {σ0 σ : St} (hσ : K1 σ0 σ) (hQ : ∀ τ : St, K1 σ0 τ → (τ.1 3 7 = σ.1 3 7 ∧ τ.1 3 11 = σ.1 3 11 ∧ τ.1 3 6 = σ.1 3 6 ∧ τ.1 9 9 = σ.1 9 9 ∧ τ.1 9 10 = σ.1 9 10 ∧ τ.1 6 5 = σ.1 6 5 ∧ τ.1 7 4 = σ.1 7 4 ∧ τ.1 2 4 = σ.1 2 4 ∧ τ.1 3 8 = σ.1 3 8) → Q τ) : fX8_dropIfTouched N x1 x2 Q σ := by
  unfold fX8_dropIfTouched
  refine ⟨fun c1 => ?_, fun c1 => ?_⟩
  · have f2 := K1.g_2_6 hσ
    have f3 := tB x1
    have f4 := Int32.le_iff_toInt_le.mp c1
    exact hQ _ hσ (⟨rfl, rfl, rfl, rfl, rfl, rfl, rfl, rfl, rfl⟩)
  · have f5 := K1.g_2_6 hσ
    have f6 := tB x1
    have f7 := mt Int32.le_iff_toInt_le.mpr c1
    refine ⟨fun c8 => ?_, fun c8 => ?_⟩
    · have f9 := tB x2
      have f10 := K1.g_2_5 hσ
      have f11 := Int32.le_iff_toInt_le.mp c8
      exact hQ _ hσ (⟨rfl, rfl, rfl, rfl, rfl, rfl, rfl, rfl, rfl⟩)
    · have f12 := tB x2
      have f13 := K1.g_2_5 hσ
      have f14 := mt Int32.le_iff_toInt_le.mpr c8
      unfold fX8_drop
      intro σ15 eσ15
      have f16 : (0 : Int32).toInt = 0 := by decide
      have hσ15 : K1 σ0 σ15 := by rw [eσ15]; exact hσ.u (Rg1.r_2_5 (by omega) (by omega)) (by omega) (by omega)
      intro σ17 eσ17
      have hσ17 : K1 σ0 σ17 := by rw [eσ17]; exact hσ15.u (Rg1.r_2_6 (by omega) (by omega)) (by omega) (by omega)
      intro σ19 eσ19
      have hσ19 : K1 σ0 σ19 := by rw [eσ19]; exact hσ17.u (Rg1.u_2_7 _) (by omega) (by omega)
      try dsimp only
      exact hQ _ hσ19 (⟨(kq (a := 3) (b := 7) eσ19 (by omega)).trans ((kq (a := 3) (b := 7) eσ17 (by omega)).trans ((kq (a := 3) (b := 7) eσ15 (by omega)))), (kq (a := 3) (b := 11) eσ19 (by omega)).trans ((kq (a := 3) (b := 11) eσ17 (by omega)).trans ((kq (a := 3) (b := 11) eσ15 (by omega)))), (kq (a := 3) (b := 6) eσ19 (by omega)).trans ((kq (a := 3) (b := 6) eσ17 (by omega)).trans ((kq (a := 3) (b := 6) eσ15 (by omega)))), (kq (a := 9) (b := 9) eσ19 (by omega)).trans ((kq (a := 9) (b := 9) eσ17 (by omega)).trans ((kq (a := 9) (b := 9) eσ15 (by omega)))), (kq (a := 9) (b := 10) eσ19 (by omega)).trans ((kq (a := 9) (b := 10) eσ17 (by omega)).trans ((kq (a := 9) (b := 10) eσ15 (by omega)))), (kq (a := 6) (b := 5) eσ19 (by omega)).trans ((kq (a := 6) (b := 5) eσ17 (by omega)).trans ((kq (a := 6) (b := 5) eσ15 (by omega)))), (kq (a := 7) (b := 4) eσ19 (by omega)).trans ((kq (a := 7) (b := 4) eσ17 (by omega)).trans ((kq (a := 7) (b := 4) eσ15 (by omega)))), (kq (a := 2) (b := 4) eσ19 (by omega)).trans ((kq (a := 2) (b := 4) eσ17 (by omega)).trans ((kq (a := 2) (b := 4) eσ15 (by omega)))), (kq (a := 3) (b := 8) eσ19 (by omega)).trans ((kq (a := 3) (b := 8) eσ17 (by omega)).trans ((kq (a := 3) (b := 8) eσ15 (by omega))))⟩)
set_option maxHeartbeats 4000000 in
theorem sX3_has {N : Nat} (hN : 4294967400 ≤ N) {x1 : Int32} {Q : Int32 → St → Prop} {σ0 σ : St} (hσ : K1 σ0 σ) (hQ : ∀ r : Int32, True → Q r σ) : fX3_has N x1 Q σ := by
  unfold fX3_has
  refine ⟨fun c1 => ?_, fun c1 => ?_⟩
  · have f2 := tB x1
    have f3 : (0 : Int32).toInt = 0 := by decide
    have f4 := Int32.lt_iff_toInt_lt.mp c1
    exact hQ _ trivial
  · have f5 := tB x1
    have f6 : (0 : Int32).toInt = 0 := by decide
    have f7 := mt Int32.lt_iff_toInt_lt.mpr c1
    refine ⟨fun c8 => ?_, fun c8 => ?_⟩
    · have f9 : (4096 : Int32).toInt = 4096 := by decide
      have f11 := Int32.le_iff_toInt_le.mp c8
      exact hQ _ trivial
    · have f12 : (4096 : Int32).toInt = 4096 := by decide
      have f14 := mt Int32.le_iff_toInt_le.mpr c8
      exact hQ _ trivial
set_option maxHeartbeats 4000000 in
theorem sX3_byteOf {N : Nat} (hN : 4294967400 ≤ N) {x1 : Int32} {Q : Int32 → St → Prop} {σ0 σ : St} (hσ : K1 σ0 σ) (hQ : ∀ r : Int32, (0) ≤ r.toInt ∧ r.toInt ≤ 255 → Q r σ) : fX3_byteOf N x1 Q σ := by
  unfold fX3_byteOf
  refine ⟨fun c1 => ?_, fun c1 => ?_⟩
  · have f2 := tB x1
    have f3 : (0 : Int32).toInt = 0 := by decide
    have f4 := Int32.lt_iff_toInt_lt.mp c1
    exact hQ _ ⟨by omega, by omega⟩
  · have f6 := tB x1
    have f7 : (0 : Int32).toInt = 0 := by decide
    have f8 := mt Int32.lt_iff_toInt_lt.mpr c1
    refine ⟨fun c9 => ?_, fun c9 => ?_⟩
    · have f10 : (4096 : Int32).toInt = 4096 := by decide
      have f12 := Int32.le_iff_toInt_le.mp c9
      exact hQ _ ⟨by omega, by omega⟩
    · have f14 : (4096 : Int32).toInt = 4096 := by decide
      have f16 := mt Int32.le_iff_toInt_le.mpr c9
      have g18 : vp_in x1 4096 := inI (by omega) (by omega)
      refine ⟨g18, ?_⟩
      have f19 := and255 (σ.1 12 x1.toNatClampNeg)
      exact hQ _ ⟨by omega, by omega⟩
set_option maxHeartbeats 4000000 in
theorem sX11_byteAt {N : Nat} (hN : 4294967400 ≤ N) {x1 : Int32} {Q : Int32 → St → Prop} {σ0 σ : St} (hσ : K1 σ0 σ) (hQ : ∀ r : Int32, True → Q r σ) : fX11_byteAt N x1 Q σ := by
  unfold fX11_byteAt
  unfold fX3_has
  refine ⟨fun c1 => ?_, fun c1 => ?_⟩
  · have f2 := tB x1
    have f3 : (0 : Int32).toInt = 0 := by decide
    have f4 := Int32.lt_iff_toInt_lt.mp c1
    try dsimp only
    refine ⟨fun c5 => ?_, fun c5 => ?_⟩
    · have f8 := congrArg Int32.toInt c5
      exact hQ _ trivial
    · have f11 := mt Int32.toInt_inj.mp c5
      refine sX3_byteOf hN hσ (fun r26 p27 => ?_)
      exact hQ _ trivial
  · have f28 := tB x1
    have f29 : (0 : Int32).toInt = 0 := by decide
    have f30 := mt Int32.lt_iff_toInt_lt.mpr c1
    refine ⟨fun c31 => ?_, fun c31 => ?_⟩
    · have f32 : (4096 : Int32).toInt = 4096 := by decide
      have f34 := Int32.le_iff_toInt_le.mp c31
      try dsimp only
      refine ⟨fun c35 => ?_, fun c35 => ?_⟩
      · have f38 := congrArg Int32.toInt c35
        exact hQ _ trivial
      · have f41 := mt Int32.toInt_inj.mp c35
        refine sX3_byteOf hN hσ (fun r56 p57 => ?_)
        exact hQ _ trivial
    · have f58 : (4096 : Int32).toInt = 4096 := by decide
      have f60 := mt Int32.le_iff_toInt_le.mpr c31
      try dsimp only
      refine ⟨fun c61 => ?_, fun c61 => ?_⟩
      · have f62 : (1 : Int32).toInt = 1 := by decide
        have f64 := congrArg Int32.toInt c61
        exact hQ _ trivial
      · have f65 : (1 : Int32).toInt = 1 := by decide
        have f67 := mt Int32.toInt_inj.mp c61
        refine sX3_byteOf hN hσ (fun r82 p83 => ?_)
        exact hQ _ trivial
set_option maxHeartbeats 4000000 in
theorem sX3_fourOf {N : Nat} (hN : 4294967400 ≤ N) {x1 : Int32} {Q : Int32 → St → Prop} {σ0 σ : St} (hσ : K1 σ0 σ) (hQ : ∀ r : Int32, True → Q r σ) : fX3_fourOf N x1 Q σ := by
  unfold fX3_fourOf
  refine ⟨fun c1 => ?_, fun c1 => ?_⟩
  · have f2 := tB x1
    have f3 : (0 : Int32).toInt = 0 := by decide
    have f4 := Int32.lt_iff_toInt_lt.mp c1
    exact hQ _ trivial
  · have f5 := tB x1
    have f6 : (0 : Int32).toInt = 0 := by decide
    have f7 := mt Int32.lt_iff_toInt_lt.mpr c1
    refine ⟨fun c8 => ?_, fun c8 => ?_⟩
    · have f10 : (4092 : Int32).toInt = 4092 := by decide
      have f11 := Int32.le_iff_toInt_le.mp c8
      have g13 : vp_in x1 4096 := inI (by omega) (by omega)
      refine ⟨g13, ?_⟩
      have f15 : (1 : Int32).toInt = 1 := by decide
      have f16 := tA x1 (1 : Int32)
      have f17 := tB (x1 + 1)
      have g18 : vp_in (x1 + 1) 4096 := inI (by omega) (by omega)
      refine ⟨g18, ?_⟩
      have f20 : (2 : Int32).toInt = 2 := by decide
      have f21 := tA x1 (2 : Int32)
      have f22 := tB (x1 + 2)
      have g23 : vp_in (x1 + 2) 4096 := inI (by omega) (by omega)
      refine ⟨g23, ?_⟩
      have f25 : (3 : Int32).toInt = 3 := by decide
      have f26 := tA x1 (3 : Int32)
      have f27 := tB (x1 + 3)
      have g28 : vp_in (x1 + 3) 4096 := inI (by omega) (by omega)
      refine ⟨g28, ?_⟩
      exact hQ _ trivial
    · have f30 : (4092 : Int32).toInt = 4092 := by decide
      have f31 := mt Int32.le_iff_toInt_le.mpr c8
      exact hQ _ trivial
set_option maxHeartbeats 4000000 in
theorem sX8_tell {N : Nat} (hN : 4294967400 ≤ N) {x1 : Int32} {Q : St → Prop} {σ0 σ : St} (hσ : K1 σ0 σ) (hQ : ∀ τ : St, K1 σ0 τ → (τ.1 3 7 = σ.1 3 7 ∧ τ.1 3 11 = σ.1 3 11 ∧ τ.1 3 6 = σ.1 3 6 ∧ τ.1 9 9 = σ.1 9 9 ∧ τ.1 9 10 = σ.1 9 10 ∧ τ.1 6 5 = σ.1 6 5 ∧ τ.1 7 4 = σ.1 7 4 ∧ τ.1 2 4 = σ.1 2 4 ∧ τ.1 3 8 = σ.1 3 8) → Q τ) : fX8_tell N x1 Q σ := by
  unfold fX8_tell
  intro σ1 eσ1
  have hσ1 : K1 σ0 σ1 := by rw [eσ1]; exact hσ.u (Rg1.u_2_8 _) (by omega) (by omega)
  unfold fX8_drop
  intro σ2 eσ2
  have f3 : (0 : Int32).toInt = 0 := by decide
  have hσ2 : K1 σ0 σ2 := by rw [eσ2]; exact hσ1.u (Rg1.r_2_5 (by omega) (by omega)) (by omega) (by omega)
  intro σ4 eσ4
  have hσ4 : K1 σ0 σ4 := by rw [eσ4]; exact hσ2.u (Rg1.r_2_6 (by omega) (by omega)) (by omega) (by omega)
  intro σ6 eσ6
  have hσ6 : K1 σ0 σ6 := by rw [eσ6]; exact hσ4.u (Rg1.u_2_7 _) (by omega) (by omega)
  try dsimp only
  refine ⟨fun c7 => ?_, fun c7 => ?_⟩
  · have f8 := tB x1
    have f10 := Int32.le_iff_toInt_le.mp c7
    exact hQ _ hσ6 (⟨(kq (a := 3) (b := 7) eσ6 (by omega)).trans ((kq (a := 3) (b := 7) eσ4 (by omega)).trans ((kq (a := 3) (b := 7) eσ2 (by omega)).trans ((kq (a := 3) (b := 7) eσ1 (by omega))))), (kq (a := 3) (b := 11) eσ6 (by omega)).trans ((kq (a := 3) (b := 11) eσ4 (by omega)).trans ((kq (a := 3) (b := 11) eσ2 (by omega)).trans ((kq (a := 3) (b := 11) eσ1 (by omega))))), (kq (a := 3) (b := 6) eσ6 (by omega)).trans ((kq (a := 3) (b := 6) eσ4 (by omega)).trans ((kq (a := 3) (b := 6) eσ2 (by omega)).trans ((kq (a := 3) (b := 6) eσ1 (by omega))))), (kq (a := 9) (b := 9) eσ6 (by omega)).trans ((kq (a := 9) (b := 9) eσ4 (by omega)).trans ((kq (a := 9) (b := 9) eσ2 (by omega)).trans ((kq (a := 9) (b := 9) eσ1 (by omega))))), (kq (a := 9) (b := 10) eσ6 (by omega)).trans ((kq (a := 9) (b := 10) eσ4 (by omega)).trans ((kq (a := 9) (b := 10) eσ2 (by omega)).trans ((kq (a := 9) (b := 10) eσ1 (by omega))))), (kq (a := 6) (b := 5) eσ6 (by omega)).trans ((kq (a := 6) (b := 5) eσ4 (by omega)).trans ((kq (a := 6) (b := 5) eσ2 (by omega)).trans ((kq (a := 6) (b := 5) eσ1 (by omega))))), (kq (a := 7) (b := 4) eσ6 (by omega)).trans ((kq (a := 7) (b := 4) eσ4 (by omega)).trans ((kq (a := 7) (b := 4) eσ2 (by omega)).trans ((kq (a := 7) (b := 4) eσ1 (by omega))))), (kq (a := 2) (b := 4) eσ6 (by omega)).trans ((kq (a := 2) (b := 4) eσ4 (by omega)).trans ((kq (a := 2) (b := 4) eσ2 (by omega)).trans ((kq (a := 2) (b := 4) eσ1 (by omega))))), (kq (a := 3) (b := 8) eσ6 (by omega)).trans ((kq (a := 3) (b := 8) eσ4 (by omega)).trans ((kq (a := 3) (b := 8) eσ2 (by omega)).trans ((kq (a := 3) (b := 8) eσ1 (by omega)))))⟩)
  · have f11 := tB x1
    have f13 := mt Int32.le_iff_toInt_le.mpr c7
    refine ⟨fun c14 => ?_, fun c14 => ?_⟩
    · have f16 := K1.g_1_1 hσ6
      have q17 : σ6.1 1 1 = σ4.1 1 1 := by rw [eσ6]; exact congrFun (u1_ne (by decide)) 1
      have f18 := congrArg Int32.toInt q17
      have f19 := K1.g_1_1 hσ4
      have q20 : σ4.1 1 1 = σ2.1 1 1 := by rw [eσ4]; exact congrFun (u1_ne (by decide)) 1
      have f21 := congrArg Int32.toInt q20
      have f22 := K1.g_1_1 hσ2
      have q23 : σ2.1 1 1 = σ1.1 1 1 := by rw [eσ2]; exact congrFun (u1_ne (by decide)) 1
      have f24 := congrArg Int32.toInt q23
      have f25 := K1.g_1_1 hσ1
      have q26 : σ1.1 1 1 = σ.1 1 1 := by rw [eσ1]; exact congrFun (u1_ne (by decide)) 1
      have f27 := congrArg Int32.toInt q26
      have f28 := K1.g_1_1 hσ
      have f29 : (12 : Int32).toInt = 12 := by decide
      have f30 := tS (σ6.1 1 1) (12 : Int32)
      have f31 := tB ((σ6.1 1 1) - 12)
      have f32 := Int32.le_iff_toInt_le.mp c14
      refine sX3_fourOf hN hσ6 (fun r47 p48 => ?_)
      refine ⟨fun c49 => ?_, fun c49 => ?_⟩
      · have f50 := tB r47
        have f52 := Int32.lt_iff_toInt_lt.mp c49
        exact hQ _ hσ6 (⟨(kq (a := 3) (b := 7) eσ6 (by omega)).trans ((kq (a := 3) (b := 7) eσ4 (by omega)).trans ((kq (a := 3) (b := 7) eσ2 (by omega)).trans ((kq (a := 3) (b := 7) eσ1 (by omega))))), (kq (a := 3) (b := 11) eσ6 (by omega)).trans ((kq (a := 3) (b := 11) eσ4 (by omega)).trans ((kq (a := 3) (b := 11) eσ2 (by omega)).trans ((kq (a := 3) (b := 11) eσ1 (by omega))))), (kq (a := 3) (b := 6) eσ6 (by omega)).trans ((kq (a := 3) (b := 6) eσ4 (by omega)).trans ((kq (a := 3) (b := 6) eσ2 (by omega)).trans ((kq (a := 3) (b := 6) eσ1 (by omega))))), (kq (a := 9) (b := 9) eσ6 (by omega)).trans ((kq (a := 9) (b := 9) eσ4 (by omega)).trans ((kq (a := 9) (b := 9) eσ2 (by omega)).trans ((kq (a := 9) (b := 9) eσ1 (by omega))))), (kq (a := 9) (b := 10) eσ6 (by omega)).trans ((kq (a := 9) (b := 10) eσ4 (by omega)).trans ((kq (a := 9) (b := 10) eσ2 (by omega)).trans ((kq (a := 9) (b := 10) eσ1 (by omega))))), (kq (a := 6) (b := 5) eσ6 (by omega)).trans ((kq (a := 6) (b := 5) eσ4 (by omega)).trans ((kq (a := 6) (b := 5) eσ2 (by omega)).trans ((kq (a := 6) (b := 5) eσ1 (by omega))))), (kq (a := 7) (b := 4) eσ6 (by omega)).trans ((kq (a := 7) (b := 4) eσ4 (by omega)).trans ((kq (a := 7) (b := 4) eσ2 (by omega)).trans ((kq (a := 7) (b := 4) eσ1 (by omega))))), (kq (a := 2) (b := 4) eσ6 (by omega)).trans ((kq (a := 2) (b := 4) eσ4 (by omega)).trans ((kq (a := 2) (b := 4) eσ2 (by omega)).trans ((kq (a := 2) (b := 4) eσ1 (by omega))))), (kq (a := 3) (b := 8) eσ6 (by omega)).trans ((kq (a := 3) (b := 8) eσ4 (by omega)).trans ((kq (a := 3) (b := 8) eσ2 (by omega)).trans ((kq (a := 3) (b := 8) eσ1 (by omega)))))⟩)
      · have f53 := tB r47
        have f55 := mt Int32.lt_iff_toInt_lt.mpr c49
        refine ⟨fun c56 => ?_, fun c56 => ?_⟩
        · have f60 := tS (σ6.1 1 1) x1
          have f61 := tB ((σ6.1 1 1) - x1)
          have f62 := Int32.le_iff_toInt_le.mp c56
          intro σ63 eσ63
          have hσ63 : K1 σ0 σ63 := by rw [eσ63]; exact hσ6.u (Rg1.r_2_5 (by omega) (by omega)) (by omega) (by omega)
          intro v65 ev65
          intro σ66 eσ66
          have f67 := tB v65
          have f70 := tA x1 r47
          have f71 := tB (x1 + r47)
          have f72 := congrArg Int32.toInt ev65
          have hσ66 : K1 σ0 σ66 := by rw [eσ66]; exact hσ63.u (Rg1.r_2_6 (by omega) (by omega)) (by omega) (by omega)
          intro σ73 eσ73
          have hσ73 : K1 σ0 σ73 := by rw [eσ73]; exact hσ66.u (Rg1.u_2_7 _) (by omega) (by omega)
          exact hQ _ hσ73 (⟨(kq (a := 3) (b := 7) eσ73 (by omega)).trans ((kq (a := 3) (b := 7) eσ66 (by omega)).trans ((kq (a := 3) (b := 7) eσ63 (by omega)).trans ((kq (a := 3) (b := 7) eσ6 (by omega)).trans ((kq (a := 3) (b := 7) eσ4 (by omega)).trans ((kq (a := 3) (b := 7) eσ2 (by omega)).trans ((kq (a := 3) (b := 7) eσ1 (by omega)))))))), (kq (a := 3) (b := 11) eσ73 (by omega)).trans ((kq (a := 3) (b := 11) eσ66 (by omega)).trans ((kq (a := 3) (b := 11) eσ63 (by omega)).trans ((kq (a := 3) (b := 11) eσ6 (by omega)).trans ((kq (a := 3) (b := 11) eσ4 (by omega)).trans ((kq (a := 3) (b := 11) eσ2 (by omega)).trans ((kq (a := 3) (b := 11) eσ1 (by omega)))))))), (kq (a := 3) (b := 6) eσ73 (by omega)).trans ((kq (a := 3) (b := 6) eσ66 (by omega)).trans ((kq (a := 3) (b := 6) eσ63 (by omega)).trans ((kq (a := 3) (b := 6) eσ6 (by omega)).trans ((kq (a := 3) (b := 6) eσ4 (by omega)).trans ((kq (a := 3) (b := 6) eσ2 (by omega)).trans ((kq (a := 3) (b := 6) eσ1 (by omega)))))))), (kq (a := 9) (b := 9) eσ73 (by omega)).trans ((kq (a := 9) (b := 9) eσ66 (by omega)).trans ((kq (a := 9) (b := 9) eσ63 (by omega)).trans ((kq (a := 9) (b := 9) eσ6 (by omega)).trans ((kq (a := 9) (b := 9) eσ4 (by omega)).trans ((kq (a := 9) (b := 9) eσ2 (by omega)).trans ((kq (a := 9) (b := 9) eσ1 (by omega)))))))), (kq (a := 9) (b := 10) eσ73 (by omega)).trans ((kq (a := 9) (b := 10) eσ66 (by omega)).trans ((kq (a := 9) (b := 10) eσ63 (by omega)).trans ((kq (a := 9) (b := 10) eσ6 (by omega)).trans ((kq (a := 9) (b := 10) eσ4 (by omega)).trans ((kq (a := 9) (b := 10) eσ2 (by omega)).trans ((kq (a := 9) (b := 10) eσ1 (by omega)))))))), (kq (a := 6) (b := 5) eσ73 (by omega)).trans ((kq (a := 6) (b := 5) eσ66 (by omega)).trans ((kq (a := 6) (b := 5) eσ63 (by omega)).trans ((kq (a := 6) (b := 5) eσ6 (by omega)).trans ((kq (a := 6) (b := 5) eσ4 (by omega)).trans ((kq (a := 6) (b := 5) eσ2 (by omega)).trans ((kq (a := 6) (b := 5) eσ1 (by omega)))))))), (kq (a := 7) (b := 4) eσ73 (by omega)).trans ((kq (a := 7) (b := 4) eσ66 (by omega)).trans ((kq (a := 7) (b := 4) eσ63 (by omega)).trans ((kq (a := 7) (b := 4) eσ6 (by omega)).trans ((kq (a := 7) (b := 4) eσ4 (by omega)).trans ((kq (a := 7) (b := 4) eσ2 (by omega)).trans ((kq (a := 7) (b := 4) eσ1 (by omega)))))))), (kq (a := 2) (b := 4) eσ73 (by omega)).trans ((kq (a := 2) (b := 4) eσ66 (by omega)).trans ((kq (a := 2) (b := 4) eσ63 (by omega)).trans ((kq (a := 2) (b := 4) eσ6 (by omega)).trans ((kq (a := 2) (b := 4) eσ4 (by omega)).trans ((kq (a := 2) (b := 4) eσ2 (by omega)).trans ((kq (a := 2) (b := 4) eσ1 (by omega)))))))), (kq (a := 3) (b := 8) eσ73 (by omega)).trans ((kq (a := 3) (b := 8) eσ66 (by omega)).trans ((kq (a := 3) (b := 8) eσ63 (by omega)).trans ((kq (a := 3) (b := 8) eσ6 (by omega)).trans ((kq (a := 3) (b := 8) eσ4 (by omega)).trans ((kq (a := 3) (b := 8) eσ2 (by omega)).trans ((kq (a := 3) (b := 8) eσ1 (by omega))))))))⟩)
        · have f77 := tS (σ6.1 1 1) x1
          have f78 := tB ((σ6.1 1 1) - x1)
          have f79 := mt Int32.le_iff_toInt_le.mpr c56
          exact hQ _ hσ6 (⟨(kq (a := 3) (b := 7) eσ6 (by omega)).trans ((kq (a := 3) (b := 7) eσ4 (by omega)).trans ((kq (a := 3) (b := 7) eσ2 (by omega)).trans ((kq (a := 3) (b := 7) eσ1 (by omega))))), (kq (a := 3) (b := 11) eσ6 (by omega)).trans ((kq (a := 3) (b := 11) eσ4 (by omega)).trans ((kq (a := 3) (b := 11) eσ2 (by omega)).trans ((kq (a := 3) (b := 11) eσ1 (by omega))))), (kq (a := 3) (b := 6) eσ6 (by omega)).trans ((kq (a := 3) (b := 6) eσ4 (by omega)).trans ((kq (a := 3) (b := 6) eσ2 (by omega)).trans ((kq (a := 3) (b := 6) eσ1 (by omega))))), (kq (a := 9) (b := 9) eσ6 (by omega)).trans ((kq (a := 9) (b := 9) eσ4 (by omega)).trans ((kq (a := 9) (b := 9) eσ2 (by omega)).trans ((kq (a := 9) (b := 9) eσ1 (by omega))))), (kq (a := 9) (b := 10) eσ6 (by omega)).trans ((kq (a := 9) (b := 10) eσ4 (by omega)).trans ((kq (a := 9) (b := 10) eσ2 (by omega)).trans ((kq (a := 9) (b := 10) eσ1 (by omega))))), (kq (a := 6) (b := 5) eσ6 (by omega)).trans ((kq (a := 6) (b := 5) eσ4 (by omega)).trans ((kq (a := 6) (b := 5) eσ2 (by omega)).trans ((kq (a := 6) (b := 5) eσ1 (by omega))))), (kq (a := 7) (b := 4) eσ6 (by omega)).trans ((kq (a := 7) (b := 4) eσ4 (by omega)).trans ((kq (a := 7) (b := 4) eσ2 (by omega)).trans ((kq (a := 7) (b := 4) eσ1 (by omega))))), (kq (a := 2) (b := 4) eσ6 (by omega)).trans ((kq (a := 2) (b := 4) eσ4 (by omega)).trans ((kq (a := 2) (b := 4) eσ2 (by omega)).trans ((kq (a := 2) (b := 4) eσ1 (by omega))))), (kq (a := 3) (b := 8) eσ6 (by omega)).trans ((kq (a := 3) (b := 8) eσ4 (by omega)).trans ((kq (a := 3) (b := 8) eσ2 (by omega)).trans ((kq (a := 3) (b := 8) eσ1 (by omega)))))⟩)
    · have f81 := K1.g_1_1 hσ6
      have q82 : σ6.1 1 1 = σ4.1 1 1 := by rw [eσ6]; exact congrFun (u1_ne (by decide)) 1
      have f83 := congrArg Int32.toInt q82
      have f84 := K1.g_1_1 hσ4
      have q85 : σ4.1 1 1 = σ2.1 1 1 := by rw [eσ4]; exact congrFun (u1_ne (by decide)) 1
      have f86 := congrArg Int32.toInt q85
      have f87 := K1.g_1_1 hσ2
      have q88 : σ2.1 1 1 = σ1.1 1 1 := by rw [eσ2]; exact congrFun (u1_ne (by decide)) 1
      have f89 := congrArg Int32.toInt q88
      have f90 := K1.g_1_1 hσ1
      have q91 : σ1.1 1 1 = σ.1 1 1 := by rw [eσ1]; exact congrFun (u1_ne (by decide)) 1
      have f92 := congrArg Int32.toInt q91
      have f93 := K1.g_1_1 hσ
      have f94 : (12 : Int32).toInt = 12 := by decide
      have f95 := tS (σ6.1 1 1) (12 : Int32)
      have f96 := tB ((σ6.1 1 1) - 12)
      have f97 := mt Int32.le_iff_toInt_le.mpr c14
      exact hQ _ hσ6 (⟨(kq (a := 3) (b := 7) eσ6 (by omega)).trans ((kq (a := 3) (b := 7) eσ4 (by omega)).trans ((kq (a := 3) (b := 7) eσ2 (by omega)).trans ((kq (a := 3) (b := 7) eσ1 (by omega))))), (kq (a := 3) (b := 11) eσ6 (by omega)).trans ((kq (a := 3) (b := 11) eσ4 (by omega)).trans ((kq (a := 3) (b := 11) eσ2 (by omega)).trans ((kq (a := 3) (b := 11) eσ1 (by omega))))), (kq (a := 3) (b := 6) eσ6 (by omega)).trans ((kq (a := 3) (b := 6) eσ4 (by omega)).trans ((kq (a := 3) (b := 6) eσ2 (by omega)).trans ((kq (a := 3) (b := 6) eσ1 (by omega))))), (kq (a := 9) (b := 9) eσ6 (by omega)).trans ((kq (a := 9) (b := 9) eσ4 (by omega)).trans ((kq (a := 9) (b := 9) eσ2 (by omega)).trans ((kq (a := 9) (b := 9) eσ1 (by omega))))), (kq (a := 9) (b := 10) eσ6 (by omega)).trans ((kq (a := 9) (b := 10) eσ4 (by omega)).trans ((kq (a := 9) (b := 10) eσ2 (by omega)).trans ((kq (a := 9) (b := 10) eσ1 (by omega))))), (kq (a := 6) (b := 5) eσ6 (by omega)).trans ((kq (a := 6) (b := 5) eσ4 (by omega)).trans ((kq (a := 6) (b := 5) eσ2 (by omega)).trans ((kq (a := 6) (b := 5) eσ1 (by omega))))), (kq (a := 7) (b := 4) eσ6 (by omega)).trans ((kq (a := 7) (b := 4) eσ4 (by omega)).trans ((kq (a := 7) (b := 4) eσ2 (by omega)).trans ((kq (a := 7) (b := 4) eσ1 (by omega))))), (kq (a := 2) (b := 4) eσ6 (by omega)).trans ((kq (a := 2) (b := 4) eσ4 (by omega)).trans ((kq (a := 2) (b := 4) eσ2 (by omega)).trans ((kq (a := 2) (b := 4) eσ1 (by omega))))), (kq (a := 3) (b := 8) eσ6 (by omega)).trans ((kq (a := 3) (b := 8) eσ4 (by omega)).trans ((kq (a := 3) (b := 8) eσ2 (by omega)).trans ((kq (a := 3) (b := 8) eσ1 (by omega)))))⟩)
set_option maxHeartbeats 4000000 in
theorem sX8_hasEndOfBytes {N : Nat} (hN : 4294967400 ≤ N) {x1 : Int32} {Q : Int32 → St → Prop} {σ0 σ : St} (hp1 : 0 ≤ x1.toInt ∧ x1.toInt ≤ 4096) (hσ : K1 σ0 σ) (hQ : ∀ r : Int32, (0) ≤ r.toInt ∧ r.toInt ≤ 1 → Q r σ) : fX8_hasEndOfBytes N x1 Q σ := by
  unfold fX8_hasEndOfBytes
  have f2 := tB x1
  refine lo1_i (fun (y1 : Int32) (τ : St) => σ = τ ∧ 0 ≤ y1.toInt) (fun (y1 : Int32) (τ : St) => (2147483648 - y1.toInt).toNat) ?_ N x1 σ ⟨rfl, by omega⟩ (by (try dsimp only); omega)
  intro rr3 y6 σ5 hIσ5 ih4
  obtain ⟨hσ5, i7⟩ := hIσ5
  subst hσ5
  unfold fX8_hasEndOfBytes_l2
  have f8 := tB y6
  refine ⟨fun c9 => ?_, fun c9 => ?_⟩
  · have f10 := K1.g_2_6 hσ
    have f12 := Int32.le_iff_toInt_le.mp c9
    have f13 : (0 : Int32).toInt = 0 := by decide
    exact hQ _ ⟨by omega, by omega⟩
  · have f14 := K1.g_2_6 hσ
    have f16 := mt Int32.le_iff_toInt_le.mpr c9
    refine sX3_byteOf hN hσ (fun r31 p32 => ?_)
    refine ⟨fun c33 => ?_, fun c33 => ?_⟩
    · have f34 := tB r31
      have f35 : (0 : Int32).toInt = 0 := by decide
      have f36 := congrArg Int32.toInt c33
      have f37 : (1 : Int32).toInt = 1 := by decide
      exact hQ _ ⟨by omega, by omega⟩
    · have f38 := tB r31
      have f39 : (0 : Int32).toInt = 0 := by decide
      have f40 := mt Int32.toInt_inj.mp c33
      intro v41 ev41
      have f42 := tB v41
      have f44 : (1 : Int32).toInt = 1 := by decide
      have f45 := tA y6 (1 : Int32)
      have f46 := tB (y6 + 1)
      have f47 := congrArg Int32.toInt ev41
      exact ih4 v41 σ ⟨rfl, by omega⟩ (by (try dsimp only); omega)
set_option maxHeartbeats 4000000 in
theorem sX8_hasEndOfFours {N : Nat} (hN : 4294967400 ≤ N) {x1 : Int32} {Q : Int32 → St → Prop} {σ0 σ : St} (hp1 : 0 ≤ x1.toInt ∧ x1.toInt ≤ 4096) (hσ : K1 σ0 σ) (hQ : ∀ r : Int32, (0) ≤ r.toInt ∧ r.toInt ≤ 1 → Q r σ) : fX8_hasEndOfFours N x1 Q σ := by
  unfold fX8_hasEndOfFours
  have f2 := tB x1
  refine lo1_i (fun (y1 : Int32) (τ : St) => σ = τ ∧ 0 ≤ y1.toInt ∧ y1.toInt ≤ 4100) (fun (y1 : Int32) (τ : St) => (2147483648 - y1.toInt).toNat) ?_ N x1 σ ⟨rfl, by omega, by omega⟩ (by (try dsimp only); omega)
  intro rr3 y6 σ5 hIσ5 ih4
  obtain ⟨hσ5, i7, i8⟩ := hIσ5
  subst hσ5
  unfold fX8_hasEndOfFours_l2
  have f9 := tB y6
  refine ⟨fun c10 => ?_, fun c10 => ?_⟩
  · have f11 := K1.g_2_6 hσ
    have f13 : (4 : Int32).toInt = 4 := by decide
    have f14 := tA y6 (4 : Int32)
    have f15 := tB (y6 + 4)
    have f16 := Int32.lt_iff_toInt_lt.mp c10
    have f17 : (0 : Int32).toInt = 0 := by decide
    exact hQ _ ⟨by omega, by omega⟩
  · have f18 := K1.g_2_6 hσ
    have f20 : (4 : Int32).toInt = 4 := by decide
    have f21 := tA y6 (4 : Int32)
    have f22 := tB (y6 + 4)
    have f23 := mt Int32.lt_iff_toInt_lt.mpr c10
    refine sX3_fourOf hN hσ (fun r38 p39 => ?_)
    refine ⟨fun c40 => ?_, fun c40 => ?_⟩
    · have f41 := tB r38
      have f42 : (0 : Int32).toInt = 0 := by decide
      have f43 := congrArg Int32.toInt c40
      have f44 : (1 : Int32).toInt = 1 := by decide
      exact hQ _ ⟨by omega, by omega⟩
    · have f45 := tB r38
      have f46 : (0 : Int32).toInt = 0 := by decide
      have f47 := mt Int32.toInt_inj.mp c40
      intro v48 ev48
      have f49 := tB v48
      have f54 := congrArg Int32.toInt ev48
      exact ih4 v48 σ ⟨rfl, by omega, by omega⟩ (by (try dsimp only); omega)
set_option maxHeartbeats 4000000 in
theorem sX8_argumentBytes {N : Nat} (hN : 4294967400 ≤ N) {x1 : Int32} {Q : Int32 → St → Prop} {σ0 σ : St} (hσ : K1 σ0 σ) (hQ : ∀ r : Int32, True → Q r σ) : fX8_argumentBytes N x1 Q σ := by
  unfold fX8_argumentBytes
  have f1 := tB x1
  have f2 : (5 : Int32).toInt = 5 := by decide
  have f3 := tA x1 (5 : Int32)
  have f4 := tB (x1 + 5)
  refine sX3_fourOf hN hσ (fun r18 p19 => ?_)
  refine ⟨fun c20 => ?_, fun c20 => ?_⟩
  · have f21 := tB r18
    have f22 : (0 : Int32).toInt = 0 := by decide
    have f23 := Int32.lt_iff_toInt_lt.mp c20
    exact hQ _ trivial
  · have f24 := tB r18
    have f25 : (0 : Int32).toInt = 0 := by decide
    have f26 := mt Int32.lt_iff_toInt_lt.mpr c20
    refine ⟨fun c27 => ?_, fun c27 => ?_⟩
    · have f28 : (4 : Int32).toInt = 4 := by decide
      have f30 := Int32.lt_iff_toInt_lt.mp c27
      exact hQ _ trivial
    · have f31 : (4 : Int32).toInt = 4 := by decide
      have f33 := mt Int32.lt_iff_toInt_lt.mpr c27
      exact hQ _ trivial
set_option maxHeartbeats 4000000 in
theorem sX8_isWhole {N : Nat} (hN : 4294967400 ≤ N) {x1 : Int32} {Q : Int32 → St → Prop} {σ0 σ : St} (hp1 : 0 ≤ x1.toInt ∧ x1.toInt ≤ 4095) (hσ : K1 σ0 σ) (hQ : ∀ r : Int32, True → Q r σ) : fX8_isWhole N x1 Q σ := by
  unfold fX8_isWhole
  intro v1 ev1
  have f2 := tB x1
  refine sX3_byteOf hN hσ (fun r16 p17 => ?_)
  refine ⟨fun c18 => ?_, fun c18 => ?_⟩
  · have f19 := tB r16
    have f20 : (0 : Int32).toInt = 0 := by decide
    have f21 := congrArg Int32.toInt c18
    refine ⟨fun c22 => ?_, fun c22 => ?_⟩
    · have f23 := tB v1
      have f24 := K1.g_2_6 hσ
      have f26 := tS (σ.1 2 6) x1
      have f27 := tB ((σ.1 2 6) - x1)
      have f28 := congrArg Int32.toInt ev1
      have f29 : (9 : Int32).toInt = 9 := by decide
      have f30 := Int32.lt_iff_toInt_lt.mp c22
      exact hQ _ trivial
    · have f31 := tB v1
      have f32 := K1.g_2_6 hσ
      have f34 := tS (σ.1 2 6) x1
      have f35 := tB ((σ.1 2 6) - x1)
      have f36 := congrArg Int32.toInt ev1
      have f37 : (9 : Int32).toInt = 9 := by decide
      have f38 := mt Int32.lt_iff_toInt_lt.mpr c22
      exact hQ _ trivial
  · have f39 := tB r16
    have f40 : (0 : Int32).toInt = 0 := by decide
    have f41 := mt Int32.toInt_inj.mp c18
    refine ⟨fun c42 => ?_, fun c42 => ?_⟩
    · have f44 : (1 : Int32).toInt = 1 := by decide
      have f45 := congrArg Int32.toInt c42
      exact hQ _ trivial
    · have f47 : (1 : Int32).toInt = 1 := by decide
      have f48 := mt Int32.toInt_inj.mp c42
      refine ⟨fun c49 => ?_, fun c49 => ?_⟩
      · have f51 : (2 : Int32).toInt = 2 := by decide
        have f52 := congrArg Int32.toInt c49
        refine ⟨fun c53 => ?_, fun c53 => ?_⟩
        · have f54 := tB v1
          have f55 := K1.g_2_6 hσ
          have f57 := tS (σ.1 2 6) x1
          have f58 := tB ((σ.1 2 6) - x1)
          have f59 := congrArg Int32.toInt ev1
          have f61 := Int32.lt_iff_toInt_lt.mp c53
          exact hQ _ trivial
        · have f62 := tB v1
          have f63 := K1.g_2_6 hσ
          have f65 := tS (σ.1 2 6) x1
          have f66 := tB ((σ.1 2 6) - x1)
          have f67 := congrArg Int32.toInt ev1
          have f69 := mt Int32.lt_iff_toInt_lt.mpr c53
          exact hQ _ trivial
      · have f71 : (2 : Int32).toInt = 2 := by decide
        have f72 := mt Int32.toInt_inj.mp c49
        refine ⟨fun c73 => ?_, fun c73 => ?_⟩
        · have f75 : (3 : Int32).toInt = 3 := by decide
          have f76 := congrArg Int32.toInt c73
          have f79 := tA x1 (1 : Int32)
          have f80 := tB (x1 + 1)
          refine sX8_hasEndOfBytes hN ⟨by omega, by omega⟩ hσ (fun r94 p95 => ?_)
          refine ⟨nb01 (by omega) (by omega), ?_⟩
          exact hQ _ trivial
        · have f97 : (3 : Int32).toInt = 3 := by decide
          have f98 := mt Int32.toInt_inj.mp c73
          refine ⟨fun c99 => ?_, fun c99 => ?_⟩
          · have f101 : (4 : Int32).toInt = 4 := by decide
            have f102 := congrArg Int32.toInt c99
            unfold fX8_isWhole_j109
            refine ⟨fun c103 => ?_, fun c103 => ?_⟩
            · have f104 := tB v1
              have f105 := K1.g_2_6 hσ
              have f107 := tS (σ.1 2 6) x1
              have f108 := tB ((σ.1 2 6) - x1)
              have f109 := congrArg Int32.toInt ev1
              have f110 : (5 : Int32).toInt = 5 := by decide
              have f111 := Int32.lt_iff_toInt_lt.mp c103
              exact hQ _ trivial
            · have f112 := tB v1
              have f113 := K1.g_2_6 hσ
              have f115 := tS (σ.1 2 6) x1
              have f116 := tB ((σ.1 2 6) - x1)
              have f117 := congrArg Int32.toInt ev1
              have f118 : (5 : Int32).toInt = 5 := by decide
              have f119 := mt Int32.lt_iff_toInt_lt.mpr c103
              exact hQ _ trivial
          · have f121 : (4 : Int32).toInt = 4 := by decide
            have f122 := mt Int32.toInt_inj.mp c99
            refine ⟨fun c123 => ?_, fun c123 => ?_⟩
            · have f125 : (5 : Int32).toInt = 5 := by decide
              have f126 := congrArg Int32.toInt c123
              have f129 := tA x1 (1 : Int32)
              have f130 := tB (x1 + 1)
              refine sX8_hasEndOfFours hN ⟨by omega, by omega⟩ hσ (fun r144 p145 => ?_)
              refine ⟨nb01 (by omega) (by omega), ?_⟩
              exact hQ _ trivial
            · have f147 : (5 : Int32).toInt = 5 := by decide
              have f148 := mt Int32.toInt_inj.mp c123
              refine ⟨fun c149 => ?_, fun c149 => ?_⟩
              · have f151 : (8 : Int32).toInt = 8 := by decide
                have f152 := congrArg Int32.toInt c149
                unfold fX8_isWhole_j109
                refine ⟨fun c153 => ?_, fun c153 => ?_⟩
                · have f154 := tB v1
                  have f155 := K1.g_2_6 hσ
                  have f157 := tS (σ.1 2 6) x1
                  have f158 := tB ((σ.1 2 6) - x1)
                  have f159 := congrArg Int32.toInt ev1
                  have f161 := Int32.lt_iff_toInt_lt.mp c153
                  exact hQ _ trivial
                · have f162 := tB v1
                  have f163 := K1.g_2_6 hσ
                  have f165 := tS (σ.1 2 6) x1
                  have f166 := tB ((σ.1 2 6) - x1)
                  have f167 := congrArg Int32.toInt ev1
                  have f169 := mt Int32.lt_iff_toInt_lt.mpr c153
                  exact hQ _ trivial
              · have f171 : (8 : Int32).toInt = 8 := by decide
                have f172 := mt Int32.toInt_inj.mp c149
                refine ⟨fun c173 => ?_, fun c173 => ?_⟩
                · have f175 : (9 : Int32).toInt = 9 := by decide
                  have f176 := congrArg Int32.toInt c173
                  unfold fX8_isWhole_j109
                  refine ⟨fun c177 => ?_, fun c177 => ?_⟩
                  · have f178 := tB v1
                    have f179 := K1.g_2_6 hσ
                    have f181 := tS (σ.1 2 6) x1
                    have f182 := tB ((σ.1 2 6) - x1)
                    have f183 := congrArg Int32.toInt ev1
                    have f185 := Int32.lt_iff_toInt_lt.mp c177
                    exact hQ _ trivial
                  · have f186 := tB v1
                    have f187 := K1.g_2_6 hσ
                    have f189 := tS (σ.1 2 6) x1
                    have f190 := tB ((σ.1 2 6) - x1)
                    have f191 := congrArg Int32.toInt ev1
                    have f193 := mt Int32.lt_iff_toInt_lt.mpr c177
                    exact hQ _ trivial
                · have f195 : (9 : Int32).toInt = 9 := by decide
                  have f196 := mt Int32.toInt_inj.mp c173
                  refine ⟨fun c197 => ?_, fun c197 => ?_⟩
                  · have f199 : (10 : Int32).toInt = 10 := by decide
                    have f200 := congrArg Int32.toInt c197
                    unfold fX8_isWhole_j128
                    refine sX8_argumentBytes hN hσ (fun r215 p216 => ?_)
                    refine ⟨fun c217 => ?_, fun c217 => ?_⟩
                    · have f218 := tB v1
                      have f219 := K1.g_2_6 hσ
                      have f221 := tS (σ.1 2 6) x1
                      have f222 := tB ((σ.1 2 6) - x1)
                      have f223 := congrArg Int32.toInt ev1
                      have f225 := tB r215
                      have f226 := tA (9 : Int32) r215
                      have f227 := tB (9 + r215)
                      have f228 := Int32.lt_iff_toInt_lt.mp c217
                      exact hQ _ trivial
                    · have f229 := tB v1
                      have f230 := K1.g_2_6 hσ
                      have f232 := tS (σ.1 2 6) x1
                      have f233 := tB ((σ.1 2 6) - x1)
                      have f234 := congrArg Int32.toInt ev1
                      have f236 := tB r215
                      have f237 := tA (9 : Int32) r215
                      have f238 := tB (9 + r215)
                      have f239 := mt Int32.lt_iff_toInt_lt.mpr c217
                      exact hQ _ trivial
                  · have f241 : (10 : Int32).toInt = 10 := by decide
                    have f242 := mt Int32.toInt_inj.mp c197
                    refine ⟨fun c243 => ?_, fun c243 => ?_⟩
                    · have f245 : (11 : Int32).toInt = 11 := by decide
                      have f246 := congrArg Int32.toInt c243
                      unfold fX8_isWhole_j128
                      refine sX8_argumentBytes hN hσ (fun r261 p262 => ?_)
                      refine ⟨fun c263 => ?_, fun c263 => ?_⟩
                      · have f264 := tB v1
                        have f265 := K1.g_2_6 hσ
                        have f267 := tS (σ.1 2 6) x1
                        have f268 := tB ((σ.1 2 6) - x1)
                        have f269 := congrArg Int32.toInt ev1
                        have f271 := tB r261
                        have f272 := tA (9 : Int32) r261
                        have f273 := tB (9 + r261)
                        have f274 := Int32.lt_iff_toInt_lt.mp c263
                        exact hQ _ trivial
                      · have f275 := tB v1
                        have f276 := K1.g_2_6 hσ
                        have f278 := tS (σ.1 2 6) x1
                        have f279 := tB ((σ.1 2 6) - x1)
                        have f280 := congrArg Int32.toInt ev1
                        have f282 := tB r261
                        have f283 := tA (9 : Int32) r261
                        have f284 := tB (9 + r261)
                        have f285 := mt Int32.lt_iff_toInt_lt.mpr c263
                        exact hQ _ trivial
                    · have f287 : (11 : Int32).toInt = 11 := by decide
                      have f288 := mt Int32.toInt_inj.mp c243
                      exact hQ _ trivial
set_option maxHeartbeats 4000000 in
theorem sX8_find {N : Nat} (hN : 4294967400 ≤ N) {x1 : Int32} {Q : St → Prop} {σ0 σ : St} (hσ : K1 σ0 σ) (hQ : ∀ τ : St, K1 σ0 τ → (τ.1 3 7 = σ.1 3 7 ∧ τ.1 3 11 = σ.1 3 11 ∧ τ.1 3 6 = σ.1 3 6 ∧ τ.1 9 9 = σ.1 9 9 ∧ τ.1 9 10 = σ.1 9 10 ∧ τ.1 6 5 = σ.1 6 5 ∧ τ.1 7 4 = σ.1 7 4 ∧ τ.1 2 5 = σ.1 2 5 ∧ τ.1 2 6 = σ.1 2 6 ∧ τ.1 3 8 = σ.1 3 8) → Q τ) : fX8_find N x1 Q σ := by
  unfold fX8_find
  refine ⟨fun c1 => ?_, fun c1 => ?_⟩
  · have f2 := tB x1
    have f3 := K1.g_2_5 hσ
    have f4 := Int32.lt_iff_toInt_lt.mp c1
    exact hQ _ hσ (⟨rfl, rfl, rfl, rfl, rfl, rfl, rfl, rfl, rfl, rfl⟩)
  · have f5 := tB x1
    have f6 := K1.g_2_5 hσ
    have f7 := mt Int32.lt_iff_toInt_lt.mpr c1
    refine ⟨fun c8 => ?_, fun c8 => ?_⟩
    · have f9 := K1.g_2_6 hσ
      have f11 := Int32.le_iff_toInt_le.mp c8
      exact hQ _ hσ (⟨rfl, rfl, rfl, rfl, rfl, rfl, rfl, rfl, rfl, rfl⟩)
    · have f12 := K1.g_2_6 hσ
      have f14 := mt Int32.le_iff_toInt_le.mpr c8
      unfold fX3_has
      refine ⟨fun c15 => ?_, fun c15 => ?_⟩
      · have f17 : (0 : Int32).toInt = 0 := by decide
        have f18 := Int32.lt_iff_toInt_lt.mp c15
        try dsimp only
        refine ⟨fun c19 => ?_, fun c19 => ?_⟩
        · have f22 := congrArg Int32.toInt c19
          exact hQ _ hσ (⟨rfl, rfl, rfl, rfl, rfl, rfl, rfl, rfl, rfl, rfl⟩)
        · have f25 := mt Int32.toInt_inj.mp c19
          have g27 : vp_in x1 4096 := inI (by omega) (by omega)
          refine ⟨g27, ?_⟩
          refine ⟨fun c28 => ?_, fun c28 => ?_⟩
          · have f29 := tB (σ.1 13 x1.toNatClampNeg)
            have f30 := tB (σ.1 2 3)
            have f31 := congrArg Int32.toInt c28
            exact hQ _ hσ (⟨rfl, rfl, rfl, rfl, rfl, rfl, rfl, rfl, rfl, rfl⟩)
          · have f32 := tB (σ.1 13 x1.toNatClampNeg)
            have f33 := tB (σ.1 2 3)
            have f34 := mt Int32.toInt_inj.mp c28
            intro v35 ev35
            refine ⟨inI (by omega) (by omega), ?_⟩
            intro σ37 eσ37
            have hσ37 : K1 σ0 σ37 := by rw [eσ37]; exact hσ.u (Rg1.ra_13 _ _) (by omega) (by omega)
            refine sX8_isWhole hN ⟨by omega, by omega⟩ hσ37 (fun r52 p53 => ?_)
            refine ⟨fun c54 => ?_, fun c54 => ?_⟩
            · have f55 := tB r52
              have f57 := congrArg Int32.toInt c54
              exact hQ _ hσ37 (⟨(kq (a := 3) (b := 7) eσ37 (by omega)), (kq (a := 3) (b := 11) eσ37 (by omega)), (kq (a := 3) (b := 6) eσ37 (by omega)), (kq (a := 9) (b := 9) eσ37 (by omega)), (kq (a := 9) (b := 10) eσ37 (by omega)), (kq (a := 6) (b := 5) eσ37 (by omega)), (kq (a := 7) (b := 4) eσ37 (by omega)), (kq (a := 2) (b := 5) eσ37 (by omega)), (kq (a := 2) (b := 6) eσ37 (by omega)), (kq (a := 3) (b := 8) eσ37 (by omega))⟩)
            · have f58 := tB r52
              have f60 := mt Int32.toInt_inj.mp c54
              refine ⟨fun c61 => ?_, fun c61 => ?_⟩
              · have f62 : (4096 : Int32).toInt = 4096 := by decide
                have f63 := K1.g_2_4 hσ37
                have q64 : σ37.1 2 4 = σ.1 2 4 := by rw [eσ37]; exact congrFun (u1_ne (by decide)) 4
                have f65 := congrArg Int32.toInt q64
                have f66 := K1.g_2_4 hσ
                have f67 := Int32.le_iff_toInt_le.mp c61
                exact hQ _ hσ37 (⟨(kq (a := 3) (b := 7) eσ37 (by omega)), (kq (a := 3) (b := 11) eσ37 (by omega)), (kq (a := 3) (b := 6) eσ37 (by omega)), (kq (a := 9) (b := 9) eσ37 (by omega)), (kq (a := 9) (b := 10) eσ37 (by omega)), (kq (a := 6) (b := 5) eσ37 (by omega)), (kq (a := 7) (b := 4) eσ37 (by omega)), (kq (a := 2) (b := 5) eσ37 (by omega)), (kq (a := 2) (b := 6) eσ37 (by omega)), (kq (a := 3) (b := 8) eσ37 (by omega))⟩)
              · have f68 : (4096 : Int32).toInt = 4096 := by decide
                have f69 := K1.g_2_4 hσ37
                have q70 : σ37.1 2 4 = σ.1 2 4 := by rw [eσ37]; exact congrFun (u1_ne (by decide)) 4
                have f71 := congrArg Int32.toInt q70
                have f72 := K1.g_2_4 hσ
                have f73 := mt Int32.le_iff_toInt_le.mpr c61
                refine ⟨inI (by omega) (by omega), ?_⟩
                intro σ75 eσ75
                have hσ75 : K1 σ0 σ75 := by rw [eσ75]; exact hσ37.u (Rg1.ra_14 _ _) (by omega) (by omega)
                intro v76 ev76
                intro σ77 eσ77
                have f78 := tB v76
                have f79 := K1.g_2_4 hσ75
                have q80 : σ75.1 2 4 = σ37.1 2 4 := by rw [eσ75]; exact congrFun (u1_ne (by decide)) 4
                have f81 := congrArg Int32.toInt q80
                have f83 : (1 : Int32).toInt = 1 := by decide
                have f84 := tA (σ75.1 2 4) (1 : Int32)
                have f85 := tB ((σ75.1 2 4) + 1)
                have f86 := congrArg Int32.toInt ev76
                have hσ77 : K1 σ0 σ77 := by rw [eσ77]; exact hσ75.u (Rg1.r_2_4 (by omega) (by omega)) (by omega) (by omega)
                exact hQ _ hσ77 (⟨(kq (a := 3) (b := 7) eσ77 (by omega)).trans ((kq (a := 3) (b := 7) eσ75 (by omega)).trans ((kq (a := 3) (b := 7) eσ37 (by omega)))), (kq (a := 3) (b := 11) eσ77 (by omega)).trans ((kq (a := 3) (b := 11) eσ75 (by omega)).trans ((kq (a := 3) (b := 11) eσ37 (by omega)))), (kq (a := 3) (b := 6) eσ77 (by omega)).trans ((kq (a := 3) (b := 6) eσ75 (by omega)).trans ((kq (a := 3) (b := 6) eσ37 (by omega)))), (kq (a := 9) (b := 9) eσ77 (by omega)).trans ((kq (a := 9) (b := 9) eσ75 (by omega)).trans ((kq (a := 9) (b := 9) eσ37 (by omega)))), (kq (a := 9) (b := 10) eσ77 (by omega)).trans ((kq (a := 9) (b := 10) eσ75 (by omega)).trans ((kq (a := 9) (b := 10) eσ37 (by omega)))), (kq (a := 6) (b := 5) eσ77 (by omega)).trans ((kq (a := 6) (b := 5) eσ75 (by omega)).trans ((kq (a := 6) (b := 5) eσ37 (by omega)))), (kq (a := 7) (b := 4) eσ77 (by omega)).trans ((kq (a := 7) (b := 4) eσ75 (by omega)).trans ((kq (a := 7) (b := 4) eσ37 (by omega)))), (kq (a := 2) (b := 5) eσ77 (by omega)).trans ((kq (a := 2) (b := 5) eσ75 (by omega)).trans ((kq (a := 2) (b := 5) eσ37 (by omega)))), (kq (a := 2) (b := 6) eσ77 (by omega)).trans ((kq (a := 2) (b := 6) eσ75 (by omega)).trans ((kq (a := 2) (b := 6) eσ37 (by omega)))), (kq (a := 3) (b := 8) eσ77 (by omega)).trans ((kq (a := 3) (b := 8) eσ75 (by omega)).trans ((kq (a := 3) (b := 8) eσ37 (by omega))))⟩)
      · have f88 : (0 : Int32).toInt = 0 := by decide
        have f89 := mt Int32.lt_iff_toInt_lt.mpr c15
        refine ⟨fun c90 => ?_, fun c90 => ?_⟩
        · have f91 : (4096 : Int32).toInt = 4096 := by decide
          have f93 := Int32.le_iff_toInt_le.mp c90
          try dsimp only
          refine ⟨fun c94 => ?_, fun c94 => ?_⟩
          · have f97 := congrArg Int32.toInt c94
            exact hQ _ hσ (⟨rfl, rfl, rfl, rfl, rfl, rfl, rfl, rfl, rfl, rfl⟩)
          · have f100 := mt Int32.toInt_inj.mp c94
            have g102 : vp_in x1 4096 := inI (by omega) (by omega)
            refine ⟨g102, ?_⟩
            refine ⟨fun c103 => ?_, fun c103 => ?_⟩
            · have f104 := tB (σ.1 13 x1.toNatClampNeg)
              have f105 := tB (σ.1 2 3)
              have f106 := congrArg Int32.toInt c103
              exact hQ _ hσ (⟨rfl, rfl, rfl, rfl, rfl, rfl, rfl, rfl, rfl, rfl⟩)
            · have f107 := tB (σ.1 13 x1.toNatClampNeg)
              have f108 := tB (σ.1 2 3)
              have f109 := mt Int32.toInt_inj.mp c103
              intro v110 ev110
              refine ⟨inI (by omega) (by omega), ?_⟩
              intro σ112 eσ112
              have hσ112 : K1 σ0 σ112 := by rw [eσ112]; exact hσ.u (Rg1.ra_13 _ _) (by omega) (by omega)
              refine sX8_isWhole hN ⟨by omega, by omega⟩ hσ112 (fun r127 p128 => ?_)
              refine ⟨fun c129 => ?_, fun c129 => ?_⟩
              · have f130 := tB r127
                have f132 := congrArg Int32.toInt c129
                exact hQ _ hσ112 (⟨(kq (a := 3) (b := 7) eσ112 (by omega)), (kq (a := 3) (b := 11) eσ112 (by omega)), (kq (a := 3) (b := 6) eσ112 (by omega)), (kq (a := 9) (b := 9) eσ112 (by omega)), (kq (a := 9) (b := 10) eσ112 (by omega)), (kq (a := 6) (b := 5) eσ112 (by omega)), (kq (a := 7) (b := 4) eσ112 (by omega)), (kq (a := 2) (b := 5) eσ112 (by omega)), (kq (a := 2) (b := 6) eσ112 (by omega)), (kq (a := 3) (b := 8) eσ112 (by omega))⟩)
              · have f133 := tB r127
                have f135 := mt Int32.toInt_inj.mp c129
                refine ⟨fun c136 => ?_, fun c136 => ?_⟩
                · have f138 := K1.g_2_4 hσ112
                  have q139 : σ112.1 2 4 = σ.1 2 4 := by rw [eσ112]; exact congrFun (u1_ne (by decide)) 4
                  have f140 := congrArg Int32.toInt q139
                  have f141 := K1.g_2_4 hσ
                  have f142 := Int32.le_iff_toInt_le.mp c136
                  exact hQ _ hσ112 (⟨(kq (a := 3) (b := 7) eσ112 (by omega)), (kq (a := 3) (b := 11) eσ112 (by omega)), (kq (a := 3) (b := 6) eσ112 (by omega)), (kq (a := 9) (b := 9) eσ112 (by omega)), (kq (a := 9) (b := 10) eσ112 (by omega)), (kq (a := 6) (b := 5) eσ112 (by omega)), (kq (a := 7) (b := 4) eσ112 (by omega)), (kq (a := 2) (b := 5) eσ112 (by omega)), (kq (a := 2) (b := 6) eσ112 (by omega)), (kq (a := 3) (b := 8) eσ112 (by omega))⟩)
                · have f144 := K1.g_2_4 hσ112
                  have q145 : σ112.1 2 4 = σ.1 2 4 := by rw [eσ112]; exact congrFun (u1_ne (by decide)) 4
                  have f146 := congrArg Int32.toInt q145
                  have f147 := K1.g_2_4 hσ
                  have f148 := mt Int32.le_iff_toInt_le.mpr c136
                  refine ⟨inI (by omega) (by omega), ?_⟩
                  intro σ150 eσ150
                  have hσ150 : K1 σ0 σ150 := by rw [eσ150]; exact hσ112.u (Rg1.ra_14 _ _) (by omega) (by omega)
                  intro v151 ev151
                  intro σ152 eσ152
                  have f153 := tB v151
                  have f154 := K1.g_2_4 hσ150
                  have q155 : σ150.1 2 4 = σ112.1 2 4 := by rw [eσ150]; exact congrFun (u1_ne (by decide)) 4
                  have f156 := congrArg Int32.toInt q155
                  have f158 : (1 : Int32).toInt = 1 := by decide
                  have f159 := tA (σ150.1 2 4) (1 : Int32)
                  have f160 := tB ((σ150.1 2 4) + 1)
                  have f161 := congrArg Int32.toInt ev151
                  have hσ152 : K1 σ0 σ152 := by rw [eσ152]; exact hσ150.u (Rg1.r_2_4 (by omega) (by omega)) (by omega) (by omega)
                  exact hQ _ hσ152 (⟨(kq (a := 3) (b := 7) eσ152 (by omega)).trans ((kq (a := 3) (b := 7) eσ150 (by omega)).trans ((kq (a := 3) (b := 7) eσ112 (by omega)))), (kq (a := 3) (b := 11) eσ152 (by omega)).trans ((kq (a := 3) (b := 11) eσ150 (by omega)).trans ((kq (a := 3) (b := 11) eσ112 (by omega)))), (kq (a := 3) (b := 6) eσ152 (by omega)).trans ((kq (a := 3) (b := 6) eσ150 (by omega)).trans ((kq (a := 3) (b := 6) eσ112 (by omega)))), (kq (a := 9) (b := 9) eσ152 (by omega)).trans ((kq (a := 9) (b := 9) eσ150 (by omega)).trans ((kq (a := 9) (b := 9) eσ112 (by omega)))), (kq (a := 9) (b := 10) eσ152 (by omega)).trans ((kq (a := 9) (b := 10) eσ150 (by omega)).trans ((kq (a := 9) (b := 10) eσ112 (by omega)))), (kq (a := 6) (b := 5) eσ152 (by omega)).trans ((kq (a := 6) (b := 5) eσ150 (by omega)).trans ((kq (a := 6) (b := 5) eσ112 (by omega)))), (kq (a := 7) (b := 4) eσ152 (by omega)).trans ((kq (a := 7) (b := 4) eσ150 (by omega)).trans ((kq (a := 7) (b := 4) eσ112 (by omega)))), (kq (a := 2) (b := 5) eσ152 (by omega)).trans ((kq (a := 2) (b := 5) eσ150 (by omega)).trans ((kq (a := 2) (b := 5) eσ112 (by omega)))), (kq (a := 2) (b := 6) eσ152 (by omega)).trans ((kq (a := 2) (b := 6) eσ150 (by omega)).trans ((kq (a := 2) (b := 6) eσ112 (by omega)))), (kq (a := 3) (b := 8) eσ152 (by omega)).trans ((kq (a := 3) (b := 8) eσ150 (by omega)).trans ((kq (a := 3) (b := 8) eσ112 (by omega))))⟩)
        · have f162 : (4096 : Int32).toInt = 4096 := by decide
          have f164 := mt Int32.le_iff_toInt_le.mpr c90
          try dsimp only
          refine ⟨fun c165 => ?_, fun c165 => ?_⟩
          · have f166 : (1 : Int32).toInt = 1 := by decide
            have f168 := congrArg Int32.toInt c165
            exact hQ _ hσ (⟨rfl, rfl, rfl, rfl, rfl, rfl, rfl, rfl, rfl, rfl⟩)
          · have f169 : (1 : Int32).toInt = 1 := by decide
            have f171 := mt Int32.toInt_inj.mp c165
            have g173 : vp_in x1 4096 := inI (by omega) (by omega)
            refine ⟨g173, ?_⟩
            refine ⟨fun c174 => ?_, fun c174 => ?_⟩
            · have f175 := tB (σ.1 13 x1.toNatClampNeg)
              have f176 := tB (σ.1 2 3)
              have f177 := congrArg Int32.toInt c174
              exact hQ _ hσ (⟨rfl, rfl, rfl, rfl, rfl, rfl, rfl, rfl, rfl, rfl⟩)
            · have f178 := tB (σ.1 13 x1.toNatClampNeg)
              have f179 := tB (σ.1 2 3)
              have f180 := mt Int32.toInt_inj.mp c174
              intro v181 ev181
              refine ⟨inI (by omega) (by omega), ?_⟩
              intro σ183 eσ183
              have hσ183 : K1 σ0 σ183 := by rw [eσ183]; exact hσ.u (Rg1.ra_13 _ _) (by omega) (by omega)
              refine sX8_isWhole hN ⟨by omega, by omega⟩ hσ183 (fun r198 p199 => ?_)
              refine ⟨fun c200 => ?_, fun c200 => ?_⟩
              · have f201 := tB r198
                have f203 := congrArg Int32.toInt c200
                exact hQ _ hσ183 (⟨(kq (a := 3) (b := 7) eσ183 (by omega)), (kq (a := 3) (b := 11) eσ183 (by omega)), (kq (a := 3) (b := 6) eσ183 (by omega)), (kq (a := 9) (b := 9) eσ183 (by omega)), (kq (a := 9) (b := 10) eσ183 (by omega)), (kq (a := 6) (b := 5) eσ183 (by omega)), (kq (a := 7) (b := 4) eσ183 (by omega)), (kq (a := 2) (b := 5) eσ183 (by omega)), (kq (a := 2) (b := 6) eσ183 (by omega)), (kq (a := 3) (b := 8) eσ183 (by omega))⟩)
              · have f204 := tB r198
                have f206 := mt Int32.toInt_inj.mp c200
                refine ⟨fun c207 => ?_, fun c207 => ?_⟩
                · have f209 := K1.g_2_4 hσ183
                  have q210 : σ183.1 2 4 = σ.1 2 4 := by rw [eσ183]; exact congrFun (u1_ne (by decide)) 4
                  have f211 := congrArg Int32.toInt q210
                  have f212 := K1.g_2_4 hσ
                  have f213 := Int32.le_iff_toInt_le.mp c207
                  exact hQ _ hσ183 (⟨(kq (a := 3) (b := 7) eσ183 (by omega)), (kq (a := 3) (b := 11) eσ183 (by omega)), (kq (a := 3) (b := 6) eσ183 (by omega)), (kq (a := 9) (b := 9) eσ183 (by omega)), (kq (a := 9) (b := 10) eσ183 (by omega)), (kq (a := 6) (b := 5) eσ183 (by omega)), (kq (a := 7) (b := 4) eσ183 (by omega)), (kq (a := 2) (b := 5) eσ183 (by omega)), (kq (a := 2) (b := 6) eσ183 (by omega)), (kq (a := 3) (b := 8) eσ183 (by omega))⟩)
                · have f215 := K1.g_2_4 hσ183
                  have q216 : σ183.1 2 4 = σ.1 2 4 := by rw [eσ183]; exact congrFun (u1_ne (by decide)) 4
                  have f217 := congrArg Int32.toInt q216
                  have f218 := K1.g_2_4 hσ
                  have f219 := mt Int32.le_iff_toInt_le.mpr c207
                  refine ⟨inI (by omega) (by omega), ?_⟩
                  intro σ221 eσ221
                  have hσ221 : K1 σ0 σ221 := by rw [eσ221]; exact hσ183.u (Rg1.ra_14 _ _) (by omega) (by omega)
                  intro v222 ev222
                  intro σ223 eσ223
                  have f224 := tB v222
                  have f225 := K1.g_2_4 hσ221
                  have q226 : σ221.1 2 4 = σ183.1 2 4 := by rw [eσ221]; exact congrFun (u1_ne (by decide)) 4
                  have f227 := congrArg Int32.toInt q226
                  have f230 := tA (σ221.1 2 4) (1 : Int32)
                  have f231 := tB ((σ221.1 2 4) + 1)
                  have f232 := congrArg Int32.toInt ev222
                  have hσ223 : K1 σ0 σ223 := by rw [eσ223]; exact hσ221.u (Rg1.r_2_4 (by omega) (by omega)) (by omega) (by omega)
                  exact hQ _ hσ223 (⟨(kq (a := 3) (b := 7) eσ223 (by omega)).trans ((kq (a := 3) (b := 7) eσ221 (by omega)).trans ((kq (a := 3) (b := 7) eσ183 (by omega)))), (kq (a := 3) (b := 11) eσ223 (by omega)).trans ((kq (a := 3) (b := 11) eσ221 (by omega)).trans ((kq (a := 3) (b := 11) eσ183 (by omega)))), (kq (a := 3) (b := 6) eσ223 (by omega)).trans ((kq (a := 3) (b := 6) eσ221 (by omega)).trans ((kq (a := 3) (b := 6) eσ183 (by omega)))), (kq (a := 9) (b := 9) eσ223 (by omega)).trans ((kq (a := 9) (b := 9) eσ221 (by omega)).trans ((kq (a := 9) (b := 9) eσ183 (by omega)))), (kq (a := 9) (b := 10) eσ223 (by omega)).trans ((kq (a := 9) (b := 10) eσ221 (by omega)).trans ((kq (a := 9) (b := 10) eσ183 (by omega)))), (kq (a := 6) (b := 5) eσ223 (by omega)).trans ((kq (a := 6) (b := 5) eσ221 (by omega)).trans ((kq (a := 6) (b := 5) eσ183 (by omega)))), (kq (a := 7) (b := 4) eσ223 (by omega)).trans ((kq (a := 7) (b := 4) eσ221 (by omega)).trans ((kq (a := 7) (b := 4) eσ183 (by omega)))), (kq (a := 2) (b := 5) eσ223 (by omega)).trans ((kq (a := 2) (b := 5) eσ221 (by omega)).trans ((kq (a := 2) (b := 5) eσ183 (by omega)))), (kq (a := 2) (b := 6) eσ223 (by omega)).trans ((kq (a := 2) (b := 6) eσ221 (by omega)).trans ((kq (a := 2) (b := 6) eσ183 (by omega)))), (kq (a := 3) (b := 8) eσ223 (by omega)).trans ((kq (a := 3) (b := 8) eσ221 (by omega)).trans ((kq (a := 3) (b := 8) eσ183 (by omega))))⟩)
set_option maxHeartbeats 4000000 in
theorem sX8_countNodes {N : Nat} (hN : 4294967400 ≤ N) {Q : Int32 → St → Prop} {σ0 σ : St} (hσ : K1 σ0 σ) (hQ : ∀ (r : Int32) (τ : St), K1 σ0 τ → (τ.1 3 7 = σ.1 3 7 ∧ τ.1 3 11 = σ.1 3 11 ∧ τ.1 3 6 = σ.1 3 6 ∧ τ.1 9 9 = σ.1 9 9 ∧ τ.1 9 10 = σ.1 9 10 ∧ τ.1 6 5 = σ.1 6 5 ∧ τ.1 7 4 = σ.1 7 4 ∧ τ.1 2 5 = σ.1 2 5 ∧ τ.1 2 6 = σ.1 2 6 ∧ τ.1 3 8 = σ.1 3 8) → True → Q r τ) : fX8_countNodes N  Q σ := by
  unfold fX8_countNodes
  intro v1 ev1
  intro σ2 eσ2
  have hσ2 : K1 σ0 σ2 := by rw [eσ2]; exact hσ.u (Rg1.u_2_3 _) (by omega) (by omega)
  intro σ3 eσ3
  have f4 : (0 : Int32).toInt = 0 := by decide
  have hσ3 : K1 σ0 σ3 := by rw [eσ3]; exact hσ2.u (Rg1.r_2_4 (by omega) (by omega)) (by omega) (by omega)
  have f5 := K1.g_2_5 hσ3
  have q6 : σ3.1 2 5 = σ2.1 2 5 := by rw [eσ3, u1_at]; exact if_neg (by decide)
  have f7 := congrArg Int32.toInt q6
  have f8 := K1.g_2_5 hσ2
  have q9 : σ2.1 2 5 = σ.1 2 5 := by rw [eσ2, u1_at]; exact if_neg (by decide)
  have f10 := congrArg Int32.toInt q9
  have f11 := K1.g_2_5 hσ
  have f12 : (8 : Int32).toInt = 8 := by decide
  have f13 := tA (σ3.1 2 5) (8 : Int32)
  have f14 := tB ((σ3.1 2 5) + 8)
  refine sX3_fourOf hN hσ3 (fun r28 p29 => ?_)
  have f30 := tB r28
  refine sX8_find hN hσ3 (fun σ31 hσ31 kk42 => ?_)
  obtain ⟨k32, k33, k34, k35, k36, k37, k38, k39, k40, k41⟩ := kk42
  refine lo1_i (fun (y43 : Int32) (τ : St) => K1 σ0 τ ∧ τ.1 3 7 = σ31.1 3 7 ∧ τ.1 3 11 = σ31.1 3 11 ∧ τ.1 3 6 = σ31.1 3 6 ∧ τ.1 9 9 = σ31.1 9 9 ∧ τ.1 9 10 = σ31.1 9 10 ∧ τ.1 6 5 = σ31.1 6 5 ∧ τ.1 7 4 = σ31.1 7 4 ∧ τ.1 2 5 = σ31.1 2 5 ∧ τ.1 2 6 = σ31.1 2 6 ∧ τ.1 3 8 = σ31.1 3 8 ∧ 0 ≤ y43.toInt) (fun (y43 : Int32) (τ : St) => (2147483648 - y43.toInt).toNat) ?_ N (0 : Int32) σ31 ⟨hσ31, rfl, rfl, rfl, rfl, rfl, rfl, rfl, rfl, rfl, rfl, by omega⟩ (by (try dsimp only); omega)
  intro rr45 y48 σ47 hIσ47 ih46
  obtain ⟨hσ47, k49, k50, k51, k52, k53, k54, k55, k56, k57, k58, i59⟩ := hIσ47
  unfold fX8_countNodes_l35
  have f60 := tB y48
  refine ⟨fun c61 => ?_, fun c61 => ?_⟩
  · have f62 := K1.g_2_4 hσ47
    have f64 := Int32.le_iff_toInt_le.mp c61
    unfold fX8_countNodes_j102
    exact hQ _ _ hσ47 (⟨k49.trans (k32.trans ((kq (a := 3) (b := 7) eσ3 (by omega)).trans ((kq (a := 3) (b := 7) eσ2 (by omega))))), k50.trans (k33.trans ((kq (a := 3) (b := 11) eσ3 (by omega)).trans ((kq (a := 3) (b := 11) eσ2 (by omega))))), k51.trans (k34.trans ((kq (a := 3) (b := 6) eσ3 (by omega)).trans ((kq (a := 3) (b := 6) eσ2 (by omega))))), k52.trans (k35.trans ((kq (a := 9) (b := 9) eσ3 (by omega)).trans ((kq (a := 9) (b := 9) eσ2 (by omega))))), k53.trans (k36.trans ((kq (a := 9) (b := 10) eσ3 (by omega)).trans ((kq (a := 9) (b := 10) eσ2 (by omega))))), k54.trans (k37.trans ((kq (a := 6) (b := 5) eσ3 (by omega)).trans ((kq (a := 6) (b := 5) eσ2 (by omega))))), k55.trans (k38.trans ((kq (a := 7) (b := 4) eσ3 (by omega)).trans ((kq (a := 7) (b := 4) eσ2 (by omega))))), k56.trans (k39.trans ((kq (a := 2) (b := 5) eσ3 (by omega)).trans ((kq (a := 2) (b := 5) eσ2 (by omega))))), k57.trans (k40.trans ((kq (a := 2) (b := 6) eσ3 (by omega)).trans ((kq (a := 2) (b := 6) eσ2 (by omega))))), k58.trans (k41.trans ((kq (a := 3) (b := 8) eσ3 (by omega)).trans ((kq (a := 3) (b := 8) eσ2 (by omega)))))⟩) trivial
  · have f65 := K1.g_2_4 hσ47
    have f67 := mt Int32.le_iff_toInt_le.mpr c61
    refine ⟨fun c68 => ?_, fun c68 => ?_⟩
    · have f69 : (4096 : Int32).toInt = 4096 := by decide
      have f71 := Int32.le_iff_toInt_le.mp c68
      unfold fX8_countNodes_j102
      exact hQ _ _ hσ47 (⟨k49.trans (k32.trans ((kq (a := 3) (b := 7) eσ3 (by omega)).trans ((kq (a := 3) (b := 7) eσ2 (by omega))))), k50.trans (k33.trans ((kq (a := 3) (b := 11) eσ3 (by omega)).trans ((kq (a := 3) (b := 11) eσ2 (by omega))))), k51.trans (k34.trans ((kq (a := 3) (b := 6) eσ3 (by omega)).trans ((kq (a := 3) (b := 6) eσ2 (by omega))))), k52.trans (k35.trans ((kq (a := 9) (b := 9) eσ3 (by omega)).trans ((kq (a := 9) (b := 9) eσ2 (by omega))))), k53.trans (k36.trans ((kq (a := 9) (b := 10) eσ3 (by omega)).trans ((kq (a := 9) (b := 10) eσ2 (by omega))))), k54.trans (k37.trans ((kq (a := 6) (b := 5) eσ3 (by omega)).trans ((kq (a := 6) (b := 5) eσ2 (by omega))))), k55.trans (k38.trans ((kq (a := 7) (b := 4) eσ3 (by omega)).trans ((kq (a := 7) (b := 4) eσ2 (by omega))))), k56.trans (k39.trans ((kq (a := 2) (b := 5) eσ3 (by omega)).trans ((kq (a := 2) (b := 5) eσ2 (by omega))))), k57.trans (k40.trans ((kq (a := 2) (b := 6) eσ3 (by omega)).trans ((kq (a := 2) (b := 6) eσ2 (by omega))))), k58.trans (k41.trans ((kq (a := 3) (b := 8) eσ3 (by omega)).trans ((kq (a := 3) (b := 8) eσ2 (by omega)))))⟩) trivial
    · have f72 : (4096 : Int32).toInt = 4096 := by decide
      have f74 := mt Int32.le_iff_toInt_le.mpr c68
      have g76 : vp_in y48 4096 := inI (by omega) (by omega)
      refine ⟨g76, ?_⟩
      intro v77 ev77
      have f78 := tB v77
      have f79 := tB (σ47.1 14 y48.toNatClampNeg)
      have f80 := congrArg Int32.toInt ev77
      refine sX3_byteOf hN hσ47 (fun r94 p95 => ?_)
      refine ⟨fun c96 => ?_, fun c96 => ?_⟩
      · have f97 := tB r94
        have f99 := congrArg Int32.toInt c96
        have f103 : (1 : Int32).toInt = 1 := by decide
        have f104 := tA v77 (1 : Int32)
        have f105 := tB (v77 + 1)
        refine sX3_fourOf hN hσ47 (fun r119 p120 => ?_)
        have f121 := tB r119
        refine sX8_find hN hσ47 (fun σ122 hσ122 kk133 => ?_)
        obtain ⟨k123, k124, k125, k126, k127, k128, k129, k130, k131, k132⟩ := kk133
        have f137 : (5 : Int32).toInt = 5 := by decide
        have f138 := tA v77 (5 : Int32)
        have f139 := tB (v77 + 5)
        refine sX3_fourOf hN hσ122 (fun r153 p154 => ?_)
        have f155 := tB r153
        refine sX8_find hN hσ122 (fun σ156 hσ156 kk167 => ?_)
        obtain ⟨k157, k158, k159, k160, k161, k162, k163, k164, k165, k166⟩ := kk167
        unfold fX8_countNodes_j96
        intro v168 ev168
        have f169 := tB v168
        have f172 := tA y48 (1 : Int32)
        have f173 := tB (y48 + 1)
        have f174 := congrArg Int32.toInt ev168
        exact ih46 v168 σ156 ⟨hσ156, k157.trans (k123.trans (k49)), k158.trans (k124.trans (k50)), k159.trans (k125.trans (k51)), k160.trans (k126.trans (k52)), k161.trans (k127.trans (k53)), k162.trans (k128.trans (k54)), k163.trans (k129.trans (k55)), k164.trans (k130.trans (k56)), k165.trans (k131.trans (k57)), k166.trans (k132.trans (k58)), by omega⟩ (by (try dsimp only); omega)
      · have f175 := tB r94
        have f177 := mt Int32.toInt_inj.mp c96
        unfold fX8_countNodes_j96
        intro v178 ev178
        have f179 := tB v178
        have f181 : (1 : Int32).toInt = 1 := by decide
        have f182 := tA y48 (1 : Int32)
        have f183 := tB (y48 + 1)
        have f184 := congrArg Int32.toInt ev178
        exact ih46 v178 σ47 ⟨hσ47, k49, k50, k51, k52, k53, k54, k55, k56, k57, k58, by omega⟩ (by (try dsimp only); omega)
set_option maxHeartbeats 4000000 in
theorem sX8_cachedNodes {N : Nat} (hN : 4294967400 ≤ N) {Q : Int32 → St → Prop} {σ0 σ : St} (hσ : K1 σ0 σ) (hQ : ∀ (r : Int32) (τ : St), K1 σ0 τ → (τ.1 3 7 = σ.1 3 7 ∧ τ.1 3 11 = σ.1 3 11 ∧ τ.1 3 6 = σ.1 3 6 ∧ τ.1 9 9 = σ.1 9 9 ∧ τ.1 9 10 = σ.1 9 10 ∧ τ.1 6 5 = σ.1 6 5 ∧ τ.1 7 4 = σ.1 7 4 ∧ τ.1 2 5 = σ.1 2 5 ∧ τ.1 2 6 = σ.1 2 6 ∧ τ.1 3 8 = σ.1 3 8) → True → Q r τ) : fX8_cachedNodes N  Q σ := by
  unfold fX8_cachedNodes
  refine ⟨fun c1 => ?_, fun c1 => ?_⟩
  · have f2 := tB (σ.1 2 7)
    have f3 : ((-1) : Int32).toInt = -1 := by decide
    have f4 := congrArg Int32.toInt c1
    refine sX8_countNodes hN hσ (fun r17 σ5 hσ5 kk16 p18 => ?_)
    obtain ⟨k6, k7, k8, k9, k10, k11, k12, k13, k14, k15⟩ := kk16
    intro σ19 eσ19
    have hσ19 : K1 σ0 σ19 := by rw [eσ19]; exact hσ5.u (Rg1.u_2_7 _) (by omega) (by omega)
    unfold fX8_cachedNodes_j16
    exact hQ _ _ hσ19 (⟨(kq (a := 3) (b := 7) eσ19 (by omega)).trans (k6), (kq (a := 3) (b := 11) eσ19 (by omega)).trans (k7), (kq (a := 3) (b := 6) eσ19 (by omega)).trans (k8), (kq (a := 9) (b := 9) eσ19 (by omega)).trans (k9), (kq (a := 9) (b := 10) eσ19 (by omega)).trans (k10), (kq (a := 6) (b := 5) eσ19 (by omega)).trans (k11), (kq (a := 7) (b := 4) eσ19 (by omega)).trans (k12), (kq (a := 2) (b := 5) eσ19 (by omega)).trans (k13), (kq (a := 2) (b := 6) eσ19 (by omega)).trans (k14), (kq (a := 3) (b := 8) eσ19 (by omega)).trans (k15)⟩) trivial
  · have f20 := tB (σ.1 2 7)
    have f21 : ((-1) : Int32).toInt = -1 := by decide
    have f22 := mt Int32.toInt_inj.mp c1
    unfold fX8_cachedNodes_j16
    exact hQ _ _ hσ (⟨rfl, rfl, rfl, rfl, rfl, rfl, rfl, rfl, rfl, rfl⟩) trivial
set_option maxHeartbeats 4000000 in
theorem sX11_table {N : Nat} (hN : 4294967400 ≤ N) {x1 : Int32} {Q : Int32 → St → Prop} {σ0 σ : St} (hσ : K1 σ0 σ) (hQ : ∀ (r : Int32) (τ : St), K1 σ0 τ → (τ.1 3 7 = σ.1 3 7 ∧ τ.1 3 11 = σ.1 3 11 ∧ τ.1 3 6 = σ.1 3 6 ∧ τ.1 9 9 = σ.1 9 9 ∧ τ.1 9 10 = σ.1 9 10 ∧ τ.1 6 5 = σ.1 6 5 ∧ τ.1 7 4 = σ.1 7 4 ∧ τ.1 3 8 = σ.1 3 8) → True → Q r τ) : fX11_table N x1 Q σ := by
  unfold fX11_table
  refine ⟨fun c1 => ?_, fun c1 => ?_⟩
  · have f2 := K1.g_3_7 hσ
    have f3 : (0 : Int32).toInt = 0 := by decide
    have f4 := Int32.le_iff_toInt_le.mp c1
    have f5 := tB x1
    refine sX8_tell hN hσ (fun σ6 hσ6 kk16 => ?_)
    obtain ⟨k7, k8, k9, k10, k11, k12, k13, k14, k15⟩ := kk16
    refine sX8_cachedNodes hN hσ6 (fun r29 σ17 hσ17 kk28 p30 => ?_)
    obtain ⟨k18, k19, k20, k21, k22, k23, k24, k25, k26, k27⟩ := kk28
    exact hQ _ _ hσ17 (⟨k18.trans (k7), k19.trans (k8), k20.trans (k9), k21.trans (k10), k22.trans (k11), k23.trans (k12), k24.trans (k13), k27.trans (k15)⟩) trivial
  · have f31 := K1.g_3_7 hσ
    have f32 : (0 : Int32).toInt = 0 := by decide
    have f33 := mt Int32.le_iff_toInt_le.mpr c1
    exact hQ _ _ hσ (⟨rfl, rfl, rfl, rfl, rfl, rfl, rfl, rfl⟩) trivial
set_option maxHeartbeats 4000000 in
theorem sX2_isSystem {N : Nat} (hN : 4294967400 ≤ N) {x0 : Int32} {Q : Int32 → St → Prop} {σ0 σ : St} (hσ : K1 σ0 σ) (hQ : ∀ r : Int32, True → Q r σ) : fX2_isSystem N x0 Q σ := by
  unfold fX2_isSystem
  refine ⟨fun c1 => ?_, fun c1 => ?_⟩
  · have f2 := tB x0
    have f3 : (0 : Int32).toInt = 0 := by decide
    have f4 := Int32.lt_iff_toInt_lt.mp c1
    exact hQ _ trivial
  · have f5 := tB x0
    have f6 : (0 : Int32).toInt = 0 := by decide
    have f7 := mt Int32.lt_iff_toInt_lt.mpr c1
    refine ⟨fun c8 => ?_, fun c8 => ?_⟩
    · have f9 : (2 : Int32).toInt = 2 := by decide
      have f11 := Int32.lt_iff_toInt_lt.mp c8
      exact hQ _ trivial
    · have f12 : (2 : Int32).toInt = 2 := by decide
      have f14 := mt Int32.lt_iff_toInt_lt.mpr c8
      exact hQ _ trivial
set_option maxHeartbeats 4000000 in
theorem sX2_setSystem {N : Nat} (hN : 4294967400 ≤ N) {x1 : Int32} {x2 : Int32} {Q : St → Prop} {σ0 σ : St} (hσ : K1 σ0 σ) (hQ : ∀ τ : St, K1 σ0 τ → (τ.1 3 7 = σ.1 3 7 ∧ τ.1 3 11 = σ.1 3 11 ∧ τ.1 3 6 = σ.1 3 6 ∧ τ.1 9 9 = σ.1 9 9 ∧ τ.1 9 10 = σ.1 9 10 ∧ τ.1 6 5 = σ.1 6 5 ∧ τ.1 7 4 = σ.1 7 4 ∧ τ.1 2 4 = σ.1 2 4 ∧ τ.1 2 5 = σ.1 2 5 ∧ τ.1 2 6 = σ.1 2 6 ∧ τ.1 3 8 = σ.1 3 8) → Q τ) : fX2_setSystem N x1 x2 Q σ := by
  unfold fX2_setSystem
  unfold fX2_isSystem
  refine ⟨fun c1 => ?_, fun c1 => ?_⟩
  · have f2 := tB x1
    have f3 : (0 : Int32).toInt = 0 := by decide
    have f4 := Int32.lt_iff_toInt_lt.mp c1
    try dsimp only
    refine ⟨fun c5 => ?_, fun c5 => ?_⟩
    · have f8 := congrArg Int32.toInt c5
      unfold fX2_setSystem_j13
      intro σ9 eσ9
      have hσ9 : K1 σ0 σ9 := by rw [eσ9]; exact hσ.u (Rg1.u_3_9 _) (by omega) (by omega)
      intro σ10 eσ10
      have hσ10 : K1 σ0 σ10 := by rw [eσ10]; exact hσ9.u (Rg1.u_3_10 _) (by omega) (by omega)
      exact hQ _ hσ10 (⟨(kq (a := 3) (b := 7) eσ10 (by omega)).trans ((kq (a := 3) (b := 7) eσ9 (by omega))), (kq (a := 3) (b := 11) eσ10 (by omega)).trans ((kq (a := 3) (b := 11) eσ9 (by omega))), (kq (a := 3) (b := 6) eσ10 (by omega)).trans ((kq (a := 3) (b := 6) eσ9 (by omega))), (kq (a := 9) (b := 9) eσ10 (by omega)).trans ((kq (a := 9) (b := 9) eσ9 (by omega))), (kq (a := 9) (b := 10) eσ10 (by omega)).trans ((kq (a := 9) (b := 10) eσ9 (by omega))), (kq (a := 6) (b := 5) eσ10 (by omega)).trans ((kq (a := 6) (b := 5) eσ9 (by omega))), (kq (a := 7) (b := 4) eσ10 (by omega)).trans ((kq (a := 7) (b := 4) eσ9 (by omega))), (kq (a := 2) (b := 4) eσ10 (by omega)).trans ((kq (a := 2) (b := 4) eσ9 (by omega))), (kq (a := 2) (b := 5) eσ10 (by omega)).trans ((kq (a := 2) (b := 5) eσ9 (by omega))), (kq (a := 2) (b := 6) eσ10 (by omega)).trans ((kq (a := 2) (b := 6) eσ9 (by omega))), (kq (a := 3) (b := 8) eσ10 (by omega)).trans ((kq (a := 3) (b := 8) eσ9 (by omega)))⟩)
    · have f13 := mt Int32.toInt_inj.mp c5
      unfold fX2_setSystem_j13
      intro σ14 eσ14
      have hσ14 : K1 σ0 σ14 := by rw [eσ14]; exact hσ.u (Rg1.u_3_9 _) (by omega) (by omega)
      intro σ15 eσ15
      have hσ15 : K1 σ0 σ15 := by rw [eσ15]; exact hσ14.u (Rg1.u_3_10 _) (by omega) (by omega)
      exact hQ _ hσ15 (⟨(kq (a := 3) (b := 7) eσ15 (by omega)).trans ((kq (a := 3) (b := 7) eσ14 (by omega))), (kq (a := 3) (b := 11) eσ15 (by omega)).trans ((kq (a := 3) (b := 11) eσ14 (by omega))), (kq (a := 3) (b := 6) eσ15 (by omega)).trans ((kq (a := 3) (b := 6) eσ14 (by omega))), (kq (a := 9) (b := 9) eσ15 (by omega)).trans ((kq (a := 9) (b := 9) eσ14 (by omega))), (kq (a := 9) (b := 10) eσ15 (by omega)).trans ((kq (a := 9) (b := 10) eσ14 (by omega))), (kq (a := 6) (b := 5) eσ15 (by omega)).trans ((kq (a := 6) (b := 5) eσ14 (by omega))), (kq (a := 7) (b := 4) eσ15 (by omega)).trans ((kq (a := 7) (b := 4) eσ14 (by omega))), (kq (a := 2) (b := 4) eσ15 (by omega)).trans ((kq (a := 2) (b := 4) eσ14 (by omega))), (kq (a := 2) (b := 5) eσ15 (by omega)).trans ((kq (a := 2) (b := 5) eσ14 (by omega))), (kq (a := 2) (b := 6) eσ15 (by omega)).trans ((kq (a := 2) (b := 6) eσ14 (by omega))), (kq (a := 3) (b := 8) eσ15 (by omega)).trans ((kq (a := 3) (b := 8) eσ14 (by omega)))⟩)
  · have f16 := tB x1
    have f17 : (0 : Int32).toInt = 0 := by decide
    have f18 := mt Int32.lt_iff_toInt_lt.mpr c1
    refine ⟨fun c19 => ?_, fun c19 => ?_⟩
    · have f20 : (2 : Int32).toInt = 2 := by decide
      have f22 := Int32.lt_iff_toInt_lt.mp c19
      try dsimp only
      refine ⟨fun c23 => ?_, fun c23 => ?_⟩
      · have f26 := congrArg Int32.toInt c23
        unfold fX2_setSystem_j13
        intro σ27 eσ27
        have hσ27 : K1 σ0 σ27 := by rw [eσ27]; exact hσ.u (Rg1.u_3_9 _) (by omega) (by omega)
        intro σ28 eσ28
        have hσ28 : K1 σ0 σ28 := by rw [eσ28]; exact hσ27.u (Rg1.u_3_10 _) (by omega) (by omega)
        exact hQ _ hσ28 (⟨(kq (a := 3) (b := 7) eσ28 (by omega)).trans ((kq (a := 3) (b := 7) eσ27 (by omega))), (kq (a := 3) (b := 11) eσ28 (by omega)).trans ((kq (a := 3) (b := 11) eσ27 (by omega))), (kq (a := 3) (b := 6) eσ28 (by omega)).trans ((kq (a := 3) (b := 6) eσ27 (by omega))), (kq (a := 9) (b := 9) eσ28 (by omega)).trans ((kq (a := 9) (b := 9) eσ27 (by omega))), (kq (a := 9) (b := 10) eσ28 (by omega)).trans ((kq (a := 9) (b := 10) eσ27 (by omega))), (kq (a := 6) (b := 5) eσ28 (by omega)).trans ((kq (a := 6) (b := 5) eσ27 (by omega))), (kq (a := 7) (b := 4) eσ28 (by omega)).trans ((kq (a := 7) (b := 4) eσ27 (by omega))), (kq (a := 2) (b := 4) eσ28 (by omega)).trans ((kq (a := 2) (b := 4) eσ27 (by omega))), (kq (a := 2) (b := 5) eσ28 (by omega)).trans ((kq (a := 2) (b := 5) eσ27 (by omega))), (kq (a := 2) (b := 6) eσ28 (by omega)).trans ((kq (a := 2) (b := 6) eσ27 (by omega))), (kq (a := 3) (b := 8) eσ28 (by omega)).trans ((kq (a := 3) (b := 8) eσ27 (by omega)))⟩)
      · have f31 := mt Int32.toInt_inj.mp c23
        unfold fX2_setSystem_j13
        intro σ32 eσ32
        have hσ32 : K1 σ0 σ32 := by rw [eσ32]; exact hσ.u (Rg1.u_3_9 _) (by omega) (by omega)
        intro σ33 eσ33
        have hσ33 : K1 σ0 σ33 := by rw [eσ33]; exact hσ32.u (Rg1.u_3_10 _) (by omega) (by omega)
        exact hQ _ hσ33 (⟨(kq (a := 3) (b := 7) eσ33 (by omega)).trans ((kq (a := 3) (b := 7) eσ32 (by omega))), (kq (a := 3) (b := 11) eσ33 (by omega)).trans ((kq (a := 3) (b := 11) eσ32 (by omega))), (kq (a := 3) (b := 6) eσ33 (by omega)).trans ((kq (a := 3) (b := 6) eσ32 (by omega))), (kq (a := 9) (b := 9) eσ33 (by omega)).trans ((kq (a := 9) (b := 9) eσ32 (by omega))), (kq (a := 9) (b := 10) eσ33 (by omega)).trans ((kq (a := 9) (b := 10) eσ32 (by omega))), (kq (a := 6) (b := 5) eσ33 (by omega)).trans ((kq (a := 6) (b := 5) eσ32 (by omega))), (kq (a := 7) (b := 4) eσ33 (by omega)).trans ((kq (a := 7) (b := 4) eσ32 (by omega))), (kq (a := 2) (b := 4) eσ33 (by omega)).trans ((kq (a := 2) (b := 4) eσ32 (by omega))), (kq (a := 2) (b := 5) eσ33 (by omega)).trans ((kq (a := 2) (b := 5) eσ32 (by omega))), (kq (a := 2) (b := 6) eσ33 (by omega)).trans ((kq (a := 2) (b := 6) eσ32 (by omega))), (kq (a := 3) (b := 8) eσ33 (by omega)).trans ((kq (a := 3) (b := 8) eσ32 (by omega)))⟩)
    · have f34 : (2 : Int32).toInt = 2 := by decide
      have f36 := mt Int32.lt_iff_toInt_lt.mpr c19
      try dsimp only
      refine ⟨fun c37 => ?_, fun c37 => ?_⟩
      · have f38 : (1 : Int32).toInt = 1 := by decide
        have f40 := congrArg Int32.toInt c37
        unfold fX2_setSystem_j13
        intro σ41 eσ41
        have hσ41 : K1 σ0 σ41 := by rw [eσ41]; exact hσ.u (Rg1.u_3_9 _) (by omega) (by omega)
        intro σ42 eσ42
        have hσ42 : K1 σ0 σ42 := by rw [eσ42]; exact hσ41.u (Rg1.u_3_10 _) (by omega) (by omega)
        exact hQ _ hσ42 (⟨(kq (a := 3) (b := 7) eσ42 (by omega)).trans ((kq (a := 3) (b := 7) eσ41 (by omega))), (kq (a := 3) (b := 11) eσ42 (by omega)).trans ((kq (a := 3) (b := 11) eσ41 (by omega))), (kq (a := 3) (b := 6) eσ42 (by omega)).trans ((kq (a := 3) (b := 6) eσ41 (by omega))), (kq (a := 9) (b := 9) eσ42 (by omega)).trans ((kq (a := 9) (b := 9) eσ41 (by omega))), (kq (a := 9) (b := 10) eσ42 (by omega)).trans ((kq (a := 9) (b := 10) eσ41 (by omega))), (kq (a := 6) (b := 5) eσ42 (by omega)).trans ((kq (a := 6) (b := 5) eσ41 (by omega))), (kq (a := 7) (b := 4) eσ42 (by omega)).trans ((kq (a := 7) (b := 4) eσ41 (by omega))), (kq (a := 2) (b := 4) eσ42 (by omega)).trans ((kq (a := 2) (b := 4) eσ41 (by omega))), (kq (a := 2) (b := 5) eσ42 (by omega)).trans ((kq (a := 2) (b := 5) eσ41 (by omega))), (kq (a := 2) (b := 6) eσ42 (by omega)).trans ((kq (a := 2) (b := 6) eσ41 (by omega))), (kq (a := 3) (b := 8) eσ42 (by omega)).trans ((kq (a := 3) (b := 8) eσ41 (by omega)))⟩)
      · have f43 : (1 : Int32).toInt = 1 := by decide
        have f45 := mt Int32.toInt_inj.mp c37
        unfold fX2_setSystem_j13
        intro σ46 eσ46
        have hσ46 : K1 σ0 σ46 := by rw [eσ46]; exact hσ.u (Rg1.u_3_9 _) (by omega) (by omega)
        intro σ47 eσ47
        have hσ47 : K1 σ0 σ47 := by rw [eσ47]; exact hσ46.u (Rg1.u_3_10 _) (by omega) (by omega)
        exact hQ _ hσ47 (⟨(kq (a := 3) (b := 7) eσ47 (by omega)).trans ((kq (a := 3) (b := 7) eσ46 (by omega))), (kq (a := 3) (b := 11) eσ47 (by omega)).trans ((kq (a := 3) (b := 11) eσ46 (by omega))), (kq (a := 3) (b := 6) eσ47 (by omega)).trans ((kq (a := 3) (b := 6) eσ46 (by omega))), (kq (a := 9) (b := 9) eσ47 (by omega)).trans ((kq (a := 9) (b := 9) eσ46 (by omega))), (kq (a := 9) (b := 10) eσ47 (by omega)).trans ((kq (a := 9) (b := 10) eσ46 (by omega))), (kq (a := 6) (b := 5) eσ47 (by omega)).trans ((kq (a := 6) (b := 5) eσ46 (by omega))), (kq (a := 7) (b := 4) eσ47 (by omega)).trans ((kq (a := 7) (b := 4) eσ46 (by omega))), (kq (a := 2) (b := 4) eσ47 (by omega)).trans ((kq (a := 2) (b := 4) eσ46 (by omega))), (kq (a := 2) (b := 5) eσ47 (by omega)).trans ((kq (a := 2) (b := 5) eσ46 (by omega))), (kq (a := 2) (b := 6) eσ47 (by omega)).trans ((kq (a := 2) (b := 6) eσ46 (by omega))), (kq (a := 3) (b := 8) eσ47 (by omega)).trans ((kq (a := 3) (b := 8) eσ46 (by omega)))⟩)
set_option maxHeartbeats 4000000 in
theorem sX11_system {N : Nat} (hN : 4294967400 ≤ N) {x1 : Int32} {x2 : Int32} {Q : Int32 → St → Prop} {σ0 σ : St} (hσ : K1 σ0 σ) (hQ : ∀ (r : Int32) (τ : St), K1 σ0 τ → (τ.1 3 7 = σ.1 3 7 ∧ τ.1 3 11 = σ.1 3 11 ∧ τ.1 3 6 = σ.1 3 6 ∧ τ.1 9 9 = σ.1 9 9 ∧ τ.1 9 10 = σ.1 9 10 ∧ τ.1 6 5 = σ.1 6 5 ∧ τ.1 7 4 = σ.1 7 4 ∧ τ.1 2 4 = σ.1 2 4 ∧ τ.1 2 5 = σ.1 2 5 ∧ τ.1 2 6 = σ.1 2 6 ∧ τ.1 3 8 = σ.1 3 8) → True → Q r τ) : fX11_system N x1 x2 Q σ := by
  unfold fX11_system
  unfold fX2_isSystem
  refine ⟨fun c1 => ?_, fun c1 => ?_⟩
  · have f2 := tB x1
    have f3 : (0 : Int32).toInt = 0 := by decide
    have f4 := Int32.lt_iff_toInt_lt.mp c1
    try dsimp only
    refine ⟨fun c5 => ?_, fun c5 => ?_⟩
    · have f8 := congrArg Int32.toInt c5
      exact hQ _ _ hσ (⟨rfl, rfl, rfl, rfl, rfl, rfl, rfl, rfl, rfl, rfl, rfl⟩) trivial
    · have f11 := mt Int32.toInt_inj.mp c5
      refine ⟨fun c12 => ?_, fun c12 => ?_⟩
      · have f13 := K1.g_3_7 hσ
        have f15 := Int32.le_iff_toInt_le.mp c12
        unfold fX2_setSystem
        unfold fX2_isSystem
        refine ⟨fun c16 => ?_, fun c16 => ?_⟩
        · have f19 := Int32.lt_iff_toInt_lt.mp c16
          try dsimp only
          refine ⟨fun c20 => ?_, fun c20 => ?_⟩
          · have f23 := congrArg Int32.toInt c20
            unfold fX2_setSystem_j13
            intro σ24 eσ24
            have hσ24 : K1 σ0 σ24 := by rw [eσ24]; exact hσ.u (Rg1.u_3_9 _) (by omega) (by omega)
            intro σ25 eσ25
            have hσ25 : K1 σ0 σ25 := by rw [eσ25]; exact hσ24.u (Rg1.u_3_10 _) (by omega) (by omega)
            try dsimp only
            exact hQ _ _ hσ25 (⟨(kq (a := 3) (b := 7) eσ25 (by omega)).trans ((kq (a := 3) (b := 7) eσ24 (by omega))), (kq (a := 3) (b := 11) eσ25 (by omega)).trans ((kq (a := 3) (b := 11) eσ24 (by omega))), (kq (a := 3) (b := 6) eσ25 (by omega)).trans ((kq (a := 3) (b := 6) eσ24 (by omega))), (kq (a := 9) (b := 9) eσ25 (by omega)).trans ((kq (a := 9) (b := 9) eσ24 (by omega))), (kq (a := 9) (b := 10) eσ25 (by omega)).trans ((kq (a := 9) (b := 10) eσ24 (by omega))), (kq (a := 6) (b := 5) eσ25 (by omega)).trans ((kq (a := 6) (b := 5) eσ24 (by omega))), (kq (a := 7) (b := 4) eσ25 (by omega)).trans ((kq (a := 7) (b := 4) eσ24 (by omega))), (kq (a := 2) (b := 4) eσ25 (by omega)).trans ((kq (a := 2) (b := 4) eσ24 (by omega))), (kq (a := 2) (b := 5) eσ25 (by omega)).trans ((kq (a := 2) (b := 5) eσ24 (by omega))), (kq (a := 2) (b := 6) eσ25 (by omega)).trans ((kq (a := 2) (b := 6) eσ24 (by omega))), (kq (a := 3) (b := 8) eσ25 (by omega)).trans ((kq (a := 3) (b := 8) eσ24 (by omega)))⟩) trivial
          · have f28 := mt Int32.toInt_inj.mp c20
            unfold fX2_setSystem_j13
            intro σ29 eσ29
            have hσ29 : K1 σ0 σ29 := by rw [eσ29]; exact hσ.u (Rg1.u_3_9 _) (by omega) (by omega)
            intro σ30 eσ30
            have hσ30 : K1 σ0 σ30 := by rw [eσ30]; exact hσ29.u (Rg1.u_3_10 _) (by omega) (by omega)
            try dsimp only
            exact hQ _ _ hσ30 (⟨(kq (a := 3) (b := 7) eσ30 (by omega)).trans ((kq (a := 3) (b := 7) eσ29 (by omega))), (kq (a := 3) (b := 11) eσ30 (by omega)).trans ((kq (a := 3) (b := 11) eσ29 (by omega))), (kq (a := 3) (b := 6) eσ30 (by omega)).trans ((kq (a := 3) (b := 6) eσ29 (by omega))), (kq (a := 9) (b := 9) eσ30 (by omega)).trans ((kq (a := 9) (b := 9) eσ29 (by omega))), (kq (a := 9) (b := 10) eσ30 (by omega)).trans ((kq (a := 9) (b := 10) eσ29 (by omega))), (kq (a := 6) (b := 5) eσ30 (by omega)).trans ((kq (a := 6) (b := 5) eσ29 (by omega))), (kq (a := 7) (b := 4) eσ30 (by omega)).trans ((kq (a := 7) (b := 4) eσ29 (by omega))), (kq (a := 2) (b := 4) eσ30 (by omega)).trans ((kq (a := 2) (b := 4) eσ29 (by omega))), (kq (a := 2) (b := 5) eσ30 (by omega)).trans ((kq (a := 2) (b := 5) eσ29 (by omega))), (kq (a := 2) (b := 6) eσ30 (by omega)).trans ((kq (a := 2) (b := 6) eσ29 (by omega))), (kq (a := 3) (b := 8) eσ30 (by omega)).trans ((kq (a := 3) (b := 8) eσ29 (by omega)))⟩) trivial
        · have f33 := mt Int32.lt_iff_toInt_lt.mpr c16
          refine ⟨fun c34 => ?_, fun c34 => ?_⟩
          · have f35 : (2 : Int32).toInt = 2 := by decide
            have f37 := Int32.lt_iff_toInt_lt.mp c34
            try dsimp only
            refine ⟨fun c38 => ?_, fun c38 => ?_⟩
            · have f41 := congrArg Int32.toInt c38
              unfold fX2_setSystem_j13
              intro σ42 eσ42
              have hσ42 : K1 σ0 σ42 := by rw [eσ42]; exact hσ.u (Rg1.u_3_9 _) (by omega) (by omega)
              intro σ43 eσ43
              have hσ43 : K1 σ0 σ43 := by rw [eσ43]; exact hσ42.u (Rg1.u_3_10 _) (by omega) (by omega)
              try dsimp only
              exact hQ _ _ hσ43 (⟨(kq (a := 3) (b := 7) eσ43 (by omega)).trans ((kq (a := 3) (b := 7) eσ42 (by omega))), (kq (a := 3) (b := 11) eσ43 (by omega)).trans ((kq (a := 3) (b := 11) eσ42 (by omega))), (kq (a := 3) (b := 6) eσ43 (by omega)).trans ((kq (a := 3) (b := 6) eσ42 (by omega))), (kq (a := 9) (b := 9) eσ43 (by omega)).trans ((kq (a := 9) (b := 9) eσ42 (by omega))), (kq (a := 9) (b := 10) eσ43 (by omega)).trans ((kq (a := 9) (b := 10) eσ42 (by omega))), (kq (a := 6) (b := 5) eσ43 (by omega)).trans ((kq (a := 6) (b := 5) eσ42 (by omega))), (kq (a := 7) (b := 4) eσ43 (by omega)).trans ((kq (a := 7) (b := 4) eσ42 (by omega))), (kq (a := 2) (b := 4) eσ43 (by omega)).trans ((kq (a := 2) (b := 4) eσ42 (by omega))), (kq (a := 2) (b := 5) eσ43 (by omega)).trans ((kq (a := 2) (b := 5) eσ42 (by omega))), (kq (a := 2) (b := 6) eσ43 (by omega)).trans ((kq (a := 2) (b := 6) eσ42 (by omega))), (kq (a := 3) (b := 8) eσ43 (by omega)).trans ((kq (a := 3) (b := 8) eσ42 (by omega)))⟩) trivial
            · have f46 := mt Int32.toInt_inj.mp c38
              unfold fX2_setSystem_j13
              intro σ47 eσ47
              have hσ47 : K1 σ0 σ47 := by rw [eσ47]; exact hσ.u (Rg1.u_3_9 _) (by omega) (by omega)
              intro σ48 eσ48
              have hσ48 : K1 σ0 σ48 := by rw [eσ48]; exact hσ47.u (Rg1.u_3_10 _) (by omega) (by omega)
              try dsimp only
              exact hQ _ _ hσ48 (⟨(kq (a := 3) (b := 7) eσ48 (by omega)).trans ((kq (a := 3) (b := 7) eσ47 (by omega))), (kq (a := 3) (b := 11) eσ48 (by omega)).trans ((kq (a := 3) (b := 11) eσ47 (by omega))), (kq (a := 3) (b := 6) eσ48 (by omega)).trans ((kq (a := 3) (b := 6) eσ47 (by omega))), (kq (a := 9) (b := 9) eσ48 (by omega)).trans ((kq (a := 9) (b := 9) eσ47 (by omega))), (kq (a := 9) (b := 10) eσ48 (by omega)).trans ((kq (a := 9) (b := 10) eσ47 (by omega))), (kq (a := 6) (b := 5) eσ48 (by omega)).trans ((kq (a := 6) (b := 5) eσ47 (by omega))), (kq (a := 7) (b := 4) eσ48 (by omega)).trans ((kq (a := 7) (b := 4) eσ47 (by omega))), (kq (a := 2) (b := 4) eσ48 (by omega)).trans ((kq (a := 2) (b := 4) eσ47 (by omega))), (kq (a := 2) (b := 5) eσ48 (by omega)).trans ((kq (a := 2) (b := 5) eσ47 (by omega))), (kq (a := 2) (b := 6) eσ48 (by omega)).trans ((kq (a := 2) (b := 6) eσ47 (by omega))), (kq (a := 3) (b := 8) eσ48 (by omega)).trans ((kq (a := 3) (b := 8) eσ47 (by omega)))⟩) trivial
          · have f49 : (2 : Int32).toInt = 2 := by decide
            have f51 := mt Int32.lt_iff_toInt_lt.mpr c34
            try dsimp only
            refine ⟨fun c52 => ?_, fun c52 => ?_⟩
            · have f53 : (1 : Int32).toInt = 1 := by decide
              have f55 := congrArg Int32.toInt c52
              unfold fX2_setSystem_j13
              intro σ56 eσ56
              have hσ56 : K1 σ0 σ56 := by rw [eσ56]; exact hσ.u (Rg1.u_3_9 _) (by omega) (by omega)
              intro σ57 eσ57
              have hσ57 : K1 σ0 σ57 := by rw [eσ57]; exact hσ56.u (Rg1.u_3_10 _) (by omega) (by omega)
              try dsimp only
              exact hQ _ _ hσ57 (⟨(kq (a := 3) (b := 7) eσ57 (by omega)).trans ((kq (a := 3) (b := 7) eσ56 (by omega))), (kq (a := 3) (b := 11) eσ57 (by omega)).trans ((kq (a := 3) (b := 11) eσ56 (by omega))), (kq (a := 3) (b := 6) eσ57 (by omega)).trans ((kq (a := 3) (b := 6) eσ56 (by omega))), (kq (a := 9) (b := 9) eσ57 (by omega)).trans ((kq (a := 9) (b := 9) eσ56 (by omega))), (kq (a := 9) (b := 10) eσ57 (by omega)).trans ((kq (a := 9) (b := 10) eσ56 (by omega))), (kq (a := 6) (b := 5) eσ57 (by omega)).trans ((kq (a := 6) (b := 5) eσ56 (by omega))), (kq (a := 7) (b := 4) eσ57 (by omega)).trans ((kq (a := 7) (b := 4) eσ56 (by omega))), (kq (a := 2) (b := 4) eσ57 (by omega)).trans ((kq (a := 2) (b := 4) eσ56 (by omega))), (kq (a := 2) (b := 5) eσ57 (by omega)).trans ((kq (a := 2) (b := 5) eσ56 (by omega))), (kq (a := 2) (b := 6) eσ57 (by omega)).trans ((kq (a := 2) (b := 6) eσ56 (by omega))), (kq (a := 3) (b := 8) eσ57 (by omega)).trans ((kq (a := 3) (b := 8) eσ56 (by omega)))⟩) trivial
            · have f58 : (1 : Int32).toInt = 1 := by decide
              have f60 := mt Int32.toInt_inj.mp c52
              unfold fX2_setSystem_j13
              intro σ61 eσ61
              have hσ61 : K1 σ0 σ61 := by rw [eσ61]; exact hσ.u (Rg1.u_3_9 _) (by omega) (by omega)
              intro σ62 eσ62
              have hσ62 : K1 σ0 σ62 := by rw [eσ62]; exact hσ61.u (Rg1.u_3_10 _) (by omega) (by omega)
              try dsimp only
              exact hQ _ _ hσ62 (⟨(kq (a := 3) (b := 7) eσ62 (by omega)).trans ((kq (a := 3) (b := 7) eσ61 (by omega))), (kq (a := 3) (b := 11) eσ62 (by omega)).trans ((kq (a := 3) (b := 11) eσ61 (by omega))), (kq (a := 3) (b := 6) eσ62 (by omega)).trans ((kq (a := 3) (b := 6) eσ61 (by omega))), (kq (a := 9) (b := 9) eσ62 (by omega)).trans ((kq (a := 9) (b := 9) eσ61 (by omega))), (kq (a := 9) (b := 10) eσ62 (by omega)).trans ((kq (a := 9) (b := 10) eσ61 (by omega))), (kq (a := 6) (b := 5) eσ62 (by omega)).trans ((kq (a := 6) (b := 5) eσ61 (by omega))), (kq (a := 7) (b := 4) eσ62 (by omega)).trans ((kq (a := 7) (b := 4) eσ61 (by omega))), (kq (a := 2) (b := 4) eσ62 (by omega)).trans ((kq (a := 2) (b := 4) eσ61 (by omega))), (kq (a := 2) (b := 5) eσ62 (by omega)).trans ((kq (a := 2) (b := 5) eσ61 (by omega))), (kq (a := 2) (b := 6) eσ62 (by omega)).trans ((kq (a := 2) (b := 6) eσ61 (by omega))), (kq (a := 3) (b := 8) eσ62 (by omega)).trans ((kq (a := 3) (b := 8) eσ61 (by omega)))⟩) trivial
      · have f63 := K1.g_3_7 hσ
        have f65 := mt Int32.le_iff_toInt_le.mpr c12
        exact hQ _ _ hσ (⟨rfl, rfl, rfl, rfl, rfl, rfl, rfl, rfl, rfl, rfl, rfl⟩) trivial
  · have f66 := tB x1
    have f67 : (0 : Int32).toInt = 0 := by decide
    have f68 := mt Int32.lt_iff_toInt_lt.mpr c1
    refine ⟨fun c69 => ?_, fun c69 => ?_⟩
    · have f70 : (2 : Int32).toInt = 2 := by decide
      have f72 := Int32.lt_iff_toInt_lt.mp c69
      try dsimp only
      refine ⟨fun c73 => ?_, fun c73 => ?_⟩
      · have f76 := congrArg Int32.toInt c73
        exact hQ _ _ hσ (⟨rfl, rfl, rfl, rfl, rfl, rfl, rfl, rfl, rfl, rfl, rfl⟩) trivial
      · have f79 := mt Int32.toInt_inj.mp c73
        refine ⟨fun c80 => ?_, fun c80 => ?_⟩
        · have f81 := K1.g_3_7 hσ
          have f83 := Int32.le_iff_toInt_le.mp c80
          unfold fX2_setSystem
          unfold fX2_isSystem
          refine ⟨fun c84 => ?_, fun c84 => ?_⟩
          · have f87 := Int32.lt_iff_toInt_lt.mp c84
            try dsimp only
            refine ⟨fun c88 => ?_, fun c88 => ?_⟩
            · have f91 := congrArg Int32.toInt c88
              unfold fX2_setSystem_j13
              intro σ92 eσ92
              have hσ92 : K1 σ0 σ92 := by rw [eσ92]; exact hσ.u (Rg1.u_3_9 _) (by omega) (by omega)
              intro σ93 eσ93
              have hσ93 : K1 σ0 σ93 := by rw [eσ93]; exact hσ92.u (Rg1.u_3_10 _) (by omega) (by omega)
              try dsimp only
              exact hQ _ _ hσ93 (⟨(kq (a := 3) (b := 7) eσ93 (by omega)).trans ((kq (a := 3) (b := 7) eσ92 (by omega))), (kq (a := 3) (b := 11) eσ93 (by omega)).trans ((kq (a := 3) (b := 11) eσ92 (by omega))), (kq (a := 3) (b := 6) eσ93 (by omega)).trans ((kq (a := 3) (b := 6) eσ92 (by omega))), (kq (a := 9) (b := 9) eσ93 (by omega)).trans ((kq (a := 9) (b := 9) eσ92 (by omega))), (kq (a := 9) (b := 10) eσ93 (by omega)).trans ((kq (a := 9) (b := 10) eσ92 (by omega))), (kq (a := 6) (b := 5) eσ93 (by omega)).trans ((kq (a := 6) (b := 5) eσ92 (by omega))), (kq (a := 7) (b := 4) eσ93 (by omega)).trans ((kq (a := 7) (b := 4) eσ92 (by omega))), (kq (a := 2) (b := 4) eσ93 (by omega)).trans ((kq (a := 2) (b := 4) eσ92 (by omega))), (kq (a := 2) (b := 5) eσ93 (by omega)).trans ((kq (a := 2) (b := 5) eσ92 (by omega))), (kq (a := 2) (b := 6) eσ93 (by omega)).trans ((kq (a := 2) (b := 6) eσ92 (by omega))), (kq (a := 3) (b := 8) eσ93 (by omega)).trans ((kq (a := 3) (b := 8) eσ92 (by omega)))⟩) trivial
            · have f96 := mt Int32.toInt_inj.mp c88
              unfold fX2_setSystem_j13
              intro σ97 eσ97
              have hσ97 : K1 σ0 σ97 := by rw [eσ97]; exact hσ.u (Rg1.u_3_9 _) (by omega) (by omega)
              intro σ98 eσ98
              have hσ98 : K1 σ0 σ98 := by rw [eσ98]; exact hσ97.u (Rg1.u_3_10 _) (by omega) (by omega)
              try dsimp only
              exact hQ _ _ hσ98 (⟨(kq (a := 3) (b := 7) eσ98 (by omega)).trans ((kq (a := 3) (b := 7) eσ97 (by omega))), (kq (a := 3) (b := 11) eσ98 (by omega)).trans ((kq (a := 3) (b := 11) eσ97 (by omega))), (kq (a := 3) (b := 6) eσ98 (by omega)).trans ((kq (a := 3) (b := 6) eσ97 (by omega))), (kq (a := 9) (b := 9) eσ98 (by omega)).trans ((kq (a := 9) (b := 9) eσ97 (by omega))), (kq (a := 9) (b := 10) eσ98 (by omega)).trans ((kq (a := 9) (b := 10) eσ97 (by omega))), (kq (a := 6) (b := 5) eσ98 (by omega)).trans ((kq (a := 6) (b := 5) eσ97 (by omega))), (kq (a := 7) (b := 4) eσ98 (by omega)).trans ((kq (a := 7) (b := 4) eσ97 (by omega))), (kq (a := 2) (b := 4) eσ98 (by omega)).trans ((kq (a := 2) (b := 4) eσ97 (by omega))), (kq (a := 2) (b := 5) eσ98 (by omega)).trans ((kq (a := 2) (b := 5) eσ97 (by omega))), (kq (a := 2) (b := 6) eσ98 (by omega)).trans ((kq (a := 2) (b := 6) eσ97 (by omega))), (kq (a := 3) (b := 8) eσ98 (by omega)).trans ((kq (a := 3) (b := 8) eσ97 (by omega)))⟩) trivial
          · have f101 := mt Int32.lt_iff_toInt_lt.mpr c84
            refine ⟨fun c102 => ?_, fun c102 => ?_⟩
            · have f105 := Int32.lt_iff_toInt_lt.mp c102
              try dsimp only
              refine ⟨fun c106 => ?_, fun c106 => ?_⟩
              · have f109 := congrArg Int32.toInt c106
                unfold fX2_setSystem_j13
                intro σ110 eσ110
                have hσ110 : K1 σ0 σ110 := by rw [eσ110]; exact hσ.u (Rg1.u_3_9 _) (by omega) (by omega)
                intro σ111 eσ111
                have hσ111 : K1 σ0 σ111 := by rw [eσ111]; exact hσ110.u (Rg1.u_3_10 _) (by omega) (by omega)
                try dsimp only
                exact hQ _ _ hσ111 (⟨(kq (a := 3) (b := 7) eσ111 (by omega)).trans ((kq (a := 3) (b := 7) eσ110 (by omega))), (kq (a := 3) (b := 11) eσ111 (by omega)).trans ((kq (a := 3) (b := 11) eσ110 (by omega))), (kq (a := 3) (b := 6) eσ111 (by omega)).trans ((kq (a := 3) (b := 6) eσ110 (by omega))), (kq (a := 9) (b := 9) eσ111 (by omega)).trans ((kq (a := 9) (b := 9) eσ110 (by omega))), (kq (a := 9) (b := 10) eσ111 (by omega)).trans ((kq (a := 9) (b := 10) eσ110 (by omega))), (kq (a := 6) (b := 5) eσ111 (by omega)).trans ((kq (a := 6) (b := 5) eσ110 (by omega))), (kq (a := 7) (b := 4) eσ111 (by omega)).trans ((kq (a := 7) (b := 4) eσ110 (by omega))), (kq (a := 2) (b := 4) eσ111 (by omega)).trans ((kq (a := 2) (b := 4) eσ110 (by omega))), (kq (a := 2) (b := 5) eσ111 (by omega)).trans ((kq (a := 2) (b := 5) eσ110 (by omega))), (kq (a := 2) (b := 6) eσ111 (by omega)).trans ((kq (a := 2) (b := 6) eσ110 (by omega))), (kq (a := 3) (b := 8) eσ111 (by omega)).trans ((kq (a := 3) (b := 8) eσ110 (by omega)))⟩) trivial
              · have f114 := mt Int32.toInt_inj.mp c106
                unfold fX2_setSystem_j13
                intro σ115 eσ115
                have hσ115 : K1 σ0 σ115 := by rw [eσ115]; exact hσ.u (Rg1.u_3_9 _) (by omega) (by omega)
                intro σ116 eσ116
                have hσ116 : K1 σ0 σ116 := by rw [eσ116]; exact hσ115.u (Rg1.u_3_10 _) (by omega) (by omega)
                try dsimp only
                exact hQ _ _ hσ116 (⟨(kq (a := 3) (b := 7) eσ116 (by omega)).trans ((kq (a := 3) (b := 7) eσ115 (by omega))), (kq (a := 3) (b := 11) eσ116 (by omega)).trans ((kq (a := 3) (b := 11) eσ115 (by omega))), (kq (a := 3) (b := 6) eσ116 (by omega)).trans ((kq (a := 3) (b := 6) eσ115 (by omega))), (kq (a := 9) (b := 9) eσ116 (by omega)).trans ((kq (a := 9) (b := 9) eσ115 (by omega))), (kq (a := 9) (b := 10) eσ116 (by omega)).trans ((kq (a := 9) (b := 10) eσ115 (by omega))), (kq (a := 6) (b := 5) eσ116 (by omega)).trans ((kq (a := 6) (b := 5) eσ115 (by omega))), (kq (a := 7) (b := 4) eσ116 (by omega)).trans ((kq (a := 7) (b := 4) eσ115 (by omega))), (kq (a := 2) (b := 4) eσ116 (by omega)).trans ((kq (a := 2) (b := 4) eσ115 (by omega))), (kq (a := 2) (b := 5) eσ116 (by omega)).trans ((kq (a := 2) (b := 5) eσ115 (by omega))), (kq (a := 2) (b := 6) eσ116 (by omega)).trans ((kq (a := 2) (b := 6) eσ115 (by omega))), (kq (a := 3) (b := 8) eσ116 (by omega)).trans ((kq (a := 3) (b := 8) eσ115 (by omega)))⟩) trivial
            · have f119 := mt Int32.lt_iff_toInt_lt.mpr c102
              try dsimp only
              refine ⟨fun c120 => ?_, fun c120 => ?_⟩
              · have f121 : (1 : Int32).toInt = 1 := by decide
                have f123 := congrArg Int32.toInt c120
                unfold fX2_setSystem_j13
                intro σ124 eσ124
                have hσ124 : K1 σ0 σ124 := by rw [eσ124]; exact hσ.u (Rg1.u_3_9 _) (by omega) (by omega)
                intro σ125 eσ125
                have hσ125 : K1 σ0 σ125 := by rw [eσ125]; exact hσ124.u (Rg1.u_3_10 _) (by omega) (by omega)
                try dsimp only
                exact hQ _ _ hσ125 (⟨(kq (a := 3) (b := 7) eσ125 (by omega)).trans ((kq (a := 3) (b := 7) eσ124 (by omega))), (kq (a := 3) (b := 11) eσ125 (by omega)).trans ((kq (a := 3) (b := 11) eσ124 (by omega))), (kq (a := 3) (b := 6) eσ125 (by omega)).trans ((kq (a := 3) (b := 6) eσ124 (by omega))), (kq (a := 9) (b := 9) eσ125 (by omega)).trans ((kq (a := 9) (b := 9) eσ124 (by omega))), (kq (a := 9) (b := 10) eσ125 (by omega)).trans ((kq (a := 9) (b := 10) eσ124 (by omega))), (kq (a := 6) (b := 5) eσ125 (by omega)).trans ((kq (a := 6) (b := 5) eσ124 (by omega))), (kq (a := 7) (b := 4) eσ125 (by omega)).trans ((kq (a := 7) (b := 4) eσ124 (by omega))), (kq (a := 2) (b := 4) eσ125 (by omega)).trans ((kq (a := 2) (b := 4) eσ124 (by omega))), (kq (a := 2) (b := 5) eσ125 (by omega)).trans ((kq (a := 2) (b := 5) eσ124 (by omega))), (kq (a := 2) (b := 6) eσ125 (by omega)).trans ((kq (a := 2) (b := 6) eσ124 (by omega))), (kq (a := 3) (b := 8) eσ125 (by omega)).trans ((kq (a := 3) (b := 8) eσ124 (by omega)))⟩) trivial
              · have f126 : (1 : Int32).toInt = 1 := by decide
                have f128 := mt Int32.toInt_inj.mp c120
                unfold fX2_setSystem_j13
                intro σ129 eσ129
                have hσ129 : K1 σ0 σ129 := by rw [eσ129]; exact hσ.u (Rg1.u_3_9 _) (by omega) (by omega)
                intro σ130 eσ130
                have hσ130 : K1 σ0 σ130 := by rw [eσ130]; exact hσ129.u (Rg1.u_3_10 _) (by omega) (by omega)
                try dsimp only
                exact hQ _ _ hσ130 (⟨(kq (a := 3) (b := 7) eσ130 (by omega)).trans ((kq (a := 3) (b := 7) eσ129 (by omega))), (kq (a := 3) (b := 11) eσ130 (by omega)).trans ((kq (a := 3) (b := 11) eσ129 (by omega))), (kq (a := 3) (b := 6) eσ130 (by omega)).trans ((kq (a := 3) (b := 6) eσ129 (by omega))), (kq (a := 9) (b := 9) eσ130 (by omega)).trans ((kq (a := 9) (b := 9) eσ129 (by omega))), (kq (a := 9) (b := 10) eσ130 (by omega)).trans ((kq (a := 9) (b := 10) eσ129 (by omega))), (kq (a := 6) (b := 5) eσ130 (by omega)).trans ((kq (a := 6) (b := 5) eσ129 (by omega))), (kq (a := 7) (b := 4) eσ130 (by omega)).trans ((kq (a := 7) (b := 4) eσ129 (by omega))), (kq (a := 2) (b := 4) eσ130 (by omega)).trans ((kq (a := 2) (b := 4) eσ129 (by omega))), (kq (a := 2) (b := 5) eσ130 (by omega)).trans ((kq (a := 2) (b := 5) eσ129 (by omega))), (kq (a := 2) (b := 6) eσ130 (by omega)).trans ((kq (a := 2) (b := 6) eσ129 (by omega))), (kq (a := 3) (b := 8) eσ130 (by omega)).trans ((kq (a := 3) (b := 8) eσ129 (by omega)))⟩) trivial
        · have f131 := K1.g_3_7 hσ
          have f133 := mt Int32.le_iff_toInt_le.mpr c80
          exact hQ _ _ hσ (⟨rfl, rfl, rfl, rfl, rfl, rfl, rfl, rfl, rfl, rfl, rfl⟩) trivial
    · have f134 : (2 : Int32).toInt = 2 := by decide
      have f136 := mt Int32.lt_iff_toInt_lt.mpr c69
      try dsimp only
      refine ⟨fun c137 => ?_, fun c137 => ?_⟩
      · have f138 : (1 : Int32).toInt = 1 := by decide
        have f140 := congrArg Int32.toInt c137
        exact hQ _ _ hσ (⟨rfl, rfl, rfl, rfl, rfl, rfl, rfl, rfl, rfl, rfl, rfl⟩) trivial
      · have f141 : (1 : Int32).toInt = 1 := by decide
        have f143 := mt Int32.toInt_inj.mp c137
        refine ⟨fun c144 => ?_, fun c144 => ?_⟩
        · have f145 := K1.g_3_7 hσ
          have f147 := Int32.le_iff_toInt_le.mp c144
          unfold fX2_setSystem
          unfold fX2_isSystem
          refine ⟨fun c148 => ?_, fun c148 => ?_⟩
          · have f151 := Int32.lt_iff_toInt_lt.mp c148
            try dsimp only
            refine ⟨fun c152 => ?_, fun c152 => ?_⟩
            · have f155 := congrArg Int32.toInt c152
              unfold fX2_setSystem_j13
              intro σ156 eσ156
              have hσ156 : K1 σ0 σ156 := by rw [eσ156]; exact hσ.u (Rg1.u_3_9 _) (by omega) (by omega)
              intro σ157 eσ157
              have hσ157 : K1 σ0 σ157 := by rw [eσ157]; exact hσ156.u (Rg1.u_3_10 _) (by omega) (by omega)
              try dsimp only
              exact hQ _ _ hσ157 (⟨(kq (a := 3) (b := 7) eσ157 (by omega)).trans ((kq (a := 3) (b := 7) eσ156 (by omega))), (kq (a := 3) (b := 11) eσ157 (by omega)).trans ((kq (a := 3) (b := 11) eσ156 (by omega))), (kq (a := 3) (b := 6) eσ157 (by omega)).trans ((kq (a := 3) (b := 6) eσ156 (by omega))), (kq (a := 9) (b := 9) eσ157 (by omega)).trans ((kq (a := 9) (b := 9) eσ156 (by omega))), (kq (a := 9) (b := 10) eσ157 (by omega)).trans ((kq (a := 9) (b := 10) eσ156 (by omega))), (kq (a := 6) (b := 5) eσ157 (by omega)).trans ((kq (a := 6) (b := 5) eσ156 (by omega))), (kq (a := 7) (b := 4) eσ157 (by omega)).trans ((kq (a := 7) (b := 4) eσ156 (by omega))), (kq (a := 2) (b := 4) eσ157 (by omega)).trans ((kq (a := 2) (b := 4) eσ156 (by omega))), (kq (a := 2) (b := 5) eσ157 (by omega)).trans ((kq (a := 2) (b := 5) eσ156 (by omega))), (kq (a := 2) (b := 6) eσ157 (by omega)).trans ((kq (a := 2) (b := 6) eσ156 (by omega))), (kq (a := 3) (b := 8) eσ157 (by omega)).trans ((kq (a := 3) (b := 8) eσ156 (by omega)))⟩) trivial
            · have f160 := mt Int32.toInt_inj.mp c152
              unfold fX2_setSystem_j13
              intro σ161 eσ161
              have hσ161 : K1 σ0 σ161 := by rw [eσ161]; exact hσ.u (Rg1.u_3_9 _) (by omega) (by omega)
              intro σ162 eσ162
              have hσ162 : K1 σ0 σ162 := by rw [eσ162]; exact hσ161.u (Rg1.u_3_10 _) (by omega) (by omega)
              try dsimp only
              exact hQ _ _ hσ162 (⟨(kq (a := 3) (b := 7) eσ162 (by omega)).trans ((kq (a := 3) (b := 7) eσ161 (by omega))), (kq (a := 3) (b := 11) eσ162 (by omega)).trans ((kq (a := 3) (b := 11) eσ161 (by omega))), (kq (a := 3) (b := 6) eσ162 (by omega)).trans ((kq (a := 3) (b := 6) eσ161 (by omega))), (kq (a := 9) (b := 9) eσ162 (by omega)).trans ((kq (a := 9) (b := 9) eσ161 (by omega))), (kq (a := 9) (b := 10) eσ162 (by omega)).trans ((kq (a := 9) (b := 10) eσ161 (by omega))), (kq (a := 6) (b := 5) eσ162 (by omega)).trans ((kq (a := 6) (b := 5) eσ161 (by omega))), (kq (a := 7) (b := 4) eσ162 (by omega)).trans ((kq (a := 7) (b := 4) eσ161 (by omega))), (kq (a := 2) (b := 4) eσ162 (by omega)).trans ((kq (a := 2) (b := 4) eσ161 (by omega))), (kq (a := 2) (b := 5) eσ162 (by omega)).trans ((kq (a := 2) (b := 5) eσ161 (by omega))), (kq (a := 2) (b := 6) eσ162 (by omega)).trans ((kq (a := 2) (b := 6) eσ161 (by omega))), (kq (a := 3) (b := 8) eσ162 (by omega)).trans ((kq (a := 3) (b := 8) eσ161 (by omega)))⟩) trivial
          · have f165 := mt Int32.lt_iff_toInt_lt.mpr c148
            refine ⟨fun c166 => ?_, fun c166 => ?_⟩
            · have f169 := Int32.lt_iff_toInt_lt.mp c166
              try dsimp only
              refine ⟨fun c170 => ?_, fun c170 => ?_⟩
              · have f173 := congrArg Int32.toInt c170
                unfold fX2_setSystem_j13
                intro σ174 eσ174
                have hσ174 : K1 σ0 σ174 := by rw [eσ174]; exact hσ.u (Rg1.u_3_9 _) (by omega) (by omega)
                intro σ175 eσ175
                have hσ175 : K1 σ0 σ175 := by rw [eσ175]; exact hσ174.u (Rg1.u_3_10 _) (by omega) (by omega)
                try dsimp only
                exact hQ _ _ hσ175 (⟨(kq (a := 3) (b := 7) eσ175 (by omega)).trans ((kq (a := 3) (b := 7) eσ174 (by omega))), (kq (a := 3) (b := 11) eσ175 (by omega)).trans ((kq (a := 3) (b := 11) eσ174 (by omega))), (kq (a := 3) (b := 6) eσ175 (by omega)).trans ((kq (a := 3) (b := 6) eσ174 (by omega))), (kq (a := 9) (b := 9) eσ175 (by omega)).trans ((kq (a := 9) (b := 9) eσ174 (by omega))), (kq (a := 9) (b := 10) eσ175 (by omega)).trans ((kq (a := 9) (b := 10) eσ174 (by omega))), (kq (a := 6) (b := 5) eσ175 (by omega)).trans ((kq (a := 6) (b := 5) eσ174 (by omega))), (kq (a := 7) (b := 4) eσ175 (by omega)).trans ((kq (a := 7) (b := 4) eσ174 (by omega))), (kq (a := 2) (b := 4) eσ175 (by omega)).trans ((kq (a := 2) (b := 4) eσ174 (by omega))), (kq (a := 2) (b := 5) eσ175 (by omega)).trans ((kq (a := 2) (b := 5) eσ174 (by omega))), (kq (a := 2) (b := 6) eσ175 (by omega)).trans ((kq (a := 2) (b := 6) eσ174 (by omega))), (kq (a := 3) (b := 8) eσ175 (by omega)).trans ((kq (a := 3) (b := 8) eσ174 (by omega)))⟩) trivial
              · have f178 := mt Int32.toInt_inj.mp c170
                unfold fX2_setSystem_j13
                intro σ179 eσ179
                have hσ179 : K1 σ0 σ179 := by rw [eσ179]; exact hσ.u (Rg1.u_3_9 _) (by omega) (by omega)
                intro σ180 eσ180
                have hσ180 : K1 σ0 σ180 := by rw [eσ180]; exact hσ179.u (Rg1.u_3_10 _) (by omega) (by omega)
                try dsimp only
                exact hQ _ _ hσ180 (⟨(kq (a := 3) (b := 7) eσ180 (by omega)).trans ((kq (a := 3) (b := 7) eσ179 (by omega))), (kq (a := 3) (b := 11) eσ180 (by omega)).trans ((kq (a := 3) (b := 11) eσ179 (by omega))), (kq (a := 3) (b := 6) eσ180 (by omega)).trans ((kq (a := 3) (b := 6) eσ179 (by omega))), (kq (a := 9) (b := 9) eσ180 (by omega)).trans ((kq (a := 9) (b := 9) eσ179 (by omega))), (kq (a := 9) (b := 10) eσ180 (by omega)).trans ((kq (a := 9) (b := 10) eσ179 (by omega))), (kq (a := 6) (b := 5) eσ180 (by omega)).trans ((kq (a := 6) (b := 5) eσ179 (by omega))), (kq (a := 7) (b := 4) eσ180 (by omega)).trans ((kq (a := 7) (b := 4) eσ179 (by omega))), (kq (a := 2) (b := 4) eσ180 (by omega)).trans ((kq (a := 2) (b := 4) eσ179 (by omega))), (kq (a := 2) (b := 5) eσ180 (by omega)).trans ((kq (a := 2) (b := 5) eσ179 (by omega))), (kq (a := 2) (b := 6) eσ180 (by omega)).trans ((kq (a := 2) (b := 6) eσ179 (by omega))), (kq (a := 3) (b := 8) eσ180 (by omega)).trans ((kq (a := 3) (b := 8) eσ179 (by omega)))⟩) trivial
            · have f183 := mt Int32.lt_iff_toInt_lt.mpr c166
              try dsimp only
              refine ⟨fun c184 => ?_, fun c184 => ?_⟩
              · have f187 := congrArg Int32.toInt c184
                unfold fX2_setSystem_j13
                intro σ188 eσ188
                have hσ188 : K1 σ0 σ188 := by rw [eσ188]; exact hσ.u (Rg1.u_3_9 _) (by omega) (by omega)
                intro σ189 eσ189
                have hσ189 : K1 σ0 σ189 := by rw [eσ189]; exact hσ188.u (Rg1.u_3_10 _) (by omega) (by omega)
                try dsimp only
                exact hQ _ _ hσ189 (⟨(kq (a := 3) (b := 7) eσ189 (by omega)).trans ((kq (a := 3) (b := 7) eσ188 (by omega))), (kq (a := 3) (b := 11) eσ189 (by omega)).trans ((kq (a := 3) (b := 11) eσ188 (by omega))), (kq (a := 3) (b := 6) eσ189 (by omega)).trans ((kq (a := 3) (b := 6) eσ188 (by omega))), (kq (a := 9) (b := 9) eσ189 (by omega)).trans ((kq (a := 9) (b := 9) eσ188 (by omega))), (kq (a := 9) (b := 10) eσ189 (by omega)).trans ((kq (a := 9) (b := 10) eσ188 (by omega))), (kq (a := 6) (b := 5) eσ189 (by omega)).trans ((kq (a := 6) (b := 5) eσ188 (by omega))), (kq (a := 7) (b := 4) eσ189 (by omega)).trans ((kq (a := 7) (b := 4) eσ188 (by omega))), (kq (a := 2) (b := 4) eσ189 (by omega)).trans ((kq (a := 2) (b := 4) eσ188 (by omega))), (kq (a := 2) (b := 5) eσ189 (by omega)).trans ((kq (a := 2) (b := 5) eσ188 (by omega))), (kq (a := 2) (b := 6) eσ189 (by omega)).trans ((kq (a := 2) (b := 6) eσ188 (by omega))), (kq (a := 3) (b := 8) eσ189 (by omega)).trans ((kq (a := 3) (b := 8) eσ188 (by omega)))⟩) trivial
              · have f192 := mt Int32.toInt_inj.mp c184
                unfold fX2_setSystem_j13
                intro σ193 eσ193
                have hσ193 : K1 σ0 σ193 := by rw [eσ193]; exact hσ.u (Rg1.u_3_9 _) (by omega) (by omega)
                intro σ194 eσ194
                have hσ194 : K1 σ0 σ194 := by rw [eσ194]; exact hσ193.u (Rg1.u_3_10 _) (by omega) (by omega)
                try dsimp only
                exact hQ _ _ hσ194 (⟨(kq (a := 3) (b := 7) eσ194 (by omega)).trans ((kq (a := 3) (b := 7) eσ193 (by omega))), (kq (a := 3) (b := 11) eσ194 (by omega)).trans ((kq (a := 3) (b := 11) eσ193 (by omega))), (kq (a := 3) (b := 6) eσ194 (by omega)).trans ((kq (a := 3) (b := 6) eσ193 (by omega))), (kq (a := 9) (b := 9) eσ194 (by omega)).trans ((kq (a := 9) (b := 9) eσ193 (by omega))), (kq (a := 9) (b := 10) eσ194 (by omega)).trans ((kq (a := 9) (b := 10) eσ193 (by omega))), (kq (a := 6) (b := 5) eσ194 (by omega)).trans ((kq (a := 6) (b := 5) eσ193 (by omega))), (kq (a := 7) (b := 4) eσ194 (by omega)).trans ((kq (a := 7) (b := 4) eσ193 (by omega))), (kq (a := 2) (b := 4) eσ194 (by omega)).trans ((kq (a := 2) (b := 4) eσ193 (by omega))), (kq (a := 2) (b := 5) eσ194 (by omega)).trans ((kq (a := 2) (b := 5) eσ193 (by omega))), (kq (a := 2) (b := 6) eσ194 (by omega)).trans ((kq (a := 2) (b := 6) eσ193 (by omega))), (kq (a := 3) (b := 8) eσ194 (by omega)).trans ((kq (a := 3) (b := 8) eσ193 (by omega)))⟩) trivial
        · have f195 := K1.g_3_7 hσ
          have f197 := mt Int32.le_iff_toInt_le.mpr c144
          exact hQ _ _ hσ (⟨rfl, rfl, rfl, rfl, rfl, rfl, rfl, rfl, rfl, rfl, rfl⟩) trivial
set_option maxHeartbeats 4000000 in
theorem sX11_isStepCount {N : Nat} (hN : 4294967400 ≤ N) {x0 : Int32} {Q : Int32 → St → Prop} {σ0 σ : St} (hσ : K1 σ0 σ) (hQ : ∀ r : Int32, True → Q r σ) : fX11_isStepCount N x0 Q σ := by
  unfold fX11_isStepCount
  refine ⟨fun c1 => ?_, fun c1 => ?_⟩
  · have f2 := tB x0
    have f3 : (0 : Int32).toInt = 0 := by decide
    have f4 := Int32.lt_iff_toInt_lt.mp c1
    exact hQ _ trivial
  · have f5 := tB x0
    have f6 : (0 : Int32).toInt = 0 := by decide
    have f7 := mt Int32.lt_iff_toInt_lt.mpr c1
    refine ⟨fun c8 => ?_, fun c8 => ?_⟩
    · have f9 : (100000 : Int32).toInt = 100000 := by decide
      have f11 := Int32.lt_iff_toInt_lt.mp c8
      exact hQ _ trivial
    · have f12 : (100000 : Int32).toInt = 100000 := by decide
      have f14 := mt Int32.lt_iff_toInt_lt.mpr c8
      exact hQ _ trivial
set_option maxHeartbeats 4000000 in
theorem sX2_fail {N : Nat} (hN : 4294967400 ≤ N) {x1 : Int32} {Q : St → Prop} {σ0 σ : St} (hσ : K1 σ0 σ) (hQ : ∀ τ : St, K1 σ0 τ → (τ.1 3 7 = σ.1 3 7 ∧ τ.1 3 6 = σ.1 3 6 ∧ τ.1 9 9 = σ.1 9 9 ∧ τ.1 9 10 = σ.1 9 10 ∧ τ.1 6 5 = σ.1 6 5 ∧ τ.1 7 4 = σ.1 7 4 ∧ τ.1 2 4 = σ.1 2 4 ∧ τ.1 2 5 = σ.1 2 5 ∧ τ.1 2 6 = σ.1 2 6 ∧ τ.1 3 8 = σ.1 3 8) → Q τ) : fX2_fail N x1 Q σ := by
  unfold fX2_fail
  refine ⟨fun c1 => ?_, fun c1 => ?_⟩
  · have f2 := tB (σ.1 3 11)
    have f3 : (0 : Int32).toInt = 0 := by decide
    have f4 := congrArg Int32.toInt c1
    intro σ5 eσ5
    have hσ5 : K1 σ0 σ5 := by rw [eσ5]; exact hσ.u (Rg1.u_3_11 _) (by omega) (by omega)
    exact hQ _ hσ5 (⟨(kq (a := 3) (b := 7) eσ5 (by omega)), (kq (a := 3) (b := 6) eσ5 (by omega)), (kq (a := 9) (b := 9) eσ5 (by omega)), (kq (a := 9) (b := 10) eσ5 (by omega)), (kq (a := 6) (b := 5) eσ5 (by omega)), (kq (a := 7) (b := 4) eσ5 (by omega)), (kq (a := 2) (b := 4) eσ5 (by omega)), (kq (a := 2) (b := 5) eσ5 (by omega)), (kq (a := 2) (b := 6) eσ5 (by omega)), (kq (a := 3) (b := 8) eσ5 (by omega))⟩)
  · have f6 := tB (σ.1 3 11)
    have f7 : (0 : Int32).toInt = 0 := by decide
    have f8 := mt Int32.toInt_inj.mp c1
    exact hQ _ hσ (⟨rfl, rfl, rfl, rfl, rfl, rfl, rfl, rfl, rfl, rfl⟩)
set_option maxHeartbeats 4000000 in
theorem sX2_readByte {N : Nat} (hN : 4294967400 ≤ N) {x1 : Int32} {Q : Int32 → St → Prop} {σ0 σ : St} (hσ : K1 σ0 σ) (hQ : ∀ (r : Int32) (τ : St), K1 σ0 τ → (τ.1 3 7 = σ.1 3 7 ∧ τ.1 3 6 = σ.1 3 6 ∧ τ.1 9 9 = σ.1 9 9 ∧ τ.1 9 10 = σ.1 9 10 ∧ τ.1 6 5 = σ.1 6 5 ∧ τ.1 7 4 = σ.1 7 4 ∧ τ.1 2 4 = σ.1 2 4 ∧ τ.1 2 5 = σ.1 2 5 ∧ τ.1 2 6 = σ.1 2 6 ∧ τ.1 3 8 = σ.1 3 8) → (0) ≤ r.toInt ∧ r.toInt ≤ 255 → Q r τ) : fX2_readByte N x1 Q σ := by
  unfold fX2_readByte
  unfold fX3_has
  refine ⟨fun c1 => ?_, fun c1 => ?_⟩
  · have f2 := tB x1
    have f3 : (0 : Int32).toInt = 0 := by decide
    have f4 := Int32.lt_iff_toInt_lt.mp c1
    try dsimp only
    refine ⟨fun c5 => ?_, fun c5 => ?_⟩
    · have f8 := congrArg Int32.toInt c5
      unfold fX2_fail
      refine ⟨fun c9 => ?_, fun c9 => ?_⟩
      · have f10 := tB (σ.1 3 11)
        have f12 := congrArg Int32.toInt c9
        intro σ13 eσ13
        have hσ13 : K1 σ0 σ13 := by rw [eσ13]; exact hσ.u (Rg1.u_3_11 _) (by omega) (by omega)
        try dsimp only
        exact hQ _ _ hσ13 (⟨(kq (a := 3) (b := 7) eσ13 (by omega)), (kq (a := 3) (b := 6) eσ13 (by omega)), (kq (a := 9) (b := 9) eσ13 (by omega)), (kq (a := 9) (b := 10) eσ13 (by omega)), (kq (a := 6) (b := 5) eσ13 (by omega)), (kq (a := 7) (b := 4) eσ13 (by omega)), (kq (a := 2) (b := 4) eσ13 (by omega)), (kq (a := 2) (b := 5) eσ13 (by omega)), (kq (a := 2) (b := 6) eσ13 (by omega)), (kq (a := 3) (b := 8) eσ13 (by omega))⟩) ⟨by omega, by omega⟩
      · have f15 := tB (σ.1 3 11)
        have f17 := mt Int32.toInt_inj.mp c9
        try dsimp only
        exact hQ _ _ hσ (⟨rfl, rfl, rfl, rfl, rfl, rfl, rfl, rfl, rfl, rfl⟩) ⟨by omega, by omega⟩
    · have f21 := mt Int32.toInt_inj.mp c5
      refine sX3_byteOf hN hσ (fun r36 p37 => ?_)
      have f38 := tB r36
      exact hQ _ _ hσ (⟨rfl, rfl, rfl, rfl, rfl, rfl, rfl, rfl, rfl, rfl⟩) ⟨by omega, by omega⟩
  · have f39 := tB x1
    have f40 : (0 : Int32).toInt = 0 := by decide
    have f41 := mt Int32.lt_iff_toInt_lt.mpr c1
    refine ⟨fun c42 => ?_, fun c42 => ?_⟩
    · have f43 : (4096 : Int32).toInt = 4096 := by decide
      have f45 := Int32.le_iff_toInt_le.mp c42
      try dsimp only
      refine ⟨fun c46 => ?_, fun c46 => ?_⟩
      · have f49 := congrArg Int32.toInt c46
        unfold fX2_fail
        refine ⟨fun c50 => ?_, fun c50 => ?_⟩
        · have f51 := tB (σ.1 3 11)
          have f53 := congrArg Int32.toInt c50
          intro σ54 eσ54
          have hσ54 : K1 σ0 σ54 := by rw [eσ54]; exact hσ.u (Rg1.u_3_11 _) (by omega) (by omega)
          try dsimp only
          exact hQ _ _ hσ54 (⟨(kq (a := 3) (b := 7) eσ54 (by omega)), (kq (a := 3) (b := 6) eσ54 (by omega)), (kq (a := 9) (b := 9) eσ54 (by omega)), (kq (a := 9) (b := 10) eσ54 (by omega)), (kq (a := 6) (b := 5) eσ54 (by omega)), (kq (a := 7) (b := 4) eσ54 (by omega)), (kq (a := 2) (b := 4) eσ54 (by omega)), (kq (a := 2) (b := 5) eσ54 (by omega)), (kq (a := 2) (b := 6) eσ54 (by omega)), (kq (a := 3) (b := 8) eσ54 (by omega))⟩) ⟨by omega, by omega⟩
        · have f56 := tB (σ.1 3 11)
          have f58 := mt Int32.toInt_inj.mp c50
          try dsimp only
          exact hQ _ _ hσ (⟨rfl, rfl, rfl, rfl, rfl, rfl, rfl, rfl, rfl, rfl⟩) ⟨by omega, by omega⟩
      · have f62 := mt Int32.toInt_inj.mp c46
        refine sX3_byteOf hN hσ (fun r77 p78 => ?_)
        have f79 := tB r77
        exact hQ _ _ hσ (⟨rfl, rfl, rfl, rfl, rfl, rfl, rfl, rfl, rfl, rfl⟩) ⟨by omega, by omega⟩
    · have f80 : (4096 : Int32).toInt = 4096 := by decide
      have f82 := mt Int32.le_iff_toInt_le.mpr c42
      try dsimp only
      refine ⟨fun c83 => ?_, fun c83 => ?_⟩
      · have f84 : (1 : Int32).toInt = 1 := by decide
        have f86 := congrArg Int32.toInt c83
        unfold fX2_fail
        refine ⟨fun c87 => ?_, fun c87 => ?_⟩
        · have f88 := tB (σ.1 3 11)
          have f90 := congrArg Int32.toInt c87
          intro σ91 eσ91
          have hσ91 : K1 σ0 σ91 := by rw [eσ91]; exact hσ.u (Rg1.u_3_11 _) (by omega) (by omega)
          try dsimp only
          exact hQ _ _ hσ91 (⟨(kq (a := 3) (b := 7) eσ91 (by omega)), (kq (a := 3) (b := 6) eσ91 (by omega)), (kq (a := 9) (b := 9) eσ91 (by omega)), (kq (a := 9) (b := 10) eσ91 (by omega)), (kq (a := 6) (b := 5) eσ91 (by omega)), (kq (a := 7) (b := 4) eσ91 (by omega)), (kq (a := 2) (b := 4) eσ91 (by omega)), (kq (a := 2) (b := 5) eσ91 (by omega)), (kq (a := 2) (b := 6) eσ91 (by omega)), (kq (a := 3) (b := 8) eσ91 (by omega))⟩) ⟨by omega, by omega⟩
        · have f93 := tB (σ.1 3 11)
          have f95 := mt Int32.toInt_inj.mp c87
          try dsimp only
          exact hQ _ _ hσ (⟨rfl, rfl, rfl, rfl, rfl, rfl, rfl, rfl, rfl, rfl⟩) ⟨by omega, by omega⟩
      · have f97 : (1 : Int32).toInt = 1 := by decide
        have f99 := mt Int32.toInt_inj.mp c83
        refine sX3_byteOf hN hσ (fun r114 p115 => ?_)
        have f116 := tB r114
        exact hQ _ _ hσ (⟨rfl, rfl, rfl, rfl, rfl, rfl, rfl, rfl, rfl, rfl⟩) ⟨by omega, by omega⟩
set_option maxHeartbeats 4000000 in
theorem sX1_reset {N : Nat} (hN : 4294967400 ≤ N) {k0 : Nat} {x1 : Int32} {x2 : Int32} (hk0 : jobK k0) {Q : St → Prop} {σ0 σ : St} (hσ : K1 σ0 σ) (hQ : ∀ τ : St, K1 σ0 τ → (τ.1 3 7 = σ.1 3 7 ∧ τ.1 3 11 = σ.1 3 11 ∧ τ.1 3 6 = σ.1 3 6 ∧ τ.1 9 9 = σ.1 9 9 ∧ τ.1 9 10 = σ.1 9 10 ∧ τ.1 6 5 = σ.1 6 5 ∧ τ.1 7 4 = σ.1 7 4 ∧ τ.1 2 4 = σ.1 2 4 ∧ τ.1 2 5 = σ.1 2 5 ∧ τ.1 2 6 = σ.1 2 6 ∧ τ.1 3 8 = σ.1 3 8) → Q τ) : fX1_reset N k0 x1 x2 Q σ := by
  unfold fX1_reset
  have kbhk0 := jobK_b hk0
  intro σ1 eσ1
  have kb2 := jobK_b hk0
  have hσ1 : K1 σ0 σ1 := by rw [eσ1]; exact hσ.u (rg_jobK hk0) (by omega) (by omega)
  intro σ3 eσ3
  have kb4 := jobK_b hk0
  have hσ3 : K1 σ0 σ3 := by rw [eσ3]; exact hσ1.u (rg_jobK hk0) (by omega) (by omega)
  intro σ5 eσ5
  have kb6 := jobK_b hk0
  have hσ5 : K1 σ0 σ5 := by rw [eσ5]; exact hσ3.u (rg_jobK hk0) (by omega) (by omega)
  intro σ7 eσ7
  have kb8 := jobK_b hk0
  have hσ7 : K1 σ0 σ7 := by rw [eσ7]; exact hσ5.u (rg_jobK hk0) (by omega) (by omega)
  intro σ9 eσ9
  have kb10 := jobK_b hk0
  have hσ9 : K1 σ0 σ9 := by rw [eσ9]; exact hσ7.u (rg_jobK hk0) (by omega) (by omega)
  intro σ11 eσ11
  have kb12 := jobK_b hk0
  have hσ11 : K1 σ0 σ11 := by rw [eσ11]; exact hσ9.u (rg_jobK hk0) (by omega) (by omega)
  intro σ13 eσ13
  have kb14 := jobK_b hk0
  have hσ13 : K1 σ0 σ13 := by rw [eσ13]; exact hσ11.u (rg_jobK hk0) (by omega) (by omega)
  exact hQ _ hσ13 (⟨(kq (a := 3) (b := 7) eσ13 (by omega)).trans ((kq (a := 3) (b := 7) eσ11 (by omega)).trans ((kq (a := 3) (b := 7) eσ9 (by omega)).trans ((kq (a := 3) (b := 7) eσ7 (by omega)).trans ((kq (a := 3) (b := 7) eσ5 (by omega)).trans ((kq (a := 3) (b := 7) eσ3 (by omega)).trans ((kq (a := 3) (b := 7) eσ1 (by omega)))))))), (kq (a := 3) (b := 11) eσ13 (by omega)).trans ((kq (a := 3) (b := 11) eσ11 (by omega)).trans ((kq (a := 3) (b := 11) eσ9 (by omega)).trans ((kq (a := 3) (b := 11) eσ7 (by omega)).trans ((kq (a := 3) (b := 11) eσ5 (by omega)).trans ((kq (a := 3) (b := 11) eσ3 (by omega)).trans ((kq (a := 3) (b := 11) eσ1 (by omega)))))))), (kq (a := 3) (b := 6) eσ13 (by omega)).trans ((kq (a := 3) (b := 6) eσ11 (by omega)).trans ((kq (a := 3) (b := 6) eσ9 (by omega)).trans ((kq (a := 3) (b := 6) eσ7 (by omega)).trans ((kq (a := 3) (b := 6) eσ5 (by omega)).trans ((kq (a := 3) (b := 6) eσ3 (by omega)).trans ((kq (a := 3) (b := 6) eσ1 (by omega)))))))), (kq (a := 9) (b := 9) eσ13 (by omega)).trans ((kq (a := 9) (b := 9) eσ11 (by omega)).trans ((kq (a := 9) (b := 9) eσ9 (by omega)).trans ((kq (a := 9) (b := 9) eσ7 (by omega)).trans ((kq (a := 9) (b := 9) eσ5 (by omega)).trans ((kq (a := 9) (b := 9) eσ3 (by omega)).trans ((kq (a := 9) (b := 9) eσ1 (by omega)))))))), (kq (a := 9) (b := 10) eσ13 (by omega)).trans ((kq (a := 9) (b := 10) eσ11 (by omega)).trans ((kq (a := 9) (b := 10) eσ9 (by omega)).trans ((kq (a := 9) (b := 10) eσ7 (by omega)).trans ((kq (a := 9) (b := 10) eσ5 (by omega)).trans ((kq (a := 9) (b := 10) eσ3 (by omega)).trans ((kq (a := 9) (b := 10) eσ1 (by omega)))))))), (kq (a := 6) (b := 5) eσ13 (by omega)).trans ((kq (a := 6) (b := 5) eσ11 (by omega)).trans ((kq (a := 6) (b := 5) eσ9 (by omega)).trans ((kq (a := 6) (b := 5) eσ7 (by omega)).trans ((kq (a := 6) (b := 5) eσ5 (by omega)).trans ((kq (a := 6) (b := 5) eσ3 (by omega)).trans ((kq (a := 6) (b := 5) eσ1 (by omega)))))))), (kq (a := 7) (b := 4) eσ13 (by omega)).trans ((kq (a := 7) (b := 4) eσ11 (by omega)).trans ((kq (a := 7) (b := 4) eσ9 (by omega)).trans ((kq (a := 7) (b := 4) eσ7 (by omega)).trans ((kq (a := 7) (b := 4) eσ5 (by omega)).trans ((kq (a := 7) (b := 4) eσ3 (by omega)).trans ((kq (a := 7) (b := 4) eσ1 (by omega)))))))), (kq (a := 2) (b := 4) eσ13 (by omega)).trans ((kq (a := 2) (b := 4) eσ11 (by omega)).trans ((kq (a := 2) (b := 4) eσ9 (by omega)).trans ((kq (a := 2) (b := 4) eσ7 (by omega)).trans ((kq (a := 2) (b := 4) eσ5 (by omega)).trans ((kq (a := 2) (b := 4) eσ3 (by omega)).trans ((kq (a := 2) (b := 4) eσ1 (by omega)))))))), (kq (a := 2) (b := 5) eσ13 (by omega)).trans ((kq (a := 2) (b := 5) eσ11 (by omega)).trans ((kq (a := 2) (b := 5) eσ9 (by omega)).trans ((kq (a := 2) (b := 5) eσ7 (by omega)).trans ((kq (a := 2) (b := 5) eσ5 (by omega)).trans ((kq (a := 2) (b := 5) eσ3 (by omega)).trans ((kq (a := 2) (b := 5) eσ1 (by omega)))))))), (kq (a := 2) (b := 6) eσ13 (by omega)).trans ((kq (a := 2) (b := 6) eσ11 (by omega)).trans ((kq (a := 2) (b := 6) eσ9 (by omega)).trans ((kq (a := 2) (b := 6) eσ7 (by omega)).trans ((kq (a := 2) (b := 6) eσ5 (by omega)).trans ((kq (a := 2) (b := 6) eσ3 (by omega)).trans ((kq (a := 2) (b := 6) eσ1 (by omega)))))))), (kq (a := 3) (b := 8) eσ13 (by omega)).trans ((kq (a := 3) (b := 8) eσ11 (by omega)).trans ((kq (a := 3) (b := 8) eσ9 (by omega)).trans ((kq (a := 3) (b := 8) eσ7 (by omega)).trans ((kq (a := 3) (b := 8) eσ5 (by omega)).trans ((kq (a := 3) (b := 8) eσ3 (by omega)).trans ((kq (a := 3) (b := 8) eσ1 (by omega))))))))⟩)
set_option maxHeartbeats 4000000 in
theorem sX2_begin {N : Nat} (hN : 4294967400 ≤ N) {x1 : Int32} {x2 : Int32} {Q : St → Prop} {σ0 σ : St} (hσ : K1 σ0 σ) (hQ : ∀ τ : St, K1 σ0 τ → (τ.1 3 6 = σ.1 3 6 ∧ τ.1 9 9 = σ.1 9 9 ∧ τ.1 9 10 = σ.1 9 10 ∧ τ.1 6 5 = σ.1 6 5 ∧ τ.1 7 4 = σ.1 7 4 ∧ τ.1 2 4 = σ.1 2 4 ∧ τ.1 2 5 = σ.1 2 5 ∧ τ.1 2 6 = σ.1 2 6 ∧ τ.1 3 8 = σ.1 3 8) → Q τ) : fX2_begin N x1 x2 Q σ := by
  unfold fX2_begin
  refine ⟨fun c1 => ?_, fun c1 => ?_⟩
  · have f2 := tB (σ.1 3 11)
    have f3 : (0 : Int32).toInt = 0 := by decide
    have f4 := congrArg Int32.toInt c1
    refine ⟨fun c5 => ?_, fun c5 => ?_⟩
    · have f6 := K1.g_3_7 hσ
      have f7 : (40 : Int32).toInt = 40 := by decide
      have f8 := Int32.lt_iff_toInt_lt.mp c5
      have g10 : vp_in (σ.1 3 7) 40 := inI (by omega) (by omega)
      refine ⟨g10, ?_⟩
      have hk11 : jobK (43 + (σ.1 3 7).toNatClampNeg) := (jobK_in g10)
      have hk11x := vp_lt g10
      have hk11b := jobK_b hk11
      unfold fX1_reset
      intro σ12 eσ12
      have kb13 := jobK_b hk11
      have hσ12 : K1 σ0 σ12 := by rw [eσ12]; exact hσ.u (rg_jobK hk11) (by omega) (by omega)
      intro σ14 eσ14
      have kb15 := jobK_b hk11
      have hσ14 : K1 σ0 σ14 := by rw [eσ14]; exact hσ12.u (rg_jobK hk11) (by omega) (by omega)
      intro σ16 eσ16
      have kb17 := jobK_b hk11
      have hσ16 : K1 σ0 σ16 := by rw [eσ16]; exact hσ14.u (rg_jobK hk11) (by omega) (by omega)
      intro σ18 eσ18
      have kb19 := jobK_b hk11
      have hσ18 : K1 σ0 σ18 := by rw [eσ18]; exact hσ16.u (rg_jobK hk11) (by omega) (by omega)
      intro σ20 eσ20
      have kb21 := jobK_b hk11
      have hσ20 : K1 σ0 σ20 := by rw [eσ20]; exact hσ18.u (rg_jobK hk11) (by omega) (by omega)
      intro σ22 eσ22
      have kb23 := jobK_b hk11
      have hσ22 : K1 σ0 σ22 := by rw [eσ22]; exact hσ20.u (rg_jobK hk11) (by omega) (by omega)
      intro σ24 eσ24
      have kb25 := jobK_b hk11
      have hσ24 : K1 σ0 σ24 := by rw [eσ24]; exact hσ22.u (rg_jobK hk11) (by omega) (by omega)
      try dsimp only
      intro v26 ev26
      intro σ27 eσ27
      have f28 := tB v26
      have f29 := K1.g_3_7 hσ24
      have q30 : σ24.1 3 7 = σ22.1 3 7 := by rw [eσ24]; exact congrFun (u1_ne (by omega)) 7
      have f31 := congrArg Int32.toInt q30
      have f32 := K1.g_3_7 hσ22
      have q33 : σ22.1 3 7 = σ20.1 3 7 := by rw [eσ22]; exact congrFun (u1_ne (by omega)) 7
      have f34 := congrArg Int32.toInt q33
      have f35 := K1.g_3_7 hσ20
      have q36 : σ20.1 3 7 = σ18.1 3 7 := by rw [eσ20]; exact congrFun (u1_ne (by omega)) 7
      have f37 := congrArg Int32.toInt q36
      have f38 := K1.g_3_7 hσ18
      have q39 : σ18.1 3 7 = σ16.1 3 7 := by rw [eσ18]; exact congrFun (u1_ne (by omega)) 7
      have f40 := congrArg Int32.toInt q39
      have f41 := K1.g_3_7 hσ16
      have q42 : σ16.1 3 7 = σ14.1 3 7 := by rw [eσ16]; exact congrFun (u1_ne (by omega)) 7
      have f43 := congrArg Int32.toInt q42
      have f44 := K1.g_3_7 hσ14
      have q45 : σ14.1 3 7 = σ12.1 3 7 := by rw [eσ14]; exact congrFun (u1_ne (by omega)) 7
      have f46 := congrArg Int32.toInt q45
      have f47 := K1.g_3_7 hσ12
      have q48 : σ12.1 3 7 = σ.1 3 7 := by rw [eσ12]; exact congrFun (u1_ne (by omega)) 7
      have f49 := congrArg Int32.toInt q48
      have f51 : (1 : Int32).toInt = 1 := by decide
      have f52 := tA (σ24.1 3 7) (1 : Int32)
      have f53 := tB ((σ24.1 3 7) + 1)
      have f54 := congrArg Int32.toInt ev26
      have hσ27 : K1 σ0 σ27 := by rw [eσ27]; exact hσ24.u (Rg1.r_3_7 (by omega) (by omega)) (by omega) (by omega)
      intro v55 ev55
      intro σ56 eσ56
      have hσ56 : K1 σ0 σ56 := by rw [eσ56]; exact hσ27.u (Rg1.u_5_7 _) (by omega) (by omega)
      exact hQ _ hσ56 (⟨(kq (a := 3) (b := 6) eσ56 (by omega)).trans ((kq (a := 3) (b := 6) eσ27 (by omega)).trans ((kq (a := 3) (b := 6) eσ24 (by omega)).trans ((kq (a := 3) (b := 6) eσ22 (by omega)).trans ((kq (a := 3) (b := 6) eσ20 (by omega)).trans ((kq (a := 3) (b := 6) eσ18 (by omega)).trans ((kq (a := 3) (b := 6) eσ16 (by omega)).trans ((kq (a := 3) (b := 6) eσ14 (by omega)).trans ((kq (a := 3) (b := 6) eσ12 (by omega)))))))))), (kq (a := 9) (b := 9) eσ56 (by omega)).trans ((kq (a := 9) (b := 9) eσ27 (by omega)).trans ((kq (a := 9) (b := 9) eσ24 (by omega)).trans ((kq (a := 9) (b := 9) eσ22 (by omega)).trans ((kq (a := 9) (b := 9) eσ20 (by omega)).trans ((kq (a := 9) (b := 9) eσ18 (by omega)).trans ((kq (a := 9) (b := 9) eσ16 (by omega)).trans ((kq (a := 9) (b := 9) eσ14 (by omega)).trans ((kq (a := 9) (b := 9) eσ12 (by omega)))))))))), (kq (a := 9) (b := 10) eσ56 (by omega)).trans ((kq (a := 9) (b := 10) eσ27 (by omega)).trans ((kq (a := 9) (b := 10) eσ24 (by omega)).trans ((kq (a := 9) (b := 10) eσ22 (by omega)).trans ((kq (a := 9) (b := 10) eσ20 (by omega)).trans ((kq (a := 9) (b := 10) eσ18 (by omega)).trans ((kq (a := 9) (b := 10) eσ16 (by omega)).trans ((kq (a := 9) (b := 10) eσ14 (by omega)).trans ((kq (a := 9) (b := 10) eσ12 (by omega)))))))))), (kq (a := 6) (b := 5) eσ56 (by omega)).trans ((kq (a := 6) (b := 5) eσ27 (by omega)).trans ((kq (a := 6) (b := 5) eσ24 (by omega)).trans ((kq (a := 6) (b := 5) eσ22 (by omega)).trans ((kq (a := 6) (b := 5) eσ20 (by omega)).trans ((kq (a := 6) (b := 5) eσ18 (by omega)).trans ((kq (a := 6) (b := 5) eσ16 (by omega)).trans ((kq (a := 6) (b := 5) eσ14 (by omega)).trans ((kq (a := 6) (b := 5) eσ12 (by omega)))))))))), (kq (a := 7) (b := 4) eσ56 (by omega)).trans ((kq (a := 7) (b := 4) eσ27 (by omega)).trans ((kq (a := 7) (b := 4) eσ24 (by omega)).trans ((kq (a := 7) (b := 4) eσ22 (by omega)).trans ((kq (a := 7) (b := 4) eσ20 (by omega)).trans ((kq (a := 7) (b := 4) eσ18 (by omega)).trans ((kq (a := 7) (b := 4) eσ16 (by omega)).trans ((kq (a := 7) (b := 4) eσ14 (by omega)).trans ((kq (a := 7) (b := 4) eσ12 (by omega)))))))))), (kq (a := 2) (b := 4) eσ56 (by omega)).trans ((kq (a := 2) (b := 4) eσ27 (by omega)).trans ((kq (a := 2) (b := 4) eσ24 (by omega)).trans ((kq (a := 2) (b := 4) eσ22 (by omega)).trans ((kq (a := 2) (b := 4) eσ20 (by omega)).trans ((kq (a := 2) (b := 4) eσ18 (by omega)).trans ((kq (a := 2) (b := 4) eσ16 (by omega)).trans ((kq (a := 2) (b := 4) eσ14 (by omega)).trans ((kq (a := 2) (b := 4) eσ12 (by omega)))))))))), (kq (a := 2) (b := 5) eσ56 (by omega)).trans ((kq (a := 2) (b := 5) eσ27 (by omega)).trans ((kq (a := 2) (b := 5) eσ24 (by omega)).trans ((kq (a := 2) (b := 5) eσ22 (by omega)).trans ((kq (a := 2) (b := 5) eσ20 (by omega)).trans ((kq (a := 2) (b := 5) eσ18 (by omega)).trans ((kq (a := 2) (b := 5) eσ16 (by omega)).trans ((kq (a := 2) (b := 5) eσ14 (by omega)).trans ((kq (a := 2) (b := 5) eσ12 (by omega)))))))))), (kq (a := 2) (b := 6) eσ56 (by omega)).trans ((kq (a := 2) (b := 6) eσ27 (by omega)).trans ((kq (a := 2) (b := 6) eσ24 (by omega)).trans ((kq (a := 2) (b := 6) eσ22 (by omega)).trans ((kq (a := 2) (b := 6) eσ20 (by omega)).trans ((kq (a := 2) (b := 6) eσ18 (by omega)).trans ((kq (a := 2) (b := 6) eσ16 (by omega)).trans ((kq (a := 2) (b := 6) eσ14 (by omega)).trans ((kq (a := 2) (b := 6) eσ12 (by omega)))))))))), (kq (a := 3) (b := 8) eσ56 (by omega)).trans ((kq (a := 3) (b := 8) eσ27 (by omega)).trans ((kq (a := 3) (b := 8) eσ24 (by omega)).trans ((kq (a := 3) (b := 8) eσ22 (by omega)).trans ((kq (a := 3) (b := 8) eσ20 (by omega)).trans ((kq (a := 3) (b := 8) eσ18 (by omega)).trans ((kq (a := 3) (b := 8) eσ16 (by omega)).trans ((kq (a := 3) (b := 8) eσ14 (by omega)).trans ((kq (a := 3) (b := 8) eσ12 (by omega))))))))))⟩)
    · have f57 := K1.g_3_7 hσ
      have f58 : (40 : Int32).toInt = 40 := by decide
      have f59 := mt Int32.lt_iff_toInt_lt.mpr c5
      unfold fX2_fail
      refine ⟨fun c60 => ?_, fun c60 => ?_⟩
      · have f63 := congrArg Int32.toInt c60
        intro σ64 eσ64
        have hσ64 : K1 σ0 σ64 := by rw [eσ64]; exact hσ.u (Rg1.u_3_11 _) (by omega) (by omega)
        try dsimp only
        exact hQ _ hσ64 (⟨(kq (a := 3) (b := 6) eσ64 (by omega)), (kq (a := 9) (b := 9) eσ64 (by omega)), (kq (a := 9) (b := 10) eσ64 (by omega)), (kq (a := 6) (b := 5) eσ64 (by omega)), (kq (a := 7) (b := 4) eσ64 (by omega)), (kq (a := 2) (b := 4) eσ64 (by omega)), (kq (a := 2) (b := 5) eσ64 (by omega)), (kq (a := 2) (b := 6) eσ64 (by omega)), (kq (a := 3) (b := 8) eσ64 (by omega))⟩)
      · have f67 := mt Int32.toInt_inj.mp c60
        try dsimp only
        exact hQ _ hσ (⟨rfl, rfl, rfl, rfl, rfl, rfl, rfl, rfl, rfl⟩)
  · have f68 := tB (σ.1 3 11)
    have f69 : (0 : Int32).toInt = 0 := by decide
    have f70 := mt Int32.toInt_inj.mp c1
    exact hQ _ hσ (⟨rfl, rfl, rfl, rfl, rfl, rfl, rfl, rfl, rfl⟩)
set_option maxHeartbeats 4000000 in
theorem sX2_beginString {N : Nat} (hN : 4294967400 ≤ N) {x1 : Int32} {Q : St → Prop} {σ0 σ : St} (hσ : K1 σ0 σ) (hQ : ∀ τ : St, K1 σ0 τ → (τ.1 3 6 = σ.1 3 6 ∧ τ.1 9 9 = σ.1 9 9 ∧ τ.1 9 10 = σ.1 9 10 ∧ τ.1 6 5 = σ.1 6 5 ∧ τ.1 7 4 = σ.1 7 4 ∧ τ.1 2 4 = σ.1 2 4 ∧ τ.1 2 5 = σ.1 2 5 ∧ τ.1 2 6 = σ.1 2 6 ∧ τ.1 3 8 = σ.1 3 8) → Q τ) : fX2_beginString N x1 Q σ := by
  unfold fX2_beginString
  have f1 := tB x1
  refine sX2_readByte hN hσ (fun r14 σ2 hσ2 kk13 p15 => ?_)
  obtain ⟨k3, k4, k5, k6, k7, k8, k9, k10, k11, k12⟩ := kk13
  refine ⟨fun c16 => ?_, fun c16 => ?_⟩
  · have f17 := tB (σ2.1 3 11)
    have f18 : (0 : Int32).toInt = 0 := by decide
    have f19 := congrArg Int32.toInt c16
    refine ⟨fun c20 => ?_, fun c20 => ?_⟩
    · have f21 := tB r14
      have f22 : (224 : Int32).toInt = 224 := by decide
      have f23 := congrArg Int32.toInt c20
      have f24 : (1 : Int32).toInt = 1 := by decide
      have f27 := tA x1 (1 : Int32)
      have f28 := tB (x1 + 1)
      refine sX2_begin hN hσ2 (fun σ29 hσ29 kk39 => ?_)
      obtain ⟨k30, k31, k32, k33, k34, k35, k36, k37, k38⟩ := kk39
      exact hQ _ hσ29 (⟨k30.trans (k4), k31.trans (k5), k32.trans (k6), k33.trans (k7), k34.trans (k8), k35.trans (k9), k36.trans (k10), k37.trans (k11), k38.trans (k12)⟩)
    · have f40 := tB r14
      have f41 : (224 : Int32).toInt = 224 := by decide
      have f42 := mt Int32.toInt_inj.mp c20
      refine ⟨fun c43 => ?_, fun c43 => ?_⟩
      · have f45 : (225 : Int32).toInt = 225 := by decide
        have f46 := congrArg Int32.toInt c43
        have f47 : (3 : Int32).toInt = 3 := by decide
        have f49 : (1 : Int32).toInt = 1 := by decide
        have f50 := tA x1 (1 : Int32)
        have f51 := tB (x1 + 1)
        refine sX2_begin hN hσ2 (fun σ52 hσ52 kk62 => ?_)
        obtain ⟨k53, k54, k55, k56, k57, k58, k59, k60, k61⟩ := kk62
        exact hQ _ hσ52 (⟨k53.trans (k4), k54.trans (k5), k55.trans (k6), k56.trans (k7), k57.trans (k8), k58.trans (k9), k59.trans (k10), k60.trans (k11), k61.trans (k12)⟩)
      · have f64 : (225 : Int32).toInt = 225 := by decide
        have f65 := mt Int32.toInt_inj.mp c43
        refine ⟨fun c66 => ?_, fun c66 => ?_⟩
        · have f68 : (226 : Int32).toInt = 226 := by decide
          have f69 := congrArg Int32.toInt c66
          have f70 : (2 : Int32).toInt = 2 := by decide
          have f72 : (4 : Int32).toInt = 4 := by decide
          have f73 := tA x1 (4 : Int32)
          have f74 := tB (x1 + 4)
          refine sX2_begin hN hσ2 (fun σ75 hσ75 kk85 => ?_)
          obtain ⟨k76, k77, k78, k79, k80, k81, k82, k83, k84⟩ := kk85
          exact hQ _ hσ75 (⟨k76.trans (k4), k77.trans (k5), k78.trans (k6), k79.trans (k7), k80.trans (k8), k81.trans (k9), k82.trans (k10), k83.trans (k11), k84.trans (k12)⟩)
        · have f87 : (226 : Int32).toInt = 226 := by decide
          have f88 := mt Int32.toInt_inj.mp c66
          unfold fX2_fail
          refine ⟨fun c89 => ?_, fun c89 => ?_⟩
          · have f92 := congrArg Int32.toInt c89
            intro σ93 eσ93
            have hσ93 : K1 σ0 σ93 := by rw [eσ93]; exact hσ2.u (Rg1.u_3_11 _) (by omega) (by omega)
            try dsimp only
            exact hQ _ hσ93 (⟨(kq (a := 3) (b := 6) eσ93 (by omega)).trans (k4), (kq (a := 9) (b := 9) eσ93 (by omega)).trans (k5), (kq (a := 9) (b := 10) eσ93 (by omega)).trans (k6), (kq (a := 6) (b := 5) eσ93 (by omega)).trans (k7), (kq (a := 7) (b := 4) eσ93 (by omega)).trans (k8), (kq (a := 2) (b := 4) eσ93 (by omega)).trans (k9), (kq (a := 2) (b := 5) eσ93 (by omega)).trans (k10), (kq (a := 2) (b := 6) eσ93 (by omega)).trans (k11), (kq (a := 3) (b := 8) eσ93 (by omega)).trans (k12)⟩)
          · have f96 := mt Int32.toInt_inj.mp c89
            try dsimp only
            exact hQ _ hσ2 (⟨k4, k5, k6, k7, k8, k9, k10, k11, k12⟩)
  · have f97 := tB (σ2.1 3 11)
    have f98 : (0 : Int32).toInt = 0 := by decide
    have f99 := mt Int32.toInt_inj.mp c16
    exact hQ _ hσ2 (⟨k4, k5, k6, k7, k8, k9, k10, k11, k12⟩)
set_option maxHeartbeats 4000000 in
theorem sX2_nextByte {N : Nat} (hN : 4294967400 ≤ N) {Q : Int32 → St → Prop} {σ0 σ : St} (hσ : K1 σ0 σ) (hQ : ∀ (r : Int32) (τ : St), K1 σ0 τ → (τ.1 3 7 = σ.1 3 7 ∧ τ.1 3 6 = σ.1 3 6 ∧ τ.1 9 9 = σ.1 9 9 ∧ τ.1 9 10 = σ.1 9 10 ∧ τ.1 6 5 = σ.1 6 5 ∧ τ.1 7 4 = σ.1 7 4 ∧ τ.1 2 4 = σ.1 2 4 ∧ τ.1 2 5 = σ.1 2 5 ∧ τ.1 2 6 = σ.1 2 6 ∧ τ.1 3 8 = σ.1 3 8) → (0) ≤ r.toInt ∧ r.toInt ≤ 255 → Q r τ) : fX2_nextByte N  Q σ := by
  unfold fX2_nextByte
  have f1 := tB (σ.1 3 12)
  refine sX2_readByte hN hσ (fun r14 σ2 hσ2 kk13 p15 => ?_)
  obtain ⟨k3, k4, k5, k6, k7, k8, k9, k10, k11, k12⟩ := kk13
  intro v16 ev16
  intro σ17 eσ17
  have hσ17 : K1 σ0 σ17 := by rw [eσ17]; exact hσ2.u (Rg1.u_3_12 _) (by omega) (by omega)
  have f18 := tB r14
  exact hQ _ _ hσ17 (⟨(kq (a := 3) (b := 7) eσ17 (by omega)).trans (k3), (kq (a := 3) (b := 6) eσ17 (by omega)).trans (k4), (kq (a := 9) (b := 9) eσ17 (by omega)).trans (k5), (kq (a := 9) (b := 10) eσ17 (by omega)).trans (k6), (kq (a := 6) (b := 5) eσ17 (by omega)).trans (k7), (kq (a := 7) (b := 4) eσ17 (by omega)).trans (k8), (kq (a := 2) (b := 4) eσ17 (by omega)).trans (k9), (kq (a := 2) (b := 5) eσ17 (by omega)).trans (k10), (kq (a := 2) (b := 6) eσ17 (by omega)).trans (k11), (kq (a := 3) (b := 8) eσ17 (by omega)).trans (k12)⟩) ⟨by omega, by omega⟩
set_option maxHeartbeats 4000000 in
theorem sX3_hasFour {N : Nat} (hN : 4294967400 ≤ N) {x1 : Int32} {Q : Int32 → St → Prop} {σ0 σ : St} (hσ : K1 σ0 σ) (hQ : ∀ r : Int32, True → Q r σ) : fX3_hasFour N x1 Q σ := by
  unfold fX3_hasFour
  refine ⟨fun c1 => ?_, fun c1 => ?_⟩
  · have f2 := tB x1
    have f3 : (0 : Int32).toInt = 0 := by decide
    have f4 := Int32.lt_iff_toInt_lt.mp c1
    exact hQ _ trivial
  · have f5 := tB x1
    have f6 : (0 : Int32).toInt = 0 := by decide
    have f7 := mt Int32.lt_iff_toInt_lt.mpr c1
    refine ⟨fun c8 => ?_, fun c8 => ?_⟩
    · have f9 : (4092 : Int32).toInt = 4092 := by decide
      have f11 := Int32.lt_iff_toInt_lt.mp c8
      exact hQ _ trivial
    · have f12 : (4092 : Int32).toInt = 4092 := by decide
      have f14 := mt Int32.lt_iff_toInt_lt.mpr c8
      exact hQ _ trivial
set_option maxHeartbeats 4000000 in
theorem sX2_readFour {N : Nat} (hN : 4294967400 ≤ N) {x1 : Int32} {Q : Int32 → St → Prop} {σ0 σ : St} (hσ : K1 σ0 σ) (hQ : ∀ (r : Int32) (τ : St), K1 σ0 τ → (τ.1 3 7 = σ.1 3 7 ∧ τ.1 3 6 = σ.1 3 6 ∧ τ.1 9 9 = σ.1 9 9 ∧ τ.1 9 10 = σ.1 9 10 ∧ τ.1 6 5 = σ.1 6 5 ∧ τ.1 7 4 = σ.1 7 4 ∧ τ.1 2 4 = σ.1 2 4 ∧ τ.1 2 5 = σ.1 2 5 ∧ τ.1 2 6 = σ.1 2 6 ∧ τ.1 3 8 = σ.1 3 8) → True → Q r τ) : fX2_readFour N x1 Q σ := by
  unfold fX2_readFour
  unfold fX3_hasFour
  refine ⟨fun c1 => ?_, fun c1 => ?_⟩
  · have f2 := tB x1
    have f3 : (0 : Int32).toInt = 0 := by decide
    have f4 := Int32.lt_iff_toInt_lt.mp c1
    try dsimp only
    refine ⟨fun c5 => ?_, fun c5 => ?_⟩
    · have f8 := congrArg Int32.toInt c5
      unfold fX2_fail
      refine ⟨fun c9 => ?_, fun c9 => ?_⟩
      · have f10 := tB (σ.1 3 11)
        have f12 := congrArg Int32.toInt c9
        intro σ13 eσ13
        have hσ13 : K1 σ0 σ13 := by rw [eσ13]; exact hσ.u (Rg1.u_3_11 _) (by omega) (by omega)
        try dsimp only
        exact hQ _ _ hσ13 (⟨(kq (a := 3) (b := 7) eσ13 (by omega)), (kq (a := 3) (b := 6) eσ13 (by omega)), (kq (a := 9) (b := 9) eσ13 (by omega)), (kq (a := 9) (b := 10) eσ13 (by omega)), (kq (a := 6) (b := 5) eσ13 (by omega)), (kq (a := 7) (b := 4) eσ13 (by omega)), (kq (a := 2) (b := 4) eσ13 (by omega)), (kq (a := 2) (b := 5) eσ13 (by omega)), (kq (a := 2) (b := 6) eσ13 (by omega)), (kq (a := 3) (b := 8) eσ13 (by omega))⟩) trivial
      · have f14 := tB (σ.1 3 11)
        have f16 := mt Int32.toInt_inj.mp c9
        try dsimp only
        exact hQ _ _ hσ (⟨rfl, rfl, rfl, rfl, rfl, rfl, rfl, rfl, rfl, rfl⟩) trivial
    · have f19 := mt Int32.toInt_inj.mp c5
      refine sX3_fourOf hN hσ (fun r34 p35 => ?_)
      exact hQ _ _ hσ (⟨rfl, rfl, rfl, rfl, rfl, rfl, rfl, rfl, rfl, rfl⟩) trivial
  · have f36 := tB x1
    have f37 : (0 : Int32).toInt = 0 := by decide
    have f38 := mt Int32.lt_iff_toInt_lt.mpr c1
    refine ⟨fun c39 => ?_, fun c39 => ?_⟩
    · have f40 : (4092 : Int32).toInt = 4092 := by decide
      have f42 := Int32.lt_iff_toInt_lt.mp c39
      try dsimp only
      refine ⟨fun c43 => ?_, fun c43 => ?_⟩
      · have f46 := congrArg Int32.toInt c43
        unfold fX2_fail
        refine ⟨fun c47 => ?_, fun c47 => ?_⟩
        · have f48 := tB (σ.1 3 11)
          have f50 := congrArg Int32.toInt c47
          intro σ51 eσ51
          have hσ51 : K1 σ0 σ51 := by rw [eσ51]; exact hσ.u (Rg1.u_3_11 _) (by omega) (by omega)
          try dsimp only
          exact hQ _ _ hσ51 (⟨(kq (a := 3) (b := 7) eσ51 (by omega)), (kq (a := 3) (b := 6) eσ51 (by omega)), (kq (a := 9) (b := 9) eσ51 (by omega)), (kq (a := 9) (b := 10) eσ51 (by omega)), (kq (a := 6) (b := 5) eσ51 (by omega)), (kq (a := 7) (b := 4) eσ51 (by omega)), (kq (a := 2) (b := 4) eσ51 (by omega)), (kq (a := 2) (b := 5) eσ51 (by omega)), (kq (a := 2) (b := 6) eσ51 (by omega)), (kq (a := 3) (b := 8) eσ51 (by omega))⟩) trivial
        · have f52 := tB (σ.1 3 11)
          have f54 := mt Int32.toInt_inj.mp c47
          try dsimp only
          exact hQ _ _ hσ (⟨rfl, rfl, rfl, rfl, rfl, rfl, rfl, rfl, rfl, rfl⟩) trivial
      · have f57 := mt Int32.toInt_inj.mp c43
        refine sX3_fourOf hN hσ (fun r72 p73 => ?_)
        exact hQ _ _ hσ (⟨rfl, rfl, rfl, rfl, rfl, rfl, rfl, rfl, rfl, rfl⟩) trivial
    · have f74 : (4092 : Int32).toInt = 4092 := by decide
      have f76 := mt Int32.lt_iff_toInt_lt.mpr c39
      try dsimp only
      refine ⟨fun c77 => ?_, fun c77 => ?_⟩
      · have f78 : (1 : Int32).toInt = 1 := by decide
        have f80 := congrArg Int32.toInt c77
        unfold fX2_fail
        refine ⟨fun c81 => ?_, fun c81 => ?_⟩
        · have f82 := tB (σ.1 3 11)
          have f84 := congrArg Int32.toInt c81
          intro σ85 eσ85
          have hσ85 : K1 σ0 σ85 := by rw [eσ85]; exact hσ.u (Rg1.u_3_11 _) (by omega) (by omega)
          try dsimp only
          exact hQ _ _ hσ85 (⟨(kq (a := 3) (b := 7) eσ85 (by omega)), (kq (a := 3) (b := 6) eσ85 (by omega)), (kq (a := 9) (b := 9) eσ85 (by omega)), (kq (a := 9) (b := 10) eσ85 (by omega)), (kq (a := 6) (b := 5) eσ85 (by omega)), (kq (a := 7) (b := 4) eσ85 (by omega)), (kq (a := 2) (b := 4) eσ85 (by omega)), (kq (a := 2) (b := 5) eσ85 (by omega)), (kq (a := 2) (b := 6) eσ85 (by omega)), (kq (a := 3) (b := 8) eσ85 (by omega))⟩) trivial
        · have f86 := tB (σ.1 3 11)
          have f88 := mt Int32.toInt_inj.mp c81
          try dsimp only
          exact hQ _ _ hσ (⟨rfl, rfl, rfl, rfl, rfl, rfl, rfl, rfl, rfl, rfl⟩) trivial
      · have f89 : (1 : Int32).toInt = 1 := by decide
        have f91 := mt Int32.toInt_inj.mp c77
        refine sX3_fourOf hN hσ (fun r106 p107 => ?_)
        exact hQ _ _ hσ (⟨rfl, rfl, rfl, rfl, rfl, rfl, rfl, rfl, rfl, rfl⟩) trivial
set_option maxHeartbeats 4000000 in
theorem sX2_nextFour {N : Nat} (hN : 4294967400 ≤ N) {Q : Int32 → St → Prop} {σ0 σ : St} (hσ : K1 σ0 σ) (hQ : ∀ (r : Int32) (τ : St), K1 σ0 τ → (τ.1 3 7 = σ.1 3 7 ∧ τ.1 3 6 = σ.1 3 6 ∧ τ.1 9 9 = σ.1 9 9 ∧ τ.1 9 10 = σ.1 9 10 ∧ τ.1 6 5 = σ.1 6 5 ∧ τ.1 7 4 = σ.1 7 4 ∧ τ.1 2 4 = σ.1 2 4 ∧ τ.1 2 5 = σ.1 2 5 ∧ τ.1 2 6 = σ.1 2 6 ∧ τ.1 3 8 = σ.1 3 8) → True → Q r τ) : fX2_nextFour N  Q σ := by
  unfold fX2_nextFour
  have f1 := tB (σ.1 3 12)
  refine sX2_readFour hN hσ (fun r14 σ2 hσ2 kk13 p15 => ?_)
  obtain ⟨k3, k4, k5, k6, k7, k8, k9, k10, k11, k12⟩ := kk13
  intro v16 ev16
  intro σ17 eσ17
  have hσ17 : K1 σ0 σ17 := by rw [eσ17]; exact hσ2.u (Rg1.u_3_12 _) (by omega) (by omega)
  exact hQ _ _ hσ17 (⟨(kq (a := 3) (b := 7) eσ17 (by omega)).trans (k3), (kq (a := 3) (b := 6) eσ17 (by omega)).trans (k4), (kq (a := 9) (b := 9) eσ17 (by omega)).trans (k5), (kq (a := 9) (b := 10) eσ17 (by omega)).trans (k6), (kq (a := 6) (b := 5) eσ17 (by omega)).trans (k7), (kq (a := 7) (b := 4) eσ17 (by omega)).trans (k8), (kq (a := 2) (b := 4) eσ17 (by omega)).trans (k9), (kq (a := 2) (b := 5) eσ17 (by omega)).trans (k10), (kq (a := 2) (b := 6) eσ17 (by omega)).trans (k11), (kq (a := 3) (b := 8) eσ17 (by omega)).trans (k12)⟩) trivial
set_option maxHeartbeats 4000000 in
theorem sX1_hasLocal {N : Nat} (hN : 4294967400 ≤ N) {k0 : Nat} {x1 : Int32} (hk0 : jobK k0) {Q : Int32 → St → Prop} {σ0 σ : St} (hσ : K1 σ0 σ) (hQ : ∀ r : Int32, True → Q r σ) : fX1_hasLocal N k0 x1 Q σ := by
  unfold fX1_hasLocal
  have kbhk0 := jobK_b hk0
  refine ⟨fun c1 => ?_, fun c1 => ?_⟩
  · have f2 := tB x1
    have f3 : (0 : Int32).toInt = 0 := by decide
    have f4 := Int32.lt_iff_toInt_lt.mp c1
    exact hQ _ trivial
  · have f5 := tB x1
    have f6 : (0 : Int32).toInt = 0 := by decide
    have f7 := mt Int32.lt_iff_toInt_lt.mpr c1
    refine ⟨fun c8 => ?_, fun c8 => ?_⟩
    · have f9 := tB (σ.1 k0 4)
      have f11 := Int32.le_iff_toInt_le.mp c8
      exact hQ _ trivial
    · have f12 := tB (σ.1 k0 4)
      have f14 := mt Int32.le_iff_toInt_le.mpr c8
      refine ⟨fun c15 => ?_, fun c15 => ?_⟩
      · have f16 : (8 : Int32).toInt = 8 := by decide
        have f18 := Int32.le_iff_toInt_le.mp c15
        exact hQ _ trivial
      · have f19 : (8 : Int32).toInt = 8 := by decide
        have f21 := mt Int32.le_iff_toInt_le.mpr c15
        exact hQ _ trivial
set_option maxHeartbeats 4000000 in
theorem sX2_localOf {N : Nat} (hN : 4294967400 ≤ N) {k1 : Nat} {x2 : Int32} (hk1 : jobK k1) {Q : Int32 → St → Prop} {σ0 σ : St} (hσ : K1 σ0 σ) (hQ : ∀ (r : Int32) (τ : St), K1 σ0 τ → (τ.1 3 7 = σ.1 3 7 ∧ τ.1 3 6 = σ.1 3 6 ∧ τ.1 9 9 = σ.1 9 9 ∧ τ.1 9 10 = σ.1 9 10 ∧ τ.1 6 5 = σ.1 6 5 ∧ τ.1 7 4 = σ.1 7 4 ∧ τ.1 2 4 = σ.1 2 4 ∧ τ.1 2 5 = σ.1 2 5 ∧ τ.1 2 6 = σ.1 2 6 ∧ τ.1 3 8 = σ.1 3 8) → True → Q r τ) : fX2_localOf N k1 x2 Q σ := by
  unfold fX2_localOf
  have kbhk1 := jobK_b hk1
  unfold fX1_hasLocal
  refine ⟨fun c1 => ?_, fun c1 => ?_⟩
  · have f2 := tB x2
    have f3 : (0 : Int32).toInt = 0 := by decide
    have f4 := Int32.lt_iff_toInt_lt.mp c1
    try dsimp only
    refine ⟨fun c5 => ?_, fun c5 => ?_⟩
    · have f8 := congrArg Int32.toInt c5
      unfold fX2_fail
      refine ⟨fun c9 => ?_, fun c9 => ?_⟩
      · have f10 := tB (σ.1 3 11)
        have f12 := congrArg Int32.toInt c9
        intro σ13 eσ13
        have hσ13 : K1 σ0 σ13 := by rw [eσ13]; exact hσ.u (Rg1.u_3_11 _) (by omega) (by omega)
        try dsimp only
        exact hQ _ _ hσ13 (⟨(kq (a := 3) (b := 7) eσ13 (by omega)), (kq (a := 3) (b := 6) eσ13 (by omega)), (kq (a := 9) (b := 9) eσ13 (by omega)), (kq (a := 9) (b := 10) eσ13 (by omega)), (kq (a := 6) (b := 5) eσ13 (by omega)), (kq (a := 7) (b := 4) eσ13 (by omega)), (kq (a := 2) (b := 4) eσ13 (by omega)), (kq (a := 2) (b := 5) eσ13 (by omega)), (kq (a := 2) (b := 6) eσ13 (by omega)), (kq (a := 3) (b := 8) eσ13 (by omega))⟩) trivial
      · have f14 := tB (σ.1 3 11)
        have f16 := mt Int32.toInt_inj.mp c9
        try dsimp only
        exact hQ _ _ hσ (⟨rfl, rfl, rfl, rfl, rfl, rfl, rfl, rfl, rfl, rfl⟩) trivial
    · have f19 := mt Int32.toInt_inj.mp c5
      have g21 : vp_in x2 8 := inI (by omega) (by omega)
      refine ⟨g21, ?_⟩
      exact hQ _ _ hσ (⟨rfl, rfl, rfl, rfl, rfl, rfl, rfl, rfl, rfl, rfl⟩) trivial
  · have f22 := tB x2
    have f23 : (0 : Int32).toInt = 0 := by decide
    have f24 := mt Int32.lt_iff_toInt_lt.mpr c1
    refine ⟨fun c25 => ?_, fun c25 => ?_⟩
    · have f26 := tB (σ.1 k1 4)
      have f28 := Int32.le_iff_toInt_le.mp c25
      try dsimp only
      refine ⟨fun c29 => ?_, fun c29 => ?_⟩
      · have f32 := congrArg Int32.toInt c29
        unfold fX2_fail
        refine ⟨fun c33 => ?_, fun c33 => ?_⟩
        · have f34 := tB (σ.1 3 11)
          have f36 := congrArg Int32.toInt c33
          intro σ37 eσ37
          have hσ37 : K1 σ0 σ37 := by rw [eσ37]; exact hσ.u (Rg1.u_3_11 _) (by omega) (by omega)
          try dsimp only
          exact hQ _ _ hσ37 (⟨(kq (a := 3) (b := 7) eσ37 (by omega)), (kq (a := 3) (b := 6) eσ37 (by omega)), (kq (a := 9) (b := 9) eσ37 (by omega)), (kq (a := 9) (b := 10) eσ37 (by omega)), (kq (a := 6) (b := 5) eσ37 (by omega)), (kq (a := 7) (b := 4) eσ37 (by omega)), (kq (a := 2) (b := 4) eσ37 (by omega)), (kq (a := 2) (b := 5) eσ37 (by omega)), (kq (a := 2) (b := 6) eσ37 (by omega)), (kq (a := 3) (b := 8) eσ37 (by omega))⟩) trivial
        · have f38 := tB (σ.1 3 11)
          have f40 := mt Int32.toInt_inj.mp c33
          try dsimp only
          exact hQ _ _ hσ (⟨rfl, rfl, rfl, rfl, rfl, rfl, rfl, rfl, rfl, rfl⟩) trivial
      · have f43 := mt Int32.toInt_inj.mp c29
        have g45 : vp_in x2 8 := inI (by omega) (by omega)
        refine ⟨g45, ?_⟩
        exact hQ _ _ hσ (⟨rfl, rfl, rfl, rfl, rfl, rfl, rfl, rfl, rfl, rfl⟩) trivial
    · have f46 := tB (σ.1 k1 4)
      have f48 := mt Int32.le_iff_toInt_le.mpr c25
      refine ⟨fun c49 => ?_, fun c49 => ?_⟩
      · have f50 : (8 : Int32).toInt = 8 := by decide
        have f52 := Int32.le_iff_toInt_le.mp c49
        try dsimp only
        refine ⟨fun c53 => ?_, fun c53 => ?_⟩
        · have f56 := congrArg Int32.toInt c53
          unfold fX2_fail
          refine ⟨fun c57 => ?_, fun c57 => ?_⟩
          · have f58 := tB (σ.1 3 11)
            have f60 := congrArg Int32.toInt c57
            intro σ61 eσ61
            have hσ61 : K1 σ0 σ61 := by rw [eσ61]; exact hσ.u (Rg1.u_3_11 _) (by omega) (by omega)
            try dsimp only
            exact hQ _ _ hσ61 (⟨(kq (a := 3) (b := 7) eσ61 (by omega)), (kq (a := 3) (b := 6) eσ61 (by omega)), (kq (a := 9) (b := 9) eσ61 (by omega)), (kq (a := 9) (b := 10) eσ61 (by omega)), (kq (a := 6) (b := 5) eσ61 (by omega)), (kq (a := 7) (b := 4) eσ61 (by omega)), (kq (a := 2) (b := 4) eσ61 (by omega)), (kq (a := 2) (b := 5) eσ61 (by omega)), (kq (a := 2) (b := 6) eσ61 (by omega)), (kq (a := 3) (b := 8) eσ61 (by omega))⟩) trivial
          · have f62 := tB (σ.1 3 11)
            have f64 := mt Int32.toInt_inj.mp c57
            try dsimp only
            exact hQ _ _ hσ (⟨rfl, rfl, rfl, rfl, rfl, rfl, rfl, rfl, rfl, rfl⟩) trivial
        · have f67 := mt Int32.toInt_inj.mp c53
          have g69 : vp_in x2 8 := inI (by omega) (by omega)
          refine ⟨g69, ?_⟩
          exact hQ _ _ hσ (⟨rfl, rfl, rfl, rfl, rfl, rfl, rfl, rfl, rfl, rfl⟩) trivial
      · have f70 : (8 : Int32).toInt = 8 := by decide
        have f72 := mt Int32.le_iff_toInt_le.mpr c49
        try dsimp only
        refine ⟨fun c73 => ?_, fun c73 => ?_⟩
        · have f74 : (1 : Int32).toInt = 1 := by decide
          have f76 := congrArg Int32.toInt c73
          unfold fX2_fail
          refine ⟨fun c77 => ?_, fun c77 => ?_⟩
          · have f78 := tB (σ.1 3 11)
            have f80 := congrArg Int32.toInt c77
            intro σ81 eσ81
            have hσ81 : K1 σ0 σ81 := by rw [eσ81]; exact hσ.u (Rg1.u_3_11 _) (by omega) (by omega)
            try dsimp only
            exact hQ _ _ hσ81 (⟨(kq (a := 3) (b := 7) eσ81 (by omega)), (kq (a := 3) (b := 6) eσ81 (by omega)), (kq (a := 9) (b := 9) eσ81 (by omega)), (kq (a := 9) (b := 10) eσ81 (by omega)), (kq (a := 6) (b := 5) eσ81 (by omega)), (kq (a := 7) (b := 4) eσ81 (by omega)), (kq (a := 2) (b := 4) eσ81 (by omega)), (kq (a := 2) (b := 5) eσ81 (by omega)), (kq (a := 2) (b := 6) eσ81 (by omega)), (kq (a := 3) (b := 8) eσ81 (by omega))⟩) trivial
          · have f82 := tB (σ.1 3 11)
            have f84 := mt Int32.toInt_inj.mp c77
            try dsimp only
            exact hQ _ _ hσ (⟨rfl, rfl, rfl, rfl, rfl, rfl, rfl, rfl, rfl, rfl⟩) trivial
        · have f85 : (1 : Int32).toInt = 1 := by decide
          have f87 := mt Int32.toInt_inj.mp c73
          have g89 : vp_in x2 8 := inI (by omega) (by omega)
          refine ⟨g89, ?_⟩
          exact hQ _ _ hσ (⟨rfl, rfl, rfl, rfl, rfl, rfl, rfl, rfl, rfl, rfl⟩) trivial
set_option maxHeartbeats 4000000 in
theorem sX2_nextValue {N : Nat} (hN : 4294967400 ≤ N) {k1 : Nat} (hk1 : jobK k1) {Q : Int32 → St → Prop} {σ0 σ : St} (hσ : K1 σ0 σ) (hQ : ∀ (r : Int32) (τ : St), K1 σ0 τ → (τ.1 3 7 = σ.1 3 7 ∧ τ.1 3 6 = σ.1 3 6 ∧ τ.1 9 9 = σ.1 9 9 ∧ τ.1 9 10 = σ.1 9 10 ∧ τ.1 6 5 = σ.1 6 5 ∧ τ.1 7 4 = σ.1 7 4 ∧ τ.1 2 4 = σ.1 2 4 ∧ τ.1 2 5 = σ.1 2 5 ∧ τ.1 2 6 = σ.1 2 6 ∧ τ.1 3 8 = σ.1 3 8) → True → Q r τ) : fX2_nextValue N k1 Q σ := by
  unfold fX2_nextValue
  have kbhk1 := jobK_b hk1
  refine sX2_nextByte hN hσ (fun r13 σ1 hσ1 kk12 p14 => ?_)
  obtain ⟨k2, k3, k4, k5, k6, k7, k8, k9, k10, k11⟩ := kk12
  refine ⟨fun c15 => ?_, fun c15 => ?_⟩
  · have f16 := tB r13
    have f17 : (0 : Int32).toInt = 0 := by decide
    have f18 := congrArg Int32.toInt c15
    exact hQ _ _ hσ1 (⟨k2, k3, k4, k5, k6, k7, k8, k9, k10, k11⟩) trivial
  · have f19 := tB r13
    have f20 : (0 : Int32).toInt = 0 := by decide
    have f21 := mt Int32.toInt_inj.mp c15
    refine ⟨fun c22 => ?_, fun c22 => ?_⟩
    · have f24 : (1 : Int32).toInt = 1 := by decide
      have f25 := congrArg Int32.toInt c22
      refine sX2_nextByte hN hσ1 (fun r38 σ26 hσ26 kk37 p39 => ?_)
      obtain ⟨k27, k28, k29, k30, k31, k32, k33, k34, k35, k36⟩ := kk37
      exact hQ _ _ hσ26 (⟨k27.trans (k2), k28.trans (k3), k29.trans (k4), k30.trans (k5), k31.trans (k6), k32.trans (k7), k33.trans (k8), k34.trans (k9), k35.trans (k10), k36.trans (k11)⟩) trivial
    · have f41 : (1 : Int32).toInt = 1 := by decide
      have f42 := mt Int32.toInt_inj.mp c22
      refine ⟨fun c43 => ?_, fun c43 => ?_⟩
      · have f45 : (2 : Int32).toInt = 2 := by decide
        have f46 := congrArg Int32.toInt c43
        refine sX2_nextFour hN hσ1 (fun r59 σ47 hσ47 kk58 p60 => ?_)
        obtain ⟨k48, k49, k50, k51, k52, k53, k54, k55, k56, k57⟩ := kk58
        exact hQ _ _ hσ47 (⟨k48.trans (k2), k49.trans (k3), k50.trans (k4), k51.trans (k5), k52.trans (k6), k53.trans (k7), k54.trans (k8), k55.trans (k9), k56.trans (k10), k57.trans (k11)⟩) trivial
      · have f62 : (2 : Int32).toInt = 2 := by decide
        have f63 := mt Int32.toInt_inj.mp c43
        refine ⟨fun c64 => ?_, fun c64 => ?_⟩
        · have f66 : (3 : Int32).toInt = 3 := by decide
          have f67 := congrArg Int32.toInt c64
          refine sX2_nextByte hN hσ1 (fun r80 σ68 hσ68 kk79 p81 => ?_)
          obtain ⟨k69, k70, k71, k72, k73, k74, k75, k76, k77, k78⟩ := kk79
          have f82 := tB r80
          refine sX2_localOf hN hk1 hσ68 (fun r95 σ83 hσ83 kk94 p96 => ?_)
          obtain ⟨k84, k85, k86, k87, k88, k89, k90, k91, k92, k93⟩ := kk94
          exact hQ _ _ hσ83 (⟨k84.trans (k69.trans (k2)), k85.trans (k70.trans (k3)), k86.trans (k71.trans (k4)), k87.trans (k72.trans (k5)), k88.trans (k73.trans (k6)), k89.trans (k74.trans (k7)), k90.trans (k75.trans (k8)), k91.trans (k76.trans (k9)), k92.trans (k77.trans (k10)), k93.trans (k78.trans (k11))⟩) trivial
        · have f98 : (3 : Int32).toInt = 3 := by decide
          have f99 := mt Int32.toInt_inj.mp c64
          unfold fX2_fail
          refine ⟨fun c100 => ?_, fun c100 => ?_⟩
          · have f101 := tB (σ1.1 3 11)
            have f103 := congrArg Int32.toInt c100
            intro σ104 eσ104
            have hσ104 : K1 σ0 σ104 := by rw [eσ104]; exact hσ1.u (Rg1.u_3_11 _) (by omega) (by omega)
            try dsimp only
            exact hQ _ _ hσ104 (⟨(kq (a := 3) (b := 7) eσ104 (by omega)).trans (k2), (kq (a := 3) (b := 6) eσ104 (by omega)).trans (k3), (kq (a := 9) (b := 9) eσ104 (by omega)).trans (k4), (kq (a := 9) (b := 10) eσ104 (by omega)).trans (k5), (kq (a := 6) (b := 5) eσ104 (by omega)).trans (k6), (kq (a := 7) (b := 4) eσ104 (by omega)).trans (k7), (kq (a := 2) (b := 4) eσ104 (by omega)).trans (k8), (kq (a := 2) (b := 5) eσ104 (by omega)).trans (k9), (kq (a := 2) (b := 6) eσ104 (by omega)).trans (k10), (kq (a := 3) (b := 8) eσ104 (by omega)).trans (k11)⟩) trivial
          · have f105 := tB (σ1.1 3 11)
            have f107 := mt Int32.toInt_inj.mp c100
            try dsimp only
            exact hQ _ _ hσ1 (⟨k2, k3, k4, k5, k6, k7, k8, k9, k10, k11⟩) trivial
set_option maxHeartbeats 4000000 in
theorem sX2_nextTarget {N : Nat} (hN : 4294967400 ≤ N) {k1 : Nat} (hk1 : jobK k1) {Q : Int32 → St → Prop} {σ0 σ : St} (hσ : K1 σ0 σ) (hQ : ∀ (r : Int32) (τ : St), K1 σ0 τ → (τ.1 3 7 = σ.1 3 7 ∧ τ.1 3 6 = σ.1 3 6 ∧ τ.1 9 9 = σ.1 9 9 ∧ τ.1 9 10 = σ.1 9 10 ∧ τ.1 6 5 = σ.1 6 5 ∧ τ.1 7 4 = σ.1 7 4 ∧ τ.1 2 4 = σ.1 2 4 ∧ τ.1 2 5 = σ.1 2 5 ∧ τ.1 2 6 = σ.1 2 6 ∧ τ.1 3 8 = σ.1 3 8) → True → Q r τ) : fX2_nextTarget N k1 Q σ := by
  unfold fX2_nextTarget
  have kbhk1 := jobK_b hk1
  refine sX2_nextByte hN hσ (fun r13 σ1 hσ1 kk12 p14 => ?_)
  obtain ⟨k2, k3, k4, k5, k6, k7, k8, k9, k10, k11⟩ := kk12
  refine ⟨fun c15 => ?_, fun c15 => ?_⟩
  · have f16 := tB r13
    have f17 : (255 : Int32).toInt = 255 := by decide
    have f18 := congrArg Int32.toInt c15
    exact hQ _ _ hσ1 (⟨k2, k3, k4, k5, k6, k7, k8, k9, k10, k11⟩) trivial
  · have f19 := tB r13
    have f20 : (255 : Int32).toInt = 255 := by decide
    have f21 := mt Int32.toInt_inj.mp c15
    unfold fX1_hasLocal
    refine ⟨fun c22 => ?_, fun c22 => ?_⟩
    · have f24 : (0 : Int32).toInt = 0 := by decide
      have f25 := Int32.lt_iff_toInt_lt.mp c22
      try dsimp only
      refine ⟨fun c26 => ?_, fun c26 => ?_⟩
      · have f29 := congrArg Int32.toInt c26
        unfold fX2_fail
        refine ⟨fun c30 => ?_, fun c30 => ?_⟩
        · have f31 := tB (σ1.1 3 11)
          have f33 := congrArg Int32.toInt c30
          intro σ34 eσ34
          have hσ34 : K1 σ0 σ34 := by rw [eσ34]; exact hσ1.u (Rg1.u_3_11 _) (by omega) (by omega)
          try dsimp only
          exact hQ _ _ hσ34 (⟨(kq (a := 3) (b := 7) eσ34 (by omega)).trans (k2), (kq (a := 3) (b := 6) eσ34 (by omega)).trans (k3), (kq (a := 9) (b := 9) eσ34 (by omega)).trans (k4), (kq (a := 9) (b := 10) eσ34 (by omega)).trans (k5), (kq (a := 6) (b := 5) eσ34 (by omega)).trans (k6), (kq (a := 7) (b := 4) eσ34 (by omega)).trans (k7), (kq (a := 2) (b := 4) eσ34 (by omega)).trans (k8), (kq (a := 2) (b := 5) eσ34 (by omega)).trans (k9), (kq (a := 2) (b := 6) eσ34 (by omega)).trans (k10), (kq (a := 3) (b := 8) eσ34 (by omega)).trans (k11)⟩) trivial
        · have f35 := tB (σ1.1 3 11)
          have f37 := mt Int32.toInt_inj.mp c30
          try dsimp only
          exact hQ _ _ hσ1 (⟨k2, k3, k4, k5, k6, k7, k8, k9, k10, k11⟩) trivial
      · have f40 := mt Int32.toInt_inj.mp c26
        exact hQ _ _ hσ1 (⟨k2, k3, k4, k5, k6, k7, k8, k9, k10, k11⟩) trivial
    · have f42 : (0 : Int32).toInt = 0 := by decide
      have f43 := mt Int32.lt_iff_toInt_lt.mpr c22
      refine ⟨fun c44 => ?_, fun c44 => ?_⟩
      · have f45 := tB (σ1.1 k1 4)
        have f47 := Int32.le_iff_toInt_le.mp c44
        try dsimp only
        refine ⟨fun c48 => ?_, fun c48 => ?_⟩
        · have f51 := congrArg Int32.toInt c48
          unfold fX2_fail
          refine ⟨fun c52 => ?_, fun c52 => ?_⟩
          · have f53 := tB (σ1.1 3 11)
            have f55 := congrArg Int32.toInt c52
            intro σ56 eσ56
            have hσ56 : K1 σ0 σ56 := by rw [eσ56]; exact hσ1.u (Rg1.u_3_11 _) (by omega) (by omega)
            try dsimp only
            exact hQ _ _ hσ56 (⟨(kq (a := 3) (b := 7) eσ56 (by omega)).trans (k2), (kq (a := 3) (b := 6) eσ56 (by omega)).trans (k3), (kq (a := 9) (b := 9) eσ56 (by omega)).trans (k4), (kq (a := 9) (b := 10) eσ56 (by omega)).trans (k5), (kq (a := 6) (b := 5) eσ56 (by omega)).trans (k6), (kq (a := 7) (b := 4) eσ56 (by omega)).trans (k7), (kq (a := 2) (b := 4) eσ56 (by omega)).trans (k8), (kq (a := 2) (b := 5) eσ56 (by omega)).trans (k9), (kq (a := 2) (b := 6) eσ56 (by omega)).trans (k10), (kq (a := 3) (b := 8) eσ56 (by omega)).trans (k11)⟩) trivial
          · have f57 := tB (σ1.1 3 11)
            have f59 := mt Int32.toInt_inj.mp c52
            try dsimp only
            exact hQ _ _ hσ1 (⟨k2, k3, k4, k5, k6, k7, k8, k9, k10, k11⟩) trivial
        · have f62 := mt Int32.toInt_inj.mp c48
          exact hQ _ _ hσ1 (⟨k2, k3, k4, k5, k6, k7, k8, k9, k10, k11⟩) trivial
      · have f63 := tB (σ1.1 k1 4)
        have f65 := mt Int32.le_iff_toInt_le.mpr c44
        refine ⟨fun c66 => ?_, fun c66 => ?_⟩
        · have f67 : (8 : Int32).toInt = 8 := by decide
          have f69 := Int32.le_iff_toInt_le.mp c66
          try dsimp only
          refine ⟨fun c70 => ?_, fun c70 => ?_⟩
          · have f73 := congrArg Int32.toInt c70
            unfold fX2_fail
            refine ⟨fun c74 => ?_, fun c74 => ?_⟩
            · have f75 := tB (σ1.1 3 11)
              have f77 := congrArg Int32.toInt c74
              intro σ78 eσ78
              have hσ78 : K1 σ0 σ78 := by rw [eσ78]; exact hσ1.u (Rg1.u_3_11 _) (by omega) (by omega)
              try dsimp only
              exact hQ _ _ hσ78 (⟨(kq (a := 3) (b := 7) eσ78 (by omega)).trans (k2), (kq (a := 3) (b := 6) eσ78 (by omega)).trans (k3), (kq (a := 9) (b := 9) eσ78 (by omega)).trans (k4), (kq (a := 9) (b := 10) eσ78 (by omega)).trans (k5), (kq (a := 6) (b := 5) eσ78 (by omega)).trans (k6), (kq (a := 7) (b := 4) eσ78 (by omega)).trans (k7), (kq (a := 2) (b := 4) eσ78 (by omega)).trans (k8), (kq (a := 2) (b := 5) eσ78 (by omega)).trans (k9), (kq (a := 2) (b := 6) eσ78 (by omega)).trans (k10), (kq (a := 3) (b := 8) eσ78 (by omega)).trans (k11)⟩) trivial
            · have f79 := tB (σ1.1 3 11)
              have f81 := mt Int32.toInt_inj.mp c74
              try dsimp only
              exact hQ _ _ hσ1 (⟨k2, k3, k4, k5, k6, k7, k8, k9, k10, k11⟩) trivial
          · have f84 := mt Int32.toInt_inj.mp c70
            exact hQ _ _ hσ1 (⟨k2, k3, k4, k5, k6, k7, k8, k9, k10, k11⟩) trivial
        · have f85 : (8 : Int32).toInt = 8 := by decide
          have f87 := mt Int32.le_iff_toInt_le.mpr c66
          try dsimp only
          refine ⟨fun c88 => ?_, fun c88 => ?_⟩
          · have f89 : (1 : Int32).toInt = 1 := by decide
            have f91 := congrArg Int32.toInt c88
            unfold fX2_fail
            refine ⟨fun c92 => ?_, fun c92 => ?_⟩
            · have f93 := tB (σ1.1 3 11)
              have f95 := congrArg Int32.toInt c92
              intro σ96 eσ96
              have hσ96 : K1 σ0 σ96 := by rw [eσ96]; exact hσ1.u (Rg1.u_3_11 _) (by omega) (by omega)
              try dsimp only
              exact hQ _ _ hσ96 (⟨(kq (a := 3) (b := 7) eσ96 (by omega)).trans (k2), (kq (a := 3) (b := 6) eσ96 (by omega)).trans (k3), (kq (a := 9) (b := 9) eσ96 (by omega)).trans (k4), (kq (a := 9) (b := 10) eσ96 (by omega)).trans (k5), (kq (a := 6) (b := 5) eσ96 (by omega)).trans (k6), (kq (a := 7) (b := 4) eσ96 (by omega)).trans (k7), (kq (a := 2) (b := 4) eσ96 (by omega)).trans (k8), (kq (a := 2) (b := 5) eσ96 (by omega)).trans (k9), (kq (a := 2) (b := 6) eσ96 (by omega)).trans (k10), (kq (a := 3) (b := 8) eσ96 (by omega)).trans (k11)⟩) trivial
            · have f97 := tB (σ1.1 3 11)
              have f99 := mt Int32.toInt_inj.mp c92
              try dsimp only
              exact hQ _ _ hσ1 (⟨k2, k3, k4, k5, k6, k7, k8, k9, k10, k11⟩) trivial
          · have f100 : (1 : Int32).toInt = 1 := by decide
            have f102 := mt Int32.toInt_inj.mp c88
            exact hQ _ _ hσ1 (⟨k2, k3, k4, k5, k6, k7, k8, k9, k10, k11⟩) trivial
set_option maxHeartbeats 4000000 in
theorem sX1_setLocal {N : Nat} (hN : 4294967400 ≤ N) {k0 : Nat} {x1 : Int32} {x2 : Int32} (hk0 : jobK k0) {Q : St → Prop} {σ0 σ : St} (hσ : K1 σ0 σ) (hQ : ∀ τ : St, K1 σ0 τ → (τ.1 3 7 = σ.1 3 7 ∧ τ.1 3 11 = σ.1 3 11 ∧ τ.1 3 6 = σ.1 3 6 ∧ τ.1 9 9 = σ.1 9 9 ∧ τ.1 9 10 = σ.1 9 10 ∧ τ.1 6 5 = σ.1 6 5 ∧ τ.1 7 4 = σ.1 7 4 ∧ τ.1 2 4 = σ.1 2 4 ∧ τ.1 2 5 = σ.1 2 5 ∧ τ.1 2 6 = σ.1 2 6 ∧ τ.1 3 8 = σ.1 3 8) → Q τ) : fX1_setLocal N k0 x1 x2 Q σ := by
  unfold fX1_setLocal
  have kbhk0 := jobK_b hk0
  refine ⟨fun c1 => ?_, fun c1 => ?_⟩
  · have f2 := tB x1
    have f3 : (0 : Int32).toInt = 0 := by decide
    have f4 := Int32.lt_iff_toInt_lt.mp c1
    exact hQ _ hσ (⟨rfl, rfl, rfl, rfl, rfl, rfl, rfl, rfl, rfl, rfl, rfl⟩)
  · have f5 := tB x1
    have f6 : (0 : Int32).toInt = 0 := by decide
    have f7 := mt Int32.lt_iff_toInt_lt.mpr c1
    refine ⟨fun c8 => ?_, fun c8 => ?_⟩
    · have f9 := tB (σ.1 k0 4)
      have f11 := Int32.le_iff_toInt_le.mp c8
      exact hQ _ hσ (⟨rfl, rfl, rfl, rfl, rfl, rfl, rfl, rfl, rfl, rfl, rfl⟩)
    · have f12 := tB (σ.1 k0 4)
      have f14 := mt Int32.le_iff_toInt_le.mpr c8
      refine ⟨fun c15 => ?_, fun c15 => ?_⟩
      · have f16 : (8 : Int32).toInt = 8 := by decide
        have f18 := Int32.le_iff_toInt_le.mp c15
        exact hQ _ hσ (⟨rfl, rfl, rfl, rfl, rfl, rfl, rfl, rfl, rfl, rfl, rfl⟩)
      · have f19 : (8 : Int32).toInt = 8 := by decide
        have f21 := mt Int32.le_iff_toInt_le.mpr c15
        refine ⟨inI (by omega) (by omega), ?_⟩
        intro σ23 eσ23
        have kb24 := loc8_b (loc8_of hk0)
        have hσ23 : K1 σ0 σ23 := by rw [eσ23]; exact hσ.u (rg_loc8 (loc8_of hk0)) (by omega) (by omega)
        exact hQ _ hσ23 (⟨(kq (a := 3) (b := 7) eσ23 (by omega)), (kq (a := 3) (b := 11) eσ23 (by omega)), (kq (a := 3) (b := 6) eσ23 (by omega)), (kq (a := 9) (b := 9) eσ23 (by omega)), (kq (a := 9) (b := 10) eσ23 (by omega)), (kq (a := 6) (b := 5) eσ23 (by omega)), (kq (a := 7) (b := 4) eσ23 (by omega)), (kq (a := 2) (b := 4) eσ23 (by omega)), (kq (a := 2) (b := 5) eσ23 (by omega)), (kq (a := 2) (b := 6) eσ23 (by omega)), (kq (a := 3) (b := 8) eσ23 (by omega))⟩)
set_option maxHeartbeats 4000000 in
theorem sX2_fillLocals {N : Nat} (hN : 4294967400 ≤ N) {k1 : Nat} {x2 : Int32} (hk1 : jobK k1) {Q : St → Prop} {σ0 σ : St} (hσ : K1 σ0 σ) (hQ : ∀ τ : St, K1 σ0 τ → (τ.1 3 7 = σ.1 3 7 ∧ τ.1 3 11 = σ.1 3 11 ∧ τ.1 3 6 = σ.1 3 6 ∧ τ.1 9 9 = σ.1 9 9 ∧ τ.1 9 10 = σ.1 9 10 ∧ τ.1 6 5 = σ.1 6 5 ∧ τ.1 7 4 = σ.1 7 4 ∧ τ.1 2 4 = σ.1 2 4 ∧ τ.1 2 5 = σ.1 2 5 ∧ τ.1 2 6 = σ.1 2 6 ∧ τ.1 3 8 = σ.1 3 8) → Q τ) : fX2_fillLocals N k1 x2 Q σ := by
  unfold fX2_fillLocals
  have kbhk1 := jobK_b hk1
  have f1 : (0 : Int32).toInt = 0 := by decide
  refine sJ7_fill_53178 hN (by decide) (fun j v => rg_loc8 (loc8_of hk1)) (by have := (loc8_of hk1).1; omega) (by have := (loc8_of hk1).1; omega) hσ (fun σ2 hσ2 kk14 => ?_)
  obtain ⟨k3, k4, k5, k6, k7, k8, k9, k10, k11, k12, k13⟩ := kk14
  refine ⟨fun c15 => ?_, fun c15 => ?_⟩
  · have f16 := tB x2
    have f18 := congrArg Int32.toInt c15
    unfold fX2_fillLocals_j25
    refine lo1_i (fun (y19 : Int32) (τ : St) => K1 σ0 τ ∧ τ.1 3 7 = σ2.1 3 7 ∧ τ.1 3 11 = σ2.1 3 11 ∧ τ.1 3 6 = σ2.1 3 6 ∧ τ.1 9 9 = σ2.1 9 9 ∧ τ.1 9 10 = σ2.1 9 10 ∧ τ.1 6 5 = σ2.1 6 5 ∧ τ.1 7 4 = σ2.1 7 4 ∧ τ.1 2 4 = σ2.1 2 4 ∧ τ.1 2 5 = σ2.1 2 5 ∧ τ.1 2 6 = σ2.1 2 6 ∧ τ.1 3 8 = σ2.1 3 8 ∧ 0 ≤ y19.toInt) (fun (y19 : Int32) (τ : St) => (2147483648 - y19.toInt).toNat) ?_ N (0 : Int32) σ2 ⟨hσ2, rfl, rfl, rfl, rfl, rfl, rfl, rfl, rfl, rfl, rfl, rfl, by omega⟩ (by (try dsimp only); omega)
    intro rr22 y25 σ24 hIσ24 ih23
    obtain ⟨hσ24, k26, k27, k28, k29, k30, k31, k32, k33, k34, k35, k36, i37⟩ := hIσ24
    unfold fX2_fillLocals_l28
    have f38 := tB y25
    refine ⟨fun c39 => ?_, fun c39 => ?_⟩
    · have f40 := K1.g_3_6 hσ24
      have f41 := congrArg Int32.toInt k28
      have f42 := K1.g_3_6 hσ2
      have f43 := congrArg Int32.toInt k5
      have f44 := K1.g_3_6 hσ
      have f46 := Int32.le_iff_toInt_le.mp c39
      exact hQ _ hσ24 (⟨k26.trans (k3), k27.trans (k4), k28.trans (k5), k29.trans (k6), k30.trans (k7), k31.trans (k8), k32.trans (k9), k33.trans (k10), k34.trans (k11), k35.trans (k12), k36.trans (k13)⟩)
    · have f47 := K1.g_3_6 hσ24
      have f48 := congrArg Int32.toInt k28
      have f49 := K1.g_3_6 hσ2
      have f50 := congrArg Int32.toInt k5
      have f51 := K1.g_3_6 hσ
      have f53 := mt Int32.le_iff_toInt_le.mpr c39
      refine ⟨fun c54 => ?_, fun c54 => ?_⟩
      · have f55 : (4 : Int32).toInt = 4 := by decide
        have f57 := Int32.le_iff_toInt_le.mp c54
        exact hQ _ hσ24 (⟨k26.trans (k3), k27.trans (k4), k28.trans (k5), k29.trans (k6), k30.trans (k7), k31.trans (k8), k32.trans (k9), k33.trans (k10), k34.trans (k11), k35.trans (k12), k36.trans (k13)⟩)
      · have f58 : (4 : Int32).toInt = 4 := by decide
        have f60 := mt Int32.le_iff_toInt_le.mpr c54
        have g62 : vp_in y25 4 := inI (by omega) (by omega)
        refine ⟨g62, ?_⟩
        have f65 := tA (0 : Int32) y25
        have f66 := tB (0 + y25)
        have f67 := tB (σ24.1 17 y25.toNatClampNeg)
        refine sX1_setLocal hN hk1 hσ24 (fun σ68 hσ68 kk80 => ?_)
        obtain ⟨k69, k70, k71, k72, k73, k74, k75, k76, k77, k78, k79⟩ := kk80
        intro v81 ev81
        have f82 := tB v81
        have f84 : (1 : Int32).toInt = 1 := by decide
        have f85 := tA y25 (1 : Int32)
        have f86 := tB (y25 + 1)
        have f87 := congrArg Int32.toInt ev81
        exact ih23 v81 σ68 ⟨hσ68, k69.trans (k26), k70.trans (k27), k71.trans (k28), k72.trans (k29), k73.trans (k30), k74.trans (k31), k75.trans (k32), k76.trans (k33), k77.trans (k34), k78.trans (k35), k79.trans (k36), by omega⟩ (by (try dsimp only); omega)
  · have f88 := tB x2
    have f90 := mt Int32.toInt_inj.mp c15
    have f92 := K1.g_3_6 hσ2
    have f93 := congrArg Int32.toInt k5
    have f94 := K1.g_3_6 hσ
    refine sX1_setLocal hN hk1 hσ2 (fun σ95 hσ95 kk107 => ?_)
    obtain ⟨k96, k97, k98, k99, k100, k101, k102, k103, k104, k105, k106⟩ := kk107
    unfold fX2_fillLocals_j25
    have f109 : (1 : Int32).toInt = 1 := by decide
    refine lo1_i (fun (y108 : Int32) (τ : St) => K1 σ0 τ ∧ τ.1 3 7 = σ95.1 3 7 ∧ τ.1 3 11 = σ95.1 3 11 ∧ τ.1 3 6 = σ95.1 3 6 ∧ τ.1 9 9 = σ95.1 9 9 ∧ τ.1 9 10 = σ95.1 9 10 ∧ τ.1 6 5 = σ95.1 6 5 ∧ τ.1 7 4 = σ95.1 7 4 ∧ τ.1 2 4 = σ95.1 2 4 ∧ τ.1 2 5 = σ95.1 2 5 ∧ τ.1 2 6 = σ95.1 2 6 ∧ τ.1 3 8 = σ95.1 3 8 ∧ 0 ≤ y108.toInt) (fun (y108 : Int32) (τ : St) => (2147483648 - y108.toInt).toNat) ?_ N (0 : Int32) σ95 ⟨hσ95, rfl, rfl, rfl, rfl, rfl, rfl, rfl, rfl, rfl, rfl, rfl, by omega⟩ (by (try dsimp only); omega)
    intro rr111 y114 σ113 hIσ113 ih112
    obtain ⟨hσ113, k115, k116, k117, k118, k119, k120, k121, k122, k123, k124, k125, i126⟩ := hIσ113
    unfold fX2_fillLocals_l28
    have f127 := tB y114
    refine ⟨fun c128 => ?_, fun c128 => ?_⟩
    · have f129 := K1.g_3_6 hσ113
      have f130 := congrArg Int32.toInt k117
      have f131 := K1.g_3_6 hσ95
      have f132 := congrArg Int32.toInt k98
      have f135 := Int32.le_iff_toInt_le.mp c128
      exact hQ _ hσ113 (⟨k115.trans (k96.trans (k3)), k116.trans (k97.trans (k4)), k117.trans (k98.trans (k5)), k118.trans (k99.trans (k6)), k119.trans (k100.trans (k7)), k120.trans (k101.trans (k8)), k121.trans (k102.trans (k9)), k122.trans (k103.trans (k10)), k123.trans (k104.trans (k11)), k124.trans (k105.trans (k12)), k125.trans (k106.trans (k13))⟩)
    · have f136 := K1.g_3_6 hσ113
      have f137 := congrArg Int32.toInt k117
      have f138 := K1.g_3_6 hσ95
      have f139 := congrArg Int32.toInt k98
      have f142 := mt Int32.le_iff_toInt_le.mpr c128
      refine ⟨fun c143 => ?_, fun c143 => ?_⟩
      · have f144 : (4 : Int32).toInt = 4 := by decide
        have f146 := Int32.le_iff_toInt_le.mp c143
        exact hQ _ hσ113 (⟨k115.trans (k96.trans (k3)), k116.trans (k97.trans (k4)), k117.trans (k98.trans (k5)), k118.trans (k99.trans (k6)), k119.trans (k100.trans (k7)), k120.trans (k101.trans (k8)), k121.trans (k102.trans (k9)), k122.trans (k103.trans (k10)), k123.trans (k104.trans (k11)), k124.trans (k105.trans (k12)), k125.trans (k106.trans (k13))⟩)
      · have f147 : (4 : Int32).toInt = 4 := by decide
        have f149 := mt Int32.le_iff_toInt_le.mpr c143
        have g151 : vp_in y114 4 := inI (by omega) (by omega)
        refine ⟨g151, ?_⟩
        have f154 := tA (1 : Int32) y114
        have f155 := tB (1 + y114)
        have f156 := tB (σ113.1 17 y114.toNatClampNeg)
        refine sX1_setLocal hN hk1 hσ113 (fun σ157 hσ157 kk169 => ?_)
        obtain ⟨k158, k159, k160, k161, k162, k163, k164, k165, k166, k167, k168⟩ := kk169
        intro v170 ev170
        have f171 := tB v170
        have f174 := tA y114 (1 : Int32)
        have f175 := tB (y114 + 1)
        have f176 := congrArg Int32.toInt ev170
        exact ih112 v170 σ157 ⟨hσ157, k158.trans (k115), k159.trans (k116), k160.trans (k117), k161.trans (k118), k162.trans (k119), k163.trans (k120), k164.trans (k121), k165.trans (k122), k166.trans (k123), k167.trans (k124), k168.trans (k125), by omega⟩ (by (try dsimp only); omega)
set_option maxHeartbeats 4000000 in
theorem sX2_callFunction {N : Nat} (hN : 4294967400 ≤ N) {x1 : Int32} {x2 : Int32} {Q : St → Prop} {σ0 σ : St} (hσ : K1 σ0 σ) (hQ : ∀ τ : St, K1 σ0 τ → (τ.1 3 6 = σ.1 3 6 ∧ τ.1 9 9 = σ.1 9 9 ∧ τ.1 9 10 = σ.1 9 10 ∧ τ.1 6 5 = σ.1 6 5 ∧ τ.1 7 4 = σ.1 7 4 ∧ τ.1 2 4 = σ.1 2 4 ∧ τ.1 2 5 = σ.1 2 5 ∧ τ.1 2 6 = σ.1 2 6 ∧ τ.1 3 8 = σ.1 3 8) → Q τ) : fX2_callFunction N x1 x2 Q σ := by
  unfold fX2_callFunction
  have f1 := tB x1
  refine sX2_readByte hN hσ (fun r14 σ2 hσ2 kk13 p15 => ?_)
  obtain ⟨k3, k4, k5, k6, k7, k8, k9, k10, k11, k12⟩ := kk13
  refine ⟨fun c16 => ?_, fun c16 => ?_⟩
  · have f17 := tB (σ2.1 3 11)
    have f18 : (0 : Int32).toInt = 0 := by decide
    have f19 := congrArg Int32.toInt c16
    refine ⟨fun c20 => ?_, fun c20 => ?_⟩
    · have f21 := tB r14
      have f22 : (192 : Int32).toInt = 192 := by decide
      have f23 := congrArg Int32.toInt c20
      unfold fX2_callFunction_j34
      have f25 : (1 : Int32).toInt = 1 := by decide
      have f26 := tA x1 (1 : Int32)
      have f27 := tB (x1 + 1)
      refine sX2_readByte hN hσ2 (fun r40 σ28 hσ28 kk39 p41 => ?_)
      obtain ⟨k29, k30, k31, k32, k33, k34, k35, k36, k37, k38⟩ := kk39
      refine ⟨fun c42 => ?_, fun c42 => ?_⟩
      · have f43 := tB r40
        have f44 : (8 : Int32).toInt = 8 := by decide
        have f45 := Int32.le_iff_toInt_le.mp c42
        unfold fX2_callFunction_j55
        have f48 : (2 : Int32).toInt = 2 := by decide
        have f49 := tA x1 (2 : Int32)
        have f50 := tB (x1 + 2)
        refine sX2_begin hN hσ28 (fun σ51 hσ51 kk61 => ?_)
        obtain ⟨k52, k53, k54, k55, k56, k57, k58, k59, k60⟩ := kk61
        refine ⟨fun c62 => ?_, fun c62 => ?_⟩
        · have f63 := tB (σ51.1 3 11)
          have f65 := congrArg Int32.toInt c62
          refine ⟨fun c66 => ?_, fun c66 => ?_⟩
          · have f67 := K1.g_3_7 hσ51
            have f69 := congrArg Int32.toInt c66
            exact hQ _ hσ51 (⟨k52.trans (k30.trans (k4)), k53.trans (k31.trans (k5)), k54.trans (k32.trans (k6)), k55.trans (k33.trans (k7)), k56.trans (k34.trans (k8)), k57.trans (k35.trans (k9)), k58.trans (k36.trans (k10)), k59.trans (k37.trans (k11)), k60.trans (k38.trans (k12))⟩)
          · have f70 := K1.g_3_7 hσ51
            have f72 := mt Int32.toInt_inj.mp c66
            have f75 := tS (σ51.1 3 7) (1 : Int32)
            have f76 := tB ((σ51.1 3 7) - 1)
            have g77 : vp_in ((σ51.1 3 7) - 1) 40 := inI (by omega) (by omega)
            refine ⟨g77, ?_⟩
            have hk78 : jobK (43 + ((σ51.1 3 7) - 1).toNatClampNeg) := (jobK_in g77)
            have hk78x := vp_lt g77
            have hk78b := jobK_b hk78
            intro σ79 eσ79
            have kb80 := jobK_b hk78
            have hσ79 : K1 σ0 σ79 := by rw [eσ79]; exact hσ51.u (rg_jobK hk78) (by omega) (by omega)
            intro σ81 eσ81
            have kb82 := jobK_b hk78
            have hσ81 : K1 σ0 σ81 := by rw [eσ81]; exact hσ79.u (rg_jobK hk78) (by omega) (by omega)
            refine ⟨fun c83 => ?_, fun c83 => ?_⟩
            · have f86 := congrArg Int32.toInt c83
              unfold fX2_callFunction_j119
              refine sX2_fillLocals hN hk78 hσ81 (fun σ88 hσ88 kk100 => ?_)
              obtain ⟨k89, k90, k91, k92, k93, k94, k95, k96, k97, k98, k99⟩ := kk100
              exact hQ _ hσ88 (⟨k91.trans ((kq (a := 3) (b := 6) eσ81 (by omega)).trans ((kq (a := 3) (b := 6) eσ79 (by omega)).trans (k52.trans (k30.trans (k4))))), k92.trans ((kq (a := 9) (b := 9) eσ81 (by omega)).trans ((kq (a := 9) (b := 9) eσ79 (by omega)).trans (k53.trans (k31.trans (k5))))), k93.trans ((kq (a := 9) (b := 10) eσ81 (by omega)).trans ((kq (a := 9) (b := 10) eσ79 (by omega)).trans (k54.trans (k32.trans (k6))))), k94.trans ((kq (a := 6) (b := 5) eσ81 (by omega)).trans ((kq (a := 6) (b := 5) eσ79 (by omega)).trans (k55.trans (k33.trans (k7))))), k95.trans ((kq (a := 7) (b := 4) eσ81 (by omega)).trans ((kq (a := 7) (b := 4) eσ79 (by omega)).trans (k56.trans (k34.trans (k8))))), k96.trans ((kq (a := 2) (b := 4) eσ81 (by omega)).trans ((kq (a := 2) (b := 4) eσ79 (by omega)).trans (k57.trans (k35.trans (k9))))), k97.trans ((kq (a := 2) (b := 5) eσ81 (by omega)).trans ((kq (a := 2) (b := 5) eσ79 (by omega)).trans (k58.trans (k36.trans (k10))))), k98.trans ((kq (a := 2) (b := 6) eσ81 (by omega)).trans ((kq (a := 2) (b := 6) eσ79 (by omega)).trans (k59.trans (k37.trans (k11))))), k99.trans ((kq (a := 3) (b := 8) eσ81 (by omega)).trans ((kq (a := 3) (b := 8) eσ79 (by omega)).trans (k60.trans (k38.trans (k12)))))⟩)
            · have f103 := mt Int32.toInt_inj.mp c83
              unfold fX2_callFunction_j119
              refine sX2_fillLocals hN hk78 hσ81 (fun σ105 hσ105 kk117 => ?_)
              obtain ⟨k106, k107, k108, k109, k110, k111, k112, k113, k114, k115, k116⟩ := kk117
              exact hQ _ hσ105 (⟨k108.trans ((kq (a := 3) (b := 6) eσ81 (by omega)).trans ((kq (a := 3) (b := 6) eσ79 (by omega)).trans (k52.trans (k30.trans (k4))))), k109.trans ((kq (a := 9) (b := 9) eσ81 (by omega)).trans ((kq (a := 9) (b := 9) eσ79 (by omega)).trans (k53.trans (k31.trans (k5))))), k110.trans ((kq (a := 9) (b := 10) eσ81 (by omega)).trans ((kq (a := 9) (b := 10) eσ79 (by omega)).trans (k54.trans (k32.trans (k6))))), k111.trans ((kq (a := 6) (b := 5) eσ81 (by omega)).trans ((kq (a := 6) (b := 5) eσ79 (by omega)).trans (k55.trans (k33.trans (k7))))), k112.trans ((kq (a := 7) (b := 4) eσ81 (by omega)).trans ((kq (a := 7) (b := 4) eσ79 (by omega)).trans (k56.trans (k34.trans (k8))))), k113.trans ((kq (a := 2) (b := 4) eσ81 (by omega)).trans ((kq (a := 2) (b := 4) eσ79 (by omega)).trans (k57.trans (k35.trans (k9))))), k114.trans ((kq (a := 2) (b := 5) eσ81 (by omega)).trans ((kq (a := 2) (b := 5) eσ79 (by omega)).trans (k58.trans (k36.trans (k10))))), k115.trans ((kq (a := 2) (b := 6) eσ81 (by omega)).trans ((kq (a := 2) (b := 6) eσ79 (by omega)).trans (k59.trans (k37.trans (k11))))), k116.trans ((kq (a := 3) (b := 8) eσ81 (by omega)).trans ((kq (a := 3) (b := 8) eσ79 (by omega)).trans (k60.trans (k38.trans (k12)))))⟩)
        · have f118 := tB (σ51.1 3 11)
          have f120 := mt Int32.toInt_inj.mp c62
          exact hQ _ hσ51 (⟨k52.trans (k30.trans (k4)), k53.trans (k31.trans (k5)), k54.trans (k32.trans (k6)), k55.trans (k33.trans (k7)), k56.trans (k34.trans (k8)), k57.trans (k35.trans (k9)), k58.trans (k36.trans (k10)), k59.trans (k37.trans (k11)), k60.trans (k38.trans (k12))⟩)
      · have f121 := tB r40
        have f122 : (8 : Int32).toInt = 8 := by decide
        have f123 := mt Int32.le_iff_toInt_le.mpr c42
        unfold fX2_fail
        refine ⟨fun c124 => ?_, fun c124 => ?_⟩
        · have f125 := tB (σ28.1 3 11)
          have f127 := congrArg Int32.toInt c124
          intro σ128 eσ128
          have hσ128 : K1 σ0 σ128 := by rw [eσ128]; exact hσ28.u (Rg1.u_3_11 _) (by omega) (by omega)
          try dsimp only
          unfold fX2_callFunction_j55
          have f131 : (2 : Int32).toInt = 2 := by decide
          have f132 := tA x1 (2 : Int32)
          have f133 := tB (x1 + 2)
          refine sX2_begin hN hσ128 (fun σ134 hσ134 kk144 => ?_)
          obtain ⟨k135, k136, k137, k138, k139, k140, k141, k142, k143⟩ := kk144
          refine ⟨fun c145 => ?_, fun c145 => ?_⟩
          · have f146 := tB (σ134.1 3 11)
            have f148 := congrArg Int32.toInt c145
            refine ⟨fun c149 => ?_, fun c149 => ?_⟩
            · have f150 := K1.g_3_7 hσ134
              have f152 := congrArg Int32.toInt c149
              exact hQ _ hσ134 (⟨k135.trans ((kq (a := 3) (b := 6) eσ128 (by omega)).trans (k30.trans (k4))), k136.trans ((kq (a := 9) (b := 9) eσ128 (by omega)).trans (k31.trans (k5))), k137.trans ((kq (a := 9) (b := 10) eσ128 (by omega)).trans (k32.trans (k6))), k138.trans ((kq (a := 6) (b := 5) eσ128 (by omega)).trans (k33.trans (k7))), k139.trans ((kq (a := 7) (b := 4) eσ128 (by omega)).trans (k34.trans (k8))), k140.trans ((kq (a := 2) (b := 4) eσ128 (by omega)).trans (k35.trans (k9))), k141.trans ((kq (a := 2) (b := 5) eσ128 (by omega)).trans (k36.trans (k10))), k142.trans ((kq (a := 2) (b := 6) eσ128 (by omega)).trans (k37.trans (k11))), k143.trans ((kq (a := 3) (b := 8) eσ128 (by omega)).trans (k38.trans (k12)))⟩)
            · have f153 := K1.g_3_7 hσ134
              have f155 := mt Int32.toInt_inj.mp c149
              have f158 := tS (σ134.1 3 7) (1 : Int32)
              have f159 := tB ((σ134.1 3 7) - 1)
              have g160 : vp_in ((σ134.1 3 7) - 1) 40 := inI (by omega) (by omega)
              refine ⟨g160, ?_⟩
              have hk161 : jobK (43 + ((σ134.1 3 7) - 1).toNatClampNeg) := (jobK_in g160)
              have hk161x := vp_lt g160
              have hk161b := jobK_b hk161
              intro σ162 eσ162
              have kb163 := jobK_b hk161
              have hσ162 : K1 σ0 σ162 := by rw [eσ162]; exact hσ134.u (rg_jobK hk161) (by omega) (by omega)
              intro σ164 eσ164
              have kb165 := jobK_b hk161
              have hσ164 : K1 σ0 σ164 := by rw [eσ164]; exact hσ162.u (rg_jobK hk161) (by omega) (by omega)
              refine ⟨fun c166 => ?_, fun c166 => ?_⟩
              · have f169 := congrArg Int32.toInt c166
                unfold fX2_callFunction_j119
                refine sX2_fillLocals hN hk161 hσ164 (fun σ171 hσ171 kk183 => ?_)
                obtain ⟨k172, k173, k174, k175, k176, k177, k178, k179, k180, k181, k182⟩ := kk183
                exact hQ _ hσ171 (⟨k174.trans ((kq (a := 3) (b := 6) eσ164 (by omega)).trans ((kq (a := 3) (b := 6) eσ162 (by omega)).trans (k135.trans ((kq (a := 3) (b := 6) eσ128 (by omega)).trans (k30.trans (k4)))))), k175.trans ((kq (a := 9) (b := 9) eσ164 (by omega)).trans ((kq (a := 9) (b := 9) eσ162 (by omega)).trans (k136.trans ((kq (a := 9) (b := 9) eσ128 (by omega)).trans (k31.trans (k5)))))), k176.trans ((kq (a := 9) (b := 10) eσ164 (by omega)).trans ((kq (a := 9) (b := 10) eσ162 (by omega)).trans (k137.trans ((kq (a := 9) (b := 10) eσ128 (by omega)).trans (k32.trans (k6)))))), k177.trans ((kq (a := 6) (b := 5) eσ164 (by omega)).trans ((kq (a := 6) (b := 5) eσ162 (by omega)).trans (k138.trans ((kq (a := 6) (b := 5) eσ128 (by omega)).trans (k33.trans (k7)))))), k178.trans ((kq (a := 7) (b := 4) eσ164 (by omega)).trans ((kq (a := 7) (b := 4) eσ162 (by omega)).trans (k139.trans ((kq (a := 7) (b := 4) eσ128 (by omega)).trans (k34.trans (k8)))))), k179.trans ((kq (a := 2) (b := 4) eσ164 (by omega)).trans ((kq (a := 2) (b := 4) eσ162 (by omega)).trans (k140.trans ((kq (a := 2) (b := 4) eσ128 (by omega)).trans (k35.trans (k9)))))), k180.trans ((kq (a := 2) (b := 5) eσ164 (by omega)).trans ((kq (a := 2) (b := 5) eσ162 (by omega)).trans (k141.trans ((kq (a := 2) (b := 5) eσ128 (by omega)).trans (k36.trans (k10)))))), k181.trans ((kq (a := 2) (b := 6) eσ164 (by omega)).trans ((kq (a := 2) (b := 6) eσ162 (by omega)).trans (k142.trans ((kq (a := 2) (b := 6) eσ128 (by omega)).trans (k37.trans (k11)))))), k182.trans ((kq (a := 3) (b := 8) eσ164 (by omega)).trans ((kq (a := 3) (b := 8) eσ162 (by omega)).trans (k143.trans ((kq (a := 3) (b := 8) eσ128 (by omega)).trans (k38.trans (k12))))))⟩)
              · have f186 := mt Int32.toInt_inj.mp c166
                unfold fX2_callFunction_j119
                refine sX2_fillLocals hN hk161 hσ164 (fun σ188 hσ188 kk200 => ?_)
                obtain ⟨k189, k190, k191, k192, k193, k194, k195, k196, k197, k198, k199⟩ := kk200
                exact hQ _ hσ188 (⟨k191.trans ((kq (a := 3) (b := 6) eσ164 (by omega)).trans ((kq (a := 3) (b := 6) eσ162 (by omega)).trans (k135.trans ((kq (a := 3) (b := 6) eσ128 (by omega)).trans (k30.trans (k4)))))), k192.trans ((kq (a := 9) (b := 9) eσ164 (by omega)).trans ((kq (a := 9) (b := 9) eσ162 (by omega)).trans (k136.trans ((kq (a := 9) (b := 9) eσ128 (by omega)).trans (k31.trans (k5)))))), k193.trans ((kq (a := 9) (b := 10) eσ164 (by omega)).trans ((kq (a := 9) (b := 10) eσ162 (by omega)).trans (k137.trans ((kq (a := 9) (b := 10) eσ128 (by omega)).trans (k32.trans (k6)))))), k194.trans ((kq (a := 6) (b := 5) eσ164 (by omega)).trans ((kq (a := 6) (b := 5) eσ162 (by omega)).trans (k138.trans ((kq (a := 6) (b := 5) eσ128 (by omega)).trans (k33.trans (k7)))))), k195.trans ((kq (a := 7) (b := 4) eσ164 (by omega)).trans ((kq (a := 7) (b := 4) eσ162 (by omega)).trans (k139.trans ((kq (a := 7) (b := 4) eσ128 (by omega)).trans (k34.trans (k8)))))), k196.trans ((kq (a := 2) (b := 4) eσ164 (by omega)).trans ((kq (a := 2) (b := 4) eσ162 (by omega)).trans (k140.trans ((kq (a := 2) (b := 4) eσ128 (by omega)).trans (k35.trans (k9)))))), k197.trans ((kq (a := 2) (b := 5) eσ164 (by omega)).trans ((kq (a := 2) (b := 5) eσ162 (by omega)).trans (k141.trans ((kq (a := 2) (b := 5) eσ128 (by omega)).trans (k36.trans (k10)))))), k198.trans ((kq (a := 2) (b := 6) eσ164 (by omega)).trans ((kq (a := 2) (b := 6) eσ162 (by omega)).trans (k142.trans ((kq (a := 2) (b := 6) eσ128 (by omega)).trans (k37.trans (k11)))))), k199.trans ((kq (a := 3) (b := 8) eσ164 (by omega)).trans ((kq (a := 3) (b := 8) eσ162 (by omega)).trans (k143.trans ((kq (a := 3) (b := 8) eσ128 (by omega)).trans (k38.trans (k12))))))⟩)
          · have f201 := tB (σ134.1 3 11)
            have f203 := mt Int32.toInt_inj.mp c145
            exact hQ _ hσ134 (⟨k135.trans ((kq (a := 3) (b := 6) eσ128 (by omega)).trans (k30.trans (k4))), k136.trans ((kq (a := 9) (b := 9) eσ128 (by omega)).trans (k31.trans (k5))), k137.trans ((kq (a := 9) (b := 10) eσ128 (by omega)).trans (k32.trans (k6))), k138.trans ((kq (a := 6) (b := 5) eσ128 (by omega)).trans (k33.trans (k7))), k139.trans ((kq (a := 7) (b := 4) eσ128 (by omega)).trans (k34.trans (k8))), k140.trans ((kq (a := 2) (b := 4) eσ128 (by omega)).trans (k35.trans (k9))), k141.trans ((kq (a := 2) (b := 5) eσ128 (by omega)).trans (k36.trans (k10))), k142.trans ((kq (a := 2) (b := 6) eσ128 (by omega)).trans (k37.trans (k11))), k143.trans ((kq (a := 3) (b := 8) eσ128 (by omega)).trans (k38.trans (k12)))⟩)
        · have f204 := tB (σ28.1 3 11)
          have f206 := mt Int32.toInt_inj.mp c124
          try dsimp only
          unfold fX2_callFunction_j55
          have f209 : (2 : Int32).toInt = 2 := by decide
          have f210 := tA x1 (2 : Int32)
          have f211 := tB (x1 + 2)
          refine sX2_begin hN hσ28 (fun σ212 hσ212 kk222 => ?_)
          obtain ⟨k213, k214, k215, k216, k217, k218, k219, k220, k221⟩ := kk222
          refine ⟨fun c223 => ?_, fun c223 => ?_⟩
          · have f224 := tB (σ212.1 3 11)
            have f226 := congrArg Int32.toInt c223
            refine ⟨fun c227 => ?_, fun c227 => ?_⟩
            · have f228 := K1.g_3_7 hσ212
              have f230 := congrArg Int32.toInt c227
              exact hQ _ hσ212 (⟨k213.trans (k30.trans (k4)), k214.trans (k31.trans (k5)), k215.trans (k32.trans (k6)), k216.trans (k33.trans (k7)), k217.trans (k34.trans (k8)), k218.trans (k35.trans (k9)), k219.trans (k36.trans (k10)), k220.trans (k37.trans (k11)), k221.trans (k38.trans (k12))⟩)
            · have f231 := K1.g_3_7 hσ212
              have f233 := mt Int32.toInt_inj.mp c227
              have f236 := tS (σ212.1 3 7) (1 : Int32)
              have f237 := tB ((σ212.1 3 7) - 1)
              have g238 : vp_in ((σ212.1 3 7) - 1) 40 := inI (by omega) (by omega)
              refine ⟨g238, ?_⟩
              have hk239 : jobK (43 + ((σ212.1 3 7) - 1).toNatClampNeg) := (jobK_in g238)
              have hk239x := vp_lt g238
              have hk239b := jobK_b hk239
              intro σ240 eσ240
              have kb241 := jobK_b hk239
              have hσ240 : K1 σ0 σ240 := by rw [eσ240]; exact hσ212.u (rg_jobK hk239) (by omega) (by omega)
              intro σ242 eσ242
              have kb243 := jobK_b hk239
              have hσ242 : K1 σ0 σ242 := by rw [eσ242]; exact hσ240.u (rg_jobK hk239) (by omega) (by omega)
              refine ⟨fun c244 => ?_, fun c244 => ?_⟩
              · have f247 := congrArg Int32.toInt c244
                unfold fX2_callFunction_j119
                refine sX2_fillLocals hN hk239 hσ242 (fun σ249 hσ249 kk261 => ?_)
                obtain ⟨k250, k251, k252, k253, k254, k255, k256, k257, k258, k259, k260⟩ := kk261
                exact hQ _ hσ249 (⟨k252.trans ((kq (a := 3) (b := 6) eσ242 (by omega)).trans ((kq (a := 3) (b := 6) eσ240 (by omega)).trans (k213.trans (k30.trans (k4))))), k253.trans ((kq (a := 9) (b := 9) eσ242 (by omega)).trans ((kq (a := 9) (b := 9) eσ240 (by omega)).trans (k214.trans (k31.trans (k5))))), k254.trans ((kq (a := 9) (b := 10) eσ242 (by omega)).trans ((kq (a := 9) (b := 10) eσ240 (by omega)).trans (k215.trans (k32.trans (k6))))), k255.trans ((kq (a := 6) (b := 5) eσ242 (by omega)).trans ((kq (a := 6) (b := 5) eσ240 (by omega)).trans (k216.trans (k33.trans (k7))))), k256.trans ((kq (a := 7) (b := 4) eσ242 (by omega)).trans ((kq (a := 7) (b := 4) eσ240 (by omega)).trans (k217.trans (k34.trans (k8))))), k257.trans ((kq (a := 2) (b := 4) eσ242 (by omega)).trans ((kq (a := 2) (b := 4) eσ240 (by omega)).trans (k218.trans (k35.trans (k9))))), k258.trans ((kq (a := 2) (b := 5) eσ242 (by omega)).trans ((kq (a := 2) (b := 5) eσ240 (by omega)).trans (k219.trans (k36.trans (k10))))), k259.trans ((kq (a := 2) (b := 6) eσ242 (by omega)).trans ((kq (a := 2) (b := 6) eσ240 (by omega)).trans (k220.trans (k37.trans (k11))))), k260.trans ((kq (a := 3) (b := 8) eσ242 (by omega)).trans ((kq (a := 3) (b := 8) eσ240 (by omega)).trans (k221.trans (k38.trans (k12)))))⟩)
              · have f264 := mt Int32.toInt_inj.mp c244
                unfold fX2_callFunction_j119
                refine sX2_fillLocals hN hk239 hσ242 (fun σ266 hσ266 kk278 => ?_)
                obtain ⟨k267, k268, k269, k270, k271, k272, k273, k274, k275, k276, k277⟩ := kk278
                exact hQ _ hσ266 (⟨k269.trans ((kq (a := 3) (b := 6) eσ242 (by omega)).trans ((kq (a := 3) (b := 6) eσ240 (by omega)).trans (k213.trans (k30.trans (k4))))), k270.trans ((kq (a := 9) (b := 9) eσ242 (by omega)).trans ((kq (a := 9) (b := 9) eσ240 (by omega)).trans (k214.trans (k31.trans (k5))))), k271.trans ((kq (a := 9) (b := 10) eσ242 (by omega)).trans ((kq (a := 9) (b := 10) eσ240 (by omega)).trans (k215.trans (k32.trans (k6))))), k272.trans ((kq (a := 6) (b := 5) eσ242 (by omega)).trans ((kq (a := 6) (b := 5) eσ240 (by omega)).trans (k216.trans (k33.trans (k7))))), k273.trans ((kq (a := 7) (b := 4) eσ242 (by omega)).trans ((kq (a := 7) (b := 4) eσ240 (by omega)).trans (k217.trans (k34.trans (k8))))), k274.trans ((kq (a := 2) (b := 4) eσ242 (by omega)).trans ((kq (a := 2) (b := 4) eσ240 (by omega)).trans (k218.trans (k35.trans (k9))))), k275.trans ((kq (a := 2) (b := 5) eσ242 (by omega)).trans ((kq (a := 2) (b := 5) eσ240 (by omega)).trans (k219.trans (k36.trans (k10))))), k276.trans ((kq (a := 2) (b := 6) eσ242 (by omega)).trans ((kq (a := 2) (b := 6) eσ240 (by omega)).trans (k220.trans (k37.trans (k11))))), k277.trans ((kq (a := 3) (b := 8) eσ242 (by omega)).trans ((kq (a := 3) (b := 8) eσ240 (by omega)).trans (k221.trans (k38.trans (k12)))))⟩)
          · have f279 := tB (σ212.1 3 11)
            have f281 := mt Int32.toInt_inj.mp c223
            exact hQ _ hσ212 (⟨k213.trans (k30.trans (k4)), k214.trans (k31.trans (k5)), k215.trans (k32.trans (k6)), k216.trans (k33.trans (k7)), k217.trans (k34.trans (k8)), k218.trans (k35.trans (k9)), k219.trans (k36.trans (k10)), k220.trans (k37.trans (k11)), k221.trans (k38.trans (k12))⟩)
    · have f282 := tB r14
      have f283 : (192 : Int32).toInt = 192 := by decide
      have f284 := mt Int32.toInt_inj.mp c20
      refine ⟨fun c285 => ?_, fun c285 => ?_⟩
      · have f287 : (193 : Int32).toInt = 193 := by decide
        have f288 := congrArg Int32.toInt c285
        unfold fX2_callFunction_j34
        have f290 : (1 : Int32).toInt = 1 := by decide
        have f291 := tA x1 (1 : Int32)
        have f292 := tB (x1 + 1)
        refine sX2_readByte hN hσ2 (fun r305 σ293 hσ293 kk304 p306 => ?_)
        obtain ⟨k294, k295, k296, k297, k298, k299, k300, k301, k302, k303⟩ := kk304
        refine ⟨fun c307 => ?_, fun c307 => ?_⟩
        · have f308 := tB r305
          have f309 : (8 : Int32).toInt = 8 := by decide
          have f310 := Int32.le_iff_toInt_le.mp c307
          unfold fX2_callFunction_j55
          have f313 : (2 : Int32).toInt = 2 := by decide
          have f314 := tA x1 (2 : Int32)
          have f315 := tB (x1 + 2)
          refine sX2_begin hN hσ293 (fun σ316 hσ316 kk326 => ?_)
          obtain ⟨k317, k318, k319, k320, k321, k322, k323, k324, k325⟩ := kk326
          refine ⟨fun c327 => ?_, fun c327 => ?_⟩
          · have f328 := tB (σ316.1 3 11)
            have f330 := congrArg Int32.toInt c327
            refine ⟨fun c331 => ?_, fun c331 => ?_⟩
            · have f332 := K1.g_3_7 hσ316
              have f334 := congrArg Int32.toInt c331
              exact hQ _ hσ316 (⟨k317.trans (k295.trans (k4)), k318.trans (k296.trans (k5)), k319.trans (k297.trans (k6)), k320.trans (k298.trans (k7)), k321.trans (k299.trans (k8)), k322.trans (k300.trans (k9)), k323.trans (k301.trans (k10)), k324.trans (k302.trans (k11)), k325.trans (k303.trans (k12))⟩)
            · have f335 := K1.g_3_7 hσ316
              have f337 := mt Int32.toInt_inj.mp c331
              have f340 := tS (σ316.1 3 7) (1 : Int32)
              have f341 := tB ((σ316.1 3 7) - 1)
              have g342 : vp_in ((σ316.1 3 7) - 1) 40 := inI (by omega) (by omega)
              refine ⟨g342, ?_⟩
              have hk343 : jobK (43 + ((σ316.1 3 7) - 1).toNatClampNeg) := (jobK_in g342)
              have hk343x := vp_lt g342
              have hk343b := jobK_b hk343
              intro σ344 eσ344
              have kb345 := jobK_b hk343
              have hσ344 : K1 σ0 σ344 := by rw [eσ344]; exact hσ316.u (rg_jobK hk343) (by omega) (by omega)
              intro σ346 eσ346
              have kb347 := jobK_b hk343
              have hσ346 : K1 σ0 σ346 := by rw [eσ346]; exact hσ344.u (rg_jobK hk343) (by omega) (by omega)
              refine ⟨fun c348 => ?_, fun c348 => ?_⟩
              · have f351 := congrArg Int32.toInt c348
                unfold fX2_callFunction_j119
                refine sX2_fillLocals hN hk343 hσ346 (fun σ353 hσ353 kk365 => ?_)
                obtain ⟨k354, k355, k356, k357, k358, k359, k360, k361, k362, k363, k364⟩ := kk365
                exact hQ _ hσ353 (⟨k356.trans ((kq (a := 3) (b := 6) eσ346 (by omega)).trans ((kq (a := 3) (b := 6) eσ344 (by omega)).trans (k317.trans (k295.trans (k4))))), k357.trans ((kq (a := 9) (b := 9) eσ346 (by omega)).trans ((kq (a := 9) (b := 9) eσ344 (by omega)).trans (k318.trans (k296.trans (k5))))), k358.trans ((kq (a := 9) (b := 10) eσ346 (by omega)).trans ((kq (a := 9) (b := 10) eσ344 (by omega)).trans (k319.trans (k297.trans (k6))))), k359.trans ((kq (a := 6) (b := 5) eσ346 (by omega)).trans ((kq (a := 6) (b := 5) eσ344 (by omega)).trans (k320.trans (k298.trans (k7))))), k360.trans ((kq (a := 7) (b := 4) eσ346 (by omega)).trans ((kq (a := 7) (b := 4) eσ344 (by omega)).trans (k321.trans (k299.trans (k8))))), k361.trans ((kq (a := 2) (b := 4) eσ346 (by omega)).trans ((kq (a := 2) (b := 4) eσ344 (by omega)).trans (k322.trans (k300.trans (k9))))), k362.trans ((kq (a := 2) (b := 5) eσ346 (by omega)).trans ((kq (a := 2) (b := 5) eσ344 (by omega)).trans (k323.trans (k301.trans (k10))))), k363.trans ((kq (a := 2) (b := 6) eσ346 (by omega)).trans ((kq (a := 2) (b := 6) eσ344 (by omega)).trans (k324.trans (k302.trans (k11))))), k364.trans ((kq (a := 3) (b := 8) eσ346 (by omega)).trans ((kq (a := 3) (b := 8) eσ344 (by omega)).trans (k325.trans (k303.trans (k12)))))⟩)
              · have f368 := mt Int32.toInt_inj.mp c348
                unfold fX2_callFunction_j119
                refine sX2_fillLocals hN hk343 hσ346 (fun σ370 hσ370 kk382 => ?_)
                obtain ⟨k371, k372, k373, k374, k375, k376, k377, k378, k379, k380, k381⟩ := kk382
                exact hQ _ hσ370 (⟨k373.trans ((kq (a := 3) (b := 6) eσ346 (by omega)).trans ((kq (a := 3) (b := 6) eσ344 (by omega)).trans (k317.trans (k295.trans (k4))))), k374.trans ((kq (a := 9) (b := 9) eσ346 (by omega)).trans ((kq (a := 9) (b := 9) eσ344 (by omega)).trans (k318.trans (k296.trans (k5))))), k375.trans ((kq (a := 9) (b := 10) eσ346 (by omega)).trans ((kq (a := 9) (b := 10) eσ344 (by omega)).trans (k319.trans (k297.trans (k6))))), k376.trans ((kq (a := 6) (b := 5) eσ346 (by omega)).trans ((kq (a := 6) (b := 5) eσ344 (by omega)).trans (k320.trans (k298.trans (k7))))), k377.trans ((kq (a := 7) (b := 4) eσ346 (by omega)).trans ((kq (a := 7) (b := 4) eσ344 (by omega)).trans (k321.trans (k299.trans (k8))))), k378.trans ((kq (a := 2) (b := 4) eσ346 (by omega)).trans ((kq (a := 2) (b := 4) eσ344 (by omega)).trans (k322.trans (k300.trans (k9))))), k379.trans ((kq (a := 2) (b := 5) eσ346 (by omega)).trans ((kq (a := 2) (b := 5) eσ344 (by omega)).trans (k323.trans (k301.trans (k10))))), k380.trans ((kq (a := 2) (b := 6) eσ346 (by omega)).trans ((kq (a := 2) (b := 6) eσ344 (by omega)).trans (k324.trans (k302.trans (k11))))), k381.trans ((kq (a := 3) (b := 8) eσ346 (by omega)).trans ((kq (a := 3) (b := 8) eσ344 (by omega)).trans (k325.trans (k303.trans (k12)))))⟩)
          · have f383 := tB (σ316.1 3 11)
            have f385 := mt Int32.toInt_inj.mp c327
            exact hQ _ hσ316 (⟨k317.trans (k295.trans (k4)), k318.trans (k296.trans (k5)), k319.trans (k297.trans (k6)), k320.trans (k298.trans (k7)), k321.trans (k299.trans (k8)), k322.trans (k300.trans (k9)), k323.trans (k301.trans (k10)), k324.trans (k302.trans (k11)), k325.trans (k303.trans (k12))⟩)
        · have f386 := tB r305
          have f387 : (8 : Int32).toInt = 8 := by decide
          have f388 := mt Int32.le_iff_toInt_le.mpr c307
          unfold fX2_fail
          refine ⟨fun c389 => ?_, fun c389 => ?_⟩
          · have f390 := tB (σ293.1 3 11)
            have f392 := congrArg Int32.toInt c389
            intro σ393 eσ393
            have hσ393 : K1 σ0 σ393 := by rw [eσ393]; exact hσ293.u (Rg1.u_3_11 _) (by omega) (by omega)
            try dsimp only
            unfold fX2_callFunction_j55
            have f396 : (2 : Int32).toInt = 2 := by decide
            have f397 := tA x1 (2 : Int32)
            have f398 := tB (x1 + 2)
            refine sX2_begin hN hσ393 (fun σ399 hσ399 kk409 => ?_)
            obtain ⟨k400, k401, k402, k403, k404, k405, k406, k407, k408⟩ := kk409
            refine ⟨fun c410 => ?_, fun c410 => ?_⟩
            · have f411 := tB (σ399.1 3 11)
              have f413 := congrArg Int32.toInt c410
              refine ⟨fun c414 => ?_, fun c414 => ?_⟩
              · have f415 := K1.g_3_7 hσ399
                have f417 := congrArg Int32.toInt c414
                exact hQ _ hσ399 (⟨k400.trans ((kq (a := 3) (b := 6) eσ393 (by omega)).trans (k295.trans (k4))), k401.trans ((kq (a := 9) (b := 9) eσ393 (by omega)).trans (k296.trans (k5))), k402.trans ((kq (a := 9) (b := 10) eσ393 (by omega)).trans (k297.trans (k6))), k403.trans ((kq (a := 6) (b := 5) eσ393 (by omega)).trans (k298.trans (k7))), k404.trans ((kq (a := 7) (b := 4) eσ393 (by omega)).trans (k299.trans (k8))), k405.trans ((kq (a := 2) (b := 4) eσ393 (by omega)).trans (k300.trans (k9))), k406.trans ((kq (a := 2) (b := 5) eσ393 (by omega)).trans (k301.trans (k10))), k407.trans ((kq (a := 2) (b := 6) eσ393 (by omega)).trans (k302.trans (k11))), k408.trans ((kq (a := 3) (b := 8) eσ393 (by omega)).trans (k303.trans (k12)))⟩)
              · have f418 := K1.g_3_7 hσ399
                have f420 := mt Int32.toInt_inj.mp c414
                have f423 := tS (σ399.1 3 7) (1 : Int32)
                have f424 := tB ((σ399.1 3 7) - 1)
                have g425 : vp_in ((σ399.1 3 7) - 1) 40 := inI (by omega) (by omega)
                refine ⟨g425, ?_⟩
                have hk426 : jobK (43 + ((σ399.1 3 7) - 1).toNatClampNeg) := (jobK_in g425)
                have hk426x := vp_lt g425
                have hk426b := jobK_b hk426
                intro σ427 eσ427
                have kb428 := jobK_b hk426
                have hσ427 : K1 σ0 σ427 := by rw [eσ427]; exact hσ399.u (rg_jobK hk426) (by omega) (by omega)
                intro σ429 eσ429
                have kb430 := jobK_b hk426
                have hσ429 : K1 σ0 σ429 := by rw [eσ429]; exact hσ427.u (rg_jobK hk426) (by omega) (by omega)
                refine ⟨fun c431 => ?_, fun c431 => ?_⟩
                · have f434 := congrArg Int32.toInt c431
                  unfold fX2_callFunction_j119
                  refine sX2_fillLocals hN hk426 hσ429 (fun σ436 hσ436 kk448 => ?_)
                  obtain ⟨k437, k438, k439, k440, k441, k442, k443, k444, k445, k446, k447⟩ := kk448
                  exact hQ _ hσ436 (⟨k439.trans ((kq (a := 3) (b := 6) eσ429 (by omega)).trans ((kq (a := 3) (b := 6) eσ427 (by omega)).trans (k400.trans ((kq (a := 3) (b := 6) eσ393 (by omega)).trans (k295.trans (k4)))))), k440.trans ((kq (a := 9) (b := 9) eσ429 (by omega)).trans ((kq (a := 9) (b := 9) eσ427 (by omega)).trans (k401.trans ((kq (a := 9) (b := 9) eσ393 (by omega)).trans (k296.trans (k5)))))), k441.trans ((kq (a := 9) (b := 10) eσ429 (by omega)).trans ((kq (a := 9) (b := 10) eσ427 (by omega)).trans (k402.trans ((kq (a := 9) (b := 10) eσ393 (by omega)).trans (k297.trans (k6)))))), k442.trans ((kq (a := 6) (b := 5) eσ429 (by omega)).trans ((kq (a := 6) (b := 5) eσ427 (by omega)).trans (k403.trans ((kq (a := 6) (b := 5) eσ393 (by omega)).trans (k298.trans (k7)))))), k443.trans ((kq (a := 7) (b := 4) eσ429 (by omega)).trans ((kq (a := 7) (b := 4) eσ427 (by omega)).trans (k404.trans ((kq (a := 7) (b := 4) eσ393 (by omega)).trans (k299.trans (k8)))))), k444.trans ((kq (a := 2) (b := 4) eσ429 (by omega)).trans ((kq (a := 2) (b := 4) eσ427 (by omega)).trans (k405.trans ((kq (a := 2) (b := 4) eσ393 (by omega)).trans (k300.trans (k9)))))), k445.trans ((kq (a := 2) (b := 5) eσ429 (by omega)).trans ((kq (a := 2) (b := 5) eσ427 (by omega)).trans (k406.trans ((kq (a := 2) (b := 5) eσ393 (by omega)).trans (k301.trans (k10)))))), k446.trans ((kq (a := 2) (b := 6) eσ429 (by omega)).trans ((kq (a := 2) (b := 6) eσ427 (by omega)).trans (k407.trans ((kq (a := 2) (b := 6) eσ393 (by omega)).trans (k302.trans (k11)))))), k447.trans ((kq (a := 3) (b := 8) eσ429 (by omega)).trans ((kq (a := 3) (b := 8) eσ427 (by omega)).trans (k408.trans ((kq (a := 3) (b := 8) eσ393 (by omega)).trans (k303.trans (k12))))))⟩)
                · have f451 := mt Int32.toInt_inj.mp c431
                  unfold fX2_callFunction_j119
                  refine sX2_fillLocals hN hk426 hσ429 (fun σ453 hσ453 kk465 => ?_)
                  obtain ⟨k454, k455, k456, k457, k458, k459, k460, k461, k462, k463, k464⟩ := kk465
                  exact hQ _ hσ453 (⟨k456.trans ((kq (a := 3) (b := 6) eσ429 (by omega)).trans ((kq (a := 3) (b := 6) eσ427 (by omega)).trans (k400.trans ((kq (a := 3) (b := 6) eσ393 (by omega)).trans (k295.trans (k4)))))), k457.trans ((kq (a := 9) (b := 9) eσ429 (by omega)).trans ((kq (a := 9) (b := 9) eσ427 (by omega)).trans (k401.trans ((kq (a := 9) (b := 9) eσ393 (by omega)).trans (k296.trans (k5)))))), k458.trans ((kq (a := 9) (b := 10) eσ429 (by omega)).trans ((kq (a := 9) (b := 10) eσ427 (by omega)).trans (k402.trans ((kq (a := 9) (b := 10) eσ393 (by omega)).trans (k297.trans (k6)))))), k459.trans ((kq (a := 6) (b := 5) eσ429 (by omega)).trans ((kq (a := 6) (b := 5) eσ427 (by omega)).trans (k403.trans ((kq (a := 6) (b := 5) eσ393 (by omega)).trans (k298.trans (k7)))))), k460.trans ((kq (a := 7) (b := 4) eσ429 (by omega)).trans ((kq (a := 7) (b := 4) eσ427 (by omega)).trans (k404.trans ((kq (a := 7) (b := 4) eσ393 (by omega)).trans (k299.trans (k8)))))), k461.trans ((kq (a := 2) (b := 4) eσ429 (by omega)).trans ((kq (a := 2) (b := 4) eσ427 (by omega)).trans (k405.trans ((kq (a := 2) (b := 4) eσ393 (by omega)).trans (k300.trans (k9)))))), k462.trans ((kq (a := 2) (b := 5) eσ429 (by omega)).trans ((kq (a := 2) (b := 5) eσ427 (by omega)).trans (k406.trans ((kq (a := 2) (b := 5) eσ393 (by omega)).trans (k301.trans (k10)))))), k463.trans ((kq (a := 2) (b := 6) eσ429 (by omega)).trans ((kq (a := 2) (b := 6) eσ427 (by omega)).trans (k407.trans ((kq (a := 2) (b := 6) eσ393 (by omega)).trans (k302.trans (k11)))))), k464.trans ((kq (a := 3) (b := 8) eσ429 (by omega)).trans ((kq (a := 3) (b := 8) eσ427 (by omega)).trans (k408.trans ((kq (a := 3) (b := 8) eσ393 (by omega)).trans (k303.trans (k12))))))⟩)
            · have f466 := tB (σ399.1 3 11)
              have f468 := mt Int32.toInt_inj.mp c410
              exact hQ _ hσ399 (⟨k400.trans ((kq (a := 3) (b := 6) eσ393 (by omega)).trans (k295.trans (k4))), k401.trans ((kq (a := 9) (b := 9) eσ393 (by omega)).trans (k296.trans (k5))), k402.trans ((kq (a := 9) (b := 10) eσ393 (by omega)).trans (k297.trans (k6))), k403.trans ((kq (a := 6) (b := 5) eσ393 (by omega)).trans (k298.trans (k7))), k404.trans ((kq (a := 7) (b := 4) eσ393 (by omega)).trans (k299.trans (k8))), k405.trans ((kq (a := 2) (b := 4) eσ393 (by omega)).trans (k300.trans (k9))), k406.trans ((kq (a := 2) (b := 5) eσ393 (by omega)).trans (k301.trans (k10))), k407.trans ((kq (a := 2) (b := 6) eσ393 (by omega)).trans (k302.trans (k11))), k408.trans ((kq (a := 3) (b := 8) eσ393 (by omega)).trans (k303.trans (k12)))⟩)
          · have f469 := tB (σ293.1 3 11)
            have f471 := mt Int32.toInt_inj.mp c389
            try dsimp only
            unfold fX2_callFunction_j55
            have f474 : (2 : Int32).toInt = 2 := by decide
            have f475 := tA x1 (2 : Int32)
            have f476 := tB (x1 + 2)
            refine sX2_begin hN hσ293 (fun σ477 hσ477 kk487 => ?_)
            obtain ⟨k478, k479, k480, k481, k482, k483, k484, k485, k486⟩ := kk487
            refine ⟨fun c488 => ?_, fun c488 => ?_⟩
            · have f489 := tB (σ477.1 3 11)
              have f491 := congrArg Int32.toInt c488
              refine ⟨fun c492 => ?_, fun c492 => ?_⟩
              · have f493 := K1.g_3_7 hσ477
                have f495 := congrArg Int32.toInt c492
                exact hQ _ hσ477 (⟨k478.trans (k295.trans (k4)), k479.trans (k296.trans (k5)), k480.trans (k297.trans (k6)), k481.trans (k298.trans (k7)), k482.trans (k299.trans (k8)), k483.trans (k300.trans (k9)), k484.trans (k301.trans (k10)), k485.trans (k302.trans (k11)), k486.trans (k303.trans (k12))⟩)
              · have f496 := K1.g_3_7 hσ477
                have f498 := mt Int32.toInt_inj.mp c492
                have f501 := tS (σ477.1 3 7) (1 : Int32)
                have f502 := tB ((σ477.1 3 7) - 1)
                have g503 : vp_in ((σ477.1 3 7) - 1) 40 := inI (by omega) (by omega)
                refine ⟨g503, ?_⟩
                have hk504 : jobK (43 + ((σ477.1 3 7) - 1).toNatClampNeg) := (jobK_in g503)
                have hk504x := vp_lt g503
                have hk504b := jobK_b hk504
                intro σ505 eσ505
                have kb506 := jobK_b hk504
                have hσ505 : K1 σ0 σ505 := by rw [eσ505]; exact hσ477.u (rg_jobK hk504) (by omega) (by omega)
                intro σ507 eσ507
                have kb508 := jobK_b hk504
                have hσ507 : K1 σ0 σ507 := by rw [eσ507]; exact hσ505.u (rg_jobK hk504) (by omega) (by omega)
                refine ⟨fun c509 => ?_, fun c509 => ?_⟩
                · have f512 := congrArg Int32.toInt c509
                  unfold fX2_callFunction_j119
                  refine sX2_fillLocals hN hk504 hσ507 (fun σ514 hσ514 kk526 => ?_)
                  obtain ⟨k515, k516, k517, k518, k519, k520, k521, k522, k523, k524, k525⟩ := kk526
                  exact hQ _ hσ514 (⟨k517.trans ((kq (a := 3) (b := 6) eσ507 (by omega)).trans ((kq (a := 3) (b := 6) eσ505 (by omega)).trans (k478.trans (k295.trans (k4))))), k518.trans ((kq (a := 9) (b := 9) eσ507 (by omega)).trans ((kq (a := 9) (b := 9) eσ505 (by omega)).trans (k479.trans (k296.trans (k5))))), k519.trans ((kq (a := 9) (b := 10) eσ507 (by omega)).trans ((kq (a := 9) (b := 10) eσ505 (by omega)).trans (k480.trans (k297.trans (k6))))), k520.trans ((kq (a := 6) (b := 5) eσ507 (by omega)).trans ((kq (a := 6) (b := 5) eσ505 (by omega)).trans (k481.trans (k298.trans (k7))))), k521.trans ((kq (a := 7) (b := 4) eσ507 (by omega)).trans ((kq (a := 7) (b := 4) eσ505 (by omega)).trans (k482.trans (k299.trans (k8))))), k522.trans ((kq (a := 2) (b := 4) eσ507 (by omega)).trans ((kq (a := 2) (b := 4) eσ505 (by omega)).trans (k483.trans (k300.trans (k9))))), k523.trans ((kq (a := 2) (b := 5) eσ507 (by omega)).trans ((kq (a := 2) (b := 5) eσ505 (by omega)).trans (k484.trans (k301.trans (k10))))), k524.trans ((kq (a := 2) (b := 6) eσ507 (by omega)).trans ((kq (a := 2) (b := 6) eσ505 (by omega)).trans (k485.trans (k302.trans (k11))))), k525.trans ((kq (a := 3) (b := 8) eσ507 (by omega)).trans ((kq (a := 3) (b := 8) eσ505 (by omega)).trans (k486.trans (k303.trans (k12)))))⟩)
                · have f529 := mt Int32.toInt_inj.mp c509
                  unfold fX2_callFunction_j119
                  refine sX2_fillLocals hN hk504 hσ507 (fun σ531 hσ531 kk543 => ?_)
                  obtain ⟨k532, k533, k534, k535, k536, k537, k538, k539, k540, k541, k542⟩ := kk543
                  exact hQ _ hσ531 (⟨k534.trans ((kq (a := 3) (b := 6) eσ507 (by omega)).trans ((kq (a := 3) (b := 6) eσ505 (by omega)).trans (k478.trans (k295.trans (k4))))), k535.trans ((kq (a := 9) (b := 9) eσ507 (by omega)).trans ((kq (a := 9) (b := 9) eσ505 (by omega)).trans (k479.trans (k296.trans (k5))))), k536.trans ((kq (a := 9) (b := 10) eσ507 (by omega)).trans ((kq (a := 9) (b := 10) eσ505 (by omega)).trans (k480.trans (k297.trans (k6))))), k537.trans ((kq (a := 6) (b := 5) eσ507 (by omega)).trans ((kq (a := 6) (b := 5) eσ505 (by omega)).trans (k481.trans (k298.trans (k7))))), k538.trans ((kq (a := 7) (b := 4) eσ507 (by omega)).trans ((kq (a := 7) (b := 4) eσ505 (by omega)).trans (k482.trans (k299.trans (k8))))), k539.trans ((kq (a := 2) (b := 4) eσ507 (by omega)).trans ((kq (a := 2) (b := 4) eσ505 (by omega)).trans (k483.trans (k300.trans (k9))))), k540.trans ((kq (a := 2) (b := 5) eσ507 (by omega)).trans ((kq (a := 2) (b := 5) eσ505 (by omega)).trans (k484.trans (k301.trans (k10))))), k541.trans ((kq (a := 2) (b := 6) eσ507 (by omega)).trans ((kq (a := 2) (b := 6) eσ505 (by omega)).trans (k485.trans (k302.trans (k11))))), k542.trans ((kq (a := 3) (b := 8) eσ507 (by omega)).trans ((kq (a := 3) (b := 8) eσ505 (by omega)).trans (k486.trans (k303.trans (k12)))))⟩)
            · have f544 := tB (σ477.1 3 11)
              have f546 := mt Int32.toInt_inj.mp c488
              exact hQ _ hσ477 (⟨k478.trans (k295.trans (k4)), k479.trans (k296.trans (k5)), k480.trans (k297.trans (k6)), k481.trans (k298.trans (k7)), k482.trans (k299.trans (k8)), k483.trans (k300.trans (k9)), k484.trans (k301.trans (k10)), k485.trans (k302.trans (k11)), k486.trans (k303.trans (k12))⟩)
      · have f548 : (193 : Int32).toInt = 193 := by decide
        have f549 := mt Int32.toInt_inj.mp c285
        unfold fX2_fail
        refine ⟨fun c550 => ?_, fun c550 => ?_⟩
        · have f553 := congrArg Int32.toInt c550
          intro σ554 eσ554
          have hσ554 : K1 σ0 σ554 := by rw [eσ554]; exact hσ2.u (Rg1.u_3_11 _) (by omega) (by omega)
          try dsimp only
          exact hQ _ hσ554 (⟨(kq (a := 3) (b := 6) eσ554 (by omega)).trans (k4), (kq (a := 9) (b := 9) eσ554 (by omega)).trans (k5), (kq (a := 9) (b := 10) eσ554 (by omega)).trans (k6), (kq (a := 6) (b := 5) eσ554 (by omega)).trans (k7), (kq (a := 7) (b := 4) eσ554 (by omega)).trans (k8), (kq (a := 2) (b := 4) eσ554 (by omega)).trans (k9), (kq (a := 2) (b := 5) eσ554 (by omega)).trans (k10), (kq (a := 2) (b := 6) eσ554 (by omega)).trans (k11), (kq (a := 3) (b := 8) eσ554 (by omega)).trans (k12)⟩)
        · have f557 := mt Int32.toInt_inj.mp c550
          try dsimp only
          exact hQ _ hσ2 (⟨k4, k5, k6, k7, k8, k9, k10, k11, k12⟩)
  · have f558 := tB (σ2.1 3 11)
    have f559 : (0 : Int32).toInt = 0 := by decide
    have f560 := mt Int32.toInt_inj.mp c16
    exact hQ _ hσ2 (⟨k4, k5, k6, k7, k8, k9, k10, k11, k12⟩)
set_option maxHeartbeats 4000000 in
theorem sX2_doCallOrder {N : Nat} (hN : 4294967400 ≤ N) {k1 : Nat} (hk1 : jobK k1) {Q : St → Prop} {σ0 σ : St} (hσ : K1 σ0 σ) (hQ : ∀ τ : St, K1 σ0 τ → (τ.1 9 9 = σ.1 9 9 ∧ τ.1 9 10 = σ.1 9 10 ∧ τ.1 6 5 = σ.1 6 5 ∧ τ.1 7 4 = σ.1 7 4 ∧ τ.1 2 4 = σ.1 2 4 ∧ τ.1 2 5 = σ.1 2 5 ∧ τ.1 2 6 = σ.1 2 6 ∧ τ.1 3 8 = σ.1 3 8) → Q τ) : fX2_doCallOrder N k1 Q σ := by
  unfold fX2_doCallOrder
  have kbhk1 := jobK_b hk1
  refine sX2_nextValue hN hk1 hσ (fun r13 σ1 hσ1 kk12 p14 => ?_)
  obtain ⟨k2, k3, k4, k5, k6, k7, k8, k9, k10, k11⟩ := kk12
  refine sX2_nextByte hN hσ1 (fun r27 σ15 hσ15 kk26 p28 => ?_)
  obtain ⟨k16, k17, k18, k19, k20, k21, k22, k23, k24, k25⟩ := kk26
  refine ⟨fun c29 => ?_, fun c29 => ?_⟩
  · have f30 := tB r27
    have f31 : (4 : Int32).toInt = 4 := by decide
    have f32 := Int32.le_iff_toInt_le.mp c29
    unfold fX2_doCallOrder_j22
    refine ⟨fun c33 => ?_, fun c33 => ?_⟩
    · have f34 := tB (σ15.1 3 11)
      have f35 : (0 : Int32).toInt = 0 := by decide
      have f36 := congrArg Int32.toInt c33
      have f38 := tB r13
      refine lo1_i (fun (y37 : Int32) (τ : St) => K1 σ0 τ ∧ τ.1 3 7 = σ15.1 3 7 ∧ τ.1 3 6 = σ15.1 3 6 ∧ τ.1 9 9 = σ15.1 9 9 ∧ τ.1 9 10 = σ15.1 9 10 ∧ τ.1 6 5 = σ15.1 6 5 ∧ τ.1 7 4 = σ15.1 7 4 ∧ τ.1 2 4 = σ15.1 2 4 ∧ τ.1 2 5 = σ15.1 2 5 ∧ τ.1 2 6 = σ15.1 2 6 ∧ τ.1 3 8 = σ15.1 3 8 ∧ 0 ≤ y37.toInt) (fun (y37 : Int32) (τ : St) => (2147483648 - y37.toInt).toNat) ?_ N (0 : Int32) σ15 ⟨hσ15, rfl, rfl, rfl, rfl, rfl, rfl, rfl, rfl, rfl, rfl, by omega⟩ (by (try dsimp only); omega)
      intro rr41 y44 σ43 hIσ43 ih42
      obtain ⟨hσ43, k45, k46, k47, k48, k49, k50, k51, k52, k53, k54, i55⟩ := hIσ43
      unfold fX2_doCallOrder_l33
      have f56 := tB y44
      refine ⟨fun c57 => ?_, fun c57 => ?_⟩
      · have f60 := Int32.le_iff_toInt_le.mp c57
        intro σ61 eσ61
        have hσ61 : K1 σ0 σ61 := by rw [eσ61]; exact hσ43.u (Rg1.r_3_6 (by omega) (by omega)) (by omega) (by omega)
        refine sX2_nextTarget hN hk1 hσ61 (fun r75 σ63 hσ63 kk74 p76 => ?_)
        obtain ⟨k64, k65, k66, k67, k68, k69, k70, k71, k72, k73⟩ := kk74
        refine ⟨fun c77 => ?_, fun c77 => ?_⟩
        · have f78 := tB (σ63.1 3 11)
          have f80 := congrArg Int32.toInt c77
          intro v81 ev81
          intro σ82 eσ82
          have kb83 := jobK_b hk1
          have hσ82 : K1 σ0 σ82 := by rw [eσ82]; exact hσ63.u (rg_jobK hk1) (by omega) (by omega)
          have f85 := tB r75
          refine sX2_callFunction hN hσ82 (fun σ86 hσ86 kk96 => ?_)
          obtain ⟨k87, k88, k89, k90, k91, k92, k93, k94, k95⟩ := kk96
          exact hQ _ hσ86 (⟨k88.trans ((kq (a := 9) (b := 9) eσ82 (by omega)).trans (k66.trans ((kq (a := 9) (b := 9) eσ61 (by omega)).trans (k47.trans (k18.trans (k4)))))), k89.trans ((kq (a := 9) (b := 10) eσ82 (by omega)).trans (k67.trans ((kq (a := 9) (b := 10) eσ61 (by omega)).trans (k48.trans (k19.trans (k5)))))), k90.trans ((kq (a := 6) (b := 5) eσ82 (by omega)).trans (k68.trans ((kq (a := 6) (b := 5) eσ61 (by omega)).trans (k49.trans (k20.trans (k6)))))), k91.trans ((kq (a := 7) (b := 4) eσ82 (by omega)).trans (k69.trans ((kq (a := 7) (b := 4) eσ61 (by omega)).trans (k50.trans (k21.trans (k7)))))), k92.trans ((kq (a := 2) (b := 4) eσ82 (by omega)).trans (k70.trans ((kq (a := 2) (b := 4) eσ61 (by omega)).trans (k51.trans (k22.trans (k8)))))), k93.trans ((kq (a := 2) (b := 5) eσ82 (by omega)).trans (k71.trans ((kq (a := 2) (b := 5) eσ61 (by omega)).trans (k52.trans (k23.trans (k9)))))), k94.trans ((kq (a := 2) (b := 6) eσ82 (by omega)).trans (k72.trans ((kq (a := 2) (b := 6) eσ61 (by omega)).trans (k53.trans (k24.trans (k10)))))), k95.trans ((kq (a := 3) (b := 8) eσ82 (by omega)).trans (k73.trans ((kq (a := 3) (b := 8) eσ61 (by omega)).trans (k54.trans (k25.trans (k11))))))⟩)
        · have f97 := tB (σ63.1 3 11)
          have f99 := mt Int32.toInt_inj.mp c77
          exact hQ _ hσ63 (⟨k66.trans ((kq (a := 9) (b := 9) eσ61 (by omega)).trans (k47.trans (k18.trans (k4)))), k67.trans ((kq (a := 9) (b := 10) eσ61 (by omega)).trans (k48.trans (k19.trans (k5)))), k68.trans ((kq (a := 6) (b := 5) eσ61 (by omega)).trans (k49.trans (k20.trans (k6)))), k69.trans ((kq (a := 7) (b := 4) eσ61 (by omega)).trans (k50.trans (k21.trans (k7)))), k70.trans ((kq (a := 2) (b := 4) eσ61 (by omega)).trans (k51.trans (k22.trans (k8)))), k71.trans ((kq (a := 2) (b := 5) eσ61 (by omega)).trans (k52.trans (k23.trans (k9)))), k72.trans ((kq (a := 2) (b := 6) eσ61 (by omega)).trans (k53.trans (k24.trans (k10)))), k73.trans ((kq (a := 3) (b := 8) eσ61 (by omega)).trans (k54.trans (k25.trans (k11))))⟩)
      · have f102 := mt Int32.le_iff_toInt_le.mpr c57
        refine sX2_nextValue hN hk1 hσ43 (fun r115 σ103 hσ103 kk114 p116 => ?_)
        obtain ⟨k104, k105, k106, k107, k108, k109, k110, k111, k112, k113⟩ := kk114
        refine ⟨inI (by omega) (by omega), ?_⟩
        intro σ118 eσ118
        have hσ118 : K1 σ0 σ118 := by rw [eσ118]; exact hσ103.u (Rg1.ra_17 _ _) (by omega) (by omega)
        intro v119 ev119
        have f120 := tB v119
        have f122 : (1 : Int32).toInt = 1 := by decide
        have f123 := tA y44 (1 : Int32)
        have f124 := tB (y44 + 1)
        have f125 := congrArg Int32.toInt ev119
        exact ih42 v119 σ118 ⟨hσ118, (kq (a := 3) (b := 7) eσ118 (by omega)).trans (k104.trans (k45)), (kq (a := 3) (b := 6) eσ118 (by omega)).trans (k105.trans (k46)), (kq (a := 9) (b := 9) eσ118 (by omega)).trans (k106.trans (k47)), (kq (a := 9) (b := 10) eσ118 (by omega)).trans (k107.trans (k48)), (kq (a := 6) (b := 5) eσ118 (by omega)).trans (k108.trans (k49)), (kq (a := 7) (b := 4) eσ118 (by omega)).trans (k109.trans (k50)), (kq (a := 2) (b := 4) eσ118 (by omega)).trans (k110.trans (k51)), (kq (a := 2) (b := 5) eσ118 (by omega)).trans (k111.trans (k52)), (kq (a := 2) (b := 6) eσ118 (by omega)).trans (k112.trans (k53)), (kq (a := 3) (b := 8) eσ118 (by omega)).trans (k113.trans (k54)), by omega⟩ (by (try dsimp only); omega)
    · have f126 := tB (σ15.1 3 11)
      have f127 : (0 : Int32).toInt = 0 := by decide
      have f128 := mt Int32.toInt_inj.mp c33
      exact hQ _ hσ15 (⟨k18.trans (k4), k19.trans (k5), k20.trans (k6), k21.trans (k7), k22.trans (k8), k23.trans (k9), k24.trans (k10), k25.trans (k11)⟩)
  · have f129 := tB r27
    have f130 : (4 : Int32).toInt = 4 := by decide
    have f131 := mt Int32.le_iff_toInt_le.mpr c29
    unfold fX2_fail
    refine ⟨fun c132 => ?_, fun c132 => ?_⟩
    · have f133 := tB (σ15.1 3 11)
      have f134 : (0 : Int32).toInt = 0 := by decide
      have f135 := congrArg Int32.toInt c132
      intro σ136 eσ136
      have hσ136 : K1 σ0 σ136 := by rw [eσ136]; exact hσ15.u (Rg1.u_3_11 _) (by omega) (by omega)
      try dsimp only
      unfold fX2_doCallOrder_j22
      refine ⟨fun c137 => ?_, fun c137 => ?_⟩
      · have f138 := tB (σ136.1 3 11)
        have q139 : σ136.1 3 11 = 6 := by rw [eσ136, u1_at]; exact if_pos rfl
        have f140 := congrArg Int32.toInt q139
        have f141 : (6 : Int32).toInt = 6 := by decide
        have f143 := congrArg Int32.toInt c137
        have f145 := tB r13
        refine lo1_i (fun (y144 : Int32) (τ : St) => K1 σ0 τ ∧ τ.1 3 7 = σ136.1 3 7 ∧ τ.1 3 6 = σ136.1 3 6 ∧ τ.1 9 9 = σ136.1 9 9 ∧ τ.1 9 10 = σ136.1 9 10 ∧ τ.1 6 5 = σ136.1 6 5 ∧ τ.1 7 4 = σ136.1 7 4 ∧ τ.1 2 4 = σ136.1 2 4 ∧ τ.1 2 5 = σ136.1 2 5 ∧ τ.1 2 6 = σ136.1 2 6 ∧ τ.1 3 8 = σ136.1 3 8 ∧ 0 ≤ y144.toInt) (fun (y144 : Int32) (τ : St) => (2147483648 - y144.toInt).toNat) ?_ N (0 : Int32) σ136 ⟨hσ136, rfl, rfl, rfl, rfl, rfl, rfl, rfl, rfl, rfl, rfl, by omega⟩ (by (try dsimp only); omega)
        intro rr148 y151 σ150 hIσ150 ih149
        obtain ⟨hσ150, k152, k153, k154, k155, k156, k157, k158, k159, k160, k161, i162⟩ := hIσ150
        unfold fX2_doCallOrder_l33
        have f163 := tB y151
        refine ⟨fun c164 => ?_, fun c164 => ?_⟩
        · have f167 := Int32.le_iff_toInt_le.mp c164
          intro σ168 eσ168
          have hσ168 : K1 σ0 σ168 := by rw [eσ168]; exact hσ150.u (Rg1.r_3_6 (by omega) (by omega)) (by omega) (by omega)
          refine sX2_nextTarget hN hk1 hσ168 (fun r182 σ170 hσ170 kk181 p183 => ?_)
          obtain ⟨k171, k172, k173, k174, k175, k176, k177, k178, k179, k180⟩ := kk181
          refine ⟨fun c184 => ?_, fun c184 => ?_⟩
          · have f185 := tB (σ170.1 3 11)
            have f187 := congrArg Int32.toInt c184
            intro v188 ev188
            intro σ189 eσ189
            have kb190 := jobK_b hk1
            have hσ189 : K1 σ0 σ189 := by rw [eσ189]; exact hσ170.u (rg_jobK hk1) (by omega) (by omega)
            have f192 := tB r182
            refine sX2_callFunction hN hσ189 (fun σ193 hσ193 kk203 => ?_)
            obtain ⟨k194, k195, k196, k197, k198, k199, k200, k201, k202⟩ := kk203
            exact hQ _ hσ193 (⟨k195.trans ((kq (a := 9) (b := 9) eσ189 (by omega)).trans (k173.trans ((kq (a := 9) (b := 9) eσ168 (by omega)).trans (k154.trans ((kq (a := 9) (b := 9) eσ136 (by omega)).trans (k18.trans (k4))))))), k196.trans ((kq (a := 9) (b := 10) eσ189 (by omega)).trans (k174.trans ((kq (a := 9) (b := 10) eσ168 (by omega)).trans (k155.trans ((kq (a := 9) (b := 10) eσ136 (by omega)).trans (k19.trans (k5))))))), k197.trans ((kq (a := 6) (b := 5) eσ189 (by omega)).trans (k175.trans ((kq (a := 6) (b := 5) eσ168 (by omega)).trans (k156.trans ((kq (a := 6) (b := 5) eσ136 (by omega)).trans (k20.trans (k6))))))), k198.trans ((kq (a := 7) (b := 4) eσ189 (by omega)).trans (k176.trans ((kq (a := 7) (b := 4) eσ168 (by omega)).trans (k157.trans ((kq (a := 7) (b := 4) eσ136 (by omega)).trans (k21.trans (k7))))))), k199.trans ((kq (a := 2) (b := 4) eσ189 (by omega)).trans (k177.trans ((kq (a := 2) (b := 4) eσ168 (by omega)).trans (k158.trans ((kq (a := 2) (b := 4) eσ136 (by omega)).trans (k22.trans (k8))))))), k200.trans ((kq (a := 2) (b := 5) eσ189 (by omega)).trans (k178.trans ((kq (a := 2) (b := 5) eσ168 (by omega)).trans (k159.trans ((kq (a := 2) (b := 5) eσ136 (by omega)).trans (k23.trans (k9))))))), k201.trans ((kq (a := 2) (b := 6) eσ189 (by omega)).trans (k179.trans ((kq (a := 2) (b := 6) eσ168 (by omega)).trans (k160.trans ((kq (a := 2) (b := 6) eσ136 (by omega)).trans (k24.trans (k10))))))), k202.trans ((kq (a := 3) (b := 8) eσ189 (by omega)).trans (k180.trans ((kq (a := 3) (b := 8) eσ168 (by omega)).trans (k161.trans ((kq (a := 3) (b := 8) eσ136 (by omega)).trans (k25.trans (k11)))))))⟩)
          · have f204 := tB (σ170.1 3 11)
            have f206 := mt Int32.toInt_inj.mp c184
            exact hQ _ hσ170 (⟨k173.trans ((kq (a := 9) (b := 9) eσ168 (by omega)).trans (k154.trans ((kq (a := 9) (b := 9) eσ136 (by omega)).trans (k18.trans (k4))))), k174.trans ((kq (a := 9) (b := 10) eσ168 (by omega)).trans (k155.trans ((kq (a := 9) (b := 10) eσ136 (by omega)).trans (k19.trans (k5))))), k175.trans ((kq (a := 6) (b := 5) eσ168 (by omega)).trans (k156.trans ((kq (a := 6) (b := 5) eσ136 (by omega)).trans (k20.trans (k6))))), k176.trans ((kq (a := 7) (b := 4) eσ168 (by omega)).trans (k157.trans ((kq (a := 7) (b := 4) eσ136 (by omega)).trans (k21.trans (k7))))), k177.trans ((kq (a := 2) (b := 4) eσ168 (by omega)).trans (k158.trans ((kq (a := 2) (b := 4) eσ136 (by omega)).trans (k22.trans (k8))))), k178.trans ((kq (a := 2) (b := 5) eσ168 (by omega)).trans (k159.trans ((kq (a := 2) (b := 5) eσ136 (by omega)).trans (k23.trans (k9))))), k179.trans ((kq (a := 2) (b := 6) eσ168 (by omega)).trans (k160.trans ((kq (a := 2) (b := 6) eσ136 (by omega)).trans (k24.trans (k10))))), k180.trans ((kq (a := 3) (b := 8) eσ168 (by omega)).trans (k161.trans ((kq (a := 3) (b := 8) eσ136 (by omega)).trans (k25.trans (k11)))))⟩)
        · have f209 := mt Int32.le_iff_toInt_le.mpr c164
          refine sX2_nextValue hN hk1 hσ150 (fun r222 σ210 hσ210 kk221 p223 => ?_)
          obtain ⟨k211, k212, k213, k214, k215, k216, k217, k218, k219, k220⟩ := kk221
          refine ⟨inI (by omega) (by omega), ?_⟩
          intro σ225 eσ225
          have hσ225 : K1 σ0 σ225 := by rw [eσ225]; exact hσ210.u (Rg1.ra_17 _ _) (by omega) (by omega)
          intro v226 ev226
          have f227 := tB v226
          have f229 : (1 : Int32).toInt = 1 := by decide
          have f230 := tA y151 (1 : Int32)
          have f231 := tB (y151 + 1)
          have f232 := congrArg Int32.toInt ev226
          exact ih149 v226 σ225 ⟨hσ225, (kq (a := 3) (b := 7) eσ225 (by omega)).trans (k211.trans (k152)), (kq (a := 3) (b := 6) eσ225 (by omega)).trans (k212.trans (k153)), (kq (a := 9) (b := 9) eσ225 (by omega)).trans (k213.trans (k154)), (kq (a := 9) (b := 10) eσ225 (by omega)).trans (k214.trans (k155)), (kq (a := 6) (b := 5) eσ225 (by omega)).trans (k215.trans (k156)), (kq (a := 7) (b := 4) eσ225 (by omega)).trans (k216.trans (k157)), (kq (a := 2) (b := 4) eσ225 (by omega)).trans (k217.trans (k158)), (kq (a := 2) (b := 5) eσ225 (by omega)).trans (k218.trans (k159)), (kq (a := 2) (b := 6) eσ225 (by omega)).trans (k219.trans (k160)), (kq (a := 3) (b := 8) eσ225 (by omega)).trans (k220.trans (k161)), by omega⟩ (by (try dsimp only); omega)
      · have f233 := tB (σ136.1 3 11)
        have q234 : σ136.1 3 11 = 6 := by rw [eσ136, u1_at]; exact if_pos rfl
        have f235 := congrArg Int32.toInt q234
        have f236 : (6 : Int32).toInt = 6 := by decide
        have f238 := mt Int32.toInt_inj.mp c137
        exact hQ _ hσ136 (⟨(kq (a := 9) (b := 9) eσ136 (by omega)).trans (k18.trans (k4)), (kq (a := 9) (b := 10) eσ136 (by omega)).trans (k19.trans (k5)), (kq (a := 6) (b := 5) eσ136 (by omega)).trans (k20.trans (k6)), (kq (a := 7) (b := 4) eσ136 (by omega)).trans (k21.trans (k7)), (kq (a := 2) (b := 4) eσ136 (by omega)).trans (k22.trans (k8)), (kq (a := 2) (b := 5) eσ136 (by omega)).trans (k23.trans (k9)), (kq (a := 2) (b := 6) eσ136 (by omega)).trans (k24.trans (k10)), (kq (a := 3) (b := 8) eσ136 (by omega)).trans (k25.trans (k11))⟩)
    · have f239 := tB (σ15.1 3 11)
      have f240 : (0 : Int32).toInt = 0 := by decide
      have f241 := mt Int32.toInt_inj.mp c132
      try dsimp only
      unfold fX2_doCallOrder_j22
      refine ⟨fun c242 => ?_, fun c242 => ?_⟩
      · have f245 := congrArg Int32.toInt c242
        have f247 := tB r13
        refine lo1_i (fun (y246 : Int32) (τ : St) => K1 σ0 τ ∧ τ.1 3 7 = σ15.1 3 7 ∧ τ.1 3 6 = σ15.1 3 6 ∧ τ.1 9 9 = σ15.1 9 9 ∧ τ.1 9 10 = σ15.1 9 10 ∧ τ.1 6 5 = σ15.1 6 5 ∧ τ.1 7 4 = σ15.1 7 4 ∧ τ.1 2 4 = σ15.1 2 4 ∧ τ.1 2 5 = σ15.1 2 5 ∧ τ.1 2 6 = σ15.1 2 6 ∧ τ.1 3 8 = σ15.1 3 8 ∧ 0 ≤ y246.toInt) (fun (y246 : Int32) (τ : St) => (2147483648 - y246.toInt).toNat) ?_ N (0 : Int32) σ15 ⟨hσ15, rfl, rfl, rfl, rfl, rfl, rfl, rfl, rfl, rfl, rfl, by omega⟩ (by (try dsimp only); omega)
        intro rr250 y253 σ252 hIσ252 ih251
        obtain ⟨hσ252, k254, k255, k256, k257, k258, k259, k260, k261, k262, k263, i264⟩ := hIσ252
        unfold fX2_doCallOrder_l33
        have f265 := tB y253
        refine ⟨fun c266 => ?_, fun c266 => ?_⟩
        · have f269 := Int32.le_iff_toInt_le.mp c266
          intro σ270 eσ270
          have hσ270 : K1 σ0 σ270 := by rw [eσ270]; exact hσ252.u (Rg1.r_3_6 (by omega) (by omega)) (by omega) (by omega)
          refine sX2_nextTarget hN hk1 hσ270 (fun r284 σ272 hσ272 kk283 p285 => ?_)
          obtain ⟨k273, k274, k275, k276, k277, k278, k279, k280, k281, k282⟩ := kk283
          refine ⟨fun c286 => ?_, fun c286 => ?_⟩
          · have f287 := tB (σ272.1 3 11)
            have f289 := congrArg Int32.toInt c286
            intro v290 ev290
            intro σ291 eσ291
            have kb292 := jobK_b hk1
            have hσ291 : K1 σ0 σ291 := by rw [eσ291]; exact hσ272.u (rg_jobK hk1) (by omega) (by omega)
            have f294 := tB r284
            refine sX2_callFunction hN hσ291 (fun σ295 hσ295 kk305 => ?_)
            obtain ⟨k296, k297, k298, k299, k300, k301, k302, k303, k304⟩ := kk305
            exact hQ _ hσ295 (⟨k297.trans ((kq (a := 9) (b := 9) eσ291 (by omega)).trans (k275.trans ((kq (a := 9) (b := 9) eσ270 (by omega)).trans (k256.trans (k18.trans (k4)))))), k298.trans ((kq (a := 9) (b := 10) eσ291 (by omega)).trans (k276.trans ((kq (a := 9) (b := 10) eσ270 (by omega)).trans (k257.trans (k19.trans (k5)))))), k299.trans ((kq (a := 6) (b := 5) eσ291 (by omega)).trans (k277.trans ((kq (a := 6) (b := 5) eσ270 (by omega)).trans (k258.trans (k20.trans (k6)))))), k300.trans ((kq (a := 7) (b := 4) eσ291 (by omega)).trans (k278.trans ((kq (a := 7) (b := 4) eσ270 (by omega)).trans (k259.trans (k21.trans (k7)))))), k301.trans ((kq (a := 2) (b := 4) eσ291 (by omega)).trans (k279.trans ((kq (a := 2) (b := 4) eσ270 (by omega)).trans (k260.trans (k22.trans (k8)))))), k302.trans ((kq (a := 2) (b := 5) eσ291 (by omega)).trans (k280.trans ((kq (a := 2) (b := 5) eσ270 (by omega)).trans (k261.trans (k23.trans (k9)))))), k303.trans ((kq (a := 2) (b := 6) eσ291 (by omega)).trans (k281.trans ((kq (a := 2) (b := 6) eσ270 (by omega)).trans (k262.trans (k24.trans (k10)))))), k304.trans ((kq (a := 3) (b := 8) eσ291 (by omega)).trans (k282.trans ((kq (a := 3) (b := 8) eσ270 (by omega)).trans (k263.trans (k25.trans (k11))))))⟩)
          · have f306 := tB (σ272.1 3 11)
            have f308 := mt Int32.toInt_inj.mp c286
            exact hQ _ hσ272 (⟨k275.trans ((kq (a := 9) (b := 9) eσ270 (by omega)).trans (k256.trans (k18.trans (k4)))), k276.trans ((kq (a := 9) (b := 10) eσ270 (by omega)).trans (k257.trans (k19.trans (k5)))), k277.trans ((kq (a := 6) (b := 5) eσ270 (by omega)).trans (k258.trans (k20.trans (k6)))), k278.trans ((kq (a := 7) (b := 4) eσ270 (by omega)).trans (k259.trans (k21.trans (k7)))), k279.trans ((kq (a := 2) (b := 4) eσ270 (by omega)).trans (k260.trans (k22.trans (k8)))), k280.trans ((kq (a := 2) (b := 5) eσ270 (by omega)).trans (k261.trans (k23.trans (k9)))), k281.trans ((kq (a := 2) (b := 6) eσ270 (by omega)).trans (k262.trans (k24.trans (k10)))), k282.trans ((kq (a := 3) (b := 8) eσ270 (by omega)).trans (k263.trans (k25.trans (k11))))⟩)
        · have f311 := mt Int32.le_iff_toInt_le.mpr c266
          refine sX2_nextValue hN hk1 hσ252 (fun r324 σ312 hσ312 kk323 p325 => ?_)
          obtain ⟨k313, k314, k315, k316, k317, k318, k319, k320, k321, k322⟩ := kk323
          refine ⟨inI (by omega) (by omega), ?_⟩
          intro σ327 eσ327
          have hσ327 : K1 σ0 σ327 := by rw [eσ327]; exact hσ312.u (Rg1.ra_17 _ _) (by omega) (by omega)
          intro v328 ev328
          have f329 := tB v328
          have f331 : (1 : Int32).toInt = 1 := by decide
          have f332 := tA y253 (1 : Int32)
          have f333 := tB (y253 + 1)
          have f334 := congrArg Int32.toInt ev328
          exact ih251 v328 σ327 ⟨hσ327, (kq (a := 3) (b := 7) eσ327 (by omega)).trans (k313.trans (k254)), (kq (a := 3) (b := 6) eσ327 (by omega)).trans (k314.trans (k255)), (kq (a := 9) (b := 9) eσ327 (by omega)).trans (k315.trans (k256)), (kq (a := 9) (b := 10) eσ327 (by omega)).trans (k316.trans (k257)), (kq (a := 6) (b := 5) eσ327 (by omega)).trans (k317.trans (k258)), (kq (a := 7) (b := 4) eσ327 (by omega)).trans (k318.trans (k259)), (kq (a := 2) (b := 4) eσ327 (by omega)).trans (k319.trans (k260)), (kq (a := 2) (b := 5) eσ327 (by omega)).trans (k320.trans (k261)), (kq (a := 2) (b := 6) eσ327 (by omega)).trans (k321.trans (k262)), (kq (a := 3) (b := 8) eσ327 (by omega)).trans (k322.trans (k263)), by omega⟩ (by (try dsimp only); omega)
      · have f337 := mt Int32.toInt_inj.mp c242
        exact hQ _ hσ15 (⟨k18.trans (k4), k19.trans (k5), k20.trans (k6), k21.trans (k7), k22.trans (k8), k23.trans (k9), k24.trans (k10), k25.trans (k11)⟩)
set_option maxHeartbeats 4000000 in
theorem sX2_nextDistance {N : Nat} (hN : 4294967400 ≤ N) {Q : Int32 → St → Prop} {σ0 σ : St} (hσ : K1 σ0 σ) (hQ : ∀ (r : Int32) (τ : St), K1 σ0 τ → (τ.1 3 7 = σ.1 3 7 ∧ τ.1 3 6 = σ.1 3 6 ∧ τ.1 9 9 = σ.1 9 9 ∧ τ.1 9 10 = σ.1 9 10 ∧ τ.1 6 5 = σ.1 6 5 ∧ τ.1 7 4 = σ.1 7 4 ∧ τ.1 2 4 = σ.1 2 4 ∧ τ.1 2 5 = σ.1 2 5 ∧ τ.1 2 6 = σ.1 2 6 ∧ τ.1 3 8 = σ.1 3 8) → True → Q r τ) : fX2_nextDistance N  Q σ := by
  unfold fX2_nextDistance
  refine sX2_nextByte hN hσ (fun r13 σ1 hσ1 kk12 p14 => ?_)
  obtain ⟨k2, k3, k4, k5, k6, k7, k8, k9, k10, k11⟩ := kk12
  intro v15 ev15
  refine sX2_nextByte hN hσ1 (fun r28 σ16 hσ16 kk27 p29 => ?_)
  obtain ⟨k17, k18, k19, k20, k21, k22, k23, k24, k25, k26⟩ := kk27
  exact hQ _ _ hσ16 (⟨k17.trans (k2), k18.trans (k3), k19.trans (k4), k20.trans (k5), k21.trans (k6), k22.trans (k7), k23.trans (k8), k24.trans (k9), k25.trans (k10), k26.trans (k11)⟩) trivial
set_option maxHeartbeats 4000000 in
theorem sX2_valueFor {N : Nat} (hN : 4294967400 ≤ N) {x1 : Int32} {x2 : Int32} {x3 : Int32} {Q : Int32 → St → Prop} {σ0 σ : St} (hσ : K1 σ0 σ) (hQ : ∀ (r : Int32) (τ : St), K1 σ0 τ → (τ.1 3 7 = σ.1 3 7 ∧ τ.1 3 6 = σ.1 3 6 ∧ τ.1 9 9 = σ.1 9 9 ∧ τ.1 9 10 = σ.1 9 10 ∧ τ.1 6 5 = σ.1 6 5 ∧ τ.1 7 4 = σ.1 7 4 ∧ τ.1 2 4 = σ.1 2 4 ∧ τ.1 2 5 = σ.1 2 5 ∧ τ.1 2 6 = σ.1 2 6 ∧ τ.1 3 8 = σ.1 3 8) → True → Q r τ) : fX2_valueFor N x1 x2 x3 Q σ := by
  unfold fX2_valueFor
  refine ⟨fun c1 => ?_, fun c1 => ?_⟩
  · have f2 := tB x1
    have f3 : (7 : Int32).toInt = 7 := by decide
    have f4 := congrArg Int32.toInt c1
    exact hQ _ _ hσ (⟨rfl, rfl, rfl, rfl, rfl, rfl, rfl, rfl, rfl, rfl⟩) trivial
  · have f5 := tB x1
    have f6 : (7 : Int32).toInt = 7 := by decide
    have f7 := mt Int32.toInt_inj.mp c1
    refine ⟨fun c8 => ?_, fun c8 => ?_⟩
    · have f10 : (8 : Int32).toInt = 8 := by decide
      have f11 := congrArg Int32.toInt c8
      exact hQ _ _ hσ (⟨rfl, rfl, rfl, rfl, rfl, rfl, rfl, rfl, rfl, rfl⟩) trivial
    · have f13 : (8 : Int32).toInt = 8 := by decide
      have f14 := mt Int32.toInt_inj.mp c8
      refine ⟨fun c15 => ?_, fun c15 => ?_⟩
      · have f17 : (9 : Int32).toInt = 9 := by decide
        have f18 := congrArg Int32.toInt c15
        exact hQ _ _ hσ (⟨rfl, rfl, rfl, rfl, rfl, rfl, rfl, rfl, rfl, rfl⟩) trivial
      · have f20 : (9 : Int32).toInt = 9 := by decide
        have f21 := mt Int32.toInt_inj.mp c15
        refine ⟨fun c22 => ?_, fun c22 => ?_⟩
        · have f24 : (13 : Int32).toInt = 13 := by decide
          have f25 := congrArg Int32.toInt c22
          have f26 := tB x2
          refine sX2_readByte hN hσ (fun r39 σ27 hσ27 kk38 p40 => ?_)
          obtain ⟨k28, k29, k30, k31, k32, k33, k34, k35, k36, k37⟩ := kk38
          exact hQ _ _ hσ27 (⟨k28, k29, k30, k31, k32, k33, k34, k35, k36, k37⟩) trivial
        · have f42 : (13 : Int32).toInt = 13 := by decide
          have f43 := mt Int32.toInt_inj.mp c22
          refine ⟨fun c44 => ?_, fun c44 => ?_⟩
          · have f46 : (14 : Int32).toInt = 14 := by decide
            have f47 := congrArg Int32.toInt c44
            have f48 := tB x2
            refine sX2_readFour hN hσ (fun r61 σ49 hσ49 kk60 p62 => ?_)
            obtain ⟨k50, k51, k52, k53, k54, k55, k56, k57, k58, k59⟩ := kk60
            exact hQ _ _ hσ49 (⟨k50, k51, k52, k53, k54, k55, k56, k57, k58, k59⟩) trivial
          · have f64 : (14 : Int32).toInt = 14 := by decide
            have f65 := mt Int32.toInt_inj.mp c44
            unfold fX2_valueFor_j70
            exact hQ _ _ hσ (⟨rfl, rfl, rfl, rfl, rfl, rfl, rfl, rfl, rfl, rfl⟩) trivial
set_option maxHeartbeats 4000000 in
theorem sX2_goesThere {N : Nat} (hN : 4294967400 ≤ N) {x0 : Int32} {x1 : Int32} {x2 : Int32} {Q : Int32 → St → Prop} {σ0 σ : St} (hσ : K1 σ0 σ) (hQ : ∀ r : Int32, True → Q r σ) : fX2_goesThere N x0 x1 x2 Q σ := by
  unfold fX2_goesThere
  refine ⟨fun c1 => ?_, fun c1 => ?_⟩
  · have f2 := tB x0
    have f3 : (10 : Int32).toInt = 10 := by decide
    have f4 := congrArg Int32.toInt c1
    refine ⟨fun c5 => ?_, fun c5 => ?_⟩
    · have f6 := tB x1
      have f7 : (0 : Int32).toInt = 0 := by decide
      have f8 := congrArg Int32.toInt c5
      exact hQ _ trivial
    · have f9 := tB x1
      have f10 : (0 : Int32).toInt = 0 := by decide
      have f11 := mt Int32.toInt_inj.mp c5
      exact hQ _ trivial
  · have f12 := tB x0
    have f13 : (10 : Int32).toInt = 10 := by decide
    have f14 := mt Int32.toInt_inj.mp c1
    refine ⟨fun c15 => ?_, fun c15 => ?_⟩
    · have f17 : (11 : Int32).toInt = 11 := by decide
      have f18 := congrArg Int32.toInt c15
      refine ⟨fun c19 => ?_, fun c19 => ?_⟩
      · have f20 := tB x1
        have f21 : (0 : Int32).toInt = 0 := by decide
        have f22 := congrArg Int32.toInt c19
        exact hQ _ trivial
      · have f23 := tB x1
        have f24 : (0 : Int32).toInt = 0 := by decide
        have f25 := mt Int32.toInt_inj.mp c19
        exact hQ _ trivial
    · have f27 : (11 : Int32).toInt = 11 := by decide
      have f28 := mt Int32.toInt_inj.mp c15
      refine ⟨fun c29 => ?_, fun c29 => ?_⟩
      · have f30 := tB x2
        have f31 := tB x1
        have f32 := Int32.le_iff_toInt_le.mp c29
        exact hQ _ trivial
      · have f33 := tB x2
        have f34 := tB x1
        have f35 := mt Int32.le_iff_toInt_le.mpr c29
        exact hQ _ trivial
set_option maxHeartbeats 4000000 in
theorem sX2_endFunction {N : Nat} (hN : 4294967400 ≤ N) {k1 : Nat} {x2 : Int32} (hk1 : jobK k1) {Q : St → Prop} {σ0 σ : St} (hs3_7 : 1 ≤ (σ.1 3 7).toInt) (hσ : K1 σ0 σ) (hQ : ∀ τ : St, K1 σ0 τ → (τ.1 3 11 = σ.1 3 11 ∧ τ.1 3 6 = σ.1 3 6 ∧ τ.1 9 9 = σ.1 9 9 ∧ τ.1 9 10 = σ.1 9 10 ∧ τ.1 6 5 = σ.1 6 5 ∧ τ.1 7 4 = σ.1 7 4 ∧ τ.1 2 4 = σ.1 2 4 ∧ τ.1 2 5 = σ.1 2 5 ∧ τ.1 2 6 = σ.1 2 6 ∧ τ.1 3 8 = σ.1 3 8) → Q τ) : fX2_endFunction N k1 x2 Q σ := by
  unfold fX2_endFunction
  have kbhk1 := jobK_b hk1
  intro σ1 eσ1
  have hσ1 : K1 σ0 σ1 := by rw [eσ1]; exact hσ.u (Rg1.u_5_6 _) (by omega) (by omega)
  intro v2 ev2
  intro σ3 eσ3
  have f4 := tB v2
  have f5 := K1.g_3_7 hσ1
  have q6 : σ1.1 3 7 = σ.1 3 7 := by rw [eσ1]; exact congrFun (u1_ne (by decide)) 7
  have f7 := congrArg Int32.toInt q6
  have f8 := K1.g_3_7 hσ
  have f9 : (1 : Int32).toInt = 1 := by decide
  have f10 := tS (σ1.1 3 7) (1 : Int32)
  have f11 := tB ((σ1.1 3 7) - 1)
  have f12 := congrArg Int32.toInt ev2
  have hσ3 : K1 σ0 σ3 := by rw [eσ3]; exact hσ1.u (Rg1.r_3_7 (by omega) (by omega)) (by omega) (by omega)
  refine ⟨fun c13 => ?_, fun c13 => ?_⟩
  · have f14 := K1.g_3_7 hσ3
    have q15 : σ3.1 3 7 = v2 := by rw [eσ3, u1_at]; exact if_pos rfl
    have f16 := congrArg Int32.toInt q15
    have f23 : (0 : Int32).toInt = 0 := by decide
    have f24 := Int32.le_iff_toInt_le.mp c13
    exact hQ _ hσ3 (⟨(kq (a := 3) (b := 11) eσ3 (by omega)).trans ((kq (a := 3) (b := 11) eσ1 (by omega))), (kq (a := 3) (b := 6) eσ3 (by omega)).trans ((kq (a := 3) (b := 6) eσ1 (by omega))), (kq (a := 9) (b := 9) eσ3 (by omega)).trans ((kq (a := 9) (b := 9) eσ1 (by omega))), (kq (a := 9) (b := 10) eσ3 (by omega)).trans ((kq (a := 9) (b := 10) eσ1 (by omega))), (kq (a := 6) (b := 5) eσ3 (by omega)).trans ((kq (a := 6) (b := 5) eσ1 (by omega))), (kq (a := 7) (b := 4) eσ3 (by omega)).trans ((kq (a := 7) (b := 4) eσ1 (by omega))), (kq (a := 2) (b := 4) eσ3 (by omega)).trans ((kq (a := 2) (b := 4) eσ1 (by omega))), (kq (a := 2) (b := 5) eσ3 (by omega)).trans ((kq (a := 2) (b := 5) eσ1 (by omega))), (kq (a := 2) (b := 6) eσ3 (by omega)).trans ((kq (a := 2) (b := 6) eσ1 (by omega))), (kq (a := 3) (b := 8) eσ3 (by omega)).trans ((kq (a := 3) (b := 8) eσ1 (by omega)))⟩)
  · have f25 := K1.g_3_7 hσ3
    have q26 : σ3.1 3 7 = v2 := by rw [eσ3, u1_at]; exact if_pos rfl
    have f27 := congrArg Int32.toInt q26
    have f34 : (0 : Int32).toInt = 0 := by decide
    have f35 := mt Int32.le_iff_toInt_le.mpr c13
    have f38 := tS (σ3.1 3 7) (1 : Int32)
    have f39 := tB ((σ3.1 3 7) - 1)
    have g40 : vp_in ((σ3.1 3 7) - 1) 40 := inI (by omega) (by omega)
    refine ⟨g40, ?_⟩
    have hk41 : jobK (43 + ((σ3.1 3 7) - 1).toNatClampNeg) := (jobK_in g40)
    have hk41x := vp_lt g40
    have hk41b := jobK_b hk41
    have f42 := tB (σ3.1 k1 7)
    have q43 : σ3.1 k1 7 = σ1.1 k1 7 := by rw [eσ3]; exact congrFun (u1_ne (by omega)) 7
    have f44 := congrArg Int32.toInt q43
    have f45 := tB (σ1.1 k1 7)
    have q46 : σ1.1 k1 7 = σ.1 k1 7 := by rw [eσ1]; exact congrFun (u1_ne (by omega)) 7
    have f47 := congrArg Int32.toInt q46
    have f48 := tB (σ.1 k1 7)
    have f49 := tB x2
    refine sX1_setLocal hN hk41 hσ3 (fun σ50 hσ50 kk62 => ?_)
    obtain ⟨k51, k52, k53, k54, k55, k56, k57, k58, k59, k60, k61⟩ := kk62
    exact hQ _ hσ50 (⟨k52.trans ((kq (a := 3) (b := 11) eσ3 (by omega)).trans ((kq (a := 3) (b := 11) eσ1 (by omega)))), k53.trans ((kq (a := 3) (b := 6) eσ3 (by omega)).trans ((kq (a := 3) (b := 6) eσ1 (by omega)))), k54.trans ((kq (a := 9) (b := 9) eσ3 (by omega)).trans ((kq (a := 9) (b := 9) eσ1 (by omega)))), k55.trans ((kq (a := 9) (b := 10) eσ3 (by omega)).trans ((kq (a := 9) (b := 10) eσ1 (by omega)))), k56.trans ((kq (a := 6) (b := 5) eσ3 (by omega)).trans ((kq (a := 6) (b := 5) eσ1 (by omega)))), k57.trans ((kq (a := 7) (b := 4) eσ3 (by omega)).trans ((kq (a := 7) (b := 4) eσ1 (by omega)))), k58.trans ((kq (a := 2) (b := 4) eσ3 (by omega)).trans ((kq (a := 2) (b := 4) eσ1 (by omega)))), k59.trans ((kq (a := 2) (b := 5) eσ3 (by omega)).trans ((kq (a := 2) (b := 5) eσ1 (by omega)))), k60.trans ((kq (a := 2) (b := 6) eσ3 (by omega)).trans ((kq (a := 2) (b := 6) eσ1 (by omega)))), k61.trans ((kq (a := 3) (b := 8) eσ3 (by omega)).trans ((kq (a := 3) (b := 8) eσ1 (by omega))))⟩)
set_option maxHeartbeats 4000000 in
theorem sX2_putOut {N : Nat} (hN : 4294967400 ≤ N) {x1 : Int32} {Q : St → Prop} {σ0 σ : St} (hσ : K1 σ0 σ) (hQ : ∀ τ : St, K1 σ0 τ → (τ.1 3 7 = σ.1 3 7 ∧ τ.1 3 6 = σ.1 3 6 ∧ τ.1 9 9 = σ.1 9 9 ∧ τ.1 9 10 = σ.1 9 10 ∧ τ.1 6 5 = σ.1 6 5 ∧ τ.1 7 4 = σ.1 7 4 ∧ τ.1 2 4 = σ.1 2 4 ∧ τ.1 2 5 = σ.1 2 5 ∧ τ.1 2 6 = σ.1 2 6) → Q τ) : fX2_putOut N x1 Q σ := by
  unfold fX2_putOut
  refine ⟨fun c1 => ?_, fun c1 => ?_⟩
  · have f2 := K1.g_3_8 hσ
    have f3 : (1000 : Int32).toInt = 1000 := by decide
    have f4 := Int32.lt_iff_toInt_lt.mp c1
    refine ⟨inI (by omega) (by omega), ?_⟩
    intro σ6 eσ6
    have hσ6 : K1 σ0 σ6 := by rw [eσ6]; exact hσ.u (Rg1.ra_16 _ _) (by omega) (by omega)
    intro v7 ev7
    intro σ8 eσ8
    have f9 := tB v7
    have f10 := K1.g_3_8 hσ6
    have q11 : σ6.1 3 8 = σ.1 3 8 := by rw [eσ6]; exact congrFun (u1_ne (by decide)) 8
    have f12 := congrArg Int32.toInt q11
    have f14 : (1 : Int32).toInt = 1 := by decide
    have f15 := tA (σ6.1 3 8) (1 : Int32)
    have f16 := tB ((σ6.1 3 8) + 1)
    have f17 := congrArg Int32.toInt ev7
    have hσ8 : K1 σ0 σ8 := by rw [eσ8]; exact hσ6.u (Rg1.r_3_8 (by omega) (by omega)) (by omega) (by omega)
    intro v18 ev18
    intro σ19 eσ19
    have hσ19 : K1 σ0 σ19 := by rw [eσ19]; exact hσ8.u (Rg1.u_5_1 _) (by omega) (by omega)
    exact hQ _ hσ19 (⟨(kq (a := 3) (b := 7) eσ19 (by omega)).trans ((kq (a := 3) (b := 7) eσ8 (by omega)).trans ((kq (a := 3) (b := 7) eσ6 (by omega)))), (kq (a := 3) (b := 6) eσ19 (by omega)).trans ((kq (a := 3) (b := 6) eσ8 (by omega)).trans ((kq (a := 3) (b := 6) eσ6 (by omega)))), (kq (a := 9) (b := 9) eσ19 (by omega)).trans ((kq (a := 9) (b := 9) eσ8 (by omega)).trans ((kq (a := 9) (b := 9) eσ6 (by omega)))), (kq (a := 9) (b := 10) eσ19 (by omega)).trans ((kq (a := 9) (b := 10) eσ8 (by omega)).trans ((kq (a := 9) (b := 10) eσ6 (by omega)))), (kq (a := 6) (b := 5) eσ19 (by omega)).trans ((kq (a := 6) (b := 5) eσ8 (by omega)).trans ((kq (a := 6) (b := 5) eσ6 (by omega)))), (kq (a := 7) (b := 4) eσ19 (by omega)).trans ((kq (a := 7) (b := 4) eσ8 (by omega)).trans ((kq (a := 7) (b := 4) eσ6 (by omega)))), (kq (a := 2) (b := 4) eσ19 (by omega)).trans ((kq (a := 2) (b := 4) eσ8 (by omega)).trans ((kq (a := 2) (b := 4) eσ6 (by omega)))), (kq (a := 2) (b := 5) eσ19 (by omega)).trans ((kq (a := 2) (b := 5) eσ8 (by omega)).trans ((kq (a := 2) (b := 5) eσ6 (by omega)))), (kq (a := 2) (b := 6) eσ19 (by omega)).trans ((kq (a := 2) (b := 6) eσ8 (by omega)).trans ((kq (a := 2) (b := 6) eσ6 (by omega))))⟩)
  · have f20 := K1.g_3_8 hσ
    have f21 : (1000 : Int32).toInt = 1000 := by decide
    have f22 := mt Int32.lt_iff_toInt_lt.mpr c1
    unfold fX2_fail
    refine ⟨fun c23 => ?_, fun c23 => ?_⟩
    · have f24 := tB (σ.1 3 11)
      have f25 : (0 : Int32).toInt = 0 := by decide
      have f26 := congrArg Int32.toInt c23
      intro σ27 eσ27
      have hσ27 : K1 σ0 σ27 := by rw [eσ27]; exact hσ.u (Rg1.u_3_11 _) (by omega) (by omega)
      try dsimp only
      exact hQ _ hσ27 (⟨(kq (a := 3) (b := 7) eσ27 (by omega)), (kq (a := 3) (b := 6) eσ27 (by omega)), (kq (a := 9) (b := 9) eσ27 (by omega)), (kq (a := 9) (b := 10) eσ27 (by omega)), (kq (a := 6) (b := 5) eσ27 (by omega)), (kq (a := 7) (b := 4) eσ27 (by omega)), (kq (a := 2) (b := 4) eσ27 (by omega)), (kq (a := 2) (b := 5) eσ27 (by omega)), (kq (a := 2) (b := 6) eσ27 (by omega))⟩)
    · have f28 := tB (σ.1 3 11)
      have f29 : (0 : Int32).toInt = 0 := by decide
      have f30 := mt Int32.toInt_inj.mp c23
      try dsimp only
      exact hQ _ hσ (⟨rfl, rfl, rfl, rfl, rfl, rfl, rfl, rfl, rfl⟩)
set_option maxHeartbeats 4000000 in
theorem sX2_give {N : Nat} (hN : 4294967400 ≤ N) {x1 : Int32} {Q : St → Prop} {σ0 σ : St} (hσ : K1 σ0 σ) (hQ : ∀ τ : St, K1 σ0 τ → (τ.1 9 9 = σ.1 9 9 ∧ τ.1 9 10 = σ.1 9 10 ∧ τ.1 6 5 = σ.1 6 5 ∧ τ.1 7 4 = σ.1 7 4 ∧ τ.1 2 4 = σ.1 2 4 ∧ τ.1 2 5 = σ.1 2 5 ∧ τ.1 2 6 = σ.1 2 6) → Q τ) : fX2_give N x1 Q σ := by
  unfold fX2_give
  refine ⟨fun c1 => ?_, fun c1 => ?_⟩
  · have f2 := tB (σ.1 3 11)
    have f3 : (0 : Int32).toInt = 0 := by decide
    have f4 := congrArg Int32.toInt c1
    refine ⟨fun c5 => ?_, fun c5 => ?_⟩
    · have f6 := tB (σ.1 3 9)
      have f7 : (2 : Int32).toInt = 2 := by decide
      have f8 := congrArg Int32.toInt c5
      have f9 := tB x1
      refine sX2_putOut hN hσ (fun σ10 hσ10 kk20 => ?_)
      obtain ⟨k11, k12, k13, k14, k15, k16, k17, k18, k19⟩ := kk20
      exact hQ _ hσ10 (⟨k13, k14, k15, k16, k17, k18, k19⟩)
    · have f21 := tB (σ.1 3 9)
      have f22 : (2 : Int32).toInt = 2 := by decide
      have f23 := mt Int32.toInt_inj.mp c5
      refine ⟨fun c24 => ?_, fun c24 => ?_⟩
      · have f26 : (1 : Int32).toInt = 1 := by decide
        have f27 := congrArg Int32.toInt c24
        refine ⟨inI (by omega) (by omega), ?_⟩
        intro σ29 eσ29
        have hσ29 : K1 σ0 σ29 := by rw [eσ29]; exact hσ.u (Rg1.ra_17 _ _) (by omega) (by omega)
        intro σ30 eσ30
        have hσ30 : K1 σ0 σ30 := by rw [eσ30]; exact hσ29.u (Rg1.r_3_6 (by omega) (by omega)) (by omega) (by omega)
        have f32 := tB (σ30.1 3 10)
        have q33 : σ30.1 3 10 = σ29.1 3 10 := by rw [eσ30, u1_at]; exact if_neg (by decide)
        have f34 := congrArg Int32.toInt q33
        have f35 := tB (σ29.1 3 10)
        have q36 : σ29.1 3 10 = σ.1 3 10 := by rw [eσ29]; exact congrFun (u1_ne (by decide)) 10
        have f37 := congrArg Int32.toInt q36
        have f38 := tB (σ.1 3 10)
        have f39 : (255 : Int32).toInt = 255 := by decide
        refine sX2_callFunction hN hσ30 (fun σ40 hσ40 kk50 => ?_)
        obtain ⟨k41, k42, k43, k44, k45, k46, k47, k48, k49⟩ := kk50
        refine ⟨fun c51 => ?_, fun c51 => ?_⟩
        · have f52 := tB (σ40.1 3 11)
          have f54 := congrArg Int32.toInt c51
          intro v55 ev55
          intro σ56 eσ56
          have hσ56 : K1 σ0 σ56 := by rw [eσ56]; exact hσ40.u (Rg1.u_5_2 _) (by omega) (by omega)
          exact hQ _ hσ56 (⟨(kq (a := 9) (b := 9) eσ56 (by omega)).trans (k42.trans ((kq (a := 9) (b := 9) eσ30 (by omega)).trans ((kq (a := 9) (b := 9) eσ29 (by omega))))), (kq (a := 9) (b := 10) eσ56 (by omega)).trans (k43.trans ((kq (a := 9) (b := 10) eσ30 (by omega)).trans ((kq (a := 9) (b := 10) eσ29 (by omega))))), (kq (a := 6) (b := 5) eσ56 (by omega)).trans (k44.trans ((kq (a := 6) (b := 5) eσ30 (by omega)).trans ((kq (a := 6) (b := 5) eσ29 (by omega))))), (kq (a := 7) (b := 4) eσ56 (by omega)).trans (k45.trans ((kq (a := 7) (b := 4) eσ30 (by omega)).trans ((kq (a := 7) (b := 4) eσ29 (by omega))))), (kq (a := 2) (b := 4) eσ56 (by omega)).trans (k46.trans ((kq (a := 2) (b := 4) eσ30 (by omega)).trans ((kq (a := 2) (b := 4) eσ29 (by omega))))), (kq (a := 2) (b := 5) eσ56 (by omega)).trans (k47.trans ((kq (a := 2) (b := 5) eσ30 (by omega)).trans ((kq (a := 2) (b := 5) eσ29 (by omega))))), (kq (a := 2) (b := 6) eσ56 (by omega)).trans (k48.trans ((kq (a := 2) (b := 6) eσ30 (by omega)).trans ((kq (a := 2) (b := 6) eσ29 (by omega)))))⟩)
        · have f57 := tB (σ40.1 3 11)
          have f59 := mt Int32.toInt_inj.mp c51
          exact hQ _ hσ40 (⟨k42.trans ((kq (a := 9) (b := 9) eσ30 (by omega)).trans ((kq (a := 9) (b := 9) eσ29 (by omega)))), k43.trans ((kq (a := 9) (b := 10) eσ30 (by omega)).trans ((kq (a := 9) (b := 10) eσ29 (by omega)))), k44.trans ((kq (a := 6) (b := 5) eσ30 (by omega)).trans ((kq (a := 6) (b := 5) eσ29 (by omega)))), k45.trans ((kq (a := 7) (b := 4) eσ30 (by omega)).trans ((kq (a := 7) (b := 4) eσ29 (by omega)))), k46.trans ((kq (a := 2) (b := 4) eσ30 (by omega)).trans ((kq (a := 2) (b := 4) eσ29 (by omega)))), k47.trans ((kq (a := 2) (b := 5) eσ30 (by omega)).trans ((kq (a := 2) (b := 5) eσ29 (by omega)))), k48.trans ((kq (a := 2) (b := 6) eσ30 (by omega)).trans ((kq (a := 2) (b := 6) eσ29 (by omega))))⟩)
      · have f61 : (1 : Int32).toInt = 1 := by decide
        have f62 := mt Int32.toInt_inj.mp c24
        intro v63 ev63
        intro σ64 eσ64
        have hσ64 : K1 σ0 σ64 := by rw [eσ64]; exact hσ.u (Rg1.u_5_3 _) (by omega) (by omega)
        exact hQ _ hσ64 (⟨(kq (a := 9) (b := 9) eσ64 (by omega)), (kq (a := 9) (b := 10) eσ64 (by omega)), (kq (a := 6) (b := 5) eσ64 (by omega)), (kq (a := 7) (b := 4) eσ64 (by omega)), (kq (a := 2) (b := 4) eσ64 (by omega)), (kq (a := 2) (b := 5) eσ64 (by omega)), (kq (a := 2) (b := 6) eσ64 (by omega))⟩)
  · have f65 := tB (σ.1 3 11)
    have f66 : (0 : Int32).toInt = 0 := by decide
    have f67 := mt Int32.toInt_inj.mp c1
    exact hQ _ hσ (⟨rfl, rfl, rfl, rfl, rfl, rfl, rfl⟩)
set_option maxHeartbeats 4000000 in
theorem sX3_putByte {N : Nat} (hN : 4294967400 ≤ N) {x1 : Int32} {x2 : Int32} {Q : St → Prop} {σ0 σ : St} (hσ : K1 σ0 σ) (hQ : ∀ τ : St, K1 σ0 τ → (τ.1 3 7 = σ.1 3 7 ∧ τ.1 3 11 = σ.1 3 11 ∧ τ.1 3 6 = σ.1 3 6 ∧ τ.1 9 9 = σ.1 9 9 ∧ τ.1 9 10 = σ.1 9 10 ∧ τ.1 6 5 = σ.1 6 5 ∧ τ.1 7 4 = σ.1 7 4 ∧ τ.1 2 4 = σ.1 2 4 ∧ τ.1 2 5 = σ.1 2 5 ∧ τ.1 2 6 = σ.1 2 6 ∧ τ.1 3 8 = σ.1 3 8) → Q τ) : fX3_putByte N x1 x2 Q σ := by
  unfold fX3_putByte
  refine ⟨fun c1 => ?_, fun c1 => ?_⟩
  · have f2 := tB x1
    have f3 : (0 : Int32).toInt = 0 := by decide
    have f4 := Int32.lt_iff_toInt_lt.mp c1
    exact hQ _ hσ (⟨rfl, rfl, rfl, rfl, rfl, rfl, rfl, rfl, rfl, rfl, rfl⟩)
  · have f5 := tB x1
    have f6 : (0 : Int32).toInt = 0 := by decide
    have f7 := mt Int32.lt_iff_toInt_lt.mpr c1
    refine ⟨fun c8 => ?_, fun c8 => ?_⟩
    · have f9 : (4096 : Int32).toInt = 4096 := by decide
      have f11 := Int32.le_iff_toInt_le.mp c8
      exact hQ _ hσ (⟨rfl, rfl, rfl, rfl, rfl, rfl, rfl, rfl, rfl, rfl, rfl⟩)
    · have f12 : (4096 : Int32).toInt = 4096 := by decide
      have f14 := mt Int32.le_iff_toInt_le.mpr c8
      intro v15 ev15
      refine ⟨inI (by omega) (by omega), ?_⟩
      intro σ17 eσ17
      have hσ17 : K1 σ0 σ17 := by rw [eσ17]; exact hσ.u (Rg1.ra_12 _ _) (by omega) (by omega)
      exact hQ _ hσ17 (⟨(kq (a := 3) (b := 7) eσ17 (by omega)), (kq (a := 3) (b := 11) eσ17 (by omega)), (kq (a := 3) (b := 6) eσ17 (by omega)), (kq (a := 9) (b := 9) eσ17 (by omega)), (kq (a := 9) (b := 10) eσ17 (by omega)), (kq (a := 6) (b := 5) eσ17 (by omega)), (kq (a := 7) (b := 4) eσ17 (by omega)), (kq (a := 2) (b := 4) eσ17 (by omega)), (kq (a := 2) (b := 5) eσ17 (by omega)), (kq (a := 2) (b := 6) eσ17 (by omega)), (kq (a := 3) (b := 8) eσ17 (by omega))⟩)
set_option maxHeartbeats 4000000 in
theorem sX2_writeByte {N : Nat} (hN : 4294967400 ≤ N) {x1 : Int32} {x2 : Int32} {Q : St → Prop} {σ0 σ : St} (hσ : K1 σ0 σ) (hQ : ∀ τ : St, K1 σ0 τ → (τ.1 3 7 = σ.1 3 7 ∧ τ.1 3 6 = σ.1 3 6 ∧ τ.1 9 9 = σ.1 9 9 ∧ τ.1 9 10 = σ.1 9 10 ∧ τ.1 6 5 = σ.1 6 5 ∧ τ.1 7 4 = σ.1 7 4 ∧ τ.1 2 4 = σ.1 2 4 ∧ τ.1 2 5 = σ.1 2 5 ∧ τ.1 2 6 = σ.1 2 6 ∧ τ.1 3 8 = σ.1 3 8) → Q τ) : fX2_writeByte N x1 x2 Q σ := by
  unfold fX2_writeByte
  refine ⟨fun c1 => ?_, fun c1 => ?_⟩
  · have f2 := tB x1
    have f3 := K1.g_1_1 hσ
    have f4 := Int32.lt_iff_toInt_lt.mp c1
    unfold fX2_writeByte_j22
    unfold fX2_fail
    refine ⟨fun c5 => ?_, fun c5 => ?_⟩
    · have f6 := tB (σ.1 3 11)
      have f7 : (0 : Int32).toInt = 0 := by decide
      have f8 := congrArg Int32.toInt c5
      intro σ9 eσ9
      have hσ9 : K1 σ0 σ9 := by rw [eσ9]; exact hσ.u (Rg1.u_3_11 _) (by omega) (by omega)
      try dsimp only
      exact hQ _ hσ9 (⟨(kq (a := 3) (b := 7) eσ9 (by omega)), (kq (a := 3) (b := 6) eσ9 (by omega)), (kq (a := 9) (b := 9) eσ9 (by omega)), (kq (a := 9) (b := 10) eσ9 (by omega)), (kq (a := 6) (b := 5) eσ9 (by omega)), (kq (a := 7) (b := 4) eσ9 (by omega)), (kq (a := 2) (b := 4) eσ9 (by omega)), (kq (a := 2) (b := 5) eσ9 (by omega)), (kq (a := 2) (b := 6) eσ9 (by omega)), (kq (a := 3) (b := 8) eσ9 (by omega))⟩)
    · have f10 := tB (σ.1 3 11)
      have f11 : (0 : Int32).toInt = 0 := by decide
      have f12 := mt Int32.toInt_inj.mp c5
      try dsimp only
      exact hQ _ hσ (⟨rfl, rfl, rfl, rfl, rfl, rfl, rfl, rfl, rfl, rfl⟩)
  · have f13 := tB x1
    have f14 := K1.g_1_1 hσ
    have f15 := mt Int32.lt_iff_toInt_lt.mpr c1
    unfold fX3_has
    refine ⟨fun c16 => ?_, fun c16 => ?_⟩
    · have f18 : (0 : Int32).toInt = 0 := by decide
      have f19 := Int32.lt_iff_toInt_lt.mp c16
      try dsimp only
      refine ⟨fun c20 => ?_, fun c20 => ?_⟩
      · have f23 := congrArg Int32.toInt c20
        unfold fX2_writeByte_j22
        unfold fX2_fail
        refine ⟨fun c24 => ?_, fun c24 => ?_⟩
        · have f25 := tB (σ.1 3 11)
          have f27 := congrArg Int32.toInt c24
          intro σ28 eσ28
          have hσ28 : K1 σ0 σ28 := by rw [eσ28]; exact hσ.u (Rg1.u_3_11 _) (by omega) (by omega)
          try dsimp only
          exact hQ _ hσ28 (⟨(kq (a := 3) (b := 7) eσ28 (by omega)), (kq (a := 3) (b := 6) eσ28 (by omega)), (kq (a := 9) (b := 9) eσ28 (by omega)), (kq (a := 9) (b := 10) eσ28 (by omega)), (kq (a := 6) (b := 5) eσ28 (by omega)), (kq (a := 7) (b := 4) eσ28 (by omega)), (kq (a := 2) (b := 4) eσ28 (by omega)), (kq (a := 2) (b := 5) eσ28 (by omega)), (kq (a := 2) (b := 6) eσ28 (by omega)), (kq (a := 3) (b := 8) eσ28 (by omega))⟩)
        · have f29 := tB (σ.1 3 11)
          have f31 := mt Int32.toInt_inj.mp c24
          try dsimp only
          exact hQ _ hσ (⟨rfl, rfl, rfl, rfl, rfl, rfl, rfl, rfl, rfl, rfl⟩)
      · have f34 := mt Int32.toInt_inj.mp c20
        have f36 := tB x2
        refine sX3_putByte hN hσ (fun σ37 hσ37 kk49 => ?_)
        obtain ⟨k38, k39, k40, k41, k42, k43, k44, k45, k46, k47, k48⟩ := kk49
        exact hQ _ hσ37 (⟨k38, k40, k41, k42, k43, k44, k45, k46, k47, k48⟩)
    · have f51 : (0 : Int32).toInt = 0 := by decide
      have f52 := mt Int32.lt_iff_toInt_lt.mpr c16
      refine ⟨fun c53 => ?_, fun c53 => ?_⟩
      · have f54 : (4096 : Int32).toInt = 4096 := by decide
        have f56 := Int32.le_iff_toInt_le.mp c53
        try dsimp only
        refine ⟨fun c57 => ?_, fun c57 => ?_⟩
        · have f60 := congrArg Int32.toInt c57
          unfold fX2_writeByte_j22
          unfold fX2_fail
          refine ⟨fun c61 => ?_, fun c61 => ?_⟩
          · have f62 := tB (σ.1 3 11)
            have f64 := congrArg Int32.toInt c61
            intro σ65 eσ65
            have hσ65 : K1 σ0 σ65 := by rw [eσ65]; exact hσ.u (Rg1.u_3_11 _) (by omega) (by omega)
            try dsimp only
            exact hQ _ hσ65 (⟨(kq (a := 3) (b := 7) eσ65 (by omega)), (kq (a := 3) (b := 6) eσ65 (by omega)), (kq (a := 9) (b := 9) eσ65 (by omega)), (kq (a := 9) (b := 10) eσ65 (by omega)), (kq (a := 6) (b := 5) eσ65 (by omega)), (kq (a := 7) (b := 4) eσ65 (by omega)), (kq (a := 2) (b := 4) eσ65 (by omega)), (kq (a := 2) (b := 5) eσ65 (by omega)), (kq (a := 2) (b := 6) eσ65 (by omega)), (kq (a := 3) (b := 8) eσ65 (by omega))⟩)
          · have f66 := tB (σ.1 3 11)
            have f68 := mt Int32.toInt_inj.mp c61
            try dsimp only
            exact hQ _ hσ (⟨rfl, rfl, rfl, rfl, rfl, rfl, rfl, rfl, rfl, rfl⟩)
        · have f71 := mt Int32.toInt_inj.mp c57
          have f73 := tB x2
          refine sX3_putByte hN hσ (fun σ74 hσ74 kk86 => ?_)
          obtain ⟨k75, k76, k77, k78, k79, k80, k81, k82, k83, k84, k85⟩ := kk86
          exact hQ _ hσ74 (⟨k75, k77, k78, k79, k80, k81, k82, k83, k84, k85⟩)
      · have f87 : (4096 : Int32).toInt = 4096 := by decide
        have f89 := mt Int32.le_iff_toInt_le.mpr c53
        try dsimp only
        refine ⟨fun c90 => ?_, fun c90 => ?_⟩
        · have f91 : (1 : Int32).toInt = 1 := by decide
          have f93 := congrArg Int32.toInt c90
          unfold fX2_writeByte_j22
          unfold fX2_fail
          refine ⟨fun c94 => ?_, fun c94 => ?_⟩
          · have f95 := tB (σ.1 3 11)
            have f97 := congrArg Int32.toInt c94
            intro σ98 eσ98
            have hσ98 : K1 σ0 σ98 := by rw [eσ98]; exact hσ.u (Rg1.u_3_11 _) (by omega) (by omega)
            try dsimp only
            exact hQ _ hσ98 (⟨(kq (a := 3) (b := 7) eσ98 (by omega)), (kq (a := 3) (b := 6) eσ98 (by omega)), (kq (a := 9) (b := 9) eσ98 (by omega)), (kq (a := 9) (b := 10) eσ98 (by omega)), (kq (a := 6) (b := 5) eσ98 (by omega)), (kq (a := 7) (b := 4) eσ98 (by omega)), (kq (a := 2) (b := 4) eσ98 (by omega)), (kq (a := 2) (b := 5) eσ98 (by omega)), (kq (a := 2) (b := 6) eσ98 (by omega)), (kq (a := 3) (b := 8) eσ98 (by omega))⟩)
          · have f99 := tB (σ.1 3 11)
            have f101 := mt Int32.toInt_inj.mp c94
            try dsimp only
            exact hQ _ hσ (⟨rfl, rfl, rfl, rfl, rfl, rfl, rfl, rfl, rfl, rfl⟩)
        · have f102 : (1 : Int32).toInt = 1 := by decide
          have f104 := mt Int32.toInt_inj.mp c90
          have f106 := tB x2
          refine sX3_putByte hN hσ (fun σ107 hσ107 kk119 => ?_)
          obtain ⟨k108, k109, k110, k111, k112, k113, k114, k115, k116, k117, k118⟩ := kk119
          exact hQ _ hσ107 (⟨k108, k110, k111, k112, k113, k114, k115, k116, k117, k118⟩)
set_option maxHeartbeats 4000000 in
theorem sX2_act {N : Nat} (hN : 4294967400 ≤ N) {k1 : Nat} {x2 : Int32} {x3 : Int32} {x4 : Int32} (hk1 : jobK k1) {Q : St → Prop} {σ0 σ : St} (hs3_7 : 1 ≤ (σ.1 3 7).toInt) (hσ : K1 σ0 σ) (hQ : ∀ τ : St, K1 σ0 τ → (τ.1 9 9 = σ.1 9 9 ∧ τ.1 9 10 = σ.1 9 10 ∧ τ.1 6 5 = σ.1 6 5 ∧ τ.1 7 4 = σ.1 7 4 ∧ τ.1 2 4 = σ.1 2 4) → Q τ) : fX2_act N k1 x2 x3 x4 Q σ := by
  unfold fX2_act
  have kbhk1 := jobK_b hk1
  refine ⟨fun c1 => ?_, fun c1 => ?_⟩
  · have f2 := tB x2
    have f3 : (0 : Int32).toInt = 0 := by decide
    have f4 := congrArg Int32.toInt c1
    have f5 := tB x3
    have f7 := K1.g_3_7 hσ
    refine sX2_endFunction hN hk1 (by omega) hσ (fun σ6 hσ6 kk18 => ?_)
    obtain ⟨k8, k9, k10, k11, k12, k13, k14, k15, k16, k17⟩ := kk18
    exact hQ _ hσ6 (⟨k10, k11, k12, k13, k14⟩)
  · have f19 := tB x2
    have f20 : (0 : Int32).toInt = 0 := by decide
    have f21 := mt Int32.toInt_inj.mp c1
    refine ⟨fun c22 => ?_, fun c22 => ?_⟩
    · have f24 : (1 : Int32).toInt = 1 := by decide
      have f25 := congrArg Int32.toInt c22
      have f26 := tB x3
      refine sX2_give hN hσ (fun σ27 hσ27 kk35 => ?_)
      obtain ⟨k28, k29, k30, k31, k32, k33, k34⟩ := kk35
      exact hQ _ hσ27 (⟨k28, k29, k30, k31, k32⟩)
    · have f37 : (1 : Int32).toInt = 1 := by decide
      have f38 := mt Int32.toInt_inj.mp c22
      refine ⟨fun c39 => ?_, fun c39 => ?_⟩
      · have f41 : (2 : Int32).toInt = 2 := by decide
        have f42 := congrArg Int32.toInt c39
        have f43 := tB x3
        refine sX2_beginString hN hσ (fun σ44 hσ44 kk54 => ?_)
        obtain ⟨k45, k46, k47, k48, k49, k50, k51, k52, k53⟩ := kk54
        exact hQ _ hσ44 (⟨k46, k47, k48, k49, k50⟩)
      · have f56 : (2 : Int32).toInt = 2 := by decide
        have f57 := mt Int32.toInt_inj.mp c39
        refine ⟨fun c58 => ?_, fun c58 => ?_⟩
        · have f60 : (3 : Int32).toInt = 3 := by decide
          have f61 := congrArg Int32.toInt c58
          have f62 : (4 : Int32).toInt = 4 := by decide
          have f63 := tB x3
          refine sX2_begin hN hσ (fun σ64 hσ64 kk74 => ?_)
          obtain ⟨k65, k66, k67, k68, k69, k70, k71, k72, k73⟩ := kk74
          exact hQ _ hσ64 (⟨k66, k67, k68, k69, k70⟩)
        · have f76 : (3 : Int32).toInt = 3 := by decide
          have f77 := mt Int32.toInt_inj.mp c58
          refine ⟨fun c78 => ?_, fun c78 => ?_⟩
          · have f80 : (4 : Int32).toInt = 4 := by decide
            have f81 := congrArg Int32.toInt c78
            unfold fX2_setSystem
            unfold fX2_isSystem
            refine ⟨fun c82 => ?_, fun c82 => ?_⟩
            · have f83 := tB x3
              have f85 := Int32.lt_iff_toInt_lt.mp c82
              try dsimp only
              refine ⟨fun c86 => ?_, fun c86 => ?_⟩
              · have f89 := congrArg Int32.toInt c86
                unfold fX2_setSystem_j13
                intro σ90 eσ90
                have hσ90 : K1 σ0 σ90 := by rw [eσ90]; exact hσ.u (Rg1.u_3_9 _) (by omega) (by omega)
                intro σ91 eσ91
                have hσ91 : K1 σ0 σ91 := by rw [eσ91]; exact hσ90.u (Rg1.u_3_10 _) (by omega) (by omega)
                try dsimp only
                exact hQ _ hσ91 (⟨(kq (a := 9) (b := 9) eσ91 (by omega)).trans ((kq (a := 9) (b := 9) eσ90 (by omega))), (kq (a := 9) (b := 10) eσ91 (by omega)).trans ((kq (a := 9) (b := 10) eσ90 (by omega))), (kq (a := 6) (b := 5) eσ91 (by omega)).trans ((kq (a := 6) (b := 5) eσ90 (by omega))), (kq (a := 7) (b := 4) eσ91 (by omega)).trans ((kq (a := 7) (b := 4) eσ90 (by omega))), (kq (a := 2) (b := 4) eσ91 (by omega)).trans ((kq (a := 2) (b := 4) eσ90 (by omega)))⟩)
              · have f94 := mt Int32.toInt_inj.mp c86
                unfold fX2_setSystem_j13
                intro σ95 eσ95
                have hσ95 : K1 σ0 σ95 := by rw [eσ95]; exact hσ.u (Rg1.u_3_9 _) (by omega) (by omega)
                intro σ96 eσ96
                have hσ96 : K1 σ0 σ96 := by rw [eσ96]; exact hσ95.u (Rg1.u_3_10 _) (by omega) (by omega)
                try dsimp only
                exact hQ _ hσ96 (⟨(kq (a := 9) (b := 9) eσ96 (by omega)).trans ((kq (a := 9) (b := 9) eσ95 (by omega))), (kq (a := 9) (b := 10) eσ96 (by omega)).trans ((kq (a := 9) (b := 10) eσ95 (by omega))), (kq (a := 6) (b := 5) eσ96 (by omega)).trans ((kq (a := 6) (b := 5) eσ95 (by omega))), (kq (a := 7) (b := 4) eσ96 (by omega)).trans ((kq (a := 7) (b := 4) eσ95 (by omega))), (kq (a := 2) (b := 4) eσ96 (by omega)).trans ((kq (a := 2) (b := 4) eσ95 (by omega)))⟩)
            · have f97 := tB x3
              have f99 := mt Int32.lt_iff_toInt_lt.mpr c82
              refine ⟨fun c100 => ?_, fun c100 => ?_⟩
              · have f103 := Int32.lt_iff_toInt_lt.mp c100
                try dsimp only
                refine ⟨fun c104 => ?_, fun c104 => ?_⟩
                · have f107 := congrArg Int32.toInt c104
                  unfold fX2_setSystem_j13
                  intro σ108 eσ108
                  have hσ108 : K1 σ0 σ108 := by rw [eσ108]; exact hσ.u (Rg1.u_3_9 _) (by omega) (by omega)
                  intro σ109 eσ109
                  have hσ109 : K1 σ0 σ109 := by rw [eσ109]; exact hσ108.u (Rg1.u_3_10 _) (by omega) (by omega)
                  try dsimp only
                  exact hQ _ hσ109 (⟨(kq (a := 9) (b := 9) eσ109 (by omega)).trans ((kq (a := 9) (b := 9) eσ108 (by omega))), (kq (a := 9) (b := 10) eσ109 (by omega)).trans ((kq (a := 9) (b := 10) eσ108 (by omega))), (kq (a := 6) (b := 5) eσ109 (by omega)).trans ((kq (a := 6) (b := 5) eσ108 (by omega))), (kq (a := 7) (b := 4) eσ109 (by omega)).trans ((kq (a := 7) (b := 4) eσ108 (by omega))), (kq (a := 2) (b := 4) eσ109 (by omega)).trans ((kq (a := 2) (b := 4) eσ108 (by omega)))⟩)
                · have f112 := mt Int32.toInt_inj.mp c104
                  unfold fX2_setSystem_j13
                  intro σ113 eσ113
                  have hσ113 : K1 σ0 σ113 := by rw [eσ113]; exact hσ.u (Rg1.u_3_9 _) (by omega) (by omega)
                  intro σ114 eσ114
                  have hσ114 : K1 σ0 σ114 := by rw [eσ114]; exact hσ113.u (Rg1.u_3_10 _) (by omega) (by omega)
                  try dsimp only
                  exact hQ _ hσ114 (⟨(kq (a := 9) (b := 9) eσ114 (by omega)).trans ((kq (a := 9) (b := 9) eσ113 (by omega))), (kq (a := 9) (b := 10) eσ114 (by omega)).trans ((kq (a := 9) (b := 10) eσ113 (by omega))), (kq (a := 6) (b := 5) eσ114 (by omega)).trans ((kq (a := 6) (b := 5) eσ113 (by omega))), (kq (a := 7) (b := 4) eσ114 (by omega)).trans ((kq (a := 7) (b := 4) eσ113 (by omega))), (kq (a := 2) (b := 4) eσ114 (by omega)).trans ((kq (a := 2) (b := 4) eσ113 (by omega)))⟩)
              · have f117 := mt Int32.lt_iff_toInt_lt.mpr c100
                try dsimp only
                refine ⟨fun c118 => ?_, fun c118 => ?_⟩
                · have f121 := congrArg Int32.toInt c118
                  unfold fX2_setSystem_j13
                  intro σ122 eσ122
                  have hσ122 : K1 σ0 σ122 := by rw [eσ122]; exact hσ.u (Rg1.u_3_9 _) (by omega) (by omega)
                  intro σ123 eσ123
                  have hσ123 : K1 σ0 σ123 := by rw [eσ123]; exact hσ122.u (Rg1.u_3_10 _) (by omega) (by omega)
                  try dsimp only
                  exact hQ _ hσ123 (⟨(kq (a := 9) (b := 9) eσ123 (by omega)).trans ((kq (a := 9) (b := 9) eσ122 (by omega))), (kq (a := 9) (b := 10) eσ123 (by omega)).trans ((kq (a := 9) (b := 10) eσ122 (by omega))), (kq (a := 6) (b := 5) eσ123 (by omega)).trans ((kq (a := 6) (b := 5) eσ122 (by omega))), (kq (a := 7) (b := 4) eσ123 (by omega)).trans ((kq (a := 7) (b := 4) eσ122 (by omega))), (kq (a := 2) (b := 4) eσ123 (by omega)).trans ((kq (a := 2) (b := 4) eσ122 (by omega)))⟩)
                · have f126 := mt Int32.toInt_inj.mp c118
                  unfold fX2_setSystem_j13
                  intro σ127 eσ127
                  have hσ127 : K1 σ0 σ127 := by rw [eσ127]; exact hσ.u (Rg1.u_3_9 _) (by omega) (by omega)
                  intro σ128 eσ128
                  have hσ128 : K1 σ0 σ128 := by rw [eσ128]; exact hσ127.u (Rg1.u_3_10 _) (by omega) (by omega)
                  try dsimp only
                  exact hQ _ hσ128 (⟨(kq (a := 9) (b := 9) eσ128 (by omega)).trans ((kq (a := 9) (b := 9) eσ127 (by omega))), (kq (a := 9) (b := 10) eσ128 (by omega)).trans ((kq (a := 9) (b := 10) eσ127 (by omega))), (kq (a := 6) (b := 5) eσ128 (by omega)).trans ((kq (a := 6) (b := 5) eσ127 (by omega))), (kq (a := 7) (b := 4) eσ128 (by omega)).trans ((kq (a := 7) (b := 4) eσ127 (by omega))), (kq (a := 2) (b := 4) eσ128 (by omega)).trans ((kq (a := 2) (b := 4) eσ127 (by omega)))⟩)
          · have f130 : (4 : Int32).toInt = 4 := by decide
            have f131 := mt Int32.toInt_inj.mp c78
            refine ⟨fun c132 => ?_, fun c132 => ?_⟩
            · have f134 : (5 : Int32).toInt = 5 := by decide
              have f135 := congrArg Int32.toInt c132
              have f136 := tB x3
              refine sX8_tell hN hσ (fun σ137 hσ137 kk147 => ?_)
              obtain ⟨k138, k139, k140, k141, k142, k143, k144, k145, k146⟩ := kk147
              exact hQ _ hσ137 (⟨k141, k142, k143, k144, k145⟩)
            · have f149 : (5 : Int32).toInt = 5 := by decide
              have f150 := mt Int32.toInt_inj.mp c132
              refine ⟨fun c151 => ?_, fun c151 => ?_⟩
              · have f153 : (15 : Int32).toInt = 15 := by decide
                have f154 := congrArg Int32.toInt c151
                have f155 := tB x3
                have f156 := tB x4
                refine sX2_writeByte hN hσ (fun σ157 hσ157 kk168 => ?_)
                obtain ⟨k158, k159, k160, k161, k162, k163, k164, k165, k166, k167⟩ := kk168
                exact hQ _ hσ157 (⟨k160, k161, k162, k163, k164⟩)
              · have f170 : (15 : Int32).toInt = 15 := by decide
                have f171 := mt Int32.toInt_inj.mp c151
                unfold fX2_act_j145
                intro σ172 eσ172
                have hσ172 : K1 σ0 σ172 := by rw [eσ172]; exact hσ.u (Rg1.r_3_7 (by omega) (by omega)) (by omega) (by omega)
                exact hQ _ hσ172 (⟨(kq (a := 9) (b := 9) eσ172 (by omega)), (kq (a := 9) (b := 10) eσ172 (by omega)), (kq (a := 6) (b := 5) eσ172 (by omega)), (kq (a := 7) (b := 4) eσ172 (by omega)), (kq (a := 2) (b := 4) eσ172 (by omega))⟩)
