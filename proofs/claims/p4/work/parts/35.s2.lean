set_option maxHeartbeats 4000000 in
theorem sX12_in {N : Nat} (hN : 4294967400 ≤ N) {x0 : Int64} {x2 : Int64} {x4 : Int64} {Q : Int32 → St → Prop} {σ0 σ : St} (hσ : K2 σ0 σ) (hQ : ∀ r : Int32, True → Q r σ) : fX12_in N x0 x2 x4 Q σ := by
  unfold fX12_in
  refine ⟨fun c1 => ?_, fun c1 => ?_⟩
  · have f2 := tB64 x0
    have f3 := tB64 x2
    first | have f4 := (ltE64 (rfl : x0.toInt = x0.toInt) (rfl : x2.toInt = x2.toInt)).mp c1 | skip
    exact hQ _ trivial
  · have f5 := tB64 x0
    have f6 := tB64 x2
    first | have f7 := (notltE64 (rfl : x0.toInt = x0.toInt) (rfl : x2.toInt = x2.toInt)).mp c1 | skip
    refine ⟨fun c8 => ?_, fun c8 => ?_⟩
    · have f9 := tB64 x4
      first | have f11 := (ltE64 (rfl : x4.toInt = x4.toInt) (rfl : x0.toInt = x0.toInt)).mp c8 | skip
      exact hQ _ trivial
    · have f12 := tB64 x4
      first | have f14 := (notltE64 (rfl : x4.toInt = x4.toInt) (rfl : x0.toInt = x0.toInt)).mp c8 | skip
      exact hQ _ trivial
set_option maxHeartbeats 4000000 in
theorem sX12_tell {N : Nat} (hN : 4294967400 ≤ N) {x1 : Int32} {x2 : Int32} {Q : St → Prop} {σ0 σ : St} (hp1 : 0 ≤ x1.toInt ∧ x1.toInt ≤ 4095) (hσ : K2 σ0 σ) (hQ : ∀ τ : St, K2 σ0 τ → (τ.1 0 14 = σ.1 0 14 ∧ τ.1 0 9 = σ.1 0 9 ∧ τ.1 0 35 = σ.1 0 35 ∧ τ.1 0 24 = σ.1 0 24 ∧ τ.1 0 36 = σ.1 0 36 ∧ τ.1 0 41 = σ.1 0 41 ∧ τ.1 0 50 = σ.1 0 50 ∧ τ.1 0 51 = σ.1 0 51) → Q τ) : fX12_tell N x1 x2 Q σ := by
  unfold fX12_tell
  intro v1 ev1
  have f2 := tB x1
  refine ⟨inE (rfl : x1.toInt = x1.toInt) (by omega) (by omega), ?_⟩
  intro σ3 eσ3
  have f4 := tB v1
  have f5 := and255 x2
  first | have f6 : v1.toInt = (x2 &&& 255).toInt := (congrArg Int32.toInt ev1).trans (rfl : (x2 &&& 255).toInt = (x2 &&& 255).toInt) | skip
  have hσ3 : K2 σ0 σ3 := by rw [eσ3]; exact hσ.u (Rg2.ra_1 (leP (rfl : v1.toInt = v1.toInt) (by omega)) (geP (rfl : v1.toInt = v1.toInt) (by omega))) (fun q => absurd q.1 (by decide)) (fun q => absurd q.1 (by decide))
  refine ⟨fun c7 => ?_, fun c7 => ?_⟩
  · have f8 := tB (σ3.1 0 7)
    have q9 : σ3.1 0 7 = σ.1 0 7 := by rw [eσ3]; exact congrFun (u1_ne (by decide)) 7
    have f10 := congrArg Int32.toInt q9
    have f11 := tB (σ.1 0 7)
    first | have f12 := (leE (rfl : (σ3.1 0 7).toInt = (σ3.1 0 7).toInt) (show (0 : Int32).toInt = 0 from by decide)).mp c7 | skip
    exact hQ _ hσ3 (⟨(kq (a := 0) (b := 14) eσ3 (fun q => absurd q.1 (by decide))), (kq (a := 0) (b := 9) eσ3 (fun q => absurd q.1 (by decide))), (kq (a := 0) (b := 35) eσ3 (fun q => absurd q.1 (by decide))), (kq (a := 0) (b := 24) eσ3 (fun q => absurd q.1 (by decide))), (kq (a := 0) (b := 36) eσ3 (fun q => absurd q.1 (by decide))), (kq (a := 0) (b := 41) eσ3 (fun q => absurd q.1 (by decide))), (kq (a := 0) (b := 50) eσ3 (fun q => absurd q.1 (by decide))), (kq (a := 0) (b := 51) eσ3 (fun q => absurd q.1 (by decide)))⟩)
  · have f13 := tB (σ3.1 0 7)
    have q14 : σ3.1 0 7 = σ.1 0 7 := by rw [eσ3]; exact congrFun (u1_ne (by decide)) 7
    have f15 := congrArg Int32.toInt q14
    have f16 := tB (σ.1 0 7)
    first | have f17 := (notleE (rfl : (σ3.1 0 7).toInt = (σ3.1 0 7).toInt) (show (0 : Int32).toInt = 0 from by decide)).mp c7 | skip
    refine ⟨fun c18 => ?_, fun c18 => ?_⟩
    · have f20 := tB (σ3.1 0 6)
      have q21 : σ3.1 0 6 = σ.1 0 6 := by rw [eσ3]; exact congrFun (u1_ne (by decide)) 6
      have f22 := congrArg Int32.toInt q21
      have f23 := tB (σ.1 0 6)
      first | have f24 := (ltE (rfl : x1.toInt = x1.toInt) (rfl : (σ3.1 0 6).toInt = (σ3.1 0 6).toInt)).mp c18 | skip
      exact hQ _ hσ3 (⟨(kq (a := 0) (b := 14) eσ3 (fun q => absurd q.1 (by decide))), (kq (a := 0) (b := 9) eσ3 (fun q => absurd q.1 (by decide))), (kq (a := 0) (b := 35) eσ3 (fun q => absurd q.1 (by decide))), (kq (a := 0) (b := 24) eσ3 (fun q => absurd q.1 (by decide))), (kq (a := 0) (b := 36) eσ3 (fun q => absurd q.1 (by decide))), (kq (a := 0) (b := 41) eσ3 (fun q => absurd q.1 (by decide))), (kq (a := 0) (b := 50) eσ3 (fun q => absurd q.1 (by decide))), (kq (a := 0) (b := 51) eσ3 (fun q => absurd q.1 (by decide)))⟩)
    · have f26 := tB (σ3.1 0 6)
      have q27 : σ3.1 0 6 = σ.1 0 6 := by rw [eσ3]; exact congrFun (u1_ne (by decide)) 6
      have f28 := congrArg Int32.toInt q27
      have f29 := tB (σ.1 0 6)
      first | have f30 := (notltE (rfl : x1.toInt = x1.toInt) (rfl : (σ3.1 0 6).toInt = (σ3.1 0 6).toInt)).mp c18 | skip
      refine ⟨fun c31 => ?_, fun c31 => ?_⟩
      · have f33 := tB64 (σ3.2 0 8)
        first | have f35 := (leE64 (aOkE64 (i2lE (rfl : (σ3.1 0 6).toInt = (σ3.1 0 6).toInt)) (rfl : (σ3.2 0 8).toInt = (σ3.2 0 8).toInt) (by omega) (by omega)) (i2lE (rfl : x1.toInt = x1.toInt))).mp c31 | skip
        exact hQ _ hσ3 (⟨(kq (a := 0) (b := 14) eσ3 (fun q => absurd q.1 (by decide))), (kq (a := 0) (b := 9) eσ3 (fun q => absurd q.1 (by decide))), (kq (a := 0) (b := 35) eσ3 (fun q => absurd q.1 (by decide))), (kq (a := 0) (b := 24) eσ3 (fun q => absurd q.1 (by decide))), (kq (a := 0) (b := 36) eσ3 (fun q => absurd q.1 (by decide))), (kq (a := 0) (b := 41) eσ3 (fun q => absurd q.1 (by decide))), (kq (a := 0) (b := 50) eσ3 (fun q => absurd q.1 (by decide))), (kq (a := 0) (b := 51) eσ3 (fun q => absurd q.1 (by decide)))⟩)
      · have f37 := tB64 (σ3.2 0 8)
        first | have f39 := (notleE64 (aOkE64 (i2lE (rfl : (σ3.1 0 6).toInt = (σ3.1 0 6).toInt)) (rfl : (σ3.2 0 8).toInt = (σ3.2 0 8).toInt) (by omega) (by omega)) (i2lE (rfl : x1.toInt = x1.toInt))).mp c31 | skip
        intro σ40 eσ40
        have hσ40 : K2 σ0 σ40 := by rw [eσ40]; exact hσ3.u (Rg2.u_0_7 _) (fun q => absurd q.2 (by decide)) (fun q => absurd q.2 (by decide))
        exact hQ _ hσ40 (⟨(kq (a := 0) (b := 14) eσ40 (fun q => absurd q.2 (by decide))).trans ((kq (a := 0) (b := 14) eσ3 (fun q => absurd q.1 (by decide)))), (kq (a := 0) (b := 9) eσ40 (fun q => absurd q.2 (by decide))).trans ((kq (a := 0) (b := 9) eσ3 (fun q => absurd q.1 (by decide)))), (kq (a := 0) (b := 35) eσ40 (fun q => absurd q.2 (by decide))).trans ((kq (a := 0) (b := 35) eσ3 (fun q => absurd q.1 (by decide)))), (kq (a := 0) (b := 24) eσ40 (fun q => absurd q.2 (by decide))).trans ((kq (a := 0) (b := 24) eσ3 (fun q => absurd q.1 (by decide)))), (kq (a := 0) (b := 36) eσ40 (fun q => absurd q.2 (by decide))).trans ((kq (a := 0) (b := 36) eσ3 (fun q => absurd q.1 (by decide)))), (kq (a := 0) (b := 41) eσ40 (fun q => absurd q.2 (by decide))).trans ((kq (a := 0) (b := 41) eσ3 (fun q => absurd q.1 (by decide)))), (kq (a := 0) (b := 50) eσ40 (fun q => absurd q.2 (by decide))).trans ((kq (a := 0) (b := 50) eσ3 (fun q => absurd q.1 (by decide)))), (kq (a := 0) (b := 51) eσ40 (fun q => absurd q.2 (by decide))).trans ((kq (a := 0) (b := 51) eσ3 (fun q => absurd q.1 (by decide))))⟩)
set_option maxHeartbeats 4000000 in
theorem sX12_byteAt {N : Nat} (hN : 4294967400 ≤ N) {x1 : Int32} {Q : Int32 → St → Prop} {σ0 σ : St} (hσ : K2 σ0 σ) (hQ : ∀ r : Int32, True → Q r σ) : fX12_byteAt N x1 Q σ := by
  unfold fX12_byteAt
  unfold fX12_in
  refine ⟨fun c1 => ?_, fun c1 => ?_⟩
  · have f2 := tB x1
    first | have f3 := (ltE64 (i2lE (rfl : x1.toInt = x1.toInt)) (show (0 : Int64).toInt = 0 from by decide)).mp c1 | skip
    try dsimp only
    refine ⟨fun c4 => ?_, fun c4 => ?_⟩
    · first | have f5 := (eqE (show (0 : Int32).toInt = 0 from by decide) (show (0 : Int32).toInt = 0 from by decide)).mp c4 | skip
      exact hQ _ trivial
    · first | have f6 := (noteqE (show (0 : Int32).toInt = 0 from by decide) (show (0 : Int32).toInt = 0 from by decide)).mp c4 | skip
      have g8 : vp_in x1 4096 := inE (rfl : x1.toInt = x1.toInt) (by omega) (by omega)
      refine ⟨g8, ?_⟩
      exact hQ _ trivial
  · have f9 := tB x1
    first | have f10 := (notltE64 (i2lE (rfl : x1.toInt = x1.toInt)) (show (0 : Int64).toInt = 0 from by decide)).mp c1 | skip
    refine ⟨fun c11 => ?_, fun c11 => ?_⟩
    · first | have f13 := (ltE64 (show (4095 : Int64).toInt = 4095 from by decide) (i2lE (rfl : x1.toInt = x1.toInt))).mp c11 | skip
      try dsimp only
      refine ⟨fun c14 => ?_, fun c14 => ?_⟩
      · first | have f15 := (eqE (show (0 : Int32).toInt = 0 from by decide) (show (0 : Int32).toInt = 0 from by decide)).mp c14 | skip
        exact hQ _ trivial
      · first | have f16 := (noteqE (show (0 : Int32).toInt = 0 from by decide) (show (0 : Int32).toInt = 0 from by decide)).mp c14 | skip
        have g18 : vp_in x1 4096 := inE (rfl : x1.toInt = x1.toInt) (by omega) (by omega)
        refine ⟨g18, ?_⟩
        exact hQ _ trivial
    · first | have f20 := (notltE64 (show (4095 : Int64).toInt = 4095 from by decide) (i2lE (rfl : x1.toInt = x1.toInt))).mp c11 | skip
      try dsimp only
      refine ⟨fun c21 => ?_, fun c21 => ?_⟩
      · first | have f22 := (eqE (show (1 : Int32).toInt = 1 from by decide) (show (0 : Int32).toInt = 0 from by decide)).mp c21 | skip
        exact hQ _ trivial
      · first | have f23 := (noteqE (show (1 : Int32).toInt = 1 from by decide) (show (0 : Int32).toInt = 0 from by decide)).mp c21 | skip
        have g25 : vp_in x1 4096 := inE (rfl : x1.toInt = x1.toInt) (by omega) (by omega)
        refine ⟨g25, ?_⟩
        exact hQ _ trivial
set_option maxHeartbeats 4000000 in
theorem sX12_fails {N : Nat} (hN : 4294967400 ≤ N) {x1 : Int32} {Q : St → Prop} {σ0 σ : St} (hσ : K2 σ0 σ) (hQ : ∀ τ : St, K2 σ0 τ → (τ.1 0 14 = σ.1 0 14 ∧ τ.1 0 35 = σ.1 0 35 ∧ τ.1 0 24 = σ.1 0 24 ∧ τ.1 0 36 = σ.1 0 36 ∧ τ.1 0 41 = σ.1 0 41 ∧ τ.1 0 50 = σ.1 0 50 ∧ τ.1 0 51 = σ.1 0 51) → Q τ) : fX12_fails N x1 Q σ := by
  unfold fX12_fails
  refine ⟨fun c1 => ?_, fun c1 => ?_⟩
  · have f2 := tB (σ.1 0 9)
    first | have f3 := (eqE (rfl : (σ.1 0 9).toInt = (σ.1 0 9).toInt) (show (0 : Int32).toInt = 0 from by decide)).mp c1 | skip
    unfold fX12_fails_j16
    intro σ4 eσ4
    have hσ4 : K2 σ0 σ4 := by rw [eσ4]; exact hσ.u (Rg2.u_0_9 _) (fun q => absurd q.2 (by decide)) (fun q => absurd q.2 (by decide))
    exact hQ _ hσ4 (⟨(kq (a := 0) (b := 14) eσ4 (fun q => absurd q.2 (by decide))), (kq (a := 0) (b := 35) eσ4 (fun q => absurd q.2 (by decide))), (kq (a := 0) (b := 24) eσ4 (fun q => absurd q.2 (by decide))), (kq (a := 0) (b := 36) eσ4 (fun q => absurd q.2 (by decide))), (kq (a := 0) (b := 41) eσ4 (fun q => absurd q.2 (by decide))), (kq (a := 0) (b := 50) eσ4 (fun q => absurd q.2 (by decide))), (kq (a := 0) (b := 51) eσ4 (fun q => absurd q.2 (by decide)))⟩)
  · have f5 := tB (σ.1 0 9)
    first | have f6 := (noteqE (rfl : (σ.1 0 9).toInt = (σ.1 0 9).toInt) (show (0 : Int32).toInt = 0 from by decide)).mp c1 | skip
    unfold fX12_fails_j16
    intro σ7 eσ7
    have hσ7 : K2 σ0 σ7 := by rw [eσ7]; exact hσ.u (Rg2.u_0_9 _) (fun q => absurd q.2 (by decide)) (fun q => absurd q.2 (by decide))
    exact hQ _ hσ7 (⟨(kq (a := 0) (b := 14) eσ7 (fun q => absurd q.2 (by decide))), (kq (a := 0) (b := 35) eσ7 (fun q => absurd q.2 (by decide))), (kq (a := 0) (b := 24) eσ7 (fun q => absurd q.2 (by decide))), (kq (a := 0) (b := 36) eσ7 (fun q => absurd q.2 (by decide))), (kq (a := 0) (b := 41) eσ7 (fun q => absurd q.2 (by decide))), (kq (a := 0) (b := 50) eσ7 (fun q => absurd q.2 (by decide))), (kq (a := 0) (b := 51) eσ7 (fun q => absurd q.2 (by decide)))⟩)
set_option maxHeartbeats 4000000 in
theorem sX12_read {N : Nat} (hN : 4294967400 ≤ N) {x1 : Int64} {Q : Int32 → St → Prop} {σ0 σ : St} (hσ : K2 σ0 σ) (hQ : ∀ (r : Int32) (τ : St), K2 σ0 τ → (τ.1 0 14 = σ.1 0 14 ∧ τ.1 0 35 = σ.1 0 35 ∧ τ.1 0 24 = σ.1 0 24 ∧ τ.1 0 36 = σ.1 0 36 ∧ τ.1 0 41 = σ.1 0 41 ∧ τ.1 0 50 = σ.1 0 50 ∧ τ.1 0 51 = σ.1 0 51) → (0) ≤ r.toInt ∧ r.toInt ≤ 255 → Q r τ) : fX12_read N x1 Q σ := by
  unfold fX12_read
  unfold fX12_in
  refine ⟨fun c1 => ?_, fun c1 => ?_⟩
  · have f2 := tB64 x1
    first | have f3 := (ltE64 (rfl : x1.toInt = x1.toInt) (show (0 : Int64).toInt = 0 from by decide)).mp c1 | skip
    try dsimp only
    refine ⟨fun c4 => ?_, fun c4 => ?_⟩
    · first | have f5 := (eqE (show (0 : Int32).toInt = 0 from by decide) (show (0 : Int32).toInt = 0 from by decide)).mp c4 | skip
      unfold fX12_fails
      refine ⟨fun c6 => ?_, fun c6 => ?_⟩
      · have f7 := tB (σ.1 0 9)
        first | have f8 := (eqE (rfl : (σ.1 0 9).toInt = (σ.1 0 9).toInt) (show (0 : Int32).toInt = 0 from by decide)).mp c6 | skip
        unfold fX12_fails_j16
        intro σ9 eσ9
        have hσ9 : K2 σ0 σ9 := by rw [eσ9]; exact hσ.u (Rg2.u_0_9 _) (fun q => absurd q.2 (by decide)) (fun q => absurd q.2 (by decide))
        try dsimp only
        exact hQ _ _ hσ9 (⟨(kq (a := 0) (b := 14) eσ9 (fun q => absurd q.2 (by decide))), (kq (a := 0) (b := 35) eσ9 (fun q => absurd q.2 (by decide))), (kq (a := 0) (b := 24) eσ9 (fun q => absurd q.2 (by decide))), (kq (a := 0) (b := 36) eσ9 (fun q => absurd q.2 (by decide))), (kq (a := 0) (b := 41) eσ9 (fun q => absurd q.2 (by decide))), (kq (a := 0) (b := 50) eσ9 (fun q => absurd q.2 (by decide))), (kq (a := 0) (b := 51) eσ9 (fun q => absurd q.2 (by decide)))⟩) ⟨leP (show (0 : Int32).toInt = 0 from by decide) (by omega), geP (show (0 : Int32).toInt = 0 from by decide) (by omega)⟩
      · have f10 := tB (σ.1 0 9)
        first | have f11 := (noteqE (rfl : (σ.1 0 9).toInt = (σ.1 0 9).toInt) (show (0 : Int32).toInt = 0 from by decide)).mp c6 | skip
        unfold fX12_fails_j16
        intro σ12 eσ12
        have hσ12 : K2 σ0 σ12 := by rw [eσ12]; exact hσ.u (Rg2.u_0_9 _) (fun q => absurd q.2 (by decide)) (fun q => absurd q.2 (by decide))
        try dsimp only
        exact hQ _ _ hσ12 (⟨(kq (a := 0) (b := 14) eσ12 (fun q => absurd q.2 (by decide))), (kq (a := 0) (b := 35) eσ12 (fun q => absurd q.2 (by decide))), (kq (a := 0) (b := 24) eσ12 (fun q => absurd q.2 (by decide))), (kq (a := 0) (b := 36) eσ12 (fun q => absurd q.2 (by decide))), (kq (a := 0) (b := 41) eσ12 (fun q => absurd q.2 (by decide))), (kq (a := 0) (b := 50) eσ12 (fun q => absurd q.2 (by decide))), (kq (a := 0) (b := 51) eσ12 (fun q => absurd q.2 (by decide)))⟩) ⟨leP (show (0 : Int32).toInt = 0 from by decide) (by omega), geP (show (0 : Int32).toInt = 0 from by decide) (by omega)⟩
    · first | have f13 := (noteqE (show (0 : Int32).toInt = 0 from by decide) (show (0 : Int32).toInt = 0 from by decide)).mp c4 | skip
      have g15 : vp_in x1.toInt32 4096 := inE (l2iE (rfl : x1.toInt = x1.toInt) (by omega) (by omega)) (by omega) (by omega)
      refine ⟨g15, ?_⟩
      have f16 := K2.ga_1 hσ x1.toInt32.toNatClampNeg
      exact hQ _ _ hσ (⟨rfl, rfl, rfl, rfl, rfl, rfl, rfl⟩) ⟨leP (rfl : (σ.1 1 x1.toInt32.toNatClampNeg).toInt = (σ.1 1 x1.toInt32.toNatClampNeg).toInt) (by omega), geP (rfl : (σ.1 1 x1.toInt32.toNatClampNeg).toInt = (σ.1 1 x1.toInt32.toNatClampNeg).toInt) (by omega)⟩
  · have f17 := tB64 x1
    first | have f18 := (notltE64 (rfl : x1.toInt = x1.toInt) (show (0 : Int64).toInt = 0 from by decide)).mp c1 | skip
    refine ⟨fun c19 => ?_, fun c19 => ?_⟩
    · first | have f21 := (ltE64 (show (4095 : Int64).toInt = 4095 from by decide) (rfl : x1.toInt = x1.toInt)).mp c19 | skip
      try dsimp only
      refine ⟨fun c22 => ?_, fun c22 => ?_⟩
      · first | have f23 := (eqE (show (0 : Int32).toInt = 0 from by decide) (show (0 : Int32).toInt = 0 from by decide)).mp c22 | skip
        unfold fX12_fails
        refine ⟨fun c24 => ?_, fun c24 => ?_⟩
        · have f25 := tB (σ.1 0 9)
          first | have f26 := (eqE (rfl : (σ.1 0 9).toInt = (σ.1 0 9).toInt) (show (0 : Int32).toInt = 0 from by decide)).mp c24 | skip
          unfold fX12_fails_j16
          intro σ27 eσ27
          have hσ27 : K2 σ0 σ27 := by rw [eσ27]; exact hσ.u (Rg2.u_0_9 _) (fun q => absurd q.2 (by decide)) (fun q => absurd q.2 (by decide))
          try dsimp only
          exact hQ _ _ hσ27 (⟨(kq (a := 0) (b := 14) eσ27 (fun q => absurd q.2 (by decide))), (kq (a := 0) (b := 35) eσ27 (fun q => absurd q.2 (by decide))), (kq (a := 0) (b := 24) eσ27 (fun q => absurd q.2 (by decide))), (kq (a := 0) (b := 36) eσ27 (fun q => absurd q.2 (by decide))), (kq (a := 0) (b := 41) eσ27 (fun q => absurd q.2 (by decide))), (kq (a := 0) (b := 50) eσ27 (fun q => absurd q.2 (by decide))), (kq (a := 0) (b := 51) eσ27 (fun q => absurd q.2 (by decide)))⟩) ⟨leP (show (0 : Int32).toInt = 0 from by decide) (by omega), geP (show (0 : Int32).toInt = 0 from by decide) (by omega)⟩
        · have f28 := tB (σ.1 0 9)
          first | have f29 := (noteqE (rfl : (σ.1 0 9).toInt = (σ.1 0 9).toInt) (show (0 : Int32).toInt = 0 from by decide)).mp c24 | skip
          unfold fX12_fails_j16
          intro σ30 eσ30
          have hσ30 : K2 σ0 σ30 := by rw [eσ30]; exact hσ.u (Rg2.u_0_9 _) (fun q => absurd q.2 (by decide)) (fun q => absurd q.2 (by decide))
          try dsimp only
          exact hQ _ _ hσ30 (⟨(kq (a := 0) (b := 14) eσ30 (fun q => absurd q.2 (by decide))), (kq (a := 0) (b := 35) eσ30 (fun q => absurd q.2 (by decide))), (kq (a := 0) (b := 24) eσ30 (fun q => absurd q.2 (by decide))), (kq (a := 0) (b := 36) eσ30 (fun q => absurd q.2 (by decide))), (kq (a := 0) (b := 41) eσ30 (fun q => absurd q.2 (by decide))), (kq (a := 0) (b := 50) eσ30 (fun q => absurd q.2 (by decide))), (kq (a := 0) (b := 51) eσ30 (fun q => absurd q.2 (by decide)))⟩) ⟨leP (show (0 : Int32).toInt = 0 from by decide) (by omega), geP (show (0 : Int32).toInt = 0 from by decide) (by omega)⟩
      · first | have f31 := (noteqE (show (0 : Int32).toInt = 0 from by decide) (show (0 : Int32).toInt = 0 from by decide)).mp c22 | skip
        have g33 : vp_in x1.toInt32 4096 := inE (l2iE (rfl : x1.toInt = x1.toInt) (by omega) (by omega)) (by omega) (by omega)
        refine ⟨g33, ?_⟩
        have f34 := K2.ga_1 hσ x1.toInt32.toNatClampNeg
        exact hQ _ _ hσ (⟨rfl, rfl, rfl, rfl, rfl, rfl, rfl⟩) ⟨leP (rfl : (σ.1 1 x1.toInt32.toNatClampNeg).toInt = (σ.1 1 x1.toInt32.toNatClampNeg).toInt) (by omega), geP (rfl : (σ.1 1 x1.toInt32.toNatClampNeg).toInt = (σ.1 1 x1.toInt32.toNatClampNeg).toInt) (by omega)⟩
    · first | have f36 := (notltE64 (show (4095 : Int64).toInt = 4095 from by decide) (rfl : x1.toInt = x1.toInt)).mp c19 | skip
      try dsimp only
      refine ⟨fun c37 => ?_, fun c37 => ?_⟩
      · first | have f38 := (eqE (show (1 : Int32).toInt = 1 from by decide) (show (0 : Int32).toInt = 0 from by decide)).mp c37 | skip
        unfold fX12_fails
        refine ⟨fun c39 => ?_, fun c39 => ?_⟩
        · have f40 := tB (σ.1 0 9)
          first | have f41 := (eqE (rfl : (σ.1 0 9).toInt = (σ.1 0 9).toInt) (show (0 : Int32).toInt = 0 from by decide)).mp c39 | skip
          unfold fX12_fails_j16
          intro σ42 eσ42
          have hσ42 : K2 σ0 σ42 := by rw [eσ42]; exact hσ.u (Rg2.u_0_9 _) (fun q => absurd q.2 (by decide)) (fun q => absurd q.2 (by decide))
          try dsimp only
          exact hQ _ _ hσ42 (⟨(kq (a := 0) (b := 14) eσ42 (fun q => absurd q.2 (by decide))), (kq (a := 0) (b := 35) eσ42 (fun q => absurd q.2 (by decide))), (kq (a := 0) (b := 24) eσ42 (fun q => absurd q.2 (by decide))), (kq (a := 0) (b := 36) eσ42 (fun q => absurd q.2 (by decide))), (kq (a := 0) (b := 41) eσ42 (fun q => absurd q.2 (by decide))), (kq (a := 0) (b := 50) eσ42 (fun q => absurd q.2 (by decide))), (kq (a := 0) (b := 51) eσ42 (fun q => absurd q.2 (by decide)))⟩) ⟨leP (show (0 : Int32).toInt = 0 from by decide) (by omega), geP (show (0 : Int32).toInt = 0 from by decide) (by omega)⟩
        · have f43 := tB (σ.1 0 9)
          first | have f44 := (noteqE (rfl : (σ.1 0 9).toInt = (σ.1 0 9).toInt) (show (0 : Int32).toInt = 0 from by decide)).mp c39 | skip
          unfold fX12_fails_j16
          intro σ45 eσ45
          have hσ45 : K2 σ0 σ45 := by rw [eσ45]; exact hσ.u (Rg2.u_0_9 _) (fun q => absurd q.2 (by decide)) (fun q => absurd q.2 (by decide))
          try dsimp only
          exact hQ _ _ hσ45 (⟨(kq (a := 0) (b := 14) eσ45 (fun q => absurd q.2 (by decide))), (kq (a := 0) (b := 35) eσ45 (fun q => absurd q.2 (by decide))), (kq (a := 0) (b := 24) eσ45 (fun q => absurd q.2 (by decide))), (kq (a := 0) (b := 36) eσ45 (fun q => absurd q.2 (by decide))), (kq (a := 0) (b := 41) eσ45 (fun q => absurd q.2 (by decide))), (kq (a := 0) (b := 50) eσ45 (fun q => absurd q.2 (by decide))), (kq (a := 0) (b := 51) eσ45 (fun q => absurd q.2 (by decide)))⟩) ⟨leP (show (0 : Int32).toInt = 0 from by decide) (by omega), geP (show (0 : Int32).toInt = 0 from by decide) (by omega)⟩
      · first | have f46 := (noteqE (show (1 : Int32).toInt = 1 from by decide) (show (0 : Int32).toInt = 0 from by decide)).mp c37 | skip
        have g48 : vp_in x1.toInt32 4096 := inE (l2iE (rfl : x1.toInt = x1.toInt) (by omega) (by omega)) (by omega) (by omega)
        refine ⟨g48, ?_⟩
        have f49 := K2.ga_1 hσ x1.toInt32.toNatClampNeg
        exact hQ _ _ hσ (⟨rfl, rfl, rfl, rfl, rfl, rfl, rfl⟩) ⟨leP (rfl : (σ.1 1 x1.toInt32.toNatClampNeg).toInt = (σ.1 1 x1.toInt32.toNatClampNeg).toInt) (by omega), geP (rfl : (σ.1 1 x1.toInt32.toNatClampNeg).toInt = (σ.1 1 x1.toInt32.toNatClampNeg).toInt) (by omega)⟩
set_option maxHeartbeats 4000000 in
theorem sX12_four {N : Nat} (hN : 4294967400 ≤ N) {x1 : Int64} {Q : Int32 → St → Prop} {σ0 σ : St} (hσ : K2 σ0 σ) (hQ : ∀ (r : Int32) (τ : St), K2 σ0 τ → (τ.1 0 14 = σ.1 0 14 ∧ τ.1 0 35 = σ.1 0 35 ∧ τ.1 0 24 = σ.1 0 24 ∧ τ.1 0 36 = σ.1 0 36 ∧ τ.1 0 41 = σ.1 0 41 ∧ τ.1 0 50 = σ.1 0 50 ∧ τ.1 0 51 = σ.1 0 51) → True → Q r τ) : fX12_four N x1 Q σ := by
  unfold fX12_four
  refine lo2_i (fun (y1 : Int32) (y2 : Int32) (τ : St) => K2 σ0 τ ∧ τ.1 0 14 = σ.1 0 14 ∧ τ.1 0 35 = σ.1 0 35 ∧ τ.1 0 24 = σ.1 0 24 ∧ τ.1 0 36 = σ.1 0 36 ∧ τ.1 0 41 = σ.1 0 41 ∧ τ.1 0 50 = σ.1 0 50 ∧ τ.1 0 51 = σ.1 0 51 ∧ 0 ≤ y2.toInt) (fun (y1 : Int32) (y2 : Int32) (τ : St) => (2147483648 - y2.toInt).toNat) ?_ N (0 : Int32) (0 : Int32) σ ⟨hσ, rfl, rfl, rfl, rfl, rfl, rfl, rfl, by first | decide | (have z0 : (0 : Int32).toInt = 0 := (by decide); omega)⟩ (by have z0 : (0 : Int32).toInt = 0 := (by decide); (try dsimp only); omega)
  intro rr3 y6 y7 σ5 hIσ5 ih4
  obtain ⟨hσ5, k8, k9, k10, k11, k12, k13, k14, i15⟩ := hIσ5
  unfold fX12_four_l5
  have f16 := tB y6
  have f17 := tB y7
  refine ⟨fun c18 => ?_, fun c18 => ?_⟩
  · first | have f20 := (leE (show (4 : Int32).toInt = 4 from by decide) (rfl : y7.toInt = y7.toInt)).mp c18 | skip
    exact hQ _ _ hσ5 (⟨k8, k9, k10, k11, k12, k13, k14⟩) trivial
  · first | have f22 := (notleE (show (4 : Int32).toInt = 4 from by decide) (rfl : y7.toInt = y7.toInt)).mp c18 | skip
    have f23 := tB64 x1
    refine sX12_read hN hσ5 (fun r34 σ25 hσ25 kk33 p35 => ?_)
    obtain ⟨k26, k27, k28, k29, k30, k31, k32⟩ := kk33
    intro v36 ev36
    intro v37 ev37
    have f38 := tB v36
    have f39 := tB ((y6 <<< (8 &&& 31)) ||| r34)
    first | have f40 : v36.toInt = ((y6 <<< (8 &&& 31)) ||| r34).toInt := (congrArg Int32.toInt ev36).trans (rfl : ((y6 <<< (8 &&& 31)) ||| r34).toInt = ((y6 <<< (8 &&& 31)) ||| r34).toInt) | skip
    have f41 := tB v37
    first | have f43 : v37.toInt = (y7.toInt + (1)) := (congrArg Int32.toInt ev37).trans (aOkE (rfl : y7.toInt = y7.toInt) (show (1 : Int32).toInt = 1 from by decide) (by omega) (by omega)) | skip
    exact ih4 v36 v37 σ25 ⟨hσ25, k26.trans (k8), k27.trans (k9), k28.trans (k10), k29.trans (k11), k30.trans (k12), k31.trans (k13), k32.trans (k14), by omega⟩ (by (try dsimp only); omega)
set_option maxHeartbeats 4000000 in
theorem sX12_table {N : Nat} (hN : 4294967400 ≤ N) {x1 : Int32} {Q : Int32 → St → Prop} {σ0 σ : St} (hσ : K2 σ0 σ) (hQ : ∀ (r : Int32) (τ : St), K2 σ0 τ → (τ.1 0 14 = σ.1 0 14 ∧ τ.1 0 35 = σ.1 0 35 ∧ τ.1 0 24 = σ.1 0 24 ∧ τ.1 0 36 = σ.1 0 36 ∧ τ.1 0 41 = σ.1 0 41 ∧ τ.1 0 50 = σ.1 0 50 ∧ τ.1 0 51 = σ.1 0 51) → True → Q r τ) : fX12_table N x1 Q σ := by
  unfold fX12_table
  refine ⟨fun c1 => ?_, fun c1 => ?_⟩
  · have f2 := K2.g_0_14 hσ
    first | have f3 := (leE (rfl : (σ.1 0 14).toInt = (σ.1 0 14).toInt) (show (0 : Int32).toInt = 0 from by decide)).mp c1 | skip
    intro σ4 eσ4
    have hσ4 : K2 σ0 σ4 := by rw [eσ4]; exact hσ.u (Rg2.u_0_9 _) (fun q => absurd q.2 (by decide)) (fun q => absurd q.2 (by decide))
    have f5 := tB x1
    refine sX12_lies hN hσ4 (fun σ6 hσ6 kk14 => ?_)
    obtain ⟨k7, k8, k9, k10, k11, k12, k13⟩ := kk14
    exact hQ _ _ hσ6 (⟨k7.trans ((kq (a := 0) (b := 14) eσ4 (fun q => absurd q.2 (by decide)))), k8.trans ((kq (a := 0) (b := 35) eσ4 (fun q => absurd q.2 (by decide)))), k9.trans ((kq (a := 0) (b := 24) eσ4 (fun q => absurd q.2 (by decide)))), k10.trans ((kq (a := 0) (b := 36) eσ4 (fun q => absurd q.2 (by decide)))), k11.trans ((kq (a := 0) (b := 41) eσ4 (fun q => absurd q.2 (by decide)))), k12.trans ((kq (a := 0) (b := 50) eσ4 (fun q => absurd q.2 (by decide)))), k13.trans ((kq (a := 0) (b := 51) eσ4 (fun q => absurd q.2 (by decide))))⟩) trivial
  · have f15 := K2.g_0_14 hσ
    first | have f16 := (notleE (rfl : (σ.1 0 14).toInt = (σ.1 0 14).toInt) (show (0 : Int32).toInt = 0 from by decide)).mp c1 | skip
    exact hQ _ _ hσ (⟨rfl, rfl, rfl, rfl, rfl, rfl, rfl⟩) trivial
set_option maxHeartbeats 4000000 in
theorem sX12_system {N : Nat} (hN : 4294967400 ≤ N) {x1 : Int32} {x2 : Int32} {Q : Int32 → St → Prop} {σ0 σ : St} (hσ : K2 σ0 σ) (hQ : ∀ (r : Int32) (τ : St), K2 σ0 τ → (τ.1 0 14 = σ.1 0 14 ∧ τ.1 0 9 = σ.1 0 9 ∧ τ.1 0 35 = σ.1 0 35 ∧ τ.1 0 24 = σ.1 0 24 ∧ τ.1 0 36 = σ.1 0 36 ∧ τ.1 0 41 = σ.1 0 41 ∧ τ.1 0 50 = σ.1 0 50 ∧ τ.1 0 51 = σ.1 0 51) → True → Q r τ) : fX12_system N x1 x2 Q σ := by
  unfold fX12_system
  unfold fX12_in
  refine ⟨fun c1 => ?_, fun c1 => ?_⟩
  · have f2 := tB x1
    first | have f3 := (ltE64 (i2lE (rfl : x1.toInt = x1.toInt)) (show (0 : Int64).toInt = 0 from by decide)).mp c1 | skip
    try dsimp only
    refine ⟨fun c4 => ?_, fun c4 => ?_⟩
    · first | have f5 := (eqE (show (0 : Int32).toInt = 0 from by decide) (show (0 : Int32).toInt = 0 from by decide)).mp c4 | skip
      exact hQ _ _ hσ (⟨rfl, rfl, rfl, rfl, rfl, rfl, rfl, rfl⟩) trivial
    · first | have f6 := (noteqE (show (0 : Int32).toInt = 0 from by decide) (show (0 : Int32).toInt = 0 from by decide)).mp c4 | skip
      refine ⟨fun c7 => ?_, fun c7 => ?_⟩
      · have f8 := K2.g_0_14 hσ
        first | have f9 := (leE (rfl : (σ.1 0 14).toInt = (σ.1 0 14).toInt) (show (0 : Int32).toInt = 0 from by decide)).mp c7 | skip
        intro σ10 eσ10
        have hσ10 : K2 σ0 σ10 := by rw [eσ10]; exact hσ.u (Rg2.u_0_12 _) (fun q => absurd q.2 (by decide)) (fun q => absurd q.2 (by decide))
        intro σ11 eσ11
        have hσ11 : K2 σ0 σ11 := by rw [eσ11]; exact hσ10.u (Rg2.u_0_13 _) (fun q => absurd q.2 (by decide)) (fun q => absurd q.2 (by decide))
        exact hQ _ _ hσ11 (⟨(kq (a := 0) (b := 14) eσ11 (fun q => absurd q.2 (by decide))).trans ((kq (a := 0) (b := 14) eσ10 (fun q => absurd q.2 (by decide)))), (kq (a := 0) (b := 9) eσ11 (fun q => absurd q.2 (by decide))).trans ((kq (a := 0) (b := 9) eσ10 (fun q => absurd q.2 (by decide)))), (kq (a := 0) (b := 35) eσ11 (fun q => absurd q.2 (by decide))).trans ((kq (a := 0) (b := 35) eσ10 (fun q => absurd q.2 (by decide)))), (kq (a := 0) (b := 24) eσ11 (fun q => absurd q.2 (by decide))).trans ((kq (a := 0) (b := 24) eσ10 (fun q => absurd q.2 (by decide)))), (kq (a := 0) (b := 36) eσ11 (fun q => absurd q.2 (by decide))).trans ((kq (a := 0) (b := 36) eσ10 (fun q => absurd q.2 (by decide)))), (kq (a := 0) (b := 41) eσ11 (fun q => absurd q.2 (by decide))).trans ((kq (a := 0) (b := 41) eσ10 (fun q => absurd q.2 (by decide)))), (kq (a := 0) (b := 50) eσ11 (fun q => absurd q.2 (by decide))).trans ((kq (a := 0) (b := 50) eσ10 (fun q => absurd q.2 (by decide)))), (kq (a := 0) (b := 51) eσ11 (fun q => absurd q.2 (by decide))).trans ((kq (a := 0) (b := 51) eσ10 (fun q => absurd q.2 (by decide))))⟩) trivial
      · have f12 := K2.g_0_14 hσ
        first | have f13 := (notleE (rfl : (σ.1 0 14).toInt = (σ.1 0 14).toInt) (show (0 : Int32).toInt = 0 from by decide)).mp c7 | skip
        exact hQ _ _ hσ (⟨rfl, rfl, rfl, rfl, rfl, rfl, rfl, rfl⟩) trivial
  · have f14 := tB x1
    first | have f15 := (notltE64 (i2lE (rfl : x1.toInt = x1.toInt)) (show (0 : Int64).toInt = 0 from by decide)).mp c1 | skip
    refine ⟨fun c16 => ?_, fun c16 => ?_⟩
    · first | have f18 := (ltE64 (show (2 : Int64).toInt = 2 from by decide) (i2lE (rfl : x1.toInt = x1.toInt))).mp c16 | skip
      try dsimp only
      refine ⟨fun c19 => ?_, fun c19 => ?_⟩
      · first | have f20 := (eqE (show (0 : Int32).toInt = 0 from by decide) (show (0 : Int32).toInt = 0 from by decide)).mp c19 | skip
        exact hQ _ _ hσ (⟨rfl, rfl, rfl, rfl, rfl, rfl, rfl, rfl⟩) trivial
      · first | have f21 := (noteqE (show (0 : Int32).toInt = 0 from by decide) (show (0 : Int32).toInt = 0 from by decide)).mp c19 | skip
        refine ⟨fun c22 => ?_, fun c22 => ?_⟩
        · have f23 := K2.g_0_14 hσ
          first | have f24 := (leE (rfl : (σ.1 0 14).toInt = (σ.1 0 14).toInt) (show (0 : Int32).toInt = 0 from by decide)).mp c22 | skip
          intro σ25 eσ25
          have hσ25 : K2 σ0 σ25 := by rw [eσ25]; exact hσ.u (Rg2.u_0_12 _) (fun q => absurd q.2 (by decide)) (fun q => absurd q.2 (by decide))
          intro σ26 eσ26
          have hσ26 : K2 σ0 σ26 := by rw [eσ26]; exact hσ25.u (Rg2.u_0_13 _) (fun q => absurd q.2 (by decide)) (fun q => absurd q.2 (by decide))
          exact hQ _ _ hσ26 (⟨(kq (a := 0) (b := 14) eσ26 (fun q => absurd q.2 (by decide))).trans ((kq (a := 0) (b := 14) eσ25 (fun q => absurd q.2 (by decide)))), (kq (a := 0) (b := 9) eσ26 (fun q => absurd q.2 (by decide))).trans ((kq (a := 0) (b := 9) eσ25 (fun q => absurd q.2 (by decide)))), (kq (a := 0) (b := 35) eσ26 (fun q => absurd q.2 (by decide))).trans ((kq (a := 0) (b := 35) eσ25 (fun q => absurd q.2 (by decide)))), (kq (a := 0) (b := 24) eσ26 (fun q => absurd q.2 (by decide))).trans ((kq (a := 0) (b := 24) eσ25 (fun q => absurd q.2 (by decide)))), (kq (a := 0) (b := 36) eσ26 (fun q => absurd q.2 (by decide))).trans ((kq (a := 0) (b := 36) eσ25 (fun q => absurd q.2 (by decide)))), (kq (a := 0) (b := 41) eσ26 (fun q => absurd q.2 (by decide))).trans ((kq (a := 0) (b := 41) eσ25 (fun q => absurd q.2 (by decide)))), (kq (a := 0) (b := 50) eσ26 (fun q => absurd q.2 (by decide))).trans ((kq (a := 0) (b := 50) eσ25 (fun q => absurd q.2 (by decide)))), (kq (a := 0) (b := 51) eσ26 (fun q => absurd q.2 (by decide))).trans ((kq (a := 0) (b := 51) eσ25 (fun q => absurd q.2 (by decide))))⟩) trivial
        · have f27 := K2.g_0_14 hσ
          first | have f28 := (notleE (rfl : (σ.1 0 14).toInt = (σ.1 0 14).toInt) (show (0 : Int32).toInt = 0 from by decide)).mp c22 | skip
          exact hQ _ _ hσ (⟨rfl, rfl, rfl, rfl, rfl, rfl, rfl, rfl⟩) trivial
    · first | have f30 := (notltE64 (show (2 : Int64).toInt = 2 from by decide) (i2lE (rfl : x1.toInt = x1.toInt))).mp c16 | skip
      try dsimp only
      refine ⟨fun c31 => ?_, fun c31 => ?_⟩
      · first | have f32 := (eqE (show (1 : Int32).toInt = 1 from by decide) (show (0 : Int32).toInt = 0 from by decide)).mp c31 | skip
        exact hQ _ _ hσ (⟨rfl, rfl, rfl, rfl, rfl, rfl, rfl, rfl⟩) trivial
      · first | have f33 := (noteqE (show (1 : Int32).toInt = 1 from by decide) (show (0 : Int32).toInt = 0 from by decide)).mp c31 | skip
        refine ⟨fun c34 => ?_, fun c34 => ?_⟩
        · have f35 := K2.g_0_14 hσ
          first | have f36 := (leE (rfl : (σ.1 0 14).toInt = (σ.1 0 14).toInt) (show (0 : Int32).toInt = 0 from by decide)).mp c34 | skip
          intro σ37 eσ37
          have hσ37 : K2 σ0 σ37 := by rw [eσ37]; exact hσ.u (Rg2.u_0_12 _) (fun q => absurd q.2 (by decide)) (fun q => absurd q.2 (by decide))
          intro σ38 eσ38
          have hσ38 : K2 σ0 σ38 := by rw [eσ38]; exact hσ37.u (Rg2.u_0_13 _) (fun q => absurd q.2 (by decide)) (fun q => absurd q.2 (by decide))
          exact hQ _ _ hσ38 (⟨(kq (a := 0) (b := 14) eσ38 (fun q => absurd q.2 (by decide))).trans ((kq (a := 0) (b := 14) eσ37 (fun q => absurd q.2 (by decide)))), (kq (a := 0) (b := 9) eσ38 (fun q => absurd q.2 (by decide))).trans ((kq (a := 0) (b := 9) eσ37 (fun q => absurd q.2 (by decide)))), (kq (a := 0) (b := 35) eσ38 (fun q => absurd q.2 (by decide))).trans ((kq (a := 0) (b := 35) eσ37 (fun q => absurd q.2 (by decide)))), (kq (a := 0) (b := 24) eσ38 (fun q => absurd q.2 (by decide))).trans ((kq (a := 0) (b := 24) eσ37 (fun q => absurd q.2 (by decide)))), (kq (a := 0) (b := 36) eσ38 (fun q => absurd q.2 (by decide))).trans ((kq (a := 0) (b := 36) eσ37 (fun q => absurd q.2 (by decide)))), (kq (a := 0) (b := 41) eσ38 (fun q => absurd q.2 (by decide))).trans ((kq (a := 0) (b := 41) eσ37 (fun q => absurd q.2 (by decide)))), (kq (a := 0) (b := 50) eσ38 (fun q => absurd q.2 (by decide))).trans ((kq (a := 0) (b := 50) eσ37 (fun q => absurd q.2 (by decide)))), (kq (a := 0) (b := 51) eσ38 (fun q => absurd q.2 (by decide))).trans ((kq (a := 0) (b := 51) eσ37 (fun q => absurd q.2 (by decide))))⟩) trivial
        · have f39 := K2.g_0_14 hσ
          first | have f40 := (notleE (rfl : (σ.1 0 14).toInt = (σ.1 0 14).toInt) (show (0 : Int32).toInt = 0 from by decide)).mp c34 | skip
          exact hQ _ _ hσ (⟨rfl, rfl, rfl, rfl, rfl, rfl, rfl, rfl⟩) trivial
set_option maxHeartbeats 4000000 in
theorem sX12_isString {N : Nat} (hN : 4294967400 ≤ N) {x0 : Int32} {Q : Int32 → St → Prop} {σ0 σ : St} (hσ : K2 σ0 σ) (hQ : ∀ r : Int32, True → Q r σ) : fX12_isString N x0 Q σ := by
  unfold fX12_isString
  refine ⟨fun c1 => ?_, fun c1 => ?_⟩
  · have f2 := tB x0
    first | have f3 := (ltE (rfl : x0.toInt = x0.toInt) (show (224 : Int32).toInt = 224 from by decide)).mp c1 | skip
    exact hQ _ trivial
  · have f4 := tB x0
    first | have f5 := (notltE (rfl : x0.toInt = x0.toInt) (show (224 : Int32).toInt = 224 from by decide)).mp c1 | skip
    refine ⟨fun c6 => ?_, fun c6 => ?_⟩
    · first | have f8 := (ltE (show (226 : Int32).toInt = 226 from by decide) (rfl : x0.toInt = x0.toInt)).mp c6 | skip
      exact hQ _ trivial
    · first | have f10 := (notltE (show (226 : Int32).toInt = 226 from by decide) (rfl : x0.toInt = x0.toInt)).mp c6 | skip
      exact hQ _ trivial
