set_option maxHeartbeats 4000000 in
theorem sX12_in {N : Nat} (hN : 4294967400 ≤ N) {x0 : Int64} {x2 : Int64} {x4 : Int64} {Q : Int32 → St → Prop} {σ0 σ : St} (hσ : K2 σ0 σ) (hQ : ∀ r : Int32, True → Q r σ) : fX12_in N x0 x2 x4 Q σ := by
  unfold fX12_in
  refine ⟨fun c1 => ?_, fun c1 => ?_⟩
  · have f2 := tB64 x0
    have f3 := tB64 x2
    first | have f4 := (ltE64 (rfl : x0.toInt = x0.toInt) (rfl : x2.toInt = x2.toInt)).mp c1 | skip
    exact hQ _ trivial
  · have f5 := tB64 x0
    have f6 := tB64 x2
    first | have f7 := (notltE64 (rfl : x0.toInt = x0.toInt) (rfl : x2.toInt = x2.toInt)).mp c1 | skip
    refine ⟨fun c8 => ?_, fun c8 => ?_⟩
    · have f9 := tB64 x4
      first | have f11 := (ltE64 (rfl : x4.toInt = x4.toInt) (rfl : x0.toInt = x0.toInt)).mp c8 | skip
      exact hQ _ trivial
    · have f12 := tB64 x4
      first | have f14 := (notltE64 (rfl : x4.toInt = x4.toInt) (rfl : x0.toInt = x0.toInt)).mp c8 | skip
      exact hQ _ trivial
set_option maxHeartbeats 4000000 in
theorem sX12_tell {N : Nat} (hN : 4294967400 ≤ N) {x1 : Int32} {x2 : Int32} {Q : St → Prop} {σ0 σ : St} (hp1 : 0 ≤ x1.toInt ∧ x1.toInt ≤ 4095) (hσ : K2 σ0 σ) (hQ : ∀ τ : St, K2 σ0 τ → (τ.1 0 14 = σ.1 0 14 ∧ τ.1 0 9 = σ.1 0 9 ∧ τ.1 0 35 = σ.1 0 35 ∧ τ.1 0 24 = σ.1 0 24 ∧ τ.1 0 36 = σ.1 0 36 ∧ τ.1 0 41 = σ.1 0 41 ∧ τ.1 0 50 = σ.1 0 50 ∧ τ.1 0 51 = σ.1 0 51) → Q τ) : fX12_tell N x1 x2 Q σ := by
  unfold fX12_tell
  intro v1 ev1
  have f2 := tB x1
  refine ⟨inE (rfl : x1.toInt = x1.toInt) (by omega) (by omega), ?_⟩
  intro σ3 eσ3
  have f4 := tB v1
  have f5 := and255 x2
  first | have f6 : v1.toInt = (x2 &&& 255).toInt := (congrArg Int32.toInt ev1).trans (rfl : (x2 &&& 255).toInt = (x2 &&& 255).toInt) | skip
  have hσ3 : K2 σ0 σ3 := by rw [eσ3]; exact hσ.u (Rg2.ra_1 (leP (rfl : v1.toInt = v1.toInt) (by omega)) (geP (rfl : v1.toInt = v1.toInt) (by omega))) (fun q => absurd q.1 (by decide)) (fun q => absurd q.1 (by decide))
  refine ⟨fun c7 => ?_, fun c7 => ?_⟩
  · have f8 := tB (σ3.1 0 7)
    have q9 : σ3.1 0 7 = σ.1 0 7 := by rw [eσ3]; exact congrFun (u1_ne (by decide)) 7
    have f10 := congrArg Int32.toInt q9
    have f11 := tB (σ.1 0 7)
    first | have f12 := (leE (rfl : (σ3.1 0 7).toInt = (σ3.1 0 7).toInt) (show (0 : Int32).toInt = 0 from by decide)).mp c7 | skip
    exact hQ _ hσ3 (⟨(kq (a := 0) (b := 14) eσ3 (fun q => absurd q.1 (by decide))), (kq (a := 0) (b := 9) eσ3 (fun q => absurd q.1 (by decide))), (kq (a := 0) (b := 35) eσ3 (fun q => absurd q.1 (by decide))), (kq (a := 0) (b := 24) eσ3 (fun q => absurd q.1 (by decide))), (kq (a := 0) (b := 36) eσ3 (fun q => absurd q.1 (by decide))), (kq (a := 0) (b := 41) eσ3 (fun q => absurd q.1 (by decide))), (kq (a := 0) (b := 50) eσ3 (fun q => absurd q.1 (by decide))), (kq (a := 0) (b := 51) eσ3 (fun q => absurd q.1 (by decide)))⟩)
  · have f13 := tB (σ3.1 0 7)
    have q14 : σ3.1 0 7 = σ.1 0 7 := by rw [eσ3]; exact congrFun (u1_ne (by decide)) 7
    have f15 := congrArg Int32.toInt q14
    have f16 := tB (σ.1 0 7)
    first | have f17 := (notleE (rfl : (σ3.1 0 7).toInt = (σ3.1 0 7).toInt) (show (0 : Int32).toInt = 0 from by decide)).mp c7 | skip
    refine ⟨fun c18 => ?_, fun c18 => ?_⟩
    · have f20 := tB (σ3.1 0 6)
      have q21 : σ3.1 0 6 = σ.1 0 6 := by rw [eσ3]; exact congrFun (u1_ne (by decide)) 6
      have f22 := congrArg Int32.toInt q21
      have f23 := tB (σ.1 0 6)
      first | have f24 := (ltE (rfl : x1.toInt = x1.toInt) (rfl : (σ3.1 0 6).toInt = (σ3.1 0 6).toInt)).mp c18 | skip
      exact hQ _ hσ3 (⟨(kq (a := 0) (b := 14) eσ3 (fun q => absurd q.1 (by decide))), (kq (a := 0) (b := 9) eσ3 (fun q => absurd q.1 (by decide))), (kq (a := 0) (b := 35) eσ3 (fun q => absurd q.1 (by decide))), (kq (a := 0) (b := 24) eσ3 (fun q => absurd q.1 (by decide))), (kq (a := 0) (b := 36) eσ3 (fun q => absurd q.1 (by decide))), (kq (a := 0) (b := 41) eσ3 (fun q => absurd q.1 (by decide))), (kq (a := 0) (b := 50) eσ3 (fun q => absurd q.1 (by decide))), (kq (a := 0) (b := 51) eσ3 (fun q => absurd q.1 (by decide)))⟩)
    · have f26 := tB (σ3.1 0 6)
      have q27 : σ3.1 0 6 = σ.1 0 6 := by rw [eσ3]; exact congrFun (u1_ne (by decide)) 6
      have f28 := congrArg Int32.toInt q27
      have f29 := tB (σ.1 0 6)
      first | have f30 := (notltE (rfl : x1.toInt = x1.toInt) (rfl : (σ3.1 0 6).toInt = (σ3.1 0 6).toInt)).mp c18 | skip
      refine ⟨fun c31 => ?_, fun c31 => ?_⟩
      · have f33 := tB64 (σ3.2 0 8)
        first | have f35 := (leE64 (aOkE64 (i2lE (rfl : (σ3.1 0 6).toInt = (σ3.1 0 6).toInt)) (rfl : (σ3.2 0 8).toInt = (σ3.2 0 8).toInt) (by omega) (by omega)) (i2lE (rfl : x1.toInt = x1.toInt))).mp c31 | skip
        exact hQ _ hσ3 (⟨(kq (a := 0) (b := 14) eσ3 (fun q => absurd q.1 (by decide))), (kq (a := 0) (b := 9) eσ3 (fun q => absurd q.1 (by decide))), (kq (a := 0) (b := 35) eσ3 (fun q => absurd q.1 (by decide))), (kq (a := 0) (b := 24) eσ3 (fun q => absurd q.1 (by decide))), (kq (a := 0) (b := 36) eσ3 (fun q => absurd q.1 (by decide))), (kq (a := 0) (b := 41) eσ3 (fun q => absurd q.1 (by decide))), (kq (a := 0) (b := 50) eσ3 (fun q => absurd q.1 (by decide))), (kq (a := 0) (b := 51) eσ3 (fun q => absurd q.1 (by decide)))⟩)
      · have f37 := tB64 (σ3.2 0 8)
        first | have f39 := (notleE64 (aOkE64 (i2lE (rfl : (σ3.1 0 6).toInt = (σ3.1 0 6).toInt)) (rfl : (σ3.2 0 8).toInt = (σ3.2 0 8).toInt) (by omega) (by omega)) (i2lE (rfl : x1.toInt = x1.toInt))).mp c31 | skip
        intro σ40 eσ40
        have hσ40 : K2 σ0 σ40 := by rw [eσ40]; exact hσ3.u (Rg2.u_0_7 _) (fun q => absurd q.2 (by decide)) (fun q => absurd q.2 (by decide))
        exact hQ _ hσ40 (⟨(kq (a := 0) (b := 14) eσ40 (fun q => absurd q.2 (by decide))).trans ((kq (a := 0) (b := 14) eσ3 (fun q => absurd q.1 (by decide)))), (kq (a := 0) (b := 9) eσ40 (fun q => absurd q.2 (by decide))).trans ((kq (a := 0) (b := 9) eσ3 (fun q => absurd q.1 (by decide)))), (kq (a := 0) (b := 35) eσ40 (fun q => absurd q.2 (by decide))).trans ((kq (a := 0) (b := 35) eσ3 (fun q => absurd q.1 (by decide)))), (kq (a := 0) (b := 24) eσ40 (fun q => absurd q.2 (by decide))).trans ((kq (a := 0) (b := 24) eσ3 (fun q => absurd q.1 (by decide)))), (kq (a := 0) (b := 36) eσ40 (fun q => absurd q.2 (by decide))).trans ((kq (a := 0) (b := 36) eσ3 (fun q => absurd q.1 (by decide)))), (kq (a := 0) (b := 41) eσ40 (fun q => absurd q.2 (by decide))).trans ((kq (a := 0) (b := 41) eσ3 (fun q => absurd q.1 (by decide)))), (kq (a := 0) (b := 50) eσ40 (fun q => absurd q.2 (by decide))).trans ((kq (a := 0) (b := 50) eσ3 (fun q => absurd q.1 (by decide)))), (kq (a := 0) (b := 51) eσ40 (fun q => absurd q.2 (by decide))).trans ((kq (a := 0) (b := 51) eσ3 (fun q => absurd q.1 (by decide))))⟩)
set_option maxHeartbeats 4000000 in
theorem sX12_byteAt {N : Nat} (hN : 4294967400 ≤ N) {x1 : Int32} {Q : Int32 → St → Prop} {σ0 σ : St} (hσ : K2 σ0 σ) (hQ : ∀ r : Int32, True → Q r σ) : fX12_byteAt N x1 Q σ := by
  unfold fX12_byteAt
  try unfold fX12_in
  refine ⟨fun c1 => ?_, fun c1 => ?_⟩
  · have f2 := tB x1
    first | have f3 := (ltE64 (i2lE (rfl : x1.toInt = x1.toInt)) (show (0 : Int64).toInt = 0 from by decide)).mp c1 | skip
    try dsimp only
    refine ⟨fun c4 => ?_, fun c4 => ?_⟩
    · first | have f5 := (eqE (show (0 : Int32).toInt = 0 from by decide) (show (0 : Int32).toInt = 0 from by decide)).mp c4 | skip
      exact hQ _ trivial
    · first | have f6 := (noteqE (show (0 : Int32).toInt = 0 from by decide) (show (0 : Int32).toInt = 0 from by decide)).mp c4 | skip
      have g8 : vp_in x1 4096 := inE (rfl : x1.toInt = x1.toInt) (by omega) (by omega)
      refine ⟨g8, ?_⟩
      exact hQ _ trivial
  · have f9 := tB x1
    first | have f10 := (notltE64 (i2lE (rfl : x1.toInt = x1.toInt)) (show (0 : Int64).toInt = 0 from by decide)).mp c1 | skip
    refine ⟨fun c11 => ?_, fun c11 => ?_⟩
    · first | have f13 := (ltE64 (show (4095 : Int64).toInt = 4095 from by decide) (i2lE (rfl : x1.toInt = x1.toInt))).mp c11 | skip
      try dsimp only
      refine ⟨fun c14 => ?_, fun c14 => ?_⟩
      · first | have f15 := (eqE (show (0 : Int32).toInt = 0 from by decide) (show (0 : Int32).toInt = 0 from by decide)).mp c14 | skip
        exact hQ _ trivial
      · first | have f16 := (noteqE (show (0 : Int32).toInt = 0 from by decide) (show (0 : Int32).toInt = 0 from by decide)).mp c14 | skip
        have g18 : vp_in x1 4096 := inE (rfl : x1.toInt = x1.toInt) (by omega) (by omega)
        refine ⟨g18, ?_⟩
        exact hQ _ trivial
    · first | have f20 := (notltE64 (show (4095 : Int64).toInt = 4095 from by decide) (i2lE (rfl : x1.toInt = x1.toInt))).mp c11 | skip
      try dsimp only
      refine ⟨fun c21 => ?_, fun c21 => ?_⟩
      · first | have f22 := (eqE (show (1 : Int32).toInt = 1 from by decide) (show (0 : Int32).toInt = 0 from by decide)).mp c21 | skip
        exact hQ _ trivial
      · first | have f23 := (noteqE (show (1 : Int32).toInt = 1 from by decide) (show (0 : Int32).toInt = 0 from by decide)).mp c21 | skip
        have g25 : vp_in x1 4096 := inE (rfl : x1.toInt = x1.toInt) (by omega) (by omega)
        refine ⟨g25, ?_⟩
        exact hQ _ trivial
set_option maxHeartbeats 4000000 in
theorem sX12_fails {N : Nat} (hN : 4294967400 ≤ N) {x1 : Int32} {Q : St → Prop} {σ0 σ : St} (hσ : K2 σ0 σ) (hQ : ∀ τ : St, K2 σ0 τ → (τ.1 0 14 = σ.1 0 14 ∧ τ.1 0 35 = σ.1 0 35 ∧ τ.1 0 24 = σ.1 0 24 ∧ τ.1 0 36 = σ.1 0 36 ∧ τ.1 0 41 = σ.1 0 41 ∧ τ.1 0 50 = σ.1 0 50 ∧ τ.1 0 51 = σ.1 0 51) → Q τ) : fX12_fails N x1 Q σ := by
  unfold fX12_fails
  refine ⟨fun c1 => ?_, fun c1 => ?_⟩
  · have f2 := tB (σ.1 0 9)
    first | have f3 := (eqE (rfl : (σ.1 0 9).toInt = (σ.1 0 9).toInt) (show (0 : Int32).toInt = 0 from by decide)).mp c1 | skip
    try unfold fX12_fails_j16
    intro σ4 eσ4
    have hσ4 : K2 σ0 σ4 := by rw [eσ4]; exact hσ.u (Rg2.u_0_9 _) (fun q => absurd q.2 (by decide)) (fun q => absurd q.2 (by decide))
    exact hQ _ hσ4 (⟨(kq (a := 0) (b := 14) eσ4 (fun q => absurd q.2 (by decide))), (kq (a := 0) (b := 35) eσ4 (fun q => absurd q.2 (by decide))), (kq (a := 0) (b := 24) eσ4 (fun q => absurd q.2 (by decide))), (kq (a := 0) (b := 36) eσ4 (fun q => absurd q.2 (by decide))), (kq (a := 0) (b := 41) eσ4 (fun q => absurd q.2 (by decide))), (kq (a := 0) (b := 50) eσ4 (fun q => absurd q.2 (by decide))), (kq (a := 0) (b := 51) eσ4 (fun q => absurd q.2 (by decide)))⟩)
  · have f5 := tB (σ.1 0 9)
    first | have f6 := (noteqE (rfl : (σ.1 0 9).toInt = (σ.1 0 9).toInt) (show (0 : Int32).toInt = 0 from by decide)).mp c1 | skip
    try unfold fX12_fails_j16
    intro σ7 eσ7
    have hσ7 : K2 σ0 σ7 := by rw [eσ7]; exact hσ.u (Rg2.u_0_9 _) (fun q => absurd q.2 (by decide)) (fun q => absurd q.2 (by decide))
    exact hQ _ hσ7 (⟨(kq (a := 0) (b := 14) eσ7 (fun q => absurd q.2 (by decide))), (kq (a := 0) (b := 35) eσ7 (fun q => absurd q.2 (by decide))), (kq (a := 0) (b := 24) eσ7 (fun q => absurd q.2 (by decide))), (kq (a := 0) (b := 36) eσ7 (fun q => absurd q.2 (by decide))), (kq (a := 0) (b := 41) eσ7 (fun q => absurd q.2 (by decide))), (kq (a := 0) (b := 50) eσ7 (fun q => absurd q.2 (by decide))), (kq (a := 0) (b := 51) eσ7 (fun q => absurd q.2 (by decide)))⟩)
set_option maxHeartbeats 4000000 in
theorem sX12_read {N : Nat} (hN : 4294967400 ≤ N) {x1 : Int64} {Q : Int32 → St → Prop} {σ0 σ : St} (hσ : K2 σ0 σ) (hQ : ∀ (r : Int32) (τ : St), K2 σ0 τ → (τ.1 0 14 = σ.1 0 14 ∧ τ.1 0 35 = σ.1 0 35 ∧ τ.1 0 24 = σ.1 0 24 ∧ τ.1 0 36 = σ.1 0 36 ∧ τ.1 0 41 = σ.1 0 41 ∧ τ.1 0 50 = σ.1 0 50 ∧ τ.1 0 51 = σ.1 0 51) → (0) ≤ r.toInt ∧ r.toInt ≤ 255 → Q r τ) : fX12_read N x1 Q σ := by
  unfold fX12_read
  try unfold fX12_in
  refine ⟨fun c1 => ?_, fun c1 => ?_⟩
  · have f2 := tB64 x1
    first | have f3 := (ltE64 (rfl : x1.toInt = x1.toInt) (show (0 : Int64).toInt = 0 from by decide)).mp c1 | skip
    try dsimp only
    refine ⟨fun c4 => ?_, fun c4 => ?_⟩
    · first | have f5 := (eqE (show (0 : Int32).toInt = 0 from by decide) (show (0 : Int32).toInt = 0 from by decide)).mp c4 | skip
      try unfold fX12_fails
      refine ⟨fun c6 => ?_, fun c6 => ?_⟩
      · have f7 := tB (σ.1 0 9)
        first | have f8 := (eqE (rfl : (σ.1 0 9).toInt = (σ.1 0 9).toInt) (show (0 : Int32).toInt = 0 from by decide)).mp c6 | skip
        try unfold fX12_fails_j16
        intro σ9 eσ9
        have hσ9 : K2 σ0 σ9 := by rw [eσ9]; exact hσ.u (Rg2.u_0_9 _) (fun q => absurd q.2 (by decide)) (fun q => absurd q.2 (by decide))
        try dsimp only
        exact hQ _ _ hσ9 (⟨(kq (a := 0) (b := 14) eσ9 (fun q => absurd q.2 (by decide))), (kq (a := 0) (b := 35) eσ9 (fun q => absurd q.2 (by decide))), (kq (a := 0) (b := 24) eσ9 (fun q => absurd q.2 (by decide))), (kq (a := 0) (b := 36) eσ9 (fun q => absurd q.2 (by decide))), (kq (a := 0) (b := 41) eσ9 (fun q => absurd q.2 (by decide))), (kq (a := 0) (b := 50) eσ9 (fun q => absurd q.2 (by decide))), (kq (a := 0) (b := 51) eσ9 (fun q => absurd q.2 (by decide)))⟩) ⟨leP (show (0 : Int32).toInt = 0 from by decide) (by omega), geP (show (0 : Int32).toInt = 0 from by decide) (by omega)⟩
      · have f10 := tB (σ.1 0 9)
        first | have f11 := (noteqE (rfl : (σ.1 0 9).toInt = (σ.1 0 9).toInt) (show (0 : Int32).toInt = 0 from by decide)).mp c6 | skip
        try unfold fX12_fails_j16
        intro σ12 eσ12
        have hσ12 : K2 σ0 σ12 := by rw [eσ12]; exact hσ.u (Rg2.u_0_9 _) (fun q => absurd q.2 (by decide)) (fun q => absurd q.2 (by decide))
        try dsimp only
        exact hQ _ _ hσ12 (⟨(kq (a := 0) (b := 14) eσ12 (fun q => absurd q.2 (by decide))), (kq (a := 0) (b := 35) eσ12 (fun q => absurd q.2 (by decide))), (kq (a := 0) (b := 24) eσ12 (fun q => absurd q.2 (by decide))), (kq (a := 0) (b := 36) eσ12 (fun q => absurd q.2 (by decide))), (kq (a := 0) (b := 41) eσ12 (fun q => absurd q.2 (by decide))), (kq (a := 0) (b := 50) eσ12 (fun q => absurd q.2 (by decide))), (kq (a := 0) (b := 51) eσ12 (fun q => absurd q.2 (by decide)))⟩) ⟨leP (show (0 : Int32).toInt = 0 from by decide) (by omega), geP (show (0 : Int32).toInt = 0 from by decide) (by omega)⟩
    · first | have f13 := (noteqE (show (0 : Int32).toInt = 0 from by decide) (show (0 : Int32).toInt = 0 from by decide)).mp c4 | skip
      have g15 : vp_in x1.toInt32 4096 := inE (l2iE (rfl : x1.toInt = x1.toInt) (by omega) (by omega)) (by omega) (by omega)
      refine ⟨g15, ?_⟩
      have f16 := K2.ga_1 hσ x1.toInt32.toNatClampNeg
      exact hQ _ _ hσ (⟨rfl, rfl, rfl, rfl, rfl, rfl, rfl⟩) ⟨leP (rfl : (σ.1 1 x1.toInt32.toNatClampNeg).toInt = (σ.1 1 x1.toInt32.toNatClampNeg).toInt) (by omega), geP (rfl : (σ.1 1 x1.toInt32.toNatClampNeg).toInt = (σ.1 1 x1.toInt32.toNatClampNeg).toInt) (by omega)⟩
  · have f17 := tB64 x1
    first | have f18 := (notltE64 (rfl : x1.toInt = x1.toInt) (show (0 : Int64).toInt = 0 from by decide)).mp c1 | skip
    refine ⟨fun c19 => ?_, fun c19 => ?_⟩
    · first | have f21 := (ltE64 (show (4095 : Int64).toInt = 4095 from by decide) (rfl : x1.toInt = x1.toInt)).mp c19 | skip
      try dsimp only
      refine ⟨fun c22 => ?_, fun c22 => ?_⟩
      · first | have f23 := (eqE (show (0 : Int32).toInt = 0 from by decide) (show (0 : Int32).toInt = 0 from by decide)).mp c22 | skip
        try unfold fX12_fails
        refine ⟨fun c24 => ?_, fun c24 => ?_⟩
        · have f25 := tB (σ.1 0 9)
          first | have f26 := (eqE (rfl : (σ.1 0 9).toInt = (σ.1 0 9).toInt) (show (0 : Int32).toInt = 0 from by decide)).mp c24 | skip
          try unfold fX12_fails_j16
          intro σ27 eσ27
          have hσ27 : K2 σ0 σ27 := by rw [eσ27]; exact hσ.u (Rg2.u_0_9 _) (fun q => absurd q.2 (by decide)) (fun q => absurd q.2 (by decide))
          try dsimp only
          exact hQ _ _ hσ27 (⟨(kq (a := 0) (b := 14) eσ27 (fun q => absurd q.2 (by decide))), (kq (a := 0) (b := 35) eσ27 (fun q => absurd q.2 (by decide))), (kq (a := 0) (b := 24) eσ27 (fun q => absurd q.2 (by decide))), (kq (a := 0) (b := 36) eσ27 (fun q => absurd q.2 (by decide))), (kq (a := 0) (b := 41) eσ27 (fun q => absurd q.2 (by decide))), (kq (a := 0) (b := 50) eσ27 (fun q => absurd q.2 (by decide))), (kq (a := 0) (b := 51) eσ27 (fun q => absurd q.2 (by decide)))⟩) ⟨leP (show (0 : Int32).toInt = 0 from by decide) (by omega), geP (show (0 : Int32).toInt = 0 from by decide) (by omega)⟩
        · have f28 := tB (σ.1 0 9)
          first | have f29 := (noteqE (rfl : (σ.1 0 9).toInt = (σ.1 0 9).toInt) (show (0 : Int32).toInt = 0 from by decide)).mp c24 | skip
          try unfold fX12_fails_j16
          intro σ30 eσ30
          have hσ30 : K2 σ0 σ30 := by rw [eσ30]; exact hσ.u (Rg2.u_0_9 _) (fun q => absurd q.2 (by decide)) (fun q => absurd q.2 (by decide))
          try dsimp only
          exact hQ _ _ hσ30 (⟨(kq (a := 0) (b := 14) eσ30 (fun q => absurd q.2 (by decide))), (kq (a := 0) (b := 35) eσ30 (fun q => absurd q.2 (by decide))), (kq (a := 0) (b := 24) eσ30 (fun q => absurd q.2 (by decide))), (kq (a := 0) (b := 36) eσ30 (fun q => absurd q.2 (by decide))), (kq (a := 0) (b := 41) eσ30 (fun q => absurd q.2 (by decide))), (kq (a := 0) (b := 50) eσ30 (fun q => absurd q.2 (by decide))), (kq (a := 0) (b := 51) eσ30 (fun q => absurd q.2 (by decide)))⟩) ⟨leP (show (0 : Int32).toInt = 0 from by decide) (by omega), geP (show (0 : Int32).toInt = 0 from by decide) (by omega)⟩
      · first | have f31 := (noteqE (show (0 : Int32).toInt = 0 from by decide) (show (0 : Int32).toInt = 0 from by decide)).mp c22 | skip
        have g33 : vp_in x1.toInt32 4096 := inE (l2iE (rfl : x1.toInt = x1.toInt) (by omega) (by omega)) (by omega) (by omega)
        refine ⟨g33, ?_⟩
        have f34 := K2.ga_1 hσ x1.toInt32.toNatClampNeg
        exact hQ _ _ hσ (⟨rfl, rfl, rfl, rfl, rfl, rfl, rfl⟩) ⟨leP (rfl : (σ.1 1 x1.toInt32.toNatClampNeg).toInt = (σ.1 1 x1.toInt32.toNatClampNeg).toInt) (by omega), geP (rfl : (σ.1 1 x1.toInt32.toNatClampNeg).toInt = (σ.1 1 x1.toInt32.toNatClampNeg).toInt) (by omega)⟩
    · first | have f36 := (notltE64 (show (4095 : Int64).toInt = 4095 from by decide) (rfl : x1.toInt = x1.toInt)).mp c19 | skip
      try dsimp only
      refine ⟨fun c37 => ?_, fun c37 => ?_⟩
      · first | have f38 := (eqE (show (1 : Int32).toInt = 1 from by decide) (show (0 : Int32).toInt = 0 from by decide)).mp c37 | skip
        try unfold fX12_fails
        refine ⟨fun c39 => ?_, fun c39 => ?_⟩
        · have f40 := tB (σ.1 0 9)
          first | have f41 := (eqE (rfl : (σ.1 0 9).toInt = (σ.1 0 9).toInt) (show (0 : Int32).toInt = 0 from by decide)).mp c39 | skip
          try unfold fX12_fails_j16
          intro σ42 eσ42
          have hσ42 : K2 σ0 σ42 := by rw [eσ42]; exact hσ.u (Rg2.u_0_9 _) (fun q => absurd q.2 (by decide)) (fun q => absurd q.2 (by decide))
          try dsimp only
          exact hQ _ _ hσ42 (⟨(kq (a := 0) (b := 14) eσ42 (fun q => absurd q.2 (by decide))), (kq (a := 0) (b := 35) eσ42 (fun q => absurd q.2 (by decide))), (kq (a := 0) (b := 24) eσ42 (fun q => absurd q.2 (by decide))), (kq (a := 0) (b := 36) eσ42 (fun q => absurd q.2 (by decide))), (kq (a := 0) (b := 41) eσ42 (fun q => absurd q.2 (by decide))), (kq (a := 0) (b := 50) eσ42 (fun q => absurd q.2 (by decide))), (kq (a := 0) (b := 51) eσ42 (fun q => absurd q.2 (by decide)))⟩) ⟨leP (show (0 : Int32).toInt = 0 from by decide) (by omega), geP (show (0 : Int32).toInt = 0 from by decide) (by omega)⟩
        · have f43 := tB (σ.1 0 9)
          first | have f44 := (noteqE (rfl : (σ.1 0 9).toInt = (σ.1 0 9).toInt) (show (0 : Int32).toInt = 0 from by decide)).mp c39 | skip
          try unfold fX12_fails_j16
          intro σ45 eσ45
          have hσ45 : K2 σ0 σ45 := by rw [eσ45]; exact hσ.u (Rg2.u_0_9 _) (fun q => absurd q.2 (by decide)) (fun q => absurd q.2 (by decide))
          try dsimp only
          exact hQ _ _ hσ45 (⟨(kq (a := 0) (b := 14) eσ45 (fun q => absurd q.2 (by decide))), (kq (a := 0) (b := 35) eσ45 (fun q => absurd q.2 (by decide))), (kq (a := 0) (b := 24) eσ45 (fun q => absurd q.2 (by decide))), (kq (a := 0) (b := 36) eσ45 (fun q => absurd q.2 (by decide))), (kq (a := 0) (b := 41) eσ45 (fun q => absurd q.2 (by decide))), (kq (a := 0) (b := 50) eσ45 (fun q => absurd q.2 (by decide))), (kq (a := 0) (b := 51) eσ45 (fun q => absurd q.2 (by decide)))⟩) ⟨leP (show (0 : Int32).toInt = 0 from by decide) (by omega), geP (show (0 : Int32).toInt = 0 from by decide) (by omega)⟩
      · first | have f46 := (noteqE (show (1 : Int32).toInt = 1 from by decide) (show (0 : Int32).toInt = 0 from by decide)).mp c37 | skip
        have g48 : vp_in x1.toInt32 4096 := inE (l2iE (rfl : x1.toInt = x1.toInt) (by omega) (by omega)) (by omega) (by omega)
        refine ⟨g48, ?_⟩
        have f49 := K2.ga_1 hσ x1.toInt32.toNatClampNeg
        exact hQ _ _ hσ (⟨rfl, rfl, rfl, rfl, rfl, rfl, rfl⟩) ⟨leP (rfl : (σ.1 1 x1.toInt32.toNatClampNeg).toInt = (σ.1 1 x1.toInt32.toNatClampNeg).toInt) (by omega), geP (rfl : (σ.1 1 x1.toInt32.toNatClampNeg).toInt = (σ.1 1 x1.toInt32.toNatClampNeg).toInt) (by omega)⟩
set_option maxHeartbeats 4000000 in
theorem sX12_four {N : Nat} (hN : 4294967400 ≤ N) {x1 : Int64} {Q : Int32 → St → Prop} {σ0 σ : St} (hσ : K2 σ0 σ) (hQ : ∀ (r : Int32) (τ : St), K2 σ0 τ → (τ.1 0 14 = σ.1 0 14 ∧ τ.1 0 35 = σ.1 0 35 ∧ τ.1 0 24 = σ.1 0 24 ∧ τ.1 0 36 = σ.1 0 36 ∧ τ.1 0 41 = σ.1 0 41 ∧ τ.1 0 50 = σ.1 0 50 ∧ τ.1 0 51 = σ.1 0 51) → True → Q r τ) : fX12_four N x1 Q σ := by
  unfold fX12_four
  refine lo2_i (fun (y1 : Int32) (y2 : Int32) (τ : St) => K2 σ0 τ ∧ τ.1 0 14 = σ.1 0 14 ∧ τ.1 0 35 = σ.1 0 35 ∧ τ.1 0 24 = σ.1 0 24 ∧ τ.1 0 36 = σ.1 0 36 ∧ τ.1 0 41 = σ.1 0 41 ∧ τ.1 0 50 = σ.1 0 50 ∧ τ.1 0 51 = σ.1 0 51 ∧ 0 ≤ y2.toInt) (fun (y1 : Int32) (y2 : Int32) (τ : St) => (2147483648 - y2.toInt).toNat) ?_ N (0 : Int32) (0 : Int32) σ ⟨hσ, rfl, rfl, rfl, rfl, rfl, rfl, rfl, by first | decide | (have z0 : (0 : Int32).toInt = 0 := (by decide); omega)⟩ (by have z0 : (0 : Int32).toInt = 0 := (by decide); (try dsimp only); omega)
  intro rr3 y6 y7 σ5 hIσ5 ih4
  obtain ⟨hσ5, k8, k9, k10, k11, k12, k13, k14, i15⟩ := hIσ5
  unfold fX12_four_l5
  have f16 := tB y6
  have f17 := tB y7
  refine ⟨fun c18 => ?_, fun c18 => ?_⟩
  · first | have f20 := (leE (show (4 : Int32).toInt = 4 from by decide) (rfl : y7.toInt = y7.toInt)).mp c18 | skip
    exact hQ _ _ hσ5 (⟨k8, k9, k10, k11, k12, k13, k14⟩) trivial
  · first | have f22 := (notleE (show (4 : Int32).toInt = 4 from by decide) (rfl : y7.toInt = y7.toInt)).mp c18 | skip
    have f23 := tB64 x1
    refine sX12_read hN hσ5 (fun r34 σ25 hσ25 kk33 p35 => ?_)
    obtain ⟨k26, k27, k28, k29, k30, k31, k32⟩ := kk33
    intro v36 ev36
    intro v37 ev37
    have f38 := tB v36
    have f39 := tB ((y6 <<< (8 &&& 31)) ||| r34)
    first | have f40 : v36.toInt = ((y6 <<< (8 &&& 31)) ||| r34).toInt := (congrArg Int32.toInt ev36).trans (rfl : ((y6 <<< (8 &&& 31)) ||| r34).toInt = ((y6 <<< (8 &&& 31)) ||| r34).toInt) | skip
    have f41 := tB v37
    first | have f43 : v37.toInt = (y7.toInt + (1)) := (congrArg Int32.toInt ev37).trans (aOkE (rfl : y7.toInt = y7.toInt) (show (1 : Int32).toInt = 1 from by decide) (by omega) (by omega)) | skip
    exact ih4 v36 v37 σ25 ⟨hσ25, k26.trans (k8), k27.trans (k9), k28.trans (k10), k29.trans (k11), k30.trans (k12), k31.trans (k13), k32.trans (k14), by omega⟩ (by (try dsimp only); omega)
set_option maxHeartbeats 4000000 in
theorem sX12_system {N : Nat} (hN : 4294967400 ≤ N) {x1 : Int32} {x2 : Int32} {Q : Int32 → St → Prop} {σ0 σ : St} (hσ : K2 σ0 σ) (hQ : ∀ (r : Int32) (τ : St), K2 σ0 τ → (τ.1 0 14 = σ.1 0 14 ∧ τ.1 0 9 = σ.1 0 9 ∧ τ.1 0 35 = σ.1 0 35 ∧ τ.1 0 24 = σ.1 0 24 ∧ τ.1 0 36 = σ.1 0 36 ∧ τ.1 0 41 = σ.1 0 41 ∧ τ.1 0 50 = σ.1 0 50 ∧ τ.1 0 51 = σ.1 0 51) → True → Q r τ) : fX12_system N x1 x2 Q σ := by
  unfold fX12_system
  try unfold fX12_in
  refine ⟨fun c1 => ?_, fun c1 => ?_⟩
  · have f2 := tB x1
    first | have f3 := (ltE64 (i2lE (rfl : x1.toInt = x1.toInt)) (show (0 : Int64).toInt = 0 from by decide)).mp c1 | skip
    try dsimp only
    refine ⟨fun c4 => ?_, fun c4 => ?_⟩
    · first | have f5 := (eqE (show (0 : Int32).toInt = 0 from by decide) (show (0 : Int32).toInt = 0 from by decide)).mp c4 | skip
      exact hQ _ _ hσ (⟨rfl, rfl, rfl, rfl, rfl, rfl, rfl, rfl⟩) trivial
    · first | have f6 := (noteqE (show (0 : Int32).toInt = 0 from by decide) (show (0 : Int32).toInt = 0 from by decide)).mp c4 | skip
      refine ⟨fun c7 => ?_, fun c7 => ?_⟩
      · have f8 := K2.g_0_14 hσ
        first | have f9 := (leE (rfl : (σ.1 0 14).toInt = (σ.1 0 14).toInt) (show (0 : Int32).toInt = 0 from by decide)).mp c7 | skip
        intro σ10 eσ10
        have hσ10 : K2 σ0 σ10 := by rw [eσ10]; exact hσ.u (Rg2.u_0_12 _) (fun q => absurd q.2 (by decide)) (fun q => absurd q.2 (by decide))
        intro σ11 eσ11
        have hσ11 : K2 σ0 σ11 := by rw [eσ11]; exact hσ10.u (Rg2.u_0_13 _) (fun q => absurd q.2 (by decide)) (fun q => absurd q.2 (by decide))
        exact hQ _ _ hσ11 (⟨(kq (a := 0) (b := 14) eσ11 (fun q => absurd q.2 (by decide))).trans ((kq (a := 0) (b := 14) eσ10 (fun q => absurd q.2 (by decide)))), (kq (a := 0) (b := 9) eσ11 (fun q => absurd q.2 (by decide))).trans ((kq (a := 0) (b := 9) eσ10 (fun q => absurd q.2 (by decide)))), (kq (a := 0) (b := 35) eσ11 (fun q => absurd q.2 (by decide))).trans ((kq (a := 0) (b := 35) eσ10 (fun q => absurd q.2 (by decide)))), (kq (a := 0) (b := 24) eσ11 (fun q => absurd q.2 (by decide))).trans ((kq (a := 0) (b := 24) eσ10 (fun q => absurd q.2 (by decide)))), (kq (a := 0) (b := 36) eσ11 (fun q => absurd q.2 (by decide))).trans ((kq (a := 0) (b := 36) eσ10 (fun q => absurd q.2 (by decide)))), (kq (a := 0) (b := 41) eσ11 (fun q => absurd q.2 (by decide))).trans ((kq (a := 0) (b := 41) eσ10 (fun q => absurd q.2 (by decide)))), (kq (a := 0) (b := 50) eσ11 (fun q => absurd q.2 (by decide))).trans ((kq (a := 0) (b := 50) eσ10 (fun q => absurd q.2 (by decide)))), (kq (a := 0) (b := 51) eσ11 (fun q => absurd q.2 (by decide))).trans ((kq (a := 0) (b := 51) eσ10 (fun q => absurd q.2 (by decide))))⟩) trivial
      · have f12 := K2.g_0_14 hσ
        first | have f13 := (notleE (rfl : (σ.1 0 14).toInt = (σ.1 0 14).toInt) (show (0 : Int32).toInt = 0 from by decide)).mp c7 | skip
        exact hQ _ _ hσ (⟨rfl, rfl, rfl, rfl, rfl, rfl, rfl, rfl⟩) trivial
  · have f14 := tB x1
    first | have f15 := (notltE64 (i2lE (rfl : x1.toInt = x1.toInt)) (show (0 : Int64).toInt = 0 from by decide)).mp c1 | skip
    refine ⟨fun c16 => ?_, fun c16 => ?_⟩
    · first | have f18 := (ltE64 (show (2 : Int64).toInt = 2 from by decide) (i2lE (rfl : x1.toInt = x1.toInt))).mp c16 | skip
      try dsimp only
      refine ⟨fun c19 => ?_, fun c19 => ?_⟩
      · first | have f20 := (eqE (show (0 : Int32).toInt = 0 from by decide) (show (0 : Int32).toInt = 0 from by decide)).mp c19 | skip
        exact hQ _ _ hσ (⟨rfl, rfl, rfl, rfl, rfl, rfl, rfl, rfl⟩) trivial
      · first | have f21 := (noteqE (show (0 : Int32).toInt = 0 from by decide) (show (0 : Int32).toInt = 0 from by decide)).mp c19 | skip
        refine ⟨fun c22 => ?_, fun c22 => ?_⟩
        · have f23 := K2.g_0_14 hσ
          first | have f24 := (leE (rfl : (σ.1 0 14).toInt = (σ.1 0 14).toInt) (show (0 : Int32).toInt = 0 from by decide)).mp c22 | skip
          intro σ25 eσ25
          have hσ25 : K2 σ0 σ25 := by rw [eσ25]; exact hσ.u (Rg2.u_0_12 _) (fun q => absurd q.2 (by decide)) (fun q => absurd q.2 (by decide))
          intro σ26 eσ26
          have hσ26 : K2 σ0 σ26 := by rw [eσ26]; exact hσ25.u (Rg2.u_0_13 _) (fun q => absurd q.2 (by decide)) (fun q => absurd q.2 (by decide))
          exact hQ _ _ hσ26 (⟨(kq (a := 0) (b := 14) eσ26 (fun q => absurd q.2 (by decide))).trans ((kq (a := 0) (b := 14) eσ25 (fun q => absurd q.2 (by decide)))), (kq (a := 0) (b := 9) eσ26 (fun q => absurd q.2 (by decide))).trans ((kq (a := 0) (b := 9) eσ25 (fun q => absurd q.2 (by decide)))), (kq (a := 0) (b := 35) eσ26 (fun q => absurd q.2 (by decide))).trans ((kq (a := 0) (b := 35) eσ25 (fun q => absurd q.2 (by decide)))), (kq (a := 0) (b := 24) eσ26 (fun q => absurd q.2 (by decide))).trans ((kq (a := 0) (b := 24) eσ25 (fun q => absurd q.2 (by decide)))), (kq (a := 0) (b := 36) eσ26 (fun q => absurd q.2 (by decide))).trans ((kq (a := 0) (b := 36) eσ25 (fun q => absurd q.2 (by decide)))), (kq (a := 0) (b := 41) eσ26 (fun q => absurd q.2 (by decide))).trans ((kq (a := 0) (b := 41) eσ25 (fun q => absurd q.2 (by decide)))), (kq (a := 0) (b := 50) eσ26 (fun q => absurd q.2 (by decide))).trans ((kq (a := 0) (b := 50) eσ25 (fun q => absurd q.2 (by decide)))), (kq (a := 0) (b := 51) eσ26 (fun q => absurd q.2 (by decide))).trans ((kq (a := 0) (b := 51) eσ25 (fun q => absurd q.2 (by decide))))⟩) trivial
        · have f27 := K2.g_0_14 hσ
          first | have f28 := (notleE (rfl : (σ.1 0 14).toInt = (σ.1 0 14).toInt) (show (0 : Int32).toInt = 0 from by decide)).mp c22 | skip
          exact hQ _ _ hσ (⟨rfl, rfl, rfl, rfl, rfl, rfl, rfl, rfl⟩) trivial
    · first | have f30 := (notltE64 (show (2 : Int64).toInt = 2 from by decide) (i2lE (rfl : x1.toInt = x1.toInt))).mp c16 | skip
      try dsimp only
      refine ⟨fun c31 => ?_, fun c31 => ?_⟩
      · first | have f32 := (eqE (show (1 : Int32).toInt = 1 from by decide) (show (0 : Int32).toInt = 0 from by decide)).mp c31 | skip
        exact hQ _ _ hσ (⟨rfl, rfl, rfl, rfl, rfl, rfl, rfl, rfl⟩) trivial
      · first | have f33 := (noteqE (show (1 : Int32).toInt = 1 from by decide) (show (0 : Int32).toInt = 0 from by decide)).mp c31 | skip
        refine ⟨fun c34 => ?_, fun c34 => ?_⟩
        · have f35 := K2.g_0_14 hσ
          first | have f36 := (leE (rfl : (σ.1 0 14).toInt = (σ.1 0 14).toInt) (show (0 : Int32).toInt = 0 from by decide)).mp c34 | skip
          intro σ37 eσ37
          have hσ37 : K2 σ0 σ37 := by rw [eσ37]; exact hσ.u (Rg2.u_0_12 _) (fun q => absurd q.2 (by decide)) (fun q => absurd q.2 (by decide))
          intro σ38 eσ38
          have hσ38 : K2 σ0 σ38 := by rw [eσ38]; exact hσ37.u (Rg2.u_0_13 _) (fun q => absurd q.2 (by decide)) (fun q => absurd q.2 (by decide))
          exact hQ _ _ hσ38 (⟨(kq (a := 0) (b := 14) eσ38 (fun q => absurd q.2 (by decide))).trans ((kq (a := 0) (b := 14) eσ37 (fun q => absurd q.2 (by decide)))), (kq (a := 0) (b := 9) eσ38 (fun q => absurd q.2 (by decide))).trans ((kq (a := 0) (b := 9) eσ37 (fun q => absurd q.2 (by decide)))), (kq (a := 0) (b := 35) eσ38 (fun q => absurd q.2 (by decide))).trans ((kq (a := 0) (b := 35) eσ37 (fun q => absurd q.2 (by decide)))), (kq (a := 0) (b := 24) eσ38 (fun q => absurd q.2 (by decide))).trans ((kq (a := 0) (b := 24) eσ37 (fun q => absurd q.2 (by decide)))), (kq (a := 0) (b := 36) eσ38 (fun q => absurd q.2 (by decide))).trans ((kq (a := 0) (b := 36) eσ37 (fun q => absurd q.2 (by decide)))), (kq (a := 0) (b := 41) eσ38 (fun q => absurd q.2 (by decide))).trans ((kq (a := 0) (b := 41) eσ37 (fun q => absurd q.2 (by decide)))), (kq (a := 0) (b := 50) eσ38 (fun q => absurd q.2 (by decide))).trans ((kq (a := 0) (b := 50) eσ37 (fun q => absurd q.2 (by decide)))), (kq (a := 0) (b := 51) eσ38 (fun q => absurd q.2 (by decide))).trans ((kq (a := 0) (b := 51) eσ37 (fun q => absurd q.2 (by decide))))⟩) trivial
        · have f39 := K2.g_0_14 hσ
          first | have f40 := (notleE (rfl : (σ.1 0 14).toInt = (σ.1 0 14).toInt) (show (0 : Int32).toInt = 0 from by decide)).mp c34 | skip
          exact hQ _ _ hσ (⟨rfl, rfl, rfl, rfl, rfl, rfl, rfl, rfl⟩) trivial
set_option maxHeartbeats 4000000 in
theorem sX12_isString {N : Nat} (hN : 4294967400 ≤ N) {x0 : Int32} {Q : Int32 → St → Prop} {σ0 σ : St} (hσ : K2 σ0 σ) (hQ : ∀ r : Int32, True → Q r σ) : fX12_isString N x0 Q σ := by
  unfold fX12_isString
  refine ⟨fun c1 => ?_, fun c1 => ?_⟩
  · have f2 := tB x0
    first | have f3 := (ltE (rfl : x0.toInt = x0.toInt) (show (224 : Int32).toInt = 224 from by decide)).mp c1 | skip
    exact hQ _ trivial
  · have f4 := tB x0
    first | have f5 := (notltE (rfl : x0.toInt = x0.toInt) (show (224 : Int32).toInt = 224 from by decide)).mp c1 | skip
    refine ⟨fun c6 => ?_, fun c6 => ?_⟩
    · first | have f8 := (ltE (show (226 : Int32).toInt = 226 from by decide) (rfl : x0.toInt = x0.toInt)).mp c6 | skip
      exact hQ _ trivial
    · first | have f10 := (notltE (show (226 : Int32).toInt = 226 from by decide) (rfl : x0.toInt = x0.toInt)).mp c6 | skip
      exact hQ _ trivial
set_option maxHeartbeats 4000000 in
theorem sX12_lays {N : Nat} (hN : 4294967400 ≤ N) {x1 : Int32} {x2 : Int32} {Q : St → Prop} {σ0 σ : St} (hσ : K2 σ0 σ) (hQ : ∀ τ : St, K2 σ0 τ → (τ.1 0 35 = σ.1 0 35 ∧ τ.1 0 24 = σ.1 0 24 ∧ τ.1 0 36 = σ.1 0 36 ∧ τ.1 0 41 = σ.1 0 41 ∧ τ.1 0 50 = σ.1 0 50 ∧ τ.1 0 51 = σ.1 0 51 ∧ (¬ (τ.1 0 9).toInt = 0 ∨ (τ.1 0 14).toInt = (σ.1 0 14).toInt + 1)) → Q τ) : fX12_lays N x1 x2 Q σ := by
  unfold fX12_lays
  refine ⟨fun c1 => ?_, fun c1 => ?_⟩
  · have f2 := tB (σ.1 0 9)
    first | have f3 := (eqE (rfl : (σ.1 0 9).toInt = (σ.1 0 9).toInt) (show (0 : Int32).toInt = 0 from by decide)).mp c1 | skip
    refine ⟨fun c4 => ?_, fun c4 => ?_⟩
    · have f5 := K2.g_0_14 hσ
      first | have f6 := (eqE (rfl : (σ.1 0 14).toInt = (σ.1 0 14).toInt) (show (40 : Int32).toInt = 40 from by decide)).mp c4 | skip
      try unfold fX12_fails
      refine ⟨fun c7 => ?_, fun c7 => ?_⟩
      · first | have f9 := (eqE (rfl : (σ.1 0 9).toInt = (σ.1 0 9).toInt) (show (0 : Int32).toInt = 0 from by decide)).mp c7 | skip
        try unfold fX12_fails_j16
        intro σ10 eσ10
        have hσ10 : K2 σ0 σ10 := by rw [eσ10]; exact hσ.u (Rg2.u_0_9 _) (fun q => absurd q.2 (by decide)) (fun q => absurd q.2 (by decide))
        try dsimp only
        try unfold fX12_lays_j22
        refine ⟨fun c11 => ?_, fun c11 => ?_⟩
        · have f12 := tB (σ10.1 0 9)
          have q13 : σ10.1 0 9 = 8 := by rw [eσ10, u1_at]; exact if_pos rfl
          first | have f14 : (σ10.1 0 9).toInt = (8) := (congrArg Int32.toInt q13).trans (show (8 : Int32).toInt = 8 from by decide) | skip
          first | have f15 := (eqE (rfl : (σ10.1 0 9).toInt = (σ10.1 0 9).toInt) (show (0 : Int32).toInt = 0 from by decide)).mp c11 | skip
          have f16 := K2.g_0_14 hσ10
          have q17 : σ10.1 0 14 = σ.1 0 14 := by rw [eσ10, u1_at]; exact if_neg (by decide)
          have f18 := congrArg Int32.toInt q17
          refine ⟨inE (rfl : (σ10.1 0 14).toInt = (σ10.1 0 14).toInt) (by omega) (by omega), ?_⟩
          intro σ20 eσ20
          have hσ20 : K2 σ0 σ20 := by rw [eσ20]; exact hσ10.u (Rg2.ra_6 _ _) (fun q => absurd q.1 (by decide)) (fun q => absurd q.1 (by decide))
          have f21 := K2.g_0_14 hσ20
          have q22 : σ20.1 0 14 = σ10.1 0 14 := by rw [eσ20]; exact congrFun (u1_ne (by decide)) 14
          have f23 := congrArg Int32.toInt q22
          refine ⟨inE (rfl : (σ20.1 0 14).toInt = (σ20.1 0 14).toInt) (by omega) (by omega), ?_⟩
          intro σ25 eσ25
          have hσ25 : K2 σ0 σ25 := by rw [eσ25]; exact hσ20.u (Rg2.ra_7 _ _) (fun q => absurd q.1 (by decide)) (fun q => absurd q.1 (by decide))
          have f26 := K2.g_0_14 hσ25
          have q27 : σ25.1 0 14 = σ20.1 0 14 := by rw [eσ25]; exact congrFun (u1_ne (by decide)) 14
          have f28 := congrArg Int32.toInt q27
          refine ⟨inE (rfl : (σ25.1 0 14).toInt = (σ25.1 0 14).toInt) (by omega) (by omega), ?_⟩
          intro σ30 eσ30
          have hσ30 : K2 σ0 σ30 := by rw [eσ30]; exact hσ25.u (Rg2.ra_8 _ _) (fun q => absurd q.1 (by decide)) (fun q => absurd q.1 (by decide))
          have f31 := K2.g_0_14 hσ30
          have q32 : σ30.1 0 14 = σ25.1 0 14 := by rw [eσ30]; exact congrFun (u1_ne (by decide)) 14
          have f33 := congrArg Int32.toInt q32
          refine ⟨inE (rfl : (σ30.1 0 14).toInt = (σ30.1 0 14).toInt) (by omega) (by omega), ?_⟩
          intro σ35 eσ35
          have hσ35 : K2 σ0 σ35 := by rw [eσ35]; exact hσ30.u (Rg2.ra_9 (leP (show (0 : Int32).toInt = 0 from by decide) (by omega)) (geP (show (0 : Int32).toInt = 0 from by decide) (by omega))) (fun q => absurd q.1 (by decide)) (fun q => absurd q.1 (by decide))
          have f36 := K2.g_0_14 hσ35
          have q37 : σ35.1 0 14 = σ30.1 0 14 := by rw [eσ35]; exact congrFun (u1_ne (by decide)) 14
          have f38 := congrArg Int32.toInt q37
          refine ⟨inE (rfl : (σ35.1 0 14).toInt = (σ35.1 0 14).toInt) (by omega) (by omega), ?_⟩
          intro σ40 eσ40
          have hσ40 : K2 σ0 σ40 := by rw [eσ40]; exact hσ35.u (Rg2.ra_11 _ _) (fun q => absurd q.1 (by decide)) (fun q => absurd q.1 (by decide))
          have f41 := K2.g_0_14 hσ40
          have q42 : σ40.1 0 14 = σ35.1 0 14 := by rw [eσ40]; exact congrFun (u1_ne (by decide)) 14
          have f43 := congrArg Int32.toInt q42
          refine ⟨inE (rfl : (σ40.1 0 14).toInt = (σ40.1 0 14).toInt) (by omega) (by omega), ?_⟩
          intro σ45 eσ45
          have hσ45 : K2 σ0 σ45 := by rw [eσ45]; exact hσ40.u (Rg2.ra_12 _ _) (fun q => absurd q.1 (by decide)) (fun q => absurd q.1 (by decide))
          have f46 := K2.g_0_14 hσ45
          have q47 : σ45.1 0 14 = σ40.1 0 14 := by rw [eσ45]; exact congrFun (u1_ne (by decide)) 14
          have f48 := congrArg Int32.toInt q47
          refine ⟨inE (rfl : (σ45.1 0 14).toInt = (σ45.1 0 14).toInt) (by omega) (by omega), ?_⟩
          intro σ50 eσ50
          have hσ50 : K2 σ0 σ50 := by rw [eσ50]; exact hσ45.u (Rg2.r13 (Or.inl (by decide))) (fun q => absurd q.1 (by decide)) (fun q => absurd q.1 (by decide))
          intro v51 ev51
          intro σ52 eσ52
          have f53 := tB v51
          have f54 := K2.g_0_14 hσ50
          have q55 : σ50.1 0 14 = σ45.1 0 14 := by rw [eσ50]; exact congrFun (u1_ne (by decide)) 14
          have f56 := congrArg Int32.toInt q55
          first | have f58 : v51.toInt = ((σ50.1 0 14).toInt + (1)) := (congrArg Int32.toInt ev51).trans (aOkE (rfl : (σ50.1 0 14).toInt = (σ50.1 0 14).toInt) (show (1 : Int32).toInt = 1 from by decide) (by omega) (by omega)) | skip
          have hσ52 : K2 σ0 σ52 := by rw [eσ52]; exact hσ50.u (Rg2.r_0_14 (leP (rfl : v51.toInt = v51.toInt) (by omega)) (geP (rfl : v51.toInt = v51.toInt) (by omega))) (fun q => absurd q.2 (by decide)) (fun q => absurd q.2 (by decide))
          refine ⟨fun c59 => ?_, fun c59 => ?_⟩
          · have f60 := K2.g_0_14 hσ52
            have q61 : σ52.1 0 14 = v51 := by rw [eσ52, u1_at]; exact if_pos rfl
            first | have f63 : (σ52.1 0 14).toInt = v51.toInt := (congrArg Int32.toInt q61).trans (rfl : v51.toInt = v51.toInt) | skip
            have f64 := tB (σ52.1 0 32)
            have q65 : σ52.1 0 32 = σ50.1 0 32 := by rw [eσ52, u1_at]; exact if_neg (by decide)
            have f66 := congrArg Int32.toInt q65
            have f67 := tB (σ50.1 0 32)
            have q68 : σ50.1 0 32 = σ45.1 0 32 := by rw [eσ50]; exact congrFun (u1_ne (by decide)) 32
            have f69 := congrArg Int32.toInt q68
            have f70 := tB (σ45.1 0 32)
            have q71 : σ45.1 0 32 = σ40.1 0 32 := by rw [eσ45]; exact congrFun (u1_ne (by decide)) 32
            have f72 := congrArg Int32.toInt q71
            have f73 := tB (σ40.1 0 32)
            have q74 : σ40.1 0 32 = σ35.1 0 32 := by rw [eσ40]; exact congrFun (u1_ne (by decide)) 32
            have f75 := congrArg Int32.toInt q74
            have f76 := tB (σ35.1 0 32)
            have q77 : σ35.1 0 32 = σ30.1 0 32 := by rw [eσ35]; exact congrFun (u1_ne (by decide)) 32
            have f78 := congrArg Int32.toInt q77
            have f79 := tB (σ30.1 0 32)
            have q80 : σ30.1 0 32 = σ25.1 0 32 := by rw [eσ30]; exact congrFun (u1_ne (by decide)) 32
            have f81 := congrArg Int32.toInt q80
            have f82 := tB (σ25.1 0 32)
            have q83 : σ25.1 0 32 = σ20.1 0 32 := by rw [eσ25]; exact congrFun (u1_ne (by decide)) 32
            have f84 := congrArg Int32.toInt q83
            have f85 := tB (σ20.1 0 32)
            have q86 : σ20.1 0 32 = σ10.1 0 32 := by rw [eσ20]; exact congrFun (u1_ne (by decide)) 32
            have f87 := congrArg Int32.toInt q86
            have f88 := tB (σ10.1 0 32)
            have q89 : σ10.1 0 32 = σ.1 0 32 := by rw [eσ10, u1_at]; exact if_neg (by decide)
            have f90 := congrArg Int32.toInt q89
            have f91 := tB (σ.1 0 32)
            first | have f92 := (leE (rfl : (σ52.1 0 14).toInt = (σ52.1 0 14).toInt) (rfl : (σ52.1 0 32).toInt = (σ52.1 0 32).toInt)).mp c59 | skip
            try unfold fX12_lays_j134
            intro σ93 eσ93
            have hσ93 : K2 σ0 σ93 := by rw [eσ93]; exact hσ52.u (Rg2.u_0_32 _) (fun q => absurd q.2 (by decide)) (fun q => absurd q.2 (by decide))
            have f94 := tB (σ93.1 0 9)
            have q95 : σ93.1 0 9 = σ52.1 0 9 := by rw [eσ93, u1_at]; exact if_neg (by decide)
            have f96 := congrArg Int32.toInt q95
            have f97 := tB (σ52.1 0 9)
            have q98 : σ52.1 0 9 = σ50.1 0 9 := by rw [eσ52, u1_at]; exact if_neg (by decide)
            have f99 := congrArg Int32.toInt q98
            have f100 := tB (σ50.1 0 9)
            have q101 : σ50.1 0 9 = σ45.1 0 9 := by rw [eσ50]; exact congrFun (u1_ne (by decide)) 9
            have f102 := congrArg Int32.toInt q101
            have f103 := tB (σ45.1 0 9)
            have q104 : σ45.1 0 9 = σ40.1 0 9 := by rw [eσ45]; exact congrFun (u1_ne (by decide)) 9
            have f105 := congrArg Int32.toInt q104
            have f106 := tB (σ40.1 0 9)
            have q107 : σ40.1 0 9 = σ35.1 0 9 := by rw [eσ40]; exact congrFun (u1_ne (by decide)) 9
            have f108 := congrArg Int32.toInt q107
            have f109 := tB (σ35.1 0 9)
            have q110 : σ35.1 0 9 = σ30.1 0 9 := by rw [eσ35]; exact congrFun (u1_ne (by decide)) 9
            have f111 := congrArg Int32.toInt q110
            have f112 := tB (σ30.1 0 9)
            have q113 : σ30.1 0 9 = σ25.1 0 9 := by rw [eσ30]; exact congrFun (u1_ne (by decide)) 9
            have f114 := congrArg Int32.toInt q113
            have f115 := tB (σ25.1 0 9)
            have q116 : σ25.1 0 9 = σ20.1 0 9 := by rw [eσ25]; exact congrFun (u1_ne (by decide)) 9
            have f117 := congrArg Int32.toInt q116
            have f118 := tB (σ20.1 0 9)
            have q119 : σ20.1 0 9 = σ10.1 0 9 := by rw [eσ20]; exact congrFun (u1_ne (by decide)) 9
            have f120 := congrArg Int32.toInt q119
            have f123 := K2.g_0_14 hσ93
            have q124 : σ93.1 0 14 = σ52.1 0 14 := by rw [eσ93, u1_at]; exact if_neg (by decide)
            have f125 := congrArg Int32.toInt q124
            exact hQ _ hσ93 (⟨(kq (a := 0) (b := 35) eσ93 (fun q => absurd q.2 (by decide))).trans ((kq (a := 0) (b := 35) eσ52 (fun q => absurd q.2 (by decide))).trans ((kq (a := 0) (b := 35) eσ50 (fun q => absurd q.1 (by decide))).trans ((kq (a := 0) (b := 35) eσ45 (fun q => absurd q.1 (by decide))).trans ((kq (a := 0) (b := 35) eσ40 (fun q => absurd q.1 (by decide))).trans ((kq (a := 0) (b := 35) eσ35 (fun q => absurd q.1 (by decide))).trans ((kq (a := 0) (b := 35) eσ30 (fun q => absurd q.1 (by decide))).trans ((kq (a := 0) (b := 35) eσ25 (fun q => absurd q.1 (by decide))).trans ((kq (a := 0) (b := 35) eσ20 (fun q => absurd q.1 (by decide))).trans ((kq (a := 0) (b := 35) eσ10 (fun q => absurd q.2 (by decide)))))))))))), (kq (a := 0) (b := 24) eσ93 (fun q => absurd q.2 (by decide))).trans ((kq (a := 0) (b := 24) eσ52 (fun q => absurd q.2 (by decide))).trans ((kq (a := 0) (b := 24) eσ50 (fun q => absurd q.1 (by decide))).trans ((kq (a := 0) (b := 24) eσ45 (fun q => absurd q.1 (by decide))).trans ((kq (a := 0) (b := 24) eσ40 (fun q => absurd q.1 (by decide))).trans ((kq (a := 0) (b := 24) eσ35 (fun q => absurd q.1 (by decide))).trans ((kq (a := 0) (b := 24) eσ30 (fun q => absurd q.1 (by decide))).trans ((kq (a := 0) (b := 24) eσ25 (fun q => absurd q.1 (by decide))).trans ((kq (a := 0) (b := 24) eσ20 (fun q => absurd q.1 (by decide))).trans ((kq (a := 0) (b := 24) eσ10 (fun q => absurd q.2 (by decide)))))))))))), (kq (a := 0) (b := 36) eσ93 (fun q => absurd q.2 (by decide))).trans ((kq (a := 0) (b := 36) eσ52 (fun q => absurd q.2 (by decide))).trans ((kq (a := 0) (b := 36) eσ50 (fun q => absurd q.1 (by decide))).trans ((kq (a := 0) (b := 36) eσ45 (fun q => absurd q.1 (by decide))).trans ((kq (a := 0) (b := 36) eσ40 (fun q => absurd q.1 (by decide))).trans ((kq (a := 0) (b := 36) eσ35 (fun q => absurd q.1 (by decide))).trans ((kq (a := 0) (b := 36) eσ30 (fun q => absurd q.1 (by decide))).trans ((kq (a := 0) (b := 36) eσ25 (fun q => absurd q.1 (by decide))).trans ((kq (a := 0) (b := 36) eσ20 (fun q => absurd q.1 (by decide))).trans ((kq (a := 0) (b := 36) eσ10 (fun q => absurd q.2 (by decide)))))))))))), (kq (a := 0) (b := 41) eσ93 (fun q => absurd q.2 (by decide))).trans ((kq (a := 0) (b := 41) eσ52 (fun q => absurd q.2 (by decide))).trans ((kq (a := 0) (b := 41) eσ50 (fun q => absurd q.1 (by decide))).trans ((kq (a := 0) (b := 41) eσ45 (fun q => absurd q.1 (by decide))).trans ((kq (a := 0) (b := 41) eσ40 (fun q => absurd q.1 (by decide))).trans ((kq (a := 0) (b := 41) eσ35 (fun q => absurd q.1 (by decide))).trans ((kq (a := 0) (b := 41) eσ30 (fun q => absurd q.1 (by decide))).trans ((kq (a := 0) (b := 41) eσ25 (fun q => absurd q.1 (by decide))).trans ((kq (a := 0) (b := 41) eσ20 (fun q => absurd q.1 (by decide))).trans ((kq (a := 0) (b := 41) eσ10 (fun q => absurd q.2 (by decide)))))))))))), (kq (a := 0) (b := 50) eσ93 (fun q => absurd q.2 (by decide))).trans ((kq (a := 0) (b := 50) eσ52 (fun q => absurd q.2 (by decide))).trans ((kq (a := 0) (b := 50) eσ50 (fun q => absurd q.1 (by decide))).trans ((kq (a := 0) (b := 50) eσ45 (fun q => absurd q.1 (by decide))).trans ((kq (a := 0) (b := 50) eσ40 (fun q => absurd q.1 (by decide))).trans ((kq (a := 0) (b := 50) eσ35 (fun q => absurd q.1 (by decide))).trans ((kq (a := 0) (b := 50) eσ30 (fun q => absurd q.1 (by decide))).trans ((kq (a := 0) (b := 50) eσ25 (fun q => absurd q.1 (by decide))).trans ((kq (a := 0) (b := 50) eσ20 (fun q => absurd q.1 (by decide))).trans ((kq (a := 0) (b := 50) eσ10 (fun q => absurd q.2 (by decide)))))))))))), (kq (a := 0) (b := 51) eσ93 (fun q => absurd q.2 (by decide))).trans ((kq (a := 0) (b := 51) eσ52 (fun q => absurd q.2 (by decide))).trans ((kq (a := 0) (b := 51) eσ50 (fun q => absurd q.1 (by decide))).trans ((kq (a := 0) (b := 51) eσ45 (fun q => absurd q.1 (by decide))).trans ((kq (a := 0) (b := 51) eσ40 (fun q => absurd q.1 (by decide))).trans ((kq (a := 0) (b := 51) eσ35 (fun q => absurd q.1 (by decide))).trans ((kq (a := 0) (b := 51) eσ30 (fun q => absurd q.1 (by decide))).trans ((kq (a := 0) (b := 51) eσ25 (fun q => absurd q.1 (by decide))).trans ((kq (a := 0) (b := 51) eσ20 (fun q => absurd q.1 (by decide))).trans ((kq (a := 0) (b := 51) eσ10 (fun q => absurd q.2 (by decide)))))))))))), (by omega)⟩)
          · have f128 := K2.g_0_14 hσ52
            have q129 : σ52.1 0 14 = v51 := by rw [eσ52, u1_at]; exact if_pos rfl
            first | have f131 : (σ52.1 0 14).toInt = v51.toInt := (congrArg Int32.toInt q129).trans (rfl : v51.toInt = v51.toInt) | skip
            have f132 := tB (σ52.1 0 32)
            have q133 : σ52.1 0 32 = σ50.1 0 32 := by rw [eσ52, u1_at]; exact if_neg (by decide)
            have f134 := congrArg Int32.toInt q133
            have f135 := tB (σ50.1 0 32)
            have q136 : σ50.1 0 32 = σ45.1 0 32 := by rw [eσ50]; exact congrFun (u1_ne (by decide)) 32
            have f137 := congrArg Int32.toInt q136
            have f138 := tB (σ45.1 0 32)
            have q139 : σ45.1 0 32 = σ40.1 0 32 := by rw [eσ45]; exact congrFun (u1_ne (by decide)) 32
            have f140 := congrArg Int32.toInt q139
            have f141 := tB (σ40.1 0 32)
            have q142 : σ40.1 0 32 = σ35.1 0 32 := by rw [eσ40]; exact congrFun (u1_ne (by decide)) 32
            have f143 := congrArg Int32.toInt q142
            have f144 := tB (σ35.1 0 32)
            have q145 : σ35.1 0 32 = σ30.1 0 32 := by rw [eσ35]; exact congrFun (u1_ne (by decide)) 32
            have f146 := congrArg Int32.toInt q145
            have f147 := tB (σ30.1 0 32)
            have q148 : σ30.1 0 32 = σ25.1 0 32 := by rw [eσ30]; exact congrFun (u1_ne (by decide)) 32
            have f149 := congrArg Int32.toInt q148
            have f150 := tB (σ25.1 0 32)
            have q151 : σ25.1 0 32 = σ20.1 0 32 := by rw [eσ25]; exact congrFun (u1_ne (by decide)) 32
            have f152 := congrArg Int32.toInt q151
            have f153 := tB (σ20.1 0 32)
            have q154 : σ20.1 0 32 = σ10.1 0 32 := by rw [eσ20]; exact congrFun (u1_ne (by decide)) 32
            have f155 := congrArg Int32.toInt q154
            have f156 := tB (σ10.1 0 32)
            have q157 : σ10.1 0 32 = σ.1 0 32 := by rw [eσ10, u1_at]; exact if_neg (by decide)
            have f158 := congrArg Int32.toInt q157
            have f159 := tB (σ.1 0 32)
            first | have f160 := (notleE (rfl : (σ52.1 0 14).toInt = (σ52.1 0 14).toInt) (rfl : (σ52.1 0 32).toInt = (σ52.1 0 32).toInt)).mp c59 | skip
            try unfold fX12_lays_j134
            intro σ161 eσ161
            have hσ161 : K2 σ0 σ161 := by rw [eσ161]; exact hσ52.u (Rg2.u_0_32 _) (fun q => absurd q.2 (by decide)) (fun q => absurd q.2 (by decide))
            have f162 := tB (σ161.1 0 9)
            have q163 : σ161.1 0 9 = σ52.1 0 9 := by rw [eσ161, u1_at]; exact if_neg (by decide)
            have f164 := congrArg Int32.toInt q163
            have f165 := tB (σ52.1 0 9)
            have q166 : σ52.1 0 9 = σ50.1 0 9 := by rw [eσ52, u1_at]; exact if_neg (by decide)
            have f167 := congrArg Int32.toInt q166
            have f168 := tB (σ50.1 0 9)
            have q169 : σ50.1 0 9 = σ45.1 0 9 := by rw [eσ50]; exact congrFun (u1_ne (by decide)) 9
            have f170 := congrArg Int32.toInt q169
            have f171 := tB (σ45.1 0 9)
            have q172 : σ45.1 0 9 = σ40.1 0 9 := by rw [eσ45]; exact congrFun (u1_ne (by decide)) 9
            have f173 := congrArg Int32.toInt q172
            have f174 := tB (σ40.1 0 9)
            have q175 : σ40.1 0 9 = σ35.1 0 9 := by rw [eσ40]; exact congrFun (u1_ne (by decide)) 9
            have f176 := congrArg Int32.toInt q175
            have f177 := tB (σ35.1 0 9)
            have q178 : σ35.1 0 9 = σ30.1 0 9 := by rw [eσ35]; exact congrFun (u1_ne (by decide)) 9
            have f179 := congrArg Int32.toInt q178
            have f180 := tB (σ30.1 0 9)
            have q181 : σ30.1 0 9 = σ25.1 0 9 := by rw [eσ30]; exact congrFun (u1_ne (by decide)) 9
            have f182 := congrArg Int32.toInt q181
            have f183 := tB (σ25.1 0 9)
            have q184 : σ25.1 0 9 = σ20.1 0 9 := by rw [eσ25]; exact congrFun (u1_ne (by decide)) 9
            have f185 := congrArg Int32.toInt q184
            have f186 := tB (σ20.1 0 9)
            have q187 : σ20.1 0 9 = σ10.1 0 9 := by rw [eσ20]; exact congrFun (u1_ne (by decide)) 9
            have f188 := congrArg Int32.toInt q187
            have f191 := K2.g_0_14 hσ161
            have q192 : σ161.1 0 14 = σ52.1 0 14 := by rw [eσ161, u1_at]; exact if_neg (by decide)
            have f193 := congrArg Int32.toInt q192
            exact hQ _ hσ161 (⟨(kq (a := 0) (b := 35) eσ161 (fun q => absurd q.2 (by decide))).trans ((kq (a := 0) (b := 35) eσ52 (fun q => absurd q.2 (by decide))).trans ((kq (a := 0) (b := 35) eσ50 (fun q => absurd q.1 (by decide))).trans ((kq (a := 0) (b := 35) eσ45 (fun q => absurd q.1 (by decide))).trans ((kq (a := 0) (b := 35) eσ40 (fun q => absurd q.1 (by decide))).trans ((kq (a := 0) (b := 35) eσ35 (fun q => absurd q.1 (by decide))).trans ((kq (a := 0) (b := 35) eσ30 (fun q => absurd q.1 (by decide))).trans ((kq (a := 0) (b := 35) eσ25 (fun q => absurd q.1 (by decide))).trans ((kq (a := 0) (b := 35) eσ20 (fun q => absurd q.1 (by decide))).trans ((kq (a := 0) (b := 35) eσ10 (fun q => absurd q.2 (by decide)))))))))))), (kq (a := 0) (b := 24) eσ161 (fun q => absurd q.2 (by decide))).trans ((kq (a := 0) (b := 24) eσ52 (fun q => absurd q.2 (by decide))).trans ((kq (a := 0) (b := 24) eσ50 (fun q => absurd q.1 (by decide))).trans ((kq (a := 0) (b := 24) eσ45 (fun q => absurd q.1 (by decide))).trans ((kq (a := 0) (b := 24) eσ40 (fun q => absurd q.1 (by decide))).trans ((kq (a := 0) (b := 24) eσ35 (fun q => absurd q.1 (by decide))).trans ((kq (a := 0) (b := 24) eσ30 (fun q => absurd q.1 (by decide))).trans ((kq (a := 0) (b := 24) eσ25 (fun q => absurd q.1 (by decide))).trans ((kq (a := 0) (b := 24) eσ20 (fun q => absurd q.1 (by decide))).trans ((kq (a := 0) (b := 24) eσ10 (fun q => absurd q.2 (by decide)))))))))))), (kq (a := 0) (b := 36) eσ161 (fun q => absurd q.2 (by decide))).trans ((kq (a := 0) (b := 36) eσ52 (fun q => absurd q.2 (by decide))).trans ((kq (a := 0) (b := 36) eσ50 (fun q => absurd q.1 (by decide))).trans ((kq (a := 0) (b := 36) eσ45 (fun q => absurd q.1 (by decide))).trans ((kq (a := 0) (b := 36) eσ40 (fun q => absurd q.1 (by decide))).trans ((kq (a := 0) (b := 36) eσ35 (fun q => absurd q.1 (by decide))).trans ((kq (a := 0) (b := 36) eσ30 (fun q => absurd q.1 (by decide))).trans ((kq (a := 0) (b := 36) eσ25 (fun q => absurd q.1 (by decide))).trans ((kq (a := 0) (b := 36) eσ20 (fun q => absurd q.1 (by decide))).trans ((kq (a := 0) (b := 36) eσ10 (fun q => absurd q.2 (by decide)))))))))))), (kq (a := 0) (b := 41) eσ161 (fun q => absurd q.2 (by decide))).trans ((kq (a := 0) (b := 41) eσ52 (fun q => absurd q.2 (by decide))).trans ((kq (a := 0) (b := 41) eσ50 (fun q => absurd q.1 (by decide))).trans ((kq (a := 0) (b := 41) eσ45 (fun q => absurd q.1 (by decide))).trans ((kq (a := 0) (b := 41) eσ40 (fun q => absurd q.1 (by decide))).trans ((kq (a := 0) (b := 41) eσ35 (fun q => absurd q.1 (by decide))).trans ((kq (a := 0) (b := 41) eσ30 (fun q => absurd q.1 (by decide))).trans ((kq (a := 0) (b := 41) eσ25 (fun q => absurd q.1 (by decide))).trans ((kq (a := 0) (b := 41) eσ20 (fun q => absurd q.1 (by decide))).trans ((kq (a := 0) (b := 41) eσ10 (fun q => absurd q.2 (by decide)))))))))))), (kq (a := 0) (b := 50) eσ161 (fun q => absurd q.2 (by decide))).trans ((kq (a := 0) (b := 50) eσ52 (fun q => absurd q.2 (by decide))).trans ((kq (a := 0) (b := 50) eσ50 (fun q => absurd q.1 (by decide))).trans ((kq (a := 0) (b := 50) eσ45 (fun q => absurd q.1 (by decide))).trans ((kq (a := 0) (b := 50) eσ40 (fun q => absurd q.1 (by decide))).trans ((kq (a := 0) (b := 50) eσ35 (fun q => absurd q.1 (by decide))).trans ((kq (a := 0) (b := 50) eσ30 (fun q => absurd q.1 (by decide))).trans ((kq (a := 0) (b := 50) eσ25 (fun q => absurd q.1 (by decide))).trans ((kq (a := 0) (b := 50) eσ20 (fun q => absurd q.1 (by decide))).trans ((kq (a := 0) (b := 50) eσ10 (fun q => absurd q.2 (by decide)))))))))))), (kq (a := 0) (b := 51) eσ161 (fun q => absurd q.2 (by decide))).trans ((kq (a := 0) (b := 51) eσ52 (fun q => absurd q.2 (by decide))).trans ((kq (a := 0) (b := 51) eσ50 (fun q => absurd q.1 (by decide))).trans ((kq (a := 0) (b := 51) eσ45 (fun q => absurd q.1 (by decide))).trans ((kq (a := 0) (b := 51) eσ40 (fun q => absurd q.1 (by decide))).trans ((kq (a := 0) (b := 51) eσ35 (fun q => absurd q.1 (by decide))).trans ((kq (a := 0) (b := 51) eσ30 (fun q => absurd q.1 (by decide))).trans ((kq (a := 0) (b := 51) eσ25 (fun q => absurd q.1 (by decide))).trans ((kq (a := 0) (b := 51) eσ20 (fun q => absurd q.1 (by decide))).trans ((kq (a := 0) (b := 51) eσ10 (fun q => absurd q.2 (by decide)))))))))))), (by omega)⟩)
        · have f196 := tB (σ10.1 0 9)
          have q197 : σ10.1 0 9 = 8 := by rw [eσ10, u1_at]; exact if_pos rfl
          first | have f198 : (σ10.1 0 9).toInt = (8) := (congrArg Int32.toInt q197).trans (show (8 : Int32).toInt = 8 from by decide) | skip
          first | have f199 := (noteqE (rfl : (σ10.1 0 9).toInt = (σ10.1 0 9).toInt) (show (0 : Int32).toInt = 0 from by decide)).mp c11 | skip
          have f202 := K2.g_0_14 hσ10
          have q203 : σ10.1 0 14 = σ.1 0 14 := by rw [eσ10, u1_at]; exact if_neg (by decide)
          have f204 := congrArg Int32.toInt q203
          exact hQ _ hσ10 (⟨(kq (a := 0) (b := 35) eσ10 (fun q => absurd q.2 (by decide))), (kq (a := 0) (b := 24) eσ10 (fun q => absurd q.2 (by decide))), (kq (a := 0) (b := 36) eσ10 (fun q => absurd q.2 (by decide))), (kq (a := 0) (b := 41) eσ10 (fun q => absurd q.2 (by decide))), (kq (a := 0) (b := 50) eσ10 (fun q => absurd q.2 (by decide))), (kq (a := 0) (b := 51) eσ10 (fun q => absurd q.2 (by decide))), (by omega)⟩)
      · first | have f208 := (noteqE (rfl : (σ.1 0 9).toInt = (σ.1 0 9).toInt) (show (0 : Int32).toInt = 0 from by decide)).mp c7 | skip
        try unfold fX12_fails_j16
        intro σ209 eσ209
        have hσ209 : K2 σ0 σ209 := by rw [eσ209]; exact hσ.u (Rg2.u_0_9 _) (fun q => absurd q.2 (by decide)) (fun q => absurd q.2 (by decide))
        try dsimp only
        try unfold fX12_lays_j22
        refine ⟨fun c210 => ?_, fun c210 => ?_⟩
        · have f211 := tB (σ209.1 0 9)
          have q212 : σ209.1 0 9 = (σ.1 0 9) := by rw [eσ209, u1_at]; exact if_pos rfl
          first | have f214 : (σ209.1 0 9).toInt = (σ.1 0 9).toInt := (congrArg Int32.toInt q212).trans (rfl : (σ.1 0 9).toInt = (σ.1 0 9).toInt) | skip
          first | have f215 := (eqE (rfl : (σ209.1 0 9).toInt = (σ209.1 0 9).toInt) (show (0 : Int32).toInt = 0 from by decide)).mp c210 | skip
          have f216 := K2.g_0_14 hσ209
          have q217 : σ209.1 0 14 = σ.1 0 14 := by rw [eσ209, u1_at]; exact if_neg (by decide)
          have f218 := congrArg Int32.toInt q217
          refine ⟨inE (rfl : (σ209.1 0 14).toInt = (σ209.1 0 14).toInt) (by omega) (by omega), ?_⟩
          intro σ220 eσ220
          have hσ220 : K2 σ0 σ220 := by rw [eσ220]; exact hσ209.u (Rg2.ra_6 _ _) (fun q => absurd q.1 (by decide)) (fun q => absurd q.1 (by decide))
          have f221 := K2.g_0_14 hσ220
          have q222 : σ220.1 0 14 = σ209.1 0 14 := by rw [eσ220]; exact congrFun (u1_ne (by decide)) 14
          have f223 := congrArg Int32.toInt q222
          refine ⟨inE (rfl : (σ220.1 0 14).toInt = (σ220.1 0 14).toInt) (by omega) (by omega), ?_⟩
          intro σ225 eσ225
          have hσ225 : K2 σ0 σ225 := by rw [eσ225]; exact hσ220.u (Rg2.ra_7 _ _) (fun q => absurd q.1 (by decide)) (fun q => absurd q.1 (by decide))
          have f226 := K2.g_0_14 hσ225
          have q227 : σ225.1 0 14 = σ220.1 0 14 := by rw [eσ225]; exact congrFun (u1_ne (by decide)) 14
          have f228 := congrArg Int32.toInt q227
          refine ⟨inE (rfl : (σ225.1 0 14).toInt = (σ225.1 0 14).toInt) (by omega) (by omega), ?_⟩
          intro σ230 eσ230
          have hσ230 : K2 σ0 σ230 := by rw [eσ230]; exact hσ225.u (Rg2.ra_8 _ _) (fun q => absurd q.1 (by decide)) (fun q => absurd q.1 (by decide))
          have f231 := K2.g_0_14 hσ230
          have q232 : σ230.1 0 14 = σ225.1 0 14 := by rw [eσ230]; exact congrFun (u1_ne (by decide)) 14
          have f233 := congrArg Int32.toInt q232
          refine ⟨inE (rfl : (σ230.1 0 14).toInt = (σ230.1 0 14).toInt) (by omega) (by omega), ?_⟩
          intro σ235 eσ235
          have hσ235 : K2 σ0 σ235 := by rw [eσ235]; exact hσ230.u (Rg2.ra_9 (leP (show (0 : Int32).toInt = 0 from by decide) (by omega)) (geP (show (0 : Int32).toInt = 0 from by decide) (by omega))) (fun q => absurd q.1 (by decide)) (fun q => absurd q.1 (by decide))
          have f236 := K2.g_0_14 hσ235
          have q237 : σ235.1 0 14 = σ230.1 0 14 := by rw [eσ235]; exact congrFun (u1_ne (by decide)) 14
          have f238 := congrArg Int32.toInt q237
          refine ⟨inE (rfl : (σ235.1 0 14).toInt = (σ235.1 0 14).toInt) (by omega) (by omega), ?_⟩
          intro σ240 eσ240
          have hσ240 : K2 σ0 σ240 := by rw [eσ240]; exact hσ235.u (Rg2.ra_11 _ _) (fun q => absurd q.1 (by decide)) (fun q => absurd q.1 (by decide))
          have f241 := K2.g_0_14 hσ240
          have q242 : σ240.1 0 14 = σ235.1 0 14 := by rw [eσ240]; exact congrFun (u1_ne (by decide)) 14
          have f243 := congrArg Int32.toInt q242
          refine ⟨inE (rfl : (σ240.1 0 14).toInt = (σ240.1 0 14).toInt) (by omega) (by omega), ?_⟩
          intro σ245 eσ245
          have hσ245 : K2 σ0 σ245 := by rw [eσ245]; exact hσ240.u (Rg2.ra_12 _ _) (fun q => absurd q.1 (by decide)) (fun q => absurd q.1 (by decide))
          have f246 := K2.g_0_14 hσ245
          have q247 : σ245.1 0 14 = σ240.1 0 14 := by rw [eσ245]; exact congrFun (u1_ne (by decide)) 14
          have f248 := congrArg Int32.toInt q247
          refine ⟨inE (rfl : (σ245.1 0 14).toInt = (σ245.1 0 14).toInt) (by omega) (by omega), ?_⟩
          intro σ250 eσ250
          have hσ250 : K2 σ0 σ250 := by rw [eσ250]; exact hσ245.u (Rg2.r13 (Or.inl (by decide))) (fun q => absurd q.1 (by decide)) (fun q => absurd q.1 (by decide))
          intro v251 ev251
          intro σ252 eσ252
          have f253 := tB v251
          have f254 := K2.g_0_14 hσ250
          have q255 : σ250.1 0 14 = σ245.1 0 14 := by rw [eσ250]; exact congrFun (u1_ne (by decide)) 14
          have f256 := congrArg Int32.toInt q255
          first | have f258 : v251.toInt = ((σ250.1 0 14).toInt + (1)) := (congrArg Int32.toInt ev251).trans (aOkE (rfl : (σ250.1 0 14).toInt = (σ250.1 0 14).toInt) (show (1 : Int32).toInt = 1 from by decide) (by omega) (by omega)) | skip
          have hσ252 : K2 σ0 σ252 := by rw [eσ252]; exact hσ250.u (Rg2.r_0_14 (leP (rfl : v251.toInt = v251.toInt) (by omega)) (geP (rfl : v251.toInt = v251.toInt) (by omega))) (fun q => absurd q.2 (by decide)) (fun q => absurd q.2 (by decide))
          refine ⟨fun c259 => ?_, fun c259 => ?_⟩
          · have f260 := K2.g_0_14 hσ252
            have q261 : σ252.1 0 14 = v251 := by rw [eσ252, u1_at]; exact if_pos rfl
            first | have f263 : (σ252.1 0 14).toInt = v251.toInt := (congrArg Int32.toInt q261).trans (rfl : v251.toInt = v251.toInt) | skip
            have f264 := tB (σ252.1 0 32)
            have q265 : σ252.1 0 32 = σ250.1 0 32 := by rw [eσ252, u1_at]; exact if_neg (by decide)
            have f266 := congrArg Int32.toInt q265
            have f267 := tB (σ250.1 0 32)
            have q268 : σ250.1 0 32 = σ245.1 0 32 := by rw [eσ250]; exact congrFun (u1_ne (by decide)) 32
            have f269 := congrArg Int32.toInt q268
            have f270 := tB (σ245.1 0 32)
            have q271 : σ245.1 0 32 = σ240.1 0 32 := by rw [eσ245]; exact congrFun (u1_ne (by decide)) 32
            have f272 := congrArg Int32.toInt q271
            have f273 := tB (σ240.1 0 32)
            have q274 : σ240.1 0 32 = σ235.1 0 32 := by rw [eσ240]; exact congrFun (u1_ne (by decide)) 32
            have f275 := congrArg Int32.toInt q274
            have f276 := tB (σ235.1 0 32)
            have q277 : σ235.1 0 32 = σ230.1 0 32 := by rw [eσ235]; exact congrFun (u1_ne (by decide)) 32
            have f278 := congrArg Int32.toInt q277
            have f279 := tB (σ230.1 0 32)
            have q280 : σ230.1 0 32 = σ225.1 0 32 := by rw [eσ230]; exact congrFun (u1_ne (by decide)) 32
            have f281 := congrArg Int32.toInt q280
            have f282 := tB (σ225.1 0 32)
            have q283 : σ225.1 0 32 = σ220.1 0 32 := by rw [eσ225]; exact congrFun (u1_ne (by decide)) 32
            have f284 := congrArg Int32.toInt q283
            have f285 := tB (σ220.1 0 32)
            have q286 : σ220.1 0 32 = σ209.1 0 32 := by rw [eσ220]; exact congrFun (u1_ne (by decide)) 32
            have f287 := congrArg Int32.toInt q286
            have f288 := tB (σ209.1 0 32)
            have q289 : σ209.1 0 32 = σ.1 0 32 := by rw [eσ209, u1_at]; exact if_neg (by decide)
            have f290 := congrArg Int32.toInt q289
            have f291 := tB (σ.1 0 32)
            first | have f292 := (leE (rfl : (σ252.1 0 14).toInt = (σ252.1 0 14).toInt) (rfl : (σ252.1 0 32).toInt = (σ252.1 0 32).toInt)).mp c259 | skip
            try unfold fX12_lays_j134
            intro σ293 eσ293
            have hσ293 : K2 σ0 σ293 := by rw [eσ293]; exact hσ252.u (Rg2.u_0_32 _) (fun q => absurd q.2 (by decide)) (fun q => absurd q.2 (by decide))
            have f294 := tB (σ293.1 0 9)
            have q295 : σ293.1 0 9 = σ252.1 0 9 := by rw [eσ293, u1_at]; exact if_neg (by decide)
            have f296 := congrArg Int32.toInt q295
            have f297 := tB (σ252.1 0 9)
            have q298 : σ252.1 0 9 = σ250.1 0 9 := by rw [eσ252, u1_at]; exact if_neg (by decide)
            have f299 := congrArg Int32.toInt q298
            have f300 := tB (σ250.1 0 9)
            have q301 : σ250.1 0 9 = σ245.1 0 9 := by rw [eσ250]; exact congrFun (u1_ne (by decide)) 9
            have f302 := congrArg Int32.toInt q301
            have f303 := tB (σ245.1 0 9)
            have q304 : σ245.1 0 9 = σ240.1 0 9 := by rw [eσ245]; exact congrFun (u1_ne (by decide)) 9
            have f305 := congrArg Int32.toInt q304
            have f306 := tB (σ240.1 0 9)
            have q307 : σ240.1 0 9 = σ235.1 0 9 := by rw [eσ240]; exact congrFun (u1_ne (by decide)) 9
            have f308 := congrArg Int32.toInt q307
            have f309 := tB (σ235.1 0 9)
            have q310 : σ235.1 0 9 = σ230.1 0 9 := by rw [eσ235]; exact congrFun (u1_ne (by decide)) 9
            have f311 := congrArg Int32.toInt q310
            have f312 := tB (σ230.1 0 9)
            have q313 : σ230.1 0 9 = σ225.1 0 9 := by rw [eσ230]; exact congrFun (u1_ne (by decide)) 9
            have f314 := congrArg Int32.toInt q313
            have f315 := tB (σ225.1 0 9)
            have q316 : σ225.1 0 9 = σ220.1 0 9 := by rw [eσ225]; exact congrFun (u1_ne (by decide)) 9
            have f317 := congrArg Int32.toInt q316
            have f318 := tB (σ220.1 0 9)
            have q319 : σ220.1 0 9 = σ209.1 0 9 := by rw [eσ220]; exact congrFun (u1_ne (by decide)) 9
            have f320 := congrArg Int32.toInt q319
            have f323 := K2.g_0_14 hσ293
            have q324 : σ293.1 0 14 = σ252.1 0 14 := by rw [eσ293, u1_at]; exact if_neg (by decide)
            have f325 := congrArg Int32.toInt q324
            exact hQ _ hσ293 (⟨(kq (a := 0) (b := 35) eσ293 (fun q => absurd q.2 (by decide))).trans ((kq (a := 0) (b := 35) eσ252 (fun q => absurd q.2 (by decide))).trans ((kq (a := 0) (b := 35) eσ250 (fun q => absurd q.1 (by decide))).trans ((kq (a := 0) (b := 35) eσ245 (fun q => absurd q.1 (by decide))).trans ((kq (a := 0) (b := 35) eσ240 (fun q => absurd q.1 (by decide))).trans ((kq (a := 0) (b := 35) eσ235 (fun q => absurd q.1 (by decide))).trans ((kq (a := 0) (b := 35) eσ230 (fun q => absurd q.1 (by decide))).trans ((kq (a := 0) (b := 35) eσ225 (fun q => absurd q.1 (by decide))).trans ((kq (a := 0) (b := 35) eσ220 (fun q => absurd q.1 (by decide))).trans ((kq (a := 0) (b := 35) eσ209 (fun q => absurd q.2 (by decide)))))))))))), (kq (a := 0) (b := 24) eσ293 (fun q => absurd q.2 (by decide))).trans ((kq (a := 0) (b := 24) eσ252 (fun q => absurd q.2 (by decide))).trans ((kq (a := 0) (b := 24) eσ250 (fun q => absurd q.1 (by decide))).trans ((kq (a := 0) (b := 24) eσ245 (fun q => absurd q.1 (by decide))).trans ((kq (a := 0) (b := 24) eσ240 (fun q => absurd q.1 (by decide))).trans ((kq (a := 0) (b := 24) eσ235 (fun q => absurd q.1 (by decide))).trans ((kq (a := 0) (b := 24) eσ230 (fun q => absurd q.1 (by decide))).trans ((kq (a := 0) (b := 24) eσ225 (fun q => absurd q.1 (by decide))).trans ((kq (a := 0) (b := 24) eσ220 (fun q => absurd q.1 (by decide))).trans ((kq (a := 0) (b := 24) eσ209 (fun q => absurd q.2 (by decide)))))))))))), (kq (a := 0) (b := 36) eσ293 (fun q => absurd q.2 (by decide))).trans ((kq (a := 0) (b := 36) eσ252 (fun q => absurd q.2 (by decide))).trans ((kq (a := 0) (b := 36) eσ250 (fun q => absurd q.1 (by decide))).trans ((kq (a := 0) (b := 36) eσ245 (fun q => absurd q.1 (by decide))).trans ((kq (a := 0) (b := 36) eσ240 (fun q => absurd q.1 (by decide))).trans ((kq (a := 0) (b := 36) eσ235 (fun q => absurd q.1 (by decide))).trans ((kq (a := 0) (b := 36) eσ230 (fun q => absurd q.1 (by decide))).trans ((kq (a := 0) (b := 36) eσ225 (fun q => absurd q.1 (by decide))).trans ((kq (a := 0) (b := 36) eσ220 (fun q => absurd q.1 (by decide))).trans ((kq (a := 0) (b := 36) eσ209 (fun q => absurd q.2 (by decide)))))))))))), (kq (a := 0) (b := 41) eσ293 (fun q => absurd q.2 (by decide))).trans ((kq (a := 0) (b := 41) eσ252 (fun q => absurd q.2 (by decide))).trans ((kq (a := 0) (b := 41) eσ250 (fun q => absurd q.1 (by decide))).trans ((kq (a := 0) (b := 41) eσ245 (fun q => absurd q.1 (by decide))).trans ((kq (a := 0) (b := 41) eσ240 (fun q => absurd q.1 (by decide))).trans ((kq (a := 0) (b := 41) eσ235 (fun q => absurd q.1 (by decide))).trans ((kq (a := 0) (b := 41) eσ230 (fun q => absurd q.1 (by decide))).trans ((kq (a := 0) (b := 41) eσ225 (fun q => absurd q.1 (by decide))).trans ((kq (a := 0) (b := 41) eσ220 (fun q => absurd q.1 (by decide))).trans ((kq (a := 0) (b := 41) eσ209 (fun q => absurd q.2 (by decide)))))))))))), (kq (a := 0) (b := 50) eσ293 (fun q => absurd q.2 (by decide))).trans ((kq (a := 0) (b := 50) eσ252 (fun q => absurd q.2 (by decide))).trans ((kq (a := 0) (b := 50) eσ250 (fun q => absurd q.1 (by decide))).trans ((kq (a := 0) (b := 50) eσ245 (fun q => absurd q.1 (by decide))).trans ((kq (a := 0) (b := 50) eσ240 (fun q => absurd q.1 (by decide))).trans ((kq (a := 0) (b := 50) eσ235 (fun q => absurd q.1 (by decide))).trans ((kq (a := 0) (b := 50) eσ230 (fun q => absurd q.1 (by decide))).trans ((kq (a := 0) (b := 50) eσ225 (fun q => absurd q.1 (by decide))).trans ((kq (a := 0) (b := 50) eσ220 (fun q => absurd q.1 (by decide))).trans ((kq (a := 0) (b := 50) eσ209 (fun q => absurd q.2 (by decide)))))))))))), (kq (a := 0) (b := 51) eσ293 (fun q => absurd q.2 (by decide))).trans ((kq (a := 0) (b := 51) eσ252 (fun q => absurd q.2 (by decide))).trans ((kq (a := 0) (b := 51) eσ250 (fun q => absurd q.1 (by decide))).trans ((kq (a := 0) (b := 51) eσ245 (fun q => absurd q.1 (by decide))).trans ((kq (a := 0) (b := 51) eσ240 (fun q => absurd q.1 (by decide))).trans ((kq (a := 0) (b := 51) eσ235 (fun q => absurd q.1 (by decide))).trans ((kq (a := 0) (b := 51) eσ230 (fun q => absurd q.1 (by decide))).trans ((kq (a := 0) (b := 51) eσ225 (fun q => absurd q.1 (by decide))).trans ((kq (a := 0) (b := 51) eσ220 (fun q => absurd q.1 (by decide))).trans ((kq (a := 0) (b := 51) eσ209 (fun q => absurd q.2 (by decide)))))))))))), (by omega)⟩)
          · have f328 := K2.g_0_14 hσ252
            have q329 : σ252.1 0 14 = v251 := by rw [eσ252, u1_at]; exact if_pos rfl
            first | have f331 : (σ252.1 0 14).toInt = v251.toInt := (congrArg Int32.toInt q329).trans (rfl : v251.toInt = v251.toInt) | skip
            have f332 := tB (σ252.1 0 32)
            have q333 : σ252.1 0 32 = σ250.1 0 32 := by rw [eσ252, u1_at]; exact if_neg (by decide)
            have f334 := congrArg Int32.toInt q333
            have f335 := tB (σ250.1 0 32)
            have q336 : σ250.1 0 32 = σ245.1 0 32 := by rw [eσ250]; exact congrFun (u1_ne (by decide)) 32
            have f337 := congrArg Int32.toInt q336
            have f338 := tB (σ245.1 0 32)
            have q339 : σ245.1 0 32 = σ240.1 0 32 := by rw [eσ245]; exact congrFun (u1_ne (by decide)) 32
            have f340 := congrArg Int32.toInt q339
            have f341 := tB (σ240.1 0 32)
            have q342 : σ240.1 0 32 = σ235.1 0 32 := by rw [eσ240]; exact congrFun (u1_ne (by decide)) 32
            have f343 := congrArg Int32.toInt q342
            have f344 := tB (σ235.1 0 32)
            have q345 : σ235.1 0 32 = σ230.1 0 32 := by rw [eσ235]; exact congrFun (u1_ne (by decide)) 32
            have f346 := congrArg Int32.toInt q345
            have f347 := tB (σ230.1 0 32)
            have q348 : σ230.1 0 32 = σ225.1 0 32 := by rw [eσ230]; exact congrFun (u1_ne (by decide)) 32
            have f349 := congrArg Int32.toInt q348
            have f350 := tB (σ225.1 0 32)
            have q351 : σ225.1 0 32 = σ220.1 0 32 := by rw [eσ225]; exact congrFun (u1_ne (by decide)) 32
            have f352 := congrArg Int32.toInt q351
            have f353 := tB (σ220.1 0 32)
            have q354 : σ220.1 0 32 = σ209.1 0 32 := by rw [eσ220]; exact congrFun (u1_ne (by decide)) 32
            have f355 := congrArg Int32.toInt q354
            have f356 := tB (σ209.1 0 32)
            have q357 : σ209.1 0 32 = σ.1 0 32 := by rw [eσ209, u1_at]; exact if_neg (by decide)
            have f358 := congrArg Int32.toInt q357
            have f359 := tB (σ.1 0 32)
            first | have f360 := (notleE (rfl : (σ252.1 0 14).toInt = (σ252.1 0 14).toInt) (rfl : (σ252.1 0 32).toInt = (σ252.1 0 32).toInt)).mp c259 | skip
            try unfold fX12_lays_j134
            intro σ361 eσ361
            have hσ361 : K2 σ0 σ361 := by rw [eσ361]; exact hσ252.u (Rg2.u_0_32 _) (fun q => absurd q.2 (by decide)) (fun q => absurd q.2 (by decide))
            have f362 := tB (σ361.1 0 9)
            have q363 : σ361.1 0 9 = σ252.1 0 9 := by rw [eσ361, u1_at]; exact if_neg (by decide)
            have f364 := congrArg Int32.toInt q363
            have f365 := tB (σ252.1 0 9)
            have q366 : σ252.1 0 9 = σ250.1 0 9 := by rw [eσ252, u1_at]; exact if_neg (by decide)
            have f367 := congrArg Int32.toInt q366
            have f368 := tB (σ250.1 0 9)
            have q369 : σ250.1 0 9 = σ245.1 0 9 := by rw [eσ250]; exact congrFun (u1_ne (by decide)) 9
            have f370 := congrArg Int32.toInt q369
            have f371 := tB (σ245.1 0 9)
            have q372 : σ245.1 0 9 = σ240.1 0 9 := by rw [eσ245]; exact congrFun (u1_ne (by decide)) 9
            have f373 := congrArg Int32.toInt q372
            have f374 := tB (σ240.1 0 9)
            have q375 : σ240.1 0 9 = σ235.1 0 9 := by rw [eσ240]; exact congrFun (u1_ne (by decide)) 9
            have f376 := congrArg Int32.toInt q375
            have f377 := tB (σ235.1 0 9)
            have q378 : σ235.1 0 9 = σ230.1 0 9 := by rw [eσ235]; exact congrFun (u1_ne (by decide)) 9
            have f379 := congrArg Int32.toInt q378
            have f380 := tB (σ230.1 0 9)
            have q381 : σ230.1 0 9 = σ225.1 0 9 := by rw [eσ230]; exact congrFun (u1_ne (by decide)) 9
            have f382 := congrArg Int32.toInt q381
            have f383 := tB (σ225.1 0 9)
            have q384 : σ225.1 0 9 = σ220.1 0 9 := by rw [eσ225]; exact congrFun (u1_ne (by decide)) 9
            have f385 := congrArg Int32.toInt q384
            have f386 := tB (σ220.1 0 9)
            have q387 : σ220.1 0 9 = σ209.1 0 9 := by rw [eσ220]; exact congrFun (u1_ne (by decide)) 9
            have f388 := congrArg Int32.toInt q387
            have f391 := K2.g_0_14 hσ361
            have q392 : σ361.1 0 14 = σ252.1 0 14 := by rw [eσ361, u1_at]; exact if_neg (by decide)
            have f393 := congrArg Int32.toInt q392
            exact hQ _ hσ361 (⟨(kq (a := 0) (b := 35) eσ361 (fun q => absurd q.2 (by decide))).trans ((kq (a := 0) (b := 35) eσ252 (fun q => absurd q.2 (by decide))).trans ((kq (a := 0) (b := 35) eσ250 (fun q => absurd q.1 (by decide))).trans ((kq (a := 0) (b := 35) eσ245 (fun q => absurd q.1 (by decide))).trans ((kq (a := 0) (b := 35) eσ240 (fun q => absurd q.1 (by decide))).trans ((kq (a := 0) (b := 35) eσ235 (fun q => absurd q.1 (by decide))).trans ((kq (a := 0) (b := 35) eσ230 (fun q => absurd q.1 (by decide))).trans ((kq (a := 0) (b := 35) eσ225 (fun q => absurd q.1 (by decide))).trans ((kq (a := 0) (b := 35) eσ220 (fun q => absurd q.1 (by decide))).trans ((kq (a := 0) (b := 35) eσ209 (fun q => absurd q.2 (by decide)))))))))))), (kq (a := 0) (b := 24) eσ361 (fun q => absurd q.2 (by decide))).trans ((kq (a := 0) (b := 24) eσ252 (fun q => absurd q.2 (by decide))).trans ((kq (a := 0) (b := 24) eσ250 (fun q => absurd q.1 (by decide))).trans ((kq (a := 0) (b := 24) eσ245 (fun q => absurd q.1 (by decide))).trans ((kq (a := 0) (b := 24) eσ240 (fun q => absurd q.1 (by decide))).trans ((kq (a := 0) (b := 24) eσ235 (fun q => absurd q.1 (by decide))).trans ((kq (a := 0) (b := 24) eσ230 (fun q => absurd q.1 (by decide))).trans ((kq (a := 0) (b := 24) eσ225 (fun q => absurd q.1 (by decide))).trans ((kq (a := 0) (b := 24) eσ220 (fun q => absurd q.1 (by decide))).trans ((kq (a := 0) (b := 24) eσ209 (fun q => absurd q.2 (by decide)))))))))))), (kq (a := 0) (b := 36) eσ361 (fun q => absurd q.2 (by decide))).trans ((kq (a := 0) (b := 36) eσ252 (fun q => absurd q.2 (by decide))).trans ((kq (a := 0) (b := 36) eσ250 (fun q => absurd q.1 (by decide))).trans ((kq (a := 0) (b := 36) eσ245 (fun q => absurd q.1 (by decide))).trans ((kq (a := 0) (b := 36) eσ240 (fun q => absurd q.1 (by decide))).trans ((kq (a := 0) (b := 36) eσ235 (fun q => absurd q.1 (by decide))).trans ((kq (a := 0) (b := 36) eσ230 (fun q => absurd q.1 (by decide))).trans ((kq (a := 0) (b := 36) eσ225 (fun q => absurd q.1 (by decide))).trans ((kq (a := 0) (b := 36) eσ220 (fun q => absurd q.1 (by decide))).trans ((kq (a := 0) (b := 36) eσ209 (fun q => absurd q.2 (by decide)))))))))))), (kq (a := 0) (b := 41) eσ361 (fun q => absurd q.2 (by decide))).trans ((kq (a := 0) (b := 41) eσ252 (fun q => absurd q.2 (by decide))).trans ((kq (a := 0) (b := 41) eσ250 (fun q => absurd q.1 (by decide))).trans ((kq (a := 0) (b := 41) eσ245 (fun q => absurd q.1 (by decide))).trans ((kq (a := 0) (b := 41) eσ240 (fun q => absurd q.1 (by decide))).trans ((kq (a := 0) (b := 41) eσ235 (fun q => absurd q.1 (by decide))).trans ((kq (a := 0) (b := 41) eσ230 (fun q => absurd q.1 (by decide))).trans ((kq (a := 0) (b := 41) eσ225 (fun q => absurd q.1 (by decide))).trans ((kq (a := 0) (b := 41) eσ220 (fun q => absurd q.1 (by decide))).trans ((kq (a := 0) (b := 41) eσ209 (fun q => absurd q.2 (by decide)))))))))))), (kq (a := 0) (b := 50) eσ361 (fun q => absurd q.2 (by decide))).trans ((kq (a := 0) (b := 50) eσ252 (fun q => absurd q.2 (by decide))).trans ((kq (a := 0) (b := 50) eσ250 (fun q => absurd q.1 (by decide))).trans ((kq (a := 0) (b := 50) eσ245 (fun q => absurd q.1 (by decide))).trans ((kq (a := 0) (b := 50) eσ240 (fun q => absurd q.1 (by decide))).trans ((kq (a := 0) (b := 50) eσ235 (fun q => absurd q.1 (by decide))).trans ((kq (a := 0) (b := 50) eσ230 (fun q => absurd q.1 (by decide))).trans ((kq (a := 0) (b := 50) eσ225 (fun q => absurd q.1 (by decide))).trans ((kq (a := 0) (b := 50) eσ220 (fun q => absurd q.1 (by decide))).trans ((kq (a := 0) (b := 50) eσ209 (fun q => absurd q.2 (by decide)))))))))))), (kq (a := 0) (b := 51) eσ361 (fun q => absurd q.2 (by decide))).trans ((kq (a := 0) (b := 51) eσ252 (fun q => absurd q.2 (by decide))).trans ((kq (a := 0) (b := 51) eσ250 (fun q => absurd q.1 (by decide))).trans ((kq (a := 0) (b := 51) eσ245 (fun q => absurd q.1 (by decide))).trans ((kq (a := 0) (b := 51) eσ240 (fun q => absurd q.1 (by decide))).trans ((kq (a := 0) (b := 51) eσ235 (fun q => absurd q.1 (by decide))).trans ((kq (a := 0) (b := 51) eσ230 (fun q => absurd q.1 (by decide))).trans ((kq (a := 0) (b := 51) eσ225 (fun q => absurd q.1 (by decide))).trans ((kq (a := 0) (b := 51) eσ220 (fun q => absurd q.1 (by decide))).trans ((kq (a := 0) (b := 51) eσ209 (fun q => absurd q.2 (by decide)))))))))))), (by omega)⟩)
        · have f396 := tB (σ209.1 0 9)
          have q397 : σ209.1 0 9 = (σ.1 0 9) := by rw [eσ209, u1_at]; exact if_pos rfl
          first | have f399 : (σ209.1 0 9).toInt = (σ.1 0 9).toInt := (congrArg Int32.toInt q397).trans (rfl : (σ.1 0 9).toInt = (σ.1 0 9).toInt) | skip
          first | have f400 := (noteqE (rfl : (σ209.1 0 9).toInt = (σ209.1 0 9).toInt) (show (0 : Int32).toInt = 0 from by decide)).mp c210 | skip
          have f403 := K2.g_0_14 hσ209
          have q404 : σ209.1 0 14 = σ.1 0 14 := by rw [eσ209, u1_at]; exact if_neg (by decide)
          have f405 := congrArg Int32.toInt q404
          exact hQ _ hσ209 (⟨(kq (a := 0) (b := 35) eσ209 (fun q => absurd q.2 (by decide))), (kq (a := 0) (b := 24) eσ209 (fun q => absurd q.2 (by decide))), (kq (a := 0) (b := 36) eσ209 (fun q => absurd q.2 (by decide))), (kq (a := 0) (b := 41) eσ209 (fun q => absurd q.2 (by decide))), (kq (a := 0) (b := 50) eσ209 (fun q => absurd q.2 (by decide))), (kq (a := 0) (b := 51) eσ209 (fun q => absurd q.2 (by decide))), (by omega)⟩)
    · have f408 := K2.g_0_14 hσ
      first | have f409 := (noteqE (rfl : (σ.1 0 14).toInt = (σ.1 0 14).toInt) (show (40 : Int32).toInt = 40 from by decide)).mp c4 | skip
      try unfold fX12_lays_j22
      refine ⟨fun c410 => ?_, fun c410 => ?_⟩
      · first | have f412 := (eqE (rfl : (σ.1 0 9).toInt = (σ.1 0 9).toInt) (show (0 : Int32).toInt = 0 from by decide)).mp c410 | skip
        refine ⟨inE (rfl : (σ.1 0 14).toInt = (σ.1 0 14).toInt) (by omega) (by omega), ?_⟩
        intro σ414 eσ414
        have hσ414 : K2 σ0 σ414 := by rw [eσ414]; exact hσ.u (Rg2.ra_6 _ _) (fun q => absurd q.1 (by decide)) (fun q => absurd q.1 (by decide))
        have f415 := K2.g_0_14 hσ414
        have q416 : σ414.1 0 14 = σ.1 0 14 := by rw [eσ414]; exact congrFun (u1_ne (by decide)) 14
        have f417 := congrArg Int32.toInt q416
        refine ⟨inE (rfl : (σ414.1 0 14).toInt = (σ414.1 0 14).toInt) (by omega) (by omega), ?_⟩
        intro σ419 eσ419
        have hσ419 : K2 σ0 σ419 := by rw [eσ419]; exact hσ414.u (Rg2.ra_7 _ _) (fun q => absurd q.1 (by decide)) (fun q => absurd q.1 (by decide))
        have f420 := K2.g_0_14 hσ419
        have q421 : σ419.1 0 14 = σ414.1 0 14 := by rw [eσ419]; exact congrFun (u1_ne (by decide)) 14
        have f422 := congrArg Int32.toInt q421
        refine ⟨inE (rfl : (σ419.1 0 14).toInt = (σ419.1 0 14).toInt) (by omega) (by omega), ?_⟩
        intro σ424 eσ424
        have hσ424 : K2 σ0 σ424 := by rw [eσ424]; exact hσ419.u (Rg2.ra_8 _ _) (fun q => absurd q.1 (by decide)) (fun q => absurd q.1 (by decide))
        have f425 := K2.g_0_14 hσ424
        have q426 : σ424.1 0 14 = σ419.1 0 14 := by rw [eσ424]; exact congrFun (u1_ne (by decide)) 14
        have f427 := congrArg Int32.toInt q426
        refine ⟨inE (rfl : (σ424.1 0 14).toInt = (σ424.1 0 14).toInt) (by omega) (by omega), ?_⟩
        intro σ429 eσ429
        have hσ429 : K2 σ0 σ429 := by rw [eσ429]; exact hσ424.u (Rg2.ra_9 (leP (show (0 : Int32).toInt = 0 from by decide) (by omega)) (geP (show (0 : Int32).toInt = 0 from by decide) (by omega))) (fun q => absurd q.1 (by decide)) (fun q => absurd q.1 (by decide))
        have f430 := K2.g_0_14 hσ429
        have q431 : σ429.1 0 14 = σ424.1 0 14 := by rw [eσ429]; exact congrFun (u1_ne (by decide)) 14
        have f432 := congrArg Int32.toInt q431
        refine ⟨inE (rfl : (σ429.1 0 14).toInt = (σ429.1 0 14).toInt) (by omega) (by omega), ?_⟩
        intro σ434 eσ434
        have hσ434 : K2 σ0 σ434 := by rw [eσ434]; exact hσ429.u (Rg2.ra_11 _ _) (fun q => absurd q.1 (by decide)) (fun q => absurd q.1 (by decide))
        have f435 := K2.g_0_14 hσ434
        have q436 : σ434.1 0 14 = σ429.1 0 14 := by rw [eσ434]; exact congrFun (u1_ne (by decide)) 14
        have f437 := congrArg Int32.toInt q436
        refine ⟨inE (rfl : (σ434.1 0 14).toInt = (σ434.1 0 14).toInt) (by omega) (by omega), ?_⟩
        intro σ439 eσ439
        have hσ439 : K2 σ0 σ439 := by rw [eσ439]; exact hσ434.u (Rg2.ra_12 _ _) (fun q => absurd q.1 (by decide)) (fun q => absurd q.1 (by decide))
        have f440 := K2.g_0_14 hσ439
        have q441 : σ439.1 0 14 = σ434.1 0 14 := by rw [eσ439]; exact congrFun (u1_ne (by decide)) 14
        have f442 := congrArg Int32.toInt q441
        refine ⟨inE (rfl : (σ439.1 0 14).toInt = (σ439.1 0 14).toInt) (by omega) (by omega), ?_⟩
        intro σ444 eσ444
        have hσ444 : K2 σ0 σ444 := by rw [eσ444]; exact hσ439.u (Rg2.r13 (Or.inl (by decide))) (fun q => absurd q.1 (by decide)) (fun q => absurd q.1 (by decide))
        intro v445 ev445
        intro σ446 eσ446
        have f447 := tB v445
        have f448 := K2.g_0_14 hσ444
        have q449 : σ444.1 0 14 = σ439.1 0 14 := by rw [eσ444]; exact congrFun (u1_ne (by decide)) 14
        have f450 := congrArg Int32.toInt q449
        first | have f452 : v445.toInt = ((σ444.1 0 14).toInt + (1)) := (congrArg Int32.toInt ev445).trans (aOkE (rfl : (σ444.1 0 14).toInt = (σ444.1 0 14).toInt) (show (1 : Int32).toInt = 1 from by decide) (by omega) (by omega)) | skip
        have hσ446 : K2 σ0 σ446 := by rw [eσ446]; exact hσ444.u (Rg2.r_0_14 (leP (rfl : v445.toInt = v445.toInt) (by omega)) (geP (rfl : v445.toInt = v445.toInt) (by omega))) (fun q => absurd q.2 (by decide)) (fun q => absurd q.2 (by decide))
        refine ⟨fun c453 => ?_, fun c453 => ?_⟩
        · have f454 := K2.g_0_14 hσ446
          have q455 : σ446.1 0 14 = v445 := by rw [eσ446, u1_at]; exact if_pos rfl
          first | have f457 : (σ446.1 0 14).toInt = v445.toInt := (congrArg Int32.toInt q455).trans (rfl : v445.toInt = v445.toInt) | skip
          have f458 := tB (σ446.1 0 32)
          have q459 : σ446.1 0 32 = σ444.1 0 32 := by rw [eσ446, u1_at]; exact if_neg (by decide)
          have f460 := congrArg Int32.toInt q459
          have f461 := tB (σ444.1 0 32)
          have q462 : σ444.1 0 32 = σ439.1 0 32 := by rw [eσ444]; exact congrFun (u1_ne (by decide)) 32
          have f463 := congrArg Int32.toInt q462
          have f464 := tB (σ439.1 0 32)
          have q465 : σ439.1 0 32 = σ434.1 0 32 := by rw [eσ439]; exact congrFun (u1_ne (by decide)) 32
          have f466 := congrArg Int32.toInt q465
          have f467 := tB (σ434.1 0 32)
          have q468 : σ434.1 0 32 = σ429.1 0 32 := by rw [eσ434]; exact congrFun (u1_ne (by decide)) 32
          have f469 := congrArg Int32.toInt q468
          have f470 := tB (σ429.1 0 32)
          have q471 : σ429.1 0 32 = σ424.1 0 32 := by rw [eσ429]; exact congrFun (u1_ne (by decide)) 32
          have f472 := congrArg Int32.toInt q471
          have f473 := tB (σ424.1 0 32)
          have q474 : σ424.1 0 32 = σ419.1 0 32 := by rw [eσ424]; exact congrFun (u1_ne (by decide)) 32
          have f475 := congrArg Int32.toInt q474
          have f476 := tB (σ419.1 0 32)
          have q477 : σ419.1 0 32 = σ414.1 0 32 := by rw [eσ419]; exact congrFun (u1_ne (by decide)) 32
          have f478 := congrArg Int32.toInt q477
          have f479 := tB (σ414.1 0 32)
          have q480 : σ414.1 0 32 = σ.1 0 32 := by rw [eσ414]; exact congrFun (u1_ne (by decide)) 32
          have f481 := congrArg Int32.toInt q480
          have f482 := tB (σ.1 0 32)
          first | have f483 := (leE (rfl : (σ446.1 0 14).toInt = (σ446.1 0 14).toInt) (rfl : (σ446.1 0 32).toInt = (σ446.1 0 32).toInt)).mp c453 | skip
          try unfold fX12_lays_j134
          intro σ484 eσ484
          have hσ484 : K2 σ0 σ484 := by rw [eσ484]; exact hσ446.u (Rg2.u_0_32 _) (fun q => absurd q.2 (by decide)) (fun q => absurd q.2 (by decide))
          have f485 := tB (σ484.1 0 9)
          have q486 : σ484.1 0 9 = σ446.1 0 9 := by rw [eσ484, u1_at]; exact if_neg (by decide)
          have f487 := congrArg Int32.toInt q486
          have f488 := tB (σ446.1 0 9)
          have q489 : σ446.1 0 9 = σ444.1 0 9 := by rw [eσ446, u1_at]; exact if_neg (by decide)
          have f490 := congrArg Int32.toInt q489
          have f491 := tB (σ444.1 0 9)
          have q492 : σ444.1 0 9 = σ439.1 0 9 := by rw [eσ444]; exact congrFun (u1_ne (by decide)) 9
          have f493 := congrArg Int32.toInt q492
          have f494 := tB (σ439.1 0 9)
          have q495 : σ439.1 0 9 = σ434.1 0 9 := by rw [eσ439]; exact congrFun (u1_ne (by decide)) 9
          have f496 := congrArg Int32.toInt q495
          have f497 := tB (σ434.1 0 9)
          have q498 : σ434.1 0 9 = σ429.1 0 9 := by rw [eσ434]; exact congrFun (u1_ne (by decide)) 9
          have f499 := congrArg Int32.toInt q498
          have f500 := tB (σ429.1 0 9)
          have q501 : σ429.1 0 9 = σ424.1 0 9 := by rw [eσ429]; exact congrFun (u1_ne (by decide)) 9
          have f502 := congrArg Int32.toInt q501
          have f503 := tB (σ424.1 0 9)
          have q504 : σ424.1 0 9 = σ419.1 0 9 := by rw [eσ424]; exact congrFun (u1_ne (by decide)) 9
          have f505 := congrArg Int32.toInt q504
          have f506 := tB (σ419.1 0 9)
          have q507 : σ419.1 0 9 = σ414.1 0 9 := by rw [eσ419]; exact congrFun (u1_ne (by decide)) 9
          have f508 := congrArg Int32.toInt q507
          have f509 := tB (σ414.1 0 9)
          have q510 : σ414.1 0 9 = σ.1 0 9 := by rw [eσ414]; exact congrFun (u1_ne (by decide)) 9
          have f511 := congrArg Int32.toInt q510
          have f514 := K2.g_0_14 hσ484
          have q515 : σ484.1 0 14 = σ446.1 0 14 := by rw [eσ484, u1_at]; exact if_neg (by decide)
          have f516 := congrArg Int32.toInt q515
          exact hQ _ hσ484 (⟨(kq (a := 0) (b := 35) eσ484 (fun q => absurd q.2 (by decide))).trans ((kq (a := 0) (b := 35) eσ446 (fun q => absurd q.2 (by decide))).trans ((kq (a := 0) (b := 35) eσ444 (fun q => absurd q.1 (by decide))).trans ((kq (a := 0) (b := 35) eσ439 (fun q => absurd q.1 (by decide))).trans ((kq (a := 0) (b := 35) eσ434 (fun q => absurd q.1 (by decide))).trans ((kq (a := 0) (b := 35) eσ429 (fun q => absurd q.1 (by decide))).trans ((kq (a := 0) (b := 35) eσ424 (fun q => absurd q.1 (by decide))).trans ((kq (a := 0) (b := 35) eσ419 (fun q => absurd q.1 (by decide))).trans ((kq (a := 0) (b := 35) eσ414 (fun q => absurd q.1 (by decide))))))))))), (kq (a := 0) (b := 24) eσ484 (fun q => absurd q.2 (by decide))).trans ((kq (a := 0) (b := 24) eσ446 (fun q => absurd q.2 (by decide))).trans ((kq (a := 0) (b := 24) eσ444 (fun q => absurd q.1 (by decide))).trans ((kq (a := 0) (b := 24) eσ439 (fun q => absurd q.1 (by decide))).trans ((kq (a := 0) (b := 24) eσ434 (fun q => absurd q.1 (by decide))).trans ((kq (a := 0) (b := 24) eσ429 (fun q => absurd q.1 (by decide))).trans ((kq (a := 0) (b := 24) eσ424 (fun q => absurd q.1 (by decide))).trans ((kq (a := 0) (b := 24) eσ419 (fun q => absurd q.1 (by decide))).trans ((kq (a := 0) (b := 24) eσ414 (fun q => absurd q.1 (by decide))))))))))), (kq (a := 0) (b := 36) eσ484 (fun q => absurd q.2 (by decide))).trans ((kq (a := 0) (b := 36) eσ446 (fun q => absurd q.2 (by decide))).trans ((kq (a := 0) (b := 36) eσ444 (fun q => absurd q.1 (by decide))).trans ((kq (a := 0) (b := 36) eσ439 (fun q => absurd q.1 (by decide))).trans ((kq (a := 0) (b := 36) eσ434 (fun q => absurd q.1 (by decide))).trans ((kq (a := 0) (b := 36) eσ429 (fun q => absurd q.1 (by decide))).trans ((kq (a := 0) (b := 36) eσ424 (fun q => absurd q.1 (by decide))).trans ((kq (a := 0) (b := 36) eσ419 (fun q => absurd q.1 (by decide))).trans ((kq (a := 0) (b := 36) eσ414 (fun q => absurd q.1 (by decide))))))))))), (kq (a := 0) (b := 41) eσ484 (fun q => absurd q.2 (by decide))).trans ((kq (a := 0) (b := 41) eσ446 (fun q => absurd q.2 (by decide))).trans ((kq (a := 0) (b := 41) eσ444 (fun q => absurd q.1 (by decide))).trans ((kq (a := 0) (b := 41) eσ439 (fun q => absurd q.1 (by decide))).trans ((kq (a := 0) (b := 41) eσ434 (fun q => absurd q.1 (by decide))).trans ((kq (a := 0) (b := 41) eσ429 (fun q => absurd q.1 (by decide))).trans ((kq (a := 0) (b := 41) eσ424 (fun q => absurd q.1 (by decide))).trans ((kq (a := 0) (b := 41) eσ419 (fun q => absurd q.1 (by decide))).trans ((kq (a := 0) (b := 41) eσ414 (fun q => absurd q.1 (by decide))))))))))), (kq (a := 0) (b := 50) eσ484 (fun q => absurd q.2 (by decide))).trans ((kq (a := 0) (b := 50) eσ446 (fun q => absurd q.2 (by decide))).trans ((kq (a := 0) (b := 50) eσ444 (fun q => absurd q.1 (by decide))).trans ((kq (a := 0) (b := 50) eσ439 (fun q => absurd q.1 (by decide))).trans ((kq (a := 0) (b := 50) eσ434 (fun q => absurd q.1 (by decide))).trans ((kq (a := 0) (b := 50) eσ429 (fun q => absurd q.1 (by decide))).trans ((kq (a := 0) (b := 50) eσ424 (fun q => absurd q.1 (by decide))).trans ((kq (a := 0) (b := 50) eσ419 (fun q => absurd q.1 (by decide))).trans ((kq (a := 0) (b := 50) eσ414 (fun q => absurd q.1 (by decide))))))))))), (kq (a := 0) (b := 51) eσ484 (fun q => absurd q.2 (by decide))).trans ((kq (a := 0) (b := 51) eσ446 (fun q => absurd q.2 (by decide))).trans ((kq (a := 0) (b := 51) eσ444 (fun q => absurd q.1 (by decide))).trans ((kq (a := 0) (b := 51) eσ439 (fun q => absurd q.1 (by decide))).trans ((kq (a := 0) (b := 51) eσ434 (fun q => absurd q.1 (by decide))).trans ((kq (a := 0) (b := 51) eσ429 (fun q => absurd q.1 (by decide))).trans ((kq (a := 0) (b := 51) eσ424 (fun q => absurd q.1 (by decide))).trans ((kq (a := 0) (b := 51) eσ419 (fun q => absurd q.1 (by decide))).trans ((kq (a := 0) (b := 51) eσ414 (fun q => absurd q.1 (by decide))))))))))), (by omega)⟩)
        · have f519 := K2.g_0_14 hσ446
          have q520 : σ446.1 0 14 = v445 := by rw [eσ446, u1_at]; exact if_pos rfl
          first | have f522 : (σ446.1 0 14).toInt = v445.toInt := (congrArg Int32.toInt q520).trans (rfl : v445.toInt = v445.toInt) | skip
          have f523 := tB (σ446.1 0 32)
          have q524 : σ446.1 0 32 = σ444.1 0 32 := by rw [eσ446, u1_at]; exact if_neg (by decide)
          have f525 := congrArg Int32.toInt q524
          have f526 := tB (σ444.1 0 32)
          have q527 : σ444.1 0 32 = σ439.1 0 32 := by rw [eσ444]; exact congrFun (u1_ne (by decide)) 32
          have f528 := congrArg Int32.toInt q527
          have f529 := tB (σ439.1 0 32)
          have q530 : σ439.1 0 32 = σ434.1 0 32 := by rw [eσ439]; exact congrFun (u1_ne (by decide)) 32
          have f531 := congrArg Int32.toInt q530
          have f532 := tB (σ434.1 0 32)
          have q533 : σ434.1 0 32 = σ429.1 0 32 := by rw [eσ434]; exact congrFun (u1_ne (by decide)) 32
          have f534 := congrArg Int32.toInt q533
          have f535 := tB (σ429.1 0 32)
          have q536 : σ429.1 0 32 = σ424.1 0 32 := by rw [eσ429]; exact congrFun (u1_ne (by decide)) 32
          have f537 := congrArg Int32.toInt q536
          have f538 := tB (σ424.1 0 32)
          have q539 : σ424.1 0 32 = σ419.1 0 32 := by rw [eσ424]; exact congrFun (u1_ne (by decide)) 32
          have f540 := congrArg Int32.toInt q539
          have f541 := tB (σ419.1 0 32)
          have q542 : σ419.1 0 32 = σ414.1 0 32 := by rw [eσ419]; exact congrFun (u1_ne (by decide)) 32
          have f543 := congrArg Int32.toInt q542
          have f544 := tB (σ414.1 0 32)
          have q545 : σ414.1 0 32 = σ.1 0 32 := by rw [eσ414]; exact congrFun (u1_ne (by decide)) 32
          have f546 := congrArg Int32.toInt q545
          have f547 := tB (σ.1 0 32)
          first | have f548 := (notleE (rfl : (σ446.1 0 14).toInt = (σ446.1 0 14).toInt) (rfl : (σ446.1 0 32).toInt = (σ446.1 0 32).toInt)).mp c453 | skip
          try unfold fX12_lays_j134
          intro σ549 eσ549
          have hσ549 : K2 σ0 σ549 := by rw [eσ549]; exact hσ446.u (Rg2.u_0_32 _) (fun q => absurd q.2 (by decide)) (fun q => absurd q.2 (by decide))
          have f550 := tB (σ549.1 0 9)
          have q551 : σ549.1 0 9 = σ446.1 0 9 := by rw [eσ549, u1_at]; exact if_neg (by decide)
          have f552 := congrArg Int32.toInt q551
          have f553 := tB (σ446.1 0 9)
          have q554 : σ446.1 0 9 = σ444.1 0 9 := by rw [eσ446, u1_at]; exact if_neg (by decide)
          have f555 := congrArg Int32.toInt q554
          have f556 := tB (σ444.1 0 9)
          have q557 : σ444.1 0 9 = σ439.1 0 9 := by rw [eσ444]; exact congrFun (u1_ne (by decide)) 9
          have f558 := congrArg Int32.toInt q557
          have f559 := tB (σ439.1 0 9)
          have q560 : σ439.1 0 9 = σ434.1 0 9 := by rw [eσ439]; exact congrFun (u1_ne (by decide)) 9
          have f561 := congrArg Int32.toInt q560
          have f562 := tB (σ434.1 0 9)
          have q563 : σ434.1 0 9 = σ429.1 0 9 := by rw [eσ434]; exact congrFun (u1_ne (by decide)) 9
          have f564 := congrArg Int32.toInt q563
          have f565 := tB (σ429.1 0 9)
          have q566 : σ429.1 0 9 = σ424.1 0 9 := by rw [eσ429]; exact congrFun (u1_ne (by decide)) 9
          have f567 := congrArg Int32.toInt q566
          have f568 := tB (σ424.1 0 9)
          have q569 : σ424.1 0 9 = σ419.1 0 9 := by rw [eσ424]; exact congrFun (u1_ne (by decide)) 9
          have f570 := congrArg Int32.toInt q569
          have f571 := tB (σ419.1 0 9)
          have q572 : σ419.1 0 9 = σ414.1 0 9 := by rw [eσ419]; exact congrFun (u1_ne (by decide)) 9
          have f573 := congrArg Int32.toInt q572
          have f574 := tB (σ414.1 0 9)
          have q575 : σ414.1 0 9 = σ.1 0 9 := by rw [eσ414]; exact congrFun (u1_ne (by decide)) 9
          have f576 := congrArg Int32.toInt q575
          have f579 := K2.g_0_14 hσ549
          have q580 : σ549.1 0 14 = σ446.1 0 14 := by rw [eσ549, u1_at]; exact if_neg (by decide)
          have f581 := congrArg Int32.toInt q580
          exact hQ _ hσ549 (⟨(kq (a := 0) (b := 35) eσ549 (fun q => absurd q.2 (by decide))).trans ((kq (a := 0) (b := 35) eσ446 (fun q => absurd q.2 (by decide))).trans ((kq (a := 0) (b := 35) eσ444 (fun q => absurd q.1 (by decide))).trans ((kq (a := 0) (b := 35) eσ439 (fun q => absurd q.1 (by decide))).trans ((kq (a := 0) (b := 35) eσ434 (fun q => absurd q.1 (by decide))).trans ((kq (a := 0) (b := 35) eσ429 (fun q => absurd q.1 (by decide))).trans ((kq (a := 0) (b := 35) eσ424 (fun q => absurd q.1 (by decide))).trans ((kq (a := 0) (b := 35) eσ419 (fun q => absurd q.1 (by decide))).trans ((kq (a := 0) (b := 35) eσ414 (fun q => absurd q.1 (by decide))))))))))), (kq (a := 0) (b := 24) eσ549 (fun q => absurd q.2 (by decide))).trans ((kq (a := 0) (b := 24) eσ446 (fun q => absurd q.2 (by decide))).trans ((kq (a := 0) (b := 24) eσ444 (fun q => absurd q.1 (by decide))).trans ((kq (a := 0) (b := 24) eσ439 (fun q => absurd q.1 (by decide))).trans ((kq (a := 0) (b := 24) eσ434 (fun q => absurd q.1 (by decide))).trans ((kq (a := 0) (b := 24) eσ429 (fun q => absurd q.1 (by decide))).trans ((kq (a := 0) (b := 24) eσ424 (fun q => absurd q.1 (by decide))).trans ((kq (a := 0) (b := 24) eσ419 (fun q => absurd q.1 (by decide))).trans ((kq (a := 0) (b := 24) eσ414 (fun q => absurd q.1 (by decide))))))))))), (kq (a := 0) (b := 36) eσ549 (fun q => absurd q.2 (by decide))).trans ((kq (a := 0) (b := 36) eσ446 (fun q => absurd q.2 (by decide))).trans ((kq (a := 0) (b := 36) eσ444 (fun q => absurd q.1 (by decide))).trans ((kq (a := 0) (b := 36) eσ439 (fun q => absurd q.1 (by decide))).trans ((kq (a := 0) (b := 36) eσ434 (fun q => absurd q.1 (by decide))).trans ((kq (a := 0) (b := 36) eσ429 (fun q => absurd q.1 (by decide))).trans ((kq (a := 0) (b := 36) eσ424 (fun q => absurd q.1 (by decide))).trans ((kq (a := 0) (b := 36) eσ419 (fun q => absurd q.1 (by decide))).trans ((kq (a := 0) (b := 36) eσ414 (fun q => absurd q.1 (by decide))))))))))), (kq (a := 0) (b := 41) eσ549 (fun q => absurd q.2 (by decide))).trans ((kq (a := 0) (b := 41) eσ446 (fun q => absurd q.2 (by decide))).trans ((kq (a := 0) (b := 41) eσ444 (fun q => absurd q.1 (by decide))).trans ((kq (a := 0) (b := 41) eσ439 (fun q => absurd q.1 (by decide))).trans ((kq (a := 0) (b := 41) eσ434 (fun q => absurd q.1 (by decide))).trans ((kq (a := 0) (b := 41) eσ429 (fun q => absurd q.1 (by decide))).trans ((kq (a := 0) (b := 41) eσ424 (fun q => absurd q.1 (by decide))).trans ((kq (a := 0) (b := 41) eσ419 (fun q => absurd q.1 (by decide))).trans ((kq (a := 0) (b := 41) eσ414 (fun q => absurd q.1 (by decide))))))))))), (kq (a := 0) (b := 50) eσ549 (fun q => absurd q.2 (by decide))).trans ((kq (a := 0) (b := 50) eσ446 (fun q => absurd q.2 (by decide))).trans ((kq (a := 0) (b := 50) eσ444 (fun q => absurd q.1 (by decide))).trans ((kq (a := 0) (b := 50) eσ439 (fun q => absurd q.1 (by decide))).trans ((kq (a := 0) (b := 50) eσ434 (fun q => absurd q.1 (by decide))).trans ((kq (a := 0) (b := 50) eσ429 (fun q => absurd q.1 (by decide))).trans ((kq (a := 0) (b := 50) eσ424 (fun q => absurd q.1 (by decide))).trans ((kq (a := 0) (b := 50) eσ419 (fun q => absurd q.1 (by decide))).trans ((kq (a := 0) (b := 50) eσ414 (fun q => absurd q.1 (by decide))))))))))), (kq (a := 0) (b := 51) eσ549 (fun q => absurd q.2 (by decide))).trans ((kq (a := 0) (b := 51) eσ446 (fun q => absurd q.2 (by decide))).trans ((kq (a := 0) (b := 51) eσ444 (fun q => absurd q.1 (by decide))).trans ((kq (a := 0) (b := 51) eσ439 (fun q => absurd q.1 (by decide))).trans ((kq (a := 0) (b := 51) eσ434 (fun q => absurd q.1 (by decide))).trans ((kq (a := 0) (b := 51) eσ429 (fun q => absurd q.1 (by decide))).trans ((kq (a := 0) (b := 51) eσ424 (fun q => absurd q.1 (by decide))).trans ((kq (a := 0) (b := 51) eσ419 (fun q => absurd q.1 (by decide))).trans ((kq (a := 0) (b := 51) eσ414 (fun q => absurd q.1 (by decide))))))))))), (by omega)⟩)
      · first | have f585 := (noteqE (rfl : (σ.1 0 9).toInt = (σ.1 0 9).toInt) (show (0 : Int32).toInt = 0 from by decide)).mp c410 | skip
        exact hQ _ hσ (⟨rfl, rfl, rfl, rfl, rfl, rfl, (by omega)⟩)
  · have f590 := tB (σ.1 0 9)
    first | have f591 := (noteqE (rfl : (σ.1 0 9).toInt = (σ.1 0 9).toInt) (show (0 : Int32).toInt = 0 from by decide)).mp c1 | skip
    try unfold fX12_lays_j22
    refine ⟨fun c592 => ?_, fun c592 => ?_⟩
    · first | have f594 := (eqE (rfl : (σ.1 0 9).toInt = (σ.1 0 9).toInt) (show (0 : Int32).toInt = 0 from by decide)).mp c592 | skip
      have f595 := K2.g_0_14 hσ
      refine ⟨inE (rfl : (σ.1 0 14).toInt = (σ.1 0 14).toInt) (by omega) (by omega), ?_⟩
      intro σ596 eσ596
      have hσ596 : K2 σ0 σ596 := by rw [eσ596]; exact hσ.u (Rg2.ra_6 _ _) (fun q => absurd q.1 (by decide)) (fun q => absurd q.1 (by decide))
      have f597 := K2.g_0_14 hσ596
      have q598 : σ596.1 0 14 = σ.1 0 14 := by rw [eσ596]; exact congrFun (u1_ne (by decide)) 14
      have f599 := congrArg Int32.toInt q598
      refine ⟨inE (rfl : (σ596.1 0 14).toInt = (σ596.1 0 14).toInt) (by omega) (by omega), ?_⟩
      intro σ601 eσ601
      have hσ601 : K2 σ0 σ601 := by rw [eσ601]; exact hσ596.u (Rg2.ra_7 _ _) (fun q => absurd q.1 (by decide)) (fun q => absurd q.1 (by decide))
      have f602 := K2.g_0_14 hσ601
      have q603 : σ601.1 0 14 = σ596.1 0 14 := by rw [eσ601]; exact congrFun (u1_ne (by decide)) 14
      have f604 := congrArg Int32.toInt q603
      refine ⟨inE (rfl : (σ601.1 0 14).toInt = (σ601.1 0 14).toInt) (by omega) (by omega), ?_⟩
      intro σ606 eσ606
      have hσ606 : K2 σ0 σ606 := by rw [eσ606]; exact hσ601.u (Rg2.ra_8 _ _) (fun q => absurd q.1 (by decide)) (fun q => absurd q.1 (by decide))
      have f607 := K2.g_0_14 hσ606
      have q608 : σ606.1 0 14 = σ601.1 0 14 := by rw [eσ606]; exact congrFun (u1_ne (by decide)) 14
      have f609 := congrArg Int32.toInt q608
      refine ⟨inE (rfl : (σ606.1 0 14).toInt = (σ606.1 0 14).toInt) (by omega) (by omega), ?_⟩
      intro σ611 eσ611
      have hσ611 : K2 σ0 σ611 := by rw [eσ611]; exact hσ606.u (Rg2.ra_9 (leP (show (0 : Int32).toInt = 0 from by decide) (by omega)) (geP (show (0 : Int32).toInt = 0 from by decide) (by omega))) (fun q => absurd q.1 (by decide)) (fun q => absurd q.1 (by decide))
      have f612 := K2.g_0_14 hσ611
      have q613 : σ611.1 0 14 = σ606.1 0 14 := by rw [eσ611]; exact congrFun (u1_ne (by decide)) 14
      have f614 := congrArg Int32.toInt q613
      refine ⟨inE (rfl : (σ611.1 0 14).toInt = (σ611.1 0 14).toInt) (by omega) (by omega), ?_⟩
      intro σ616 eσ616
      have hσ616 : K2 σ0 σ616 := by rw [eσ616]; exact hσ611.u (Rg2.ra_11 _ _) (fun q => absurd q.1 (by decide)) (fun q => absurd q.1 (by decide))
      have f617 := K2.g_0_14 hσ616
      have q618 : σ616.1 0 14 = σ611.1 0 14 := by rw [eσ616]; exact congrFun (u1_ne (by decide)) 14
      have f619 := congrArg Int32.toInt q618
      refine ⟨inE (rfl : (σ616.1 0 14).toInt = (σ616.1 0 14).toInt) (by omega) (by omega), ?_⟩
      intro σ621 eσ621
      have hσ621 : K2 σ0 σ621 := by rw [eσ621]; exact hσ616.u (Rg2.ra_12 _ _) (fun q => absurd q.1 (by decide)) (fun q => absurd q.1 (by decide))
      have f622 := K2.g_0_14 hσ621
      have q623 : σ621.1 0 14 = σ616.1 0 14 := by rw [eσ621]; exact congrFun (u1_ne (by decide)) 14
      have f624 := congrArg Int32.toInt q623
      refine ⟨inE (rfl : (σ621.1 0 14).toInt = (σ621.1 0 14).toInt) (by omega) (by omega), ?_⟩
      intro σ626 eσ626
      have hσ626 : K2 σ0 σ626 := by rw [eσ626]; exact hσ621.u (Rg2.r13 (Or.inl (by decide))) (fun q => absurd q.1 (by decide)) (fun q => absurd q.1 (by decide))
      intro v627 ev627
      intro σ628 eσ628
      have f629 := tB v627
      have f630 := K2.g_0_14 hσ626
      have q631 : σ626.1 0 14 = σ621.1 0 14 := by rw [eσ626]; exact congrFun (u1_ne (by decide)) 14
      have f632 := congrArg Int32.toInt q631
      first | have f634 : v627.toInt = ((σ626.1 0 14).toInt + (1)) := (congrArg Int32.toInt ev627).trans (aOkE (rfl : (σ626.1 0 14).toInt = (σ626.1 0 14).toInt) (show (1 : Int32).toInt = 1 from by decide) (by omega) (by omega)) | skip
      have hσ628 : K2 σ0 σ628 := by rw [eσ628]; exact hσ626.u (Rg2.r_0_14 (leP (rfl : v627.toInt = v627.toInt) (by omega)) (geP (rfl : v627.toInt = v627.toInt) (by omega))) (fun q => absurd q.2 (by decide)) (fun q => absurd q.2 (by decide))
      refine ⟨fun c635 => ?_, fun c635 => ?_⟩
      · have f636 := K2.g_0_14 hσ628
        have q637 : σ628.1 0 14 = v627 := by rw [eσ628, u1_at]; exact if_pos rfl
        first | have f639 : (σ628.1 0 14).toInt = v627.toInt := (congrArg Int32.toInt q637).trans (rfl : v627.toInt = v627.toInt) | skip
        have f640 := tB (σ628.1 0 32)
        have q641 : σ628.1 0 32 = σ626.1 0 32 := by rw [eσ628, u1_at]; exact if_neg (by decide)
        have f642 := congrArg Int32.toInt q641
        have f643 := tB (σ626.1 0 32)
        have q644 : σ626.1 0 32 = σ621.1 0 32 := by rw [eσ626]; exact congrFun (u1_ne (by decide)) 32
        have f645 := congrArg Int32.toInt q644
        have f646 := tB (σ621.1 0 32)
        have q647 : σ621.1 0 32 = σ616.1 0 32 := by rw [eσ621]; exact congrFun (u1_ne (by decide)) 32
        have f648 := congrArg Int32.toInt q647
        have f649 := tB (σ616.1 0 32)
        have q650 : σ616.1 0 32 = σ611.1 0 32 := by rw [eσ616]; exact congrFun (u1_ne (by decide)) 32
        have f651 := congrArg Int32.toInt q650
        have f652 := tB (σ611.1 0 32)
        have q653 : σ611.1 0 32 = σ606.1 0 32 := by rw [eσ611]; exact congrFun (u1_ne (by decide)) 32
        have f654 := congrArg Int32.toInt q653
        have f655 := tB (σ606.1 0 32)
        have q656 : σ606.1 0 32 = σ601.1 0 32 := by rw [eσ606]; exact congrFun (u1_ne (by decide)) 32
        have f657 := congrArg Int32.toInt q656
        have f658 := tB (σ601.1 0 32)
        have q659 : σ601.1 0 32 = σ596.1 0 32 := by rw [eσ601]; exact congrFun (u1_ne (by decide)) 32
        have f660 := congrArg Int32.toInt q659
        have f661 := tB (σ596.1 0 32)
        have q662 : σ596.1 0 32 = σ.1 0 32 := by rw [eσ596]; exact congrFun (u1_ne (by decide)) 32
        have f663 := congrArg Int32.toInt q662
        have f664 := tB (σ.1 0 32)
        first | have f665 := (leE (rfl : (σ628.1 0 14).toInt = (σ628.1 0 14).toInt) (rfl : (σ628.1 0 32).toInt = (σ628.1 0 32).toInt)).mp c635 | skip
        try unfold fX12_lays_j134
        intro σ666 eσ666
        have hσ666 : K2 σ0 σ666 := by rw [eσ666]; exact hσ628.u (Rg2.u_0_32 _) (fun q => absurd q.2 (by decide)) (fun q => absurd q.2 (by decide))
        have f667 := tB (σ666.1 0 9)
        have q668 : σ666.1 0 9 = σ628.1 0 9 := by rw [eσ666, u1_at]; exact if_neg (by decide)
        have f669 := congrArg Int32.toInt q668
        have f670 := tB (σ628.1 0 9)
        have q671 : σ628.1 0 9 = σ626.1 0 9 := by rw [eσ628, u1_at]; exact if_neg (by decide)
        have f672 := congrArg Int32.toInt q671
        have f673 := tB (σ626.1 0 9)
        have q674 : σ626.1 0 9 = σ621.1 0 9 := by rw [eσ626]; exact congrFun (u1_ne (by decide)) 9
        have f675 := congrArg Int32.toInt q674
        have f676 := tB (σ621.1 0 9)
        have q677 : σ621.1 0 9 = σ616.1 0 9 := by rw [eσ621]; exact congrFun (u1_ne (by decide)) 9
        have f678 := congrArg Int32.toInt q677
        have f679 := tB (σ616.1 0 9)
        have q680 : σ616.1 0 9 = σ611.1 0 9 := by rw [eσ616]; exact congrFun (u1_ne (by decide)) 9
        have f681 := congrArg Int32.toInt q680
        have f682 := tB (σ611.1 0 9)
        have q683 : σ611.1 0 9 = σ606.1 0 9 := by rw [eσ611]; exact congrFun (u1_ne (by decide)) 9
        have f684 := congrArg Int32.toInt q683
        have f685 := tB (σ606.1 0 9)
        have q686 : σ606.1 0 9 = σ601.1 0 9 := by rw [eσ606]; exact congrFun (u1_ne (by decide)) 9
        have f687 := congrArg Int32.toInt q686
        have f688 := tB (σ601.1 0 9)
        have q689 : σ601.1 0 9 = σ596.1 0 9 := by rw [eσ601]; exact congrFun (u1_ne (by decide)) 9
        have f690 := congrArg Int32.toInt q689
        have f691 := tB (σ596.1 0 9)
        have q692 : σ596.1 0 9 = σ.1 0 9 := by rw [eσ596]; exact congrFun (u1_ne (by decide)) 9
        have f693 := congrArg Int32.toInt q692
        have f696 := K2.g_0_14 hσ666
        have q697 : σ666.1 0 14 = σ628.1 0 14 := by rw [eσ666, u1_at]; exact if_neg (by decide)
        have f698 := congrArg Int32.toInt q697
        exact hQ _ hσ666 (⟨(kq (a := 0) (b := 35) eσ666 (fun q => absurd q.2 (by decide))).trans ((kq (a := 0) (b := 35) eσ628 (fun q => absurd q.2 (by decide))).trans ((kq (a := 0) (b := 35) eσ626 (fun q => absurd q.1 (by decide))).trans ((kq (a := 0) (b := 35) eσ621 (fun q => absurd q.1 (by decide))).trans ((kq (a := 0) (b := 35) eσ616 (fun q => absurd q.1 (by decide))).trans ((kq (a := 0) (b := 35) eσ611 (fun q => absurd q.1 (by decide))).trans ((kq (a := 0) (b := 35) eσ606 (fun q => absurd q.1 (by decide))).trans ((kq (a := 0) (b := 35) eσ601 (fun q => absurd q.1 (by decide))).trans ((kq (a := 0) (b := 35) eσ596 (fun q => absurd q.1 (by decide))))))))))), (kq (a := 0) (b := 24) eσ666 (fun q => absurd q.2 (by decide))).trans ((kq (a := 0) (b := 24) eσ628 (fun q => absurd q.2 (by decide))).trans ((kq (a := 0) (b := 24) eσ626 (fun q => absurd q.1 (by decide))).trans ((kq (a := 0) (b := 24) eσ621 (fun q => absurd q.1 (by decide))).trans ((kq (a := 0) (b := 24) eσ616 (fun q => absurd q.1 (by decide))).trans ((kq (a := 0) (b := 24) eσ611 (fun q => absurd q.1 (by decide))).trans ((kq (a := 0) (b := 24) eσ606 (fun q => absurd q.1 (by decide))).trans ((kq (a := 0) (b := 24) eσ601 (fun q => absurd q.1 (by decide))).trans ((kq (a := 0) (b := 24) eσ596 (fun q => absurd q.1 (by decide))))))))))), (kq (a := 0) (b := 36) eσ666 (fun q => absurd q.2 (by decide))).trans ((kq (a := 0) (b := 36) eσ628 (fun q => absurd q.2 (by decide))).trans ((kq (a := 0) (b := 36) eσ626 (fun q => absurd q.1 (by decide))).trans ((kq (a := 0) (b := 36) eσ621 (fun q => absurd q.1 (by decide))).trans ((kq (a := 0) (b := 36) eσ616 (fun q => absurd q.1 (by decide))).trans ((kq (a := 0) (b := 36) eσ611 (fun q => absurd q.1 (by decide))).trans ((kq (a := 0) (b := 36) eσ606 (fun q => absurd q.1 (by decide))).trans ((kq (a := 0) (b := 36) eσ601 (fun q => absurd q.1 (by decide))).trans ((kq (a := 0) (b := 36) eσ596 (fun q => absurd q.1 (by decide))))))))))), (kq (a := 0) (b := 41) eσ666 (fun q => absurd q.2 (by decide))).trans ((kq (a := 0) (b := 41) eσ628 (fun q => absurd q.2 (by decide))).trans ((kq (a := 0) (b := 41) eσ626 (fun q => absurd q.1 (by decide))).trans ((kq (a := 0) (b := 41) eσ621 (fun q => absurd q.1 (by decide))).trans ((kq (a := 0) (b := 41) eσ616 (fun q => absurd q.1 (by decide))).trans ((kq (a := 0) (b := 41) eσ611 (fun q => absurd q.1 (by decide))).trans ((kq (a := 0) (b := 41) eσ606 (fun q => absurd q.1 (by decide))).trans ((kq (a := 0) (b := 41) eσ601 (fun q => absurd q.1 (by decide))).trans ((kq (a := 0) (b := 41) eσ596 (fun q => absurd q.1 (by decide))))))))))), (kq (a := 0) (b := 50) eσ666 (fun q => absurd q.2 (by decide))).trans ((kq (a := 0) (b := 50) eσ628 (fun q => absurd q.2 (by decide))).trans ((kq (a := 0) (b := 50) eσ626 (fun q => absurd q.1 (by decide))).trans ((kq (a := 0) (b := 50) eσ621 (fun q => absurd q.1 (by decide))).trans ((kq (a := 0) (b := 50) eσ616 (fun q => absurd q.1 (by decide))).trans ((kq (a := 0) (b := 50) eσ611 (fun q => absurd q.1 (by decide))).trans ((kq (a := 0) (b := 50) eσ606 (fun q => absurd q.1 (by decide))).trans ((kq (a := 0) (b := 50) eσ601 (fun q => absurd q.1 (by decide))).trans ((kq (a := 0) (b := 50) eσ596 (fun q => absurd q.1 (by decide))))))))))), (kq (a := 0) (b := 51) eσ666 (fun q => absurd q.2 (by decide))).trans ((kq (a := 0) (b := 51) eσ628 (fun q => absurd q.2 (by decide))).trans ((kq (a := 0) (b := 51) eσ626 (fun q => absurd q.1 (by decide))).trans ((kq (a := 0) (b := 51) eσ621 (fun q => absurd q.1 (by decide))).trans ((kq (a := 0) (b := 51) eσ616 (fun q => absurd q.1 (by decide))).trans ((kq (a := 0) (b := 51) eσ611 (fun q => absurd q.1 (by decide))).trans ((kq (a := 0) (b := 51) eσ606 (fun q => absurd q.1 (by decide))).trans ((kq (a := 0) (b := 51) eσ601 (fun q => absurd q.1 (by decide))).trans ((kq (a := 0) (b := 51) eσ596 (fun q => absurd q.1 (by decide))))))))))), (by omega)⟩)
      · have f701 := K2.g_0_14 hσ628
        have q702 : σ628.1 0 14 = v627 := by rw [eσ628, u1_at]; exact if_pos rfl
        first | have f704 : (σ628.1 0 14).toInt = v627.toInt := (congrArg Int32.toInt q702).trans (rfl : v627.toInt = v627.toInt) | skip
        have f705 := tB (σ628.1 0 32)
        have q706 : σ628.1 0 32 = σ626.1 0 32 := by rw [eσ628, u1_at]; exact if_neg (by decide)
        have f707 := congrArg Int32.toInt q706
        have f708 := tB (σ626.1 0 32)
        have q709 : σ626.1 0 32 = σ621.1 0 32 := by rw [eσ626]; exact congrFun (u1_ne (by decide)) 32
        have f710 := congrArg Int32.toInt q709
        have f711 := tB (σ621.1 0 32)
        have q712 : σ621.1 0 32 = σ616.1 0 32 := by rw [eσ621]; exact congrFun (u1_ne (by decide)) 32
        have f713 := congrArg Int32.toInt q712
        have f714 := tB (σ616.1 0 32)
        have q715 : σ616.1 0 32 = σ611.1 0 32 := by rw [eσ616]; exact congrFun (u1_ne (by decide)) 32
        have f716 := congrArg Int32.toInt q715
        have f717 := tB (σ611.1 0 32)
        have q718 : σ611.1 0 32 = σ606.1 0 32 := by rw [eσ611]; exact congrFun (u1_ne (by decide)) 32
        have f719 := congrArg Int32.toInt q718
        have f720 := tB (σ606.1 0 32)
        have q721 : σ606.1 0 32 = σ601.1 0 32 := by rw [eσ606]; exact congrFun (u1_ne (by decide)) 32
        have f722 := congrArg Int32.toInt q721
        have f723 := tB (σ601.1 0 32)
        have q724 : σ601.1 0 32 = σ596.1 0 32 := by rw [eσ601]; exact congrFun (u1_ne (by decide)) 32
        have f725 := congrArg Int32.toInt q724
        have f726 := tB (σ596.1 0 32)
        have q727 : σ596.1 0 32 = σ.1 0 32 := by rw [eσ596]; exact congrFun (u1_ne (by decide)) 32
        have f728 := congrArg Int32.toInt q727
        have f729 := tB (σ.1 0 32)
        first | have f730 := (notleE (rfl : (σ628.1 0 14).toInt = (σ628.1 0 14).toInt) (rfl : (σ628.1 0 32).toInt = (σ628.1 0 32).toInt)).mp c635 | skip
        try unfold fX12_lays_j134
        intro σ731 eσ731
        have hσ731 : K2 σ0 σ731 := by rw [eσ731]; exact hσ628.u (Rg2.u_0_32 _) (fun q => absurd q.2 (by decide)) (fun q => absurd q.2 (by decide))
        have f732 := tB (σ731.1 0 9)
        have q733 : σ731.1 0 9 = σ628.1 0 9 := by rw [eσ731, u1_at]; exact if_neg (by decide)
        have f734 := congrArg Int32.toInt q733
        have f735 := tB (σ628.1 0 9)
        have q736 : σ628.1 0 9 = σ626.1 0 9 := by rw [eσ628, u1_at]; exact if_neg (by decide)
        have f737 := congrArg Int32.toInt q736
        have f738 := tB (σ626.1 0 9)
        have q739 : σ626.1 0 9 = σ621.1 0 9 := by rw [eσ626]; exact congrFun (u1_ne (by decide)) 9
        have f740 := congrArg Int32.toInt q739
        have f741 := tB (σ621.1 0 9)
        have q742 : σ621.1 0 9 = σ616.1 0 9 := by rw [eσ621]; exact congrFun (u1_ne (by decide)) 9
        have f743 := congrArg Int32.toInt q742
        have f744 := tB (σ616.1 0 9)
        have q745 : σ616.1 0 9 = σ611.1 0 9 := by rw [eσ616]; exact congrFun (u1_ne (by decide)) 9
        have f746 := congrArg Int32.toInt q745
        have f747 := tB (σ611.1 0 9)
        have q748 : σ611.1 0 9 = σ606.1 0 9 := by rw [eσ611]; exact congrFun (u1_ne (by decide)) 9
        have f749 := congrArg Int32.toInt q748
        have f750 := tB (σ606.1 0 9)
        have q751 : σ606.1 0 9 = σ601.1 0 9 := by rw [eσ606]; exact congrFun (u1_ne (by decide)) 9
        have f752 := congrArg Int32.toInt q751
        have f753 := tB (σ601.1 0 9)
        have q754 : σ601.1 0 9 = σ596.1 0 9 := by rw [eσ601]; exact congrFun (u1_ne (by decide)) 9
        have f755 := congrArg Int32.toInt q754
        have f756 := tB (σ596.1 0 9)
        have q757 : σ596.1 0 9 = σ.1 0 9 := by rw [eσ596]; exact congrFun (u1_ne (by decide)) 9
        have f758 := congrArg Int32.toInt q757
        have f761 := K2.g_0_14 hσ731
        have q762 : σ731.1 0 14 = σ628.1 0 14 := by rw [eσ731, u1_at]; exact if_neg (by decide)
        have f763 := congrArg Int32.toInt q762
        exact hQ _ hσ731 (⟨(kq (a := 0) (b := 35) eσ731 (fun q => absurd q.2 (by decide))).trans ((kq (a := 0) (b := 35) eσ628 (fun q => absurd q.2 (by decide))).trans ((kq (a := 0) (b := 35) eσ626 (fun q => absurd q.1 (by decide))).trans ((kq (a := 0) (b := 35) eσ621 (fun q => absurd q.1 (by decide))).trans ((kq (a := 0) (b := 35) eσ616 (fun q => absurd q.1 (by decide))).trans ((kq (a := 0) (b := 35) eσ611 (fun q => absurd q.1 (by decide))).trans ((kq (a := 0) (b := 35) eσ606 (fun q => absurd q.1 (by decide))).trans ((kq (a := 0) (b := 35) eσ601 (fun q => absurd q.1 (by decide))).trans ((kq (a := 0) (b := 35) eσ596 (fun q => absurd q.1 (by decide))))))))))), (kq (a := 0) (b := 24) eσ731 (fun q => absurd q.2 (by decide))).trans ((kq (a := 0) (b := 24) eσ628 (fun q => absurd q.2 (by decide))).trans ((kq (a := 0) (b := 24) eσ626 (fun q => absurd q.1 (by decide))).trans ((kq (a := 0) (b := 24) eσ621 (fun q => absurd q.1 (by decide))).trans ((kq (a := 0) (b := 24) eσ616 (fun q => absurd q.1 (by decide))).trans ((kq (a := 0) (b := 24) eσ611 (fun q => absurd q.1 (by decide))).trans ((kq (a := 0) (b := 24) eσ606 (fun q => absurd q.1 (by decide))).trans ((kq (a := 0) (b := 24) eσ601 (fun q => absurd q.1 (by decide))).trans ((kq (a := 0) (b := 24) eσ596 (fun q => absurd q.1 (by decide))))))))))), (kq (a := 0) (b := 36) eσ731 (fun q => absurd q.2 (by decide))).trans ((kq (a := 0) (b := 36) eσ628 (fun q => absurd q.2 (by decide))).trans ((kq (a := 0) (b := 36) eσ626 (fun q => absurd q.1 (by decide))).trans ((kq (a := 0) (b := 36) eσ621 (fun q => absurd q.1 (by decide))).trans ((kq (a := 0) (b := 36) eσ616 (fun q => absurd q.1 (by decide))).trans ((kq (a := 0) (b := 36) eσ611 (fun q => absurd q.1 (by decide))).trans ((kq (a := 0) (b := 36) eσ606 (fun q => absurd q.1 (by decide))).trans ((kq (a := 0) (b := 36) eσ601 (fun q => absurd q.1 (by decide))).trans ((kq (a := 0) (b := 36) eσ596 (fun q => absurd q.1 (by decide))))))))))), (kq (a := 0) (b := 41) eσ731 (fun q => absurd q.2 (by decide))).trans ((kq (a := 0) (b := 41) eσ628 (fun q => absurd q.2 (by decide))).trans ((kq (a := 0) (b := 41) eσ626 (fun q => absurd q.1 (by decide))).trans ((kq (a := 0) (b := 41) eσ621 (fun q => absurd q.1 (by decide))).trans ((kq (a := 0) (b := 41) eσ616 (fun q => absurd q.1 (by decide))).trans ((kq (a := 0) (b := 41) eσ611 (fun q => absurd q.1 (by decide))).trans ((kq (a := 0) (b := 41) eσ606 (fun q => absurd q.1 (by decide))).trans ((kq (a := 0) (b := 41) eσ601 (fun q => absurd q.1 (by decide))).trans ((kq (a := 0) (b := 41) eσ596 (fun q => absurd q.1 (by decide))))))))))), (kq (a := 0) (b := 50) eσ731 (fun q => absurd q.2 (by decide))).trans ((kq (a := 0) (b := 50) eσ628 (fun q => absurd q.2 (by decide))).trans ((kq (a := 0) (b := 50) eσ626 (fun q => absurd q.1 (by decide))).trans ((kq (a := 0) (b := 50) eσ621 (fun q => absurd q.1 (by decide))).trans ((kq (a := 0) (b := 50) eσ616 (fun q => absurd q.1 (by decide))).trans ((kq (a := 0) (b := 50) eσ611 (fun q => absurd q.1 (by decide))).trans ((kq (a := 0) (b := 50) eσ606 (fun q => absurd q.1 (by decide))).trans ((kq (a := 0) (b := 50) eσ601 (fun q => absurd q.1 (by decide))).trans ((kq (a := 0) (b := 50) eσ596 (fun q => absurd q.1 (by decide))))))))))), (kq (a := 0) (b := 51) eσ731 (fun q => absurd q.2 (by decide))).trans ((kq (a := 0) (b := 51) eσ628 (fun q => absurd q.2 (by decide))).trans ((kq (a := 0) (b := 51) eσ626 (fun q => absurd q.1 (by decide))).trans ((kq (a := 0) (b := 51) eσ621 (fun q => absurd q.1 (by decide))).trans ((kq (a := 0) (b := 51) eσ616 (fun q => absurd q.1 (by decide))).trans ((kq (a := 0) (b := 51) eσ611 (fun q => absurd q.1 (by decide))).trans ((kq (a := 0) (b := 51) eσ606 (fun q => absurd q.1 (by decide))).trans ((kq (a := 0) (b := 51) eσ601 (fun q => absurd q.1 (by decide))).trans ((kq (a := 0) (b := 51) eσ596 (fun q => absurd q.1 (by decide))))))))))), (by omega)⟩)
    · first | have f767 := (noteqE (rfl : (σ.1 0 9).toInt = (σ.1 0 9).toInt) (show (0 : Int32).toInt = 0 from by decide)).mp c592 | skip
      have f770 := K2.g_0_14 hσ
      exact hQ _ hσ (⟨rfl, rfl, rfl, rfl, rfl, rfl, (by omega)⟩)
set_option maxHeartbeats 4000000 in
theorem sX12_prints {N : Nat} (hN : 4294967400 ≤ N) {x1 : Int32} {Q : St → Prop} {σ0 σ : St} (hσ : K2 σ0 σ) (hQ : ∀ τ : St, K2 σ0 τ → (τ.1 0 35 = σ.1 0 35 ∧ τ.1 0 24 = σ.1 0 24 ∧ τ.1 0 36 = σ.1 0 36 ∧ τ.1 0 41 = σ.1 0 41 ∧ τ.1 0 50 = σ.1 0 50 ∧ τ.1 0 51 = σ.1 0 51) → Q τ) : fX12_prints N x1 Q σ := by
  unfold fX12_prints
  have f1 := tB x1
  refine sX12_read hN hσ (fun r11 σ2 hσ2 kk10 p12 => ?_)
  obtain ⟨k3, k4, k5, k6, k7, k8, k9⟩ := kk10
  refine ⟨fun c13 => ?_, fun c13 => ?_⟩
  · have f14 := tB (σ2.1 0 9)
    first | have f15 := (eqE (rfl : (σ2.1 0 9).toInt = (σ2.1 0 9).toInt) (show (0 : Int32).toInt = 0 from by decide)).mp c13 | skip
    try unfold fX12_isString
    refine ⟨fun c16 => ?_, fun c16 => ?_⟩
    · have f17 := tB r11
      first | have f18 := (ltE (rfl : r11.toInt = r11.toInt) (show (224 : Int32).toInt = 224 from by decide)).mp c16 | skip
      try dsimp only
      refine ⟨fun c19 => ?_, fun c19 => ?_⟩
      · first | have f20 := (eqE (show (0 : Int32).toInt = 0 from by decide) (show (0 : Int32).toInt = 0 from by decide)).mp c19 | skip
        try unfold fX12_fails
        refine ⟨fun c21 => ?_, fun c21 => ?_⟩
        · first | have f23 := (eqE (rfl : (σ2.1 0 9).toInt = (σ2.1 0 9).toInt) (show (0 : Int32).toInt = 0 from by decide)).mp c21 | skip
          try unfold fX12_fails_j16
          intro σ24 eσ24
          have hσ24 : K2 σ0 σ24 := by rw [eσ24]; exact hσ2.u (Rg2.u_0_9 _) (fun q => absurd q.2 (by decide)) (fun q => absurd q.2 (by decide))
          try dsimp only
          try unfold fX12_prints_j26
          refine ⟨fun c25 => ?_, fun c25 => ?_⟩
          · first | have f27 := (eqE (rfl : r11.toInt = r11.toInt) (show (224 : Int32).toInt = 224 from by decide)).mp c25 | skip
            try unfold fX12_prints_j50
            refine ⟨fun c28 => ?_, fun c28 => ?_⟩
            · first | have f30 := (eqE (rfl : r11.toInt = r11.toInt) (show (226 : Int32).toInt = 226 from by decide)).mp c28 | skip
              try unfold fX12_prints_j66
              refine sX12_lays hN hσ24 (fun σ32 hσ32 kk39 => ?_)
              have f41 := tB (σ24.1 0 9)
              have q42 : σ24.1 0 9 = 4 := by rw [eσ24, u1_at]; exact if_pos rfl
              first | have f43 : (σ24.1 0 9).toInt = (4) := (congrArg Int32.toInt q42).trans (show (4 : Int32).toInt = 4 from by decide) | skip
              have f44 := K2.g_0_14 hσ24
              have q45 : σ24.1 0 14 = σ2.1 0 14 := by rw [eσ24, u1_at]; exact if_neg (by decide)
              have f46 := congrArg Int32.toInt q45
              have f47 := K2.g_0_14 hσ2
              have f48 := congrArg Int32.toInt k3
              have f49 := K2.g_0_14 hσ
              obtain ⟨k33, k34, k35, k36, k37, k38, sp40⟩ := kk39
              exact hQ _ hσ32 (⟨k33.trans ((kq (a := 0) (b := 35) eσ24 (fun q => absurd q.2 (by decide))).trans (k4)), k34.trans ((kq (a := 0) (b := 24) eσ24 (fun q => absurd q.2 (by decide))).trans (k5)), k35.trans ((kq (a := 0) (b := 36) eσ24 (fun q => absurd q.2 (by decide))).trans (k6)), k36.trans ((kq (a := 0) (b := 41) eσ24 (fun q => absurd q.2 (by decide))).trans (k7)), k37.trans ((kq (a := 0) (b := 50) eσ24 (fun q => absurd q.2 (by decide))).trans (k8)), k38.trans ((kq (a := 0) (b := 51) eσ24 (fun q => absurd q.2 (by decide))).trans (k9))⟩)
            · first | have f51 := (noteqE (rfl : r11.toInt = r11.toInt) (show (226 : Int32).toInt = 226 from by decide)).mp c28 | skip
              try unfold fX12_prints_j66
              refine sX12_lays hN hσ24 (fun σ53 hσ53 kk60 => ?_)
              have f62 := tB (σ24.1 0 9)
              have q63 : σ24.1 0 9 = 4 := by rw [eσ24, u1_at]; exact if_pos rfl
              first | have f64 : (σ24.1 0 9).toInt = (4) := (congrArg Int32.toInt q63).trans (show (4 : Int32).toInt = 4 from by decide) | skip
              have f65 := K2.g_0_14 hσ24
              have q66 : σ24.1 0 14 = σ2.1 0 14 := by rw [eσ24, u1_at]; exact if_neg (by decide)
              have f67 := congrArg Int32.toInt q66
              have f68 := K2.g_0_14 hσ2
              have f69 := congrArg Int32.toInt k3
              have f70 := K2.g_0_14 hσ
              obtain ⟨k54, k55, k56, k57, k58, k59, sp61⟩ := kk60
              exact hQ _ hσ53 (⟨k54.trans ((kq (a := 0) (b := 35) eσ24 (fun q => absurd q.2 (by decide))).trans (k4)), k55.trans ((kq (a := 0) (b := 24) eσ24 (fun q => absurd q.2 (by decide))).trans (k5)), k56.trans ((kq (a := 0) (b := 36) eσ24 (fun q => absurd q.2 (by decide))).trans (k6)), k57.trans ((kq (a := 0) (b := 41) eσ24 (fun q => absurd q.2 (by decide))).trans (k7)), k58.trans ((kq (a := 0) (b := 50) eσ24 (fun q => absurd q.2 (by decide))).trans (k8)), k59.trans ((kq (a := 0) (b := 51) eσ24 (fun q => absurd q.2 (by decide))).trans (k9))⟩)
          · first | have f72 := (noteqE (rfl : r11.toInt = r11.toInt) (show (224 : Int32).toInt = 224 from by decide)).mp c25 | skip
            refine ⟨fun c73 => ?_, fun c73 => ?_⟩
            · first | have f75 := (eqE (rfl : r11.toInt = r11.toInt) (show (226 : Int32).toInt = 226 from by decide)).mp c73 | skip
              try unfold fX12_prints_j50
              refine ⟨fun c76 => ?_, fun c76 => ?_⟩
              · first | have f78 := (eqE (rfl : r11.toInt = r11.toInt) (show (226 : Int32).toInt = 226 from by decide)).mp c76 | skip
                try unfold fX12_prints_j66
                refine sX12_lays hN hσ24 (fun σ80 hσ80 kk87 => ?_)
                have f89 := tB (σ24.1 0 9)
                have q90 : σ24.1 0 9 = 4 := by rw [eσ24, u1_at]; exact if_pos rfl
                first | have f91 : (σ24.1 0 9).toInt = (4) := (congrArg Int32.toInt q90).trans (show (4 : Int32).toInt = 4 from by decide) | skip
                have f92 := K2.g_0_14 hσ24
                have q93 : σ24.1 0 14 = σ2.1 0 14 := by rw [eσ24, u1_at]; exact if_neg (by decide)
                have f94 := congrArg Int32.toInt q93
                have f95 := K2.g_0_14 hσ2
                have f96 := congrArg Int32.toInt k3
                have f97 := K2.g_0_14 hσ
                obtain ⟨k81, k82, k83, k84, k85, k86, sp88⟩ := kk87
                exact hQ _ hσ80 (⟨k81.trans ((kq (a := 0) (b := 35) eσ24 (fun q => absurd q.2 (by decide))).trans (k4)), k82.trans ((kq (a := 0) (b := 24) eσ24 (fun q => absurd q.2 (by decide))).trans (k5)), k83.trans ((kq (a := 0) (b := 36) eσ24 (fun q => absurd q.2 (by decide))).trans (k6)), k84.trans ((kq (a := 0) (b := 41) eσ24 (fun q => absurd q.2 (by decide))).trans (k7)), k85.trans ((kq (a := 0) (b := 50) eσ24 (fun q => absurd q.2 (by decide))).trans (k8)), k86.trans ((kq (a := 0) (b := 51) eσ24 (fun q => absurd q.2 (by decide))).trans (k9))⟩)
              · first | have f99 := (noteqE (rfl : r11.toInt = r11.toInt) (show (226 : Int32).toInt = 226 from by decide)).mp c76 | skip
                try unfold fX12_prints_j66
                refine sX12_lays hN hσ24 (fun σ101 hσ101 kk108 => ?_)
                have f110 := tB (σ24.1 0 9)
                have q111 : σ24.1 0 9 = 4 := by rw [eσ24, u1_at]; exact if_pos rfl
                first | have f112 : (σ24.1 0 9).toInt = (4) := (congrArg Int32.toInt q111).trans (show (4 : Int32).toInt = 4 from by decide) | skip
                have f113 := K2.g_0_14 hσ24
                have q114 : σ24.1 0 14 = σ2.1 0 14 := by rw [eσ24, u1_at]; exact if_neg (by decide)
                have f115 := congrArg Int32.toInt q114
                have f116 := K2.g_0_14 hσ2
                have f117 := congrArg Int32.toInt k3
                have f118 := K2.g_0_14 hσ
                obtain ⟨k102, k103, k104, k105, k106, k107, sp109⟩ := kk108
                exact hQ _ hσ101 (⟨k102.trans ((kq (a := 0) (b := 35) eσ24 (fun q => absurd q.2 (by decide))).trans (k4)), k103.trans ((kq (a := 0) (b := 24) eσ24 (fun q => absurd q.2 (by decide))).trans (k5)), k104.trans ((kq (a := 0) (b := 36) eσ24 (fun q => absurd q.2 (by decide))).trans (k6)), k105.trans ((kq (a := 0) (b := 41) eσ24 (fun q => absurd q.2 (by decide))).trans (k7)), k106.trans ((kq (a := 0) (b := 50) eσ24 (fun q => absurd q.2 (by decide))).trans (k8)), k107.trans ((kq (a := 0) (b := 51) eσ24 (fun q => absurd q.2 (by decide))).trans (k9))⟩)
            · first | have f120 := (noteqE (rfl : r11.toInt = r11.toInt) (show (226 : Int32).toInt = 226 from by decide)).mp c73 | skip
              try unfold fX12_prints_j50
              refine ⟨fun c121 => ?_, fun c121 => ?_⟩
              · first | have f123 := (eqE (rfl : r11.toInt = r11.toInt) (show (226 : Int32).toInt = 226 from by decide)).mp c121 | skip
                try unfold fX12_prints_j66
                refine sX12_lays hN hσ24 (fun σ125 hσ125 kk132 => ?_)
                have f134 := tB (σ24.1 0 9)
                have q135 : σ24.1 0 9 = 4 := by rw [eσ24, u1_at]; exact if_pos rfl
                first | have f136 : (σ24.1 0 9).toInt = (4) := (congrArg Int32.toInt q135).trans (show (4 : Int32).toInt = 4 from by decide) | skip
                have f137 := K2.g_0_14 hσ24
                have q138 : σ24.1 0 14 = σ2.1 0 14 := by rw [eσ24, u1_at]; exact if_neg (by decide)
                have f139 := congrArg Int32.toInt q138
                have f140 := K2.g_0_14 hσ2
                have f141 := congrArg Int32.toInt k3
                have f142 := K2.g_0_14 hσ
                obtain ⟨k126, k127, k128, k129, k130, k131, sp133⟩ := kk132
                exact hQ _ hσ125 (⟨k126.trans ((kq (a := 0) (b := 35) eσ24 (fun q => absurd q.2 (by decide))).trans (k4)), k127.trans ((kq (a := 0) (b := 24) eσ24 (fun q => absurd q.2 (by decide))).trans (k5)), k128.trans ((kq (a := 0) (b := 36) eσ24 (fun q => absurd q.2 (by decide))).trans (k6)), k129.trans ((kq (a := 0) (b := 41) eσ24 (fun q => absurd q.2 (by decide))).trans (k7)), k130.trans ((kq (a := 0) (b := 50) eσ24 (fun q => absurd q.2 (by decide))).trans (k8)), k131.trans ((kq (a := 0) (b := 51) eσ24 (fun q => absurd q.2 (by decide))).trans (k9))⟩)
              · first | have f144 := (noteqE (rfl : r11.toInt = r11.toInt) (show (226 : Int32).toInt = 226 from by decide)).mp c121 | skip
                try unfold fX12_prints_j66
                refine sX12_lays hN hσ24 (fun σ146 hσ146 kk153 => ?_)
                have f155 := tB (σ24.1 0 9)
                have q156 : σ24.1 0 9 = 4 := by rw [eσ24, u1_at]; exact if_pos rfl
                first | have f157 : (σ24.1 0 9).toInt = (4) := (congrArg Int32.toInt q156).trans (show (4 : Int32).toInt = 4 from by decide) | skip
                have f158 := K2.g_0_14 hσ24
                have q159 : σ24.1 0 14 = σ2.1 0 14 := by rw [eσ24, u1_at]; exact if_neg (by decide)
                have f160 := congrArg Int32.toInt q159
                have f161 := K2.g_0_14 hσ2
                have f162 := congrArg Int32.toInt k3
                have f163 := K2.g_0_14 hσ
                obtain ⟨k147, k148, k149, k150, k151, k152, sp154⟩ := kk153
                exact hQ _ hσ146 (⟨k147.trans ((kq (a := 0) (b := 35) eσ24 (fun q => absurd q.2 (by decide))).trans (k4)), k148.trans ((kq (a := 0) (b := 24) eσ24 (fun q => absurd q.2 (by decide))).trans (k5)), k149.trans ((kq (a := 0) (b := 36) eσ24 (fun q => absurd q.2 (by decide))).trans (k6)), k150.trans ((kq (a := 0) (b := 41) eσ24 (fun q => absurd q.2 (by decide))).trans (k7)), k151.trans ((kq (a := 0) (b := 50) eσ24 (fun q => absurd q.2 (by decide))).trans (k8)), k152.trans ((kq (a := 0) (b := 51) eσ24 (fun q => absurd q.2 (by decide))).trans (k9))⟩)
        · first | have f165 := (noteqE (rfl : (σ2.1 0 9).toInt = (σ2.1 0 9).toInt) (show (0 : Int32).toInt = 0 from by decide)).mp c21 | skip
          try unfold fX12_fails_j16
          intro σ166 eσ166
          have hσ166 : K2 σ0 σ166 := by rw [eσ166]; exact hσ2.u (Rg2.u_0_9 _) (fun q => absurd q.2 (by decide)) (fun q => absurd q.2 (by decide))
          try dsimp only
          try unfold fX12_prints_j26
          refine ⟨fun c167 => ?_, fun c167 => ?_⟩
          · first | have f169 := (eqE (rfl : r11.toInt = r11.toInt) (show (224 : Int32).toInt = 224 from by decide)).mp c167 | skip
            try unfold fX12_prints_j50
            refine ⟨fun c170 => ?_, fun c170 => ?_⟩
            · first | have f172 := (eqE (rfl : r11.toInt = r11.toInt) (show (226 : Int32).toInt = 226 from by decide)).mp c170 | skip
              try unfold fX12_prints_j66
              refine sX12_lays hN hσ166 (fun σ174 hσ174 kk181 => ?_)
              have f183 := tB (σ166.1 0 9)
              have q184 : σ166.1 0 9 = (σ2.1 0 9) := by rw [eσ166, u1_at]; exact if_pos rfl
              first | have f186 : (σ166.1 0 9).toInt = (σ2.1 0 9).toInt := (congrArg Int32.toInt q184).trans (rfl : (σ2.1 0 9).toInt = (σ2.1 0 9).toInt) | skip
              have f187 := K2.g_0_14 hσ166
              have q188 : σ166.1 0 14 = σ2.1 0 14 := by rw [eσ166, u1_at]; exact if_neg (by decide)
              have f189 := congrArg Int32.toInt q188
              have f190 := K2.g_0_14 hσ2
              have f191 := congrArg Int32.toInt k3
              have f192 := K2.g_0_14 hσ
              obtain ⟨k175, k176, k177, k178, k179, k180, sp182⟩ := kk181
              exact hQ _ hσ174 (⟨k175.trans ((kq (a := 0) (b := 35) eσ166 (fun q => absurd q.2 (by decide))).trans (k4)), k176.trans ((kq (a := 0) (b := 24) eσ166 (fun q => absurd q.2 (by decide))).trans (k5)), k177.trans ((kq (a := 0) (b := 36) eσ166 (fun q => absurd q.2 (by decide))).trans (k6)), k178.trans ((kq (a := 0) (b := 41) eσ166 (fun q => absurd q.2 (by decide))).trans (k7)), k179.trans ((kq (a := 0) (b := 50) eσ166 (fun q => absurd q.2 (by decide))).trans (k8)), k180.trans ((kq (a := 0) (b := 51) eσ166 (fun q => absurd q.2 (by decide))).trans (k9))⟩)
            · first | have f194 := (noteqE (rfl : r11.toInt = r11.toInt) (show (226 : Int32).toInt = 226 from by decide)).mp c170 | skip
              try unfold fX12_prints_j66
              refine sX12_lays hN hσ166 (fun σ196 hσ196 kk203 => ?_)
              have f205 := tB (σ166.1 0 9)
              have q206 : σ166.1 0 9 = (σ2.1 0 9) := by rw [eσ166, u1_at]; exact if_pos rfl
              first | have f208 : (σ166.1 0 9).toInt = (σ2.1 0 9).toInt := (congrArg Int32.toInt q206).trans (rfl : (σ2.1 0 9).toInt = (σ2.1 0 9).toInt) | skip
              have f209 := K2.g_0_14 hσ166
              have q210 : σ166.1 0 14 = σ2.1 0 14 := by rw [eσ166, u1_at]; exact if_neg (by decide)
              have f211 := congrArg Int32.toInt q210
              have f212 := K2.g_0_14 hσ2
              have f213 := congrArg Int32.toInt k3
              have f214 := K2.g_0_14 hσ
              obtain ⟨k197, k198, k199, k200, k201, k202, sp204⟩ := kk203
              exact hQ _ hσ196 (⟨k197.trans ((kq (a := 0) (b := 35) eσ166 (fun q => absurd q.2 (by decide))).trans (k4)), k198.trans ((kq (a := 0) (b := 24) eσ166 (fun q => absurd q.2 (by decide))).trans (k5)), k199.trans ((kq (a := 0) (b := 36) eσ166 (fun q => absurd q.2 (by decide))).trans (k6)), k200.trans ((kq (a := 0) (b := 41) eσ166 (fun q => absurd q.2 (by decide))).trans (k7)), k201.trans ((kq (a := 0) (b := 50) eσ166 (fun q => absurd q.2 (by decide))).trans (k8)), k202.trans ((kq (a := 0) (b := 51) eσ166 (fun q => absurd q.2 (by decide))).trans (k9))⟩)
          · first | have f216 := (noteqE (rfl : r11.toInt = r11.toInt) (show (224 : Int32).toInt = 224 from by decide)).mp c167 | skip
            refine ⟨fun c217 => ?_, fun c217 => ?_⟩
            · first | have f219 := (eqE (rfl : r11.toInt = r11.toInt) (show (226 : Int32).toInt = 226 from by decide)).mp c217 | skip
              try unfold fX12_prints_j50
              refine ⟨fun c220 => ?_, fun c220 => ?_⟩
              · first | have f222 := (eqE (rfl : r11.toInt = r11.toInt) (show (226 : Int32).toInt = 226 from by decide)).mp c220 | skip
                try unfold fX12_prints_j66
                refine sX12_lays hN hσ166 (fun σ224 hσ224 kk231 => ?_)
                have f233 := tB (σ166.1 0 9)
                have q234 : σ166.1 0 9 = (σ2.1 0 9) := by rw [eσ166, u1_at]; exact if_pos rfl
                first | have f236 : (σ166.1 0 9).toInt = (σ2.1 0 9).toInt := (congrArg Int32.toInt q234).trans (rfl : (σ2.1 0 9).toInt = (σ2.1 0 9).toInt) | skip
                have f237 := K2.g_0_14 hσ166
                have q238 : σ166.1 0 14 = σ2.1 0 14 := by rw [eσ166, u1_at]; exact if_neg (by decide)
                have f239 := congrArg Int32.toInt q238
                have f240 := K2.g_0_14 hσ2
                have f241 := congrArg Int32.toInt k3
                have f242 := K2.g_0_14 hσ
                obtain ⟨k225, k226, k227, k228, k229, k230, sp232⟩ := kk231
                exact hQ _ hσ224 (⟨k225.trans ((kq (a := 0) (b := 35) eσ166 (fun q => absurd q.2 (by decide))).trans (k4)), k226.trans ((kq (a := 0) (b := 24) eσ166 (fun q => absurd q.2 (by decide))).trans (k5)), k227.trans ((kq (a := 0) (b := 36) eσ166 (fun q => absurd q.2 (by decide))).trans (k6)), k228.trans ((kq (a := 0) (b := 41) eσ166 (fun q => absurd q.2 (by decide))).trans (k7)), k229.trans ((kq (a := 0) (b := 50) eσ166 (fun q => absurd q.2 (by decide))).trans (k8)), k230.trans ((kq (a := 0) (b := 51) eσ166 (fun q => absurd q.2 (by decide))).trans (k9))⟩)
              · first | have f244 := (noteqE (rfl : r11.toInt = r11.toInt) (show (226 : Int32).toInt = 226 from by decide)).mp c220 | skip
                try unfold fX12_prints_j66
                refine sX12_lays hN hσ166 (fun σ246 hσ246 kk253 => ?_)
                have f255 := tB (σ166.1 0 9)
                have q256 : σ166.1 0 9 = (σ2.1 0 9) := by rw [eσ166, u1_at]; exact if_pos rfl
                first | have f258 : (σ166.1 0 9).toInt = (σ2.1 0 9).toInt := (congrArg Int32.toInt q256).trans (rfl : (σ2.1 0 9).toInt = (σ2.1 0 9).toInt) | skip
                have f259 := K2.g_0_14 hσ166
                have q260 : σ166.1 0 14 = σ2.1 0 14 := by rw [eσ166, u1_at]; exact if_neg (by decide)
                have f261 := congrArg Int32.toInt q260
                have f262 := K2.g_0_14 hσ2
                have f263 := congrArg Int32.toInt k3
                have f264 := K2.g_0_14 hσ
                obtain ⟨k247, k248, k249, k250, k251, k252, sp254⟩ := kk253
                exact hQ _ hσ246 (⟨k247.trans ((kq (a := 0) (b := 35) eσ166 (fun q => absurd q.2 (by decide))).trans (k4)), k248.trans ((kq (a := 0) (b := 24) eσ166 (fun q => absurd q.2 (by decide))).trans (k5)), k249.trans ((kq (a := 0) (b := 36) eσ166 (fun q => absurd q.2 (by decide))).trans (k6)), k250.trans ((kq (a := 0) (b := 41) eσ166 (fun q => absurd q.2 (by decide))).trans (k7)), k251.trans ((kq (a := 0) (b := 50) eσ166 (fun q => absurd q.2 (by decide))).trans (k8)), k252.trans ((kq (a := 0) (b := 51) eσ166 (fun q => absurd q.2 (by decide))).trans (k9))⟩)
            · first | have f266 := (noteqE (rfl : r11.toInt = r11.toInt) (show (226 : Int32).toInt = 226 from by decide)).mp c217 | skip
              try unfold fX12_prints_j50
              refine ⟨fun c267 => ?_, fun c267 => ?_⟩
              · first | have f269 := (eqE (rfl : r11.toInt = r11.toInt) (show (226 : Int32).toInt = 226 from by decide)).mp c267 | skip
                try unfold fX12_prints_j66
                refine sX12_lays hN hσ166 (fun σ271 hσ271 kk278 => ?_)
                have f280 := tB (σ166.1 0 9)
                have q281 : σ166.1 0 9 = (σ2.1 0 9) := by rw [eσ166, u1_at]; exact if_pos rfl
                first | have f283 : (σ166.1 0 9).toInt = (σ2.1 0 9).toInt := (congrArg Int32.toInt q281).trans (rfl : (σ2.1 0 9).toInt = (σ2.1 0 9).toInt) | skip
                have f284 := K2.g_0_14 hσ166
                have q285 : σ166.1 0 14 = σ2.1 0 14 := by rw [eσ166, u1_at]; exact if_neg (by decide)
                have f286 := congrArg Int32.toInt q285
                have f287 := K2.g_0_14 hσ2
                have f288 := congrArg Int32.toInt k3
                have f289 := K2.g_0_14 hσ
                obtain ⟨k272, k273, k274, k275, k276, k277, sp279⟩ := kk278
                exact hQ _ hσ271 (⟨k272.trans ((kq (a := 0) (b := 35) eσ166 (fun q => absurd q.2 (by decide))).trans (k4)), k273.trans ((kq (a := 0) (b := 24) eσ166 (fun q => absurd q.2 (by decide))).trans (k5)), k274.trans ((kq (a := 0) (b := 36) eσ166 (fun q => absurd q.2 (by decide))).trans (k6)), k275.trans ((kq (a := 0) (b := 41) eσ166 (fun q => absurd q.2 (by decide))).trans (k7)), k276.trans ((kq (a := 0) (b := 50) eσ166 (fun q => absurd q.2 (by decide))).trans (k8)), k277.trans ((kq (a := 0) (b := 51) eσ166 (fun q => absurd q.2 (by decide))).trans (k9))⟩)
              · first | have f291 := (noteqE (rfl : r11.toInt = r11.toInt) (show (226 : Int32).toInt = 226 from by decide)).mp c267 | skip
                try unfold fX12_prints_j66
                refine sX12_lays hN hσ166 (fun σ293 hσ293 kk300 => ?_)
                have f302 := tB (σ166.1 0 9)
                have q303 : σ166.1 0 9 = (σ2.1 0 9) := by rw [eσ166, u1_at]; exact if_pos rfl
                first | have f305 : (σ166.1 0 9).toInt = (σ2.1 0 9).toInt := (congrArg Int32.toInt q303).trans (rfl : (σ2.1 0 9).toInt = (σ2.1 0 9).toInt) | skip
                have f306 := K2.g_0_14 hσ166
                have q307 : σ166.1 0 14 = σ2.1 0 14 := by rw [eσ166, u1_at]; exact if_neg (by decide)
                have f308 := congrArg Int32.toInt q307
                have f309 := K2.g_0_14 hσ2
                have f310 := congrArg Int32.toInt k3
                have f311 := K2.g_0_14 hσ
                obtain ⟨k294, k295, k296, k297, k298, k299, sp301⟩ := kk300
                exact hQ _ hσ293 (⟨k294.trans ((kq (a := 0) (b := 35) eσ166 (fun q => absurd q.2 (by decide))).trans (k4)), k295.trans ((kq (a := 0) (b := 24) eσ166 (fun q => absurd q.2 (by decide))).trans (k5)), k296.trans ((kq (a := 0) (b := 36) eσ166 (fun q => absurd q.2 (by decide))).trans (k6)), k297.trans ((kq (a := 0) (b := 41) eσ166 (fun q => absurd q.2 (by decide))).trans (k7)), k298.trans ((kq (a := 0) (b := 50) eσ166 (fun q => absurd q.2 (by decide))).trans (k8)), k299.trans ((kq (a := 0) (b := 51) eσ166 (fun q => absurd q.2 (by decide))).trans (k9))⟩)
      · first | have f312 := (noteqE (show (0 : Int32).toInt = 0 from by decide) (show (0 : Int32).toInt = 0 from by decide)).mp c19 | skip
        try unfold fX12_prints_j26
        refine ⟨fun c313 => ?_, fun c313 => ?_⟩
        · first | have f315 := (eqE (rfl : r11.toInt = r11.toInt) (show (224 : Int32).toInt = 224 from by decide)).mp c313 | skip
          try unfold fX12_prints_j50
          refine ⟨fun c316 => ?_, fun c316 => ?_⟩
          · first | have f318 := (eqE (rfl : r11.toInt = r11.toInt) (show (226 : Int32).toInt = 226 from by decide)).mp c316 | skip
            try unfold fX12_prints_j66
            refine sX12_lays hN hσ2 (fun σ320 hσ320 kk327 => ?_)
            have f330 := K2.g_0_14 hσ2
            have f331 := congrArg Int32.toInt k3
            have f332 := K2.g_0_14 hσ
            obtain ⟨k321, k322, k323, k324, k325, k326, sp328⟩ := kk327
            exact hQ _ hσ320 (⟨k321.trans (k4), k322.trans (k5), k323.trans (k6), k324.trans (k7), k325.trans (k8), k326.trans (k9)⟩)
          · first | have f334 := (noteqE (rfl : r11.toInt = r11.toInt) (show (226 : Int32).toInt = 226 from by decide)).mp c316 | skip
            try unfold fX12_prints_j66
            refine sX12_lays hN hσ2 (fun σ336 hσ336 kk343 => ?_)
            have f346 := K2.g_0_14 hσ2
            have f347 := congrArg Int32.toInt k3
            have f348 := K2.g_0_14 hσ
            obtain ⟨k337, k338, k339, k340, k341, k342, sp344⟩ := kk343
            exact hQ _ hσ336 (⟨k337.trans (k4), k338.trans (k5), k339.trans (k6), k340.trans (k7), k341.trans (k8), k342.trans (k9)⟩)
        · first | have f350 := (noteqE (rfl : r11.toInt = r11.toInt) (show (224 : Int32).toInt = 224 from by decide)).mp c313 | skip
          refine ⟨fun c351 => ?_, fun c351 => ?_⟩
          · first | have f353 := (eqE (rfl : r11.toInt = r11.toInt) (show (226 : Int32).toInt = 226 from by decide)).mp c351 | skip
            try unfold fX12_prints_j50
            refine ⟨fun c354 => ?_, fun c354 => ?_⟩
            · first | have f356 := (eqE (rfl : r11.toInt = r11.toInt) (show (226 : Int32).toInt = 226 from by decide)).mp c354 | skip
              try unfold fX12_prints_j66
              refine sX12_lays hN hσ2 (fun σ358 hσ358 kk365 => ?_)
              have f368 := K2.g_0_14 hσ2
              have f369 := congrArg Int32.toInt k3
              have f370 := K2.g_0_14 hσ
              obtain ⟨k359, k360, k361, k362, k363, k364, sp366⟩ := kk365
              exact hQ _ hσ358 (⟨k359.trans (k4), k360.trans (k5), k361.trans (k6), k362.trans (k7), k363.trans (k8), k364.trans (k9)⟩)
            · first | have f372 := (noteqE (rfl : r11.toInt = r11.toInt) (show (226 : Int32).toInt = 226 from by decide)).mp c354 | skip
              try unfold fX12_prints_j66
              refine sX12_lays hN hσ2 (fun σ374 hσ374 kk381 => ?_)
              have f384 := K2.g_0_14 hσ2
              have f385 := congrArg Int32.toInt k3
              have f386 := K2.g_0_14 hσ
              obtain ⟨k375, k376, k377, k378, k379, k380, sp382⟩ := kk381
              exact hQ _ hσ374 (⟨k375.trans (k4), k376.trans (k5), k377.trans (k6), k378.trans (k7), k379.trans (k8), k380.trans (k9)⟩)
          · first | have f388 := (noteqE (rfl : r11.toInt = r11.toInt) (show (226 : Int32).toInt = 226 from by decide)).mp c351 | skip
            try unfold fX12_prints_j50
            refine ⟨fun c389 => ?_, fun c389 => ?_⟩
            · first | have f391 := (eqE (rfl : r11.toInt = r11.toInt) (show (226 : Int32).toInt = 226 from by decide)).mp c389 | skip
              try unfold fX12_prints_j66
              refine sX12_lays hN hσ2 (fun σ393 hσ393 kk400 => ?_)
              have f403 := K2.g_0_14 hσ2
              have f404 := congrArg Int32.toInt k3
              have f405 := K2.g_0_14 hσ
              obtain ⟨k394, k395, k396, k397, k398, k399, sp401⟩ := kk400
              exact hQ _ hσ393 (⟨k394.trans (k4), k395.trans (k5), k396.trans (k6), k397.trans (k7), k398.trans (k8), k399.trans (k9)⟩)
            · first | have f407 := (noteqE (rfl : r11.toInt = r11.toInt) (show (226 : Int32).toInt = 226 from by decide)).mp c389 | skip
              try unfold fX12_prints_j66
              refine sX12_lays hN hσ2 (fun σ409 hσ409 kk416 => ?_)
              have f419 := K2.g_0_14 hσ2
              have f420 := congrArg Int32.toInt k3
              have f421 := K2.g_0_14 hσ
              obtain ⟨k410, k411, k412, k413, k414, k415, sp417⟩ := kk416
              exact hQ _ hσ409 (⟨k410.trans (k4), k411.trans (k5), k412.trans (k6), k413.trans (k7), k414.trans (k8), k415.trans (k9)⟩)
    · have f422 := tB r11
      first | have f423 := (notltE (rfl : r11.toInt = r11.toInt) (show (224 : Int32).toInt = 224 from by decide)).mp c16 | skip
      refine ⟨fun c424 => ?_, fun c424 => ?_⟩
      · first | have f426 := (ltE (show (226 : Int32).toInt = 226 from by decide) (rfl : r11.toInt = r11.toInt)).mp c424 | skip
        try dsimp only
        refine ⟨fun c427 => ?_, fun c427 => ?_⟩
        · first | have f428 := (eqE (show (0 : Int32).toInt = 0 from by decide) (show (0 : Int32).toInt = 0 from by decide)).mp c427 | skip
          try unfold fX12_fails
          refine ⟨fun c429 => ?_, fun c429 => ?_⟩
          · first | have f431 := (eqE (rfl : (σ2.1 0 9).toInt = (σ2.1 0 9).toInt) (show (0 : Int32).toInt = 0 from by decide)).mp c429 | skip
            try unfold fX12_fails_j16
            intro σ432 eσ432
            have hσ432 : K2 σ0 σ432 := by rw [eσ432]; exact hσ2.u (Rg2.u_0_9 _) (fun q => absurd q.2 (by decide)) (fun q => absurd q.2 (by decide))
            try dsimp only
            try unfold fX12_prints_j26
            refine ⟨fun c433 => ?_, fun c433 => ?_⟩
            · first | have f435 := (eqE (rfl : r11.toInt = r11.toInt) (show (224 : Int32).toInt = 224 from by decide)).mp c433 | skip
              try unfold fX12_prints_j50
              refine ⟨fun c436 => ?_, fun c436 => ?_⟩
              · first | have f438 := (eqE (rfl : r11.toInt = r11.toInt) (show (226 : Int32).toInt = 226 from by decide)).mp c436 | skip
                try unfold fX12_prints_j66
                refine sX12_lays hN hσ432 (fun σ440 hσ440 kk447 => ?_)
                have f449 := tB (σ432.1 0 9)
                have q450 : σ432.1 0 9 = 4 := by rw [eσ432, u1_at]; exact if_pos rfl
                first | have f451 : (σ432.1 0 9).toInt = (4) := (congrArg Int32.toInt q450).trans (show (4 : Int32).toInt = 4 from by decide) | skip
                have f452 := K2.g_0_14 hσ432
                have q453 : σ432.1 0 14 = σ2.1 0 14 := by rw [eσ432, u1_at]; exact if_neg (by decide)
                have f454 := congrArg Int32.toInt q453
                have f455 := K2.g_0_14 hσ2
                have f456 := congrArg Int32.toInt k3
                have f457 := K2.g_0_14 hσ
                obtain ⟨k441, k442, k443, k444, k445, k446, sp448⟩ := kk447
                exact hQ _ hσ440 (⟨k441.trans ((kq (a := 0) (b := 35) eσ432 (fun q => absurd q.2 (by decide))).trans (k4)), k442.trans ((kq (a := 0) (b := 24) eσ432 (fun q => absurd q.2 (by decide))).trans (k5)), k443.trans ((kq (a := 0) (b := 36) eσ432 (fun q => absurd q.2 (by decide))).trans (k6)), k444.trans ((kq (a := 0) (b := 41) eσ432 (fun q => absurd q.2 (by decide))).trans (k7)), k445.trans ((kq (a := 0) (b := 50) eσ432 (fun q => absurd q.2 (by decide))).trans (k8)), k446.trans ((kq (a := 0) (b := 51) eσ432 (fun q => absurd q.2 (by decide))).trans (k9))⟩)
              · first | have f459 := (noteqE (rfl : r11.toInt = r11.toInt) (show (226 : Int32).toInt = 226 from by decide)).mp c436 | skip
                try unfold fX12_prints_j66
                refine sX12_lays hN hσ432 (fun σ461 hσ461 kk468 => ?_)
                have f470 := tB (σ432.1 0 9)
                have q471 : σ432.1 0 9 = 4 := by rw [eσ432, u1_at]; exact if_pos rfl
                first | have f472 : (σ432.1 0 9).toInt = (4) := (congrArg Int32.toInt q471).trans (show (4 : Int32).toInt = 4 from by decide) | skip
                have f473 := K2.g_0_14 hσ432
                have q474 : σ432.1 0 14 = σ2.1 0 14 := by rw [eσ432, u1_at]; exact if_neg (by decide)
                have f475 := congrArg Int32.toInt q474
                have f476 := K2.g_0_14 hσ2
                have f477 := congrArg Int32.toInt k3
                have f478 := K2.g_0_14 hσ
                obtain ⟨k462, k463, k464, k465, k466, k467, sp469⟩ := kk468
                exact hQ _ hσ461 (⟨k462.trans ((kq (a := 0) (b := 35) eσ432 (fun q => absurd q.2 (by decide))).trans (k4)), k463.trans ((kq (a := 0) (b := 24) eσ432 (fun q => absurd q.2 (by decide))).trans (k5)), k464.trans ((kq (a := 0) (b := 36) eσ432 (fun q => absurd q.2 (by decide))).trans (k6)), k465.trans ((kq (a := 0) (b := 41) eσ432 (fun q => absurd q.2 (by decide))).trans (k7)), k466.trans ((kq (a := 0) (b := 50) eσ432 (fun q => absurd q.2 (by decide))).trans (k8)), k467.trans ((kq (a := 0) (b := 51) eσ432 (fun q => absurd q.2 (by decide))).trans (k9))⟩)
            · first | have f480 := (noteqE (rfl : r11.toInt = r11.toInt) (show (224 : Int32).toInt = 224 from by decide)).mp c433 | skip
              refine ⟨fun c481 => ?_, fun c481 => ?_⟩
              · first | have f483 := (eqE (rfl : r11.toInt = r11.toInt) (show (226 : Int32).toInt = 226 from by decide)).mp c481 | skip
                try unfold fX12_prints_j50
                refine ⟨fun c484 => ?_, fun c484 => ?_⟩
                · first | have f486 := (eqE (rfl : r11.toInt = r11.toInt) (show (226 : Int32).toInt = 226 from by decide)).mp c484 | skip
                  try unfold fX12_prints_j66
                  refine sX12_lays hN hσ432 (fun σ488 hσ488 kk495 => ?_)
                  have f497 := tB (σ432.1 0 9)
                  have q498 : σ432.1 0 9 = 4 := by rw [eσ432, u1_at]; exact if_pos rfl
                  first | have f499 : (σ432.1 0 9).toInt = (4) := (congrArg Int32.toInt q498).trans (show (4 : Int32).toInt = 4 from by decide) | skip
                  have f500 := K2.g_0_14 hσ432
                  have q501 : σ432.1 0 14 = σ2.1 0 14 := by rw [eσ432, u1_at]; exact if_neg (by decide)
                  have f502 := congrArg Int32.toInt q501
                  have f503 := K2.g_0_14 hσ2
                  have f504 := congrArg Int32.toInt k3
                  have f505 := K2.g_0_14 hσ
                  obtain ⟨k489, k490, k491, k492, k493, k494, sp496⟩ := kk495
                  exact hQ _ hσ488 (⟨k489.trans ((kq (a := 0) (b := 35) eσ432 (fun q => absurd q.2 (by decide))).trans (k4)), k490.trans ((kq (a := 0) (b := 24) eσ432 (fun q => absurd q.2 (by decide))).trans (k5)), k491.trans ((kq (a := 0) (b := 36) eσ432 (fun q => absurd q.2 (by decide))).trans (k6)), k492.trans ((kq (a := 0) (b := 41) eσ432 (fun q => absurd q.2 (by decide))).trans (k7)), k493.trans ((kq (a := 0) (b := 50) eσ432 (fun q => absurd q.2 (by decide))).trans (k8)), k494.trans ((kq (a := 0) (b := 51) eσ432 (fun q => absurd q.2 (by decide))).trans (k9))⟩)
                · first | have f507 := (noteqE (rfl : r11.toInt = r11.toInt) (show (226 : Int32).toInt = 226 from by decide)).mp c484 | skip
                  try unfold fX12_prints_j66
                  refine sX12_lays hN hσ432 (fun σ509 hσ509 kk516 => ?_)
                  have f518 := tB (σ432.1 0 9)
                  have q519 : σ432.1 0 9 = 4 := by rw [eσ432, u1_at]; exact if_pos rfl
                  first | have f520 : (σ432.1 0 9).toInt = (4) := (congrArg Int32.toInt q519).trans (show (4 : Int32).toInt = 4 from by decide) | skip
                  have f521 := K2.g_0_14 hσ432
                  have q522 : σ432.1 0 14 = σ2.1 0 14 := by rw [eσ432, u1_at]; exact if_neg (by decide)
                  have f523 := congrArg Int32.toInt q522
                  have f524 := K2.g_0_14 hσ2
                  have f525 := congrArg Int32.toInt k3
                  have f526 := K2.g_0_14 hσ
                  obtain ⟨k510, k511, k512, k513, k514, k515, sp517⟩ := kk516
                  exact hQ _ hσ509 (⟨k510.trans ((kq (a := 0) (b := 35) eσ432 (fun q => absurd q.2 (by decide))).trans (k4)), k511.trans ((kq (a := 0) (b := 24) eσ432 (fun q => absurd q.2 (by decide))).trans (k5)), k512.trans ((kq (a := 0) (b := 36) eσ432 (fun q => absurd q.2 (by decide))).trans (k6)), k513.trans ((kq (a := 0) (b := 41) eσ432 (fun q => absurd q.2 (by decide))).trans (k7)), k514.trans ((kq (a := 0) (b := 50) eσ432 (fun q => absurd q.2 (by decide))).trans (k8)), k515.trans ((kq (a := 0) (b := 51) eσ432 (fun q => absurd q.2 (by decide))).trans (k9))⟩)
              · first | have f528 := (noteqE (rfl : r11.toInt = r11.toInt) (show (226 : Int32).toInt = 226 from by decide)).mp c481 | skip
                try unfold fX12_prints_j50
                refine ⟨fun c529 => ?_, fun c529 => ?_⟩
                · first | have f531 := (eqE (rfl : r11.toInt = r11.toInt) (show (226 : Int32).toInt = 226 from by decide)).mp c529 | skip
                  try unfold fX12_prints_j66
                  refine sX12_lays hN hσ432 (fun σ533 hσ533 kk540 => ?_)
                  have f542 := tB (σ432.1 0 9)
                  have q543 : σ432.1 0 9 = 4 := by rw [eσ432, u1_at]; exact if_pos rfl
                  first | have f544 : (σ432.1 0 9).toInt = (4) := (congrArg Int32.toInt q543).trans (show (4 : Int32).toInt = 4 from by decide) | skip
                  have f545 := K2.g_0_14 hσ432
                  have q546 : σ432.1 0 14 = σ2.1 0 14 := by rw [eσ432, u1_at]; exact if_neg (by decide)
                  have f547 := congrArg Int32.toInt q546
                  have f548 := K2.g_0_14 hσ2
                  have f549 := congrArg Int32.toInt k3
                  have f550 := K2.g_0_14 hσ
                  obtain ⟨k534, k535, k536, k537, k538, k539, sp541⟩ := kk540
                  exact hQ _ hσ533 (⟨k534.trans ((kq (a := 0) (b := 35) eσ432 (fun q => absurd q.2 (by decide))).trans (k4)), k535.trans ((kq (a := 0) (b := 24) eσ432 (fun q => absurd q.2 (by decide))).trans (k5)), k536.trans ((kq (a := 0) (b := 36) eσ432 (fun q => absurd q.2 (by decide))).trans (k6)), k537.trans ((kq (a := 0) (b := 41) eσ432 (fun q => absurd q.2 (by decide))).trans (k7)), k538.trans ((kq (a := 0) (b := 50) eσ432 (fun q => absurd q.2 (by decide))).trans (k8)), k539.trans ((kq (a := 0) (b := 51) eσ432 (fun q => absurd q.2 (by decide))).trans (k9))⟩)
                · first | have f552 := (noteqE (rfl : r11.toInt = r11.toInt) (show (226 : Int32).toInt = 226 from by decide)).mp c529 | skip
                  try unfold fX12_prints_j66
                  refine sX12_lays hN hσ432 (fun σ554 hσ554 kk561 => ?_)
                  have f563 := tB (σ432.1 0 9)
                  have q564 : σ432.1 0 9 = 4 := by rw [eσ432, u1_at]; exact if_pos rfl
                  first | have f565 : (σ432.1 0 9).toInt = (4) := (congrArg Int32.toInt q564).trans (show (4 : Int32).toInt = 4 from by decide) | skip
                  have f566 := K2.g_0_14 hσ432
                  have q567 : σ432.1 0 14 = σ2.1 0 14 := by rw [eσ432, u1_at]; exact if_neg (by decide)
                  have f568 := congrArg Int32.toInt q567
                  have f569 := K2.g_0_14 hσ2
                  have f570 := congrArg Int32.toInt k3
                  have f571 := K2.g_0_14 hσ
                  obtain ⟨k555, k556, k557, k558, k559, k560, sp562⟩ := kk561
                  exact hQ _ hσ554 (⟨k555.trans ((kq (a := 0) (b := 35) eσ432 (fun q => absurd q.2 (by decide))).trans (k4)), k556.trans ((kq (a := 0) (b := 24) eσ432 (fun q => absurd q.2 (by decide))).trans (k5)), k557.trans ((kq (a := 0) (b := 36) eσ432 (fun q => absurd q.2 (by decide))).trans (k6)), k558.trans ((kq (a := 0) (b := 41) eσ432 (fun q => absurd q.2 (by decide))).trans (k7)), k559.trans ((kq (a := 0) (b := 50) eσ432 (fun q => absurd q.2 (by decide))).trans (k8)), k560.trans ((kq (a := 0) (b := 51) eσ432 (fun q => absurd q.2 (by decide))).trans (k9))⟩)
          · first | have f573 := (noteqE (rfl : (σ2.1 0 9).toInt = (σ2.1 0 9).toInt) (show (0 : Int32).toInt = 0 from by decide)).mp c429 | skip
            try unfold fX12_fails_j16
            intro σ574 eσ574
            have hσ574 : K2 σ0 σ574 := by rw [eσ574]; exact hσ2.u (Rg2.u_0_9 _) (fun q => absurd q.2 (by decide)) (fun q => absurd q.2 (by decide))
            try dsimp only
            try unfold fX12_prints_j26
            refine ⟨fun c575 => ?_, fun c575 => ?_⟩
            · first | have f577 := (eqE (rfl : r11.toInt = r11.toInt) (show (224 : Int32).toInt = 224 from by decide)).mp c575 | skip
              try unfold fX12_prints_j50
              refine ⟨fun c578 => ?_, fun c578 => ?_⟩
              · first | have f580 := (eqE (rfl : r11.toInt = r11.toInt) (show (226 : Int32).toInt = 226 from by decide)).mp c578 | skip
                try unfold fX12_prints_j66
                refine sX12_lays hN hσ574 (fun σ582 hσ582 kk589 => ?_)
                have f591 := tB (σ574.1 0 9)
                have q592 : σ574.1 0 9 = (σ2.1 0 9) := by rw [eσ574, u1_at]; exact if_pos rfl
                first | have f594 : (σ574.1 0 9).toInt = (σ2.1 0 9).toInt := (congrArg Int32.toInt q592).trans (rfl : (σ2.1 0 9).toInt = (σ2.1 0 9).toInt) | skip
                have f595 := K2.g_0_14 hσ574
                have q596 : σ574.1 0 14 = σ2.1 0 14 := by rw [eσ574, u1_at]; exact if_neg (by decide)
                have f597 := congrArg Int32.toInt q596
                have f598 := K2.g_0_14 hσ2
                have f599 := congrArg Int32.toInt k3
                have f600 := K2.g_0_14 hσ
                obtain ⟨k583, k584, k585, k586, k587, k588, sp590⟩ := kk589
                exact hQ _ hσ582 (⟨k583.trans ((kq (a := 0) (b := 35) eσ574 (fun q => absurd q.2 (by decide))).trans (k4)), k584.trans ((kq (a := 0) (b := 24) eσ574 (fun q => absurd q.2 (by decide))).trans (k5)), k585.trans ((kq (a := 0) (b := 36) eσ574 (fun q => absurd q.2 (by decide))).trans (k6)), k586.trans ((kq (a := 0) (b := 41) eσ574 (fun q => absurd q.2 (by decide))).trans (k7)), k587.trans ((kq (a := 0) (b := 50) eσ574 (fun q => absurd q.2 (by decide))).trans (k8)), k588.trans ((kq (a := 0) (b := 51) eσ574 (fun q => absurd q.2 (by decide))).trans (k9))⟩)
              · first | have f602 := (noteqE (rfl : r11.toInt = r11.toInt) (show (226 : Int32).toInt = 226 from by decide)).mp c578 | skip
                try unfold fX12_prints_j66
                refine sX12_lays hN hσ574 (fun σ604 hσ604 kk611 => ?_)
                have f613 := tB (σ574.1 0 9)
                have q614 : σ574.1 0 9 = (σ2.1 0 9) := by rw [eσ574, u1_at]; exact if_pos rfl
                first | have f616 : (σ574.1 0 9).toInt = (σ2.1 0 9).toInt := (congrArg Int32.toInt q614).trans (rfl : (σ2.1 0 9).toInt = (σ2.1 0 9).toInt) | skip
                have f617 := K2.g_0_14 hσ574
                have q618 : σ574.1 0 14 = σ2.1 0 14 := by rw [eσ574, u1_at]; exact if_neg (by decide)
                have f619 := congrArg Int32.toInt q618
                have f620 := K2.g_0_14 hσ2
                have f621 := congrArg Int32.toInt k3
                have f622 := K2.g_0_14 hσ
                obtain ⟨k605, k606, k607, k608, k609, k610, sp612⟩ := kk611
                exact hQ _ hσ604 (⟨k605.trans ((kq (a := 0) (b := 35) eσ574 (fun q => absurd q.2 (by decide))).trans (k4)), k606.trans ((kq (a := 0) (b := 24) eσ574 (fun q => absurd q.2 (by decide))).trans (k5)), k607.trans ((kq (a := 0) (b := 36) eσ574 (fun q => absurd q.2 (by decide))).trans (k6)), k608.trans ((kq (a := 0) (b := 41) eσ574 (fun q => absurd q.2 (by decide))).trans (k7)), k609.trans ((kq (a := 0) (b := 50) eσ574 (fun q => absurd q.2 (by decide))).trans (k8)), k610.trans ((kq (a := 0) (b := 51) eσ574 (fun q => absurd q.2 (by decide))).trans (k9))⟩)
            · first | have f624 := (noteqE (rfl : r11.toInt = r11.toInt) (show (224 : Int32).toInt = 224 from by decide)).mp c575 | skip
              refine ⟨fun c625 => ?_, fun c625 => ?_⟩
              · first | have f627 := (eqE (rfl : r11.toInt = r11.toInt) (show (226 : Int32).toInt = 226 from by decide)).mp c625 | skip
                try unfold fX12_prints_j50
                refine ⟨fun c628 => ?_, fun c628 => ?_⟩
                · first | have f630 := (eqE (rfl : r11.toInt = r11.toInt) (show (226 : Int32).toInt = 226 from by decide)).mp c628 | skip
                  try unfold fX12_prints_j66
                  refine sX12_lays hN hσ574 (fun σ632 hσ632 kk639 => ?_)
                  have f641 := tB (σ574.1 0 9)
                  have q642 : σ574.1 0 9 = (σ2.1 0 9) := by rw [eσ574, u1_at]; exact if_pos rfl
                  first | have f644 : (σ574.1 0 9).toInt = (σ2.1 0 9).toInt := (congrArg Int32.toInt q642).trans (rfl : (σ2.1 0 9).toInt = (σ2.1 0 9).toInt) | skip
                  have f645 := K2.g_0_14 hσ574
                  have q646 : σ574.1 0 14 = σ2.1 0 14 := by rw [eσ574, u1_at]; exact if_neg (by decide)
                  have f647 := congrArg Int32.toInt q646
                  have f648 := K2.g_0_14 hσ2
                  have f649 := congrArg Int32.toInt k3
                  have f650 := K2.g_0_14 hσ
                  obtain ⟨k633, k634, k635, k636, k637, k638, sp640⟩ := kk639
                  exact hQ _ hσ632 (⟨k633.trans ((kq (a := 0) (b := 35) eσ574 (fun q => absurd q.2 (by decide))).trans (k4)), k634.trans ((kq (a := 0) (b := 24) eσ574 (fun q => absurd q.2 (by decide))).trans (k5)), k635.trans ((kq (a := 0) (b := 36) eσ574 (fun q => absurd q.2 (by decide))).trans (k6)), k636.trans ((kq (a := 0) (b := 41) eσ574 (fun q => absurd q.2 (by decide))).trans (k7)), k637.trans ((kq (a := 0) (b := 50) eσ574 (fun q => absurd q.2 (by decide))).trans (k8)), k638.trans ((kq (a := 0) (b := 51) eσ574 (fun q => absurd q.2 (by decide))).trans (k9))⟩)
                · first | have f652 := (noteqE (rfl : r11.toInt = r11.toInt) (show (226 : Int32).toInt = 226 from by decide)).mp c628 | skip
                  try unfold fX12_prints_j66
                  refine sX12_lays hN hσ574 (fun σ654 hσ654 kk661 => ?_)
                  have f663 := tB (σ574.1 0 9)
                  have q664 : σ574.1 0 9 = (σ2.1 0 9) := by rw [eσ574, u1_at]; exact if_pos rfl
                  first | have f666 : (σ574.1 0 9).toInt = (σ2.1 0 9).toInt := (congrArg Int32.toInt q664).trans (rfl : (σ2.1 0 9).toInt = (σ2.1 0 9).toInt) | skip
                  have f667 := K2.g_0_14 hσ574
                  have q668 : σ574.1 0 14 = σ2.1 0 14 := by rw [eσ574, u1_at]; exact if_neg (by decide)
                  have f669 := congrArg Int32.toInt q668
                  have f670 := K2.g_0_14 hσ2
                  have f671 := congrArg Int32.toInt k3
                  have f672 := K2.g_0_14 hσ
                  obtain ⟨k655, k656, k657, k658, k659, k660, sp662⟩ := kk661
                  exact hQ _ hσ654 (⟨k655.trans ((kq (a := 0) (b := 35) eσ574 (fun q => absurd q.2 (by decide))).trans (k4)), k656.trans ((kq (a := 0) (b := 24) eσ574 (fun q => absurd q.2 (by decide))).trans (k5)), k657.trans ((kq (a := 0) (b := 36) eσ574 (fun q => absurd q.2 (by decide))).trans (k6)), k658.trans ((kq (a := 0) (b := 41) eσ574 (fun q => absurd q.2 (by decide))).trans (k7)), k659.trans ((kq (a := 0) (b := 50) eσ574 (fun q => absurd q.2 (by decide))).trans (k8)), k660.trans ((kq (a := 0) (b := 51) eσ574 (fun q => absurd q.2 (by decide))).trans (k9))⟩)
              · first | have f674 := (noteqE (rfl : r11.toInt = r11.toInt) (show (226 : Int32).toInt = 226 from by decide)).mp c625 | skip
                try unfold fX12_prints_j50
                refine ⟨fun c675 => ?_, fun c675 => ?_⟩
                · first | have f677 := (eqE (rfl : r11.toInt = r11.toInt) (show (226 : Int32).toInt = 226 from by decide)).mp c675 | skip
                  try unfold fX12_prints_j66
                  refine sX12_lays hN hσ574 (fun σ679 hσ679 kk686 => ?_)
                  have f688 := tB (σ574.1 0 9)
                  have q689 : σ574.1 0 9 = (σ2.1 0 9) := by rw [eσ574, u1_at]; exact if_pos rfl
                  first | have f691 : (σ574.1 0 9).toInt = (σ2.1 0 9).toInt := (congrArg Int32.toInt q689).trans (rfl : (σ2.1 0 9).toInt = (σ2.1 0 9).toInt) | skip
                  have f692 := K2.g_0_14 hσ574
                  have q693 : σ574.1 0 14 = σ2.1 0 14 := by rw [eσ574, u1_at]; exact if_neg (by decide)
                  have f694 := congrArg Int32.toInt q693
                  have f695 := K2.g_0_14 hσ2
                  have f696 := congrArg Int32.toInt k3
                  have f697 := K2.g_0_14 hσ
                  obtain ⟨k680, k681, k682, k683, k684, k685, sp687⟩ := kk686
                  exact hQ _ hσ679 (⟨k680.trans ((kq (a := 0) (b := 35) eσ574 (fun q => absurd q.2 (by decide))).trans (k4)), k681.trans ((kq (a := 0) (b := 24) eσ574 (fun q => absurd q.2 (by decide))).trans (k5)), k682.trans ((kq (a := 0) (b := 36) eσ574 (fun q => absurd q.2 (by decide))).trans (k6)), k683.trans ((kq (a := 0) (b := 41) eσ574 (fun q => absurd q.2 (by decide))).trans (k7)), k684.trans ((kq (a := 0) (b := 50) eσ574 (fun q => absurd q.2 (by decide))).trans (k8)), k685.trans ((kq (a := 0) (b := 51) eσ574 (fun q => absurd q.2 (by decide))).trans (k9))⟩)
                · first | have f699 := (noteqE (rfl : r11.toInt = r11.toInt) (show (226 : Int32).toInt = 226 from by decide)).mp c675 | skip
                  try unfold fX12_prints_j66
                  refine sX12_lays hN hσ574 (fun σ701 hσ701 kk708 => ?_)
                  have f710 := tB (σ574.1 0 9)
                  have q711 : σ574.1 0 9 = (σ2.1 0 9) := by rw [eσ574, u1_at]; exact if_pos rfl
                  first | have f713 : (σ574.1 0 9).toInt = (σ2.1 0 9).toInt := (congrArg Int32.toInt q711).trans (rfl : (σ2.1 0 9).toInt = (σ2.1 0 9).toInt) | skip
                  have f714 := K2.g_0_14 hσ574
                  have q715 : σ574.1 0 14 = σ2.1 0 14 := by rw [eσ574, u1_at]; exact if_neg (by decide)
                  have f716 := congrArg Int32.toInt q715
                  have f717 := K2.g_0_14 hσ2
                  have f718 := congrArg Int32.toInt k3
                  have f719 := K2.g_0_14 hσ
                  obtain ⟨k702, k703, k704, k705, k706, k707, sp709⟩ := kk708
                  exact hQ _ hσ701 (⟨k702.trans ((kq (a := 0) (b := 35) eσ574 (fun q => absurd q.2 (by decide))).trans (k4)), k703.trans ((kq (a := 0) (b := 24) eσ574 (fun q => absurd q.2 (by decide))).trans (k5)), k704.trans ((kq (a := 0) (b := 36) eσ574 (fun q => absurd q.2 (by decide))).trans (k6)), k705.trans ((kq (a := 0) (b := 41) eσ574 (fun q => absurd q.2 (by decide))).trans (k7)), k706.trans ((kq (a := 0) (b := 50) eσ574 (fun q => absurd q.2 (by decide))).trans (k8)), k707.trans ((kq (a := 0) (b := 51) eσ574 (fun q => absurd q.2 (by decide))).trans (k9))⟩)
        · first | have f720 := (noteqE (show (0 : Int32).toInt = 0 from by decide) (show (0 : Int32).toInt = 0 from by decide)).mp c427 | skip
          try unfold fX12_prints_j26
          refine ⟨fun c721 => ?_, fun c721 => ?_⟩
          · first | have f723 := (eqE (rfl : r11.toInt = r11.toInt) (show (224 : Int32).toInt = 224 from by decide)).mp c721 | skip
            try unfold fX12_prints_j50
            refine ⟨fun c724 => ?_, fun c724 => ?_⟩
            · first | have f726 := (eqE (rfl : r11.toInt = r11.toInt) (show (226 : Int32).toInt = 226 from by decide)).mp c724 | skip
              try unfold fX12_prints_j66
              refine sX12_lays hN hσ2 (fun σ728 hσ728 kk735 => ?_)
              have f738 := K2.g_0_14 hσ2
              have f739 := congrArg Int32.toInt k3
              have f740 := K2.g_0_14 hσ
              obtain ⟨k729, k730, k731, k732, k733, k734, sp736⟩ := kk735
              exact hQ _ hσ728 (⟨k729.trans (k4), k730.trans (k5), k731.trans (k6), k732.trans (k7), k733.trans (k8), k734.trans (k9)⟩)
            · first | have f742 := (noteqE (rfl : r11.toInt = r11.toInt) (show (226 : Int32).toInt = 226 from by decide)).mp c724 | skip
              try unfold fX12_prints_j66
              refine sX12_lays hN hσ2 (fun σ744 hσ744 kk751 => ?_)
              have f754 := K2.g_0_14 hσ2
              have f755 := congrArg Int32.toInt k3
              have f756 := K2.g_0_14 hσ
              obtain ⟨k745, k746, k747, k748, k749, k750, sp752⟩ := kk751
              exact hQ _ hσ744 (⟨k745.trans (k4), k746.trans (k5), k747.trans (k6), k748.trans (k7), k749.trans (k8), k750.trans (k9)⟩)
          · first | have f758 := (noteqE (rfl : r11.toInt = r11.toInt) (show (224 : Int32).toInt = 224 from by decide)).mp c721 | skip
            refine ⟨fun c759 => ?_, fun c759 => ?_⟩
            · first | have f761 := (eqE (rfl : r11.toInt = r11.toInt) (show (226 : Int32).toInt = 226 from by decide)).mp c759 | skip
              try unfold fX12_prints_j50
              refine ⟨fun c762 => ?_, fun c762 => ?_⟩
              · first | have f764 := (eqE (rfl : r11.toInt = r11.toInt) (show (226 : Int32).toInt = 226 from by decide)).mp c762 | skip
                try unfold fX12_prints_j66
                refine sX12_lays hN hσ2 (fun σ766 hσ766 kk773 => ?_)
                have f776 := K2.g_0_14 hσ2
                have f777 := congrArg Int32.toInt k3
                have f778 := K2.g_0_14 hσ
                obtain ⟨k767, k768, k769, k770, k771, k772, sp774⟩ := kk773
                exact hQ _ hσ766 (⟨k767.trans (k4), k768.trans (k5), k769.trans (k6), k770.trans (k7), k771.trans (k8), k772.trans (k9)⟩)
              · first | have f780 := (noteqE (rfl : r11.toInt = r11.toInt) (show (226 : Int32).toInt = 226 from by decide)).mp c762 | skip
                try unfold fX12_prints_j66
                refine sX12_lays hN hσ2 (fun σ782 hσ782 kk789 => ?_)
                have f792 := K2.g_0_14 hσ2
                have f793 := congrArg Int32.toInt k3
                have f794 := K2.g_0_14 hσ
                obtain ⟨k783, k784, k785, k786, k787, k788, sp790⟩ := kk789
                exact hQ _ hσ782 (⟨k783.trans (k4), k784.trans (k5), k785.trans (k6), k786.trans (k7), k787.trans (k8), k788.trans (k9)⟩)
            · first | have f796 := (noteqE (rfl : r11.toInt = r11.toInt) (show (226 : Int32).toInt = 226 from by decide)).mp c759 | skip
              try unfold fX12_prints_j50
              refine ⟨fun c797 => ?_, fun c797 => ?_⟩
              · first | have f799 := (eqE (rfl : r11.toInt = r11.toInt) (show (226 : Int32).toInt = 226 from by decide)).mp c797 | skip
                try unfold fX12_prints_j66
                refine sX12_lays hN hσ2 (fun σ801 hσ801 kk808 => ?_)
                have f811 := K2.g_0_14 hσ2
                have f812 := congrArg Int32.toInt k3
                have f813 := K2.g_0_14 hσ
                obtain ⟨k802, k803, k804, k805, k806, k807, sp809⟩ := kk808
                exact hQ _ hσ801 (⟨k802.trans (k4), k803.trans (k5), k804.trans (k6), k805.trans (k7), k806.trans (k8), k807.trans (k9)⟩)
              · first | have f815 := (noteqE (rfl : r11.toInt = r11.toInt) (show (226 : Int32).toInt = 226 from by decide)).mp c797 | skip
                try unfold fX12_prints_j66
                refine sX12_lays hN hσ2 (fun σ817 hσ817 kk824 => ?_)
                have f827 := K2.g_0_14 hσ2
                have f828 := congrArg Int32.toInt k3
                have f829 := K2.g_0_14 hσ
                obtain ⟨k818, k819, k820, k821, k822, k823, sp825⟩ := kk824
                exact hQ _ hσ817 (⟨k818.trans (k4), k819.trans (k5), k820.trans (k6), k821.trans (k7), k822.trans (k8), k823.trans (k9)⟩)
      · first | have f831 := (notltE (show (226 : Int32).toInt = 226 from by decide) (rfl : r11.toInt = r11.toInt)).mp c424 | skip
        try dsimp only
        refine ⟨fun c832 => ?_, fun c832 => ?_⟩
        · first | have f833 := (eqE (show (1 : Int32).toInt = 1 from by decide) (show (0 : Int32).toInt = 0 from by decide)).mp c832 | skip
          try unfold fX12_fails
          refine ⟨fun c834 => ?_, fun c834 => ?_⟩
          · first | have f836 := (eqE (rfl : (σ2.1 0 9).toInt = (σ2.1 0 9).toInt) (show (0 : Int32).toInt = 0 from by decide)).mp c834 | skip
            try unfold fX12_fails_j16
            intro σ837 eσ837
            have hσ837 : K2 σ0 σ837 := by rw [eσ837]; exact hσ2.u (Rg2.u_0_9 _) (fun q => absurd q.2 (by decide)) (fun q => absurd q.2 (by decide))
            try dsimp only
            try unfold fX12_prints_j26
            refine ⟨fun c838 => ?_, fun c838 => ?_⟩
            · first | have f840 := (eqE (rfl : r11.toInt = r11.toInt) (show (224 : Int32).toInt = 224 from by decide)).mp c838 | skip
              try unfold fX12_prints_j50
              refine ⟨fun c841 => ?_, fun c841 => ?_⟩
              · first | have f843 := (eqE (rfl : r11.toInt = r11.toInt) (show (226 : Int32).toInt = 226 from by decide)).mp c841 | skip
                try unfold fX12_prints_j66
                refine sX12_lays hN hσ837 (fun σ845 hσ845 kk852 => ?_)
                have f854 := tB (σ837.1 0 9)
                have q855 : σ837.1 0 9 = 4 := by rw [eσ837, u1_at]; exact if_pos rfl
                first | have f856 : (σ837.1 0 9).toInt = (4) := (congrArg Int32.toInt q855).trans (show (4 : Int32).toInt = 4 from by decide) | skip
                have f857 := K2.g_0_14 hσ837
                have q858 : σ837.1 0 14 = σ2.1 0 14 := by rw [eσ837, u1_at]; exact if_neg (by decide)
                have f859 := congrArg Int32.toInt q858
                have f860 := K2.g_0_14 hσ2
                have f861 := congrArg Int32.toInt k3
                have f862 := K2.g_0_14 hσ
                obtain ⟨k846, k847, k848, k849, k850, k851, sp853⟩ := kk852
                exact hQ _ hσ845 (⟨k846.trans ((kq (a := 0) (b := 35) eσ837 (fun q => absurd q.2 (by decide))).trans (k4)), k847.trans ((kq (a := 0) (b := 24) eσ837 (fun q => absurd q.2 (by decide))).trans (k5)), k848.trans ((kq (a := 0) (b := 36) eσ837 (fun q => absurd q.2 (by decide))).trans (k6)), k849.trans ((kq (a := 0) (b := 41) eσ837 (fun q => absurd q.2 (by decide))).trans (k7)), k850.trans ((kq (a := 0) (b := 50) eσ837 (fun q => absurd q.2 (by decide))).trans (k8)), k851.trans ((kq (a := 0) (b := 51) eσ837 (fun q => absurd q.2 (by decide))).trans (k9))⟩)
              · first | have f864 := (noteqE (rfl : r11.toInt = r11.toInt) (show (226 : Int32).toInt = 226 from by decide)).mp c841 | skip
                try unfold fX12_prints_j66
                refine sX12_lays hN hσ837 (fun σ866 hσ866 kk873 => ?_)
                have f875 := tB (σ837.1 0 9)
                have q876 : σ837.1 0 9 = 4 := by rw [eσ837, u1_at]; exact if_pos rfl
                first | have f877 : (σ837.1 0 9).toInt = (4) := (congrArg Int32.toInt q876).trans (show (4 : Int32).toInt = 4 from by decide) | skip
                have f878 := K2.g_0_14 hσ837
                have q879 : σ837.1 0 14 = σ2.1 0 14 := by rw [eσ837, u1_at]; exact if_neg (by decide)
                have f880 := congrArg Int32.toInt q879
                have f881 := K2.g_0_14 hσ2
                have f882 := congrArg Int32.toInt k3
                have f883 := K2.g_0_14 hσ
                obtain ⟨k867, k868, k869, k870, k871, k872, sp874⟩ := kk873
                exact hQ _ hσ866 (⟨k867.trans ((kq (a := 0) (b := 35) eσ837 (fun q => absurd q.2 (by decide))).trans (k4)), k868.trans ((kq (a := 0) (b := 24) eσ837 (fun q => absurd q.2 (by decide))).trans (k5)), k869.trans ((kq (a := 0) (b := 36) eσ837 (fun q => absurd q.2 (by decide))).trans (k6)), k870.trans ((kq (a := 0) (b := 41) eσ837 (fun q => absurd q.2 (by decide))).trans (k7)), k871.trans ((kq (a := 0) (b := 50) eσ837 (fun q => absurd q.2 (by decide))).trans (k8)), k872.trans ((kq (a := 0) (b := 51) eσ837 (fun q => absurd q.2 (by decide))).trans (k9))⟩)
            · first | have f885 := (noteqE (rfl : r11.toInt = r11.toInt) (show (224 : Int32).toInt = 224 from by decide)).mp c838 | skip
              refine ⟨fun c886 => ?_, fun c886 => ?_⟩
              · first | have f888 := (eqE (rfl : r11.toInt = r11.toInt) (show (226 : Int32).toInt = 226 from by decide)).mp c886 | skip
                try unfold fX12_prints_j50
                refine ⟨fun c889 => ?_, fun c889 => ?_⟩
                · first | have f891 := (eqE (rfl : r11.toInt = r11.toInt) (show (226 : Int32).toInt = 226 from by decide)).mp c889 | skip
                  try unfold fX12_prints_j66
                  refine sX12_lays hN hσ837 (fun σ893 hσ893 kk900 => ?_)
                  have f902 := tB (σ837.1 0 9)
                  have q903 : σ837.1 0 9 = 4 := by rw [eσ837, u1_at]; exact if_pos rfl
                  first | have f904 : (σ837.1 0 9).toInt = (4) := (congrArg Int32.toInt q903).trans (show (4 : Int32).toInt = 4 from by decide) | skip
                  have f905 := K2.g_0_14 hσ837
                  have q906 : σ837.1 0 14 = σ2.1 0 14 := by rw [eσ837, u1_at]; exact if_neg (by decide)
                  have f907 := congrArg Int32.toInt q906
                  have f908 := K2.g_0_14 hσ2
                  have f909 := congrArg Int32.toInt k3
                  have f910 := K2.g_0_14 hσ
                  obtain ⟨k894, k895, k896, k897, k898, k899, sp901⟩ := kk900
                  exact hQ _ hσ893 (⟨k894.trans ((kq (a := 0) (b := 35) eσ837 (fun q => absurd q.2 (by decide))).trans (k4)), k895.trans ((kq (a := 0) (b := 24) eσ837 (fun q => absurd q.2 (by decide))).trans (k5)), k896.trans ((kq (a := 0) (b := 36) eσ837 (fun q => absurd q.2 (by decide))).trans (k6)), k897.trans ((kq (a := 0) (b := 41) eσ837 (fun q => absurd q.2 (by decide))).trans (k7)), k898.trans ((kq (a := 0) (b := 50) eσ837 (fun q => absurd q.2 (by decide))).trans (k8)), k899.trans ((kq (a := 0) (b := 51) eσ837 (fun q => absurd q.2 (by decide))).trans (k9))⟩)
                · first | have f912 := (noteqE (rfl : r11.toInt = r11.toInt) (show (226 : Int32).toInt = 226 from by decide)).mp c889 | skip
                  try unfold fX12_prints_j66
                  refine sX12_lays hN hσ837 (fun σ914 hσ914 kk921 => ?_)
                  have f923 := tB (σ837.1 0 9)
                  have q924 : σ837.1 0 9 = 4 := by rw [eσ837, u1_at]; exact if_pos rfl
                  first | have f925 : (σ837.1 0 9).toInt = (4) := (congrArg Int32.toInt q924).trans (show (4 : Int32).toInt = 4 from by decide) | skip
                  have f926 := K2.g_0_14 hσ837
                  have q927 : σ837.1 0 14 = σ2.1 0 14 := by rw [eσ837, u1_at]; exact if_neg (by decide)
                  have f928 := congrArg Int32.toInt q927
                  have f929 := K2.g_0_14 hσ2
                  have f930 := congrArg Int32.toInt k3
                  have f931 := K2.g_0_14 hσ
                  obtain ⟨k915, k916, k917, k918, k919, k920, sp922⟩ := kk921
                  exact hQ _ hσ914 (⟨k915.trans ((kq (a := 0) (b := 35) eσ837 (fun q => absurd q.2 (by decide))).trans (k4)), k916.trans ((kq (a := 0) (b := 24) eσ837 (fun q => absurd q.2 (by decide))).trans (k5)), k917.trans ((kq (a := 0) (b := 36) eσ837 (fun q => absurd q.2 (by decide))).trans (k6)), k918.trans ((kq (a := 0) (b := 41) eσ837 (fun q => absurd q.2 (by decide))).trans (k7)), k919.trans ((kq (a := 0) (b := 50) eσ837 (fun q => absurd q.2 (by decide))).trans (k8)), k920.trans ((kq (a := 0) (b := 51) eσ837 (fun q => absurd q.2 (by decide))).trans (k9))⟩)
              · first | have f933 := (noteqE (rfl : r11.toInt = r11.toInt) (show (226 : Int32).toInt = 226 from by decide)).mp c886 | skip
                try unfold fX12_prints_j50
                refine ⟨fun c934 => ?_, fun c934 => ?_⟩
                · first | have f936 := (eqE (rfl : r11.toInt = r11.toInt) (show (226 : Int32).toInt = 226 from by decide)).mp c934 | skip
                  try unfold fX12_prints_j66
                  refine sX12_lays hN hσ837 (fun σ938 hσ938 kk945 => ?_)
                  have f947 := tB (σ837.1 0 9)
                  have q948 : σ837.1 0 9 = 4 := by rw [eσ837, u1_at]; exact if_pos rfl
                  first | have f949 : (σ837.1 0 9).toInt = (4) := (congrArg Int32.toInt q948).trans (show (4 : Int32).toInt = 4 from by decide) | skip
                  have f950 := K2.g_0_14 hσ837
                  have q951 : σ837.1 0 14 = σ2.1 0 14 := by rw [eσ837, u1_at]; exact if_neg (by decide)
                  have f952 := congrArg Int32.toInt q951
                  have f953 := K2.g_0_14 hσ2
                  have f954 := congrArg Int32.toInt k3
                  have f955 := K2.g_0_14 hσ
                  obtain ⟨k939, k940, k941, k942, k943, k944, sp946⟩ := kk945
                  exact hQ _ hσ938 (⟨k939.trans ((kq (a := 0) (b := 35) eσ837 (fun q => absurd q.2 (by decide))).trans (k4)), k940.trans ((kq (a := 0) (b := 24) eσ837 (fun q => absurd q.2 (by decide))).trans (k5)), k941.trans ((kq (a := 0) (b := 36) eσ837 (fun q => absurd q.2 (by decide))).trans (k6)), k942.trans ((kq (a := 0) (b := 41) eσ837 (fun q => absurd q.2 (by decide))).trans (k7)), k943.trans ((kq (a := 0) (b := 50) eσ837 (fun q => absurd q.2 (by decide))).trans (k8)), k944.trans ((kq (a := 0) (b := 51) eσ837 (fun q => absurd q.2 (by decide))).trans (k9))⟩)
                · first | have f957 := (noteqE (rfl : r11.toInt = r11.toInt) (show (226 : Int32).toInt = 226 from by decide)).mp c934 | skip
                  try unfold fX12_prints_j66
                  refine sX12_lays hN hσ837 (fun σ959 hσ959 kk966 => ?_)
                  have f968 := tB (σ837.1 0 9)
                  have q969 : σ837.1 0 9 = 4 := by rw [eσ837, u1_at]; exact if_pos rfl
                  first | have f970 : (σ837.1 0 9).toInt = (4) := (congrArg Int32.toInt q969).trans (show (4 : Int32).toInt = 4 from by decide) | skip
                  have f971 := K2.g_0_14 hσ837
                  have q972 : σ837.1 0 14 = σ2.1 0 14 := by rw [eσ837, u1_at]; exact if_neg (by decide)
                  have f973 := congrArg Int32.toInt q972
                  have f974 := K2.g_0_14 hσ2
                  have f975 := congrArg Int32.toInt k3
                  have f976 := K2.g_0_14 hσ
                  obtain ⟨k960, k961, k962, k963, k964, k965, sp967⟩ := kk966
                  exact hQ _ hσ959 (⟨k960.trans ((kq (a := 0) (b := 35) eσ837 (fun q => absurd q.2 (by decide))).trans (k4)), k961.trans ((kq (a := 0) (b := 24) eσ837 (fun q => absurd q.2 (by decide))).trans (k5)), k962.trans ((kq (a := 0) (b := 36) eσ837 (fun q => absurd q.2 (by decide))).trans (k6)), k963.trans ((kq (a := 0) (b := 41) eσ837 (fun q => absurd q.2 (by decide))).trans (k7)), k964.trans ((kq (a := 0) (b := 50) eσ837 (fun q => absurd q.2 (by decide))).trans (k8)), k965.trans ((kq (a := 0) (b := 51) eσ837 (fun q => absurd q.2 (by decide))).trans (k9))⟩)
          · first | have f978 := (noteqE (rfl : (σ2.1 0 9).toInt = (σ2.1 0 9).toInt) (show (0 : Int32).toInt = 0 from by decide)).mp c834 | skip
            try unfold fX12_fails_j16
            intro σ979 eσ979
            have hσ979 : K2 σ0 σ979 := by rw [eσ979]; exact hσ2.u (Rg2.u_0_9 _) (fun q => absurd q.2 (by decide)) (fun q => absurd q.2 (by decide))
            try dsimp only
            try unfold fX12_prints_j26
            refine ⟨fun c980 => ?_, fun c980 => ?_⟩
            · first | have f982 := (eqE (rfl : r11.toInt = r11.toInt) (show (224 : Int32).toInt = 224 from by decide)).mp c980 | skip
              try unfold fX12_prints_j50
              refine ⟨fun c983 => ?_, fun c983 => ?_⟩
              · first | have f985 := (eqE (rfl : r11.toInt = r11.toInt) (show (226 : Int32).toInt = 226 from by decide)).mp c983 | skip
                try unfold fX12_prints_j66
                refine sX12_lays hN hσ979 (fun σ987 hσ987 kk994 => ?_)
                have f996 := tB (σ979.1 0 9)
                have q997 : σ979.1 0 9 = (σ2.1 0 9) := by rw [eσ979, u1_at]; exact if_pos rfl
                first | have f999 : (σ979.1 0 9).toInt = (σ2.1 0 9).toInt := (congrArg Int32.toInt q997).trans (rfl : (σ2.1 0 9).toInt = (σ2.1 0 9).toInt) | skip
                have f1000 := K2.g_0_14 hσ979
                have q1001 : σ979.1 0 14 = σ2.1 0 14 := by rw [eσ979, u1_at]; exact if_neg (by decide)
                have f1002 := congrArg Int32.toInt q1001
                have f1003 := K2.g_0_14 hσ2
                have f1004 := congrArg Int32.toInt k3
                have f1005 := K2.g_0_14 hσ
                obtain ⟨k988, k989, k990, k991, k992, k993, sp995⟩ := kk994
                exact hQ _ hσ987 (⟨k988.trans ((kq (a := 0) (b := 35) eσ979 (fun q => absurd q.2 (by decide))).trans (k4)), k989.trans ((kq (a := 0) (b := 24) eσ979 (fun q => absurd q.2 (by decide))).trans (k5)), k990.trans ((kq (a := 0) (b := 36) eσ979 (fun q => absurd q.2 (by decide))).trans (k6)), k991.trans ((kq (a := 0) (b := 41) eσ979 (fun q => absurd q.2 (by decide))).trans (k7)), k992.trans ((kq (a := 0) (b := 50) eσ979 (fun q => absurd q.2 (by decide))).trans (k8)), k993.trans ((kq (a := 0) (b := 51) eσ979 (fun q => absurd q.2 (by decide))).trans (k9))⟩)
              · first | have f1007 := (noteqE (rfl : r11.toInt = r11.toInt) (show (226 : Int32).toInt = 226 from by decide)).mp c983 | skip
                try unfold fX12_prints_j66
                refine sX12_lays hN hσ979 (fun σ1009 hσ1009 kk1016 => ?_)
                have f1018 := tB (σ979.1 0 9)
                have q1019 : σ979.1 0 9 = (σ2.1 0 9) := by rw [eσ979, u1_at]; exact if_pos rfl
                first | have f1021 : (σ979.1 0 9).toInt = (σ2.1 0 9).toInt := (congrArg Int32.toInt q1019).trans (rfl : (σ2.1 0 9).toInt = (σ2.1 0 9).toInt) | skip
                have f1022 := K2.g_0_14 hσ979
                have q1023 : σ979.1 0 14 = σ2.1 0 14 := by rw [eσ979, u1_at]; exact if_neg (by decide)
                have f1024 := congrArg Int32.toInt q1023
                have f1025 := K2.g_0_14 hσ2
                have f1026 := congrArg Int32.toInt k3
                have f1027 := K2.g_0_14 hσ
                obtain ⟨k1010, k1011, k1012, k1013, k1014, k1015, sp1017⟩ := kk1016
                exact hQ _ hσ1009 (⟨k1010.trans ((kq (a := 0) (b := 35) eσ979 (fun q => absurd q.2 (by decide))).trans (k4)), k1011.trans ((kq (a := 0) (b := 24) eσ979 (fun q => absurd q.2 (by decide))).trans (k5)), k1012.trans ((kq (a := 0) (b := 36) eσ979 (fun q => absurd q.2 (by decide))).trans (k6)), k1013.trans ((kq (a := 0) (b := 41) eσ979 (fun q => absurd q.2 (by decide))).trans (k7)), k1014.trans ((kq (a := 0) (b := 50) eσ979 (fun q => absurd q.2 (by decide))).trans (k8)), k1015.trans ((kq (a := 0) (b := 51) eσ979 (fun q => absurd q.2 (by decide))).trans (k9))⟩)
            · first | have f1029 := (noteqE (rfl : r11.toInt = r11.toInt) (show (224 : Int32).toInt = 224 from by decide)).mp c980 | skip
              refine ⟨fun c1030 => ?_, fun c1030 => ?_⟩
              · first | have f1032 := (eqE (rfl : r11.toInt = r11.toInt) (show (226 : Int32).toInt = 226 from by decide)).mp c1030 | skip
                try unfold fX12_prints_j50
                refine ⟨fun c1033 => ?_, fun c1033 => ?_⟩
                · first | have f1035 := (eqE (rfl : r11.toInt = r11.toInt) (show (226 : Int32).toInt = 226 from by decide)).mp c1033 | skip
                  try unfold fX12_prints_j66
                  refine sX12_lays hN hσ979 (fun σ1037 hσ1037 kk1044 => ?_)
                  have f1046 := tB (σ979.1 0 9)
                  have q1047 : σ979.1 0 9 = (σ2.1 0 9) := by rw [eσ979, u1_at]; exact if_pos rfl
                  first | have f1049 : (σ979.1 0 9).toInt = (σ2.1 0 9).toInt := (congrArg Int32.toInt q1047).trans (rfl : (σ2.1 0 9).toInt = (σ2.1 0 9).toInt) | skip
                  have f1050 := K2.g_0_14 hσ979
                  have q1051 : σ979.1 0 14 = σ2.1 0 14 := by rw [eσ979, u1_at]; exact if_neg (by decide)
                  have f1052 := congrArg Int32.toInt q1051
                  have f1053 := K2.g_0_14 hσ2
                  have f1054 := congrArg Int32.toInt k3
                  have f1055 := K2.g_0_14 hσ
                  obtain ⟨k1038, k1039, k1040, k1041, k1042, k1043, sp1045⟩ := kk1044
                  exact hQ _ hσ1037 (⟨k1038.trans ((kq (a := 0) (b := 35) eσ979 (fun q => absurd q.2 (by decide))).trans (k4)), k1039.trans ((kq (a := 0) (b := 24) eσ979 (fun q => absurd q.2 (by decide))).trans (k5)), k1040.trans ((kq (a := 0) (b := 36) eσ979 (fun q => absurd q.2 (by decide))).trans (k6)), k1041.trans ((kq (a := 0) (b := 41) eσ979 (fun q => absurd q.2 (by decide))).trans (k7)), k1042.trans ((kq (a := 0) (b := 50) eσ979 (fun q => absurd q.2 (by decide))).trans (k8)), k1043.trans ((kq (a := 0) (b := 51) eσ979 (fun q => absurd q.2 (by decide))).trans (k9))⟩)
                · first | have f1057 := (noteqE (rfl : r11.toInt = r11.toInt) (show (226 : Int32).toInt = 226 from by decide)).mp c1033 | skip
                  try unfold fX12_prints_j66
                  refine sX12_lays hN hσ979 (fun σ1059 hσ1059 kk1066 => ?_)
                  have f1068 := tB (σ979.1 0 9)
                  have q1069 : σ979.1 0 9 = (σ2.1 0 9) := by rw [eσ979, u1_at]; exact if_pos rfl
                  first | have f1071 : (σ979.1 0 9).toInt = (σ2.1 0 9).toInt := (congrArg Int32.toInt q1069).trans (rfl : (σ2.1 0 9).toInt = (σ2.1 0 9).toInt) | skip
                  have f1072 := K2.g_0_14 hσ979
                  have q1073 : σ979.1 0 14 = σ2.1 0 14 := by rw [eσ979, u1_at]; exact if_neg (by decide)
                  have f1074 := congrArg Int32.toInt q1073
                  have f1075 := K2.g_0_14 hσ2
                  have f1076 := congrArg Int32.toInt k3
                  have f1077 := K2.g_0_14 hσ
                  obtain ⟨k1060, k1061, k1062, k1063, k1064, k1065, sp1067⟩ := kk1066
                  exact hQ _ hσ1059 (⟨k1060.trans ((kq (a := 0) (b := 35) eσ979 (fun q => absurd q.2 (by decide))).trans (k4)), k1061.trans ((kq (a := 0) (b := 24) eσ979 (fun q => absurd q.2 (by decide))).trans (k5)), k1062.trans ((kq (a := 0) (b := 36) eσ979 (fun q => absurd q.2 (by decide))).trans (k6)), k1063.trans ((kq (a := 0) (b := 41) eσ979 (fun q => absurd q.2 (by decide))).trans (k7)), k1064.trans ((kq (a := 0) (b := 50) eσ979 (fun q => absurd q.2 (by decide))).trans (k8)), k1065.trans ((kq (a := 0) (b := 51) eσ979 (fun q => absurd q.2 (by decide))).trans (k9))⟩)
              · first | have f1079 := (noteqE (rfl : r11.toInt = r11.toInt) (show (226 : Int32).toInt = 226 from by decide)).mp c1030 | skip
                try unfold fX12_prints_j50
                refine ⟨fun c1080 => ?_, fun c1080 => ?_⟩
                · first | have f1082 := (eqE (rfl : r11.toInt = r11.toInt) (show (226 : Int32).toInt = 226 from by decide)).mp c1080 | skip
                  try unfold fX12_prints_j66
                  refine sX12_lays hN hσ979 (fun σ1084 hσ1084 kk1091 => ?_)
                  have f1093 := tB (σ979.1 0 9)
                  have q1094 : σ979.1 0 9 = (σ2.1 0 9) := by rw [eσ979, u1_at]; exact if_pos rfl
                  first | have f1096 : (σ979.1 0 9).toInt = (σ2.1 0 9).toInt := (congrArg Int32.toInt q1094).trans (rfl : (σ2.1 0 9).toInt = (σ2.1 0 9).toInt) | skip
                  have f1097 := K2.g_0_14 hσ979
                  have q1098 : σ979.1 0 14 = σ2.1 0 14 := by rw [eσ979, u1_at]; exact if_neg (by decide)
                  have f1099 := congrArg Int32.toInt q1098
                  have f1100 := K2.g_0_14 hσ2
                  have f1101 := congrArg Int32.toInt k3
                  have f1102 := K2.g_0_14 hσ
                  obtain ⟨k1085, k1086, k1087, k1088, k1089, k1090, sp1092⟩ := kk1091
                  exact hQ _ hσ1084 (⟨k1085.trans ((kq (a := 0) (b := 35) eσ979 (fun q => absurd q.2 (by decide))).trans (k4)), k1086.trans ((kq (a := 0) (b := 24) eσ979 (fun q => absurd q.2 (by decide))).trans (k5)), k1087.trans ((kq (a := 0) (b := 36) eσ979 (fun q => absurd q.2 (by decide))).trans (k6)), k1088.trans ((kq (a := 0) (b := 41) eσ979 (fun q => absurd q.2 (by decide))).trans (k7)), k1089.trans ((kq (a := 0) (b := 50) eσ979 (fun q => absurd q.2 (by decide))).trans (k8)), k1090.trans ((kq (a := 0) (b := 51) eσ979 (fun q => absurd q.2 (by decide))).trans (k9))⟩)
                · first | have f1104 := (noteqE (rfl : r11.toInt = r11.toInt) (show (226 : Int32).toInt = 226 from by decide)).mp c1080 | skip
                  try unfold fX12_prints_j66
                  refine sX12_lays hN hσ979 (fun σ1106 hσ1106 kk1113 => ?_)
                  have f1115 := tB (σ979.1 0 9)
                  have q1116 : σ979.1 0 9 = (σ2.1 0 9) := by rw [eσ979, u1_at]; exact if_pos rfl
                  first | have f1118 : (σ979.1 0 9).toInt = (σ2.1 0 9).toInt := (congrArg Int32.toInt q1116).trans (rfl : (σ2.1 0 9).toInt = (σ2.1 0 9).toInt) | skip
                  have f1119 := K2.g_0_14 hσ979
                  have q1120 : σ979.1 0 14 = σ2.1 0 14 := by rw [eσ979, u1_at]; exact if_neg (by decide)
                  have f1121 := congrArg Int32.toInt q1120
                  have f1122 := K2.g_0_14 hσ2
                  have f1123 := congrArg Int32.toInt k3
                  have f1124 := K2.g_0_14 hσ
                  obtain ⟨k1107, k1108, k1109, k1110, k1111, k1112, sp1114⟩ := kk1113
                  exact hQ _ hσ1106 (⟨k1107.trans ((kq (a := 0) (b := 35) eσ979 (fun q => absurd q.2 (by decide))).trans (k4)), k1108.trans ((kq (a := 0) (b := 24) eσ979 (fun q => absurd q.2 (by decide))).trans (k5)), k1109.trans ((kq (a := 0) (b := 36) eσ979 (fun q => absurd q.2 (by decide))).trans (k6)), k1110.trans ((kq (a := 0) (b := 41) eσ979 (fun q => absurd q.2 (by decide))).trans (k7)), k1111.trans ((kq (a := 0) (b := 50) eσ979 (fun q => absurd q.2 (by decide))).trans (k8)), k1112.trans ((kq (a := 0) (b := 51) eσ979 (fun q => absurd q.2 (by decide))).trans (k9))⟩)
        · first | have f1125 := (noteqE (show (1 : Int32).toInt = 1 from by decide) (show (0 : Int32).toInt = 0 from by decide)).mp c832 | skip
          try unfold fX12_prints_j26
          refine ⟨fun c1126 => ?_, fun c1126 => ?_⟩
          · first | have f1128 := (eqE (rfl : r11.toInt = r11.toInt) (show (224 : Int32).toInt = 224 from by decide)).mp c1126 | skip
            try unfold fX12_prints_j50
            refine ⟨fun c1129 => ?_, fun c1129 => ?_⟩
            · first | have f1131 := (eqE (rfl : r11.toInt = r11.toInt) (show (226 : Int32).toInt = 226 from by decide)).mp c1129 | skip
              try unfold fX12_prints_j66
              refine sX12_lays hN hσ2 (fun σ1133 hσ1133 kk1140 => ?_)
              have f1143 := K2.g_0_14 hσ2
              have f1144 := congrArg Int32.toInt k3
              have f1145 := K2.g_0_14 hσ
              obtain ⟨k1134, k1135, k1136, k1137, k1138, k1139, sp1141⟩ := kk1140
              exact hQ _ hσ1133 (⟨k1134.trans (k4), k1135.trans (k5), k1136.trans (k6), k1137.trans (k7), k1138.trans (k8), k1139.trans (k9)⟩)
            · first | have f1147 := (noteqE (rfl : r11.toInt = r11.toInt) (show (226 : Int32).toInt = 226 from by decide)).mp c1129 | skip
              try unfold fX12_prints_j66
              refine sX12_lays hN hσ2 (fun σ1149 hσ1149 kk1156 => ?_)
              have f1159 := K2.g_0_14 hσ2
              have f1160 := congrArg Int32.toInt k3
              have f1161 := K2.g_0_14 hσ
              obtain ⟨k1150, k1151, k1152, k1153, k1154, k1155, sp1157⟩ := kk1156
              exact hQ _ hσ1149 (⟨k1150.trans (k4), k1151.trans (k5), k1152.trans (k6), k1153.trans (k7), k1154.trans (k8), k1155.trans (k9)⟩)
          · first | have f1163 := (noteqE (rfl : r11.toInt = r11.toInt) (show (224 : Int32).toInt = 224 from by decide)).mp c1126 | skip
            refine ⟨fun c1164 => ?_, fun c1164 => ?_⟩
            · first | have f1166 := (eqE (rfl : r11.toInt = r11.toInt) (show (226 : Int32).toInt = 226 from by decide)).mp c1164 | skip
              try unfold fX12_prints_j50
              refine ⟨fun c1167 => ?_, fun c1167 => ?_⟩
              · first | have f1169 := (eqE (rfl : r11.toInt = r11.toInt) (show (226 : Int32).toInt = 226 from by decide)).mp c1167 | skip
                try unfold fX12_prints_j66
                refine sX12_lays hN hσ2 (fun σ1171 hσ1171 kk1178 => ?_)
                have f1181 := K2.g_0_14 hσ2
                have f1182 := congrArg Int32.toInt k3
                have f1183 := K2.g_0_14 hσ
                obtain ⟨k1172, k1173, k1174, k1175, k1176, k1177, sp1179⟩ := kk1178
                exact hQ _ hσ1171 (⟨k1172.trans (k4), k1173.trans (k5), k1174.trans (k6), k1175.trans (k7), k1176.trans (k8), k1177.trans (k9)⟩)
              · first | have f1185 := (noteqE (rfl : r11.toInt = r11.toInt) (show (226 : Int32).toInt = 226 from by decide)).mp c1167 | skip
                try unfold fX12_prints_j66
                refine sX12_lays hN hσ2 (fun σ1187 hσ1187 kk1194 => ?_)
                have f1197 := K2.g_0_14 hσ2
                have f1198 := congrArg Int32.toInt k3
                have f1199 := K2.g_0_14 hσ
                obtain ⟨k1188, k1189, k1190, k1191, k1192, k1193, sp1195⟩ := kk1194
                exact hQ _ hσ1187 (⟨k1188.trans (k4), k1189.trans (k5), k1190.trans (k6), k1191.trans (k7), k1192.trans (k8), k1193.trans (k9)⟩)
            · first | have f1201 := (noteqE (rfl : r11.toInt = r11.toInt) (show (226 : Int32).toInt = 226 from by decide)).mp c1164 | skip
              try unfold fX12_prints_j50
              refine ⟨fun c1202 => ?_, fun c1202 => ?_⟩
              · first | have f1204 := (eqE (rfl : r11.toInt = r11.toInt) (show (226 : Int32).toInt = 226 from by decide)).mp c1202 | skip
                try unfold fX12_prints_j66
                refine sX12_lays hN hσ2 (fun σ1206 hσ1206 kk1213 => ?_)
                have f1216 := K2.g_0_14 hσ2
                have f1217 := congrArg Int32.toInt k3
                have f1218 := K2.g_0_14 hσ
                obtain ⟨k1207, k1208, k1209, k1210, k1211, k1212, sp1214⟩ := kk1213
                exact hQ _ hσ1206 (⟨k1207.trans (k4), k1208.trans (k5), k1209.trans (k6), k1210.trans (k7), k1211.trans (k8), k1212.trans (k9)⟩)
              · first | have f1220 := (noteqE (rfl : r11.toInt = r11.toInt) (show (226 : Int32).toInt = 226 from by decide)).mp c1202 | skip
                try unfold fX12_prints_j66
                refine sX12_lays hN hσ2 (fun σ1222 hσ1222 kk1229 => ?_)
                have f1232 := K2.g_0_14 hσ2
                have f1233 := congrArg Int32.toInt k3
                have f1234 := K2.g_0_14 hσ
                obtain ⟨k1223, k1224, k1225, k1226, k1227, k1228, sp1230⟩ := kk1229
                exact hQ _ hσ1222 (⟨k1223.trans (k4), k1224.trans (k5), k1225.trans (k6), k1226.trans (k7), k1227.trans (k8), k1228.trans (k9)⟩)
  · have f1235 := tB (σ2.1 0 9)
    first | have f1236 := (noteqE (rfl : (σ2.1 0 9).toInt = (σ2.1 0 9).toInt) (show (0 : Int32).toInt = 0 from by decide)).mp c13 | skip
    try unfold fX12_prints_j26
    refine ⟨fun c1237 => ?_, fun c1237 => ?_⟩
    · have f1238 := tB r11
      first | have f1239 := (eqE (rfl : r11.toInt = r11.toInt) (show (224 : Int32).toInt = 224 from by decide)).mp c1237 | skip
      try unfold fX12_prints_j50
      refine ⟨fun c1240 => ?_, fun c1240 => ?_⟩
      · first | have f1242 := (eqE (rfl : r11.toInt = r11.toInt) (show (226 : Int32).toInt = 226 from by decide)).mp c1240 | skip
        try unfold fX12_prints_j66
        refine sX12_lays hN hσ2 (fun σ1244 hσ1244 kk1251 => ?_)
        have f1254 := K2.g_0_14 hσ2
        have f1255 := congrArg Int32.toInt k3
        have f1256 := K2.g_0_14 hσ
        obtain ⟨k1245, k1246, k1247, k1248, k1249, k1250, sp1252⟩ := kk1251
        exact hQ _ hσ1244 (⟨k1245.trans (k4), k1246.trans (k5), k1247.trans (k6), k1248.trans (k7), k1249.trans (k8), k1250.trans (k9)⟩)
      · first | have f1258 := (noteqE (rfl : r11.toInt = r11.toInt) (show (226 : Int32).toInt = 226 from by decide)).mp c1240 | skip
        try unfold fX12_prints_j66
        refine sX12_lays hN hσ2 (fun σ1260 hσ1260 kk1267 => ?_)
        have f1270 := K2.g_0_14 hσ2
        have f1271 := congrArg Int32.toInt k3
        have f1272 := K2.g_0_14 hσ
        obtain ⟨k1261, k1262, k1263, k1264, k1265, k1266, sp1268⟩ := kk1267
        exact hQ _ hσ1260 (⟨k1261.trans (k4), k1262.trans (k5), k1263.trans (k6), k1264.trans (k7), k1265.trans (k8), k1266.trans (k9)⟩)
    · have f1273 := tB r11
      first | have f1274 := (noteqE (rfl : r11.toInt = r11.toInt) (show (224 : Int32).toInt = 224 from by decide)).mp c1237 | skip
      refine ⟨fun c1275 => ?_, fun c1275 => ?_⟩
      · first | have f1277 := (eqE (rfl : r11.toInt = r11.toInt) (show (226 : Int32).toInt = 226 from by decide)).mp c1275 | skip
        try unfold fX12_prints_j50
        refine ⟨fun c1278 => ?_, fun c1278 => ?_⟩
        · first | have f1280 := (eqE (rfl : r11.toInt = r11.toInt) (show (226 : Int32).toInt = 226 from by decide)).mp c1278 | skip
          try unfold fX12_prints_j66
          refine sX12_lays hN hσ2 (fun σ1282 hσ1282 kk1289 => ?_)
          have f1292 := K2.g_0_14 hσ2
          have f1293 := congrArg Int32.toInt k3
          have f1294 := K2.g_0_14 hσ
          obtain ⟨k1283, k1284, k1285, k1286, k1287, k1288, sp1290⟩ := kk1289
          exact hQ _ hσ1282 (⟨k1283.trans (k4), k1284.trans (k5), k1285.trans (k6), k1286.trans (k7), k1287.trans (k8), k1288.trans (k9)⟩)
        · first | have f1296 := (noteqE (rfl : r11.toInt = r11.toInt) (show (226 : Int32).toInt = 226 from by decide)).mp c1278 | skip
          try unfold fX12_prints_j66
          refine sX12_lays hN hσ2 (fun σ1298 hσ1298 kk1305 => ?_)
          have f1308 := K2.g_0_14 hσ2
          have f1309 := congrArg Int32.toInt k3
          have f1310 := K2.g_0_14 hσ
          obtain ⟨k1299, k1300, k1301, k1302, k1303, k1304, sp1306⟩ := kk1305
          exact hQ _ hσ1298 (⟨k1299.trans (k4), k1300.trans (k5), k1301.trans (k6), k1302.trans (k7), k1303.trans (k8), k1304.trans (k9)⟩)
      · first | have f1312 := (noteqE (rfl : r11.toInt = r11.toInt) (show (226 : Int32).toInt = 226 from by decide)).mp c1275 | skip
        try unfold fX12_prints_j50
        refine ⟨fun c1313 => ?_, fun c1313 => ?_⟩
        · first | have f1315 := (eqE (rfl : r11.toInt = r11.toInt) (show (226 : Int32).toInt = 226 from by decide)).mp c1313 | skip
          try unfold fX12_prints_j66
          refine sX12_lays hN hσ2 (fun σ1317 hσ1317 kk1324 => ?_)
          have f1327 := K2.g_0_14 hσ2
          have f1328 := congrArg Int32.toInt k3
          have f1329 := K2.g_0_14 hσ
          obtain ⟨k1318, k1319, k1320, k1321, k1322, k1323, sp1325⟩ := kk1324
          exact hQ _ hσ1317 (⟨k1318.trans (k4), k1319.trans (k5), k1320.trans (k6), k1321.trans (k7), k1322.trans (k8), k1323.trans (k9)⟩)
        · first | have f1331 := (noteqE (rfl : r11.toInt = r11.toInt) (show (226 : Int32).toInt = 226 from by decide)).mp c1313 | skip
          try unfold fX12_prints_j66
          refine sX12_lays hN hσ2 (fun σ1333 hσ1333 kk1340 => ?_)
          have f1343 := K2.g_0_14 hσ2
          have f1344 := congrArg Int32.toInt k3
          have f1345 := K2.g_0_14 hσ
          obtain ⟨k1334, k1335, k1336, k1337, k1338, k1339, sp1341⟩ := kk1340
          exact hQ _ hσ1333 (⟨k1334.trans (k4), k1335.trans (k5), k1336.trans (k6), k1337.trans (k7), k1338.trans (k8), k1339.trans (k9)⟩)
set_option maxHeartbeats 4000000 in
theorem sX12_value {N : Nat} (hN : 4294967400 ≤ N) {Q : Int32 → St → Prop} {σ0 σ : St} (hσ : K2 σ0 σ) (hQ : ∀ (r : Int32) (τ : St), K2 σ0 τ → (τ.1 0 14 = σ.1 0 14 ∧ τ.1 0 35 = σ.1 0 35 ∧ τ.1 0 24 = σ.1 0 24 ∧ τ.1 0 36 = σ.1 0 36 ∧ τ.1 0 41 = σ.1 0 41 ∧ τ.1 0 50 = σ.1 0 50 ∧ τ.1 0 51 = σ.1 0 51) → True → Q r τ) : fX12_value N  Q σ := by
  unfold fX12_value
  have f1 := tB64 (σ.2 0 34)
  refine sX12_read hN hσ (fun r11 σ2 hσ2 kk10 p12 => ?_)
  obtain ⟨k3, k4, k5, k6, k7, k8, k9⟩ := kk10
  intro v13 ev13
  intro σ14 eσ14
  have hσ14 : K2 σ0 σ14 := by rw [eσ14]; exact hσ2.l
  refine ⟨fun c15 => ?_, fun c15 => ?_⟩
  · have f16 := tB r11
    first | have f17 := (eqE (rfl : r11.toInt = r11.toInt) (show (1 : Int32).toInt = 1 from by decide)).mp c15 | skip
    intro v18 ev18
    intro σ19 eσ19
    have hσ19 : K2 σ0 σ19 := by rw [eσ19]; exact hσ14.l
    have f20 := tB64 (σ19.2 0 34)
    refine sX12_read hN hσ19 (fun r30 σ21 hσ21 kk29 p31 => ?_)
    obtain ⟨k22, k23, k24, k25, k26, k27, k28⟩ := kk29
    exact hQ _ _ hσ21 (⟨k22.trans ((kq2 (a := 0) (b := 14) eσ19).trans ((kq2 (a := 0) (b := 14) eσ14).trans (k3))), k23.trans ((kq2 (a := 0) (b := 35) eσ19).trans ((kq2 (a := 0) (b := 35) eσ14).trans (k4))), k24.trans ((kq2 (a := 0) (b := 24) eσ19).trans ((kq2 (a := 0) (b := 24) eσ14).trans (k5))), k25.trans ((kq2 (a := 0) (b := 36) eσ19).trans ((kq2 (a := 0) (b := 36) eσ14).trans (k6))), k26.trans ((kq2 (a := 0) (b := 41) eσ19).trans ((kq2 (a := 0) (b := 41) eσ14).trans (k7))), k27.trans ((kq2 (a := 0) (b := 50) eσ19).trans ((kq2 (a := 0) (b := 50) eσ14).trans (k8))), k28.trans ((kq2 (a := 0) (b := 51) eσ19).trans ((kq2 (a := 0) (b := 51) eσ14).trans (k9)))⟩) trivial
  · have f32 := tB r11
    first | have f33 := (noteqE (rfl : r11.toInt = r11.toInt) (show (1 : Int32).toInt = 1 from by decide)).mp c15 | skip
    refine ⟨fun c34 => ?_, fun c34 => ?_⟩
    · first | have f36 := (eqE (rfl : r11.toInt = r11.toInt) (show (2 : Int32).toInt = 2 from by decide)).mp c34 | skip
      intro v37 ev37
      intro σ38 eσ38
      have hσ38 : K2 σ0 σ38 := by rw [eσ38]; exact hσ14.l
      have f39 := tB64 (σ38.2 0 34)
      refine sX12_four hN hσ38 (fun r49 σ40 hσ40 kk48 p50 => ?_)
      obtain ⟨k41, k42, k43, k44, k45, k46, k47⟩ := kk48
      exact hQ _ _ hσ40 (⟨k41.trans ((kq2 (a := 0) (b := 14) eσ38).trans ((kq2 (a := 0) (b := 14) eσ14).trans (k3))), k42.trans ((kq2 (a := 0) (b := 35) eσ38).trans ((kq2 (a := 0) (b := 35) eσ14).trans (k4))), k43.trans ((kq2 (a := 0) (b := 24) eσ38).trans ((kq2 (a := 0) (b := 24) eσ14).trans (k5))), k44.trans ((kq2 (a := 0) (b := 36) eσ38).trans ((kq2 (a := 0) (b := 36) eσ14).trans (k6))), k45.trans ((kq2 (a := 0) (b := 41) eσ38).trans ((kq2 (a := 0) (b := 41) eσ14).trans (k7))), k46.trans ((kq2 (a := 0) (b := 50) eσ38).trans ((kq2 (a := 0) (b := 50) eσ14).trans (k8))), k47.trans ((kq2 (a := 0) (b := 51) eσ38).trans ((kq2 (a := 0) (b := 51) eσ14).trans (k9)))⟩) trivial
    · first | have f52 := (noteqE (rfl : r11.toInt = r11.toInt) (show (2 : Int32).toInt = 2 from by decide)).mp c34 | skip
      refine ⟨fun c53 => ?_, fun c53 => ?_⟩
      · first | have f55 := (eqE (rfl : r11.toInt = r11.toInt) (show (3 : Int32).toInt = 3 from by decide)).mp c53 | skip
        have f56 := tB64 (σ14.2 0 34)
        refine sX12_read hN hσ14 (fun r66 σ57 hσ57 kk65 p67 => ?_)
        obtain ⟨k58, k59, k60, k61, k62, k63, k64⟩ := kk65
        intro v68 ev68
        intro σ69 eσ69
        have hσ69 : K2 σ0 σ69 := by rw [eσ69]; exact hσ57.l
        have f70 := K2.g_0_35 hσ69
        have g71 : vp_in (σ69.1 0 35) 40 := inE (rfl : (σ69.1 0 35).toInt = (σ69.1 0 35).toInt) (by omega) (by omega)
        refine ⟨g71, ?_⟩
        refine ⟨fun c72 => ?_, fun c72 => ?_⟩
        · have f73 := K2.ga_9 hσ69 (σ69.1 0 35).toNatClampNeg
          have f74 := tB r66
          first | have f75 := (leE (rfl : (σ69.1 9 (σ69.1 0 35).toNatClampNeg).toInt = (σ69.1 9 (σ69.1 0 35).toNatClampNeg).toInt) (rfl : r66.toInt = r66.toInt)).mp c72 | skip
          try unfold fX12_fails
          refine ⟨fun c76 => ?_, fun c76 => ?_⟩
          · have f77 := tB (σ69.1 0 9)
            first | have f78 := (eqE (rfl : (σ69.1 0 9).toInt = (σ69.1 0 9).toInt) (show (0 : Int32).toInt = 0 from by decide)).mp c76 | skip
            try unfold fX12_fails_j16
            intro σ79 eσ79
            have hσ79 : K2 σ0 σ79 := by rw [eσ79]; exact hσ69.u (Rg2.u_0_9 _) (fun q => absurd q.2 (by decide)) (fun q => absurd q.2 (by decide))
            try dsimp only
            exact hQ _ _ hσ79 (⟨(kq (a := 0) (b := 14) eσ79 (fun q => absurd q.2 (by decide))).trans ((kq2 (a := 0) (b := 14) eσ69).trans (k58.trans ((kq2 (a := 0) (b := 14) eσ14).trans (k3)))), (kq (a := 0) (b := 35) eσ79 (fun q => absurd q.2 (by decide))).trans ((kq2 (a := 0) (b := 35) eσ69).trans (k59.trans ((kq2 (a := 0) (b := 35) eσ14).trans (k4)))), (kq (a := 0) (b := 24) eσ79 (fun q => absurd q.2 (by decide))).trans ((kq2 (a := 0) (b := 24) eσ69).trans (k60.trans ((kq2 (a := 0) (b := 24) eσ14).trans (k5)))), (kq (a := 0) (b := 36) eσ79 (fun q => absurd q.2 (by decide))).trans ((kq2 (a := 0) (b := 36) eσ69).trans (k61.trans ((kq2 (a := 0) (b := 36) eσ14).trans (k6)))), (kq (a := 0) (b := 41) eσ79 (fun q => absurd q.2 (by decide))).trans ((kq2 (a := 0) (b := 41) eσ69).trans (k62.trans ((kq2 (a := 0) (b := 41) eσ14).trans (k7)))), (kq (a := 0) (b := 50) eσ79 (fun q => absurd q.2 (by decide))).trans ((kq2 (a := 0) (b := 50) eσ69).trans (k63.trans ((kq2 (a := 0) (b := 50) eσ14).trans (k8)))), (kq (a := 0) (b := 51) eσ79 (fun q => absurd q.2 (by decide))).trans ((kq2 (a := 0) (b := 51) eσ69).trans (k64.trans ((kq2 (a := 0) (b := 51) eσ14).trans (k9))))⟩) trivial
          · have f80 := tB (σ69.1 0 9)
            first | have f81 := (noteqE (rfl : (σ69.1 0 9).toInt = (σ69.1 0 9).toInt) (show (0 : Int32).toInt = 0 from by decide)).mp c76 | skip
            try unfold fX12_fails_j16
            intro σ82 eσ82
            have hσ82 : K2 σ0 σ82 := by rw [eσ82]; exact hσ69.u (Rg2.u_0_9 _) (fun q => absurd q.2 (by decide)) (fun q => absurd q.2 (by decide))
            try dsimp only
            exact hQ _ _ hσ82 (⟨(kq (a := 0) (b := 14) eσ82 (fun q => absurd q.2 (by decide))).trans ((kq2 (a := 0) (b := 14) eσ69).trans (k58.trans ((kq2 (a := 0) (b := 14) eσ14).trans (k3)))), (kq (a := 0) (b := 35) eσ82 (fun q => absurd q.2 (by decide))).trans ((kq2 (a := 0) (b := 35) eσ69).trans (k59.trans ((kq2 (a := 0) (b := 35) eσ14).trans (k4)))), (kq (a := 0) (b := 24) eσ82 (fun q => absurd q.2 (by decide))).trans ((kq2 (a := 0) (b := 24) eσ69).trans (k60.trans ((kq2 (a := 0) (b := 24) eσ14).trans (k5)))), (kq (a := 0) (b := 36) eσ82 (fun q => absurd q.2 (by decide))).trans ((kq2 (a := 0) (b := 36) eσ69).trans (k61.trans ((kq2 (a := 0) (b := 36) eσ14).trans (k6)))), (kq (a := 0) (b := 41) eσ82 (fun q => absurd q.2 (by decide))).trans ((kq2 (a := 0) (b := 41) eσ69).trans (k62.trans ((kq2 (a := 0) (b := 41) eσ14).trans (k7)))), (kq (a := 0) (b := 50) eσ82 (fun q => absurd q.2 (by decide))).trans ((kq2 (a := 0) (b := 50) eσ69).trans (k63.trans ((kq2 (a := 0) (b := 50) eσ14).trans (k8)))), (kq (a := 0) (b := 51) eσ82 (fun q => absurd q.2 (by decide))).trans ((kq2 (a := 0) (b := 51) eσ69).trans (k64.trans ((kq2 (a := 0) (b := 51) eσ14).trans (k9))))⟩) trivial
        · have f83 := K2.ga_9 hσ69 (σ69.1 0 35).toNatClampNeg
          have f84 := tB r66
          first | have f85 := (notleE (rfl : (σ69.1 9 (σ69.1 0 35).toNatClampNeg).toInt = (σ69.1 9 (σ69.1 0 35).toNatClampNeg).toInt) (rfl : r66.toInt = r66.toInt)).mp c72 | skip
          have g88 : vp_in ((8 * (σ69.1 0 35)) + r66) 320 := inE (aOkE (mOkE (show (8 : Int32).toInt = 8 from by decide) (rfl : (σ69.1 0 35).toInt = (σ69.1 0 35).toInt) (by omega) (by omega)) (rfl : r66.toInt = r66.toInt) (by omega) (by omega)) (by omega) (by omega)
          refine ⟨g88, ?_⟩
          exact hQ _ _ hσ69 (⟨(kq2 (a := 0) (b := 14) eσ69).trans (k58.trans ((kq2 (a := 0) (b := 14) eσ14).trans (k3))), (kq2 (a := 0) (b := 35) eσ69).trans (k59.trans ((kq2 (a := 0) (b := 35) eσ14).trans (k4))), (kq2 (a := 0) (b := 24) eσ69).trans (k60.trans ((kq2 (a := 0) (b := 24) eσ14).trans (k5))), (kq2 (a := 0) (b := 36) eσ69).trans (k61.trans ((kq2 (a := 0) (b := 36) eσ14).trans (k6))), (kq2 (a := 0) (b := 41) eσ69).trans (k62.trans ((kq2 (a := 0) (b := 41) eσ14).trans (k7))), (kq2 (a := 0) (b := 50) eσ69).trans (k63.trans ((kq2 (a := 0) (b := 50) eσ14).trans (k8))), (kq2 (a := 0) (b := 51) eσ69).trans (k64.trans ((kq2 (a := 0) (b := 51) eσ14).trans (k9)))⟩) trivial
      · first | have f90 := (noteqE (rfl : r11.toInt = r11.toInt) (show (3 : Int32).toInt = 3 from by decide)).mp c53 | skip
        refine ⟨fun c91 => ?_, fun c91 => ?_⟩
        · first | have f93 := (eqE (rfl : r11.toInt = r11.toInt) (show (0 : Int32).toInt = 0 from by decide)).mp c91 | skip
          exact hQ _ _ hσ14 (⟨(kq2 (a := 0) (b := 14) eσ14).trans (k3), (kq2 (a := 0) (b := 35) eσ14).trans (k4), (kq2 (a := 0) (b := 24) eσ14).trans (k5), (kq2 (a := 0) (b := 36) eσ14).trans (k6), (kq2 (a := 0) (b := 41) eσ14).trans (k7), (kq2 (a := 0) (b := 50) eσ14).trans (k8), (kq2 (a := 0) (b := 51) eσ14).trans (k9)⟩) trivial
        · first | have f95 := (noteqE (rfl : r11.toInt = r11.toInt) (show (0 : Int32).toInt = 0 from by decide)).mp c91 | skip
          try unfold fX12_fails
          refine ⟨fun c96 => ?_, fun c96 => ?_⟩
          · have f97 := tB (σ14.1 0 9)
            first | have f98 := (eqE (rfl : (σ14.1 0 9).toInt = (σ14.1 0 9).toInt) (show (0 : Int32).toInt = 0 from by decide)).mp c96 | skip
            try unfold fX12_fails_j16
            intro σ99 eσ99
            have hσ99 : K2 σ0 σ99 := by rw [eσ99]; exact hσ14.u (Rg2.u_0_9 _) (fun q => absurd q.2 (by decide)) (fun q => absurd q.2 (by decide))
            try dsimp only
            exact hQ _ _ hσ99 (⟨(kq (a := 0) (b := 14) eσ99 (fun q => absurd q.2 (by decide))).trans ((kq2 (a := 0) (b := 14) eσ14).trans (k3)), (kq (a := 0) (b := 35) eσ99 (fun q => absurd q.2 (by decide))).trans ((kq2 (a := 0) (b := 35) eσ14).trans (k4)), (kq (a := 0) (b := 24) eσ99 (fun q => absurd q.2 (by decide))).trans ((kq2 (a := 0) (b := 24) eσ14).trans (k5)), (kq (a := 0) (b := 36) eσ99 (fun q => absurd q.2 (by decide))).trans ((kq2 (a := 0) (b := 36) eσ14).trans (k6)), (kq (a := 0) (b := 41) eσ99 (fun q => absurd q.2 (by decide))).trans ((kq2 (a := 0) (b := 41) eσ14).trans (k7)), (kq (a := 0) (b := 50) eσ99 (fun q => absurd q.2 (by decide))).trans ((kq2 (a := 0) (b := 50) eσ14).trans (k8)), (kq (a := 0) (b := 51) eσ99 (fun q => absurd q.2 (by decide))).trans ((kq2 (a := 0) (b := 51) eσ14).trans (k9))⟩) trivial
          · have f100 := tB (σ14.1 0 9)
            first | have f101 := (noteqE (rfl : (σ14.1 0 9).toInt = (σ14.1 0 9).toInt) (show (0 : Int32).toInt = 0 from by decide)).mp c96 | skip
            try unfold fX12_fails_j16
            intro σ102 eσ102
            have hσ102 : K2 σ0 σ102 := by rw [eσ102]; exact hσ14.u (Rg2.u_0_9 _) (fun q => absurd q.2 (by decide)) (fun q => absurd q.2 (by decide))
            try dsimp only
            exact hQ _ _ hσ102 (⟨(kq (a := 0) (b := 14) eσ102 (fun q => absurd q.2 (by decide))).trans ((kq2 (a := 0) (b := 14) eσ14).trans (k3)), (kq (a := 0) (b := 35) eσ102 (fun q => absurd q.2 (by decide))).trans ((kq2 (a := 0) (b := 35) eσ14).trans (k4)), (kq (a := 0) (b := 24) eσ102 (fun q => absurd q.2 (by decide))).trans ((kq2 (a := 0) (b := 24) eσ14).trans (k5)), (kq (a := 0) (b := 36) eσ102 (fun q => absurd q.2 (by decide))).trans ((kq2 (a := 0) (b := 36) eσ14).trans (k6)), (kq (a := 0) (b := 41) eσ102 (fun q => absurd q.2 (by decide))).trans ((kq2 (a := 0) (b := 41) eσ14).trans (k7)), (kq (a := 0) (b := 50) eσ102 (fun q => absurd q.2 (by decide))).trans ((kq2 (a := 0) (b := 50) eσ14).trans (k8)), (kq (a := 0) (b := 51) eσ102 (fun q => absurd q.2 (by decide))).trans ((kq2 (a := 0) (b := 51) eσ14).trans (k9))⟩) trivial
set_option maxHeartbeats 4000000 in
theorem sX12_target {N : Nat} (hN : 4294967400 ≤ N) {Q : Int32 → St → Prop} {σ0 σ : St} (hσ : K2 σ0 σ) (hQ : ∀ (r : Int32) (τ : St), K2 σ0 τ → (τ.1 0 14 = σ.1 0 14 ∧ τ.1 0 35 = σ.1 0 35 ∧ τ.1 0 24 = σ.1 0 24 ∧ τ.1 0 36 = σ.1 0 36 ∧ τ.1 0 41 = σ.1 0 41 ∧ τ.1 0 50 = σ.1 0 50 ∧ τ.1 0 51 = σ.1 0 51) → (r.toInt = 255 ∨ (0 ≤ r.toInt ∧ r.toInt ≤ 7) ∨ ¬ (τ.1 0 9).toInt = 0) → Q r τ) : fX12_target N  Q σ := by
  unfold fX12_target
  have f1 := tB64 (σ.2 0 34)
  refine sX12_read hN hσ (fun r11 σ2 hσ2 kk10 p12 => ?_)
  obtain ⟨k3, k4, k5, k6, k7, k8, k9⟩ := kk10
  intro v13 ev13
  intro σ14 eσ14
  have hσ14 : K2 σ0 σ14 := by rw [eσ14]; exact hσ2.l
  refine ⟨fun c15 => ?_, fun c15 => ?_⟩
  · have f16 := tB r11
    first | have f17 := (eqE (rfl : r11.toInt = r11.toInt) (show (255 : Int32).toInt = 255 from by decide)).mp c15 | skip
    have f19 := tB (σ14.1 0 9)
    have hrv := (rfl : r11.toInt = r11.toInt)
    exact hQ _ _ hσ14 (⟨(kq2 (a := 0) (b := 14) eσ14).trans (k3), (kq2 (a := 0) (b := 35) eσ14).trans (k4), (kq2 (a := 0) (b := 24) eσ14).trans (k5), (kq2 (a := 0) (b := 36) eσ14).trans (k6), (kq2 (a := 0) (b := 41) eσ14).trans (k7), (kq2 (a := 0) (b := 50) eσ14).trans (k8), (kq2 (a := 0) (b := 51) eσ14).trans (k9)⟩) (by omega)
  · have f20 := tB r11
    first | have f21 := (noteqE (rfl : r11.toInt = r11.toInt) (show (255 : Int32).toInt = 255 from by decide)).mp c15 | skip
    have f22 := K2.g_0_35 hσ14
    have g23 : vp_in (σ14.1 0 35) 40 := inE (rfl : (σ14.1 0 35).toInt = (σ14.1 0 35).toInt) (by omega) (by omega)
    refine ⟨g23, ?_⟩
    refine ⟨fun c24 => ?_, fun c24 => ?_⟩
    · have f26 := K2.ga_9 hσ14 (σ14.1 0 35).toNatClampNeg
      first | have f27 := (ltE (rfl : r11.toInt = r11.toInt) (rfl : (σ14.1 9 (σ14.1 0 35).toNatClampNeg).toInt = (σ14.1 9 (σ14.1 0 35).toNatClampNeg).toInt)).mp c24 | skip
      have f29 := tB (σ14.1 0 9)
      have hrv := (rfl : r11.toInt = r11.toInt)
      exact hQ _ _ hσ14 (⟨(kq2 (a := 0) (b := 14) eσ14).trans (k3), (kq2 (a := 0) (b := 35) eσ14).trans (k4), (kq2 (a := 0) (b := 24) eσ14).trans (k5), (kq2 (a := 0) (b := 36) eσ14).trans (k6), (kq2 (a := 0) (b := 41) eσ14).trans (k7), (kq2 (a := 0) (b := 50) eσ14).trans (k8), (kq2 (a := 0) (b := 51) eσ14).trans (k9)⟩) (by omega)
    · have f31 := K2.ga_9 hσ14 (σ14.1 0 35).toNatClampNeg
      first | have f32 := (notltE (rfl : r11.toInt = r11.toInt) (rfl : (σ14.1 9 (σ14.1 0 35).toNatClampNeg).toInt = (σ14.1 9 (σ14.1 0 35).toNatClampNeg).toInt)).mp c24 | skip
      try unfold fX12_fails
      refine ⟨fun c33 => ?_, fun c33 => ?_⟩
      · have f34 := tB (σ14.1 0 9)
        first | have f35 := (eqE (rfl : (σ14.1 0 9).toInt = (σ14.1 0 9).toInt) (show (0 : Int32).toInt = 0 from by decide)).mp c33 | skip
        try unfold fX12_fails_j16
        intro σ36 eσ36
        have hσ36 : K2 σ0 σ36 := by rw [eσ36]; exact hσ14.u (Rg2.u_0_9 _) (fun q => absurd q.2 (by decide)) (fun q => absurd q.2 (by decide))
        try dsimp only
        have f38 := tB (σ36.1 0 9)
        have q39 : σ36.1 0 9 = 6 := by rw [eσ36, u1_at]; exact if_pos rfl
        first | have f40 : (σ36.1 0 9).toInt = (6) := (congrArg Int32.toInt q39).trans (show (6 : Int32).toInt = 6 from by decide) | skip
        have hrv := (rfl : r11.toInt = r11.toInt)
        exact hQ _ _ hσ36 (⟨(kq (a := 0) (b := 14) eσ36 (fun q => absurd q.2 (by decide))).trans ((kq2 (a := 0) (b := 14) eσ14).trans (k3)), (kq (a := 0) (b := 35) eσ36 (fun q => absurd q.2 (by decide))).trans ((kq2 (a := 0) (b := 35) eσ14).trans (k4)), (kq (a := 0) (b := 24) eσ36 (fun q => absurd q.2 (by decide))).trans ((kq2 (a := 0) (b := 24) eσ14).trans (k5)), (kq (a := 0) (b := 36) eσ36 (fun q => absurd q.2 (by decide))).trans ((kq2 (a := 0) (b := 36) eσ14).trans (k6)), (kq (a := 0) (b := 41) eσ36 (fun q => absurd q.2 (by decide))).trans ((kq2 (a := 0) (b := 41) eσ14).trans (k7)), (kq (a := 0) (b := 50) eσ36 (fun q => absurd q.2 (by decide))).trans ((kq2 (a := 0) (b := 50) eσ14).trans (k8)), (kq (a := 0) (b := 51) eσ36 (fun q => absurd q.2 (by decide))).trans ((kq2 (a := 0) (b := 51) eσ14).trans (k9))⟩) (by omega)
      · have f41 := tB (σ14.1 0 9)
        first | have f42 := (noteqE (rfl : (σ14.1 0 9).toInt = (σ14.1 0 9).toInt) (show (0 : Int32).toInt = 0 from by decide)).mp c33 | skip
        try unfold fX12_fails_j16
        intro σ43 eσ43
        have hσ43 : K2 σ0 σ43 := by rw [eσ43]; exact hσ14.u (Rg2.u_0_9 _) (fun q => absurd q.2 (by decide)) (fun q => absurd q.2 (by decide))
        try dsimp only
        have f45 := tB (σ43.1 0 9)
        have q46 : σ43.1 0 9 = (σ14.1 0 9) := by rw [eσ43, u1_at]; exact if_pos rfl
        first | have f48 : (σ43.1 0 9).toInt = (σ14.1 0 9).toInt := (congrArg Int32.toInt q46).trans (rfl : (σ14.1 0 9).toInt = (σ14.1 0 9).toInt) | skip
        have hrv := (rfl : r11.toInt = r11.toInt)
        exact hQ _ _ hσ43 (⟨(kq (a := 0) (b := 14) eσ43 (fun q => absurd q.2 (by decide))).trans ((kq2 (a := 0) (b := 14) eσ14).trans (k3)), (kq (a := 0) (b := 35) eσ43 (fun q => absurd q.2 (by decide))).trans ((kq2 (a := 0) (b := 35) eσ14).trans (k4)), (kq (a := 0) (b := 24) eσ43 (fun q => absurd q.2 (by decide))).trans ((kq2 (a := 0) (b := 24) eσ14).trans (k5)), (kq (a := 0) (b := 36) eσ43 (fun q => absurd q.2 (by decide))).trans ((kq2 (a := 0) (b := 36) eσ14).trans (k6)), (kq (a := 0) (b := 41) eσ43 (fun q => absurd q.2 (by decide))).trans ((kq2 (a := 0) (b := 41) eσ14).trans (k7)), (kq (a := 0) (b := 50) eσ43 (fun q => absurd q.2 (by decide))).trans ((kq2 (a := 0) (b := 50) eσ14).trans (k8)), (kq (a := 0) (b := 51) eσ43 (fun q => absurd q.2 (by decide))).trans ((kq2 (a := 0) (b := 51) eσ14).trans (k9))⟩) (by omega)
set_option maxHeartbeats 4000000 in
theorem sX12_way {N : Nat} (hN : 4294967400 ≤ N) {Q : Int32 → St → Prop} {σ0 σ : St} (hσ : K2 σ0 σ) (hQ : ∀ (r : Int32) (τ : St), K2 σ0 τ → (τ.1 0 14 = σ.1 0 14 ∧ τ.1 0 35 = σ.1 0 35 ∧ τ.1 0 24 = σ.1 0 24 ∧ τ.1 0 36 = σ.1 0 36 ∧ τ.1 0 41 = σ.1 0 41 ∧ τ.1 0 50 = σ.1 0 50 ∧ τ.1 0 51 = σ.1 0 51) → True → Q r τ) : fX12_way N  Q σ := by
  unfold fX12_way
  have f1 := tB64 (σ.2 0 34)
  refine sX12_read hN hσ (fun r11 σ2 hσ2 kk10 p12 => ?_)
  obtain ⟨k3, k4, k5, k6, k7, k8, k9⟩ := kk10
  intro v13 ev13
  have f14 := tB64 (σ2.2 0 34)
  refine sX12_read hN hσ2 (fun r24 σ15 hσ15 kk23 p25 => ?_)
  obtain ⟨k16, k17, k18, k19, k20, k21, k22⟩ := kk23
  intro v26 ev26
  intro σ27 eσ27
  have hσ27 : K2 σ0 σ27 := by rw [eσ27]; exact hσ15.l
  exact hQ _ _ hσ27 (⟨(kq2 (a := 0) (b := 14) eσ27).trans (k16.trans (k3)), (kq2 (a := 0) (b := 35) eσ27).trans (k17.trans (k4)), (kq2 (a := 0) (b := 24) eσ27).trans (k18.trans (k5)), (kq2 (a := 0) (b := 36) eσ27).trans (k19.trans (k6)), (kq2 (a := 0) (b := 41) eσ27).trans (k20.trans (k7)), (kq2 (a := 0) (b := 50) eσ27).trans (k21.trans (k8)), (kq2 (a := 0) (b := 51) eσ27).trans (k22.trans (k9))⟩) trivial
set_option maxHeartbeats 4000000 in
theorem sX12_put {N : Nat} (hN : 4294967400 ≤ N) {x1 : Int32} {x2 : Int32} {Q : St → Prop} {σ0 σ : St} (hx0 : (x1.toInt = 255 ∨ (0 ≤ x1.toInt ∧ x1.toInt ≤ 7) ∨ ¬ (σ.1 0 9).toInt = 0)) (hσ : K2 σ0 σ) (hQ : ∀ τ : St, K2 σ0 τ → (τ.1 0 14 = σ.1 0 14 ∧ τ.1 0 9 = σ.1 0 9 ∧ τ.1 0 35 = σ.1 0 35 ∧ τ.1 0 24 = σ.1 0 24 ∧ τ.1 0 36 = σ.1 0 36 ∧ τ.1 0 41 = σ.1 0 41 ∧ τ.1 0 50 = σ.1 0 50 ∧ τ.1 0 51 = σ.1 0 51) → Q τ) : fX12_put N x1 x2 Q σ := by
  unfold fX12_put
  refine ⟨fun c1 => ?_, fun c1 => ?_⟩
  · have f2 := tB (σ.1 0 9)
    first | have f3 := (eqE (rfl : (σ.1 0 9).toInt = (σ.1 0 9).toInt) (show (0 : Int32).toInt = 0 from by decide)).mp c1 | skip
    refine ⟨fun c4 => ?_, fun c4 => ?_⟩
    · have f5 := tB x1
      first | have f6 := (eqE (rfl : x1.toInt = x1.toInt) (show (255 : Int32).toInt = 255 from by decide)).mp c4 | skip
      exact hQ _ hσ (⟨rfl, rfl, rfl, rfl, rfl, rfl, rfl, rfl⟩)
    · have f7 := tB x1
      first | have f8 := (noteqE (rfl : x1.toInt = x1.toInt) (show (255 : Int32).toInt = 255 from by decide)).mp c4 | skip
      have f9 := K2.g_0_35 hσ
      refine ⟨inE (aOkE (mOkE (show (8 : Int32).toInt = 8 from by decide) (rfl : (σ.1 0 35).toInt = (σ.1 0 35).toInt) (by omega) (by omega)) (rfl : x1.toInt = x1.toInt) (by omega) (by omega)) (by omega) (by omega), ?_⟩
      intro σ11 eσ11
      have hσ11 : K2 σ0 σ11 := by rw [eσ11]; exact hσ.u (Rg2.ra_10 _ _) (fun q => absurd q.1 (by decide)) (fun q => absurd q.1 (by decide))
      exact hQ _ hσ11 (⟨(kq (a := 0) (b := 14) eσ11 (fun q => absurd q.1 (by decide))), (kq (a := 0) (b := 9) eσ11 (fun q => absurd q.1 (by decide))), (kq (a := 0) (b := 35) eσ11 (fun q => absurd q.1 (by decide))), (kq (a := 0) (b := 24) eσ11 (fun q => absurd q.1 (by decide))), (kq (a := 0) (b := 36) eσ11 (fun q => absurd q.1 (by decide))), (kq (a := 0) (b := 41) eσ11 (fun q => absurd q.1 (by decide))), (kq (a := 0) (b := 50) eσ11 (fun q => absurd q.1 (by decide))), (kq (a := 0) (b := 51) eσ11 (fun q => absurd q.1 (by decide)))⟩)
  · have f12 := tB (σ.1 0 9)
    first | have f13 := (noteqE (rfl : (σ.1 0 9).toInt = (σ.1 0 9).toInt) (show (0 : Int32).toInt = 0 from by decide)).mp c1 | skip
    exact hQ _ hσ (⟨rfl, rfl, rfl, rfl, rfl, rfl, rfl, rfl⟩)
set_option maxHeartbeats 4000000 in
theorem sX12_failed {N : Nat} (hN : 4294967400 ≤ N) {Q : Int32 → St → Prop} {σ0 σ : St} (hσ : K2 σ0 σ) (hQ : ∀ (r : Int32) (τ : St), K2 σ0 τ → (τ.1 0 9 = σ.1 0 9 ∧ τ.1 0 35 = σ.1 0 35 ∧ τ.1 0 24 = σ.1 0 24 ∧ τ.1 0 36 = σ.1 0 36 ∧ τ.1 0 41 = σ.1 0 41 ∧ τ.1 0 50 = σ.1 0 50 ∧ τ.1 0 51 = σ.1 0 51) → True → Q r τ) : fX12_failed N  Q σ := by
  unfold fX12_failed
  intro σ1 eσ1
  have hσ1 : K2 σ0 σ1 := by rw [eσ1]; exact hσ.u (Rg2.r_0_14 (leP (show (0 : Int32).toInt = 0 from by decide) (by omega)) (geP (show (0 : Int32).toInt = 0 from by decide) (by omega))) (fun q => absurd q.2 (by decide)) (fun q => absurd q.2 (by decide))
  intro v2 ev2
  intro σ3 eσ3
  have hσ3 : K2 σ0 σ3 := by rw [eσ3]; exact hσ1.u (Rg2.u_0_29 _) (fun q => absurd q.2 (by decide)) (fun q => absurd q.2 (by decide))
  intro v4 ev4
  intro σ5 eσ5
  have hσ5 : K2 σ0 σ5 := by rw [eσ5]; exact hσ3.u (Rg2.u_0_30 _) (fun q => absurd q.2 (by decide)) (fun q => absurd q.2 (by decide))
  exact hQ _ _ hσ5 (⟨(kq (a := 0) (b := 9) eσ5 (fun q => absurd q.2 (by decide))).trans ((kq (a := 0) (b := 9) eσ3 (fun q => absurd q.2 (by decide))).trans ((kq (a := 0) (b := 9) eσ1 (fun q => absurd q.2 (by decide))))), (kq (a := 0) (b := 35) eσ5 (fun q => absurd q.2 (by decide))).trans ((kq (a := 0) (b := 35) eσ3 (fun q => absurd q.2 (by decide))).trans ((kq (a := 0) (b := 35) eσ1 (fun q => absurd q.2 (by decide))))), (kq (a := 0) (b := 24) eσ5 (fun q => absurd q.2 (by decide))).trans ((kq (a := 0) (b := 24) eσ3 (fun q => absurd q.2 (by decide))).trans ((kq (a := 0) (b := 24) eσ1 (fun q => absurd q.2 (by decide))))), (kq (a := 0) (b := 36) eσ5 (fun q => absurd q.2 (by decide))).trans ((kq (a := 0) (b := 36) eσ3 (fun q => absurd q.2 (by decide))).trans ((kq (a := 0) (b := 36) eσ1 (fun q => absurd q.2 (by decide))))), (kq (a := 0) (b := 41) eσ5 (fun q => absurd q.2 (by decide))).trans ((kq (a := 0) (b := 41) eσ3 (fun q => absurd q.2 (by decide))).trans ((kq (a := 0) (b := 41) eσ1 (fun q => absurd q.2 (by decide))))), (kq (a := 0) (b := 50) eσ5 (fun q => absurd q.2 (by decide))).trans ((kq (a := 0) (b := 50) eσ3 (fun q => absurd q.2 (by decide))).trans ((kq (a := 0) (b := 50) eσ1 (fun q => absurd q.2 (by decide))))), (kq (a := 0) (b := 51) eσ5 (fun q => absurd q.2 (by decide))).trans ((kq (a := 0) (b := 51) eσ3 (fun q => absurd q.2 (by decide))).trans ((kq (a := 0) (b := 51) eσ1 (fun q => absurd q.2 (by decide)))))⟩) trivial
set_option maxHeartbeats 4000000 in
theorem sX12_stop {N : Nat} (hN : 4294967400 ≤ N) {Q : Int32 → St → Prop} {σ0 σ : St} (hσ : K2 σ0 σ) (hQ : ∀ (r : Int32) (τ : St), K2 σ0 τ → (τ.1 0 9 = σ.1 0 9 ∧ τ.1 0 35 = σ.1 0 35 ∧ τ.1 0 24 = σ.1 0 24 ∧ τ.1 0 36 = σ.1 0 36 ∧ τ.1 0 41 = σ.1 0 41 ∧ τ.1 0 50 = σ.1 0 50 ∧ τ.1 0 51 = σ.1 0 51) → True → Q r τ) : fX12_stop N  Q σ := by
  unfold fX12_stop
  intro v1 ev1
  intro σ2 eσ2
  have hσ2 : K2 σ0 σ2 := by rw [eσ2]; exact hσ.u (Rg2.r_0_14 (leP (show (0 : Int32).toInt = 0 from by decide) (by omega)) (geP (show (0 : Int32).toInt = 0 from by decide) (by omega))) (fun q => absurd q.2 (by decide)) (fun q => absurd q.2 (by decide))
  exact hQ _ _ hσ2 (⟨(kq (a := 0) (b := 9) eσ2 (fun q => absurd q.2 (by decide))), (kq (a := 0) (b := 35) eσ2 (fun q => absurd q.2 (by decide))), (kq (a := 0) (b := 24) eσ2 (fun q => absurd q.2 (by decide))), (kq (a := 0) (b := 36) eσ2 (fun q => absurd q.2 (by decide))), (kq (a := 0) (b := 41) eσ2 (fun q => absurd q.2 (by decide))), (kq (a := 0) (b := 50) eσ2 (fun q => absurd q.2 (by decide))), (kq (a := 0) (b := 51) eσ2 (fun q => absurd q.2 (by decide)))⟩) trivial
set_option maxHeartbeats 4000000 in
theorem sX12_jobs {N : Nat} (hN : 4294967400 ≤ N) {Q : Int32 → St → Prop} {σ0 σ : St} (hσ : K2 σ0 σ) (hQ : ∀ r : Int32, True → Q r σ) : fX12_jobs N  Q σ := by
  unfold fX12_jobs
  exact hQ _ trivial
set_option maxHeartbeats 4000000 in
theorem sX12_job {N : Nat} (hN : 4294967400 ≤ N) {x1 : Int32} {x2 : Int32} {Q : Int32 → St → Prop} {σ0 σ : St} (hσ : K2 σ0 σ) (hQ : ∀ r : Int32, True → Q r σ) : fX12_job N x1 x2 Q σ := by
  unfold fX12_job
  try unfold fX12_in
  refine ⟨fun c1 => ?_, fun c1 => ?_⟩
  · have f2 := tB x1
    first | have f3 := (ltE64 (i2lE (rfl : x1.toInt = x1.toInt)) (show (0 : Int64).toInt = 0 from by decide)).mp c1 | skip
    try dsimp only
    refine ⟨fun c4 => ?_, fun c4 => ?_⟩
    · first | have f5 := (eqE (show (0 : Int32).toInt = 0 from by decide) (show (0 : Int32).toInt = 0 from by decide)).mp c4 | skip
      exact hQ _ trivial
    · first | have f6 := (noteqE (show (0 : Int32).toInt = 0 from by decide) (show (0 : Int32).toInt = 0 from by decide)).mp c4 | skip
      refine ⟨fun c7 => ?_, fun c7 => ?_⟩
      · have f8 := tB x2
        first | have f9 := (eqE (rfl : x2.toInt = x2.toInt) (show (0 : Int32).toInt = 0 from by decide)).mp c7 | skip
        have g11 : vp_in x1 40 := inE (rfl : x1.toInt = x1.toInt) (by omega) (by omega)
        refine ⟨g11, ?_⟩
        exact hQ _ trivial
      · have f12 := tB x2
        first | have f13 := (noteqE (rfl : x2.toInt = x2.toInt) (show (0 : Int32).toInt = 0 from by decide)).mp c7 | skip
        refine ⟨fun c14 => ?_, fun c14 => ?_⟩
        · first | have f16 := (eqE (rfl : x2.toInt = x2.toInt) (show (1 : Int32).toInt = 1 from by decide)).mp c14 | skip
          have g18 : vp_in x1 40 := inE (rfl : x1.toInt = x1.toInt) (by omega) (by omega)
          refine ⟨g18, ?_⟩
          exact hQ _ trivial
        · first | have f20 := (noteqE (rfl : x2.toInt = x2.toInt) (show (1 : Int32).toInt = 1 from by decide)).mp c14 | skip
          refine ⟨fun c21 => ?_, fun c21 => ?_⟩
          · first | have f23 := (eqE (rfl : x2.toInt = x2.toInt) (show (2 : Int32).toInt = 2 from by decide)).mp c21 | skip
            have g25 : vp_in x1 40 := inE (rfl : x1.toInt = x1.toInt) (by omega) (by omega)
            refine ⟨g25, ?_⟩
            exact hQ _ trivial
          · first | have f27 := (noteqE (rfl : x2.toInt = x2.toInt) (show (2 : Int32).toInt = 2 from by decide)).mp c21 | skip
            refine ⟨fun c28 => ?_, fun c28 => ?_⟩
            · first | have f30 := (eqE (rfl : x2.toInt = x2.toInt) (show (3 : Int32).toInt = 3 from by decide)).mp c28 | skip
              have g32 : vp_in x1 40 := inE (rfl : x1.toInt = x1.toInt) (by omega) (by omega)
              refine ⟨g32, ?_⟩
              exact hQ _ trivial
            · first | have f34 := (noteqE (rfl : x2.toInt = x2.toInt) (show (3 : Int32).toInt = 3 from by decide)).mp c28 | skip
              refine ⟨fun c35 => ?_, fun c35 => ?_⟩
              · first | have f37 := (eqE (rfl : x2.toInt = x2.toInt) (show (4 : Int32).toInt = 4 from by decide)).mp c35 | skip
                have g39 : vp_in x1 40 := inE (rfl : x1.toInt = x1.toInt) (by omega) (by omega)
                refine ⟨g39, ?_⟩
                refine ⟨fun c40 => ?_, fun c40 => ?_⟩
                · have f41 := tB (σ.1 6 x1.toNatClampNeg)
                  first | have f42 := (eqE (rfl : (σ.1 6 x1.toNatClampNeg).toInt = (σ.1 6 x1.toNatClampNeg).toInt) (show (3 : Int32).toInt = 3 from by decide)).mp c40 | skip
                  have g44 : vp_in x1 40 := inE (rfl : x1.toInt = x1.toInt) (by omega) (by omega)
                  refine ⟨g44, ?_⟩
                  refine ⟨fun c45 => ?_, fun c45 => ?_⟩
                  · have f46 := tB (σ.1 11 x1.toNatClampNeg)
                    first | have f47 := (eqE (rfl : (σ.1 11 x1.toNatClampNeg).toInt = (σ.1 11 x1.toNatClampNeg).toInt) (show (0 : Int32).toInt = 0 from by decide)).mp c45 | skip
                    have g49 : vp_in x1 40 := inE (rfl : x1.toInt = x1.toInt) (by omega) (by omega)
                    refine ⟨g49, ?_⟩
                    exact hQ _ trivial
                  · have f50 := tB (σ.1 11 x1.toNatClampNeg)
                    first | have f51 := (noteqE (rfl : (σ.1 11 x1.toNatClampNeg).toInt = (σ.1 11 x1.toNatClampNeg).toInt) (show (0 : Int32).toInt = 0 from by decide)).mp c45 | skip
                    exact hQ _ trivial
                · have f52 := tB (σ.1 6 x1.toNatClampNeg)
                  first | have f53 := (noteqE (rfl : (σ.1 6 x1.toNatClampNeg).toInt = (σ.1 6 x1.toNatClampNeg).toInt) (show (3 : Int32).toInt = 3 from by decide)).mp c40 | skip
                  exact hQ _ trivial
              · first | have f55 := (noteqE (rfl : x2.toInt = x2.toInt) (show (4 : Int32).toInt = 4 from by decide)).mp c35 | skip
                have g57 : vp_in x1 40 := inE (rfl : x1.toInt = x1.toInt) (by omega) (by omega)
                refine ⟨g57, ?_⟩
                try unfold fX12_in
                refine ⟨fun c58 => ?_, fun c58 => ?_⟩
                · first | have f60 := (ltE64 (i2lE (rfl : x2.toInt = x2.toInt)) (show (10 : Int64).toInt = 10 from by decide)).mp c58 | skip
                  try dsimp only
                  refine ⟨fun c61 => ?_, fun c61 => ?_⟩
                  · first | have f62 := (eqE (show (0 : Int32).toInt = 0 from by decide) (show (0 : Int32).toInt = 0 from by decide)).mp c61 | skip
                    exact hQ _ trivial
                  · first | have f63 := (noteqE (show (0 : Int32).toInt = 0 from by decide) (show (0 : Int32).toInt = 0 from by decide)).mp c61 | skip
                    have g66 : vp_in (((8 * x1) + x2) - 10) 320 := inE (sOkE (aOkE (mOkE (show (8 : Int32).toInt = 8 from by decide) (rfl : x1.toInt = x1.toInt) (by omega) (by omega)) (rfl : x2.toInt = x2.toInt) (by omega) (by omega)) (show (10 : Int32).toInt = 10 from by decide) (by omega) (by omega)) (by omega) (by omega)
                    refine ⟨g66, ?_⟩
                    exact hQ _ trivial
                · first | have f68 := (notltE64 (i2lE (rfl : x2.toInt = x2.toInt)) (show (10 : Int64).toInt = 10 from by decide)).mp c58 | skip
                  refine ⟨fun c69 => ?_, fun c69 => ?_⟩
                  · have f70 := K2.ga_9 hσ x1.toNatClampNeg
                    first | have f72 := (ltE64 (aOkE64 (show (9 : Int64).toInt = 9 from by decide) (i2lE (rfl : (σ.1 9 x1.toNatClampNeg).toInt = (σ.1 9 x1.toNatClampNeg).toInt)) (by omega) (by omega)) (i2lE (rfl : x2.toInt = x2.toInt))).mp c69 | skip
                    try dsimp only
                    refine ⟨fun c73 => ?_, fun c73 => ?_⟩
                    · first | have f74 := (eqE (show (0 : Int32).toInt = 0 from by decide) (show (0 : Int32).toInt = 0 from by decide)).mp c73 | skip
                      exact hQ _ trivial
                    · first | have f75 := (noteqE (show (0 : Int32).toInt = 0 from by decide) (show (0 : Int32).toInt = 0 from by decide)).mp c73 | skip
                      have g78 : vp_in (((8 * x1) + x2) - 10) 320 := inE (sOkE (aOkE (mOkE (show (8 : Int32).toInt = 8 from by decide) (rfl : x1.toInt = x1.toInt) (by omega) (by omega)) (rfl : x2.toInt = x2.toInt) (by omega) (by omega)) (show (10 : Int32).toInt = 10 from by decide) (by omega) (by omega)) (by omega) (by omega)
                      refine ⟨g78, ?_⟩
                      exact hQ _ trivial
                  · have f79 := K2.ga_9 hσ x1.toNatClampNeg
                    first | have f81 := (notltE64 (aOkE64 (show (9 : Int64).toInt = 9 from by decide) (i2lE (rfl : (σ.1 9 x1.toNatClampNeg).toInt = (σ.1 9 x1.toNatClampNeg).toInt)) (by omega) (by omega)) (i2lE (rfl : x2.toInt = x2.toInt))).mp c69 | skip
                    try dsimp only
                    refine ⟨fun c82 => ?_, fun c82 => ?_⟩
                    · first | have f83 := (eqE (show (1 : Int32).toInt = 1 from by decide) (show (0 : Int32).toInt = 0 from by decide)).mp c82 | skip
                      exact hQ _ trivial
                    · first | have f84 := (noteqE (show (1 : Int32).toInt = 1 from by decide) (show (0 : Int32).toInt = 0 from by decide)).mp c82 | skip
                      have g87 : vp_in (((8 * x1) + x2) - 10) 320 := inE (sOkE (aOkE (mOkE (show (8 : Int32).toInt = 8 from by decide) (rfl : x1.toInt = x1.toInt) (by omega) (by omega)) (rfl : x2.toInt = x2.toInt) (by omega) (by omega)) (show (10 : Int32).toInt = 10 from by decide) (by omega) (by omega)) (by omega) (by omega)
                      refine ⟨g87, ?_⟩
                      exact hQ _ trivial
  · have f88 := tB x1
    first | have f89 := (notltE64 (i2lE (rfl : x1.toInt = x1.toInt)) (show (0 : Int64).toInt = 0 from by decide)).mp c1 | skip
    refine ⟨fun c90 => ?_, fun c90 => ?_⟩
    · have f91 := K2.g_0_14 hσ
      first | have f93 := (ltE64 (i2lE (sOkE (rfl : (σ.1 0 14).toInt = (σ.1 0 14).toInt) (show (1 : Int32).toInt = 1 from by decide) (by omega) (by omega))) (i2lE (rfl : x1.toInt = x1.toInt))).mp c90 | skip
      try dsimp only
      refine ⟨fun c94 => ?_, fun c94 => ?_⟩
      · first | have f95 := (eqE (show (0 : Int32).toInt = 0 from by decide) (show (0 : Int32).toInt = 0 from by decide)).mp c94 | skip
        exact hQ _ trivial
      · first | have f96 := (noteqE (show (0 : Int32).toInt = 0 from by decide) (show (0 : Int32).toInt = 0 from by decide)).mp c94 | skip
        refine ⟨fun c97 => ?_, fun c97 => ?_⟩
        · have f98 := tB x2
          first | have f99 := (eqE (rfl : x2.toInt = x2.toInt) (show (0 : Int32).toInt = 0 from by decide)).mp c97 | skip
          have g101 : vp_in x1 40 := inE (rfl : x1.toInt = x1.toInt) (by omega) (by omega)
          refine ⟨g101, ?_⟩
          exact hQ _ trivial
        · have f102 := tB x2
          first | have f103 := (noteqE (rfl : x2.toInt = x2.toInt) (show (0 : Int32).toInt = 0 from by decide)).mp c97 | skip
          refine ⟨fun c104 => ?_, fun c104 => ?_⟩
          · first | have f106 := (eqE (rfl : x2.toInt = x2.toInt) (show (1 : Int32).toInt = 1 from by decide)).mp c104 | skip
            have g108 : vp_in x1 40 := inE (rfl : x1.toInt = x1.toInt) (by omega) (by omega)
            refine ⟨g108, ?_⟩
            exact hQ _ trivial
          · first | have f110 := (noteqE (rfl : x2.toInt = x2.toInt) (show (1 : Int32).toInt = 1 from by decide)).mp c104 | skip
            refine ⟨fun c111 => ?_, fun c111 => ?_⟩
            · first | have f113 := (eqE (rfl : x2.toInt = x2.toInt) (show (2 : Int32).toInt = 2 from by decide)).mp c111 | skip
              have g115 : vp_in x1 40 := inE (rfl : x1.toInt = x1.toInt) (by omega) (by omega)
              refine ⟨g115, ?_⟩
              exact hQ _ trivial
            · first | have f117 := (noteqE (rfl : x2.toInt = x2.toInt) (show (2 : Int32).toInt = 2 from by decide)).mp c111 | skip
              refine ⟨fun c118 => ?_, fun c118 => ?_⟩
              · first | have f120 := (eqE (rfl : x2.toInt = x2.toInt) (show (3 : Int32).toInt = 3 from by decide)).mp c118 | skip
                have g122 : vp_in x1 40 := inE (rfl : x1.toInt = x1.toInt) (by omega) (by omega)
                refine ⟨g122, ?_⟩
                exact hQ _ trivial
              · first | have f124 := (noteqE (rfl : x2.toInt = x2.toInt) (show (3 : Int32).toInt = 3 from by decide)).mp c118 | skip
                refine ⟨fun c125 => ?_, fun c125 => ?_⟩
                · first | have f127 := (eqE (rfl : x2.toInt = x2.toInt) (show (4 : Int32).toInt = 4 from by decide)).mp c125 | skip
                  have g129 : vp_in x1 40 := inE (rfl : x1.toInt = x1.toInt) (by omega) (by omega)
                  refine ⟨g129, ?_⟩
                  refine ⟨fun c130 => ?_, fun c130 => ?_⟩
                  · have f131 := tB (σ.1 6 x1.toNatClampNeg)
                    first | have f132 := (eqE (rfl : (σ.1 6 x1.toNatClampNeg).toInt = (σ.1 6 x1.toNatClampNeg).toInt) (show (3 : Int32).toInt = 3 from by decide)).mp c130 | skip
                    have g134 : vp_in x1 40 := inE (rfl : x1.toInt = x1.toInt) (by omega) (by omega)
                    refine ⟨g134, ?_⟩
                    refine ⟨fun c135 => ?_, fun c135 => ?_⟩
                    · have f136 := tB (σ.1 11 x1.toNatClampNeg)
                      first | have f137 := (eqE (rfl : (σ.1 11 x1.toNatClampNeg).toInt = (σ.1 11 x1.toNatClampNeg).toInt) (show (0 : Int32).toInt = 0 from by decide)).mp c135 | skip
                      have g139 : vp_in x1 40 := inE (rfl : x1.toInt = x1.toInt) (by omega) (by omega)
                      refine ⟨g139, ?_⟩
                      exact hQ _ trivial
                    · have f140 := tB (σ.1 11 x1.toNatClampNeg)
                      first | have f141 := (noteqE (rfl : (σ.1 11 x1.toNatClampNeg).toInt = (σ.1 11 x1.toNatClampNeg).toInt) (show (0 : Int32).toInt = 0 from by decide)).mp c135 | skip
                      exact hQ _ trivial
                  · have f142 := tB (σ.1 6 x1.toNatClampNeg)
                    first | have f143 := (noteqE (rfl : (σ.1 6 x1.toNatClampNeg).toInt = (σ.1 6 x1.toNatClampNeg).toInt) (show (3 : Int32).toInt = 3 from by decide)).mp c130 | skip
                    exact hQ _ trivial
                · first | have f145 := (noteqE (rfl : x2.toInt = x2.toInt) (show (4 : Int32).toInt = 4 from by decide)).mp c125 | skip
                  have g147 : vp_in x1 40 := inE (rfl : x1.toInt = x1.toInt) (by omega) (by omega)
                  refine ⟨g147, ?_⟩
                  try unfold fX12_in
                  refine ⟨fun c148 => ?_, fun c148 => ?_⟩
                  · first | have f150 := (ltE64 (i2lE (rfl : x2.toInt = x2.toInt)) (show (10 : Int64).toInt = 10 from by decide)).mp c148 | skip
                    try dsimp only
                    refine ⟨fun c151 => ?_, fun c151 => ?_⟩
                    · first | have f152 := (eqE (show (0 : Int32).toInt = 0 from by decide) (show (0 : Int32).toInt = 0 from by decide)).mp c151 | skip
                      exact hQ _ trivial
                    · first | have f153 := (noteqE (show (0 : Int32).toInt = 0 from by decide) (show (0 : Int32).toInt = 0 from by decide)).mp c151 | skip
                      have g156 : vp_in (((8 * x1) + x2) - 10) 320 := inE (sOkE (aOkE (mOkE (show (8 : Int32).toInt = 8 from by decide) (rfl : x1.toInt = x1.toInt) (by omega) (by omega)) (rfl : x2.toInt = x2.toInt) (by omega) (by omega)) (show (10 : Int32).toInt = 10 from by decide) (by omega) (by omega)) (by omega) (by omega)
                      refine ⟨g156, ?_⟩
                      exact hQ _ trivial
                  · first | have f158 := (notltE64 (i2lE (rfl : x2.toInt = x2.toInt)) (show (10 : Int64).toInt = 10 from by decide)).mp c148 | skip
                    refine ⟨fun c159 => ?_, fun c159 => ?_⟩
                    · have f160 := K2.ga_9 hσ x1.toNatClampNeg
                      first | have f162 := (ltE64 (aOkE64 (show (9 : Int64).toInt = 9 from by decide) (i2lE (rfl : (σ.1 9 x1.toNatClampNeg).toInt = (σ.1 9 x1.toNatClampNeg).toInt)) (by omega) (by omega)) (i2lE (rfl : x2.toInt = x2.toInt))).mp c159 | skip
                      try dsimp only
                      refine ⟨fun c163 => ?_, fun c163 => ?_⟩
                      · first | have f164 := (eqE (show (0 : Int32).toInt = 0 from by decide) (show (0 : Int32).toInt = 0 from by decide)).mp c163 | skip
                        exact hQ _ trivial
                      · first | have f165 := (noteqE (show (0 : Int32).toInt = 0 from by decide) (show (0 : Int32).toInt = 0 from by decide)).mp c163 | skip
                        have g168 : vp_in (((8 * x1) + x2) - 10) 320 := inE (sOkE (aOkE (mOkE (show (8 : Int32).toInt = 8 from by decide) (rfl : x1.toInt = x1.toInt) (by omega) (by omega)) (rfl : x2.toInt = x2.toInt) (by omega) (by omega)) (show (10 : Int32).toInt = 10 from by decide) (by omega) (by omega)) (by omega) (by omega)
                        refine ⟨g168, ?_⟩
                        exact hQ _ trivial
                    · have f169 := K2.ga_9 hσ x1.toNatClampNeg
                      first | have f171 := (notltE64 (aOkE64 (show (9 : Int64).toInt = 9 from by decide) (i2lE (rfl : (σ.1 9 x1.toNatClampNeg).toInt = (σ.1 9 x1.toNatClampNeg).toInt)) (by omega) (by omega)) (i2lE (rfl : x2.toInt = x2.toInt))).mp c159 | skip
                      try dsimp only
                      refine ⟨fun c172 => ?_, fun c172 => ?_⟩
                      · first | have f173 := (eqE (show (1 : Int32).toInt = 1 from by decide) (show (0 : Int32).toInt = 0 from by decide)).mp c172 | skip
                        exact hQ _ trivial
                      · first | have f174 := (noteqE (show (1 : Int32).toInt = 1 from by decide) (show (0 : Int32).toInt = 0 from by decide)).mp c172 | skip
                        have g177 : vp_in (((8 * x1) + x2) - 10) 320 := inE (sOkE (aOkE (mOkE (show (8 : Int32).toInt = 8 from by decide) (rfl : x1.toInt = x1.toInt) (by omega) (by omega)) (rfl : x2.toInt = x2.toInt) (by omega) (by omega)) (show (10 : Int32).toInt = 10 from by decide) (by omega) (by omega)) (by omega) (by omega)
                        refine ⟨g177, ?_⟩
                        exact hQ _ trivial
    · have f178 := K2.g_0_14 hσ
      first | have f180 := (notltE64 (i2lE (sOkE (rfl : (σ.1 0 14).toInt = (σ.1 0 14).toInt) (show (1 : Int32).toInt = 1 from by decide) (by omega) (by omega))) (i2lE (rfl : x1.toInt = x1.toInt))).mp c90 | skip
      try dsimp only
      refine ⟨fun c181 => ?_, fun c181 => ?_⟩
      · first | have f182 := (eqE (show (1 : Int32).toInt = 1 from by decide) (show (0 : Int32).toInt = 0 from by decide)).mp c181 | skip
        exact hQ _ trivial
      · first | have f183 := (noteqE (show (1 : Int32).toInt = 1 from by decide) (show (0 : Int32).toInt = 0 from by decide)).mp c181 | skip
        refine ⟨fun c184 => ?_, fun c184 => ?_⟩
        · have f185 := tB x2
          first | have f186 := (eqE (rfl : x2.toInt = x2.toInt) (show (0 : Int32).toInt = 0 from by decide)).mp c184 | skip
          have g188 : vp_in x1 40 := inE (rfl : x1.toInt = x1.toInt) (by omega) (by omega)
          refine ⟨g188, ?_⟩
          exact hQ _ trivial
        · have f189 := tB x2
          first | have f190 := (noteqE (rfl : x2.toInt = x2.toInt) (show (0 : Int32).toInt = 0 from by decide)).mp c184 | skip
          refine ⟨fun c191 => ?_, fun c191 => ?_⟩
          · first | have f193 := (eqE (rfl : x2.toInt = x2.toInt) (show (1 : Int32).toInt = 1 from by decide)).mp c191 | skip
            have g195 : vp_in x1 40 := inE (rfl : x1.toInt = x1.toInt) (by omega) (by omega)
            refine ⟨g195, ?_⟩
            exact hQ _ trivial
          · first | have f197 := (noteqE (rfl : x2.toInt = x2.toInt) (show (1 : Int32).toInt = 1 from by decide)).mp c191 | skip
            refine ⟨fun c198 => ?_, fun c198 => ?_⟩
            · first | have f200 := (eqE (rfl : x2.toInt = x2.toInt) (show (2 : Int32).toInt = 2 from by decide)).mp c198 | skip
              have g202 : vp_in x1 40 := inE (rfl : x1.toInt = x1.toInt) (by omega) (by omega)
              refine ⟨g202, ?_⟩
              exact hQ _ trivial
            · first | have f204 := (noteqE (rfl : x2.toInt = x2.toInt) (show (2 : Int32).toInt = 2 from by decide)).mp c198 | skip
              refine ⟨fun c205 => ?_, fun c205 => ?_⟩
              · first | have f207 := (eqE (rfl : x2.toInt = x2.toInt) (show (3 : Int32).toInt = 3 from by decide)).mp c205 | skip
                have g209 : vp_in x1 40 := inE (rfl : x1.toInt = x1.toInt) (by omega) (by omega)
                refine ⟨g209, ?_⟩
                exact hQ _ trivial
              · first | have f211 := (noteqE (rfl : x2.toInt = x2.toInt) (show (3 : Int32).toInt = 3 from by decide)).mp c205 | skip
                refine ⟨fun c212 => ?_, fun c212 => ?_⟩
                · first | have f214 := (eqE (rfl : x2.toInt = x2.toInt) (show (4 : Int32).toInt = 4 from by decide)).mp c212 | skip
                  have g216 : vp_in x1 40 := inE (rfl : x1.toInt = x1.toInt) (by omega) (by omega)
                  refine ⟨g216, ?_⟩
                  refine ⟨fun c217 => ?_, fun c217 => ?_⟩
                  · have f218 := tB (σ.1 6 x1.toNatClampNeg)
                    first | have f219 := (eqE (rfl : (σ.1 6 x1.toNatClampNeg).toInt = (σ.1 6 x1.toNatClampNeg).toInt) (show (3 : Int32).toInt = 3 from by decide)).mp c217 | skip
                    have g221 : vp_in x1 40 := inE (rfl : x1.toInt = x1.toInt) (by omega) (by omega)
                    refine ⟨g221, ?_⟩
                    refine ⟨fun c222 => ?_, fun c222 => ?_⟩
                    · have f223 := tB (σ.1 11 x1.toNatClampNeg)
                      first | have f224 := (eqE (rfl : (σ.1 11 x1.toNatClampNeg).toInt = (σ.1 11 x1.toNatClampNeg).toInt) (show (0 : Int32).toInt = 0 from by decide)).mp c222 | skip
                      have g226 : vp_in x1 40 := inE (rfl : x1.toInt = x1.toInt) (by omega) (by omega)
                      refine ⟨g226, ?_⟩
                      exact hQ _ trivial
                    · have f227 := tB (σ.1 11 x1.toNatClampNeg)
                      first | have f228 := (noteqE (rfl : (σ.1 11 x1.toNatClampNeg).toInt = (σ.1 11 x1.toNatClampNeg).toInt) (show (0 : Int32).toInt = 0 from by decide)).mp c222 | skip
                      exact hQ _ trivial
                  · have f229 := tB (σ.1 6 x1.toNatClampNeg)
                    first | have f230 := (noteqE (rfl : (σ.1 6 x1.toNatClampNeg).toInt = (σ.1 6 x1.toNatClampNeg).toInt) (show (3 : Int32).toInt = 3 from by decide)).mp c217 | skip
                    exact hQ _ trivial
                · first | have f232 := (noteqE (rfl : x2.toInt = x2.toInt) (show (4 : Int32).toInt = 4 from by decide)).mp c212 | skip
                  have g234 : vp_in x1 40 := inE (rfl : x1.toInt = x1.toInt) (by omega) (by omega)
                  refine ⟨g234, ?_⟩
                  try unfold fX12_in
                  refine ⟨fun c235 => ?_, fun c235 => ?_⟩
                  · first | have f237 := (ltE64 (i2lE (rfl : x2.toInt = x2.toInt)) (show (10 : Int64).toInt = 10 from by decide)).mp c235 | skip
                    try dsimp only
                    refine ⟨fun c238 => ?_, fun c238 => ?_⟩
                    · first | have f239 := (eqE (show (0 : Int32).toInt = 0 from by decide) (show (0 : Int32).toInt = 0 from by decide)).mp c238 | skip
                      exact hQ _ trivial
                    · first | have f240 := (noteqE (show (0 : Int32).toInt = 0 from by decide) (show (0 : Int32).toInt = 0 from by decide)).mp c238 | skip
                      have g243 : vp_in (((8 * x1) + x2) - 10) 320 := inE (sOkE (aOkE (mOkE (show (8 : Int32).toInt = 8 from by decide) (rfl : x1.toInt = x1.toInt) (by omega) (by omega)) (rfl : x2.toInt = x2.toInt) (by omega) (by omega)) (show (10 : Int32).toInt = 10 from by decide) (by omega) (by omega)) (by omega) (by omega)
                      refine ⟨g243, ?_⟩
                      exact hQ _ trivial
                  · first | have f245 := (notltE64 (i2lE (rfl : x2.toInt = x2.toInt)) (show (10 : Int64).toInt = 10 from by decide)).mp c235 | skip
                    refine ⟨fun c246 => ?_, fun c246 => ?_⟩
                    · have f247 := K2.ga_9 hσ x1.toNatClampNeg
                      first | have f249 := (ltE64 (aOkE64 (show (9 : Int64).toInt = 9 from by decide) (i2lE (rfl : (σ.1 9 x1.toNatClampNeg).toInt = (σ.1 9 x1.toNatClampNeg).toInt)) (by omega) (by omega)) (i2lE (rfl : x2.toInt = x2.toInt))).mp c246 | skip
                      try dsimp only
                      refine ⟨fun c250 => ?_, fun c250 => ?_⟩
                      · first | have f251 := (eqE (show (0 : Int32).toInt = 0 from by decide) (show (0 : Int32).toInt = 0 from by decide)).mp c250 | skip
                        exact hQ _ trivial
                      · first | have f252 := (noteqE (show (0 : Int32).toInt = 0 from by decide) (show (0 : Int32).toInt = 0 from by decide)).mp c250 | skip
                        have g255 : vp_in (((8 * x1) + x2) - 10) 320 := inE (sOkE (aOkE (mOkE (show (8 : Int32).toInt = 8 from by decide) (rfl : x1.toInt = x1.toInt) (by omega) (by omega)) (rfl : x2.toInt = x2.toInt) (by omega) (by omega)) (show (10 : Int32).toInt = 10 from by decide) (by omega) (by omega)) (by omega) (by omega)
                        refine ⟨g255, ?_⟩
                        exact hQ _ trivial
                    · have f256 := K2.ga_9 hσ x1.toNatClampNeg
                      first | have f258 := (notltE64 (aOkE64 (show (9 : Int64).toInt = 9 from by decide) (i2lE (rfl : (σ.1 9 x1.toNatClampNeg).toInt = (σ.1 9 x1.toNatClampNeg).toInt)) (by omega) (by omega)) (i2lE (rfl : x2.toInt = x2.toInt))).mp c246 | skip
                      try dsimp only
                      refine ⟨fun c259 => ?_, fun c259 => ?_⟩
                      · first | have f260 := (eqE (show (1 : Int32).toInt = 1 from by decide) (show (0 : Int32).toInt = 0 from by decide)).mp c259 | skip
                        exact hQ _ trivial
                      · first | have f261 := (noteqE (show (1 : Int32).toInt = 1 from by decide) (show (0 : Int32).toInt = 0 from by decide)).mp c259 | skip
                        have g264 : vp_in (((8 * x1) + x2) - 10) 320 := inE (sOkE (aOkE (mOkE (show (8 : Int32).toInt = 8 from by decide) (rfl : x1.toInt = x1.toInt) (by omega) (by omega)) (rfl : x2.toInt = x2.toInt) (by omega) (by omega)) (show (10 : Int32).toInt = 10 from by decide) (by omega) (by omega)) (by omega) (by omega)
                        refine ⟨g264, ?_⟩
                        exact hQ _ trivial
set_option maxHeartbeats 4000000 in
theorem sX12_at {N : Nat} (hN : 4294967400 ≤ N) {x1 : Int32} {Q : Int32 → St → Prop} {σ0 σ : St} (hσ : K2 σ0 σ) (hQ : ∀ r : Int32, True → Q r σ) : fX12_at N x1 Q σ := by
  unfold fX12_at
  try unfold fX12_in
  refine ⟨fun c1 => ?_, fun c1 => ?_⟩
  · have f2 := tB x1
    first | have f3 := (ltE64 (i2lE (rfl : x1.toInt = x1.toInt)) (show (0 : Int64).toInt = 0 from by decide)).mp c1 | skip
    try dsimp only
    refine ⟨fun c4 => ?_, fun c4 => ?_⟩
    · first | have f5 := (eqE (show (0 : Int32).toInt = 0 from by decide) (show (0 : Int32).toInt = 0 from by decide)).mp c4 | skip
      exact hQ _ trivial
    · first | have f6 := (noteqE (show (0 : Int32).toInt = 0 from by decide) (show (0 : Int32).toInt = 0 from by decide)).mp c4 | skip
      have g8 : vp_in x1 1000 := inE (rfl : x1.toInt = x1.toInt) (by omega) (by omega)
      refine ⟨g8, ?_⟩
      exact hQ _ trivial
  · have f9 := tB x1
    first | have f10 := (notltE64 (i2lE (rfl : x1.toInt = x1.toInt)) (show (0 : Int64).toInt = 0 from by decide)).mp c1 | skip
    refine ⟨fun c11 => ?_, fun c11 => ?_⟩
    · have f12 := K2.g_0_24 hσ
      first | have f14 := (ltE64 (i2lE (sOkE (rfl : (σ.1 0 24).toInt = (σ.1 0 24).toInt) (show (1 : Int32).toInt = 1 from by decide) (by omega) (by omega))) (i2lE (rfl : x1.toInt = x1.toInt))).mp c11 | skip
      try dsimp only
      refine ⟨fun c15 => ?_, fun c15 => ?_⟩
      · first | have f16 := (eqE (show (0 : Int32).toInt = 0 from by decide) (show (0 : Int32).toInt = 0 from by decide)).mp c15 | skip
        exact hQ _ trivial
      · first | have f17 := (noteqE (show (0 : Int32).toInt = 0 from by decide) (show (0 : Int32).toInt = 0 from by decide)).mp c15 | skip
        have g19 : vp_in x1 1000 := inE (rfl : x1.toInt = x1.toInt) (by omega) (by omega)
        refine ⟨g19, ?_⟩
        exact hQ _ trivial
    · have f20 := K2.g_0_24 hσ
      first | have f22 := (notltE64 (i2lE (sOkE (rfl : (σ.1 0 24).toInt = (σ.1 0 24).toInt) (show (1 : Int32).toInt = 1 from by decide) (by omega) (by omega))) (i2lE (rfl : x1.toInt = x1.toInt))).mp c11 | skip
      try dsimp only
      refine ⟨fun c23 => ?_, fun c23 => ?_⟩
      · first | have f24 := (eqE (show (1 : Int32).toInt = 1 from by decide) (show (0 : Int32).toInt = 0 from by decide)).mp c23 | skip
        exact hQ _ trivial
      · first | have f25 := (noteqE (show (1 : Int32).toInt = 1 from by decide) (show (0 : Int32).toInt = 0 from by decide)).mp c23 | skip
        have g27 : vp_in x1 1000 := inE (rfl : x1.toInt = x1.toInt) (by omega) (by omega)
        refine ⟨g27, ?_⟩
        exact hQ _ trivial
set_option maxHeartbeats 4000000 in
theorem sX12_clear {N : Nat} (hN : 4294967400 ≤ N) {Q : Int32 → St → Prop} {σ0 σ : St} (hσ : K2 σ0 σ) (hQ : ∀ (r : Int32) (τ : St), K2 σ0 τ → (τ.1 0 14 = σ.1 0 14 ∧ τ.1 0 9 = σ.1 0 9 ∧ τ.1 0 35 = σ.1 0 35 ∧ τ.1 0 36 = σ.1 0 36 ∧ τ.1 0 41 = σ.1 0 41 ∧ τ.1 0 50 = σ.1 0 50 ∧ τ.1 0 51 = σ.1 0 51) → True → Q r τ) : fX12_clear N  Q σ := by
  unfold fX12_clear
  intro v1 ev1
  intro σ2 eσ2
  have hσ2 : K2 σ0 σ2 := by rw [eσ2]; exact hσ.u (Rg2.r_0_24 (leP (show (0 : Int32).toInt = 0 from by decide) (by omega)) (geP (show (0 : Int32).toInt = 0 from by decide) (by omega))) (fun q => absurd q.2 (by decide)) (fun q => absurd q.2 (by decide))
  exact hQ _ _ hσ2 (⟨(kq (a := 0) (b := 14) eσ2 (fun q => absurd q.2 (by decide))), (kq (a := 0) (b := 9) eσ2 (fun q => absurd q.2 (by decide))), (kq (a := 0) (b := 35) eσ2 (fun q => absurd q.2 (by decide))), (kq (a := 0) (b := 36) eσ2 (fun q => absurd q.2 (by decide))), (kq (a := 0) (b := 41) eσ2 (fun q => absurd q.2 (by decide))), (kq (a := 0) (b := 50) eσ2 (fun q => absurd q.2 (by decide))), (kq (a := 0) (b := 51) eσ2 (fun q => absurd q.2 (by decide)))⟩) trivial
set_option maxHeartbeats 4000000 in
theorem sX12_told {N : Nat} (hN : 4294967400 ≤ N) {x1 : Int32} {Q : Int32 → St → Prop} {σ0 σ : St} (hσ : K2 σ0 σ) (hQ : ∀ r : Int32, True → Q r σ) : fX12_told N x1 Q σ := by
  unfold fX12_told
  refine ⟨fun c1 => ?_, fun c1 => ?_⟩
  · have f2 := tB x1
    first | have f3 := (eqE (rfl : x1.toInt = x1.toInt) (show (0 : Int32).toInt = 0 from by decide)).mp c1 | skip
    exact hQ _ trivial
  · have f4 := tB x1
    first | have f5 := (noteqE (rfl : x1.toInt = x1.toInt) (show (0 : Int32).toInt = 0 from by decide)).mp c1 | skip
    refine ⟨fun c6 => ?_, fun c6 => ?_⟩
    · first | have f8 := (eqE (rfl : x1.toInt = x1.toInt) (show (1 : Int32).toInt = 1 from by decide)).mp c6 | skip
      exact hQ _ trivial
    · first | have f10 := (noteqE (rfl : x1.toInt = x1.toInt) (show (1 : Int32).toInt = 1 from by decide)).mp c6 | skip
      refine ⟨fun c11 => ?_, fun c11 => ?_⟩
      · first | have f13 := (eqE (rfl : x1.toInt = x1.toInt) (show (2 : Int32).toInt = 2 from by decide)).mp c11 | skip
        exact hQ _ trivial
      · first | have f15 := (noteqE (rfl : x1.toInt = x1.toInt) (show (2 : Int32).toInt = 2 from by decide)).mp c11 | skip
        refine ⟨fun c16 => ?_, fun c16 => ?_⟩
        · first | have f18 := (eqE (rfl : x1.toInt = x1.toInt) (show (3 : Int32).toInt = 3 from by decide)).mp c16 | skip
          exact hQ _ trivial
        · first | have f20 := (noteqE (rfl : x1.toInt = x1.toInt) (show (3 : Int32).toInt = 3 from by decide)).mp c16 | skip
          refine ⟨fun c21 => ?_, fun c21 => ?_⟩
          · first | have f23 := (eqE (rfl : x1.toInt = x1.toInt) (show (4 : Int32).toInt = 4 from by decide)).mp c21 | skip
            exact hQ _ trivial
          · first | have f25 := (noteqE (rfl : x1.toInt = x1.toInt) (show (4 : Int32).toInt = 4 from by decide)).mp c21 | skip
            refine ⟨fun c26 => ?_, fun c26 => ?_⟩
            · first | have f28 := (eqE (rfl : x1.toInt = x1.toInt) (show (5 : Int32).toInt = 5 from by decide)).mp c26 | skip
              exact hQ _ trivial
            · first | have f30 := (noteqE (rfl : x1.toInt = x1.toInt) (show (5 : Int32).toInt = 5 from by decide)).mp c26 | skip
              refine ⟨fun c31 => ?_, fun c31 => ?_⟩
              · first | have f33 := (eqE (rfl : x1.toInt = x1.toInt) (show (6 : Int32).toInt = 6 from by decide)).mp c31 | skip
                exact hQ _ trivial
              · first | have f35 := (noteqE (rfl : x1.toInt = x1.toInt) (show (6 : Int32).toInt = 6 from by decide)).mp c31 | skip
                refine ⟨fun c36 => ?_, fun c36 => ?_⟩
                · first | have f38 := (eqE (rfl : x1.toInt = x1.toInt) (show (7 : Int32).toInt = 7 from by decide)).mp c36 | skip
                  exact hQ _ trivial
                · first | have f40 := (noteqE (rfl : x1.toInt = x1.toInt) (show (7 : Int32).toInt = 7 from by decide)).mp c36 | skip
                  refine ⟨fun c41 => ?_, fun c41 => ?_⟩
                  · first | have f43 := (eqE (rfl : x1.toInt = x1.toInt) (show (8 : Int32).toInt = 8 from by decide)).mp c41 | skip
                    exact hQ _ trivial
                  · first | have f45 := (noteqE (rfl : x1.toInt = x1.toInt) (show (8 : Int32).toInt = 8 from by decide)).mp c41 | skip
                    refine ⟨fun c46 => ?_, fun c46 => ?_⟩
                    · first | have f48 := (eqE (rfl : x1.toInt = x1.toInt) (show (9 : Int32).toInt = 9 from by decide)).mp c46 | skip
                      exact hQ _ trivial
                    · first | have f50 := (noteqE (rfl : x1.toInt = x1.toInt) (show (9 : Int32).toInt = 9 from by decide)).mp c46 | skip
                      refine ⟨fun c51 => ?_, fun c51 => ?_⟩
                      · first | have f53 := (eqE (rfl : x1.toInt = x1.toInt) (show (10 : Int32).toInt = 10 from by decide)).mp c51 | skip
                        exact hQ _ trivial
                      · first | have f55 := (noteqE (rfl : x1.toInt = x1.toInt) (show (10 : Int32).toInt = 10 from by decide)).mp c51 | skip
                        refine ⟨fun c56 => ?_, fun c56 => ?_⟩
                        · first | have f58 := (eqE (rfl : x1.toInt = x1.toInt) (show (11 : Int32).toInt = 11 from by decide)).mp c56 | skip
                          exact hQ _ trivial
                        · first | have f60 := (noteqE (rfl : x1.toInt = x1.toInt) (show (11 : Int32).toInt = 11 from by decide)).mp c56 | skip
                          refine ⟨fun c61 => ?_, fun c61 => ?_⟩
                          · first | have f63 := (eqE (rfl : x1.toInt = x1.toInt) (show (12 : Int32).toInt = 12 from by decide)).mp c61 | skip
                            exact hQ _ trivial
                          · first | have f65 := (noteqE (rfl : x1.toInt = x1.toInt) (show (12 : Int32).toInt = 12 from by decide)).mp c61 | skip
                            refine ⟨fun c66 => ?_, fun c66 => ?_⟩
                            · first | have f68 := (eqE (rfl : x1.toInt = x1.toInt) (show (13 : Int32).toInt = 13 from by decide)).mp c66 | skip
                              exact hQ _ trivial
                            · first | have f70 := (noteqE (rfl : x1.toInt = x1.toInt) (show (13 : Int32).toInt = 13 from by decide)).mp c66 | skip
                              refine ⟨fun c71 => ?_, fun c71 => ?_⟩
                              · first | have f73 := (eqE (rfl : x1.toInt = x1.toInt) (show (14 : Int32).toInt = 14 from by decide)).mp c71 | skip
                                exact hQ _ trivial
                              · first | have f75 := (noteqE (rfl : x1.toInt = x1.toInt) (show (14 : Int32).toInt = 14 from by decide)).mp c71 | skip
                                refine ⟨fun c76 => ?_, fun c76 => ?_⟩
                                · first | have f78 := (eqE (rfl : x1.toInt = x1.toInt) (show (15 : Int32).toInt = 15 from by decide)).mp c76 | skip
                                  exact hQ _ trivial
                                · first | have f80 := (noteqE (rfl : x1.toInt = x1.toInt) (show (15 : Int32).toInt = 15 from by decide)).mp c76 | skip
                                  refine ⟨fun c81 => ?_, fun c81 => ?_⟩
                                  · first | have f83 := (eqE (rfl : x1.toInt = x1.toInt) (show (16 : Int32).toInt = 16 from by decide)).mp c81 | skip
                                    exact hQ _ trivial
                                  · first | have f85 := (noteqE (rfl : x1.toInt = x1.toInt) (show (16 : Int32).toInt = 16 from by decide)).mp c81 | skip
                                    refine ⟨fun c86 => ?_, fun c86 => ?_⟩
                                    · first | have f88 := (eqE (rfl : x1.toInt = x1.toInt) (show (17 : Int32).toInt = 17 from by decide)).mp c86 | skip
                                      exact hQ _ trivial
                                    · first | have f90 := (noteqE (rfl : x1.toInt = x1.toInt) (show (17 : Int32).toInt = 17 from by decide)).mp c86 | skip
                                      exact hQ _ trivial
set_option maxHeartbeats 4000000 in
theorem sX12_sign {N : Nat} (hN : 4294967400 ≤ N) {x1 : Int32} {Q : Int32 → St → Prop} {σ0 σ : St} (hσ : K2 σ0 σ) (hQ : ∀ (r : Int32) (τ : St), K2 σ0 τ → (τ.1 0 14 = σ.1 0 14 ∧ τ.1 0 9 = σ.1 0 9 ∧ τ.1 0 35 = σ.1 0 35 ∧ τ.1 0 24 = σ.1 0 24 ∧ τ.1 0 36 = σ.1 0 36 ∧ τ.1 0 41 = σ.1 0 41 ∧ τ.1 0 50 = σ.1 0 50 ∧ τ.1 0 51 = σ.1 0 51) → True → Q r τ) : fX12_sign N x1 Q σ := by
  unfold fX12_sign
  refine ⟨fun c1 => ?_, fun c1 => ?_⟩
  · have f2 := K2.g_0_5 hσ
    first | have f3 := (eqE (rfl : (σ.1 0 5).toInt = (σ.1 0 5).toInt) (show (120 : Int32).toInt = 120 from by decide)).mp c1 | skip
    exact hQ _ _ hσ (⟨rfl, rfl, rfl, rfl, rfl, rfl, rfl, rfl⟩) trivial
  · have f4 := K2.g_0_5 hσ
    first | have f5 := (noteqE (rfl : (σ.1 0 5).toInt = (σ.1 0 5).toInt) (show (120 : Int32).toInt = 120 from by decide)).mp c1 | skip
    refine ⟨inE (rfl : (σ.1 0 5).toInt = (σ.1 0 5).toInt) (by omega) (by omega), ?_⟩
    intro σ7 eσ7
    have hσ7 : K2 σ0 σ7 := by rw [eσ7]; exact hσ.u (Rg2.ra_3 _ _) (fun q => absurd q.1 (by decide)) (fun q => absurd q.1 (by decide))
    intro v8 ev8
    intro σ9 eσ9
    have f10 := tB v8
    have f11 := K2.g_0_5 hσ7
    have q12 : σ7.1 0 5 = σ.1 0 5 := by rw [eσ7]; exact congrFun (u1_ne (by decide)) 5
    have f13 := congrArg Int32.toInt q12
    first | have f15 : v8.toInt = ((σ7.1 0 5).toInt + (1)) := (congrArg Int32.toInt ev8).trans (aOkE (rfl : (σ7.1 0 5).toInt = (σ7.1 0 5).toInt) (show (1 : Int32).toInt = 1 from by decide) (by omega) (by omega)) | skip
    have hσ9 : K2 σ0 σ9 := by rw [eσ9]; exact hσ7.u (Rg2.r_0_5 (leP (rfl : v8.toInt = v8.toInt) (by omega)) (geP (rfl : v8.toInt = v8.toInt) (by omega))) (fun q => absurd q.2 (by decide)) (fun q => absurd q.2 (by decide))
    exact hQ _ _ hσ9 (⟨(kq (a := 0) (b := 14) eσ9 (fun q => absurd q.2 (by decide))).trans ((kq (a := 0) (b := 14) eσ7 (fun q => absurd q.1 (by decide)))), (kq (a := 0) (b := 9) eσ9 (fun q => absurd q.2 (by decide))).trans ((kq (a := 0) (b := 9) eσ7 (fun q => absurd q.1 (by decide)))), (kq (a := 0) (b := 35) eσ9 (fun q => absurd q.2 (by decide))).trans ((kq (a := 0) (b := 35) eσ7 (fun q => absurd q.1 (by decide)))), (kq (a := 0) (b := 24) eσ9 (fun q => absurd q.2 (by decide))).trans ((kq (a := 0) (b := 24) eσ7 (fun q => absurd q.1 (by decide)))), (kq (a := 0) (b := 36) eσ9 (fun q => absurd q.2 (by decide))).trans ((kq (a := 0) (b := 36) eσ7 (fun q => absurd q.1 (by decide)))), (kq (a := 0) (b := 41) eσ9 (fun q => absurd q.2 (by decide))).trans ((kq (a := 0) (b := 41) eσ7 (fun q => absurd q.1 (by decide)))), (kq (a := 0) (b := 50) eσ9 (fun q => absurd q.2 (by decide))).trans ((kq (a := 0) (b := 50) eσ7 (fun q => absurd q.1 (by decide)))), (kq (a := 0) (b := 51) eσ9 (fun q => absurd q.2 (by decide))).trans ((kq (a := 0) (b := 51) eσ7 (fun q => absurd q.1 (by decide))))⟩) trivial
set_option maxHeartbeats 4000000 in
theorem sX12_signOf {N : Nat} (hN : 4294967400 ≤ N) {x1 : Int32} {x2 : Int32} {Q : Int32 → St → Prop} {σ0 σ : St} (hp1 : 0 ≤ x1.toInt ∧ x1.toInt ≤ 59) (hp2 : 0 ≤ x2.toInt ∧ x2.toInt ≤ 19) (hσ : K2 σ0 σ) (hQ : ∀ r : Int32, True → Q r σ) : fX12_signOf N x1 x2 Q σ := by
  unfold fX12_signOf
  have f1 := tB x1
  have g2 : vp_in x1 60 := inE (rfl : x1.toInt = x1.toInt) (by omega) (by omega)
  refine ⟨g2, ?_⟩
  refine ⟨fun c3 => ?_, fun c3 => ?_⟩
  · have f4 := tB (σ.1 16 x1.toNatClampNeg)
    first | have f5 := (ltE (rfl : (σ.1 16 x1.toNatClampNeg).toInt = (σ.1 16 x1.toNatClampNeg).toInt) (show (8 : Int32).toInt = 8 from by decide)).mp c3 | skip
    have f7 := tB x2
    have g8 : vp_in ((20 * x1) + x2) 1200 := inE (aOkE (mOkE (show (20 : Int32).toInt = 20 from by decide) (rfl : x1.toInt = x1.toInt) (by omega) (by omega)) (rfl : x2.toInt = x2.toInt) (by omega) (by omega)) (by omega) (by omega)
    refine ⟨g8, ?_⟩
    exact hQ _ trivial
  · have f9 := tB (σ.1 16 x1.toNatClampNeg)
    first | have f10 := (notltE (rfl : (σ.1 16 x1.toNatClampNeg).toInt = (σ.1 16 x1.toNatClampNeg).toInt) (show (8 : Int32).toInt = 8 from by decide)).mp c3 | skip
    exact hQ _ trivial
set_option maxHeartbeats 4000000 in
theorem sX12_sizeOf {N : Nat} (hN : 4294967400 ≤ N) {x1 : Int32} {Q : Int32 → St → Prop} {σ0 σ : St} (hp1 : 0 ≤ x1.toInt ∧ x1.toInt ≤ 59) (hσ : K2 σ0 σ) (hQ : ∀ r : Int32, True → Q r σ) : fX12_sizeOf N x1 Q σ := by
  unfold fX12_sizeOf
  have f1 := tB x1
  have g2 : vp_in x1 60 := inE (rfl : x1.toInt = x1.toInt) (by omega) (by omega)
  refine ⟨g2, ?_⟩
  intro v3 ev3
  have g5 : vp_in x1 60 := inE (rfl : x1.toInt = x1.toInt) (by omega) (by omega)
  refine ⟨g5, ?_⟩
  intro v6 ev6
  refine ⟨fun c7 => ?_, fun c7 => ?_⟩
  · have f8 := tB v6
    have f9 := tB (σ.1 16 x1.toNatClampNeg)
    first | have f10 : v6.toInt = (σ.1 16 x1.toNatClampNeg).toInt := (congrArg Int32.toInt ev6).trans (rfl : (σ.1 16 x1.toNatClampNeg).toInt = (σ.1 16 x1.toNatClampNeg).toInt) | skip
    first | have f11 := (eqE (rfl : v6.toInt = v6.toInt) (show (2 : Int32).toInt = 2 from by decide)).mp c7 | skip
    exact hQ _ trivial
  · have f12 := tB v6
    have f13 := tB (σ.1 16 x1.toNatClampNeg)
    first | have f14 : v6.toInt = (σ.1 16 x1.toNatClampNeg).toInt := (congrArg Int32.toInt ev6).trans (rfl : (σ.1 16 x1.toNatClampNeg).toInt = (σ.1 16 x1.toNatClampNeg).toInt) | skip
    first | have f15 := (noteqE (rfl : v6.toInt = v6.toInt) (show (2 : Int32).toInt = 2 from by decide)).mp c7 | skip
    refine ⟨fun c16 => ?_, fun c16 => ?_⟩
    · first | have f18 := (eqE (rfl : v6.toInt = v6.toInt) (show (3 : Int32).toInt = 3 from by decide)).mp c16 | skip
      exact hQ _ trivial
    · first | have f20 := (noteqE (rfl : v6.toInt = v6.toInt) (show (3 : Int32).toInt = 3 from by decide)).mp c16 | skip
      refine ⟨fun c21 => ?_, fun c21 => ?_⟩
      · first | have f23 := (eqE (rfl : v6.toInt = v6.toInt) (show (5 : Int32).toInt = 5 from by decide)).mp c21 | skip
        exact hQ _ trivial
      · first | have f25 := (noteqE (rfl : v6.toInt = v6.toInt) (show (5 : Int32).toInt = 5 from by decide)).mp c21 | skip
        exact hQ _ trivial
set_option maxHeartbeats 4000000 in
theorem sX12_tellFour {N : Nat} (hN : 4294967400 ≤ N) {x1 : Int32} {x2 : Int32} {Q : St → Prop} {σ0 σ : St} (hp1 : 0 ≤ x1.toInt ∧ x1.toInt ≤ 4092) (hσ : K2 σ0 σ) (hQ : ∀ τ : St, K2 σ0 τ → (τ.1 0 14 = σ.1 0 14 ∧ τ.1 0 9 = σ.1 0 9 ∧ τ.1 0 35 = σ.1 0 35 ∧ τ.1 0 24 = σ.1 0 24 ∧ τ.1 0 36 = σ.1 0 36 ∧ τ.1 0 41 = σ.1 0 41 ∧ τ.1 0 50 = σ.1 0 50 ∧ τ.1 0 51 = σ.1 0 51) → Q τ) : fX12_tellFour N x1 x2 Q σ := by
  unfold fX12_tellFour
  have f2 := tB x1
  have f3 := tB x2
  refine lo1_i (fun (y1 : Int32) (τ : St) => K2 σ0 τ ∧ τ.1 0 14 = σ.1 0 14 ∧ τ.1 0 9 = σ.1 0 9 ∧ τ.1 0 35 = σ.1 0 35 ∧ τ.1 0 24 = σ.1 0 24 ∧ τ.1 0 36 = σ.1 0 36 ∧ τ.1 0 41 = σ.1 0 41 ∧ τ.1 0 50 = σ.1 0 50 ∧ τ.1 0 51 = σ.1 0 51 ∧ 0 ≤ y1.toInt) (fun (y1 : Int32) (τ : St) => (2147483648 - y1.toInt).toNat) ?_ N (0 : Int32) σ ⟨hσ, rfl, rfl, rfl, rfl, rfl, rfl, rfl, rfl, by first | decide | (have z0 : (0 : Int32).toInt = 0 := (by decide); omega)⟩ (by have z0 : (0 : Int32).toInt = 0 := (by decide); (try dsimp only); omega)
  intro rr4 y7 σ6 hIσ6 ih5
  obtain ⟨hσ6, k8, k9, k10, k11, k12, k13, k14, k15, i16⟩ := hIσ6
  unfold fX12_tellFour_l2
  have f17 := tB y7
  refine ⟨fun c18 => ?_, fun c18 => ?_⟩
  · first | have f20 := (leE (show (4 : Int32).toInt = 4 from by decide) (rfl : y7.toInt = y7.toInt)).mp c18 | skip
    exact hQ _ hσ6 (⟨k8, k9, k10, k11, k12, k13, k14, k15⟩)
  · first | have f22 := (notleE (show (4 : Int32).toInt = 4 from by decide) (rfl : y7.toInt = y7.toInt)).mp c18 | skip
    have f25 := tB (x2 >>> ((24 - (8 * y7)) &&& 31))
    refine sX12_tell hN ⟨leP (aOkE (rfl : x1.toInt = x1.toInt) (rfl : y7.toInt = y7.toInt) (by omega) (by omega)) (by omega), geP (aOkE (rfl : x1.toInt = x1.toInt) (rfl : y7.toInt = y7.toInt) (by omega) (by omega)) (by omega)⟩ hσ6 (fun σ26 hσ26 kk35 => ?_)
    obtain ⟨k27, k28, k29, k30, k31, k32, k33, k34⟩ := kk35
    intro v36 ev36
    have f37 := tB v36
    first | have f39 : v36.toInt = (y7.toInt + (1)) := (congrArg Int32.toInt ev36).trans (aOkE (rfl : y7.toInt = y7.toInt) (show (1 : Int32).toInt = 1 from by decide) (by omega) (by omega)) | skip
    exact ih5 v36 σ26 ⟨hσ26, k27.trans (k8), k28.trans (k9), k29.trans (k10), k30.trans (k11), k31.trans (k12), k32.trans (k13), k33.trans (k14), k34.trans (k15), by omega⟩ (by (try dsimp only); omega)
set_option maxHeartbeats 4000000 in
theorem sX12_bits {N : Nat} (hN : 4294967400 ≤ N) {x1 : Int32} {Q : Int32 → St → Prop} {σ0 σ : St} (hσ : K2 σ0 σ) (hQ : ∀ r : Int32, True → Q r σ) : fX12_bits N x1 Q σ := by
  unfold fX12_bits
  refine ⟨fun c1 => ?_, fun c1 => ?_⟩
  · have f2 := tB x1
    first | have f3 := (eqE (rfl : x1.toInt = x1.toInt) (show ((-1) : Int32).toInt = -1 from by decide)).mp c1 | skip
    exact hQ _ trivial
  · have f4 := tB x1
    first | have f5 := (noteqE (rfl : x1.toInt = x1.toInt) (show ((-1) : Int32).toInt = -1 from by decide)).mp c1 | skip
    try unfold fX12_in
    refine ⟨fun c6 => ?_, fun c6 => ?_⟩
    · first | have f8 := (ltE64 (i2lE (rfl : x1.toInt = x1.toInt)) (show (0 : Int64).toInt = 0 from by decide)).mp c6 | skip
      try dsimp only
      refine ⟨fun c9 => ?_, fun c9 => ?_⟩
      · first | have f10 := (eqE (show (0 : Int32).toInt = 0 from by decide) (show (0 : Int32).toInt = 0 from by decide)).mp c9 | skip
        exact hQ _ trivial
      · first | have f11 := (noteqE (show (0 : Int32).toInt = 0 from by decide) (show (0 : Int32).toInt = 0 from by decide)).mp c9 | skip
        have g13 : vp_in x1 60 := inE (rfl : x1.toInt = x1.toInt) (by omega) (by omega)
        refine ⟨g13, ?_⟩
        exact hQ _ trivial
    · first | have f15 := (notltE64 (i2lE (rfl : x1.toInt = x1.toInt)) (show (0 : Int64).toInt = 0 from by decide)).mp c6 | skip
      refine ⟨fun c16 => ?_, fun c16 => ?_⟩
      · have f17 := K2.g_0_36 hσ
        first | have f19 := (ltE64 (i2lE (sOkE (rfl : (σ.1 0 36).toInt = (σ.1 0 36).toInt) (show (1 : Int32).toInt = 1 from by decide) (by omega) (by omega))) (i2lE (rfl : x1.toInt = x1.toInt))).mp c16 | skip
        try dsimp only
        refine ⟨fun c20 => ?_, fun c20 => ?_⟩
        · first | have f21 := (eqE (show (0 : Int32).toInt = 0 from by decide) (show (0 : Int32).toInt = 0 from by decide)).mp c20 | skip
          exact hQ _ trivial
        · first | have f22 := (noteqE (show (0 : Int32).toInt = 0 from by decide) (show (0 : Int32).toInt = 0 from by decide)).mp c20 | skip
          have g24 : vp_in x1 60 := inE (rfl : x1.toInt = x1.toInt) (by omega) (by omega)
          refine ⟨g24, ?_⟩
          exact hQ _ trivial
      · have f25 := K2.g_0_36 hσ
        first | have f27 := (notltE64 (i2lE (sOkE (rfl : (σ.1 0 36).toInt = (σ.1 0 36).toInt) (show (1 : Int32).toInt = 1 from by decide) (by omega) (by omega))) (i2lE (rfl : x1.toInt = x1.toInt))).mp c16 | skip
        try dsimp only
        refine ⟨fun c28 => ?_, fun c28 => ?_⟩
        · first | have f29 := (eqE (show (1 : Int32).toInt = 1 from by decide) (show (0 : Int32).toInt = 0 from by decide)).mp c28 | skip
          exact hQ _ trivial
        · first | have f30 := (noteqE (show (1 : Int32).toInt = 1 from by decide) (show (0 : Int32).toInt = 0 from by decide)).mp c28 | skip
          have g32 : vp_in x1 60 := inE (rfl : x1.toInt = x1.toInt) (by omega) (by omega)
          refine ⟨g32, ?_⟩
          exact hQ _ trivial
set_option maxHeartbeats 4000000 in
theorem sX12_forget {N : Nat} (hN : 4294967400 ≤ N) {Q : Int32 → St → Prop} {σ0 σ : St} (hσ : K2 σ0 σ) (hQ : ∀ (r : Int32) (τ : St), K2 σ0 τ → (τ.1 0 14 = σ.1 0 14 ∧ τ.1 0 9 = σ.1 0 9 ∧ τ.1 0 35 = σ.1 0 35 ∧ τ.1 0 24 = σ.1 0 24 ∧ τ.1 0 50 = σ.1 0 50 ∧ τ.1 0 51 = σ.1 0 51) → True → Q r τ) : fX12_forget N  Q σ := by
  unfold fX12_forget
  intro v1 ev1
  intro σ2 eσ2
  have hσ2 : K2 σ0 σ2 := by rw [eσ2]; exact hσ.u (Rg2.r_0_36 (leP (show (0 : Int32).toInt = 0 from by decide) (by omega)) (geP (show (0 : Int32).toInt = 0 from by decide) (by omega))) (fun q => absurd q.2 (by decide)) (fun q => absurd q.2 (by decide))
  intro σ3 eσ3
  have hσ3 : K2 σ0 σ3 := by rw [eσ3]; exact hσ2.u (Rg2.r_0_41 (leP (show (0 : Int32).toInt = 0 from by decide) (by omega)) (geP (show (0 : Int32).toInt = 0 from by decide) (by omega))) (fun q => absurd q.2 (by decide)) (fun q => absurd q.2 (by decide))
  exact hQ _ _ hσ3 (⟨(kq (a := 0) (b := 14) eσ3 (fun q => absurd q.2 (by decide))).trans ((kq (a := 0) (b := 14) eσ2 (fun q => absurd q.2 (by decide)))), (kq (a := 0) (b := 9) eσ3 (fun q => absurd q.2 (by decide))).trans ((kq (a := 0) (b := 9) eσ2 (fun q => absurd q.2 (by decide)))), (kq (a := 0) (b := 35) eσ3 (fun q => absurd q.2 (by decide))).trans ((kq (a := 0) (b := 35) eσ2 (fun q => absurd q.2 (by decide)))), (kq (a := 0) (b := 24) eσ3 (fun q => absurd q.2 (by decide))).trans ((kq (a := 0) (b := 24) eσ2 (fun q => absurd q.2 (by decide)))), (kq (a := 0) (b := 50) eσ3 (fun q => absurd q.2 (by decide))).trans ((kq (a := 0) (b := 50) eσ2 (fun q => absurd q.2 (by decide)))), (kq (a := 0) (b := 51) eσ3 (fun q => absurd q.2 (by decide))).trans ((kq (a := 0) (b := 51) eσ2 (fun q => absurd q.2 (by decide))))⟩) trivial
