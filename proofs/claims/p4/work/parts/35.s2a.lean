set_option maxHeartbeats 4000000 in
theorem sX12_in {N : Nat} (hN : 4294967400 ≤ N) {x0 : Int64} {x2 : Int64} {x4 : Int64} {Q : Int32 → St → Prop} {σ0 σ : St} (hσ : K2 σ0 σ) (hQ : ∀ r : Int32, True → Q r σ) : fX12_in N x0 x2 x4 Q σ := by
  unfold fX12_in
  refine ⟨fun c1 => ?_, fun c1 => ?_⟩
  · have f2 := tB64 x0
    have f3 := tB64 x2
    first | have f4 := (ltE64 (rfl : x0.toInt = x0.toInt) (rfl : x2.toInt = x2.toInt)).mp c1 | skip
    exact hQ _ trivial
  · have f5 := tB64 x0
    have f6 := tB64 x2
    first | have f7 := (notltE64 (rfl : x0.toInt = x0.toInt) (rfl : x2.toInt = x2.toInt)).mp c1 | skip
    refine ⟨fun c8 => ?_, fun c8 => ?_⟩
    · have f9 := tB64 x4
      first | have f11 := (ltE64 (rfl : x4.toInt = x4.toInt) (rfl : x0.toInt = x0.toInt)).mp c8 | skip
      exact hQ _ trivial
    · have f12 := tB64 x4
      first | have f14 := (notltE64 (rfl : x4.toInt = x4.toInt) (rfl : x0.toInt = x0.toInt)).mp c8 | skip
      exact hQ _ trivial
set_option maxHeartbeats 4000000 in
theorem sX12_tell {N : Nat} (hN : 4294967400 ≤ N) {x1 : Int32} {x2 : Int32} {Q : St → Prop} {σ0 σ : St} (hp1 : 0 ≤ x1.toInt ∧ x1.toInt ≤ 4095) (hσ : K2 σ0 σ) (hQ : ∀ τ : St, K2 σ0 τ → (τ.1 0 14 = σ.1 0 14 ∧ τ.1 0 9 = σ.1 0 9 ∧ τ.1 0 35 = σ.1 0 35 ∧ τ.1 0 24 = σ.1 0 24 ∧ τ.1 0 36 = σ.1 0 36 ∧ τ.1 0 41 = σ.1 0 41 ∧ τ.1 0 50 = σ.1 0 50 ∧ τ.1 0 51 = σ.1 0 51) → Q τ) : fX12_tell N x1 x2 Q σ := by
  unfold fX12_tell
  intro v1 ev1
  have f2 := tB x1
  refine ⟨inE (rfl : x1.toInt = x1.toInt) (by omega) (by omega), ?_⟩
  intro σ3 eσ3
  have f4 := tB v1
  have f5 := and255 x2
  first | have f6 : v1.toInt = (x2 &&& 255).toInt := (congrArg Int32.toInt ev1).trans (rfl : (x2 &&& 255).toInt = (x2 &&& 255).toInt) | skip
  have hσ3 : K2 σ0 σ3 := by rw [eσ3]; exact hσ.u (Rg2.ra_1 (leP (rfl : v1.toInt = v1.toInt) (by omega)) (geP (rfl : v1.toInt = v1.toInt) (by omega))) (fun q => absurd q.1 (by decide)) (fun q => absurd q.1 (by decide))
  refine ⟨fun c7 => ?_, fun c7 => ?_⟩
  · have f8 := tB (σ3.1 0 7)
    have q9 : σ3.1 0 7 = σ.1 0 7 := by rw [eσ3]; exact congrFun (u1_ne (by decide)) 7
    have f10 := congrArg Int32.toInt q9
    have f11 := tB (σ.1 0 7)
    first | have f12 := (leE (rfl : (σ3.1 0 7).toInt = (σ3.1 0 7).toInt) (show (0 : Int32).toInt = 0 from by decide)).mp c7 | skip
    exact hQ _ hσ3 (⟨(kq (a := 0) (b := 14) eσ3 (fun q => absurd q.1 (by decide))), (kq (a := 0) (b := 9) eσ3 (fun q => absurd q.1 (by decide))), (kq (a := 0) (b := 35) eσ3 (fun q => absurd q.1 (by decide))), (kq (a := 0) (b := 24) eσ3 (fun q => absurd q.1 (by decide))), (kq (a := 0) (b := 36) eσ3 (fun q => absurd q.1 (by decide))), (kq (a := 0) (b := 41) eσ3 (fun q => absurd q.1 (by decide))), (kq (a := 0) (b := 50) eσ3 (fun q => absurd q.1 (by decide))), (kq (a := 0) (b := 51) eσ3 (fun q => absurd q.1 (by decide)))⟩)
  · have f13 := tB (σ3.1 0 7)
    have q14 : σ3.1 0 7 = σ.1 0 7 := by rw [eσ3]; exact congrFun (u1_ne (by decide)) 7
    have f15 := congrArg Int32.toInt q14
    have f16 := tB (σ.1 0 7)
    first | have f17 := (notleE (rfl : (σ3.1 0 7).toInt = (σ3.1 0 7).toInt) (show (0 : Int32).toInt = 0 from by decide)).mp c7 | skip
    refine ⟨fun c18 => ?_, fun c18 => ?_⟩
    · have f20 := tB (σ3.1 0 6)
      have q21 : σ3.1 0 6 = σ.1 0 6 := by rw [eσ3]; exact congrFun (u1_ne (by decide)) 6
      have f22 := congrArg Int32.toInt q21
      have f23 := tB (σ.1 0 6)
      first | have f24 := (ltE (rfl : x1.toInt = x1.toInt) (rfl : (σ3.1 0 6).toInt = (σ3.1 0 6).toInt)).mp c18 | skip
      exact hQ _ hσ3 (⟨(kq (a := 0) (b := 14) eσ3 (fun q => absurd q.1 (by decide))), (kq (a := 0) (b := 9) eσ3 (fun q => absurd q.1 (by decide))), (kq (a := 0) (b := 35) eσ3 (fun q => absurd q.1 (by decide))), (kq (a := 0) (b := 24) eσ3 (fun q => absurd q.1 (by decide))), (kq (a := 0) (b := 36) eσ3 (fun q => absurd q.1 (by decide))), (kq (a := 0) (b := 41) eσ3 (fun q => absurd q.1 (by decide))), (kq (a := 0) (b := 50) eσ3 (fun q => absurd q.1 (by decide))), (kq (a := 0) (b := 51) eσ3 (fun q => absurd q.1 (by decide)))⟩)
    · have f26 := tB (σ3.1 0 6)
      have q27 : σ3.1 0 6 = σ.1 0 6 := by rw [eσ3]; exact congrFun (u1_ne (by decide)) 6
      have f28 := congrArg Int32.toInt q27
      have f29 := tB (σ.1 0 6)
      first | have f30 := (notltE (rfl : x1.toInt = x1.toInt) (rfl : (σ3.1 0 6).toInt = (σ3.1 0 6).toInt)).mp c18 | skip
      refine ⟨fun c31 => ?_, fun c31 => ?_⟩
      · have f33 := tB64 (σ3.2 0 8)
        first | have f35 := (leE64 (aOkE64 (i2lE (rfl : (σ3.1 0 6).toInt = (σ3.1 0 6).toInt)) (rfl : (σ3.2 0 8).toInt = (σ3.2 0 8).toInt) (by omega) (by omega)) (i2lE (rfl : x1.toInt = x1.toInt))).mp c31 | skip
        exact hQ _ hσ3 (⟨(kq (a := 0) (b := 14) eσ3 (fun q => absurd q.1 (by decide))), (kq (a := 0) (b := 9) eσ3 (fun q => absurd q.1 (by decide))), (kq (a := 0) (b := 35) eσ3 (fun q => absurd q.1 (by decide))), (kq (a := 0) (b := 24) eσ3 (fun q => absurd q.1 (by decide))), (kq (a := 0) (b := 36) eσ3 (fun q => absurd q.1 (by decide))), (kq (a := 0) (b := 41) eσ3 (fun q => absurd q.1 (by decide))), (kq (a := 0) (b := 50) eσ3 (fun q => absurd q.1 (by decide))), (kq (a := 0) (b := 51) eσ3 (fun q => absurd q.1 (by decide)))⟩)
      · have f37 := tB64 (σ3.2 0 8)
        first | have f39 := (notleE64 (aOkE64 (i2lE (rfl : (σ3.1 0 6).toInt = (σ3.1 0 6).toInt)) (rfl : (σ3.2 0 8).toInt = (σ3.2 0 8).toInt) (by omega) (by omega)) (i2lE (rfl : x1.toInt = x1.toInt))).mp c31 | skip
        intro σ40 eσ40
        have hσ40 : K2 σ0 σ40 := by rw [eσ40]; exact hσ3.u (Rg2.u_0_7 _) (fun q => absurd q.2 (by decide)) (fun q => absurd q.2 (by decide))
        exact hQ _ hσ40 (⟨(kq (a := 0) (b := 14) eσ40 (fun q => absurd q.2 (by decide))).trans ((kq (a := 0) (b := 14) eσ3 (fun q => absurd q.1 (by decide)))), (kq (a := 0) (b := 9) eσ40 (fun q => absurd q.2 (by decide))).trans ((kq (a := 0) (b := 9) eσ3 (fun q => absurd q.1 (by decide)))), (kq (a := 0) (b := 35) eσ40 (fun q => absurd q.2 (by decide))).trans ((kq (a := 0) (b := 35) eσ3 (fun q => absurd q.1 (by decide)))), (kq (a := 0) (b := 24) eσ40 (fun q => absurd q.2 (by decide))).trans ((kq (a := 0) (b := 24) eσ3 (fun q => absurd q.1 (by decide)))), (kq (a := 0) (b := 36) eσ40 (fun q => absurd q.2 (by decide))).trans ((kq (a := 0) (b := 36) eσ3 (fun q => absurd q.1 (by decide)))), (kq (a := 0) (b := 41) eσ40 (fun q => absurd q.2 (by decide))).trans ((kq (a := 0) (b := 41) eσ3 (fun q => absurd q.1 (by decide)))), (kq (a := 0) (b := 50) eσ40 (fun q => absurd q.2 (by decide))).trans ((kq (a := 0) (b := 50) eσ3 (fun q => absurd q.1 (by decide)))), (kq (a := 0) (b := 51) eσ40 (fun q => absurd q.2 (by decide))).trans ((kq (a := 0) (b := 51) eσ3 (fun q => absurd q.1 (by decide))))⟩)
set_option maxHeartbeats 4000000 in
theorem sX12_byteAt {N : Nat} (hN : 4294967400 ≤ N) {x1 : Int32} {Q : Int32 → St → Prop} {σ0 σ : St} (hσ : K2 σ0 σ) (hQ : ∀ r : Int32, True → Q r σ) : fX12_byteAt N x1 Q σ := by
  unfold fX12_byteAt
  try unfold fX12_in
  refine ⟨fun c1 => ?_, fun c1 => ?_⟩
  · have f2 := tB x1
    first | have f3 := (ltE64 (i2lE (rfl : x1.toInt = x1.toInt)) (show (0 : Int64).toInt = 0 from by decide)).mp c1 | skip
    try dsimp only
    refine ⟨fun c4 => ?_, fun c4 => ?_⟩
    · first | have f5 := (eqE (show (0 : Int32).toInt = 0 from by decide) (show (0 : Int32).toInt = 0 from by decide)).mp c4 | skip
      exact hQ _ trivial
    · first | have f6 := (noteqE (show (0 : Int32).toInt = 0 from by decide) (show (0 : Int32).toInt = 0 from by decide)).mp c4 | skip
      have g8 : vp_in x1 4096 := inE (rfl : x1.toInt = x1.toInt) (by omega) (by omega)
      refine ⟨g8, ?_⟩
      exact hQ _ trivial
  · have f9 := tB x1
    first | have f10 := (notltE64 (i2lE (rfl : x1.toInt = x1.toInt)) (show (0 : Int64).toInt = 0 from by decide)).mp c1 | skip
    refine ⟨fun c11 => ?_, fun c11 => ?_⟩
    · first | have f13 := (ltE64 (show (4095 : Int64).toInt = 4095 from by decide) (i2lE (rfl : x1.toInt = x1.toInt))).mp c11 | skip
      try dsimp only
      refine ⟨fun c14 => ?_, fun c14 => ?_⟩
      · first | have f15 := (eqE (show (0 : Int32).toInt = 0 from by decide) (show (0 : Int32).toInt = 0 from by decide)).mp c14 | skip
        exact hQ _ trivial
      · first | have f16 := (noteqE (show (0 : Int32).toInt = 0 from by decide) (show (0 : Int32).toInt = 0 from by decide)).mp c14 | skip
        have g18 : vp_in x1 4096 := inE (rfl : x1.toInt = x1.toInt) (by omega) (by omega)
        refine ⟨g18, ?_⟩
        exact hQ _ trivial
    · first | have f20 := (notltE64 (show (4095 : Int64).toInt = 4095 from by decide) (i2lE (rfl : x1.toInt = x1.toInt))).mp c11 | skip
      try dsimp only
      refine ⟨fun c21 => ?_, fun c21 => ?_⟩
      · first | have f22 := (eqE (show (1 : Int32).toInt = 1 from by decide) (show (0 : Int32).toInt = 0 from by decide)).mp c21 | skip
        exact hQ _ trivial
      · first | have f23 := (noteqE (show (1 : Int32).toInt = 1 from by decide) (show (0 : Int32).toInt = 0 from by decide)).mp c21 | skip
        have g25 : vp_in x1 4096 := inE (rfl : x1.toInt = x1.toInt) (by omega) (by omega)
        refine ⟨g25, ?_⟩
        exact hQ _ trivial
set_option maxHeartbeats 4000000 in
theorem sX12_fails {N : Nat} (hN : 4294967400 ≤ N) {x1 : Int32} {Q : St → Prop} {σ0 σ : St} (hσ : K2 σ0 σ) (hQ : ∀ τ : St, K2 σ0 τ → (τ.1 0 14 = σ.1 0 14 ∧ τ.1 0 35 = σ.1 0 35 ∧ τ.1 0 24 = σ.1 0 24 ∧ τ.1 0 36 = σ.1 0 36 ∧ τ.1 0 41 = σ.1 0 41 ∧ τ.1 0 50 = σ.1 0 50 ∧ τ.1 0 51 = σ.1 0 51) → Q τ) : fX12_fails N x1 Q σ := by
  unfold fX12_fails
  refine ⟨fun c1 => ?_, fun c1 => ?_⟩
  · have f2 := tB (σ.1 0 9)
    first | have f3 := (eqE (rfl : (σ.1 0 9).toInt = (σ.1 0 9).toInt) (show (0 : Int32).toInt = 0 from by decide)).mp c1 | skip
    try unfold fX12_fails_j16
    intro σ4 eσ4
    have hσ4 : K2 σ0 σ4 := by rw [eσ4]; exact hσ.u (Rg2.u_0_9 _) (fun q => absurd q.2 (by decide)) (fun q => absurd q.2 (by decide))
    exact hQ _ hσ4 (⟨(kq (a := 0) (b := 14) eσ4 (fun q => absurd q.2 (by decide))), (kq (a := 0) (b := 35) eσ4 (fun q => absurd q.2 (by decide))), (kq (a := 0) (b := 24) eσ4 (fun q => absurd q.2 (by decide))), (kq (a := 0) (b := 36) eσ4 (fun q => absurd q.2 (by decide))), (kq (a := 0) (b := 41) eσ4 (fun q => absurd q.2 (by decide))), (kq (a := 0) (b := 50) eσ4 (fun q => absurd q.2 (by decide))), (kq (a := 0) (b := 51) eσ4 (fun q => absurd q.2 (by decide)))⟩)
  · have f5 := tB (σ.1 0 9)
    first | have f6 := (noteqE (rfl : (σ.1 0 9).toInt = (σ.1 0 9).toInt) (show (0 : Int32).toInt = 0 from by decide)).mp c1 | skip
    try unfold fX12_fails_j16
    intro σ7 eσ7
    have hσ7 : K2 σ0 σ7 := by rw [eσ7]; exact hσ.u (Rg2.u_0_9 _) (fun q => absurd q.2 (by decide)) (fun q => absurd q.2 (by decide))
    exact hQ _ hσ7 (⟨(kq (a := 0) (b := 14) eσ7 (fun q => absurd q.2 (by decide))), (kq (a := 0) (b := 35) eσ7 (fun q => absurd q.2 (by decide))), (kq (a := 0) (b := 24) eσ7 (fun q => absurd q.2 (by decide))), (kq (a := 0) (b := 36) eσ7 (fun q => absurd q.2 (by decide))), (kq (a := 0) (b := 41) eσ7 (fun q => absurd q.2 (by decide))), (kq (a := 0) (b := 50) eσ7 (fun q => absurd q.2 (by decide))), (kq (a := 0) (b := 51) eσ7 (fun q => absurd q.2 (by decide)))⟩)
set_option maxHeartbeats 4000000 in
theorem sX12_read {N : Nat} (hN : 4294967400 ≤ N) {x1 : Int64} {Q : Int32 → St → Prop} {σ0 σ : St} (hσ : K2 σ0 σ) (hQ : ∀ (r : Int32) (τ : St), K2 σ0 τ → (τ.1 0 14 = σ.1 0 14 ∧ τ.1 0 35 = σ.1 0 35 ∧ τ.1 0 24 = σ.1 0 24 ∧ τ.1 0 36 = σ.1 0 36 ∧ τ.1 0 41 = σ.1 0 41 ∧ τ.1 0 50 = σ.1 0 50 ∧ τ.1 0 51 = σ.1 0 51) → (0) ≤ r.toInt ∧ r.toInt ≤ 255 → Q r τ) : fX12_read N x1 Q σ := by
  unfold fX12_read
  try unfold fX12_in
  refine ⟨fun c1 => ?_, fun c1 => ?_⟩
  · have f2 := tB64 x1
    first | have f3 := (ltE64 (rfl : x1.toInt = x1.toInt) (show (0 : Int64).toInt = 0 from by decide)).mp c1 | skip
    try dsimp only
    refine ⟨fun c4 => ?_, fun c4 => ?_⟩
    · first | have f5 := (eqE (show (0 : Int32).toInt = 0 from by decide) (show (0 : Int32).toInt = 0 from by decide)).mp c4 | skip
      try unfold fX12_fails
      refine ⟨fun c6 => ?_, fun c6 => ?_⟩
      · have f7 := tB (σ.1 0 9)
        first | have f8 := (eqE (rfl : (σ.1 0 9).toInt = (σ.1 0 9).toInt) (show (0 : Int32).toInt = 0 from by decide)).mp c6 | skip
        try unfold fX12_fails_j16
        intro σ9 eσ9
        have hσ9 : K2 σ0 σ9 := by rw [eσ9]; exact hσ.u (Rg2.u_0_9 _) (fun q => absurd q.2 (by decide)) (fun q => absurd q.2 (by decide))
        try dsimp only
        exact hQ _ _ hσ9 (⟨(kq (a := 0) (b := 14) eσ9 (fun q => absurd q.2 (by decide))), (kq (a := 0) (b := 35) eσ9 (fun q => absurd q.2 (by decide))), (kq (a := 0) (b := 24) eσ9 (fun q => absurd q.2 (by decide))), (kq (a := 0) (b := 36) eσ9 (fun q => absurd q.2 (by decide))), (kq (a := 0) (b := 41) eσ9 (fun q => absurd q.2 (by decide))), (kq (a := 0) (b := 50) eσ9 (fun q => absurd q.2 (by decide))), (kq (a := 0) (b := 51) eσ9 (fun q => absurd q.2 (by decide)))⟩) ⟨leP (show (0 : Int32).toInt = 0 from by decide) (by omega), geP (show (0 : Int32).toInt = 0 from by decide) (by omega)⟩
      · have f10 := tB (σ.1 0 9)
        first | have f11 := (noteqE (rfl : (σ.1 0 9).toInt = (σ.1 0 9).toInt) (show (0 : Int32).toInt = 0 from by decide)).mp c6 | skip
        try unfold fX12_fails_j16
        intro σ12 eσ12
        have hσ12 : K2 σ0 σ12 := by rw [eσ12]; exact hσ.u (Rg2.u_0_9 _) (fun q => absurd q.2 (by decide)) (fun q => absurd q.2 (by decide))
        try dsimp only
        exact hQ _ _ hσ12 (⟨(kq (a := 0) (b := 14) eσ12 (fun q => absurd q.2 (by decide))), (kq (a := 0) (b := 35) eσ12 (fun q => absurd q.2 (by decide))), (kq (a := 0) (b := 24) eσ12 (fun q => absurd q.2 (by decide))), (kq (a := 0) (b := 36) eσ12 (fun q => absurd q.2 (by decide))), (kq (a := 0) (b := 41) eσ12 (fun q => absurd q.2 (by decide))), (kq (a := 0) (b := 50) eσ12 (fun q => absurd q.2 (by decide))), (kq (a := 0) (b := 51) eσ12 (fun q => absurd q.2 (by decide)))⟩) ⟨leP (show (0 : Int32).toInt = 0 from by decide) (by omega), geP (show (0 : Int32).toInt = 0 from by decide) (by omega)⟩
    · first | have f13 := (noteqE (show (0 : Int32).toInt = 0 from by decide) (show (0 : Int32).toInt = 0 from by decide)).mp c4 | skip
      have g15 : vp_in x1.toInt32 4096 := inE (l2iE (rfl : x1.toInt = x1.toInt) (by omega) (by omega)) (by omega) (by omega)
      refine ⟨g15, ?_⟩
      have f16 := K2.ga_1 hσ x1.toInt32.toNatClampNeg
      exact hQ _ _ hσ (⟨rfl, rfl, rfl, rfl, rfl, rfl, rfl⟩) ⟨leP (rfl : (σ.1 1 x1.toInt32.toNatClampNeg).toInt = (σ.1 1 x1.toInt32.toNatClampNeg).toInt) (by omega), geP (rfl : (σ.1 1 x1.toInt32.toNatClampNeg).toInt = (σ.1 1 x1.toInt32.toNatClampNeg).toInt) (by omega)⟩
  · have f17 := tB64 x1
    first | have f18 := (notltE64 (rfl : x1.toInt = x1.toInt) (show (0 : Int64).toInt = 0 from by decide)).mp c1 | skip
    refine ⟨fun c19 => ?_, fun c19 => ?_⟩
    · first | have f21 := (ltE64 (show (4095 : Int64).toInt = 4095 from by decide) (rfl : x1.toInt = x1.toInt)).mp c19 | skip
      try dsimp only
      refine ⟨fun c22 => ?_, fun c22 => ?_⟩
      · first | have f23 := (eqE (show (0 : Int32).toInt = 0 from by decide) (show (0 : Int32).toInt = 0 from by decide)).mp c22 | skip
        try unfold fX12_fails
        refine ⟨fun c24 => ?_, fun c24 => ?_⟩
        · have f25 := tB (σ.1 0 9)
          first | have f26 := (eqE (rfl : (σ.1 0 9).toInt = (σ.1 0 9).toInt) (show (0 : Int32).toInt = 0 from by decide)).mp c24 | skip
          try unfold fX12_fails_j16
          intro σ27 eσ27
          have hσ27 : K2 σ0 σ27 := by rw [eσ27]; exact hσ.u (Rg2.u_0_9 _) (fun q => absurd q.2 (by decide)) (fun q => absurd q.2 (by decide))
          try dsimp only
          exact hQ _ _ hσ27 (⟨(kq (a := 0) (b := 14) eσ27 (fun q => absurd q.2 (by decide))), (kq (a := 0) (b := 35) eσ27 (fun q => absurd q.2 (by decide))), (kq (a := 0) (b := 24) eσ27 (fun q => absurd q.2 (by decide))), (kq (a := 0) (b := 36) eσ27 (fun q => absurd q.2 (by decide))), (kq (a := 0) (b := 41) eσ27 (fun q => absurd q.2 (by decide))), (kq (a := 0) (b := 50) eσ27 (fun q => absurd q.2 (by decide))), (kq (a := 0) (b := 51) eσ27 (fun q => absurd q.2 (by decide)))⟩) ⟨leP (show (0 : Int32).toInt = 0 from by decide) (by omega), geP (show (0 : Int32).toInt = 0 from by decide) (by omega)⟩
        · have f28 := tB (σ.1 0 9)
          first | have f29 := (noteqE (rfl : (σ.1 0 9).toInt = (σ.1 0 9).toInt) (show (0 : Int32).toInt = 0 from by decide)).mp c24 | skip
          try unfold fX12_fails_j16
          intro σ30 eσ30
          have hσ30 : K2 σ0 σ30 := by rw [eσ30]; exact hσ.u (Rg2.u_0_9 _) (fun q => absurd q.2 (by decide)) (fun q => absurd q.2 (by decide))
          try dsimp only
          exact hQ _ _ hσ30 (⟨(kq (a := 0) (b := 14) eσ30 (fun q => absurd q.2 (by decide))), (kq (a := 0) (b := 35) eσ30 (fun q => absurd q.2 (by decide))), (kq (a := 0) (b := 24) eσ30 (fun q => absurd q.2 (by decide))), (kq (a := 0) (b := 36) eσ30 (fun q => absurd q.2 (by decide))), (kq (a := 0) (b := 41) eσ30 (fun q => absurd q.2 (by decide))), (kq (a := 0) (b := 50) eσ30 (fun q => absurd q.2 (by decide))), (kq (a := 0) (b := 51) eσ30 (fun q => absurd q.2 (by decide)))⟩) ⟨leP (show (0 : Int32).toInt = 0 from by decide) (by omega), geP (show (0 : Int32).toInt = 0 from by decide) (by omega)⟩
      · first | have f31 := (noteqE (show (0 : Int32).toInt = 0 from by decide) (show (0 : Int32).toInt = 0 from by decide)).mp c22 | skip
        have g33 : vp_in x1.toInt32 4096 := inE (l2iE (rfl : x1.toInt = x1.toInt) (by omega) (by omega)) (by omega) (by omega)
        refine ⟨g33, ?_⟩
        have f34 := K2.ga_1 hσ x1.toInt32.toNatClampNeg
        exact hQ _ _ hσ (⟨rfl, rfl, rfl, rfl, rfl, rfl, rfl⟩) ⟨leP (rfl : (σ.1 1 x1.toInt32.toNatClampNeg).toInt = (σ.1 1 x1.toInt32.toNatClampNeg).toInt) (by omega), geP (rfl : (σ.1 1 x1.toInt32.toNatClampNeg).toInt = (σ.1 1 x1.toInt32.toNatClampNeg).toInt) (by omega)⟩
    · first | have f36 := (notltE64 (show (4095 : Int64).toInt = 4095 from by decide) (rfl : x1.toInt = x1.toInt)).mp c19 | skip
      try dsimp only
      refine ⟨fun c37 => ?_, fun c37 => ?_⟩
      · first | have f38 := (eqE (show (1 : Int32).toInt = 1 from by decide) (show (0 : Int32).toInt = 0 from by decide)).mp c37 | skip
        try unfold fX12_fails
        refine ⟨fun c39 => ?_, fun c39 => ?_⟩
        · have f40 := tB (σ.1 0 9)
          first | have f41 := (eqE (rfl : (σ.1 0 9).toInt = (σ.1 0 9).toInt) (show (0 : Int32).toInt = 0 from by decide)).mp c39 | skip
          try unfold fX12_fails_j16
          intro σ42 eσ42
          have hσ42 : K2 σ0 σ42 := by rw [eσ42]; exact hσ.u (Rg2.u_0_9 _) (fun q => absurd q.2 (by decide)) (fun q => absurd q.2 (by decide))
          try dsimp only
          exact hQ _ _ hσ42 (⟨(kq (a := 0) (b := 14) eσ42 (fun q => absurd q.2 (by decide))), (kq (a := 0) (b := 35) eσ42 (fun q => absurd q.2 (by decide))), (kq (a := 0) (b := 24) eσ42 (fun q => absurd q.2 (by decide))), (kq (a := 0) (b := 36) eσ42 (fun q => absurd q.2 (by decide))), (kq (a := 0) (b := 41) eσ42 (fun q => absurd q.2 (by decide))), (kq (a := 0) (b := 50) eσ42 (fun q => absurd q.2 (by decide))), (kq (a := 0) (b := 51) eσ42 (fun q => absurd q.2 (by decide)))⟩) ⟨leP (show (0 : Int32).toInt = 0 from by decide) (by omega), geP (show (0 : Int32).toInt = 0 from by decide) (by omega)⟩
        · have f43 := tB (σ.1 0 9)
          first | have f44 := (noteqE (rfl : (σ.1 0 9).toInt = (σ.1 0 9).toInt) (show (0 : Int32).toInt = 0 from by decide)).mp c39 | skip
          try unfold fX12_fails_j16
          intro σ45 eσ45
          have hσ45 : K2 σ0 σ45 := by rw [eσ45]; exact hσ.u (Rg2.u_0_9 _) (fun q => absurd q.2 (by decide)) (fun q => absurd q.2 (by decide))
          try dsimp only
          exact hQ _ _ hσ45 (⟨(kq (a := 0) (b := 14) eσ45 (fun q => absurd q.2 (by decide))), (kq (a := 0) (b := 35) eσ45 (fun q => absurd q.2 (by decide))), (kq (a := 0) (b := 24) eσ45 (fun q => absurd q.2 (by decide))), (kq (a := 0) (b := 36) eσ45 (fun q => absurd q.2 (by decide))), (kq (a := 0) (b := 41) eσ45 (fun q => absurd q.2 (by decide))), (kq (a := 0) (b := 50) eσ45 (fun q => absurd q.2 (by decide))), (kq (a := 0) (b := 51) eσ45 (fun q => absurd q.2 (by decide)))⟩) ⟨leP (show (0 : Int32).toInt = 0 from by decide) (by omega), geP (show (0 : Int32).toInt = 0 from by decide) (by omega)⟩
      · first | have f46 := (noteqE (show (1 : Int32).toInt = 1 from by decide) (show (0 : Int32).toInt = 0 from by decide)).mp c37 | skip
        have g48 : vp_in x1.toInt32 4096 := inE (l2iE (rfl : x1.toInt = x1.toInt) (by omega) (by omega)) (by omega) (by omega)
        refine ⟨g48, ?_⟩
        have f49 := K2.ga_1 hσ x1.toInt32.toNatClampNeg
        exact hQ _ _ hσ (⟨rfl, rfl, rfl, rfl, rfl, rfl, rfl⟩) ⟨leP (rfl : (σ.1 1 x1.toInt32.toNatClampNeg).toInt = (σ.1 1 x1.toInt32.toNatClampNeg).toInt) (by omega), geP (rfl : (σ.1 1 x1.toInt32.toNatClampNeg).toInt = (σ.1 1 x1.toInt32.toNatClampNeg).toInt) (by omega)⟩
set_option maxHeartbeats 4000000 in
theorem sX12_four {N : Nat} (hN : 4294967400 ≤ N) {x1 : Int64} {Q : Int32 → St → Prop} {σ0 σ : St} (hσ : K2 σ0 σ) (hQ : ∀ (r : Int32) (τ : St), K2 σ0 τ → (τ.1 0 14 = σ.1 0 14 ∧ τ.1 0 35 = σ.1 0 35 ∧ τ.1 0 24 = σ.1 0 24 ∧ τ.1 0 36 = σ.1 0 36 ∧ τ.1 0 41 = σ.1 0 41 ∧ τ.1 0 50 = σ.1 0 50 ∧ τ.1 0 51 = σ.1 0 51) → True → Q r τ) : fX12_four N x1 Q σ := by
  unfold fX12_four
  refine lo2_i (fun (y1 : Int32) (y2 : Int32) (τ : St) => K2 σ0 τ ∧ τ.1 0 14 = σ.1 0 14 ∧ τ.1 0 35 = σ.1 0 35 ∧ τ.1 0 24 = σ.1 0 24 ∧ τ.1 0 36 = σ.1 0 36 ∧ τ.1 0 41 = σ.1 0 41 ∧ τ.1 0 50 = σ.1 0 50 ∧ τ.1 0 51 = σ.1 0 51 ∧ 0 ≤ y2.toInt) (fun (y1 : Int32) (y2 : Int32) (τ : St) => (2147483648 - y2.toInt).toNat) ?_ N (0 : Int32) (0 : Int32) σ ⟨hσ, rfl, rfl, rfl, rfl, rfl, rfl, rfl, by first | decide | (have z0 : (0 : Int32).toInt = 0 := (by decide); omega)⟩ (by have z0 : (0 : Int32).toInt = 0 := (by decide); (try dsimp only); omega)
  intro rr3 y6 y7 σ5 hIσ5 ih4
  obtain ⟨hσ5, k8, k9, k10, k11, k12, k13, k14, i15⟩ := hIσ5
  unfold fX12_four_l5
  have f16 := tB y6
  have f17 := tB y7
  refine ⟨fun c18 => ?_, fun c18 => ?_⟩
  · first | have f20 := (leE (show (4 : Int32).toInt = 4 from by decide) (rfl : y7.toInt = y7.toInt)).mp c18 | skip
    exact hQ _ _ hσ5 (⟨k8, k9, k10, k11, k12, k13, k14⟩) trivial
  · first | have f22 := (notleE (show (4 : Int32).toInt = 4 from by decide) (rfl : y7.toInt = y7.toInt)).mp c18 | skip
    have f23 := tB64 x1
    refine sX12_read hN hσ5 (fun r34 σ25 hσ25 kk33 p35 => ?_)
    obtain ⟨k26, k27, k28, k29, k30, k31, k32⟩ := kk33
    intro v36 ev36
    intro v37 ev37
    have f38 := tB v36
    have f39 := tB ((y6 <<< (8 &&& 31)) ||| r34)
    first | have f40 : v36.toInt = ((y6 <<< (8 &&& 31)) ||| r34).toInt := (congrArg Int32.toInt ev36).trans (rfl : ((y6 <<< (8 &&& 31)) ||| r34).toInt = ((y6 <<< (8 &&& 31)) ||| r34).toInt) | skip
    have f41 := tB v37
    first | have f43 : v37.toInt = (y7.toInt + (1)) := (congrArg Int32.toInt ev37).trans (aOkE (rfl : y7.toInt = y7.toInt) (show (1 : Int32).toInt = 1 from by decide) (by omega) (by omega)) | skip
    exact ih4 v36 v37 σ25 ⟨hσ25, k26.trans (k8), k27.trans (k9), k28.trans (k10), k29.trans (k11), k30.trans (k12), k31.trans (k13), k32.trans (k14), by omega⟩ (by (try dsimp only); omega)
set_option maxHeartbeats 4000000 in
theorem sX12_system {N : Nat} (hN : 4294967400 ≤ N) {x1 : Int32} {x2 : Int32} {Q : Int32 → St → Prop} {σ0 σ : St} (hσ : K2 σ0 σ) (hQ : ∀ (r : Int32) (τ : St), K2 σ0 τ → (τ.1 0 14 = σ.1 0 14 ∧ τ.1 0 9 = σ.1 0 9 ∧ τ.1 0 35 = σ.1 0 35 ∧ τ.1 0 24 = σ.1 0 24 ∧ τ.1 0 36 = σ.1 0 36 ∧ τ.1 0 41 = σ.1 0 41 ∧ τ.1 0 50 = σ.1 0 50 ∧ τ.1 0 51 = σ.1 0 51) → True → Q r τ) : fX12_system N x1 x2 Q σ := by
  unfold fX12_system
  try unfold fX12_in
  refine ⟨fun c1 => ?_, fun c1 => ?_⟩
  · have f2 := tB x1
    first | have f3 := (ltE64 (i2lE (rfl : x1.toInt = x1.toInt)) (show (0 : Int64).toInt = 0 from by decide)).mp c1 | skip
    try dsimp only
    refine ⟨fun c4 => ?_, fun c4 => ?_⟩
    · first | have f5 := (eqE (show (0 : Int32).toInt = 0 from by decide) (show (0 : Int32).toInt = 0 from by decide)).mp c4 | skip
      exact hQ _ _ hσ (⟨rfl, rfl, rfl, rfl, rfl, rfl, rfl, rfl⟩) trivial
    · first | have f6 := (noteqE (show (0 : Int32).toInt = 0 from by decide) (show (0 : Int32).toInt = 0 from by decide)).mp c4 | skip
      refine ⟨fun c7 => ?_, fun c7 => ?_⟩
      · have f8 := K2.g_0_14 hσ
        first | have f9 := (leE (rfl : (σ.1 0 14).toInt = (σ.1 0 14).toInt) (show (0 : Int32).toInt = 0 from by decide)).mp c7 | skip
        intro σ10 eσ10
        have hσ10 : K2 σ0 σ10 := by rw [eσ10]; exact hσ.u (Rg2.u_0_12 _) (fun q => absurd q.2 (by decide)) (fun q => absurd q.2 (by decide))
        intro σ11 eσ11
        have hσ11 : K2 σ0 σ11 := by rw [eσ11]; exact hσ10.u (Rg2.u_0_13 _) (fun q => absurd q.2 (by decide)) (fun q => absurd q.2 (by decide))
        exact hQ _ _ hσ11 (⟨(kq (a := 0) (b := 14) eσ11 (fun q => absurd q.2 (by decide))).trans ((kq (a := 0) (b := 14) eσ10 (fun q => absurd q.2 (by decide)))), (kq (a := 0) (b := 9) eσ11 (fun q => absurd q.2 (by decide))).trans ((kq (a := 0) (b := 9) eσ10 (fun q => absurd q.2 (by decide)))), (kq (a := 0) (b := 35) eσ11 (fun q => absurd q.2 (by decide))).trans ((kq (a := 0) (b := 35) eσ10 (fun q => absurd q.2 (by decide)))), (kq (a := 0) (b := 24) eσ11 (fun q => absurd q.2 (by decide))).trans ((kq (a := 0) (b := 24) eσ10 (fun q => absurd q.2 (by decide)))), (kq (a := 0) (b := 36) eσ11 (fun q => absurd q.2 (by decide))).trans ((kq (a := 0) (b := 36) eσ10 (fun q => absurd q.2 (by decide)))), (kq (a := 0) (b := 41) eσ11 (fun q => absurd q.2 (by decide))).trans ((kq (a := 0) (b := 41) eσ10 (fun q => absurd q.2 (by decide)))), (kq (a := 0) (b := 50) eσ11 (fun q => absurd q.2 (by decide))).trans ((kq (a := 0) (b := 50) eσ10 (fun q => absurd q.2 (by decide)))), (kq (a := 0) (b := 51) eσ11 (fun q => absurd q.2 (by decide))).trans ((kq (a := 0) (b := 51) eσ10 (fun q => absurd q.2 (by decide))))⟩) trivial
      · have f12 := K2.g_0_14 hσ
        first | have f13 := (notleE (rfl : (σ.1 0 14).toInt = (σ.1 0 14).toInt) (show (0 : Int32).toInt = 0 from by decide)).mp c7 | skip
        exact hQ _ _ hσ (⟨rfl, rfl, rfl, rfl, rfl, rfl, rfl, rfl⟩) trivial
  · have f14 := tB x1
    first | have f15 := (notltE64 (i2lE (rfl : x1.toInt = x1.toInt)) (show (0 : Int64).toInt = 0 from by decide)).mp c1 | skip
    refine ⟨fun c16 => ?_, fun c16 => ?_⟩
    · first | have f18 := (ltE64 (show (2 : Int64).toInt = 2 from by decide) (i2lE (rfl : x1.toInt = x1.toInt))).mp c16 | skip
      try dsimp only
      refine ⟨fun c19 => ?_, fun c19 => ?_⟩
      · first | have f20 := (eqE (show (0 : Int32).toInt = 0 from by decide) (show (0 : Int32).toInt = 0 from by decide)).mp c19 | skip
        exact hQ _ _ hσ (⟨rfl, rfl, rfl, rfl, rfl, rfl, rfl, rfl⟩) trivial
      · first | have f21 := (noteqE (show (0 : Int32).toInt = 0 from by decide) (show (0 : Int32).toInt = 0 from by decide)).mp c19 | skip
        refine ⟨fun c22 => ?_, fun c22 => ?_⟩
        · have f23 := K2.g_0_14 hσ
          first | have f24 := (leE (rfl : (σ.1 0 14).toInt = (σ.1 0 14).toInt) (show (0 : Int32).toInt = 0 from by decide)).mp c22 | skip
          intro σ25 eσ25
          have hσ25 : K2 σ0 σ25 := by rw [eσ25]; exact hσ.u (Rg2.u_0_12 _) (fun q => absurd q.2 (by decide)) (fun q => absurd q.2 (by decide))
          intro σ26 eσ26
          have hσ26 : K2 σ0 σ26 := by rw [eσ26]; exact hσ25.u (Rg2.u_0_13 _) (fun q => absurd q.2 (by decide)) (fun q => absurd q.2 (by decide))
          exact hQ _ _ hσ26 (⟨(kq (a := 0) (b := 14) eσ26 (fun q => absurd q.2 (by decide))).trans ((kq (a := 0) (b := 14) eσ25 (fun q => absurd q.2 (by decide)))), (kq (a := 0) (b := 9) eσ26 (fun q => absurd q.2 (by decide))).trans ((kq (a := 0) (b := 9) eσ25 (fun q => absurd q.2 (by decide)))), (kq (a := 0) (b := 35) eσ26 (fun q => absurd q.2 (by decide))).trans ((kq (a := 0) (b := 35) eσ25 (fun q => absurd q.2 (by decide)))), (kq (a := 0) (b := 24) eσ26 (fun q => absurd q.2 (by decide))).trans ((kq (a := 0) (b := 24) eσ25 (fun q => absurd q.2 (by decide)))), (kq (a := 0) (b := 36) eσ26 (fun q => absurd q.2 (by decide))).trans ((kq (a := 0) (b := 36) eσ25 (fun q => absurd q.2 (by decide)))), (kq (a := 0) (b := 41) eσ26 (fun q => absurd q.2 (by decide))).trans ((kq (a := 0) (b := 41) eσ25 (fun q => absurd q.2 (by decide)))), (kq (a := 0) (b := 50) eσ26 (fun q => absurd q.2 (by decide))).trans ((kq (a := 0) (b := 50) eσ25 (fun q => absurd q.2 (by decide)))), (kq (a := 0) (b := 51) eσ26 (fun q => absurd q.2 (by decide))).trans ((kq (a := 0) (b := 51) eσ25 (fun q => absurd q.2 (by decide))))⟩) trivial
        · have f27 := K2.g_0_14 hσ
          first | have f28 := (notleE (rfl : (σ.1 0 14).toInt = (σ.1 0 14).toInt) (show (0 : Int32).toInt = 0 from by decide)).mp c22 | skip
          exact hQ _ _ hσ (⟨rfl, rfl, rfl, rfl, rfl, rfl, rfl, rfl⟩) trivial
    · first | have f30 := (notltE64 (show (2 : Int64).toInt = 2 from by decide) (i2lE (rfl : x1.toInt = x1.toInt))).mp c16 | skip
      try dsimp only
      refine ⟨fun c31 => ?_, fun c31 => ?_⟩
      · first | have f32 := (eqE (show (1 : Int32).toInt = 1 from by decide) (show (0 : Int32).toInt = 0 from by decide)).mp c31 | skip
        exact hQ _ _ hσ (⟨rfl, rfl, rfl, rfl, rfl, rfl, rfl, rfl⟩) trivial
      · first | have f33 := (noteqE (show (1 : Int32).toInt = 1 from by decide) (show (0 : Int32).toInt = 0 from by decide)).mp c31 | skip
        refine ⟨fun c34 => ?_, fun c34 => ?_⟩
        · have f35 := K2.g_0_14 hσ
          first | have f36 := (leE (rfl : (σ.1 0 14).toInt = (σ.1 0 14).toInt) (show (0 : Int32).toInt = 0 from by decide)).mp c34 | skip
          intro σ37 eσ37
          have hσ37 : K2 σ0 σ37 := by rw [eσ37]; exact hσ.u (Rg2.u_0_12 _) (fun q => absurd q.2 (by decide)) (fun q => absurd q.2 (by decide))
          intro σ38 eσ38
          have hσ38 : K2 σ0 σ38 := by rw [eσ38]; exact hσ37.u (Rg2.u_0_13 _) (fun q => absurd q.2 (by decide)) (fun q => absurd q.2 (by decide))
          exact hQ _ _ hσ38 (⟨(kq (a := 0) (b := 14) eσ38 (fun q => absurd q.2 (by decide))).trans ((kq (a := 0) (b := 14) eσ37 (fun q => absurd q.2 (by decide)))), (kq (a := 0) (b := 9) eσ38 (fun q => absurd q.2 (by decide))).trans ((kq (a := 0) (b := 9) eσ37 (fun q => absurd q.2 (by decide)))), (kq (a := 0) (b := 35) eσ38 (fun q => absurd q.2 (by decide))).trans ((kq (a := 0) (b := 35) eσ37 (fun q => absurd q.2 (by decide)))), (kq (a := 0) (b := 24) eσ38 (fun q => absurd q.2 (by decide))).trans ((kq (a := 0) (b := 24) eσ37 (fun q => absurd q.2 (by decide)))), (kq (a := 0) (b := 36) eσ38 (fun q => absurd q.2 (by decide))).trans ((kq (a := 0) (b := 36) eσ37 (fun q => absurd q.2 (by decide)))), (kq (a := 0) (b := 41) eσ38 (fun q => absurd q.2 (by decide))).trans ((kq (a := 0) (b := 41) eσ37 (fun q => absurd q.2 (by decide)))), (kq (a := 0) (b := 50) eσ38 (fun q => absurd q.2 (by decide))).trans ((kq (a := 0) (b := 50) eσ37 (fun q => absurd q.2 (by decide)))), (kq (a := 0) (b := 51) eσ38 (fun q => absurd q.2 (by decide))).trans ((kq (a := 0) (b := 51) eσ37 (fun q => absurd q.2 (by decide))))⟩) trivial
        · have f39 := K2.g_0_14 hσ
          first | have f40 := (notleE (rfl : (σ.1 0 14).toInt = (σ.1 0 14).toInt) (show (0 : Int32).toInt = 0 from by decide)).mp c34 | skip
          exact hQ _ _ hσ (⟨rfl, rfl, rfl, rfl, rfl, rfl, rfl, rfl⟩) trivial
set_option maxHeartbeats 4000000 in
theorem sX12_isString {N : Nat} (hN : 4294967400 ≤ N) {x0 : Int32} {Q : Int32 → St → Prop} {σ0 σ : St} (hσ : K2 σ0 σ) (hQ : ∀ r : Int32, True → Q r σ) : fX12_isString N x0 Q σ := by
  unfold fX12_isString
  refine ⟨fun c1 => ?_, fun c1 => ?_⟩
  · have f2 := tB x0
    first | have f3 := (ltE (rfl : x0.toInt = x0.toInt) (show (224 : Int32).toInt = 224 from by decide)).mp c1 | skip
    exact hQ _ trivial
  · have f4 := tB x0
    first | have f5 := (notltE (rfl : x0.toInt = x0.toInt) (show (224 : Int32).toInt = 224 from by decide)).mp c1 | skip
    refine ⟨fun c6 => ?_, fun c6 => ?_⟩
    · first | have f8 := (ltE (show (226 : Int32).toInt = 226 from by decide) (rfl : x0.toInt = x0.toInt)).mp c6 | skip
      exact hQ _ trivial
    · first | have f10 := (notltE (show (226 : Int32).toInt = 226 from by decide) (rfl : x0.toInt = x0.toInt)).mp c6 | skip
      exact hQ _ trivial
set_option maxHeartbeats 4000000 in
theorem sX12_lays {N : Nat} (hN : 4294967400 ≤ N) {x1 : Int32} {x2 : Int32} {Q : St → Prop} {σ0 σ : St} (hσ : K2 σ0 σ) (hQ : ∀ τ : St, K2 σ0 τ → (τ.1 0 35 = σ.1 0 35 ∧ τ.1 0 24 = σ.1 0 24 ∧ τ.1 0 36 = σ.1 0 36 ∧ τ.1 0 41 = σ.1 0 41 ∧ τ.1 0 50 = σ.1 0 50 ∧ τ.1 0 51 = σ.1 0 51) → Q τ) : fX12_lays N x1 x2 Q σ := by
  unfold fX12_lays
  refine ⟨fun c1 => ?_, fun c1 => ?_⟩
  · have f2 := tB (σ.1 0 9)
    first | have f3 := (eqE (rfl : (σ.1 0 9).toInt = (σ.1 0 9).toInt) (show (0 : Int32).toInt = 0 from by decide)).mp c1 | skip
    refine ⟨fun c4 => ?_, fun c4 => ?_⟩
    · have f5 := K2.g_0_14 hσ
      first | have f6 := (eqE (rfl : (σ.1 0 14).toInt = (σ.1 0 14).toInt) (show (40 : Int32).toInt = 40 from by decide)).mp c4 | skip
      try unfold fX12_fails
      refine ⟨fun c7 => ?_, fun c7 => ?_⟩
      · first | have f9 := (eqE (rfl : (σ.1 0 9).toInt = (σ.1 0 9).toInt) (show (0 : Int32).toInt = 0 from by decide)).mp c7 | skip
        try unfold fX12_fails_j16
        intro σ10 eσ10
        have hσ10 : K2 σ0 σ10 := by rw [eσ10]; exact hσ.u (Rg2.u_0_9 _) (fun q => absurd q.2 (by decide)) (fun q => absurd q.2 (by decide))
        try dsimp only
        try unfold fX12_lays_j22
        refine ⟨fun c11 => ?_, fun c11 => ?_⟩
        · have f12 := tB (σ10.1 0 9)
          have q13 : σ10.1 0 9 = 8 := by rw [eσ10, u1_at]; exact if_pos rfl
          first | have f14 : (σ10.1 0 9).toInt = (8) := (congrArg Int32.toInt q13).trans (show (8 : Int32).toInt = 8 from by decide) | skip
          first | have f15 := (eqE (rfl : (σ10.1 0 9).toInt = (σ10.1 0 9).toInt) (show (0 : Int32).toInt = 0 from by decide)).mp c11 | skip
          have f16 := K2.g_0_14 hσ10
          have q17 : σ10.1 0 14 = σ.1 0 14 := by rw [eσ10, u1_at]; exact if_neg (by decide)
          have f18 := congrArg Int32.toInt q17
          refine ⟨inE (rfl : (σ10.1 0 14).toInt = (σ10.1 0 14).toInt) (by omega) (by omega), ?_⟩
          intro σ20 eσ20
          have hσ20 : K2 σ0 σ20 := by rw [eσ20]; exact hσ10.u (Rg2.ra_6 _ _) (fun q => absurd q.1 (by decide)) (fun q => absurd q.1 (by decide))
          have f21 := K2.g_0_14 hσ20
          have q22 : σ20.1 0 14 = σ10.1 0 14 := by rw [eσ20]; exact congrFun (u1_ne (by decide)) 14
          have f23 := congrArg Int32.toInt q22
          refine ⟨inE (rfl : (σ20.1 0 14).toInt = (σ20.1 0 14).toInt) (by omega) (by omega), ?_⟩
          intro σ25 eσ25
          have hσ25 : K2 σ0 σ25 := by rw [eσ25]; exact hσ20.u (Rg2.ra_7 _ _) (fun q => absurd q.1 (by decide)) (fun q => absurd q.1 (by decide))
          have f26 := K2.g_0_14 hσ25
          have q27 : σ25.1 0 14 = σ20.1 0 14 := by rw [eσ25]; exact congrFun (u1_ne (by decide)) 14
          have f28 := congrArg Int32.toInt q27
          refine ⟨inE (rfl : (σ25.1 0 14).toInt = (σ25.1 0 14).toInt) (by omega) (by omega), ?_⟩
          intro σ30 eσ30
          have hσ30 : K2 σ0 σ30 := by rw [eσ30]; exact hσ25.u (Rg2.ra_8 _ _) (fun q => absurd q.1 (by decide)) (fun q => absurd q.1 (by decide))
          have f31 := K2.g_0_14 hσ30
          have q32 : σ30.1 0 14 = σ25.1 0 14 := by rw [eσ30]; exact congrFun (u1_ne (by decide)) 14
          have f33 := congrArg Int32.toInt q32
          refine ⟨inE (rfl : (σ30.1 0 14).toInt = (σ30.1 0 14).toInt) (by omega) (by omega), ?_⟩
          intro σ35 eσ35
          have hσ35 : K2 σ0 σ35 := by rw [eσ35]; exact hσ30.u (Rg2.ra_9 (leP (show (0 : Int32).toInt = 0 from by decide) (by omega)) (geP (show (0 : Int32).toInt = 0 from by decide) (by omega))) (fun q => absurd q.1 (by decide)) (fun q => absurd q.1 (by decide))
          have f36 := K2.g_0_14 hσ35
          have q37 : σ35.1 0 14 = σ30.1 0 14 := by rw [eσ35]; exact congrFun (u1_ne (by decide)) 14
          have f38 := congrArg Int32.toInt q37
          refine ⟨inE (rfl : (σ35.1 0 14).toInt = (σ35.1 0 14).toInt) (by omega) (by omega), ?_⟩
          intro σ40 eσ40
          have hσ40 : K2 σ0 σ40 := by rw [eσ40]; exact hσ35.u (Rg2.ra_11 _ _) (fun q => absurd q.1 (by decide)) (fun q => absurd q.1 (by decide))
          have f41 := K2.g_0_14 hσ40
          have q42 : σ40.1 0 14 = σ35.1 0 14 := by rw [eσ40]; exact congrFun (u1_ne (by decide)) 14
          have f43 := congrArg Int32.toInt q42
          refine ⟨inE (rfl : (σ40.1 0 14).toInt = (σ40.1 0 14).toInt) (by omega) (by omega), ?_⟩
          intro σ45 eσ45
          have hσ45 : K2 σ0 σ45 := by rw [eσ45]; exact hσ40.u (Rg2.ra_12 _ _) (fun q => absurd q.1 (by decide)) (fun q => absurd q.1 (by decide))
          have f46 := K2.g_0_14 hσ45
          have q47 : σ45.1 0 14 = σ40.1 0 14 := by rw [eσ45]; exact congrFun (u1_ne (by decide)) 14
          have f48 := congrArg Int32.toInt q47
          refine ⟨inE (rfl : (σ45.1 0 14).toInt = (σ45.1 0 14).toInt) (by omega) (by omega), ?_⟩
          intro σ50 eσ50
          have hσ50 : K2 σ0 σ50 := by rw [eσ50]; exact hσ45.u (Rg2.r13 (Or.inl (by decide))) (fun q => absurd q.1 (by decide)) (fun q => absurd q.1 (by decide))
          intro v51 ev51
          intro σ52 eσ52
          have f53 := tB v51
          have f54 := K2.g_0_14 hσ50
          have q55 : σ50.1 0 14 = σ45.1 0 14 := by rw [eσ50]; exact congrFun (u1_ne (by decide)) 14
          have f56 := congrArg Int32.toInt q55
          first | have f58 : v51.toInt = ((σ50.1 0 14).toInt + (1)) := (congrArg Int32.toInt ev51).trans (aOkE (rfl : (σ50.1 0 14).toInt = (σ50.1 0 14).toInt) (show (1 : Int32).toInt = 1 from by decide) (by omega) (by omega)) | skip
          have hσ52 : K2 σ0 σ52 := by rw [eσ52]; exact hσ50.u (Rg2.r_0_14 (leP (rfl : v51.toInt = v51.toInt) (by omega)) (geP (rfl : v51.toInt = v51.toInt) (by omega))) (fun q => absurd q.2 (by decide)) (fun q => absurd q.2 (by decide))
          refine ⟨fun c59 => ?_, fun c59 => ?_⟩
          · have f60 := K2.g_0_14 hσ52
            have q61 : σ52.1 0 14 = v51 := by rw [eσ52, u1_at]; exact if_pos rfl
            first | have f63 : (σ52.1 0 14).toInt = v51.toInt := (congrArg Int32.toInt q61).trans (rfl : v51.toInt = v51.toInt) | skip
            have f64 := tB (σ52.1 0 32)
            have q65 : σ52.1 0 32 = σ50.1 0 32 := by rw [eσ52, u1_at]; exact if_neg (by decide)
            have f66 := congrArg Int32.toInt q65
            have f67 := tB (σ50.1 0 32)
            have q68 : σ50.1 0 32 = σ45.1 0 32 := by rw [eσ50]; exact congrFun (u1_ne (by decide)) 32
            have f69 := congrArg Int32.toInt q68
            have f70 := tB (σ45.1 0 32)
            have q71 : σ45.1 0 32 = σ40.1 0 32 := by rw [eσ45]; exact congrFun (u1_ne (by decide)) 32
            have f72 := congrArg Int32.toInt q71
            have f73 := tB (σ40.1 0 32)
            have q74 : σ40.1 0 32 = σ35.1 0 32 := by rw [eσ40]; exact congrFun (u1_ne (by decide)) 32
            have f75 := congrArg Int32.toInt q74
            have f76 := tB (σ35.1 0 32)
            have q77 : σ35.1 0 32 = σ30.1 0 32 := by rw [eσ35]; exact congrFun (u1_ne (by decide)) 32
            have f78 := congrArg Int32.toInt q77
            have f79 := tB (σ30.1 0 32)
            have q80 : σ30.1 0 32 = σ25.1 0 32 := by rw [eσ30]; exact congrFun (u1_ne (by decide)) 32
            have f81 := congrArg Int32.toInt q80
            have f82 := tB (σ25.1 0 32)
            have q83 : σ25.1 0 32 = σ20.1 0 32 := by rw [eσ25]; exact congrFun (u1_ne (by decide)) 32
            have f84 := congrArg Int32.toInt q83
            have f85 := tB (σ20.1 0 32)
            have q86 : σ20.1 0 32 = σ10.1 0 32 := by rw [eσ20]; exact congrFun (u1_ne (by decide)) 32
            have f87 := congrArg Int32.toInt q86
            have f88 := tB (σ10.1 0 32)
            have q89 : σ10.1 0 32 = σ.1 0 32 := by rw [eσ10, u1_at]; exact if_neg (by decide)
            have f90 := congrArg Int32.toInt q89
            have f91 := tB (σ.1 0 32)
            first | have f92 := (leE (rfl : (σ52.1 0 14).toInt = (σ52.1 0 14).toInt) (rfl : (σ52.1 0 32).toInt = (σ52.1 0 32).toInt)).mp c59 | skip
            try unfold fX12_lays_j134
            intro σ93 eσ93
            have hσ93 : K2 σ0 σ93 := by rw [eσ93]; exact hσ52.u (Rg2.u_0_32 _) (fun q => absurd q.2 (by decide)) (fun q => absurd q.2 (by decide))
            exact hQ _ hσ93 (⟨(kq (a := 0) (b := 35) eσ93 (fun q => absurd q.2 (by decide))).trans ((kq (a := 0) (b := 35) eσ52 (fun q => absurd q.2 (by decide))).trans ((kq (a := 0) (b := 35) eσ50 (fun q => absurd q.1 (by decide))).trans ((kq (a := 0) (b := 35) eσ45 (fun q => absurd q.1 (by decide))).trans ((kq (a := 0) (b := 35) eσ40 (fun q => absurd q.1 (by decide))).trans ((kq (a := 0) (b := 35) eσ35 (fun q => absurd q.1 (by decide))).trans ((kq (a := 0) (b := 35) eσ30 (fun q => absurd q.1 (by decide))).trans ((kq (a := 0) (b := 35) eσ25 (fun q => absurd q.1 (by decide))).trans ((kq (a := 0) (b := 35) eσ20 (fun q => absurd q.1 (by decide))).trans ((kq (a := 0) (b := 35) eσ10 (fun q => absurd q.2 (by decide)))))))))))), (kq (a := 0) (b := 24) eσ93 (fun q => absurd q.2 (by decide))).trans ((kq (a := 0) (b := 24) eσ52 (fun q => absurd q.2 (by decide))).trans ((kq (a := 0) (b := 24) eσ50 (fun q => absurd q.1 (by decide))).trans ((kq (a := 0) (b := 24) eσ45 (fun q => absurd q.1 (by decide))).trans ((kq (a := 0) (b := 24) eσ40 (fun q => absurd q.1 (by decide))).trans ((kq (a := 0) (b := 24) eσ35 (fun q => absurd q.1 (by decide))).trans ((kq (a := 0) (b := 24) eσ30 (fun q => absurd q.1 (by decide))).trans ((kq (a := 0) (b := 24) eσ25 (fun q => absurd q.1 (by decide))).trans ((kq (a := 0) (b := 24) eσ20 (fun q => absurd q.1 (by decide))).trans ((kq (a := 0) (b := 24) eσ10 (fun q => absurd q.2 (by decide)))))))))))), (kq (a := 0) (b := 36) eσ93 (fun q => absurd q.2 (by decide))).trans ((kq (a := 0) (b := 36) eσ52 (fun q => absurd q.2 (by decide))).trans ((kq (a := 0) (b := 36) eσ50 (fun q => absurd q.1 (by decide))).trans ((kq (a := 0) (b := 36) eσ45 (fun q => absurd q.1 (by decide))).trans ((kq (a := 0) (b := 36) eσ40 (fun q => absurd q.1 (by decide))).trans ((kq (a := 0) (b := 36) eσ35 (fun q => absurd q.1 (by decide))).trans ((kq (a := 0) (b := 36) eσ30 (fun q => absurd q.1 (by decide))).trans ((kq (a := 0) (b := 36) eσ25 (fun q => absurd q.1 (by decide))).trans ((kq (a := 0) (b := 36) eσ20 (fun q => absurd q.1 (by decide))).trans ((kq (a := 0) (b := 36) eσ10 (fun q => absurd q.2 (by decide)))))))))))), (kq (a := 0) (b := 41) eσ93 (fun q => absurd q.2 (by decide))).trans ((kq (a := 0) (b := 41) eσ52 (fun q => absurd q.2 (by decide))).trans ((kq (a := 0) (b := 41) eσ50 (fun q => absurd q.1 (by decide))).trans ((kq (a := 0) (b := 41) eσ45 (fun q => absurd q.1 (by decide))).trans ((kq (a := 0) (b := 41) eσ40 (fun q => absurd q.1 (by decide))).trans ((kq (a := 0) (b := 41) eσ35 (fun q => absurd q.1 (by decide))).trans ((kq (a := 0) (b := 41) eσ30 (fun q => absurd q.1 (by decide))).trans ((kq (a := 0) (b := 41) eσ25 (fun q => absurd q.1 (by decide))).trans ((kq (a := 0) (b := 41) eσ20 (fun q => absurd q.1 (by decide))).trans ((kq (a := 0) (b := 41) eσ10 (fun q => absurd q.2 (by decide)))))))))))), (kq (a := 0) (b := 50) eσ93 (fun q => absurd q.2 (by decide))).trans ((kq (a := 0) (b := 50) eσ52 (fun q => absurd q.2 (by decide))).trans ((kq (a := 0) (b := 50) eσ50 (fun q => absurd q.1 (by decide))).trans ((kq (a := 0) (b := 50) eσ45 (fun q => absurd q.1 (by decide))).trans ((kq (a := 0) (b := 50) eσ40 (fun q => absurd q.1 (by decide))).trans ((kq (a := 0) (b := 50) eσ35 (fun q => absurd q.1 (by decide))).trans ((kq (a := 0) (b := 50) eσ30 (fun q => absurd q.1 (by decide))).trans ((kq (a := 0) (b := 50) eσ25 (fun q => absurd q.1 (by decide))).trans ((kq (a := 0) (b := 50) eσ20 (fun q => absurd q.1 (by decide))).trans ((kq (a := 0) (b := 50) eσ10 (fun q => absurd q.2 (by decide)))))))))))), (kq (a := 0) (b := 51) eσ93 (fun q => absurd q.2 (by decide))).trans ((kq (a := 0) (b := 51) eσ52 (fun q => absurd q.2 (by decide))).trans ((kq (a := 0) (b := 51) eσ50 (fun q => absurd q.1 (by decide))).trans ((kq (a := 0) (b := 51) eσ45 (fun q => absurd q.1 (by decide))).trans ((kq (a := 0) (b := 51) eσ40 (fun q => absurd q.1 (by decide))).trans ((kq (a := 0) (b := 51) eσ35 (fun q => absurd q.1 (by decide))).trans ((kq (a := 0) (b := 51) eσ30 (fun q => absurd q.1 (by decide))).trans ((kq (a := 0) (b := 51) eσ25 (fun q => absurd q.1 (by decide))).trans ((kq (a := 0) (b := 51) eσ20 (fun q => absurd q.1 (by decide))).trans ((kq (a := 0) (b := 51) eσ10 (fun q => absurd q.2 (by decide))))))))))))⟩)
          · have f94 := K2.g_0_14 hσ52
            have q95 : σ52.1 0 14 = v51 := by rw [eσ52, u1_at]; exact if_pos rfl
            first | have f97 : (σ52.1 0 14).toInt = v51.toInt := (congrArg Int32.toInt q95).trans (rfl : v51.toInt = v51.toInt) | skip
            have f98 := tB (σ52.1 0 32)
            have q99 : σ52.1 0 32 = σ50.1 0 32 := by rw [eσ52, u1_at]; exact if_neg (by decide)
            have f100 := congrArg Int32.toInt q99
            have f101 := tB (σ50.1 0 32)
            have q102 : σ50.1 0 32 = σ45.1 0 32 := by rw [eσ50]; exact congrFun (u1_ne (by decide)) 32
            have f103 := congrArg Int32.toInt q102
            have f104 := tB (σ45.1 0 32)
            have q105 : σ45.1 0 32 = σ40.1 0 32 := by rw [eσ45]; exact congrFun (u1_ne (by decide)) 32
            have f106 := congrArg Int32.toInt q105
            have f107 := tB (σ40.1 0 32)
            have q108 : σ40.1 0 32 = σ35.1 0 32 := by rw [eσ40]; exact congrFun (u1_ne (by decide)) 32
            have f109 := congrArg Int32.toInt q108
            have f110 := tB (σ35.1 0 32)
            have q111 : σ35.1 0 32 = σ30.1 0 32 := by rw [eσ35]; exact congrFun (u1_ne (by decide)) 32
            have f112 := congrArg Int32.toInt q111
            have f113 := tB (σ30.1 0 32)
            have q114 : σ30.1 0 32 = σ25.1 0 32 := by rw [eσ30]; exact congrFun (u1_ne (by decide)) 32
            have f115 := congrArg Int32.toInt q114
            have f116 := tB (σ25.1 0 32)
            have q117 : σ25.1 0 32 = σ20.1 0 32 := by rw [eσ25]; exact congrFun (u1_ne (by decide)) 32
            have f118 := congrArg Int32.toInt q117
            have f119 := tB (σ20.1 0 32)
            have q120 : σ20.1 0 32 = σ10.1 0 32 := by rw [eσ20]; exact congrFun (u1_ne (by decide)) 32
            have f121 := congrArg Int32.toInt q120
            have f122 := tB (σ10.1 0 32)
            have q123 : σ10.1 0 32 = σ.1 0 32 := by rw [eσ10, u1_at]; exact if_neg (by decide)
            have f124 := congrArg Int32.toInt q123
            have f125 := tB (σ.1 0 32)
            first | have f126 := (notleE (rfl : (σ52.1 0 14).toInt = (σ52.1 0 14).toInt) (rfl : (σ52.1 0 32).toInt = (σ52.1 0 32).toInt)).mp c59 | skip
            try unfold fX12_lays_j134
            intro σ127 eσ127
            have hσ127 : K2 σ0 σ127 := by rw [eσ127]; exact hσ52.u (Rg2.u_0_32 _) (fun q => absurd q.2 (by decide)) (fun q => absurd q.2 (by decide))
            exact hQ _ hσ127 (⟨(kq (a := 0) (b := 35) eσ127 (fun q => absurd q.2 (by decide))).trans ((kq (a := 0) (b := 35) eσ52 (fun q => absurd q.2 (by decide))).trans ((kq (a := 0) (b := 35) eσ50 (fun q => absurd q.1 (by decide))).trans ((kq (a := 0) (b := 35) eσ45 (fun q => absurd q.1 (by decide))).trans ((kq (a := 0) (b := 35) eσ40 (fun q => absurd q.1 (by decide))).trans ((kq (a := 0) (b := 35) eσ35 (fun q => absurd q.1 (by decide))).trans ((kq (a := 0) (b := 35) eσ30 (fun q => absurd q.1 (by decide))).trans ((kq (a := 0) (b := 35) eσ25 (fun q => absurd q.1 (by decide))).trans ((kq (a := 0) (b := 35) eσ20 (fun q => absurd q.1 (by decide))).trans ((kq (a := 0) (b := 35) eσ10 (fun q => absurd q.2 (by decide)))))))))))), (kq (a := 0) (b := 24) eσ127 (fun q => absurd q.2 (by decide))).trans ((kq (a := 0) (b := 24) eσ52 (fun q => absurd q.2 (by decide))).trans ((kq (a := 0) (b := 24) eσ50 (fun q => absurd q.1 (by decide))).trans ((kq (a := 0) (b := 24) eσ45 (fun q => absurd q.1 (by decide))).trans ((kq (a := 0) (b := 24) eσ40 (fun q => absurd q.1 (by decide))).trans ((kq (a := 0) (b := 24) eσ35 (fun q => absurd q.1 (by decide))).trans ((kq (a := 0) (b := 24) eσ30 (fun q => absurd q.1 (by decide))).trans ((kq (a := 0) (b := 24) eσ25 (fun q => absurd q.1 (by decide))).trans ((kq (a := 0) (b := 24) eσ20 (fun q => absurd q.1 (by decide))).trans ((kq (a := 0) (b := 24) eσ10 (fun q => absurd q.2 (by decide)))))))))))), (kq (a := 0) (b := 36) eσ127 (fun q => absurd q.2 (by decide))).trans ((kq (a := 0) (b := 36) eσ52 (fun q => absurd q.2 (by decide))).trans ((kq (a := 0) (b := 36) eσ50 (fun q => absurd q.1 (by decide))).trans ((kq (a := 0) (b := 36) eσ45 (fun q => absurd q.1 (by decide))).trans ((kq (a := 0) (b := 36) eσ40 (fun q => absurd q.1 (by decide))).trans ((kq (a := 0) (b := 36) eσ35 (fun q => absurd q.1 (by decide))).trans ((kq (a := 0) (b := 36) eσ30 (fun q => absurd q.1 (by decide))).trans ((kq (a := 0) (b := 36) eσ25 (fun q => absurd q.1 (by decide))).trans ((kq (a := 0) (b := 36) eσ20 (fun q => absurd q.1 (by decide))).trans ((kq (a := 0) (b := 36) eσ10 (fun q => absurd q.2 (by decide)))))))))))), (kq (a := 0) (b := 41) eσ127 (fun q => absurd q.2 (by decide))).trans ((kq (a := 0) (b := 41) eσ52 (fun q => absurd q.2 (by decide))).trans ((kq (a := 0) (b := 41) eσ50 (fun q => absurd q.1 (by decide))).trans ((kq (a := 0) (b := 41) eσ45 (fun q => absurd q.1 (by decide))).trans ((kq (a := 0) (b := 41) eσ40 (fun q => absurd q.1 (by decide))).trans ((kq (a := 0) (b := 41) eσ35 (fun q => absurd q.1 (by decide))).trans ((kq (a := 0) (b := 41) eσ30 (fun q => absurd q.1 (by decide))).trans ((kq (a := 0) (b := 41) eσ25 (fun q => absurd q.1 (by decide))).trans ((kq (a := 0) (b := 41) eσ20 (fun q => absurd q.1 (by decide))).trans ((kq (a := 0) (b := 41) eσ10 (fun q => absurd q.2 (by decide)))))))))))), (kq (a := 0) (b := 50) eσ127 (fun q => absurd q.2 (by decide))).trans ((kq (a := 0) (b := 50) eσ52 (fun q => absurd q.2 (by decide))).trans ((kq (a := 0) (b := 50) eσ50 (fun q => absurd q.1 (by decide))).trans ((kq (a := 0) (b := 50) eσ45 (fun q => absurd q.1 (by decide))).trans ((kq (a := 0) (b := 50) eσ40 (fun q => absurd q.1 (by decide))).trans ((kq (a := 0) (b := 50) eσ35 (fun q => absurd q.1 (by decide))).trans ((kq (a := 0) (b := 50) eσ30 (fun q => absurd q.1 (by decide))).trans ((kq (a := 0) (b := 50) eσ25 (fun q => absurd q.1 (by decide))).trans ((kq (a := 0) (b := 50) eσ20 (fun q => absurd q.1 (by decide))).trans ((kq (a := 0) (b := 50) eσ10 (fun q => absurd q.2 (by decide)))))))))))), (kq (a := 0) (b := 51) eσ127 (fun q => absurd q.2 (by decide))).trans ((kq (a := 0) (b := 51) eσ52 (fun q => absurd q.2 (by decide))).trans ((kq (a := 0) (b := 51) eσ50 (fun q => absurd q.1 (by decide))).trans ((kq (a := 0) (b := 51) eσ45 (fun q => absurd q.1 (by decide))).trans ((kq (a := 0) (b := 51) eσ40 (fun q => absurd q.1 (by decide))).trans ((kq (a := 0) (b := 51) eσ35 (fun q => absurd q.1 (by decide))).trans ((kq (a := 0) (b := 51) eσ30 (fun q => absurd q.1 (by decide))).trans ((kq (a := 0) (b := 51) eσ25 (fun q => absurd q.1 (by decide))).trans ((kq (a := 0) (b := 51) eσ20 (fun q => absurd q.1 (by decide))).trans ((kq (a := 0) (b := 51) eσ10 (fun q => absurd q.2 (by decide))))))))))))⟩)
        · have f128 := tB (σ10.1 0 9)
          have q129 : σ10.1 0 9 = 8 := by rw [eσ10, u1_at]; exact if_pos rfl
          first | have f130 : (σ10.1 0 9).toInt = (8) := (congrArg Int32.toInt q129).trans (show (8 : Int32).toInt = 8 from by decide) | skip
          first | have f131 := (noteqE (rfl : (σ10.1 0 9).toInt = (σ10.1 0 9).toInt) (show (0 : Int32).toInt = 0 from by decide)).mp c11 | skip
          exact hQ _ hσ10 (⟨(kq (a := 0) (b := 35) eσ10 (fun q => absurd q.2 (by decide))), (kq (a := 0) (b := 24) eσ10 (fun q => absurd q.2 (by decide))), (kq (a := 0) (b := 36) eσ10 (fun q => absurd q.2 (by decide))), (kq (a := 0) (b := 41) eσ10 (fun q => absurd q.2 (by decide))), (kq (a := 0) (b := 50) eσ10 (fun q => absurd q.2 (by decide))), (kq (a := 0) (b := 51) eσ10 (fun q => absurd q.2 (by decide)))⟩)
      · first | have f133 := (noteqE (rfl : (σ.1 0 9).toInt = (σ.1 0 9).toInt) (show (0 : Int32).toInt = 0 from by decide)).mp c7 | skip
        try unfold fX12_fails_j16
        intro σ134 eσ134
        have hσ134 : K2 σ0 σ134 := by rw [eσ134]; exact hσ.u (Rg2.u_0_9 _) (fun q => absurd q.2 (by decide)) (fun q => absurd q.2 (by decide))
        try dsimp only
        try unfold fX12_lays_j22
        refine ⟨fun c135 => ?_, fun c135 => ?_⟩
        · have f136 := tB (σ134.1 0 9)
          have q137 : σ134.1 0 9 = (σ.1 0 9) := by rw [eσ134, u1_at]; exact if_pos rfl
          first | have f139 : (σ134.1 0 9).toInt = (σ.1 0 9).toInt := (congrArg Int32.toInt q137).trans (rfl : (σ.1 0 9).toInt = (σ.1 0 9).toInt) | skip
          first | have f140 := (eqE (rfl : (σ134.1 0 9).toInt = (σ134.1 0 9).toInt) (show (0 : Int32).toInt = 0 from by decide)).mp c135 | skip
          have f141 := K2.g_0_14 hσ134
          have q142 : σ134.1 0 14 = σ.1 0 14 := by rw [eσ134, u1_at]; exact if_neg (by decide)
          have f143 := congrArg Int32.toInt q142
          refine ⟨inE (rfl : (σ134.1 0 14).toInt = (σ134.1 0 14).toInt) (by omega) (by omega), ?_⟩
          intro σ145 eσ145
          have hσ145 : K2 σ0 σ145 := by rw [eσ145]; exact hσ134.u (Rg2.ra_6 _ _) (fun q => absurd q.1 (by decide)) (fun q => absurd q.1 (by decide))
          have f146 := K2.g_0_14 hσ145
          have q147 : σ145.1 0 14 = σ134.1 0 14 := by rw [eσ145]; exact congrFun (u1_ne (by decide)) 14
          have f148 := congrArg Int32.toInt q147
          refine ⟨inE (rfl : (σ145.1 0 14).toInt = (σ145.1 0 14).toInt) (by omega) (by omega), ?_⟩
          intro σ150 eσ150
          have hσ150 : K2 σ0 σ150 := by rw [eσ150]; exact hσ145.u (Rg2.ra_7 _ _) (fun q => absurd q.1 (by decide)) (fun q => absurd q.1 (by decide))
          have f151 := K2.g_0_14 hσ150
          have q152 : σ150.1 0 14 = σ145.1 0 14 := by rw [eσ150]; exact congrFun (u1_ne (by decide)) 14
          have f153 := congrArg Int32.toInt q152
          refine ⟨inE (rfl : (σ150.1 0 14).toInt = (σ150.1 0 14).toInt) (by omega) (by omega), ?_⟩
          intro σ155 eσ155
          have hσ155 : K2 σ0 σ155 := by rw [eσ155]; exact hσ150.u (Rg2.ra_8 _ _) (fun q => absurd q.1 (by decide)) (fun q => absurd q.1 (by decide))
          have f156 := K2.g_0_14 hσ155
          have q157 : σ155.1 0 14 = σ150.1 0 14 := by rw [eσ155]; exact congrFun (u1_ne (by decide)) 14
          have f158 := congrArg Int32.toInt q157
          refine ⟨inE (rfl : (σ155.1 0 14).toInt = (σ155.1 0 14).toInt) (by omega) (by omega), ?_⟩
          intro σ160 eσ160
          have hσ160 : K2 σ0 σ160 := by rw [eσ160]; exact hσ155.u (Rg2.ra_9 (leP (show (0 : Int32).toInt = 0 from by decide) (by omega)) (geP (show (0 : Int32).toInt = 0 from by decide) (by omega))) (fun q => absurd q.1 (by decide)) (fun q => absurd q.1 (by decide))
          have f161 := K2.g_0_14 hσ160
          have q162 : σ160.1 0 14 = σ155.1 0 14 := by rw [eσ160]; exact congrFun (u1_ne (by decide)) 14
          have f163 := congrArg Int32.toInt q162
          refine ⟨inE (rfl : (σ160.1 0 14).toInt = (σ160.1 0 14).toInt) (by omega) (by omega), ?_⟩
          intro σ165 eσ165
          have hσ165 : K2 σ0 σ165 := by rw [eσ165]; exact hσ160.u (Rg2.ra_11 _ _) (fun q => absurd q.1 (by decide)) (fun q => absurd q.1 (by decide))
          have f166 := K2.g_0_14 hσ165
          have q167 : σ165.1 0 14 = σ160.1 0 14 := by rw [eσ165]; exact congrFun (u1_ne (by decide)) 14
          have f168 := congrArg Int32.toInt q167
          refine ⟨inE (rfl : (σ165.1 0 14).toInt = (σ165.1 0 14).toInt) (by omega) (by omega), ?_⟩
          intro σ170 eσ170
          have hσ170 : K2 σ0 σ170 := by rw [eσ170]; exact hσ165.u (Rg2.ra_12 _ _) (fun q => absurd q.1 (by decide)) (fun q => absurd q.1 (by decide))
          have f171 := K2.g_0_14 hσ170
          have q172 : σ170.1 0 14 = σ165.1 0 14 := by rw [eσ170]; exact congrFun (u1_ne (by decide)) 14
          have f173 := congrArg Int32.toInt q172
          refine ⟨inE (rfl : (σ170.1 0 14).toInt = (σ170.1 0 14).toInt) (by omega) (by omega), ?_⟩
          intro σ175 eσ175
          have hσ175 : K2 σ0 σ175 := by rw [eσ175]; exact hσ170.u (Rg2.r13 (Or.inl (by decide))) (fun q => absurd q.1 (by decide)) (fun q => absurd q.1 (by decide))
          intro v176 ev176
          intro σ177 eσ177
          have f178 := tB v176
          have f179 := K2.g_0_14 hσ175
          have q180 : σ175.1 0 14 = σ170.1 0 14 := by rw [eσ175]; exact congrFun (u1_ne (by decide)) 14
          have f181 := congrArg Int32.toInt q180
          first | have f183 : v176.toInt = ((σ175.1 0 14).toInt + (1)) := (congrArg Int32.toInt ev176).trans (aOkE (rfl : (σ175.1 0 14).toInt = (σ175.1 0 14).toInt) (show (1 : Int32).toInt = 1 from by decide) (by omega) (by omega)) | skip
          have hσ177 : K2 σ0 σ177 := by rw [eσ177]; exact hσ175.u (Rg2.r_0_14 (leP (rfl : v176.toInt = v176.toInt) (by omega)) (geP (rfl : v176.toInt = v176.toInt) (by omega))) (fun q => absurd q.2 (by decide)) (fun q => absurd q.2 (by decide))
          refine ⟨fun c184 => ?_, fun c184 => ?_⟩
          · have f185 := K2.g_0_14 hσ177
            have q186 : σ177.1 0 14 = v176 := by rw [eσ177, u1_at]; exact if_pos rfl
            first | have f188 : (σ177.1 0 14).toInt = v176.toInt := (congrArg Int32.toInt q186).trans (rfl : v176.toInt = v176.toInt) | skip
            have f189 := tB (σ177.1 0 32)
            have q190 : σ177.1 0 32 = σ175.1 0 32 := by rw [eσ177, u1_at]; exact if_neg (by decide)
            have f191 := congrArg Int32.toInt q190
            have f192 := tB (σ175.1 0 32)
            have q193 : σ175.1 0 32 = σ170.1 0 32 := by rw [eσ175]; exact congrFun (u1_ne (by decide)) 32
            have f194 := congrArg Int32.toInt q193
            have f195 := tB (σ170.1 0 32)
            have q196 : σ170.1 0 32 = σ165.1 0 32 := by rw [eσ170]; exact congrFun (u1_ne (by decide)) 32
            have f197 := congrArg Int32.toInt q196
            have f198 := tB (σ165.1 0 32)
            have q199 : σ165.1 0 32 = σ160.1 0 32 := by rw [eσ165]; exact congrFun (u1_ne (by decide)) 32
            have f200 := congrArg Int32.toInt q199
            have f201 := tB (σ160.1 0 32)
            have q202 : σ160.1 0 32 = σ155.1 0 32 := by rw [eσ160]; exact congrFun (u1_ne (by decide)) 32
            have f203 := congrArg Int32.toInt q202
            have f204 := tB (σ155.1 0 32)
            have q205 : σ155.1 0 32 = σ150.1 0 32 := by rw [eσ155]; exact congrFun (u1_ne (by decide)) 32
            have f206 := congrArg Int32.toInt q205
            have f207 := tB (σ150.1 0 32)
            have q208 : σ150.1 0 32 = σ145.1 0 32 := by rw [eσ150]; exact congrFun (u1_ne (by decide)) 32
            have f209 := congrArg Int32.toInt q208
            have f210 := tB (σ145.1 0 32)
            have q211 : σ145.1 0 32 = σ134.1 0 32 := by rw [eσ145]; exact congrFun (u1_ne (by decide)) 32
            have f212 := congrArg Int32.toInt q211
            have f213 := tB (σ134.1 0 32)
            have q214 : σ134.1 0 32 = σ.1 0 32 := by rw [eσ134, u1_at]; exact if_neg (by decide)
            have f215 := congrArg Int32.toInt q214
            have f216 := tB (σ.1 0 32)
            first | have f217 := (leE (rfl : (σ177.1 0 14).toInt = (σ177.1 0 14).toInt) (rfl : (σ177.1 0 32).toInt = (σ177.1 0 32).toInt)).mp c184 | skip
            try unfold fX12_lays_j134
            intro σ218 eσ218
            have hσ218 : K2 σ0 σ218 := by rw [eσ218]; exact hσ177.u (Rg2.u_0_32 _) (fun q => absurd q.2 (by decide)) (fun q => absurd q.2 (by decide))
            exact hQ _ hσ218 (⟨(kq (a := 0) (b := 35) eσ218 (fun q => absurd q.2 (by decide))).trans ((kq (a := 0) (b := 35) eσ177 (fun q => absurd q.2 (by decide))).trans ((kq (a := 0) (b := 35) eσ175 (fun q => absurd q.1 (by decide))).trans ((kq (a := 0) (b := 35) eσ170 (fun q => absurd q.1 (by decide))).trans ((kq (a := 0) (b := 35) eσ165 (fun q => absurd q.1 (by decide))).trans ((kq (a := 0) (b := 35) eσ160 (fun q => absurd q.1 (by decide))).trans ((kq (a := 0) (b := 35) eσ155 (fun q => absurd q.1 (by decide))).trans ((kq (a := 0) (b := 35) eσ150 (fun q => absurd q.1 (by decide))).trans ((kq (a := 0) (b := 35) eσ145 (fun q => absurd q.1 (by decide))).trans ((kq (a := 0) (b := 35) eσ134 (fun q => absurd q.2 (by decide)))))))))))), (kq (a := 0) (b := 24) eσ218 (fun q => absurd q.2 (by decide))).trans ((kq (a := 0) (b := 24) eσ177 (fun q => absurd q.2 (by decide))).trans ((kq (a := 0) (b := 24) eσ175 (fun q => absurd q.1 (by decide))).trans ((kq (a := 0) (b := 24) eσ170 (fun q => absurd q.1 (by decide))).trans ((kq (a := 0) (b := 24) eσ165 (fun q => absurd q.1 (by decide))).trans ((kq (a := 0) (b := 24) eσ160 (fun q => absurd q.1 (by decide))).trans ((kq (a := 0) (b := 24) eσ155 (fun q => absurd q.1 (by decide))).trans ((kq (a := 0) (b := 24) eσ150 (fun q => absurd q.1 (by decide))).trans ((kq (a := 0) (b := 24) eσ145 (fun q => absurd q.1 (by decide))).trans ((kq (a := 0) (b := 24) eσ134 (fun q => absurd q.2 (by decide)))))))))))), (kq (a := 0) (b := 36) eσ218 (fun q => absurd q.2 (by decide))).trans ((kq (a := 0) (b := 36) eσ177 (fun q => absurd q.2 (by decide))).trans ((kq (a := 0) (b := 36) eσ175 (fun q => absurd q.1 (by decide))).trans ((kq (a := 0) (b := 36) eσ170 (fun q => absurd q.1 (by decide))).trans ((kq (a := 0) (b := 36) eσ165 (fun q => absurd q.1 (by decide))).trans ((kq (a := 0) (b := 36) eσ160 (fun q => absurd q.1 (by decide))).trans ((kq (a := 0) (b := 36) eσ155 (fun q => absurd q.1 (by decide))).trans ((kq (a := 0) (b := 36) eσ150 (fun q => absurd q.1 (by decide))).trans ((kq (a := 0) (b := 36) eσ145 (fun q => absurd q.1 (by decide))).trans ((kq (a := 0) (b := 36) eσ134 (fun q => absurd q.2 (by decide)))))))))))), (kq (a := 0) (b := 41) eσ218 (fun q => absurd q.2 (by decide))).trans ((kq (a := 0) (b := 41) eσ177 (fun q => absurd q.2 (by decide))).trans ((kq (a := 0) (b := 41) eσ175 (fun q => absurd q.1 (by decide))).trans ((kq (a := 0) (b := 41) eσ170 (fun q => absurd q.1 (by decide))).trans ((kq (a := 0) (b := 41) eσ165 (fun q => absurd q.1 (by decide))).trans ((kq (a := 0) (b := 41) eσ160 (fun q => absurd q.1 (by decide))).trans ((kq (a := 0) (b := 41) eσ155 (fun q => absurd q.1 (by decide))).trans ((kq (a := 0) (b := 41) eσ150 (fun q => absurd q.1 (by decide))).trans ((kq (a := 0) (b := 41) eσ145 (fun q => absurd q.1 (by decide))).trans ((kq (a := 0) (b := 41) eσ134 (fun q => absurd q.2 (by decide)))))))))))), (kq (a := 0) (b := 50) eσ218 (fun q => absurd q.2 (by decide))).trans ((kq (a := 0) (b := 50) eσ177 (fun q => absurd q.2 (by decide))).trans ((kq (a := 0) (b := 50) eσ175 (fun q => absurd q.1 (by decide))).trans ((kq (a := 0) (b := 50) eσ170 (fun q => absurd q.1 (by decide))).trans ((kq (a := 0) (b := 50) eσ165 (fun q => absurd q.1 (by decide))).trans ((kq (a := 0) (b := 50) eσ160 (fun q => absurd q.1 (by decide))).trans ((kq (a := 0) (b := 50) eσ155 (fun q => absurd q.1 (by decide))).trans ((kq (a := 0) (b := 50) eσ150 (fun q => absurd q.1 (by decide))).trans ((kq (a := 0) (b := 50) eσ145 (fun q => absurd q.1 (by decide))).trans ((kq (a := 0) (b := 50) eσ134 (fun q => absurd q.2 (by decide)))))))))))), (kq (a := 0) (b := 51) eσ218 (fun q => absurd q.2 (by decide))).trans ((kq (a := 0) (b := 51) eσ177 (fun q => absurd q.2 (by decide))).trans ((kq (a := 0) (b := 51) eσ175 (fun q => absurd q.1 (by decide))).trans ((kq (a := 0) (b := 51) eσ170 (fun q => absurd q.1 (by decide))).trans ((kq (a := 0) (b := 51) eσ165 (fun q => absurd q.1 (by decide))).trans ((kq (a := 0) (b := 51) eσ160 (fun q => absurd q.1 (by decide))).trans ((kq (a := 0) (b := 51) eσ155 (fun q => absurd q.1 (by decide))).trans ((kq (a := 0) (b := 51) eσ150 (fun q => absurd q.1 (by decide))).trans ((kq (a := 0) (b := 51) eσ145 (fun q => absurd q.1 (by decide))).trans ((kq (a := 0) (b := 51) eσ134 (fun q => absurd q.2 (by decide))))))))))))⟩)
          · have f219 := K2.g_0_14 hσ177
            have q220 : σ177.1 0 14 = v176 := by rw [eσ177, u1_at]; exact if_pos rfl
            first | have f222 : (σ177.1 0 14).toInt = v176.toInt := (congrArg Int32.toInt q220).trans (rfl : v176.toInt = v176.toInt) | skip
            have f223 := tB (σ177.1 0 32)
            have q224 : σ177.1 0 32 = σ175.1 0 32 := by rw [eσ177, u1_at]; exact if_neg (by decide)
            have f225 := congrArg Int32.toInt q224
            have f226 := tB (σ175.1 0 32)
            have q227 : σ175.1 0 32 = σ170.1 0 32 := by rw [eσ175]; exact congrFun (u1_ne (by decide)) 32
            have f228 := congrArg Int32.toInt q227
            have f229 := tB (σ170.1 0 32)
            have q230 : σ170.1 0 32 = σ165.1 0 32 := by rw [eσ170]; exact congrFun (u1_ne (by decide)) 32
            have f231 := congrArg Int32.toInt q230
            have f232 := tB (σ165.1 0 32)
            have q233 : σ165.1 0 32 = σ160.1 0 32 := by rw [eσ165]; exact congrFun (u1_ne (by decide)) 32
            have f234 := congrArg Int32.toInt q233
            have f235 := tB (σ160.1 0 32)
            have q236 : σ160.1 0 32 = σ155.1 0 32 := by rw [eσ160]; exact congrFun (u1_ne (by decide)) 32
            have f237 := congrArg Int32.toInt q236
            have f238 := tB (σ155.1 0 32)
            have q239 : σ155.1 0 32 = σ150.1 0 32 := by rw [eσ155]; exact congrFun (u1_ne (by decide)) 32
            have f240 := congrArg Int32.toInt q239
            have f241 := tB (σ150.1 0 32)
            have q242 : σ150.1 0 32 = σ145.1 0 32 := by rw [eσ150]; exact congrFun (u1_ne (by decide)) 32
            have f243 := congrArg Int32.toInt q242
            have f244 := tB (σ145.1 0 32)
            have q245 : σ145.1 0 32 = σ134.1 0 32 := by rw [eσ145]; exact congrFun (u1_ne (by decide)) 32
            have f246 := congrArg Int32.toInt q245
            have f247 := tB (σ134.1 0 32)
            have q248 : σ134.1 0 32 = σ.1 0 32 := by rw [eσ134, u1_at]; exact if_neg (by decide)
            have f249 := congrArg Int32.toInt q248
            have f250 := tB (σ.1 0 32)
            first | have f251 := (notleE (rfl : (σ177.1 0 14).toInt = (σ177.1 0 14).toInt) (rfl : (σ177.1 0 32).toInt = (σ177.1 0 32).toInt)).mp c184 | skip
            try unfold fX12_lays_j134
            intro σ252 eσ252
            have hσ252 : K2 σ0 σ252 := by rw [eσ252]; exact hσ177.u (Rg2.u_0_32 _) (fun q => absurd q.2 (by decide)) (fun q => absurd q.2 (by decide))
            exact hQ _ hσ252 (⟨(kq (a := 0) (b := 35) eσ252 (fun q => absurd q.2 (by decide))).trans ((kq (a := 0) (b := 35) eσ177 (fun q => absurd q.2 (by decide))).trans ((kq (a := 0) (b := 35) eσ175 (fun q => absurd q.1 (by decide))).trans ((kq (a := 0) (b := 35) eσ170 (fun q => absurd q.1 (by decide))).trans ((kq (a := 0) (b := 35) eσ165 (fun q => absurd q.1 (by decide))).trans ((kq (a := 0) (b := 35) eσ160 (fun q => absurd q.1 (by decide))).trans ((kq (a := 0) (b := 35) eσ155 (fun q => absurd q.1 (by decide))).trans ((kq (a := 0) (b := 35) eσ150 (fun q => absurd q.1 (by decide))).trans ((kq (a := 0) (b := 35) eσ145 (fun q => absurd q.1 (by decide))).trans ((kq (a := 0) (b := 35) eσ134 (fun q => absurd q.2 (by decide)))))))))))), (kq (a := 0) (b := 24) eσ252 (fun q => absurd q.2 (by decide))).trans ((kq (a := 0) (b := 24) eσ177 (fun q => absurd q.2 (by decide))).trans ((kq (a := 0) (b := 24) eσ175 (fun q => absurd q.1 (by decide))).trans ((kq (a := 0) (b := 24) eσ170 (fun q => absurd q.1 (by decide))).trans ((kq (a := 0) (b := 24) eσ165 (fun q => absurd q.1 (by decide))).trans ((kq (a := 0) (b := 24) eσ160 (fun q => absurd q.1 (by decide))).trans ((kq (a := 0) (b := 24) eσ155 (fun q => absurd q.1 (by decide))).trans ((kq (a := 0) (b := 24) eσ150 (fun q => absurd q.1 (by decide))).trans ((kq (a := 0) (b := 24) eσ145 (fun q => absurd q.1 (by decide))).trans ((kq (a := 0) (b := 24) eσ134 (fun q => absurd q.2 (by decide)))))))))))), (kq (a := 0) (b := 36) eσ252 (fun q => absurd q.2 (by decide))).trans ((kq (a := 0) (b := 36) eσ177 (fun q => absurd q.2 (by decide))).trans ((kq (a := 0) (b := 36) eσ175 (fun q => absurd q.1 (by decide))).trans ((kq (a := 0) (b := 36) eσ170 (fun q => absurd q.1 (by decide))).trans ((kq (a := 0) (b := 36) eσ165 (fun q => absurd q.1 (by decide))).trans ((kq (a := 0) (b := 36) eσ160 (fun q => absurd q.1 (by decide))).trans ((kq (a := 0) (b := 36) eσ155 (fun q => absurd q.1 (by decide))).trans ((kq (a := 0) (b := 36) eσ150 (fun q => absurd q.1 (by decide))).trans ((kq (a := 0) (b := 36) eσ145 (fun q => absurd q.1 (by decide))).trans ((kq (a := 0) (b := 36) eσ134 (fun q => absurd q.2 (by decide)))))))))))), (kq (a := 0) (b := 41) eσ252 (fun q => absurd q.2 (by decide))).trans ((kq (a := 0) (b := 41) eσ177 (fun q => absurd q.2 (by decide))).trans ((kq (a := 0) (b := 41) eσ175 (fun q => absurd q.1 (by decide))).trans ((kq (a := 0) (b := 41) eσ170 (fun q => absurd q.1 (by decide))).trans ((kq (a := 0) (b := 41) eσ165 (fun q => absurd q.1 (by decide))).trans ((kq (a := 0) (b := 41) eσ160 (fun q => absurd q.1 (by decide))).trans ((kq (a := 0) (b := 41) eσ155 (fun q => absurd q.1 (by decide))).trans ((kq (a := 0) (b := 41) eσ150 (fun q => absurd q.1 (by decide))).trans ((kq (a := 0) (b := 41) eσ145 (fun q => absurd q.1 (by decide))).trans ((kq (a := 0) (b := 41) eσ134 (fun q => absurd q.2 (by decide)))))))))))), (kq (a := 0) (b := 50) eσ252 (fun q => absurd q.2 (by decide))).trans ((kq (a := 0) (b := 50) eσ177 (fun q => absurd q.2 (by decide))).trans ((kq (a := 0) (b := 50) eσ175 (fun q => absurd q.1 (by decide))).trans ((kq (a := 0) (b := 50) eσ170 (fun q => absurd q.1 (by decide))).trans ((kq (a := 0) (b := 50) eσ165 (fun q => absurd q.1 (by decide))).trans ((kq (a := 0) (b := 50) eσ160 (fun q => absurd q.1 (by decide))).trans ((kq (a := 0) (b := 50) eσ155 (fun q => absurd q.1 (by decide))).trans ((kq (a := 0) (b := 50) eσ150 (fun q => absurd q.1 (by decide))).trans ((kq (a := 0) (b := 50) eσ145 (fun q => absurd q.1 (by decide))).trans ((kq (a := 0) (b := 50) eσ134 (fun q => absurd q.2 (by decide)))))))))))), (kq (a := 0) (b := 51) eσ252 (fun q => absurd q.2 (by decide))).trans ((kq (a := 0) (b := 51) eσ177 (fun q => absurd q.2 (by decide))).trans ((kq (a := 0) (b := 51) eσ175 (fun q => absurd q.1 (by decide))).trans ((kq (a := 0) (b := 51) eσ170 (fun q => absurd q.1 (by decide))).trans ((kq (a := 0) (b := 51) eσ165 (fun q => absurd q.1 (by decide))).trans ((kq (a := 0) (b := 51) eσ160 (fun q => absurd q.1 (by decide))).trans ((kq (a := 0) (b := 51) eσ155 (fun q => absurd q.1 (by decide))).trans ((kq (a := 0) (b := 51) eσ150 (fun q => absurd q.1 (by decide))).trans ((kq (a := 0) (b := 51) eσ145 (fun q => absurd q.1 (by decide))).trans ((kq (a := 0) (b := 51) eσ134 (fun q => absurd q.2 (by decide))))))))))))⟩)
        · have f253 := tB (σ134.1 0 9)
          have q254 : σ134.1 0 9 = (σ.1 0 9) := by rw [eσ134, u1_at]; exact if_pos rfl
          first | have f256 : (σ134.1 0 9).toInt = (σ.1 0 9).toInt := (congrArg Int32.toInt q254).trans (rfl : (σ.1 0 9).toInt = (σ.1 0 9).toInt) | skip
          first | have f257 := (noteqE (rfl : (σ134.1 0 9).toInt = (σ134.1 0 9).toInt) (show (0 : Int32).toInt = 0 from by decide)).mp c135 | skip
          exact hQ _ hσ134 (⟨(kq (a := 0) (b := 35) eσ134 (fun q => absurd q.2 (by decide))), (kq (a := 0) (b := 24) eσ134 (fun q => absurd q.2 (by decide))), (kq (a := 0) (b := 36) eσ134 (fun q => absurd q.2 (by decide))), (kq (a := 0) (b := 41) eσ134 (fun q => absurd q.2 (by decide))), (kq (a := 0) (b := 50) eσ134 (fun q => absurd q.2 (by decide))), (kq (a := 0) (b := 51) eσ134 (fun q => absurd q.2 (by decide)))⟩)
    · have f258 := K2.g_0_14 hσ
      first | have f259 := (noteqE (rfl : (σ.1 0 14).toInt = (σ.1 0 14).toInt) (show (40 : Int32).toInt = 40 from by decide)).mp c4 | skip
      try unfold fX12_lays_j22
      refine ⟨fun c260 => ?_, fun c260 => ?_⟩
      · first | have f262 := (eqE (rfl : (σ.1 0 9).toInt = (σ.1 0 9).toInt) (show (0 : Int32).toInt = 0 from by decide)).mp c260 | skip
        refine ⟨inE (rfl : (σ.1 0 14).toInt = (σ.1 0 14).toInt) (by omega) (by omega), ?_⟩
        intro σ264 eσ264
        have hσ264 : K2 σ0 σ264 := by rw [eσ264]; exact hσ.u (Rg2.ra_6 _ _) (fun q => absurd q.1 (by decide)) (fun q => absurd q.1 (by decide))
        have f265 := K2.g_0_14 hσ264
        have q266 : σ264.1 0 14 = σ.1 0 14 := by rw [eσ264]; exact congrFun (u1_ne (by decide)) 14
        have f267 := congrArg Int32.toInt q266
        refine ⟨inE (rfl : (σ264.1 0 14).toInt = (σ264.1 0 14).toInt) (by omega) (by omega), ?_⟩
        intro σ269 eσ269
        have hσ269 : K2 σ0 σ269 := by rw [eσ269]; exact hσ264.u (Rg2.ra_7 _ _) (fun q => absurd q.1 (by decide)) (fun q => absurd q.1 (by decide))
        have f270 := K2.g_0_14 hσ269
        have q271 : σ269.1 0 14 = σ264.1 0 14 := by rw [eσ269]; exact congrFun (u1_ne (by decide)) 14
        have f272 := congrArg Int32.toInt q271
        refine ⟨inE (rfl : (σ269.1 0 14).toInt = (σ269.1 0 14).toInt) (by omega) (by omega), ?_⟩
        intro σ274 eσ274
        have hσ274 : K2 σ0 σ274 := by rw [eσ274]; exact hσ269.u (Rg2.ra_8 _ _) (fun q => absurd q.1 (by decide)) (fun q => absurd q.1 (by decide))
        have f275 := K2.g_0_14 hσ274
        have q276 : σ274.1 0 14 = σ269.1 0 14 := by rw [eσ274]; exact congrFun (u1_ne (by decide)) 14
        have f277 := congrArg Int32.toInt q276
        refine ⟨inE (rfl : (σ274.1 0 14).toInt = (σ274.1 0 14).toInt) (by omega) (by omega), ?_⟩
        intro σ279 eσ279
        have hσ279 : K2 σ0 σ279 := by rw [eσ279]; exact hσ274.u (Rg2.ra_9 (leP (show (0 : Int32).toInt = 0 from by decide) (by omega)) (geP (show (0 : Int32).toInt = 0 from by decide) (by omega))) (fun q => absurd q.1 (by decide)) (fun q => absurd q.1 (by decide))
        have f280 := K2.g_0_14 hσ279
        have q281 : σ279.1 0 14 = σ274.1 0 14 := by rw [eσ279]; exact congrFun (u1_ne (by decide)) 14
        have f282 := congrArg Int32.toInt q281
        refine ⟨inE (rfl : (σ279.1 0 14).toInt = (σ279.1 0 14).toInt) (by omega) (by omega), ?_⟩
        intro σ284 eσ284
        have hσ284 : K2 σ0 σ284 := by rw [eσ284]; exact hσ279.u (Rg2.ra_11 _ _) (fun q => absurd q.1 (by decide)) (fun q => absurd q.1 (by decide))
        have f285 := K2.g_0_14 hσ284
        have q286 : σ284.1 0 14 = σ279.1 0 14 := by rw [eσ284]; exact congrFun (u1_ne (by decide)) 14
        have f287 := congrArg Int32.toInt q286
        refine ⟨inE (rfl : (σ284.1 0 14).toInt = (σ284.1 0 14).toInt) (by omega) (by omega), ?_⟩
        intro σ289 eσ289
        have hσ289 : K2 σ0 σ289 := by rw [eσ289]; exact hσ284.u (Rg2.ra_12 _ _) (fun q => absurd q.1 (by decide)) (fun q => absurd q.1 (by decide))
        have f290 := K2.g_0_14 hσ289
        have q291 : σ289.1 0 14 = σ284.1 0 14 := by rw [eσ289]; exact congrFun (u1_ne (by decide)) 14
        have f292 := congrArg Int32.toInt q291
        refine ⟨inE (rfl : (σ289.1 0 14).toInt = (σ289.1 0 14).toInt) (by omega) (by omega), ?_⟩
        intro σ294 eσ294
        have hσ294 : K2 σ0 σ294 := by rw [eσ294]; exact hσ289.u (Rg2.r13 (Or.inl (by decide))) (fun q => absurd q.1 (by decide)) (fun q => absurd q.1 (by decide))
        intro v295 ev295
        intro σ296 eσ296
        have f297 := tB v295
        have f298 := K2.g_0_14 hσ294
        have q299 : σ294.1 0 14 = σ289.1 0 14 := by rw [eσ294]; exact congrFun (u1_ne (by decide)) 14
        have f300 := congrArg Int32.toInt q299
        first | have f302 : v295.toInt = ((σ294.1 0 14).toInt + (1)) := (congrArg Int32.toInt ev295).trans (aOkE (rfl : (σ294.1 0 14).toInt = (σ294.1 0 14).toInt) (show (1 : Int32).toInt = 1 from by decide) (by omega) (by omega)) | skip
        have hσ296 : K2 σ0 σ296 := by rw [eσ296]; exact hσ294.u (Rg2.r_0_14 (leP (rfl : v295.toInt = v295.toInt) (by omega)) (geP (rfl : v295.toInt = v295.toInt) (by omega))) (fun q => absurd q.2 (by decide)) (fun q => absurd q.2 (by decide))
        refine ⟨fun c303 => ?_, fun c303 => ?_⟩
        · have f304 := K2.g_0_14 hσ296
          have q305 : σ296.1 0 14 = v295 := by rw [eσ296, u1_at]; exact if_pos rfl
          first | have f307 : (σ296.1 0 14).toInt = v295.toInt := (congrArg Int32.toInt q305).trans (rfl : v295.toInt = v295.toInt) | skip
          have f308 := tB (σ296.1 0 32)
          have q309 : σ296.1 0 32 = σ294.1 0 32 := by rw [eσ296, u1_at]; exact if_neg (by decide)
          have f310 := congrArg Int32.toInt q309
          have f311 := tB (σ294.1 0 32)
          have q312 : σ294.1 0 32 = σ289.1 0 32 := by rw [eσ294]; exact congrFun (u1_ne (by decide)) 32
          have f313 := congrArg Int32.toInt q312
          have f314 := tB (σ289.1 0 32)
          have q315 : σ289.1 0 32 = σ284.1 0 32 := by rw [eσ289]; exact congrFun (u1_ne (by decide)) 32
          have f316 := congrArg Int32.toInt q315
          have f317 := tB (σ284.1 0 32)
          have q318 : σ284.1 0 32 = σ279.1 0 32 := by rw [eσ284]; exact congrFun (u1_ne (by decide)) 32
          have f319 := congrArg Int32.toInt q318
          have f320 := tB (σ279.1 0 32)
          have q321 : σ279.1 0 32 = σ274.1 0 32 := by rw [eσ279]; exact congrFun (u1_ne (by decide)) 32
          have f322 := congrArg Int32.toInt q321
          have f323 := tB (σ274.1 0 32)
          have q324 : σ274.1 0 32 = σ269.1 0 32 := by rw [eσ274]; exact congrFun (u1_ne (by decide)) 32
          have f325 := congrArg Int32.toInt q324
          have f326 := tB (σ269.1 0 32)
          have q327 : σ269.1 0 32 = σ264.1 0 32 := by rw [eσ269]; exact congrFun (u1_ne (by decide)) 32
          have f328 := congrArg Int32.toInt q327
          have f329 := tB (σ264.1 0 32)
          have q330 : σ264.1 0 32 = σ.1 0 32 := by rw [eσ264]; exact congrFun (u1_ne (by decide)) 32
          have f331 := congrArg Int32.toInt q330
          have f332 := tB (σ.1 0 32)
          first | have f333 := (leE (rfl : (σ296.1 0 14).toInt = (σ296.1 0 14).toInt) (rfl : (σ296.1 0 32).toInt = (σ296.1 0 32).toInt)).mp c303 | skip
          try unfold fX12_lays_j134
          intro σ334 eσ334
          have hσ334 : K2 σ0 σ334 := by rw [eσ334]; exact hσ296.u (Rg2.u_0_32 _) (fun q => absurd q.2 (by decide)) (fun q => absurd q.2 (by decide))
          exact hQ _ hσ334 (⟨(kq (a := 0) (b := 35) eσ334 (fun q => absurd q.2 (by decide))).trans ((kq (a := 0) (b := 35) eσ296 (fun q => absurd q.2 (by decide))).trans ((kq (a := 0) (b := 35) eσ294 (fun q => absurd q.1 (by decide))).trans ((kq (a := 0) (b := 35) eσ289 (fun q => absurd q.1 (by decide))).trans ((kq (a := 0) (b := 35) eσ284 (fun q => absurd q.1 (by decide))).trans ((kq (a := 0) (b := 35) eσ279 (fun q => absurd q.1 (by decide))).trans ((kq (a := 0) (b := 35) eσ274 (fun q => absurd q.1 (by decide))).trans ((kq (a := 0) (b := 35) eσ269 (fun q => absurd q.1 (by decide))).trans ((kq (a := 0) (b := 35) eσ264 (fun q => absurd q.1 (by decide))))))))))), (kq (a := 0) (b := 24) eσ334 (fun q => absurd q.2 (by decide))).trans ((kq (a := 0) (b := 24) eσ296 (fun q => absurd q.2 (by decide))).trans ((kq (a := 0) (b := 24) eσ294 (fun q => absurd q.1 (by decide))).trans ((kq (a := 0) (b := 24) eσ289 (fun q => absurd q.1 (by decide))).trans ((kq (a := 0) (b := 24) eσ284 (fun q => absurd q.1 (by decide))).trans ((kq (a := 0) (b := 24) eσ279 (fun q => absurd q.1 (by decide))).trans ((kq (a := 0) (b := 24) eσ274 (fun q => absurd q.1 (by decide))).trans ((kq (a := 0) (b := 24) eσ269 (fun q => absurd q.1 (by decide))).trans ((kq (a := 0) (b := 24) eσ264 (fun q => absurd q.1 (by decide))))))))))), (kq (a := 0) (b := 36) eσ334 (fun q => absurd q.2 (by decide))).trans ((kq (a := 0) (b := 36) eσ296 (fun q => absurd q.2 (by decide))).trans ((kq (a := 0) (b := 36) eσ294 (fun q => absurd q.1 (by decide))).trans ((kq (a := 0) (b := 36) eσ289 (fun q => absurd q.1 (by decide))).trans ((kq (a := 0) (b := 36) eσ284 (fun q => absurd q.1 (by decide))).trans ((kq (a := 0) (b := 36) eσ279 (fun q => absurd q.1 (by decide))).trans ((kq (a := 0) (b := 36) eσ274 (fun q => absurd q.1 (by decide))).trans ((kq (a := 0) (b := 36) eσ269 (fun q => absurd q.1 (by decide))).trans ((kq (a := 0) (b := 36) eσ264 (fun q => absurd q.1 (by decide))))))))))), (kq (a := 0) (b := 41) eσ334 (fun q => absurd q.2 (by decide))).trans ((kq (a := 0) (b := 41) eσ296 (fun q => absurd q.2 (by decide))).trans ((kq (a := 0) (b := 41) eσ294 (fun q => absurd q.1 (by decide))).trans ((kq (a := 0) (b := 41) eσ289 (fun q => absurd q.1 (by decide))).trans ((kq (a := 0) (b := 41) eσ284 (fun q => absurd q.1 (by decide))).trans ((kq (a := 0) (b := 41) eσ279 (fun q => absurd q.1 (by decide))).trans ((kq (a := 0) (b := 41) eσ274 (fun q => absurd q.1 (by decide))).trans ((kq (a := 0) (b := 41) eσ269 (fun q => absurd q.1 (by decide))).trans ((kq (a := 0) (b := 41) eσ264 (fun q => absurd q.1 (by decide))))))))))), (kq (a := 0) (b := 50) eσ334 (fun q => absurd q.2 (by decide))).trans ((kq (a := 0) (b := 50) eσ296 (fun q => absurd q.2 (by decide))).trans ((kq (a := 0) (b := 50) eσ294 (fun q => absurd q.1 (by decide))).trans ((kq (a := 0) (b := 50) eσ289 (fun q => absurd q.1 (by decide))).trans ((kq (a := 0) (b := 50) eσ284 (fun q => absurd q.1 (by decide))).trans ((kq (a := 0) (b := 50) eσ279 (fun q => absurd q.1 (by decide))).trans ((kq (a := 0) (b := 50) eσ274 (fun q => absurd q.1 (by decide))).trans ((kq (a := 0) (b := 50) eσ269 (fun q => absurd q.1 (by decide))).trans ((kq (a := 0) (b := 50) eσ264 (fun q => absurd q.1 (by decide))))))))))), (kq (a := 0) (b := 51) eσ334 (fun q => absurd q.2 (by decide))).trans ((kq (a := 0) (b := 51) eσ296 (fun q => absurd q.2 (by decide))).trans ((kq (a := 0) (b := 51) eσ294 (fun q => absurd q.1 (by decide))).trans ((kq (a := 0) (b := 51) eσ289 (fun q => absurd q.1 (by decide))).trans ((kq (a := 0) (b := 51) eσ284 (fun q => absurd q.1 (by decide))).trans ((kq (a := 0) (b := 51) eσ279 (fun q => absurd q.1 (by decide))).trans ((kq (a := 0) (b := 51) eσ274 (fun q => absurd q.1 (by decide))).trans ((kq (a := 0) (b := 51) eσ269 (fun q => absurd q.1 (by decide))).trans ((kq (a := 0) (b := 51) eσ264 (fun q => absurd q.1 (by decide)))))))))))⟩)
        · have f335 := K2.g_0_14 hσ296
          have q336 : σ296.1 0 14 = v295 := by rw [eσ296, u1_at]; exact if_pos rfl
          first | have f338 : (σ296.1 0 14).toInt = v295.toInt := (congrArg Int32.toInt q336).trans (rfl : v295.toInt = v295.toInt) | skip
          have f339 := tB (σ296.1 0 32)
          have q340 : σ296.1 0 32 = σ294.1 0 32 := by rw [eσ296, u1_at]; exact if_neg (by decide)
          have f341 := congrArg Int32.toInt q340
          have f342 := tB (σ294.1 0 32)
          have q343 : σ294.1 0 32 = σ289.1 0 32 := by rw [eσ294]; exact congrFun (u1_ne (by decide)) 32
          have f344 := congrArg Int32.toInt q343
          have f345 := tB (σ289.1 0 32)
          have q346 : σ289.1 0 32 = σ284.1 0 32 := by rw [eσ289]; exact congrFun (u1_ne (by decide)) 32
          have f347 := congrArg Int32.toInt q346
          have f348 := tB (σ284.1 0 32)
          have q349 : σ284.1 0 32 = σ279.1 0 32 := by rw [eσ284]; exact congrFun (u1_ne (by decide)) 32
          have f350 := congrArg Int32.toInt q349
          have f351 := tB (σ279.1 0 32)
          have q352 : σ279.1 0 32 = σ274.1 0 32 := by rw [eσ279]; exact congrFun (u1_ne (by decide)) 32
          have f353 := congrArg Int32.toInt q352
          have f354 := tB (σ274.1 0 32)
          have q355 : σ274.1 0 32 = σ269.1 0 32 := by rw [eσ274]; exact congrFun (u1_ne (by decide)) 32
          have f356 := congrArg Int32.toInt q355
          have f357 := tB (σ269.1 0 32)
          have q358 : σ269.1 0 32 = σ264.1 0 32 := by rw [eσ269]; exact congrFun (u1_ne (by decide)) 32
          have f359 := congrArg Int32.toInt q358
          have f360 := tB (σ264.1 0 32)
          have q361 : σ264.1 0 32 = σ.1 0 32 := by rw [eσ264]; exact congrFun (u1_ne (by decide)) 32
          have f362 := congrArg Int32.toInt q361
          have f363 := tB (σ.1 0 32)
          first | have f364 := (notleE (rfl : (σ296.1 0 14).toInt = (σ296.1 0 14).toInt) (rfl : (σ296.1 0 32).toInt = (σ296.1 0 32).toInt)).mp c303 | skip
          try unfold fX12_lays_j134
          intro σ365 eσ365
          have hσ365 : K2 σ0 σ365 := by rw [eσ365]; exact hσ296.u (Rg2.u_0_32 _) (fun q => absurd q.2 (by decide)) (fun q => absurd q.2 (by decide))
          exact hQ _ hσ365 (⟨(kq (a := 0) (b := 35) eσ365 (fun q => absurd q.2 (by decide))).trans ((kq (a := 0) (b := 35) eσ296 (fun q => absurd q.2 (by decide))).trans ((kq (a := 0) (b := 35) eσ294 (fun q => absurd q.1 (by decide))).trans ((kq (a := 0) (b := 35) eσ289 (fun q => absurd q.1 (by decide))).trans ((kq (a := 0) (b := 35) eσ284 (fun q => absurd q.1 (by decide))).trans ((kq (a := 0) (b := 35) eσ279 (fun q => absurd q.1 (by decide))).trans ((kq (a := 0) (b := 35) eσ274 (fun q => absurd q.1 (by decide))).trans ((kq (a := 0) (b := 35) eσ269 (fun q => absurd q.1 (by decide))).trans ((kq (a := 0) (b := 35) eσ264 (fun q => absurd q.1 (by decide))))))))))), (kq (a := 0) (b := 24) eσ365 (fun q => absurd q.2 (by decide))).trans ((kq (a := 0) (b := 24) eσ296 (fun q => absurd q.2 (by decide))).trans ((kq (a := 0) (b := 24) eσ294 (fun q => absurd q.1 (by decide))).trans ((kq (a := 0) (b := 24) eσ289 (fun q => absurd q.1 (by decide))).trans ((kq (a := 0) (b := 24) eσ284 (fun q => absurd q.1 (by decide))).trans ((kq (a := 0) (b := 24) eσ279 (fun q => absurd q.1 (by decide))).trans ((kq (a := 0) (b := 24) eσ274 (fun q => absurd q.1 (by decide))).trans ((kq (a := 0) (b := 24) eσ269 (fun q => absurd q.1 (by decide))).trans ((kq (a := 0) (b := 24) eσ264 (fun q => absurd q.1 (by decide))))))))))), (kq (a := 0) (b := 36) eσ365 (fun q => absurd q.2 (by decide))).trans ((kq (a := 0) (b := 36) eσ296 (fun q => absurd q.2 (by decide))).trans ((kq (a := 0) (b := 36) eσ294 (fun q => absurd q.1 (by decide))).trans ((kq (a := 0) (b := 36) eσ289 (fun q => absurd q.1 (by decide))).trans ((kq (a := 0) (b := 36) eσ284 (fun q => absurd q.1 (by decide))).trans ((kq (a := 0) (b := 36) eσ279 (fun q => absurd q.1 (by decide))).trans ((kq (a := 0) (b := 36) eσ274 (fun q => absurd q.1 (by decide))).trans ((kq (a := 0) (b := 36) eσ269 (fun q => absurd q.1 (by decide))).trans ((kq (a := 0) (b := 36) eσ264 (fun q => absurd q.1 (by decide))))))))))), (kq (a := 0) (b := 41) eσ365 (fun q => absurd q.2 (by decide))).trans ((kq (a := 0) (b := 41) eσ296 (fun q => absurd q.2 (by decide))).trans ((kq (a := 0) (b := 41) eσ294 (fun q => absurd q.1 (by decide))).trans ((kq (a := 0) (b := 41) eσ289 (fun q => absurd q.1 (by decide))).trans ((kq (a := 0) (b := 41) eσ284 (fun q => absurd q.1 (by decide))).trans ((kq (a := 0) (b := 41) eσ279 (fun q => absurd q.1 (by decide))).trans ((kq (a := 0) (b := 41) eσ274 (fun q => absurd q.1 (by decide))).trans ((kq (a := 0) (b := 41) eσ269 (fun q => absurd q.1 (by decide))).trans ((kq (a := 0) (b := 41) eσ264 (fun q => absurd q.1 (by decide))))))))))), (kq (a := 0) (b := 50) eσ365 (fun q => absurd q.2 (by decide))).trans ((kq (a := 0) (b := 50) eσ296 (fun q => absurd q.2 (by decide))).trans ((kq (a := 0) (b := 50) eσ294 (fun q => absurd q.1 (by decide))).trans ((kq (a := 0) (b := 50) eσ289 (fun q => absurd q.1 (by decide))).trans ((kq (a := 0) (b := 50) eσ284 (fun q => absurd q.1 (by decide))).trans ((kq (a := 0) (b := 50) eσ279 (fun q => absurd q.1 (by decide))).trans ((kq (a := 0) (b := 50) eσ274 (fun q => absurd q.1 (by decide))).trans ((kq (a := 0) (b := 50) eσ269 (fun q => absurd q.1 (by decide))).trans ((kq (a := 0) (b := 50) eσ264 (fun q => absurd q.1 (by decide))))))))))), (kq (a := 0) (b := 51) eσ365 (fun q => absurd q.2 (by decide))).trans ((kq (a := 0) (b := 51) eσ296 (fun q => absurd q.2 (by decide))).trans ((kq (a := 0) (b := 51) eσ294 (fun q => absurd q.1 (by decide))).trans ((kq (a := 0) (b := 51) eσ289 (fun q => absurd q.1 (by decide))).trans ((kq (a := 0) (b := 51) eσ284 (fun q => absurd q.1 (by decide))).trans ((kq (a := 0) (b := 51) eσ279 (fun q => absurd q.1 (by decide))).trans ((kq (a := 0) (b := 51) eσ274 (fun q => absurd q.1 (by decide))).trans ((kq (a := 0) (b := 51) eσ269 (fun q => absurd q.1 (by decide))).trans ((kq (a := 0) (b := 51) eσ264 (fun q => absurd q.1 (by decide)))))))))))⟩)
      · first | have f367 := (noteqE (rfl : (σ.1 0 9).toInt = (σ.1 0 9).toInt) (show (0 : Int32).toInt = 0 from by decide)).mp c260 | skip
        exact hQ _ hσ (⟨rfl, rfl, rfl, rfl, rfl, rfl⟩)
  · have f368 := tB (σ.1 0 9)
    first | have f369 := (noteqE (rfl : (σ.1 0 9).toInt = (σ.1 0 9).toInt) (show (0 : Int32).toInt = 0 from by decide)).mp c1 | skip
    try unfold fX12_lays_j22
    refine ⟨fun c370 => ?_, fun c370 => ?_⟩
    · first | have f372 := (eqE (rfl : (σ.1 0 9).toInt = (σ.1 0 9).toInt) (show (0 : Int32).toInt = 0 from by decide)).mp c370 | skip
      have f373 := K2.g_0_14 hσ
      refine ⟨inE (rfl : (σ.1 0 14).toInt = (σ.1 0 14).toInt) (by omega) (by omega), ?_⟩
      intro σ374 eσ374
      have hσ374 : K2 σ0 σ374 := by rw [eσ374]; exact hσ.u (Rg2.ra_6 _ _) (fun q => absurd q.1 (by decide)) (fun q => absurd q.1 (by decide))
      have f375 := K2.g_0_14 hσ374
      have q376 : σ374.1 0 14 = σ.1 0 14 := by rw [eσ374]; exact congrFun (u1_ne (by decide)) 14
      have f377 := congrArg Int32.toInt q376
      refine ⟨inE (rfl : (σ374.1 0 14).toInt = (σ374.1 0 14).toInt) (by omega) (by omega), ?_⟩
      intro σ379 eσ379
      have hσ379 : K2 σ0 σ379 := by rw [eσ379]; exact hσ374.u (Rg2.ra_7 _ _) (fun q => absurd q.1 (by decide)) (fun q => absurd q.1 (by decide))
      have f380 := K2.g_0_14 hσ379
      have q381 : σ379.1 0 14 = σ374.1 0 14 := by rw [eσ379]; exact congrFun (u1_ne (by decide)) 14
      have f382 := congrArg Int32.toInt q381
      refine ⟨inE (rfl : (σ379.1 0 14).toInt = (σ379.1 0 14).toInt) (by omega) (by omega), ?_⟩
      intro σ384 eσ384
      have hσ384 : K2 σ0 σ384 := by rw [eσ384]; exact hσ379.u (Rg2.ra_8 _ _) (fun q => absurd q.1 (by decide)) (fun q => absurd q.1 (by decide))
      have f385 := K2.g_0_14 hσ384
      have q386 : σ384.1 0 14 = σ379.1 0 14 := by rw [eσ384]; exact congrFun (u1_ne (by decide)) 14
      have f387 := congrArg Int32.toInt q386
      refine ⟨inE (rfl : (σ384.1 0 14).toInt = (σ384.1 0 14).toInt) (by omega) (by omega), ?_⟩
      intro σ389 eσ389
      have hσ389 : K2 σ0 σ389 := by rw [eσ389]; exact hσ384.u (Rg2.ra_9 (leP (show (0 : Int32).toInt = 0 from by decide) (by omega)) (geP (show (0 : Int32).toInt = 0 from by decide) (by omega))) (fun q => absurd q.1 (by decide)) (fun q => absurd q.1 (by decide))
      have f390 := K2.g_0_14 hσ389
      have q391 : σ389.1 0 14 = σ384.1 0 14 := by rw [eσ389]; exact congrFun (u1_ne (by decide)) 14
      have f392 := congrArg Int32.toInt q391
      refine ⟨inE (rfl : (σ389.1 0 14).toInt = (σ389.1 0 14).toInt) (by omega) (by omega), ?_⟩
      intro σ394 eσ394
      have hσ394 : K2 σ0 σ394 := by rw [eσ394]; exact hσ389.u (Rg2.ra_11 _ _) (fun q => absurd q.1 (by decide)) (fun q => absurd q.1 (by decide))
      have f395 := K2.g_0_14 hσ394
      have q396 : σ394.1 0 14 = σ389.1 0 14 := by rw [eσ394]; exact congrFun (u1_ne (by decide)) 14
      have f397 := congrArg Int32.toInt q396
      refine ⟨inE (rfl : (σ394.1 0 14).toInt = (σ394.1 0 14).toInt) (by omega) (by omega), ?_⟩
      intro σ399 eσ399
      have hσ399 : K2 σ0 σ399 := by rw [eσ399]; exact hσ394.u (Rg2.ra_12 _ _) (fun q => absurd q.1 (by decide)) (fun q => absurd q.1 (by decide))
      have f400 := K2.g_0_14 hσ399
      have q401 : σ399.1 0 14 = σ394.1 0 14 := by rw [eσ399]; exact congrFun (u1_ne (by decide)) 14
      have f402 := congrArg Int32.toInt q401
      refine ⟨inE (rfl : (σ399.1 0 14).toInt = (σ399.1 0 14).toInt) (by omega) (by omega), ?_⟩
      intro σ404 eσ404
      have hσ404 : K2 σ0 σ404 := by rw [eσ404]; exact hσ399.u (Rg2.r13 (Or.inl (by decide))) (fun q => absurd q.1 (by decide)) (fun q => absurd q.1 (by decide))
      intro v405 ev405
      intro σ406 eσ406
      have f407 := tB v405
      have f408 := K2.g_0_14 hσ404
      have q409 : σ404.1 0 14 = σ399.1 0 14 := by rw [eσ404]; exact congrFun (u1_ne (by decide)) 14
      have f410 := congrArg Int32.toInt q409
      first | have f412 : v405.toInt = ((σ404.1 0 14).toInt + (1)) := (congrArg Int32.toInt ev405).trans (aOkE (rfl : (σ404.1 0 14).toInt = (σ404.1 0 14).toInt) (show (1 : Int32).toInt = 1 from by decide) (by omega) (by omega)) | skip
      have hσ406 : K2 σ0 σ406 := by rw [eσ406]; exact hσ404.u (Rg2.r_0_14 (leP (rfl : v405.toInt = v405.toInt) (by omega)) (geP (rfl : v405.toInt = v405.toInt) (by omega))) (fun q => absurd q.2 (by decide)) (fun q => absurd q.2 (by decide))
      refine ⟨fun c413 => ?_, fun c413 => ?_⟩
      · have f414 := K2.g_0_14 hσ406
        have q415 : σ406.1 0 14 = v405 := by rw [eσ406, u1_at]; exact if_pos rfl
        first | have f417 : (σ406.1 0 14).toInt = v405.toInt := (congrArg Int32.toInt q415).trans (rfl : v405.toInt = v405.toInt) | skip
        have f418 := tB (σ406.1 0 32)
        have q419 : σ406.1 0 32 = σ404.1 0 32 := by rw [eσ406, u1_at]; exact if_neg (by decide)
        have f420 := congrArg Int32.toInt q419
        have f421 := tB (σ404.1 0 32)
        have q422 : σ404.1 0 32 = σ399.1 0 32 := by rw [eσ404]; exact congrFun (u1_ne (by decide)) 32
        have f423 := congrArg Int32.toInt q422
        have f424 := tB (σ399.1 0 32)
        have q425 : σ399.1 0 32 = σ394.1 0 32 := by rw [eσ399]; exact congrFun (u1_ne (by decide)) 32
        have f426 := congrArg Int32.toInt q425
        have f427 := tB (σ394.1 0 32)
        have q428 : σ394.1 0 32 = σ389.1 0 32 := by rw [eσ394]; exact congrFun (u1_ne (by decide)) 32
        have f429 := congrArg Int32.toInt q428
        have f430 := tB (σ389.1 0 32)
        have q431 : σ389.1 0 32 = σ384.1 0 32 := by rw [eσ389]; exact congrFun (u1_ne (by decide)) 32
        have f432 := congrArg Int32.toInt q431
        have f433 := tB (σ384.1 0 32)
        have q434 : σ384.1 0 32 = σ379.1 0 32 := by rw [eσ384]; exact congrFun (u1_ne (by decide)) 32
        have f435 := congrArg Int32.toInt q434
        have f436 := tB (σ379.1 0 32)
        have q437 : σ379.1 0 32 = σ374.1 0 32 := by rw [eσ379]; exact congrFun (u1_ne (by decide)) 32
        have f438 := congrArg Int32.toInt q437
        have f439 := tB (σ374.1 0 32)
        have q440 : σ374.1 0 32 = σ.1 0 32 := by rw [eσ374]; exact congrFun (u1_ne (by decide)) 32
        have f441 := congrArg Int32.toInt q440
        have f442 := tB (σ.1 0 32)
        first | have f443 := (leE (rfl : (σ406.1 0 14).toInt = (σ406.1 0 14).toInt) (rfl : (σ406.1 0 32).toInt = (σ406.1 0 32).toInt)).mp c413 | skip
        try unfold fX12_lays_j134
        intro σ444 eσ444
        have hσ444 : K2 σ0 σ444 := by rw [eσ444]; exact hσ406.u (Rg2.u_0_32 _) (fun q => absurd q.2 (by decide)) (fun q => absurd q.2 (by decide))
        exact hQ _ hσ444 (⟨(kq (a := 0) (b := 35) eσ444 (fun q => absurd q.2 (by decide))).trans ((kq (a := 0) (b := 35) eσ406 (fun q => absurd q.2 (by decide))).trans ((kq (a := 0) (b := 35) eσ404 (fun q => absurd q.1 (by decide))).trans ((kq (a := 0) (b := 35) eσ399 (fun q => absurd q.1 (by decide))).trans ((kq (a := 0) (b := 35) eσ394 (fun q => absurd q.1 (by decide))).trans ((kq (a := 0) (b := 35) eσ389 (fun q => absurd q.1 (by decide))).trans ((kq (a := 0) (b := 35) eσ384 (fun q => absurd q.1 (by decide))).trans ((kq (a := 0) (b := 35) eσ379 (fun q => absurd q.1 (by decide))).trans ((kq (a := 0) (b := 35) eσ374 (fun q => absurd q.1 (by decide))))))))))), (kq (a := 0) (b := 24) eσ444 (fun q => absurd q.2 (by decide))).trans ((kq (a := 0) (b := 24) eσ406 (fun q => absurd q.2 (by decide))).trans ((kq (a := 0) (b := 24) eσ404 (fun q => absurd q.1 (by decide))).trans ((kq (a := 0) (b := 24) eσ399 (fun q => absurd q.1 (by decide))).trans ((kq (a := 0) (b := 24) eσ394 (fun q => absurd q.1 (by decide))).trans ((kq (a := 0) (b := 24) eσ389 (fun q => absurd q.1 (by decide))).trans ((kq (a := 0) (b := 24) eσ384 (fun q => absurd q.1 (by decide))).trans ((kq (a := 0) (b := 24) eσ379 (fun q => absurd q.1 (by decide))).trans ((kq (a := 0) (b := 24) eσ374 (fun q => absurd q.1 (by decide))))))))))), (kq (a := 0) (b := 36) eσ444 (fun q => absurd q.2 (by decide))).trans ((kq (a := 0) (b := 36) eσ406 (fun q => absurd q.2 (by decide))).trans ((kq (a := 0) (b := 36) eσ404 (fun q => absurd q.1 (by decide))).trans ((kq (a := 0) (b := 36) eσ399 (fun q => absurd q.1 (by decide))).trans ((kq (a := 0) (b := 36) eσ394 (fun q => absurd q.1 (by decide))).trans ((kq (a := 0) (b := 36) eσ389 (fun q => absurd q.1 (by decide))).trans ((kq (a := 0) (b := 36) eσ384 (fun q => absurd q.1 (by decide))).trans ((kq (a := 0) (b := 36) eσ379 (fun q => absurd q.1 (by decide))).trans ((kq (a := 0) (b := 36) eσ374 (fun q => absurd q.1 (by decide))))))))))), (kq (a := 0) (b := 41) eσ444 (fun q => absurd q.2 (by decide))).trans ((kq (a := 0) (b := 41) eσ406 (fun q => absurd q.2 (by decide))).trans ((kq (a := 0) (b := 41) eσ404 (fun q => absurd q.1 (by decide))).trans ((kq (a := 0) (b := 41) eσ399 (fun q => absurd q.1 (by decide))).trans ((kq (a := 0) (b := 41) eσ394 (fun q => absurd q.1 (by decide))).trans ((kq (a := 0) (b := 41) eσ389 (fun q => absurd q.1 (by decide))).trans ((kq (a := 0) (b := 41) eσ384 (fun q => absurd q.1 (by decide))).trans ((kq (a := 0) (b := 41) eσ379 (fun q => absurd q.1 (by decide))).trans ((kq (a := 0) (b := 41) eσ374 (fun q => absurd q.1 (by decide))))))))))), (kq (a := 0) (b := 50) eσ444 (fun q => absurd q.2 (by decide))).trans ((kq (a := 0) (b := 50) eσ406 (fun q => absurd q.2 (by decide))).trans ((kq (a := 0) (b := 50) eσ404 (fun q => absurd q.1 (by decide))).trans ((kq (a := 0) (b := 50) eσ399 (fun q => absurd q.1 (by decide))).trans ((kq (a := 0) (b := 50) eσ394 (fun q => absurd q.1 (by decide))).trans ((kq (a := 0) (b := 50) eσ389 (fun q => absurd q.1 (by decide))).trans ((kq (a := 0) (b := 50) eσ384 (fun q => absurd q.1 (by decide))).trans ((kq (a := 0) (b := 50) eσ379 (fun q => absurd q.1 (by decide))).trans ((kq (a := 0) (b := 50) eσ374 (fun q => absurd q.1 (by decide))))))))))), (kq (a := 0) (b := 51) eσ444 (fun q => absurd q.2 (by decide))).trans ((kq (a := 0) (b := 51) eσ406 (fun q => absurd q.2 (by decide))).trans ((kq (a := 0) (b := 51) eσ404 (fun q => absurd q.1 (by decide))).trans ((kq (a := 0) (b := 51) eσ399 (fun q => absurd q.1 (by decide))).trans ((kq (a := 0) (b := 51) eσ394 (fun q => absurd q.1 (by decide))).trans ((kq (a := 0) (b := 51) eσ389 (fun q => absurd q.1 (by decide))).trans ((kq (a := 0) (b := 51) eσ384 (fun q => absurd q.1 (by decide))).trans ((kq (a := 0) (b := 51) eσ379 (fun q => absurd q.1 (by decide))).trans ((kq (a := 0) (b := 51) eσ374 (fun q => absurd q.1 (by decide)))))))))))⟩)
      · have f445 := K2.g_0_14 hσ406
        have q446 : σ406.1 0 14 = v405 := by rw [eσ406, u1_at]; exact if_pos rfl
        first | have f448 : (σ406.1 0 14).toInt = v405.toInt := (congrArg Int32.toInt q446).trans (rfl : v405.toInt = v405.toInt) | skip
        have f449 := tB (σ406.1 0 32)
        have q450 : σ406.1 0 32 = σ404.1 0 32 := by rw [eσ406, u1_at]; exact if_neg (by decide)
        have f451 := congrArg Int32.toInt q450
        have f452 := tB (σ404.1 0 32)
        have q453 : σ404.1 0 32 = σ399.1 0 32 := by rw [eσ404]; exact congrFun (u1_ne (by decide)) 32
        have f454 := congrArg Int32.toInt q453
        have f455 := tB (σ399.1 0 32)
        have q456 : σ399.1 0 32 = σ394.1 0 32 := by rw [eσ399]; exact congrFun (u1_ne (by decide)) 32
        have f457 := congrArg Int32.toInt q456
        have f458 := tB (σ394.1 0 32)
        have q459 : σ394.1 0 32 = σ389.1 0 32 := by rw [eσ394]; exact congrFun (u1_ne (by decide)) 32
        have f460 := congrArg Int32.toInt q459
        have f461 := tB (σ389.1 0 32)
        have q462 : σ389.1 0 32 = σ384.1 0 32 := by rw [eσ389]; exact congrFun (u1_ne (by decide)) 32
        have f463 := congrArg Int32.toInt q462
        have f464 := tB (σ384.1 0 32)
        have q465 : σ384.1 0 32 = σ379.1 0 32 := by rw [eσ384]; exact congrFun (u1_ne (by decide)) 32
        have f466 := congrArg Int32.toInt q465
        have f467 := tB (σ379.1 0 32)
        have q468 : σ379.1 0 32 = σ374.1 0 32 := by rw [eσ379]; exact congrFun (u1_ne (by decide)) 32
        have f469 := congrArg Int32.toInt q468
        have f470 := tB (σ374.1 0 32)
        have q471 : σ374.1 0 32 = σ.1 0 32 := by rw [eσ374]; exact congrFun (u1_ne (by decide)) 32
        have f472 := congrArg Int32.toInt q471
        have f473 := tB (σ.1 0 32)
        first | have f474 := (notleE (rfl : (σ406.1 0 14).toInt = (σ406.1 0 14).toInt) (rfl : (σ406.1 0 32).toInt = (σ406.1 0 32).toInt)).mp c413 | skip
        try unfold fX12_lays_j134
        intro σ475 eσ475
        have hσ475 : K2 σ0 σ475 := by rw [eσ475]; exact hσ406.u (Rg2.u_0_32 _) (fun q => absurd q.2 (by decide)) (fun q => absurd q.2 (by decide))
        exact hQ _ hσ475 (⟨(kq (a := 0) (b := 35) eσ475 (fun q => absurd q.2 (by decide))).trans ((kq (a := 0) (b := 35) eσ406 (fun q => absurd q.2 (by decide))).trans ((kq (a := 0) (b := 35) eσ404 (fun q => absurd q.1 (by decide))).trans ((kq (a := 0) (b := 35) eσ399 (fun q => absurd q.1 (by decide))).trans ((kq (a := 0) (b := 35) eσ394 (fun q => absurd q.1 (by decide))).trans ((kq (a := 0) (b := 35) eσ389 (fun q => absurd q.1 (by decide))).trans ((kq (a := 0) (b := 35) eσ384 (fun q => absurd q.1 (by decide))).trans ((kq (a := 0) (b := 35) eσ379 (fun q => absurd q.1 (by decide))).trans ((kq (a := 0) (b := 35) eσ374 (fun q => absurd q.1 (by decide))))))))))), (kq (a := 0) (b := 24) eσ475 (fun q => absurd q.2 (by decide))).trans ((kq (a := 0) (b := 24) eσ406 (fun q => absurd q.2 (by decide))).trans ((kq (a := 0) (b := 24) eσ404 (fun q => absurd q.1 (by decide))).trans ((kq (a := 0) (b := 24) eσ399 (fun q => absurd q.1 (by decide))).trans ((kq (a := 0) (b := 24) eσ394 (fun q => absurd q.1 (by decide))).trans ((kq (a := 0) (b := 24) eσ389 (fun q => absurd q.1 (by decide))).trans ((kq (a := 0) (b := 24) eσ384 (fun q => absurd q.1 (by decide))).trans ((kq (a := 0) (b := 24) eσ379 (fun q => absurd q.1 (by decide))).trans ((kq (a := 0) (b := 24) eσ374 (fun q => absurd q.1 (by decide))))))))))), (kq (a := 0) (b := 36) eσ475 (fun q => absurd q.2 (by decide))).trans ((kq (a := 0) (b := 36) eσ406 (fun q => absurd q.2 (by decide))).trans ((kq (a := 0) (b := 36) eσ404 (fun q => absurd q.1 (by decide))).trans ((kq (a := 0) (b := 36) eσ399 (fun q => absurd q.1 (by decide))).trans ((kq (a := 0) (b := 36) eσ394 (fun q => absurd q.1 (by decide))).trans ((kq (a := 0) (b := 36) eσ389 (fun q => absurd q.1 (by decide))).trans ((kq (a := 0) (b := 36) eσ384 (fun q => absurd q.1 (by decide))).trans ((kq (a := 0) (b := 36) eσ379 (fun q => absurd q.1 (by decide))).trans ((kq (a := 0) (b := 36) eσ374 (fun q => absurd q.1 (by decide))))))))))), (kq (a := 0) (b := 41) eσ475 (fun q => absurd q.2 (by decide))).trans ((kq (a := 0) (b := 41) eσ406 (fun q => absurd q.2 (by decide))).trans ((kq (a := 0) (b := 41) eσ404 (fun q => absurd q.1 (by decide))).trans ((kq (a := 0) (b := 41) eσ399 (fun q => absurd q.1 (by decide))).trans ((kq (a := 0) (b := 41) eσ394 (fun q => absurd q.1 (by decide))).trans ((kq (a := 0) (b := 41) eσ389 (fun q => absurd q.1 (by decide))).trans ((kq (a := 0) (b := 41) eσ384 (fun q => absurd q.1 (by decide))).trans ((kq (a := 0) (b := 41) eσ379 (fun q => absurd q.1 (by decide))).trans ((kq (a := 0) (b := 41) eσ374 (fun q => absurd q.1 (by decide))))))))))), (kq (a := 0) (b := 50) eσ475 (fun q => absurd q.2 (by decide))).trans ((kq (a := 0) (b := 50) eσ406 (fun q => absurd q.2 (by decide))).trans ((kq (a := 0) (b := 50) eσ404 (fun q => absurd q.1 (by decide))).trans ((kq (a := 0) (b := 50) eσ399 (fun q => absurd q.1 (by decide))).trans ((kq (a := 0) (b := 50) eσ394 (fun q => absurd q.1 (by decide))).trans ((kq (a := 0) (b := 50) eσ389 (fun q => absurd q.1 (by decide))).trans ((kq (a := 0) (b := 50) eσ384 (fun q => absurd q.1 (by decide))).trans ((kq (a := 0) (b := 50) eσ379 (fun q => absurd q.1 (by decide))).trans ((kq (a := 0) (b := 50) eσ374 (fun q => absurd q.1 (by decide))))))))))), (kq (a := 0) (b := 51) eσ475 (fun q => absurd q.2 (by decide))).trans ((kq (a := 0) (b := 51) eσ406 (fun q => absurd q.2 (by decide))).trans ((kq (a := 0) (b := 51) eσ404 (fun q => absurd q.1 (by decide))).trans ((kq (a := 0) (b := 51) eσ399 (fun q => absurd q.1 (by decide))).trans ((kq (a := 0) (b := 51) eσ394 (fun q => absurd q.1 (by decide))).trans ((kq (a := 0) (b := 51) eσ389 (fun q => absurd q.1 (by decide))).trans ((kq (a := 0) (b := 51) eσ384 (fun q => absurd q.1 (by decide))).trans ((kq (a := 0) (b := 51) eσ379 (fun q => absurd q.1 (by decide))).trans ((kq (a := 0) (b := 51) eσ374 (fun q => absurd q.1 (by decide)))))))))))⟩)
    · first | have f477 := (noteqE (rfl : (σ.1 0 9).toInt = (σ.1 0 9).toInt) (show (0 : Int32).toInt = 0 from by decide)).mp c370 | skip
      exact hQ _ hσ (⟨rfl, rfl, rfl, rfl, rfl, rfl⟩)
set_option maxHeartbeats 4000000 in
theorem sX12_value {N : Nat} (hN : 4294967400 ≤ N) {Q : Int32 → St → Prop} {σ0 σ : St} (hσ : K2 σ0 σ) (hQ : ∀ (r : Int32) (τ : St), K2 σ0 τ → (τ.1 0 14 = σ.1 0 14 ∧ τ.1 0 35 = σ.1 0 35 ∧ τ.1 0 24 = σ.1 0 24 ∧ τ.1 0 36 = σ.1 0 36 ∧ τ.1 0 41 = σ.1 0 41 ∧ τ.1 0 50 = σ.1 0 50 ∧ τ.1 0 51 = σ.1 0 51) → True → Q r τ) : fX12_value N  Q σ := by
  unfold fX12_value
  have f1 := tB64 (σ.2 0 34)
  refine sX12_read hN hσ (fun r11 σ2 hσ2 kk10 p12 => ?_)
  obtain ⟨k3, k4, k5, k6, k7, k8, k9⟩ := kk10
  intro v13 ev13
  intro σ14 eσ14
  have hσ14 : K2 σ0 σ14 := by rw [eσ14]; exact hσ2.l
  refine ⟨fun c15 => ?_, fun c15 => ?_⟩
  · have f16 := tB r11
    first | have f17 := (eqE (rfl : r11.toInt = r11.toInt) (show (1 : Int32).toInt = 1 from by decide)).mp c15 | skip
    intro v18 ev18
    intro σ19 eσ19
    have hσ19 : K2 σ0 σ19 := by rw [eσ19]; exact hσ14.l
    have f20 := tB64 (σ19.2 0 34)
    refine sX12_read hN hσ19 (fun r30 σ21 hσ21 kk29 p31 => ?_)
    obtain ⟨k22, k23, k24, k25, k26, k27, k28⟩ := kk29
    exact hQ _ _ hσ21 (⟨k22.trans ((kq2 (a := 0) (b := 14) eσ19).trans ((kq2 (a := 0) (b := 14) eσ14).trans (k3))), k23.trans ((kq2 (a := 0) (b := 35) eσ19).trans ((kq2 (a := 0) (b := 35) eσ14).trans (k4))), k24.trans ((kq2 (a := 0) (b := 24) eσ19).trans ((kq2 (a := 0) (b := 24) eσ14).trans (k5))), k25.trans ((kq2 (a := 0) (b := 36) eσ19).trans ((kq2 (a := 0) (b := 36) eσ14).trans (k6))), k26.trans ((kq2 (a := 0) (b := 41) eσ19).trans ((kq2 (a := 0) (b := 41) eσ14).trans (k7))), k27.trans ((kq2 (a := 0) (b := 50) eσ19).trans ((kq2 (a := 0) (b := 50) eσ14).trans (k8))), k28.trans ((kq2 (a := 0) (b := 51) eσ19).trans ((kq2 (a := 0) (b := 51) eσ14).trans (k9)))⟩) trivial
  · have f32 := tB r11
    first | have f33 := (noteqE (rfl : r11.toInt = r11.toInt) (show (1 : Int32).toInt = 1 from by decide)).mp c15 | skip
    refine ⟨fun c34 => ?_, fun c34 => ?_⟩
    · first | have f36 := (eqE (rfl : r11.toInt = r11.toInt) (show (2 : Int32).toInt = 2 from by decide)).mp c34 | skip
      intro v37 ev37
      intro σ38 eσ38
      have hσ38 : K2 σ0 σ38 := by rw [eσ38]; exact hσ14.l
      have f39 := tB64 (σ38.2 0 34)
      refine sX12_four hN hσ38 (fun r49 σ40 hσ40 kk48 p50 => ?_)
      obtain ⟨k41, k42, k43, k44, k45, k46, k47⟩ := kk48
      exact hQ _ _ hσ40 (⟨k41.trans ((kq2 (a := 0) (b := 14) eσ38).trans ((kq2 (a := 0) (b := 14) eσ14).trans (k3))), k42.trans ((kq2 (a := 0) (b := 35) eσ38).trans ((kq2 (a := 0) (b := 35) eσ14).trans (k4))), k43.trans ((kq2 (a := 0) (b := 24) eσ38).trans ((kq2 (a := 0) (b := 24) eσ14).trans (k5))), k44.trans ((kq2 (a := 0) (b := 36) eσ38).trans ((kq2 (a := 0) (b := 36) eσ14).trans (k6))), k45.trans ((kq2 (a := 0) (b := 41) eσ38).trans ((kq2 (a := 0) (b := 41) eσ14).trans (k7))), k46.trans ((kq2 (a := 0) (b := 50) eσ38).trans ((kq2 (a := 0) (b := 50) eσ14).trans (k8))), k47.trans ((kq2 (a := 0) (b := 51) eσ38).trans ((kq2 (a := 0) (b := 51) eσ14).trans (k9)))⟩) trivial
    · first | have f52 := (noteqE (rfl : r11.toInt = r11.toInt) (show (2 : Int32).toInt = 2 from by decide)).mp c34 | skip
      refine ⟨fun c53 => ?_, fun c53 => ?_⟩
      · first | have f55 := (eqE (rfl : r11.toInt = r11.toInt) (show (3 : Int32).toInt = 3 from by decide)).mp c53 | skip
        have f56 := tB64 (σ14.2 0 34)
        refine sX12_read hN hσ14 (fun r66 σ57 hσ57 kk65 p67 => ?_)
        obtain ⟨k58, k59, k60, k61, k62, k63, k64⟩ := kk65
        intro v68 ev68
        intro σ69 eσ69
        have hσ69 : K2 σ0 σ69 := by rw [eσ69]; exact hσ57.l
        have f70 := K2.g_0_35 hσ69
        have g71 : vp_in (σ69.1 0 35) 40 := inE (rfl : (σ69.1 0 35).toInt = (σ69.1 0 35).toInt) (by omega) (by omega)
        refine ⟨g71, ?_⟩
        refine ⟨fun c72 => ?_, fun c72 => ?_⟩
        · have f73 := K2.ga_9 hσ69 (σ69.1 0 35).toNatClampNeg
          have f74 := tB r66
          first | have f75 := (leE (rfl : (σ69.1 9 (σ69.1 0 35).toNatClampNeg).toInt = (σ69.1 9 (σ69.1 0 35).toNatClampNeg).toInt) (rfl : r66.toInt = r66.toInt)).mp c72 | skip
          try unfold fX12_fails
          refine ⟨fun c76 => ?_, fun c76 => ?_⟩
          · have f77 := tB (σ69.1 0 9)
            first | have f78 := (eqE (rfl : (σ69.1 0 9).toInt = (σ69.1 0 9).toInt) (show (0 : Int32).toInt = 0 from by decide)).mp c76 | skip
            try unfold fX12_fails_j16
            intro σ79 eσ79
            have hσ79 : K2 σ0 σ79 := by rw [eσ79]; exact hσ69.u (Rg2.u_0_9 _) (fun q => absurd q.2 (by decide)) (fun q => absurd q.2 (by decide))
            try dsimp only
            exact hQ _ _ hσ79 (⟨(kq (a := 0) (b := 14) eσ79 (fun q => absurd q.2 (by decide))).trans ((kq2 (a := 0) (b := 14) eσ69).trans (k58.trans ((kq2 (a := 0) (b := 14) eσ14).trans (k3)))), (kq (a := 0) (b := 35) eσ79 (fun q => absurd q.2 (by decide))).trans ((kq2 (a := 0) (b := 35) eσ69).trans (k59.trans ((kq2 (a := 0) (b := 35) eσ14).trans (k4)))), (kq (a := 0) (b := 24) eσ79 (fun q => absurd q.2 (by decide))).trans ((kq2 (a := 0) (b := 24) eσ69).trans (k60.trans ((kq2 (a := 0) (b := 24) eσ14).trans (k5)))), (kq (a := 0) (b := 36) eσ79 (fun q => absurd q.2 (by decide))).trans ((kq2 (a := 0) (b := 36) eσ69).trans (k61.trans ((kq2 (a := 0) (b := 36) eσ14).trans (k6)))), (kq (a := 0) (b := 41) eσ79 (fun q => absurd q.2 (by decide))).trans ((kq2 (a := 0) (b := 41) eσ69).trans (k62.trans ((kq2 (a := 0) (b := 41) eσ14).trans (k7)))), (kq (a := 0) (b := 50) eσ79 (fun q => absurd q.2 (by decide))).trans ((kq2 (a := 0) (b := 50) eσ69).trans (k63.trans ((kq2 (a := 0) (b := 50) eσ14).trans (k8)))), (kq (a := 0) (b := 51) eσ79 (fun q => absurd q.2 (by decide))).trans ((kq2 (a := 0) (b := 51) eσ69).trans (k64.trans ((kq2 (a := 0) (b := 51) eσ14).trans (k9))))⟩) trivial
          · have f80 := tB (σ69.1 0 9)
            first | have f81 := (noteqE (rfl : (σ69.1 0 9).toInt = (σ69.1 0 9).toInt) (show (0 : Int32).toInt = 0 from by decide)).mp c76 | skip
            try unfold fX12_fails_j16
            intro σ82 eσ82
            have hσ82 : K2 σ0 σ82 := by rw [eσ82]; exact hσ69.u (Rg2.u_0_9 _) (fun q => absurd q.2 (by decide)) (fun q => absurd q.2 (by decide))
            try dsimp only
            exact hQ _ _ hσ82 (⟨(kq (a := 0) (b := 14) eσ82 (fun q => absurd q.2 (by decide))).trans ((kq2 (a := 0) (b := 14) eσ69).trans (k58.trans ((kq2 (a := 0) (b := 14) eσ14).trans (k3)))), (kq (a := 0) (b := 35) eσ82 (fun q => absurd q.2 (by decide))).trans ((kq2 (a := 0) (b := 35) eσ69).trans (k59.trans ((kq2 (a := 0) (b := 35) eσ14).trans (k4)))), (kq (a := 0) (b := 24) eσ82 (fun q => absurd q.2 (by decide))).trans ((kq2 (a := 0) (b := 24) eσ69).trans (k60.trans ((kq2 (a := 0) (b := 24) eσ14).trans (k5)))), (kq (a := 0) (b := 36) eσ82 (fun q => absurd q.2 (by decide))).trans ((kq2 (a := 0) (b := 36) eσ69).trans (k61.trans ((kq2 (a := 0) (b := 36) eσ14).trans (k6)))), (kq (a := 0) (b := 41) eσ82 (fun q => absurd q.2 (by decide))).trans ((kq2 (a := 0) (b := 41) eσ69).trans (k62.trans ((kq2 (a := 0) (b := 41) eσ14).trans (k7)))), (kq (a := 0) (b := 50) eσ82 (fun q => absurd q.2 (by decide))).trans ((kq2 (a := 0) (b := 50) eσ69).trans (k63.trans ((kq2 (a := 0) (b := 50) eσ14).trans (k8)))), (kq (a := 0) (b := 51) eσ82 (fun q => absurd q.2 (by decide))).trans ((kq2 (a := 0) (b := 51) eσ69).trans (k64.trans ((kq2 (a := 0) (b := 51) eσ14).trans (k9))))⟩) trivial
        · have f83 := K2.ga_9 hσ69 (σ69.1 0 35).toNatClampNeg
          have f84 := tB r66
          first | have f85 := (notleE (rfl : (σ69.1 9 (σ69.1 0 35).toNatClampNeg).toInt = (σ69.1 9 (σ69.1 0 35).toNatClampNeg).toInt) (rfl : r66.toInt = r66.toInt)).mp c72 | skip
          have g88 : vp_in ((8 * (σ69.1 0 35)) + r66) 320 := inE (aOkE (mOkE (show (8 : Int32).toInt = 8 from by decide) (rfl : (σ69.1 0 35).toInt = (σ69.1 0 35).toInt) (by omega) (by omega)) (rfl : r66.toInt = r66.toInt) (by omega) (by omega)) (by omega) (by omega)
          refine ⟨g88, ?_⟩
          exact hQ _ _ hσ69 (⟨(kq2 (a := 0) (b := 14) eσ69).trans (k58.trans ((kq2 (a := 0) (b := 14) eσ14).trans (k3))), (kq2 (a := 0) (b := 35) eσ69).trans (k59.trans ((kq2 (a := 0) (b := 35) eσ14).trans (k4))), (kq2 (a := 0) (b := 24) eσ69).trans (k60.trans ((kq2 (a := 0) (b := 24) eσ14).trans (k5))), (kq2 (a := 0) (b := 36) eσ69).trans (k61.trans ((kq2 (a := 0) (b := 36) eσ14).trans (k6))), (kq2 (a := 0) (b := 41) eσ69).trans (k62.trans ((kq2 (a := 0) (b := 41) eσ14).trans (k7))), (kq2 (a := 0) (b := 50) eσ69).trans (k63.trans ((kq2 (a := 0) (b := 50) eσ14).trans (k8))), (kq2 (a := 0) (b := 51) eσ69).trans (k64.trans ((kq2 (a := 0) (b := 51) eσ14).trans (k9)))⟩) trivial
      · first | have f90 := (noteqE (rfl : r11.toInt = r11.toInt) (show (3 : Int32).toInt = 3 from by decide)).mp c53 | skip
        refine ⟨fun c91 => ?_, fun c91 => ?_⟩
        · first | have f93 := (eqE (rfl : r11.toInt = r11.toInt) (show (0 : Int32).toInt = 0 from by decide)).mp c91 | skip
          exact hQ _ _ hσ14 (⟨(kq2 (a := 0) (b := 14) eσ14).trans (k3), (kq2 (a := 0) (b := 35) eσ14).trans (k4), (kq2 (a := 0) (b := 24) eσ14).trans (k5), (kq2 (a := 0) (b := 36) eσ14).trans (k6), (kq2 (a := 0) (b := 41) eσ14).trans (k7), (kq2 (a := 0) (b := 50) eσ14).trans (k8), (kq2 (a := 0) (b := 51) eσ14).trans (k9)⟩) trivial
        · first | have f95 := (noteqE (rfl : r11.toInt = r11.toInt) (show (0 : Int32).toInt = 0 from by decide)).mp c91 | skip
          try unfold fX12_fails
          refine ⟨fun c96 => ?_, fun c96 => ?_⟩
          · have f97 := tB (σ14.1 0 9)
            first | have f98 := (eqE (rfl : (σ14.1 0 9).toInt = (σ14.1 0 9).toInt) (show (0 : Int32).toInt = 0 from by decide)).mp c96 | skip
            try unfold fX12_fails_j16
            intro σ99 eσ99
            have hσ99 : K2 σ0 σ99 := by rw [eσ99]; exact hσ14.u (Rg2.u_0_9 _) (fun q => absurd q.2 (by decide)) (fun q => absurd q.2 (by decide))
            try dsimp only
            exact hQ _ _ hσ99 (⟨(kq (a := 0) (b := 14) eσ99 (fun q => absurd q.2 (by decide))).trans ((kq2 (a := 0) (b := 14) eσ14).trans (k3)), (kq (a := 0) (b := 35) eσ99 (fun q => absurd q.2 (by decide))).trans ((kq2 (a := 0) (b := 35) eσ14).trans (k4)), (kq (a := 0) (b := 24) eσ99 (fun q => absurd q.2 (by decide))).trans ((kq2 (a := 0) (b := 24) eσ14).trans (k5)), (kq (a := 0) (b := 36) eσ99 (fun q => absurd q.2 (by decide))).trans ((kq2 (a := 0) (b := 36) eσ14).trans (k6)), (kq (a := 0) (b := 41) eσ99 (fun q => absurd q.2 (by decide))).trans ((kq2 (a := 0) (b := 41) eσ14).trans (k7)), (kq (a := 0) (b := 50) eσ99 (fun q => absurd q.2 (by decide))).trans ((kq2 (a := 0) (b := 50) eσ14).trans (k8)), (kq (a := 0) (b := 51) eσ99 (fun q => absurd q.2 (by decide))).trans ((kq2 (a := 0) (b := 51) eσ14).trans (k9))⟩) trivial
          · have f100 := tB (σ14.1 0 9)
            first | have f101 := (noteqE (rfl : (σ14.1 0 9).toInt = (σ14.1 0 9).toInt) (show (0 : Int32).toInt = 0 from by decide)).mp c96 | skip
            try unfold fX12_fails_j16
            intro σ102 eσ102
            have hσ102 : K2 σ0 σ102 := by rw [eσ102]; exact hσ14.u (Rg2.u_0_9 _) (fun q => absurd q.2 (by decide)) (fun q => absurd q.2 (by decide))
            try dsimp only
            exact hQ _ _ hσ102 (⟨(kq (a := 0) (b := 14) eσ102 (fun q => absurd q.2 (by decide))).trans ((kq2 (a := 0) (b := 14) eσ14).trans (k3)), (kq (a := 0) (b := 35) eσ102 (fun q => absurd q.2 (by decide))).trans ((kq2 (a := 0) (b := 35) eσ14).trans (k4)), (kq (a := 0) (b := 24) eσ102 (fun q => absurd q.2 (by decide))).trans ((kq2 (a := 0) (b := 24) eσ14).trans (k5)), (kq (a := 0) (b := 36) eσ102 (fun q => absurd q.2 (by decide))).trans ((kq2 (a := 0) (b := 36) eσ14).trans (k6)), (kq (a := 0) (b := 41) eσ102 (fun q => absurd q.2 (by decide))).trans ((kq2 (a := 0) (b := 41) eσ14).trans (k7)), (kq (a := 0) (b := 50) eσ102 (fun q => absurd q.2 (by decide))).trans ((kq2 (a := 0) (b := 50) eσ14).trans (k8)), (kq (a := 0) (b := 51) eσ102 (fun q => absurd q.2 (by decide))).trans ((kq2 (a := 0) (b := 51) eσ14).trans (k9))⟩) trivial
set_option maxHeartbeats 4000000 in
theorem sX12_target {N : Nat} (hN : 4294967400 ≤ N) {Q : Int32 → St → Prop} {σ0 σ : St} (hσ : K2 σ0 σ) (hQ : ∀ (r : Int32) (τ : St), K2 σ0 τ → (τ.1 0 14 = σ.1 0 14 ∧ τ.1 0 35 = σ.1 0 35 ∧ τ.1 0 24 = σ.1 0 24 ∧ τ.1 0 36 = σ.1 0 36 ∧ τ.1 0 41 = σ.1 0 41 ∧ τ.1 0 50 = σ.1 0 50 ∧ τ.1 0 51 = σ.1 0 51) → (r.toInt = 255 ∨ (0 ≤ r.toInt ∧ r.toInt ≤ 7) ∨ ¬ (τ.1 0 9).toInt = 0) → Q r τ) : fX12_target N  Q σ := by
  unfold fX12_target
  have f1 := tB64 (σ.2 0 34)
  refine sX12_read hN hσ (fun r11 σ2 hσ2 kk10 p12 => ?_)
  obtain ⟨k3, k4, k5, k6, k7, k8, k9⟩ := kk10
  intro v13 ev13
  intro σ14 eσ14
  have hσ14 : K2 σ0 σ14 := by rw [eσ14]; exact hσ2.l
  refine ⟨fun c15 => ?_, fun c15 => ?_⟩
  · have f16 := tB r11
    first | have f17 := (eqE (rfl : r11.toInt = r11.toInt) (show (255 : Int32).toInt = 255 from by decide)).mp c15 | skip
    have f19 := tB (σ14.1 0 9)
    have hrv := (rfl : r11.toInt = r11.toInt)
    exact hQ _ _ hσ14 (⟨(kq2 (a := 0) (b := 14) eσ14).trans (k3), (kq2 (a := 0) (b := 35) eσ14).trans (k4), (kq2 (a := 0) (b := 24) eσ14).trans (k5), (kq2 (a := 0) (b := 36) eσ14).trans (k6), (kq2 (a := 0) (b := 41) eσ14).trans (k7), (kq2 (a := 0) (b := 50) eσ14).trans (k8), (kq2 (a := 0) (b := 51) eσ14).trans (k9)⟩) (by omega)
  · have f20 := tB r11
    first | have f21 := (noteqE (rfl : r11.toInt = r11.toInt) (show (255 : Int32).toInt = 255 from by decide)).mp c15 | skip
    have f22 := K2.g_0_35 hσ14
    have g23 : vp_in (σ14.1 0 35) 40 := inE (rfl : (σ14.1 0 35).toInt = (σ14.1 0 35).toInt) (by omega) (by omega)
    refine ⟨g23, ?_⟩
    refine ⟨fun c24 => ?_, fun c24 => ?_⟩
    · have f26 := K2.ga_9 hσ14 (σ14.1 0 35).toNatClampNeg
      first | have f27 := (ltE (rfl : r11.toInt = r11.toInt) (rfl : (σ14.1 9 (σ14.1 0 35).toNatClampNeg).toInt = (σ14.1 9 (σ14.1 0 35).toNatClampNeg).toInt)).mp c24 | skip
      have f29 := tB (σ14.1 0 9)
      have hrv := (rfl : r11.toInt = r11.toInt)
      exact hQ _ _ hσ14 (⟨(kq2 (a := 0) (b := 14) eσ14).trans (k3), (kq2 (a := 0) (b := 35) eσ14).trans (k4), (kq2 (a := 0) (b := 24) eσ14).trans (k5), (kq2 (a := 0) (b := 36) eσ14).trans (k6), (kq2 (a := 0) (b := 41) eσ14).trans (k7), (kq2 (a := 0) (b := 50) eσ14).trans (k8), (kq2 (a := 0) (b := 51) eσ14).trans (k9)⟩) (by omega)
    · have f31 := K2.ga_9 hσ14 (σ14.1 0 35).toNatClampNeg
      first | have f32 := (notltE (rfl : r11.toInt = r11.toInt) (rfl : (σ14.1 9 (σ14.1 0 35).toNatClampNeg).toInt = (σ14.1 9 (σ14.1 0 35).toNatClampNeg).toInt)).mp c24 | skip
      try unfold fX12_fails
      refine ⟨fun c33 => ?_, fun c33 => ?_⟩
      · have f34 := tB (σ14.1 0 9)
        first | have f35 := (eqE (rfl : (σ14.1 0 9).toInt = (σ14.1 0 9).toInt) (show (0 : Int32).toInt = 0 from by decide)).mp c33 | skip
        try unfold fX12_fails_j16
        intro σ36 eσ36
        have hσ36 : K2 σ0 σ36 := by rw [eσ36]; exact hσ14.u (Rg2.u_0_9 _) (fun q => absurd q.2 (by decide)) (fun q => absurd q.2 (by decide))
        try dsimp only
        have f38 := tB (σ36.1 0 9)
        have q39 : σ36.1 0 9 = 6 := by rw [eσ36, u1_at]; exact if_pos rfl
        first | have f40 : (σ36.1 0 9).toInt = (6) := (congrArg Int32.toInt q39).trans (show (6 : Int32).toInt = 6 from by decide) | skip
        have hrv := (rfl : r11.toInt = r11.toInt)
        exact hQ _ _ hσ36 (⟨(kq (a := 0) (b := 14) eσ36 (fun q => absurd q.2 (by decide))).trans ((kq2 (a := 0) (b := 14) eσ14).trans (k3)), (kq (a := 0) (b := 35) eσ36 (fun q => absurd q.2 (by decide))).trans ((kq2 (a := 0) (b := 35) eσ14).trans (k4)), (kq (a := 0) (b := 24) eσ36 (fun q => absurd q.2 (by decide))).trans ((kq2 (a := 0) (b := 24) eσ14).trans (k5)), (kq (a := 0) (b := 36) eσ36 (fun q => absurd q.2 (by decide))).trans ((kq2 (a := 0) (b := 36) eσ14).trans (k6)), (kq (a := 0) (b := 41) eσ36 (fun q => absurd q.2 (by decide))).trans ((kq2 (a := 0) (b := 41) eσ14).trans (k7)), (kq (a := 0) (b := 50) eσ36 (fun q => absurd q.2 (by decide))).trans ((kq2 (a := 0) (b := 50) eσ14).trans (k8)), (kq (a := 0) (b := 51) eσ36 (fun q => absurd q.2 (by decide))).trans ((kq2 (a := 0) (b := 51) eσ14).trans (k9))⟩) (by omega)
      · have f41 := tB (σ14.1 0 9)
        first | have f42 := (noteqE (rfl : (σ14.1 0 9).toInt = (σ14.1 0 9).toInt) (show (0 : Int32).toInt = 0 from by decide)).mp c33 | skip
        try unfold fX12_fails_j16
        intro σ43 eσ43
        have hσ43 : K2 σ0 σ43 := by rw [eσ43]; exact hσ14.u (Rg2.u_0_9 _) (fun q => absurd q.2 (by decide)) (fun q => absurd q.2 (by decide))
        try dsimp only
        have f45 := tB (σ43.1 0 9)
        have q46 : σ43.1 0 9 = (σ14.1 0 9) := by rw [eσ43, u1_at]; exact if_pos rfl
        first | have f48 : (σ43.1 0 9).toInt = (σ14.1 0 9).toInt := (congrArg Int32.toInt q46).trans (rfl : (σ14.1 0 9).toInt = (σ14.1 0 9).toInt) | skip
        have hrv := (rfl : r11.toInt = r11.toInt)
        exact hQ _ _ hσ43 (⟨(kq (a := 0) (b := 14) eσ43 (fun q => absurd q.2 (by decide))).trans ((kq2 (a := 0) (b := 14) eσ14).trans (k3)), (kq (a := 0) (b := 35) eσ43 (fun q => absurd q.2 (by decide))).trans ((kq2 (a := 0) (b := 35) eσ14).trans (k4)), (kq (a := 0) (b := 24) eσ43 (fun q => absurd q.2 (by decide))).trans ((kq2 (a := 0) (b := 24) eσ14).trans (k5)), (kq (a := 0) (b := 36) eσ43 (fun q => absurd q.2 (by decide))).trans ((kq2 (a := 0) (b := 36) eσ14).trans (k6)), (kq (a := 0) (b := 41) eσ43 (fun q => absurd q.2 (by decide))).trans ((kq2 (a := 0) (b := 41) eσ14).trans (k7)), (kq (a := 0) (b := 50) eσ43 (fun q => absurd q.2 (by decide))).trans ((kq2 (a := 0) (b := 50) eσ14).trans (k8)), (kq (a := 0) (b := 51) eσ43 (fun q => absurd q.2 (by decide))).trans ((kq2 (a := 0) (b := 51) eσ14).trans (k9))⟩) (by omega)
set_option maxHeartbeats 4000000 in
theorem sX12_way {N : Nat} (hN : 4294967400 ≤ N) {Q : Int32 → St → Prop} {σ0 σ : St} (hσ : K2 σ0 σ) (hQ : ∀ (r : Int32) (τ : St), K2 σ0 τ → (τ.1 0 14 = σ.1 0 14 ∧ τ.1 0 35 = σ.1 0 35 ∧ τ.1 0 24 = σ.1 0 24 ∧ τ.1 0 36 = σ.1 0 36 ∧ τ.1 0 41 = σ.1 0 41 ∧ τ.1 0 50 = σ.1 0 50 ∧ τ.1 0 51 = σ.1 0 51) → True → Q r τ) : fX12_way N  Q σ := by
  unfold fX12_way
  have f1 := tB64 (σ.2 0 34)
  refine sX12_read hN hσ (fun r11 σ2 hσ2 kk10 p12 => ?_)
  obtain ⟨k3, k4, k5, k6, k7, k8, k9⟩ := kk10
  intro v13 ev13
  have f14 := tB64 (σ2.2 0 34)
  refine sX12_read hN hσ2 (fun r24 σ15 hσ15 kk23 p25 => ?_)
  obtain ⟨k16, k17, k18, k19, k20, k21, k22⟩ := kk23
  intro v26 ev26
  intro σ27 eσ27
  have hσ27 : K2 σ0 σ27 := by rw [eσ27]; exact hσ15.l
  exact hQ _ _ hσ27 (⟨(kq2 (a := 0) (b := 14) eσ27).trans (k16.trans (k3)), (kq2 (a := 0) (b := 35) eσ27).trans (k17.trans (k4)), (kq2 (a := 0) (b := 24) eσ27).trans (k18.trans (k5)), (kq2 (a := 0) (b := 36) eσ27).trans (k19.trans (k6)), (kq2 (a := 0) (b := 41) eσ27).trans (k20.trans (k7)), (kq2 (a := 0) (b := 50) eσ27).trans (k21.trans (k8)), (kq2 (a := 0) (b := 51) eσ27).trans (k22.trans (k9))⟩) trivial
set_option maxHeartbeats 4000000 in
theorem sX12_put {N : Nat} (hN : 4294967400 ≤ N) {x1 : Int32} {x2 : Int32} {Q : St → Prop} {σ0 σ : St} (hx0 : (x1.toInt = 255 ∨ (0 ≤ x1.toInt ∧ x1.toInt ≤ 7) ∨ ¬ (σ.1 0 9).toInt = 0)) (hσ : K2 σ0 σ) (hQ : ∀ τ : St, K2 σ0 τ → (τ.1 0 14 = σ.1 0 14 ∧ τ.1 0 9 = σ.1 0 9 ∧ τ.1 0 35 = σ.1 0 35 ∧ τ.1 0 24 = σ.1 0 24 ∧ τ.1 0 36 = σ.1 0 36 ∧ τ.1 0 41 = σ.1 0 41 ∧ τ.1 0 50 = σ.1 0 50 ∧ τ.1 0 51 = σ.1 0 51) → Q τ) : fX12_put N x1 x2 Q σ := by
  unfold fX12_put
  refine ⟨fun c1 => ?_, fun c1 => ?_⟩
  · have f2 := tB (σ.1 0 9)
    first | have f3 := (eqE (rfl : (σ.1 0 9).toInt = (σ.1 0 9).toInt) (show (0 : Int32).toInt = 0 from by decide)).mp c1 | skip
    refine ⟨fun c4 => ?_, fun c4 => ?_⟩
    · have f5 := tB x1
      first | have f6 := (eqE (rfl : x1.toInt = x1.toInt) (show (255 : Int32).toInt = 255 from by decide)).mp c4 | skip
      exact hQ _ hσ (⟨rfl, rfl, rfl, rfl, rfl, rfl, rfl, rfl⟩)
    · have f7 := tB x1
      first | have f8 := (noteqE (rfl : x1.toInt = x1.toInt) (show (255 : Int32).toInt = 255 from by decide)).mp c4 | skip
      have f9 := K2.g_0_35 hσ
      refine ⟨inE (aOkE (mOkE (show (8 : Int32).toInt = 8 from by decide) (rfl : (σ.1 0 35).toInt = (σ.1 0 35).toInt) (by omega) (by omega)) (rfl : x1.toInt = x1.toInt) (by omega) (by omega)) (by omega) (by omega), ?_⟩
      intro σ11 eσ11
      have hσ11 : K2 σ0 σ11 := by rw [eσ11]; exact hσ.u (Rg2.ra_10 _ _) (fun q => absurd q.1 (by decide)) (fun q => absurd q.1 (by decide))
      exact hQ _ hσ11 (⟨(kq (a := 0) (b := 14) eσ11 (fun q => absurd q.1 (by decide))), (kq (a := 0) (b := 9) eσ11 (fun q => absurd q.1 (by decide))), (kq (a := 0) (b := 35) eσ11 (fun q => absurd q.1 (by decide))), (kq (a := 0) (b := 24) eσ11 (fun q => absurd q.1 (by decide))), (kq (a := 0) (b := 36) eσ11 (fun q => absurd q.1 (by decide))), (kq (a := 0) (b := 41) eσ11 (fun q => absurd q.1 (by decide))), (kq (a := 0) (b := 50) eσ11 (fun q => absurd q.1 (by decide))), (kq (a := 0) (b := 51) eσ11 (fun q => absurd q.1 (by decide)))⟩)
  · have f12 := tB (σ.1 0 9)
    first | have f13 := (noteqE (rfl : (σ.1 0 9).toInt = (σ.1 0 9).toInt) (show (0 : Int32).toInt = 0 from by decide)).mp c1 | skip
    exact hQ _ hσ (⟨rfl, rfl, rfl, rfl, rfl, rfl, rfl, rfl⟩)
set_option maxHeartbeats 4000000 in
theorem sX12_failed {N : Nat} (hN : 4294967400 ≤ N) {Q : Int32 → St → Prop} {σ0 σ : St} (hσ : K2 σ0 σ) (hQ : ∀ (r : Int32) (τ : St), K2 σ0 τ → (τ.1 0 9 = σ.1 0 9 ∧ τ.1 0 35 = σ.1 0 35 ∧ τ.1 0 24 = σ.1 0 24 ∧ τ.1 0 36 = σ.1 0 36 ∧ τ.1 0 41 = σ.1 0 41 ∧ τ.1 0 50 = σ.1 0 50 ∧ τ.1 0 51 = σ.1 0 51) → True → Q r τ) : fX12_failed N  Q σ := by
  unfold fX12_failed
  intro σ1 eσ1
  have hσ1 : K2 σ0 σ1 := by rw [eσ1]; exact hσ.u (Rg2.r_0_14 (leP (show (0 : Int32).toInt = 0 from by decide) (by omega)) (geP (show (0 : Int32).toInt = 0 from by decide) (by omega))) (fun q => absurd q.2 (by decide)) (fun q => absurd q.2 (by decide))
  intro v2 ev2
  intro σ3 eσ3
  have hσ3 : K2 σ0 σ3 := by rw [eσ3]; exact hσ1.u (Rg2.u_0_29 _) (fun q => absurd q.2 (by decide)) (fun q => absurd q.2 (by decide))
  intro v4 ev4
  intro σ5 eσ5
  have hσ5 : K2 σ0 σ5 := by rw [eσ5]; exact hσ3.u (Rg2.u_0_30 _) (fun q => absurd q.2 (by decide)) (fun q => absurd q.2 (by decide))
  exact hQ _ _ hσ5 (⟨(kq (a := 0) (b := 9) eσ5 (fun q => absurd q.2 (by decide))).trans ((kq (a := 0) (b := 9) eσ3 (fun q => absurd q.2 (by decide))).trans ((kq (a := 0) (b := 9) eσ1 (fun q => absurd q.2 (by decide))))), (kq (a := 0) (b := 35) eσ5 (fun q => absurd q.2 (by decide))).trans ((kq (a := 0) (b := 35) eσ3 (fun q => absurd q.2 (by decide))).trans ((kq (a := 0) (b := 35) eσ1 (fun q => absurd q.2 (by decide))))), (kq (a := 0) (b := 24) eσ5 (fun q => absurd q.2 (by decide))).trans ((kq (a := 0) (b := 24) eσ3 (fun q => absurd q.2 (by decide))).trans ((kq (a := 0) (b := 24) eσ1 (fun q => absurd q.2 (by decide))))), (kq (a := 0) (b := 36) eσ5 (fun q => absurd q.2 (by decide))).trans ((kq (a := 0) (b := 36) eσ3 (fun q => absurd q.2 (by decide))).trans ((kq (a := 0) (b := 36) eσ1 (fun q => absurd q.2 (by decide))))), (kq (a := 0) (b := 41) eσ5 (fun q => absurd q.2 (by decide))).trans ((kq (a := 0) (b := 41) eσ3 (fun q => absurd q.2 (by decide))).trans ((kq (a := 0) (b := 41) eσ1 (fun q => absurd q.2 (by decide))))), (kq (a := 0) (b := 50) eσ5 (fun q => absurd q.2 (by decide))).trans ((kq (a := 0) (b := 50) eσ3 (fun q => absurd q.2 (by decide))).trans ((kq (a := 0) (b := 50) eσ1 (fun q => absurd q.2 (by decide))))), (kq (a := 0) (b := 51) eσ5 (fun q => absurd q.2 (by decide))).trans ((kq (a := 0) (b := 51) eσ3 (fun q => absurd q.2 (by decide))).trans ((kq (a := 0) (b := 51) eσ1 (fun q => absurd q.2 (by decide)))))⟩) trivial
set_option maxHeartbeats 4000000 in
theorem sX12_stop {N : Nat} (hN : 4294967400 ≤ N) {Q : Int32 → St → Prop} {σ0 σ : St} (hσ : K2 σ0 σ) (hQ : ∀ (r : Int32) (τ : St), K2 σ0 τ → (τ.1 0 9 = σ.1 0 9 ∧ τ.1 0 35 = σ.1 0 35 ∧ τ.1 0 24 = σ.1 0 24 ∧ τ.1 0 36 = σ.1 0 36 ∧ τ.1 0 41 = σ.1 0 41 ∧ τ.1 0 50 = σ.1 0 50 ∧ τ.1 0 51 = σ.1 0 51) → True → Q r τ) : fX12_stop N  Q σ := by
  unfold fX12_stop
  intro v1 ev1
  intro σ2 eσ2
  have hσ2 : K2 σ0 σ2 := by rw [eσ2]; exact hσ.u (Rg2.r_0_14 (leP (show (0 : Int32).toInt = 0 from by decide) (by omega)) (geP (show (0 : Int32).toInt = 0 from by decide) (by omega))) (fun q => absurd q.2 (by decide)) (fun q => absurd q.2 (by decide))
  exact hQ _ _ hσ2 (⟨(kq (a := 0) (b := 9) eσ2 (fun q => absurd q.2 (by decide))), (kq (a := 0) (b := 35) eσ2 (fun q => absurd q.2 (by decide))), (kq (a := 0) (b := 24) eσ2 (fun q => absurd q.2 (by decide))), (kq (a := 0) (b := 36) eσ2 (fun q => absurd q.2 (by decide))), (kq (a := 0) (b := 41) eσ2 (fun q => absurd q.2 (by decide))), (kq (a := 0) (b := 50) eσ2 (fun q => absurd q.2 (by decide))), (kq (a := 0) (b := 51) eσ2 (fun q => absurd q.2 (by decide)))⟩) trivial
set_option maxHeartbeats 4000000 in
theorem sX12_jobs {N : Nat} (hN : 4294967400 ≤ N) {Q : Int32 → St → Prop} {σ0 σ : St} (hσ : K2 σ0 σ) (hQ : ∀ r : Int32, True → Q r σ) : fX12_jobs N  Q σ := by
  unfold fX12_jobs
  exact hQ _ trivial
set_option maxHeartbeats 4000000 in
theorem sX12_job {N : Nat} (hN : 4294967400 ≤ N) {x1 : Int32} {x2 : Int32} {Q : Int32 → St → Prop} {σ0 σ : St} (hσ : K2 σ0 σ) (hQ : ∀ r : Int32, True → Q r σ) : fX12_job N x1 x2 Q σ := by
  unfold fX12_job
  try unfold fX12_in
  refine ⟨fun c1 => ?_, fun c1 => ?_⟩
  · have f2 := tB x1
    first | have f3 := (ltE64 (i2lE (rfl : x1.toInt = x1.toInt)) (show (0 : Int64).toInt = 0 from by decide)).mp c1 | skip
    try dsimp only
    refine ⟨fun c4 => ?_, fun c4 => ?_⟩
    · first | have f5 := (eqE (show (0 : Int32).toInt = 0 from by decide) (show (0 : Int32).toInt = 0 from by decide)).mp c4 | skip
      exact hQ _ trivial
    · first | have f6 := (noteqE (show (0 : Int32).toInt = 0 from by decide) (show (0 : Int32).toInt = 0 from by decide)).mp c4 | skip
      refine ⟨fun c7 => ?_, fun c7 => ?_⟩
      · have f8 := tB x2
        first | have f9 := (eqE (rfl : x2.toInt = x2.toInt) (show (0 : Int32).toInt = 0 from by decide)).mp c7 | skip
        have g11 : vp_in x1 40 := inE (rfl : x1.toInt = x1.toInt) (by omega) (by omega)
        refine ⟨g11, ?_⟩
        exact hQ _ trivial
      · have f12 := tB x2
        first | have f13 := (noteqE (rfl : x2.toInt = x2.toInt) (show (0 : Int32).toInt = 0 from by decide)).mp c7 | skip
        refine ⟨fun c14 => ?_, fun c14 => ?_⟩
        · first | have f16 := (eqE (rfl : x2.toInt = x2.toInt) (show (1 : Int32).toInt = 1 from by decide)).mp c14 | skip
          have g18 : vp_in x1 40 := inE (rfl : x1.toInt = x1.toInt) (by omega) (by omega)
          refine ⟨g18, ?_⟩
          exact hQ _ trivial
        · first | have f20 := (noteqE (rfl : x2.toInt = x2.toInt) (show (1 : Int32).toInt = 1 from by decide)).mp c14 | skip
          refine ⟨fun c21 => ?_, fun c21 => ?_⟩
          · first | have f23 := (eqE (rfl : x2.toInt = x2.toInt) (show (2 : Int32).toInt = 2 from by decide)).mp c21 | skip
            have g25 : vp_in x1 40 := inE (rfl : x1.toInt = x1.toInt) (by omega) (by omega)
            refine ⟨g25, ?_⟩
            exact hQ _ trivial
          · first | have f27 := (noteqE (rfl : x2.toInt = x2.toInt) (show (2 : Int32).toInt = 2 from by decide)).mp c21 | skip
            refine ⟨fun c28 => ?_, fun c28 => ?_⟩
            · first | have f30 := (eqE (rfl : x2.toInt = x2.toInt) (show (3 : Int32).toInt = 3 from by decide)).mp c28 | skip
              have g32 : vp_in x1 40 := inE (rfl : x1.toInt = x1.toInt) (by omega) (by omega)
              refine ⟨g32, ?_⟩
              exact hQ _ trivial
            · first | have f34 := (noteqE (rfl : x2.toInt = x2.toInt) (show (3 : Int32).toInt = 3 from by decide)).mp c28 | skip
              refine ⟨fun c35 => ?_, fun c35 => ?_⟩
              · first | have f37 := (eqE (rfl : x2.toInt = x2.toInt) (show (4 : Int32).toInt = 4 from by decide)).mp c35 | skip
                have g39 : vp_in x1 40 := inE (rfl : x1.toInt = x1.toInt) (by omega) (by omega)
                refine ⟨g39, ?_⟩
                refine ⟨fun c40 => ?_, fun c40 => ?_⟩
                · have f41 := tB (σ.1 6 x1.toNatClampNeg)
                  first | have f42 := (eqE (rfl : (σ.1 6 x1.toNatClampNeg).toInt = (σ.1 6 x1.toNatClampNeg).toInt) (show (3 : Int32).toInt = 3 from by decide)).mp c40 | skip
                  have g44 : vp_in x1 40 := inE (rfl : x1.toInt = x1.toInt) (by omega) (by omega)
                  refine ⟨g44, ?_⟩
                  refine ⟨fun c45 => ?_, fun c45 => ?_⟩
                  · have f46 := tB (σ.1 11 x1.toNatClampNeg)
                    first | have f47 := (eqE (rfl : (σ.1 11 x1.toNatClampNeg).toInt = (σ.1 11 x1.toNatClampNeg).toInt) (show (0 : Int32).toInt = 0 from by decide)).mp c45 | skip
                    have g49 : vp_in x1 40 := inE (rfl : x1.toInt = x1.toInt) (by omega) (by omega)
                    refine ⟨g49, ?_⟩
                    exact hQ _ trivial
                  · have f50 := tB (σ.1 11 x1.toNatClampNeg)
                    first | have f51 := (noteqE (rfl : (σ.1 11 x1.toNatClampNeg).toInt = (σ.1 11 x1.toNatClampNeg).toInt) (show (0 : Int32).toInt = 0 from by decide)).mp c45 | skip
                    exact hQ _ trivial
                · have f52 := tB (σ.1 6 x1.toNatClampNeg)
                  first | have f53 := (noteqE (rfl : (σ.1 6 x1.toNatClampNeg).toInt = (σ.1 6 x1.toNatClampNeg).toInt) (show (3 : Int32).toInt = 3 from by decide)).mp c40 | skip
                  exact hQ _ trivial
              · first | have f55 := (noteqE (rfl : x2.toInt = x2.toInt) (show (4 : Int32).toInt = 4 from by decide)).mp c35 | skip
                have g57 : vp_in x1 40 := inE (rfl : x1.toInt = x1.toInt) (by omega) (by omega)
                refine ⟨g57, ?_⟩
                try unfold fX12_in
                refine ⟨fun c58 => ?_, fun c58 => ?_⟩
                · first | have f60 := (ltE64 (i2lE (rfl : x2.toInt = x2.toInt)) (show (10 : Int64).toInt = 10 from by decide)).mp c58 | skip
                  try dsimp only
                  refine ⟨fun c61 => ?_, fun c61 => ?_⟩
                  · first | have f62 := (eqE (show (0 : Int32).toInt = 0 from by decide) (show (0 : Int32).toInt = 0 from by decide)).mp c61 | skip
                    exact hQ _ trivial
                  · first | have f63 := (noteqE (show (0 : Int32).toInt = 0 from by decide) (show (0 : Int32).toInt = 0 from by decide)).mp c61 | skip
                    have g66 : vp_in (((8 * x1) + x2) - 10) 320 := inE (sOkE (aOkE (mOkE (show (8 : Int32).toInt = 8 from by decide) (rfl : x1.toInt = x1.toInt) (by omega) (by omega)) (rfl : x2.toInt = x2.toInt) (by omega) (by omega)) (show (10 : Int32).toInt = 10 from by decide) (by omega) (by omega)) (by omega) (by omega)
                    refine ⟨g66, ?_⟩
                    exact hQ _ trivial
                · first | have f68 := (notltE64 (i2lE (rfl : x2.toInt = x2.toInt)) (show (10 : Int64).toInt = 10 from by decide)).mp c58 | skip
                  refine ⟨fun c69 => ?_, fun c69 => ?_⟩
                  · have f70 := K2.ga_9 hσ x1.toNatClampNeg
                    first | have f72 := (ltE64 (aOkE64 (show (9 : Int64).toInt = 9 from by decide) (i2lE (rfl : (σ.1 9 x1.toNatClampNeg).toInt = (σ.1 9 x1.toNatClampNeg).toInt)) (by omega) (by omega)) (i2lE (rfl : x2.toInt = x2.toInt))).mp c69 | skip
                    try dsimp only
                    refine ⟨fun c73 => ?_, fun c73 => ?_⟩
                    · first | have f74 := (eqE (show (0 : Int32).toInt = 0 from by decide) (show (0 : Int32).toInt = 0 from by decide)).mp c73 | skip
                      exact hQ _ trivial
                    · first | have f75 := (noteqE (show (0 : Int32).toInt = 0 from by decide) (show (0 : Int32).toInt = 0 from by decide)).mp c73 | skip
                      have g78 : vp_in (((8 * x1) + x2) - 10) 320 := inE (sOkE (aOkE (mOkE (show (8 : Int32).toInt = 8 from by decide) (rfl : x1.toInt = x1.toInt) (by omega) (by omega)) (rfl : x2.toInt = x2.toInt) (by omega) (by omega)) (show (10 : Int32).toInt = 10 from by decide) (by omega) (by omega)) (by omega) (by omega)
                      refine ⟨g78, ?_⟩
                      exact hQ _ trivial
                  · have f79 := K2.ga_9 hσ x1.toNatClampNeg
                    first | have f81 := (notltE64 (aOkE64 (show (9 : Int64).toInt = 9 from by decide) (i2lE (rfl : (σ.1 9 x1.toNatClampNeg).toInt = (σ.1 9 x1.toNatClampNeg).toInt)) (by omega) (by omega)) (i2lE (rfl : x2.toInt = x2.toInt))).mp c69 | skip
                    try dsimp only
                    refine ⟨fun c82 => ?_, fun c82 => ?_⟩
                    · first | have f83 := (eqE (show (1 : Int32).toInt = 1 from by decide) (show (0 : Int32).toInt = 0 from by decide)).mp c82 | skip
                      exact hQ _ trivial
                    · first | have f84 := (noteqE (show (1 : Int32).toInt = 1 from by decide) (show (0 : Int32).toInt = 0 from by decide)).mp c82 | skip
                      have g87 : vp_in (((8 * x1) + x2) - 10) 320 := inE (sOkE (aOkE (mOkE (show (8 : Int32).toInt = 8 from by decide) (rfl : x1.toInt = x1.toInt) (by omega) (by omega)) (rfl : x2.toInt = x2.toInt) (by omega) (by omega)) (show (10 : Int32).toInt = 10 from by decide) (by omega) (by omega)) (by omega) (by omega)
                      refine ⟨g87, ?_⟩
                      exact hQ _ trivial
  · have f88 := tB x1
    first | have f89 := (notltE64 (i2lE (rfl : x1.toInt = x1.toInt)) (show (0 : Int64).toInt = 0 from by decide)).mp c1 | skip
    refine ⟨fun c90 => ?_, fun c90 => ?_⟩
    · have f91 := K2.g_0_14 hσ
      first | have f93 := (ltE64 (i2lE (sOkE (rfl : (σ.1 0 14).toInt = (σ.1 0 14).toInt) (show (1 : Int32).toInt = 1 from by decide) (by omega) (by omega))) (i2lE (rfl : x1.toInt = x1.toInt))).mp c90 | skip
      try dsimp only
      refine ⟨fun c94 => ?_, fun c94 => ?_⟩
      · first | have f95 := (eqE (show (0 : Int32).toInt = 0 from by decide) (show (0 : Int32).toInt = 0 from by decide)).mp c94 | skip
        exact hQ _ trivial
      · first | have f96 := (noteqE (show (0 : Int32).toInt = 0 from by decide) (show (0 : Int32).toInt = 0 from by decide)).mp c94 | skip
        refine ⟨fun c97 => ?_, fun c97 => ?_⟩
        · have f98 := tB x2
          first | have f99 := (eqE (rfl : x2.toInt = x2.toInt) (show (0 : Int32).toInt = 0 from by decide)).mp c97 | skip
          have g101 : vp_in x1 40 := inE (rfl : x1.toInt = x1.toInt) (by omega) (by omega)
          refine ⟨g101, ?_⟩
          exact hQ _ trivial
        · have f102 := tB x2
          first | have f103 := (noteqE (rfl : x2.toInt = x2.toInt) (show (0 : Int32).toInt = 0 from by decide)).mp c97 | skip
          refine ⟨fun c104 => ?_, fun c104 => ?_⟩
          · first | have f106 := (eqE (rfl : x2.toInt = x2.toInt) (show (1 : Int32).toInt = 1 from by decide)).mp c104 | skip
            have g108 : vp_in x1 40 := inE (rfl : x1.toInt = x1.toInt) (by omega) (by omega)
            refine ⟨g108, ?_⟩
            exact hQ _ trivial
          · first | have f110 := (noteqE (rfl : x2.toInt = x2.toInt) (show (1 : Int32).toInt = 1 from by decide)).mp c104 | skip
            refine ⟨fun c111 => ?_, fun c111 => ?_⟩
            · first | have f113 := (eqE (rfl : x2.toInt = x2.toInt) (show (2 : Int32).toInt = 2 from by decide)).mp c111 | skip
              have g115 : vp_in x1 40 := inE (rfl : x1.toInt = x1.toInt) (by omega) (by omega)
              refine ⟨g115, ?_⟩
              exact hQ _ trivial
            · first | have f117 := (noteqE (rfl : x2.toInt = x2.toInt) (show (2 : Int32).toInt = 2 from by decide)).mp c111 | skip
              refine ⟨fun c118 => ?_, fun c118 => ?_⟩
              · first | have f120 := (eqE (rfl : x2.toInt = x2.toInt) (show (3 : Int32).toInt = 3 from by decide)).mp c118 | skip
                have g122 : vp_in x1 40 := inE (rfl : x1.toInt = x1.toInt) (by omega) (by omega)
                refine ⟨g122, ?_⟩
                exact hQ _ trivial
              · first | have f124 := (noteqE (rfl : x2.toInt = x2.toInt) (show (3 : Int32).toInt = 3 from by decide)).mp c118 | skip
                refine ⟨fun c125 => ?_, fun c125 => ?_⟩
                · first | have f127 := (eqE (rfl : x2.toInt = x2.toInt) (show (4 : Int32).toInt = 4 from by decide)).mp c125 | skip
                  have g129 : vp_in x1 40 := inE (rfl : x1.toInt = x1.toInt) (by omega) (by omega)
                  refine ⟨g129, ?_⟩
                  refine ⟨fun c130 => ?_, fun c130 => ?_⟩
                  · have f131 := tB (σ.1 6 x1.toNatClampNeg)
                    first | have f132 := (eqE (rfl : (σ.1 6 x1.toNatClampNeg).toInt = (σ.1 6 x1.toNatClampNeg).toInt) (show (3 : Int32).toInt = 3 from by decide)).mp c130 | skip
                    have g134 : vp_in x1 40 := inE (rfl : x1.toInt = x1.toInt) (by omega) (by omega)
                    refine ⟨g134, ?_⟩
                    refine ⟨fun c135 => ?_, fun c135 => ?_⟩
                    · have f136 := tB (σ.1 11 x1.toNatClampNeg)
                      first | have f137 := (eqE (rfl : (σ.1 11 x1.toNatClampNeg).toInt = (σ.1 11 x1.toNatClampNeg).toInt) (show (0 : Int32).toInt = 0 from by decide)).mp c135 | skip
                      have g139 : vp_in x1 40 := inE (rfl : x1.toInt = x1.toInt) (by omega) (by omega)
                      refine ⟨g139, ?_⟩
                      exact hQ _ trivial
                    · have f140 := tB (σ.1 11 x1.toNatClampNeg)
                      first | have f141 := (noteqE (rfl : (σ.1 11 x1.toNatClampNeg).toInt = (σ.1 11 x1.toNatClampNeg).toInt) (show (0 : Int32).toInt = 0 from by decide)).mp c135 | skip
                      exact hQ _ trivial
                  · have f142 := tB (σ.1 6 x1.toNatClampNeg)
                    first | have f143 := (noteqE (rfl : (σ.1 6 x1.toNatClampNeg).toInt = (σ.1 6 x1.toNatClampNeg).toInt) (show (3 : Int32).toInt = 3 from by decide)).mp c130 | skip
                    exact hQ _ trivial
                · first | have f145 := (noteqE (rfl : x2.toInt = x2.toInt) (show (4 : Int32).toInt = 4 from by decide)).mp c125 | skip
                  have g147 : vp_in x1 40 := inE (rfl : x1.toInt = x1.toInt) (by omega) (by omega)
                  refine ⟨g147, ?_⟩
                  try unfold fX12_in
                  refine ⟨fun c148 => ?_, fun c148 => ?_⟩
                  · first | have f150 := (ltE64 (i2lE (rfl : x2.toInt = x2.toInt)) (show (10 : Int64).toInt = 10 from by decide)).mp c148 | skip
                    try dsimp only
                    refine ⟨fun c151 => ?_, fun c151 => ?_⟩
                    · first | have f152 := (eqE (show (0 : Int32).toInt = 0 from by decide) (show (0 : Int32).toInt = 0 from by decide)).mp c151 | skip
                      exact hQ _ trivial
                    · first | have f153 := (noteqE (show (0 : Int32).toInt = 0 from by decide) (show (0 : Int32).toInt = 0 from by decide)).mp c151 | skip
                      have g156 : vp_in (((8 * x1) + x2) - 10) 320 := inE (sOkE (aOkE (mOkE (show (8 : Int32).toInt = 8 from by decide) (rfl : x1.toInt = x1.toInt) (by omega) (by omega)) (rfl : x2.toInt = x2.toInt) (by omega) (by omega)) (show (10 : Int32).toInt = 10 from by decide) (by omega) (by omega)) (by omega) (by omega)
                      refine ⟨g156, ?_⟩
                      exact hQ _ trivial
                  · first | have f158 := (notltE64 (i2lE (rfl : x2.toInt = x2.toInt)) (show (10 : Int64).toInt = 10 from by decide)).mp c148 | skip
                    refine ⟨fun c159 => ?_, fun c159 => ?_⟩
                    · have f160 := K2.ga_9 hσ x1.toNatClampNeg
                      first | have f162 := (ltE64 (aOkE64 (show (9 : Int64).toInt = 9 from by decide) (i2lE (rfl : (σ.1 9 x1.toNatClampNeg).toInt = (σ.1 9 x1.toNatClampNeg).toInt)) (by omega) (by omega)) (i2lE (rfl : x2.toInt = x2.toInt))).mp c159 | skip
                      try dsimp only
                      refine ⟨fun c163 => ?_, fun c163 => ?_⟩
                      · first | have f164 := (eqE (show (0 : Int32).toInt = 0 from by decide) (show (0 : Int32).toInt = 0 from by decide)).mp c163 | skip
                        exact hQ _ trivial
                      · first | have f165 := (noteqE (show (0 : Int32).toInt = 0 from by decide) (show (0 : Int32).toInt = 0 from by decide)).mp c163 | skip
                        have g168 : vp_in (((8 * x1) + x2) - 10) 320 := inE (sOkE (aOkE (mOkE (show (8 : Int32).toInt = 8 from by decide) (rfl : x1.toInt = x1.toInt) (by omega) (by omega)) (rfl : x2.toInt = x2.toInt) (by omega) (by omega)) (show (10 : Int32).toInt = 10 from by decide) (by omega) (by omega)) (by omega) (by omega)
                        refine ⟨g168, ?_⟩
                        exact hQ _ trivial
                    · have f169 := K2.ga_9 hσ x1.toNatClampNeg
                      first | have f171 := (notltE64 (aOkE64 (show (9 : Int64).toInt = 9 from by decide) (i2lE (rfl : (σ.1 9 x1.toNatClampNeg).toInt = (σ.1 9 x1.toNatClampNeg).toInt)) (by omega) (by omega)) (i2lE (rfl : x2.toInt = x2.toInt))).mp c159 | skip
                      try dsimp only
                      refine ⟨fun c172 => ?_, fun c172 => ?_⟩
                      · first | have f173 := (eqE (show (1 : Int32).toInt = 1 from by decide) (show (0 : Int32).toInt = 0 from by decide)).mp c172 | skip
                        exact hQ _ trivial
                      · first | have f174 := (noteqE (show (1 : Int32).toInt = 1 from by decide) (show (0 : Int32).toInt = 0 from by decide)).mp c172 | skip
                        have g177 : vp_in (((8 * x1) + x2) - 10) 320 := inE (sOkE (aOkE (mOkE (show (8 : Int32).toInt = 8 from by decide) (rfl : x1.toInt = x1.toInt) (by omega) (by omega)) (rfl : x2.toInt = x2.toInt) (by omega) (by omega)) (show (10 : Int32).toInt = 10 from by decide) (by omega) (by omega)) (by omega) (by omega)
                        refine ⟨g177, ?_⟩
                        exact hQ _ trivial
    · have f178 := K2.g_0_14 hσ
      first | have f180 := (notltE64 (i2lE (sOkE (rfl : (σ.1 0 14).toInt = (σ.1 0 14).toInt) (show (1 : Int32).toInt = 1 from by decide) (by omega) (by omega))) (i2lE (rfl : x1.toInt = x1.toInt))).mp c90 | skip
      try dsimp only
      refine ⟨fun c181 => ?_, fun c181 => ?_⟩
      · first | have f182 := (eqE (show (1 : Int32).toInt = 1 from by decide) (show (0 : Int32).toInt = 0 from by decide)).mp c181 | skip
        exact hQ _ trivial
      · first | have f183 := (noteqE (show (1 : Int32).toInt = 1 from by decide) (show (0 : Int32).toInt = 0 from by decide)).mp c181 | skip
        refine ⟨fun c184 => ?_, fun c184 => ?_⟩
        · have f185 := tB x2
          first | have f186 := (eqE (rfl : x2.toInt = x2.toInt) (show (0 : Int32).toInt = 0 from by decide)).mp c184 | skip
          have g188 : vp_in x1 40 := inE (rfl : x1.toInt = x1.toInt) (by omega) (by omega)
          refine ⟨g188, ?_⟩
          exact hQ _ trivial
        · have f189 := tB x2
          first | have f190 := (noteqE (rfl : x2.toInt = x2.toInt) (show (0 : Int32).toInt = 0 from by decide)).mp c184 | skip
          refine ⟨fun c191 => ?_, fun c191 => ?_⟩
          · first | have f193 := (eqE (rfl : x2.toInt = x2.toInt) (show (1 : Int32).toInt = 1 from by decide)).mp c191 | skip
            have g195 : vp_in x1 40 := inE (rfl : x1.toInt = x1.toInt) (by omega) (by omega)
            refine ⟨g195, ?_⟩
            exact hQ _ trivial
          · first | have f197 := (noteqE (rfl : x2.toInt = x2.toInt) (show (1 : Int32).toInt = 1 from by decide)).mp c191 | skip
            refine ⟨fun c198 => ?_, fun c198 => ?_⟩
            · first | have f200 := (eqE (rfl : x2.toInt = x2.toInt) (show (2 : Int32).toInt = 2 from by decide)).mp c198 | skip
              have g202 : vp_in x1 40 := inE (rfl : x1.toInt = x1.toInt) (by omega) (by omega)
              refine ⟨g202, ?_⟩
              exact hQ _ trivial
            · first | have f204 := (noteqE (rfl : x2.toInt = x2.toInt) (show (2 : Int32).toInt = 2 from by decide)).mp c198 | skip
              refine ⟨fun c205 => ?_, fun c205 => ?_⟩
              · first | have f207 := (eqE (rfl : x2.toInt = x2.toInt) (show (3 : Int32).toInt = 3 from by decide)).mp c205 | skip
                have g209 : vp_in x1 40 := inE (rfl : x1.toInt = x1.toInt) (by omega) (by omega)
                refine ⟨g209, ?_⟩
                exact hQ _ trivial
              · first | have f211 := (noteqE (rfl : x2.toInt = x2.toInt) (show (3 : Int32).toInt = 3 from by decide)).mp c205 | skip
                refine ⟨fun c212 => ?_, fun c212 => ?_⟩
                · first | have f214 := (eqE (rfl : x2.toInt = x2.toInt) (show (4 : Int32).toInt = 4 from by decide)).mp c212 | skip
                  have g216 : vp_in x1 40 := inE (rfl : x1.toInt = x1.toInt) (by omega) (by omega)
                  refine ⟨g216, ?_⟩
                  refine ⟨fun c217 => ?_, fun c217 => ?_⟩
                  · have f218 := tB (σ.1 6 x1.toNatClampNeg)
                    first | have f219 := (eqE (rfl : (σ.1 6 x1.toNatClampNeg).toInt = (σ.1 6 x1.toNatClampNeg).toInt) (show (3 : Int32).toInt = 3 from by decide)).mp c217 | skip
                    have g221 : vp_in x1 40 := inE (rfl : x1.toInt = x1.toInt) (by omega) (by omega)
                    refine ⟨g221, ?_⟩
                    refine ⟨fun c222 => ?_, fun c222 => ?_⟩
                    · have f223 := tB (σ.1 11 x1.toNatClampNeg)
                      first | have f224 := (eqE (rfl : (σ.1 11 x1.toNatClampNeg).toInt = (σ.1 11 x1.toNatClampNeg).toInt) (show (0 : Int32).toInt = 0 from by decide)).mp c222 | skip
                      have g226 : vp_in x1 40 := inE (rfl : x1.toInt = x1.toInt) (by omega) (by omega)
                      refine ⟨g226, ?_⟩
                      exact hQ _ trivial
                    · have f227 := tB (σ.1 11 x1.toNatClampNeg)
                      first | have f228 := (noteqE (rfl : (σ.1 11 x1.toNatClampNeg).toInt = (σ.1 11 x1.toNatClampNeg).toInt) (show (0 : Int32).toInt = 0 from by decide)).mp c222 | skip
                      exact hQ _ trivial
                  · have f229 := tB (σ.1 6 x1.toNatClampNeg)
                    first | have f230 := (noteqE (rfl : (σ.1 6 x1.toNatClampNeg).toInt = (σ.1 6 x1.toNatClampNeg).toInt) (show (3 : Int32).toInt = 3 from by decide)).mp c217 | skip
                    exact hQ _ trivial
                · first | have f232 := (noteqE (rfl : x2.toInt = x2.toInt) (show (4 : Int32).toInt = 4 from by decide)).mp c212 | skip
                  have g234 : vp_in x1 40 := inE (rfl : x1.toInt = x1.toInt) (by omega) (by omega)
                  refine ⟨g234, ?_⟩
                  try unfold fX12_in
                  refine ⟨fun c235 => ?_, fun c235 => ?_⟩
                  · first | have f237 := (ltE64 (i2lE (rfl : x2.toInt = x2.toInt)) (show (10 : Int64).toInt = 10 from by decide)).mp c235 | skip
                    try dsimp only
                    refine ⟨fun c238 => ?_, fun c238 => ?_⟩
                    · first | have f239 := (eqE (show (0 : Int32).toInt = 0 from by decide) (show (0 : Int32).toInt = 0 from by decide)).mp c238 | skip
                      exact hQ _ trivial
                    · first | have f240 := (noteqE (show (0 : Int32).toInt = 0 from by decide) (show (0 : Int32).toInt = 0 from by decide)).mp c238 | skip
                      have g243 : vp_in (((8 * x1) + x2) - 10) 320 := inE (sOkE (aOkE (mOkE (show (8 : Int32).toInt = 8 from by decide) (rfl : x1.toInt = x1.toInt) (by omega) (by omega)) (rfl : x2.toInt = x2.toInt) (by omega) (by omega)) (show (10 : Int32).toInt = 10 from by decide) (by omega) (by omega)) (by omega) (by omega)
                      refine ⟨g243, ?_⟩
                      exact hQ _ trivial
                  · first | have f245 := (notltE64 (i2lE (rfl : x2.toInt = x2.toInt)) (show (10 : Int64).toInt = 10 from by decide)).mp c235 | skip
                    refine ⟨fun c246 => ?_, fun c246 => ?_⟩
                    · have f247 := K2.ga_9 hσ x1.toNatClampNeg
                      first | have f249 := (ltE64 (aOkE64 (show (9 : Int64).toInt = 9 from by decide) (i2lE (rfl : (σ.1 9 x1.toNatClampNeg).toInt = (σ.1 9 x1.toNatClampNeg).toInt)) (by omega) (by omega)) (i2lE (rfl : x2.toInt = x2.toInt))).mp c246 | skip
                      try dsimp only
                      refine ⟨fun c250 => ?_, fun c250 => ?_⟩
                      · first | have f251 := (eqE (show (0 : Int32).toInt = 0 from by decide) (show (0 : Int32).toInt = 0 from by decide)).mp c250 | skip
                        exact hQ _ trivial
                      · first | have f252 := (noteqE (show (0 : Int32).toInt = 0 from by decide) (show (0 : Int32).toInt = 0 from by decide)).mp c250 | skip
                        have g255 : vp_in (((8 * x1) + x2) - 10) 320 := inE (sOkE (aOkE (mOkE (show (8 : Int32).toInt = 8 from by decide) (rfl : x1.toInt = x1.toInt) (by omega) (by omega)) (rfl : x2.toInt = x2.toInt) (by omega) (by omega)) (show (10 : Int32).toInt = 10 from by decide) (by omega) (by omega)) (by omega) (by omega)
                        refine ⟨g255, ?_⟩
                        exact hQ _ trivial
                    · have f256 := K2.ga_9 hσ x1.toNatClampNeg
                      first | have f258 := (notltE64 (aOkE64 (show (9 : Int64).toInt = 9 from by decide) (i2lE (rfl : (σ.1 9 x1.toNatClampNeg).toInt = (σ.1 9 x1.toNatClampNeg).toInt)) (by omega) (by omega)) (i2lE (rfl : x2.toInt = x2.toInt))).mp c246 | skip
                      try dsimp only
                      refine ⟨fun c259 => ?_, fun c259 => ?_⟩
                      · first | have f260 := (eqE (show (1 : Int32).toInt = 1 from by decide) (show (0 : Int32).toInt = 0 from by decide)).mp c259 | skip
                        exact hQ _ trivial
                      · first | have f261 := (noteqE (show (1 : Int32).toInt = 1 from by decide) (show (0 : Int32).toInt = 0 from by decide)).mp c259 | skip
                        have g264 : vp_in (((8 * x1) + x2) - 10) 320 := inE (sOkE (aOkE (mOkE (show (8 : Int32).toInt = 8 from by decide) (rfl : x1.toInt = x1.toInt) (by omega) (by omega)) (rfl : x2.toInt = x2.toInt) (by omega) (by omega)) (show (10 : Int32).toInt = 10 from by decide) (by omega) (by omega)) (by omega) (by omega)
                        refine ⟨g264, ?_⟩
                        exact hQ _ trivial
set_option maxHeartbeats 4000000 in
theorem sX12_at {N : Nat} (hN : 4294967400 ≤ N) {x1 : Int32} {Q : Int32 → St → Prop} {σ0 σ : St} (hσ : K2 σ0 σ) (hQ : ∀ r : Int32, True → Q r σ) : fX12_at N x1 Q σ := by
  unfold fX12_at
  try unfold fX12_in
  refine ⟨fun c1 => ?_, fun c1 => ?_⟩
  · have f2 := tB x1
    first | have f3 := (ltE64 (i2lE (rfl : x1.toInt = x1.toInt)) (show (0 : Int64).toInt = 0 from by decide)).mp c1 | skip
    try dsimp only
    refine ⟨fun c4 => ?_, fun c4 => ?_⟩
    · first | have f5 := (eqE (show (0 : Int32).toInt = 0 from by decide) (show (0 : Int32).toInt = 0 from by decide)).mp c4 | skip
      exact hQ _ trivial
    · first | have f6 := (noteqE (show (0 : Int32).toInt = 0 from by decide) (show (0 : Int32).toInt = 0 from by decide)).mp c4 | skip
      have g8 : vp_in x1 1000 := inE (rfl : x1.toInt = x1.toInt) (by omega) (by omega)
      refine ⟨g8, ?_⟩
      exact hQ _ trivial
  · have f9 := tB x1
    first | have f10 := (notltE64 (i2lE (rfl : x1.toInt = x1.toInt)) (show (0 : Int64).toInt = 0 from by decide)).mp c1 | skip
    refine ⟨fun c11 => ?_, fun c11 => ?_⟩
    · have f12 := K2.g_0_24 hσ
      first | have f14 := (ltE64 (i2lE (sOkE (rfl : (σ.1 0 24).toInt = (σ.1 0 24).toInt) (show (1 : Int32).toInt = 1 from by decide) (by omega) (by omega))) (i2lE (rfl : x1.toInt = x1.toInt))).mp c11 | skip
      try dsimp only
      refine ⟨fun c15 => ?_, fun c15 => ?_⟩
      · first | have f16 := (eqE (show (0 : Int32).toInt = 0 from by decide) (show (0 : Int32).toInt = 0 from by decide)).mp c15 | skip
        exact hQ _ trivial
      · first | have f17 := (noteqE (show (0 : Int32).toInt = 0 from by decide) (show (0 : Int32).toInt = 0 from by decide)).mp c15 | skip
        have g19 : vp_in x1 1000 := inE (rfl : x1.toInt = x1.toInt) (by omega) (by omega)
        refine ⟨g19, ?_⟩
        exact hQ _ trivial
    · have f20 := K2.g_0_24 hσ
      first | have f22 := (notltE64 (i2lE (sOkE (rfl : (σ.1 0 24).toInt = (σ.1 0 24).toInt) (show (1 : Int32).toInt = 1 from by decide) (by omega) (by omega))) (i2lE (rfl : x1.toInt = x1.toInt))).mp c11 | skip
      try dsimp only
      refine ⟨fun c23 => ?_, fun c23 => ?_⟩
      · first | have f24 := (eqE (show (1 : Int32).toInt = 1 from by decide) (show (0 : Int32).toInt = 0 from by decide)).mp c23 | skip
        exact hQ _ trivial
      · first | have f25 := (noteqE (show (1 : Int32).toInt = 1 from by decide) (show (0 : Int32).toInt = 0 from by decide)).mp c23 | skip
        have g27 : vp_in x1 1000 := inE (rfl : x1.toInt = x1.toInt) (by omega) (by omega)
        refine ⟨g27, ?_⟩
        exact hQ _ trivial
set_option maxHeartbeats 4000000 in
theorem sX12_clear {N : Nat} (hN : 4294967400 ≤ N) {Q : Int32 → St → Prop} {σ0 σ : St} (hσ : K2 σ0 σ) (hQ : ∀ (r : Int32) (τ : St), K2 σ0 τ → (τ.1 0 14 = σ.1 0 14 ∧ τ.1 0 9 = σ.1 0 9 ∧ τ.1 0 35 = σ.1 0 35 ∧ τ.1 0 36 = σ.1 0 36 ∧ τ.1 0 41 = σ.1 0 41 ∧ τ.1 0 50 = σ.1 0 50 ∧ τ.1 0 51 = σ.1 0 51) → True → Q r τ) : fX12_clear N  Q σ := by
  unfold fX12_clear
  intro v1 ev1
  intro σ2 eσ2
  have hσ2 : K2 σ0 σ2 := by rw [eσ2]; exact hσ.u (Rg2.r_0_24 (leP (show (0 : Int32).toInt = 0 from by decide) (by omega)) (geP (show (0 : Int32).toInt = 0 from by decide) (by omega))) (fun q => absurd q.2 (by decide)) (fun q => absurd q.2 (by decide))
  exact hQ _ _ hσ2 (⟨(kq (a := 0) (b := 14) eσ2 (fun q => absurd q.2 (by decide))), (kq (a := 0) (b := 9) eσ2 (fun q => absurd q.2 (by decide))), (kq (a := 0) (b := 35) eσ2 (fun q => absurd q.2 (by decide))), (kq (a := 0) (b := 36) eσ2 (fun q => absurd q.2 (by decide))), (kq (a := 0) (b := 41) eσ2 (fun q => absurd q.2 (by decide))), (kq (a := 0) (b := 50) eσ2 (fun q => absurd q.2 (by decide))), (kq (a := 0) (b := 51) eσ2 (fun q => absurd q.2 (by decide)))⟩) trivial
set_option maxHeartbeats 4000000 in
theorem sX12_told {N : Nat} (hN : 4294967400 ≤ N) {x1 : Int32} {Q : Int32 → St → Prop} {σ0 σ : St} (hσ : K2 σ0 σ) (hQ : ∀ r : Int32, True → Q r σ) : fX12_told N x1 Q σ := by
  unfold fX12_told
  refine ⟨fun c1 => ?_, fun c1 => ?_⟩
  · have f2 := tB x1
    first | have f3 := (eqE (rfl : x1.toInt = x1.toInt) (show (0 : Int32).toInt = 0 from by decide)).mp c1 | skip
    exact hQ _ trivial
  · have f4 := tB x1
    first | have f5 := (noteqE (rfl : x1.toInt = x1.toInt) (show (0 : Int32).toInt = 0 from by decide)).mp c1 | skip
    refine ⟨fun c6 => ?_, fun c6 => ?_⟩
    · first | have f8 := (eqE (rfl : x1.toInt = x1.toInt) (show (1 : Int32).toInt = 1 from by decide)).mp c6 | skip
      exact hQ _ trivial
    · first | have f10 := (noteqE (rfl : x1.toInt = x1.toInt) (show (1 : Int32).toInt = 1 from by decide)).mp c6 | skip
      refine ⟨fun c11 => ?_, fun c11 => ?_⟩
      · first | have f13 := (eqE (rfl : x1.toInt = x1.toInt) (show (2 : Int32).toInt = 2 from by decide)).mp c11 | skip
        exact hQ _ trivial
      · first | have f15 := (noteqE (rfl : x1.toInt = x1.toInt) (show (2 : Int32).toInt = 2 from by decide)).mp c11 | skip
        refine ⟨fun c16 => ?_, fun c16 => ?_⟩
        · first | have f18 := (eqE (rfl : x1.toInt = x1.toInt) (show (3 : Int32).toInt = 3 from by decide)).mp c16 | skip
          exact hQ _ trivial
        · first | have f20 := (noteqE (rfl : x1.toInt = x1.toInt) (show (3 : Int32).toInt = 3 from by decide)).mp c16 | skip
          refine ⟨fun c21 => ?_, fun c21 => ?_⟩
          · first | have f23 := (eqE (rfl : x1.toInt = x1.toInt) (show (4 : Int32).toInt = 4 from by decide)).mp c21 | skip
            exact hQ _ trivial
          · first | have f25 := (noteqE (rfl : x1.toInt = x1.toInt) (show (4 : Int32).toInt = 4 from by decide)).mp c21 | skip
            refine ⟨fun c26 => ?_, fun c26 => ?_⟩
            · first | have f28 := (eqE (rfl : x1.toInt = x1.toInt) (show (5 : Int32).toInt = 5 from by decide)).mp c26 | skip
              exact hQ _ trivial
            · first | have f30 := (noteqE (rfl : x1.toInt = x1.toInt) (show (5 : Int32).toInt = 5 from by decide)).mp c26 | skip
              refine ⟨fun c31 => ?_, fun c31 => ?_⟩
              · first | have f33 := (eqE (rfl : x1.toInt = x1.toInt) (show (6 : Int32).toInt = 6 from by decide)).mp c31 | skip
                exact hQ _ trivial
              · first | have f35 := (noteqE (rfl : x1.toInt = x1.toInt) (show (6 : Int32).toInt = 6 from by decide)).mp c31 | skip
                refine ⟨fun c36 => ?_, fun c36 => ?_⟩
                · first | have f38 := (eqE (rfl : x1.toInt = x1.toInt) (show (7 : Int32).toInt = 7 from by decide)).mp c36 | skip
                  exact hQ _ trivial
                · first | have f40 := (noteqE (rfl : x1.toInt = x1.toInt) (show (7 : Int32).toInt = 7 from by decide)).mp c36 | skip
                  refine ⟨fun c41 => ?_, fun c41 => ?_⟩
                  · first | have f43 := (eqE (rfl : x1.toInt = x1.toInt) (show (8 : Int32).toInt = 8 from by decide)).mp c41 | skip
                    exact hQ _ trivial
                  · first | have f45 := (noteqE (rfl : x1.toInt = x1.toInt) (show (8 : Int32).toInt = 8 from by decide)).mp c41 | skip
                    refine ⟨fun c46 => ?_, fun c46 => ?_⟩
                    · first | have f48 := (eqE (rfl : x1.toInt = x1.toInt) (show (9 : Int32).toInt = 9 from by decide)).mp c46 | skip
                      exact hQ _ trivial
                    · first | have f50 := (noteqE (rfl : x1.toInt = x1.toInt) (show (9 : Int32).toInt = 9 from by decide)).mp c46 | skip
                      refine ⟨fun c51 => ?_, fun c51 => ?_⟩
                      · first | have f53 := (eqE (rfl : x1.toInt = x1.toInt) (show (10 : Int32).toInt = 10 from by decide)).mp c51 | skip
                        exact hQ _ trivial
                      · first | have f55 := (noteqE (rfl : x1.toInt = x1.toInt) (show (10 : Int32).toInt = 10 from by decide)).mp c51 | skip
                        refine ⟨fun c56 => ?_, fun c56 => ?_⟩
                        · first | have f58 := (eqE (rfl : x1.toInt = x1.toInt) (show (11 : Int32).toInt = 11 from by decide)).mp c56 | skip
                          exact hQ _ trivial
                        · first | have f60 := (noteqE (rfl : x1.toInt = x1.toInt) (show (11 : Int32).toInt = 11 from by decide)).mp c56 | skip
                          refine ⟨fun c61 => ?_, fun c61 => ?_⟩
                          · first | have f63 := (eqE (rfl : x1.toInt = x1.toInt) (show (12 : Int32).toInt = 12 from by decide)).mp c61 | skip
                            exact hQ _ trivial
                          · first | have f65 := (noteqE (rfl : x1.toInt = x1.toInt) (show (12 : Int32).toInt = 12 from by decide)).mp c61 | skip
                            refine ⟨fun c66 => ?_, fun c66 => ?_⟩
                            · first | have f68 := (eqE (rfl : x1.toInt = x1.toInt) (show (13 : Int32).toInt = 13 from by decide)).mp c66 | skip
                              exact hQ _ trivial
                            · first | have f70 := (noteqE (rfl : x1.toInt = x1.toInt) (show (13 : Int32).toInt = 13 from by decide)).mp c66 | skip
                              refine ⟨fun c71 => ?_, fun c71 => ?_⟩
                              · first | have f73 := (eqE (rfl : x1.toInt = x1.toInt) (show (14 : Int32).toInt = 14 from by decide)).mp c71 | skip
                                exact hQ _ trivial
                              · first | have f75 := (noteqE (rfl : x1.toInt = x1.toInt) (show (14 : Int32).toInt = 14 from by decide)).mp c71 | skip
                                refine ⟨fun c76 => ?_, fun c76 => ?_⟩
                                · first | have f78 := (eqE (rfl : x1.toInt = x1.toInt) (show (15 : Int32).toInt = 15 from by decide)).mp c76 | skip
                                  exact hQ _ trivial
                                · first | have f80 := (noteqE (rfl : x1.toInt = x1.toInt) (show (15 : Int32).toInt = 15 from by decide)).mp c76 | skip
                                  refine ⟨fun c81 => ?_, fun c81 => ?_⟩
                                  · first | have f83 := (eqE (rfl : x1.toInt = x1.toInt) (show (16 : Int32).toInt = 16 from by decide)).mp c81 | skip
                                    exact hQ _ trivial
                                  · first | have f85 := (noteqE (rfl : x1.toInt = x1.toInt) (show (16 : Int32).toInt = 16 from by decide)).mp c81 | skip
                                    refine ⟨fun c86 => ?_, fun c86 => ?_⟩
                                    · first | have f88 := (eqE (rfl : x1.toInt = x1.toInt) (show (17 : Int32).toInt = 17 from by decide)).mp c86 | skip
                                      exact hQ _ trivial
                                    · first | have f90 := (noteqE (rfl : x1.toInt = x1.toInt) (show (17 : Int32).toInt = 17 from by decide)).mp c86 | skip
                                      exact hQ _ trivial
set_option maxHeartbeats 4000000 in
theorem sX12_sign {N : Nat} (hN : 4294967400 ≤ N) {x1 : Int32} {Q : Int32 → St → Prop} {σ0 σ : St} (hσ : K2 σ0 σ) (hQ : ∀ (r : Int32) (τ : St), K2 σ0 τ → (τ.1 0 14 = σ.1 0 14 ∧ τ.1 0 9 = σ.1 0 9 ∧ τ.1 0 35 = σ.1 0 35 ∧ τ.1 0 24 = σ.1 0 24 ∧ τ.1 0 36 = σ.1 0 36 ∧ τ.1 0 41 = σ.1 0 41 ∧ τ.1 0 50 = σ.1 0 50 ∧ τ.1 0 51 = σ.1 0 51) → True → Q r τ) : fX12_sign N x1 Q σ := by
  unfold fX12_sign
  refine ⟨fun c1 => ?_, fun c1 => ?_⟩
  · have f2 := K2.g_0_5 hσ
    first | have f3 := (eqE (rfl : (σ.1 0 5).toInt = (σ.1 0 5).toInt) (show (120 : Int32).toInt = 120 from by decide)).mp c1 | skip
    exact hQ _ _ hσ (⟨rfl, rfl, rfl, rfl, rfl, rfl, rfl, rfl⟩) trivial
  · have f4 := K2.g_0_5 hσ
    first | have f5 := (noteqE (rfl : (σ.1 0 5).toInt = (σ.1 0 5).toInt) (show (120 : Int32).toInt = 120 from by decide)).mp c1 | skip
    refine ⟨inE (rfl : (σ.1 0 5).toInt = (σ.1 0 5).toInt) (by omega) (by omega), ?_⟩
    intro σ7 eσ7
    have hσ7 : K2 σ0 σ7 := by rw [eσ7]; exact hσ.u (Rg2.ra_3 _ _) (fun q => absurd q.1 (by decide)) (fun q => absurd q.1 (by decide))
    intro v8 ev8
    intro σ9 eσ9
    have f10 := tB v8
    have f11 := K2.g_0_5 hσ7
    have q12 : σ7.1 0 5 = σ.1 0 5 := by rw [eσ7]; exact congrFun (u1_ne (by decide)) 5
    have f13 := congrArg Int32.toInt q12
    first | have f15 : v8.toInt = ((σ7.1 0 5).toInt + (1)) := (congrArg Int32.toInt ev8).trans (aOkE (rfl : (σ7.1 0 5).toInt = (σ7.1 0 5).toInt) (show (1 : Int32).toInt = 1 from by decide) (by omega) (by omega)) | skip
    have hσ9 : K2 σ0 σ9 := by rw [eσ9]; exact hσ7.u (Rg2.r_0_5 (leP (rfl : v8.toInt = v8.toInt) (by omega)) (geP (rfl : v8.toInt = v8.toInt) (by omega))) (fun q => absurd q.2 (by decide)) (fun q => absurd q.2 (by decide))
    exact hQ _ _ hσ9 (⟨(kq (a := 0) (b := 14) eσ9 (fun q => absurd q.2 (by decide))).trans ((kq (a := 0) (b := 14) eσ7 (fun q => absurd q.1 (by decide)))), (kq (a := 0) (b := 9) eσ9 (fun q => absurd q.2 (by decide))).trans ((kq (a := 0) (b := 9) eσ7 (fun q => absurd q.1 (by decide)))), (kq (a := 0) (b := 35) eσ9 (fun q => absurd q.2 (by decide))).trans ((kq (a := 0) (b := 35) eσ7 (fun q => absurd q.1 (by decide)))), (kq (a := 0) (b := 24) eσ9 (fun q => absurd q.2 (by decide))).trans ((kq (a := 0) (b := 24) eσ7 (fun q => absurd q.1 (by decide)))), (kq (a := 0) (b := 36) eσ9 (fun q => absurd q.2 (by decide))).trans ((kq (a := 0) (b := 36) eσ7 (fun q => absurd q.1 (by decide)))), (kq (a := 0) (b := 41) eσ9 (fun q => absurd q.2 (by decide))).trans ((kq (a := 0) (b := 41) eσ7 (fun q => absurd q.1 (by decide)))), (kq (a := 0) (b := 50) eσ9 (fun q => absurd q.2 (by decide))).trans ((kq (a := 0) (b := 50) eσ7 (fun q => absurd q.1 (by decide)))), (kq (a := 0) (b := 51) eσ9 (fun q => absurd q.2 (by decide))).trans ((kq (a := 0) (b := 51) eσ7 (fun q => absurd q.1 (by decide))))⟩) trivial
set_option maxHeartbeats 4000000 in
theorem sX12_signOf {N : Nat} (hN : 4294967400 ≤ N) {x1 : Int32} {x2 : Int32} {Q : Int32 → St → Prop} {σ0 σ : St} (hp1 : 0 ≤ x1.toInt ∧ x1.toInt ≤ 59) (hp2 : 0 ≤ x2.toInt ∧ x2.toInt ≤ 19) (hσ : K2 σ0 σ) (hQ : ∀ r : Int32, True → Q r σ) : fX12_signOf N x1 x2 Q σ := by
  unfold fX12_signOf
  have f1 := tB x1
  have g2 : vp_in x1 60 := inE (rfl : x1.toInt = x1.toInt) (by omega) (by omega)
  refine ⟨g2, ?_⟩
  refine ⟨fun c3 => ?_, fun c3 => ?_⟩
  · have f4 := tB (σ.1 16 x1.toNatClampNeg)
    first | have f5 := (ltE (rfl : (σ.1 16 x1.toNatClampNeg).toInt = (σ.1 16 x1.toNatClampNeg).toInt) (show (8 : Int32).toInt = 8 from by decide)).mp c3 | skip
    have f7 := tB x2
    have g8 : vp_in ((20 * x1) + x2) 1200 := inE (aOkE (mOkE (show (20 : Int32).toInt = 20 from by decide) (rfl : x1.toInt = x1.toInt) (by omega) (by omega)) (rfl : x2.toInt = x2.toInt) (by omega) (by omega)) (by omega) (by omega)
    refine ⟨g8, ?_⟩
    exact hQ _ trivial
  · have f9 := tB (σ.1 16 x1.toNatClampNeg)
    first | have f10 := (notltE (rfl : (σ.1 16 x1.toNatClampNeg).toInt = (σ.1 16 x1.toNatClampNeg).toInt) (show (8 : Int32).toInt = 8 from by decide)).mp c3 | skip
    exact hQ _ trivial
set_option maxHeartbeats 4000000 in
theorem sX12_sizeOf {N : Nat} (hN : 4294967400 ≤ N) {x1 : Int32} {Q : Int32 → St → Prop} {σ0 σ : St} (hp1 : 0 ≤ x1.toInt ∧ x1.toInt ≤ 59) (hσ : K2 σ0 σ) (hQ : ∀ r : Int32, True → Q r σ) : fX12_sizeOf N x1 Q σ := by
  unfold fX12_sizeOf
  have f1 := tB x1
  have g2 : vp_in x1 60 := inE (rfl : x1.toInt = x1.toInt) (by omega) (by omega)
  refine ⟨g2, ?_⟩
  intro v3 ev3
  have g5 : vp_in x1 60 := inE (rfl : x1.toInt = x1.toInt) (by omega) (by omega)
  refine ⟨g5, ?_⟩
  intro v6 ev6
  refine ⟨fun c7 => ?_, fun c7 => ?_⟩
  · have f8 := tB v6
    have f9 := tB (σ.1 16 x1.toNatClampNeg)
    first | have f10 : v6.toInt = (σ.1 16 x1.toNatClampNeg).toInt := (congrArg Int32.toInt ev6).trans (rfl : (σ.1 16 x1.toNatClampNeg).toInt = (σ.1 16 x1.toNatClampNeg).toInt) | skip
    first | have f11 := (eqE (rfl : v6.toInt = v6.toInt) (show (2 : Int32).toInt = 2 from by decide)).mp c7 | skip
    exact hQ _ trivial
  · have f12 := tB v6
    have f13 := tB (σ.1 16 x1.toNatClampNeg)
    first | have f14 : v6.toInt = (σ.1 16 x1.toNatClampNeg).toInt := (congrArg Int32.toInt ev6).trans (rfl : (σ.1 16 x1.toNatClampNeg).toInt = (σ.1 16 x1.toNatClampNeg).toInt) | skip
    first | have f15 := (noteqE (rfl : v6.toInt = v6.toInt) (show (2 : Int32).toInt = 2 from by decide)).mp c7 | skip
    refine ⟨fun c16 => ?_, fun c16 => ?_⟩
    · first | have f18 := (eqE (rfl : v6.toInt = v6.toInt) (show (3 : Int32).toInt = 3 from by decide)).mp c16 | skip
      exact hQ _ trivial
    · first | have f20 := (noteqE (rfl : v6.toInt = v6.toInt) (show (3 : Int32).toInt = 3 from by decide)).mp c16 | skip
      refine ⟨fun c21 => ?_, fun c21 => ?_⟩
      · first | have f23 := (eqE (rfl : v6.toInt = v6.toInt) (show (5 : Int32).toInt = 5 from by decide)).mp c21 | skip
        exact hQ _ trivial
      · first | have f25 := (noteqE (rfl : v6.toInt = v6.toInt) (show (5 : Int32).toInt = 5 from by decide)).mp c21 | skip
        exact hQ _ trivial
set_option maxHeartbeats 4000000 in
theorem sX12_tellFour {N : Nat} (hN : 4294967400 ≤ N) {x1 : Int32} {x2 : Int32} {Q : St → Prop} {σ0 σ : St} (hp1 : 0 ≤ x1.toInt ∧ x1.toInt ≤ 4092) (hσ : K2 σ0 σ) (hQ : ∀ τ : St, K2 σ0 τ → (τ.1 0 14 = σ.1 0 14 ∧ τ.1 0 9 = σ.1 0 9 ∧ τ.1 0 35 = σ.1 0 35 ∧ τ.1 0 24 = σ.1 0 24 ∧ τ.1 0 36 = σ.1 0 36 ∧ τ.1 0 41 = σ.1 0 41 ∧ τ.1 0 50 = σ.1 0 50 ∧ τ.1 0 51 = σ.1 0 51) → Q τ) : fX12_tellFour N x1 x2 Q σ := by
  unfold fX12_tellFour
  have f2 := tB x1
  have f3 := tB x2
  refine lo1_i (fun (y1 : Int32) (τ : St) => K2 σ0 τ ∧ τ.1 0 14 = σ.1 0 14 ∧ τ.1 0 9 = σ.1 0 9 ∧ τ.1 0 35 = σ.1 0 35 ∧ τ.1 0 24 = σ.1 0 24 ∧ τ.1 0 36 = σ.1 0 36 ∧ τ.1 0 41 = σ.1 0 41 ∧ τ.1 0 50 = σ.1 0 50 ∧ τ.1 0 51 = σ.1 0 51 ∧ 0 ≤ y1.toInt) (fun (y1 : Int32) (τ : St) => (2147483648 - y1.toInt).toNat) ?_ N (0 : Int32) σ ⟨hσ, rfl, rfl, rfl, rfl, rfl, rfl, rfl, rfl, by first | decide | (have z0 : (0 : Int32).toInt = 0 := (by decide); omega)⟩ (by have z0 : (0 : Int32).toInt = 0 := (by decide); (try dsimp only); omega)
  intro rr4 y7 σ6 hIσ6 ih5
  obtain ⟨hσ6, k8, k9, k10, k11, k12, k13, k14, k15, i16⟩ := hIσ6
  unfold fX12_tellFour_l2
  have f17 := tB y7
  refine ⟨fun c18 => ?_, fun c18 => ?_⟩
  · first | have f20 := (leE (show (4 : Int32).toInt = 4 from by decide) (rfl : y7.toInt = y7.toInt)).mp c18 | skip
    exact hQ _ hσ6 (⟨k8, k9, k10, k11, k12, k13, k14, k15⟩)
  · first | have f22 := (notleE (show (4 : Int32).toInt = 4 from by decide) (rfl : y7.toInt = y7.toInt)).mp c18 | skip
    have f25 := tB (x2 >>> ((24 - (8 * y7)) &&& 31))
    refine sX12_tell hN ⟨leP (aOkE (rfl : x1.toInt = x1.toInt) (rfl : y7.toInt = y7.toInt) (by omega) (by omega)) (by omega), geP (aOkE (rfl : x1.toInt = x1.toInt) (rfl : y7.toInt = y7.toInt) (by omega) (by omega)) (by omega)⟩ hσ6 (fun σ26 hσ26 kk35 => ?_)
    obtain ⟨k27, k28, k29, k30, k31, k32, k33, k34⟩ := kk35
    intro v36 ev36
    have f37 := tB v36
    first | have f39 : v36.toInt = (y7.toInt + (1)) := (congrArg Int32.toInt ev36).trans (aOkE (rfl : y7.toInt = y7.toInt) (show (1 : Int32).toInt = 1 from by decide) (by omega) (by omega)) | skip
    exact ih5 v36 σ26 ⟨hσ26, k27.trans (k8), k28.trans (k9), k29.trans (k10), k30.trans (k11), k31.trans (k12), k32.trans (k13), k33.trans (k14), k34.trans (k15), by omega⟩ (by (try dsimp only); omega)
set_option maxHeartbeats 4000000 in
theorem sX12_bits {N : Nat} (hN : 4294967400 ≤ N) {x1 : Int32} {Q : Int32 → St → Prop} {σ0 σ : St} (hσ : K2 σ0 σ) (hQ : ∀ r : Int32, True → Q r σ) : fX12_bits N x1 Q σ := by
  unfold fX12_bits
  refine ⟨fun c1 => ?_, fun c1 => ?_⟩
  · have f2 := tB x1
    first | have f3 := (eqE (rfl : x1.toInt = x1.toInt) (show ((-1) : Int32).toInt = -1 from by decide)).mp c1 | skip
    exact hQ _ trivial
  · have f4 := tB x1
    first | have f5 := (noteqE (rfl : x1.toInt = x1.toInt) (show ((-1) : Int32).toInt = -1 from by decide)).mp c1 | skip
    try unfold fX12_in
    refine ⟨fun c6 => ?_, fun c6 => ?_⟩
    · first | have f8 := (ltE64 (i2lE (rfl : x1.toInt = x1.toInt)) (show (0 : Int64).toInt = 0 from by decide)).mp c6 | skip
      try dsimp only
      refine ⟨fun c9 => ?_, fun c9 => ?_⟩
      · first | have f10 := (eqE (show (0 : Int32).toInt = 0 from by decide) (show (0 : Int32).toInt = 0 from by decide)).mp c9 | skip
        exact hQ _ trivial
      · first | have f11 := (noteqE (show (0 : Int32).toInt = 0 from by decide) (show (0 : Int32).toInt = 0 from by decide)).mp c9 | skip
        have g13 : vp_in x1 60 := inE (rfl : x1.toInt = x1.toInt) (by omega) (by omega)
        refine ⟨g13, ?_⟩
        exact hQ _ trivial
    · first | have f15 := (notltE64 (i2lE (rfl : x1.toInt = x1.toInt)) (show (0 : Int64).toInt = 0 from by decide)).mp c6 | skip
      refine ⟨fun c16 => ?_, fun c16 => ?_⟩
      · have f17 := K2.g_0_36 hσ
        first | have f19 := (ltE64 (i2lE (sOkE (rfl : (σ.1 0 36).toInt = (σ.1 0 36).toInt) (show (1 : Int32).toInt = 1 from by decide) (by omega) (by omega))) (i2lE (rfl : x1.toInt = x1.toInt))).mp c16 | skip
        try dsimp only
        refine ⟨fun c20 => ?_, fun c20 => ?_⟩
        · first | have f21 := (eqE (show (0 : Int32).toInt = 0 from by decide) (show (0 : Int32).toInt = 0 from by decide)).mp c20 | skip
          exact hQ _ trivial
        · first | have f22 := (noteqE (show (0 : Int32).toInt = 0 from by decide) (show (0 : Int32).toInt = 0 from by decide)).mp c20 | skip
          have g24 : vp_in x1 60 := inE (rfl : x1.toInt = x1.toInt) (by omega) (by omega)
          refine ⟨g24, ?_⟩
          exact hQ _ trivial
      · have f25 := K2.g_0_36 hσ
        first | have f27 := (notltE64 (i2lE (sOkE (rfl : (σ.1 0 36).toInt = (σ.1 0 36).toInt) (show (1 : Int32).toInt = 1 from by decide) (by omega) (by omega))) (i2lE (rfl : x1.toInt = x1.toInt))).mp c16 | skip
        try dsimp only
        refine ⟨fun c28 => ?_, fun c28 => ?_⟩
        · first | have f29 := (eqE (show (1 : Int32).toInt = 1 from by decide) (show (0 : Int32).toInt = 0 from by decide)).mp c28 | skip
          exact hQ _ trivial
        · first | have f30 := (noteqE (show (1 : Int32).toInt = 1 from by decide) (show (0 : Int32).toInt = 0 from by decide)).mp c28 | skip
          have g32 : vp_in x1 60 := inE (rfl : x1.toInt = x1.toInt) (by omega) (by omega)
          refine ⟨g32, ?_⟩
          exact hQ _ trivial
set_option maxHeartbeats 4000000 in
theorem sX12_forget {N : Nat} (hN : 4294967400 ≤ N) {Q : Int32 → St → Prop} {σ0 σ : St} (hσ : K2 σ0 σ) (hQ : ∀ (r : Int32) (τ : St), K2 σ0 τ → (τ.1 0 14 = σ.1 0 14 ∧ τ.1 0 9 = σ.1 0 9 ∧ τ.1 0 35 = σ.1 0 35 ∧ τ.1 0 24 = σ.1 0 24 ∧ τ.1 0 50 = σ.1 0 50 ∧ τ.1 0 51 = σ.1 0 51) → True → Q r τ) : fX12_forget N  Q σ := by
  unfold fX12_forget
  intro v1 ev1
  intro σ2 eσ2
  have hσ2 : K2 σ0 σ2 := by rw [eσ2]; exact hσ.u (Rg2.r_0_36 (leP (show (0 : Int32).toInt = 0 from by decide) (by omega)) (geP (show (0 : Int32).toInt = 0 from by decide) (by omega))) (fun q => absurd q.2 (by decide)) (fun q => absurd q.2 (by decide))
  intro σ3 eσ3
  have hσ3 : K2 σ0 σ3 := by rw [eσ3]; exact hσ2.u (Rg2.r_0_41 (leP (show (0 : Int32).toInt = 0 from by decide) (by omega)) (geP (show (0 : Int32).toInt = 0 from by decide) (by omega))) (fun q => absurd q.2 (by decide)) (fun q => absurd q.2 (by decide))
  exact hQ _ _ hσ3 (⟨(kq (a := 0) (b := 14) eσ3 (fun q => absurd q.2 (by decide))).trans ((kq (a := 0) (b := 14) eσ2 (fun q => absurd q.2 (by decide)))), (kq (a := 0) (b := 9) eσ3 (fun q => absurd q.2 (by decide))).trans ((kq (a := 0) (b := 9) eσ2 (fun q => absurd q.2 (by decide)))), (kq (a := 0) (b := 35) eσ3 (fun q => absurd q.2 (by decide))).trans ((kq (a := 0) (b := 35) eσ2 (fun q => absurd q.2 (by decide)))), (kq (a := 0) (b := 24) eσ3 (fun q => absurd q.2 (by decide))).trans ((kq (a := 0) (b := 24) eσ2 (fun q => absurd q.2 (by decide)))), (kq (a := 0) (b := 50) eσ3 (fun q => absurd q.2 (by decide))).trans ((kq (a := 0) (b := 50) eσ2 (fun q => absurd q.2 (by decide)))), (kq (a := 0) (b := 51) eσ3 (fun q => absurd q.2 (by decide))).trans ((kq (a := 0) (b := 51) eσ2 (fun q => absurd q.2 (by decide))))⟩) trivial
