set_option maxHeartbeats 4000000 in
theorem sX12_in {N : Nat} (hN : 4294967400 ≤ N) {x0 : Int64} {x2 : Int64} {x4 : Int64} {Q : Int32 → St → Prop} {σ0 σ : St} (hσ : K2 σ0 σ) (hQ : ∀ r : Int32, True → Q r σ) : fX12_in N x0 x2 x4 Q σ := by
  unfold fX12_in
  refine ⟨fun c1 => ?_, fun c1 => ?_⟩
  · have f2 := tB64 x0
    have f3 := tB64 x2
    first | have f4 := (ltE64 (rfl : x0.toInt = x0.toInt) (rfl : x2.toInt = x2.toInt)).mp c1 | skip
    exact hQ _ trivial
  · have f5 := tB64 x0
    have f6 := tB64 x2
    first | have f7 := (notltE64 (rfl : x0.toInt = x0.toInt) (rfl : x2.toInt = x2.toInt)).mp c1 | skip
    refine ⟨fun c8 => ?_, fun c8 => ?_⟩
    · have f9 := tB64 x4
      first | have f11 := (ltE64 (rfl : x4.toInt = x4.toInt) (rfl : x0.toInt = x0.toInt)).mp c8 | skip
      exact hQ _ trivial
    · have f12 := tB64 x4
      first | have f14 := (notltE64 (rfl : x4.toInt = x4.toInt) (rfl : x0.toInt = x0.toInt)).mp c8 | skip
      exact hQ _ trivial
set_option maxHeartbeats 4000000 in
theorem sX12_tell {N : Nat} (hN : 4294967400 ≤ N) {x1 : Int32} {x2 : Int32} {Q : St → Prop} {σ0 σ : St} (hp1 : 0 ≤ x1.toInt ∧ x1.toInt ≤ 4095) (hσ : K2 σ0 σ) (hQ : ∀ τ : St, K2 σ0 τ → (τ.1 0 14 = σ.1 0 14 ∧ τ.1 0 9 = σ.1 0 9 ∧ τ.1 0 35 = σ.1 0 35 ∧ τ.1 0 24 = σ.1 0 24 ∧ τ.1 0 36 = σ.1 0 36 ∧ τ.1 0 41 = σ.1 0 41 ∧ τ.1 0 50 = σ.1 0 50 ∧ τ.1 0 51 = σ.1 0 51) → Q τ) : fX12_tell N x1 x2 Q σ := by
  unfold fX12_tell
  intro v1 ev1
  have f2 := tB x1
  refine ⟨inE (rfl : x1.toInt = x1.toInt) (by omega) (by omega), ?_⟩
  intro σ3 eσ3
  have f4 := tB v1
  have f5 := and255 x2
  first | have f6 : v1.toInt = (x2 &&& 255).toInt := (congrArg Int32.toInt ev1).trans (rfl : (x2 &&& 255).toInt = (x2 &&& 255).toInt) | skip
  have hσ3 : K2 σ0 σ3 := by rw [eσ3]; exact hσ.u (Rg2.ra_1 (leP (rfl : v1.toInt = v1.toInt) (by omega)) (geP (rfl : v1.toInt = v1.toInt) (by omega))) (fun q => absurd q.1 (by decide)) (fun q => absurd q.1 (by decide)) ⟨⟨by decide, by decide⟩, fun q => absurd q.1 (by decide)⟩
  refine ⟨fun c7 => ?_, fun c7 => ?_⟩
  · have f8 := tB (σ3.1 0 7)
    have q9 : σ3.1 0 7 = σ.1 0 7 := by rw [eσ3]; exact congrFun (u1_ne (by decide)) 7
    have f10 := congrArg Int32.toInt q9
    have f11 := tB (σ.1 0 7)
    first | have f12 := (leE (rfl : (σ3.1 0 7).toInt = (σ3.1 0 7).toInt) (show (0 : Int32).toInt = 0 from by decide)).mp c7 | skip
    exact hQ _ hσ3 (⟨(kq (a := 0) (b := 14) eσ3 (fun q => absurd q.1 (by decide))), (kq (a := 0) (b := 9) eσ3 (fun q => absurd q.1 (by decide))), (kq (a := 0) (b := 35) eσ3 (fun q => absurd q.1 (by decide))), (kq (a := 0) (b := 24) eσ3 (fun q => absurd q.1 (by decide))), (kq (a := 0) (b := 36) eσ3 (fun q => absurd q.1 (by decide))), (kq (a := 0) (b := 41) eσ3 (fun q => absurd q.1 (by decide))), (kq (a := 0) (b := 50) eσ3 (fun q => absurd q.1 (by decide))), (kq (a := 0) (b := 51) eσ3 (fun q => absurd q.1 (by decide)))⟩)
  · have f13 := tB (σ3.1 0 7)
    have q14 : σ3.1 0 7 = σ.1 0 7 := by rw [eσ3]; exact congrFun (u1_ne (by decide)) 7
    have f15 := congrArg Int32.toInt q14
    have f16 := tB (σ.1 0 7)
    first | have f17 := (notleE (rfl : (σ3.1 0 7).toInt = (σ3.1 0 7).toInt) (show (0 : Int32).toInt = 0 from by decide)).mp c7 | skip
    refine ⟨fun c18 => ?_, fun c18 => ?_⟩
    · have f20 := tB (σ3.1 0 6)
      have q21 : σ3.1 0 6 = σ.1 0 6 := by rw [eσ3]; exact congrFun (u1_ne (by decide)) 6
      have f22 := congrArg Int32.toInt q21
      have f23 := tB (σ.1 0 6)
      first | have f24 := (ltE (rfl : x1.toInt = x1.toInt) (rfl : (σ3.1 0 6).toInt = (σ3.1 0 6).toInt)).mp c18 | skip
      exact hQ _ hσ3 (⟨(kq (a := 0) (b := 14) eσ3 (fun q => absurd q.1 (by decide))), (kq (a := 0) (b := 9) eσ3 (fun q => absurd q.1 (by decide))), (kq (a := 0) (b := 35) eσ3 (fun q => absurd q.1 (by decide))), (kq (a := 0) (b := 24) eσ3 (fun q => absurd q.1 (by decide))), (kq (a := 0) (b := 36) eσ3 (fun q => absurd q.1 (by decide))), (kq (a := 0) (b := 41) eσ3 (fun q => absurd q.1 (by decide))), (kq (a := 0) (b := 50) eσ3 (fun q => absurd q.1 (by decide))), (kq (a := 0) (b := 51) eσ3 (fun q => absurd q.1 (by decide)))⟩)
    · have f26 := tB (σ3.1 0 6)
      have q27 : σ3.1 0 6 = σ.1 0 6 := by rw [eσ3]; exact congrFun (u1_ne (by decide)) 6
      have f28 := congrArg Int32.toInt q27
      have f29 := tB (σ.1 0 6)
      first | have f30 := (notltE (rfl : x1.toInt = x1.toInt) (rfl : (σ3.1 0 6).toInt = (σ3.1 0 6).toInt)).mp c18 | skip
      refine ⟨fun c31 => ?_, fun c31 => ?_⟩
      · have f33 := tB64 (σ3.2 0 8)
        first | have f35 := (leE64 (aOkE64 (i2lE (rfl : (σ3.1 0 6).toInt = (σ3.1 0 6).toInt)) (rfl : (σ3.2 0 8).toInt = (σ3.2 0 8).toInt) (by omega) (by omega)) (i2lE (rfl : x1.toInt = x1.toInt))).mp c31 | skip
        exact hQ _ hσ3 (⟨(kq (a := 0) (b := 14) eσ3 (fun q => absurd q.1 (by decide))), (kq (a := 0) (b := 9) eσ3 (fun q => absurd q.1 (by decide))), (kq (a := 0) (b := 35) eσ3 (fun q => absurd q.1 (by decide))), (kq (a := 0) (b := 24) eσ3 (fun q => absurd q.1 (by decide))), (kq (a := 0) (b := 36) eσ3 (fun q => absurd q.1 (by decide))), (kq (a := 0) (b := 41) eσ3 (fun q => absurd q.1 (by decide))), (kq (a := 0) (b := 50) eσ3 (fun q => absurd q.1 (by decide))), (kq (a := 0) (b := 51) eσ3 (fun q => absurd q.1 (by decide)))⟩)
      · have f37 := tB64 (σ3.2 0 8)
        first | have f39 := (notleE64 (aOkE64 (i2lE (rfl : (σ3.1 0 6).toInt = (σ3.1 0 6).toInt)) (rfl : (σ3.2 0 8).toInt = (σ3.2 0 8).toInt) (by omega) (by omega)) (i2lE (rfl : x1.toInt = x1.toInt))).mp c31 | skip
        intro σ40 eσ40
        have hσ40 : K2 σ0 σ40 := by rw [eσ40]; exact hσ3.u (Rg2.u_0_7 _) (fun q => absurd q.2 (by decide)) (fun q => absurd q.2 (by decide)) ⟨⟨by decide, by decide⟩, fun q => absurd q.2 (by decide)⟩
        exact hQ _ hσ40 (⟨(kq (a := 0) (b := 14) eσ40 (fun q => absurd q.2 (by decide))).trans ((kq (a := 0) (b := 14) eσ3 (fun q => absurd q.1 (by decide)))), (kq (a := 0) (b := 9) eσ40 (fun q => absurd q.2 (by decide))).trans ((kq (a := 0) (b := 9) eσ3 (fun q => absurd q.1 (by decide)))), (kq (a := 0) (b := 35) eσ40 (fun q => absurd q.2 (by decide))).trans ((kq (a := 0) (b := 35) eσ3 (fun q => absurd q.1 (by decide)))), (kq (a := 0) (b := 24) eσ40 (fun q => absurd q.2 (by decide))).trans ((kq (a := 0) (b := 24) eσ3 (fun q => absurd q.1 (by decide)))), (kq (a := 0) (b := 36) eσ40 (fun q => absurd q.2 (by decide))).trans ((kq (a := 0) (b := 36) eσ3 (fun q => absurd q.1 (by decide)))), (kq (a := 0) (b := 41) eσ40 (fun q => absurd q.2 (by decide))).trans ((kq (a := 0) (b := 41) eσ3 (fun q => absurd q.1 (by decide)))), (kq (a := 0) (b := 50) eσ40 (fun q => absurd q.2 (by decide))).trans ((kq (a := 0) (b := 50) eσ3 (fun q => absurd q.1 (by decide)))), (kq (a := 0) (b := 51) eσ40 (fun q => absurd q.2 (by decide))).trans ((kq (a := 0) (b := 51) eσ3 (fun q => absurd q.1 (by decide))))⟩)
set_option maxHeartbeats 4000000 in
theorem sX12_byteAt {N : Nat} (hN : 4294967400 ≤ N) {x1 : Int32} {Q : Int32 → St → Prop} {σ0 σ : St} (hσ : K2 σ0 σ) (hQ : ∀ r : Int32, True → Q r σ) : fX12_byteAt N x1 Q σ := by
  unfold fX12_byteAt
  try unfold fX12_in
  refine ⟨fun c1 => ?_, fun c1 => ?_⟩
  · have f2 := tB x1
    first | have f3 := (ltE64 (i2lE (rfl : x1.toInt = x1.toInt)) (show (0 : Int64).toInt = 0 from by decide)).mp c1 | skip
    try dsimp only
    refine ⟨fun c4 => ?_, fun c4 => ?_⟩
    · first | have f5 := (eqE (show (0 : Int32).toInt = 0 from by decide) (show (0 : Int32).toInt = 0 from by decide)).mp c4 | skip
      exact hQ _ trivial
    · first | have f6 := (noteqE (show (0 : Int32).toInt = 0 from by decide) (show (0 : Int32).toInt = 0 from by decide)).mp c4 | skip
      have g8 : vp_in x1 4096 := inE (rfl : x1.toInt = x1.toInt) (by omega) (by omega)
      refine ⟨g8, ?_⟩
      exact hQ _ trivial
  · have f9 := tB x1
    first | have f10 := (notltE64 (i2lE (rfl : x1.toInt = x1.toInt)) (show (0 : Int64).toInt = 0 from by decide)).mp c1 | skip
    refine ⟨fun c11 => ?_, fun c11 => ?_⟩
    · first | have f13 := (ltE64 (show (4095 : Int64).toInt = 4095 from by decide) (i2lE (rfl : x1.toInt = x1.toInt))).mp c11 | skip
      try dsimp only
      refine ⟨fun c14 => ?_, fun c14 => ?_⟩
      · first | have f15 := (eqE (show (0 : Int32).toInt = 0 from by decide) (show (0 : Int32).toInt = 0 from by decide)).mp c14 | skip
        exact hQ _ trivial
      · first | have f16 := (noteqE (show (0 : Int32).toInt = 0 from by decide) (show (0 : Int32).toInt = 0 from by decide)).mp c14 | skip
        have g18 : vp_in x1 4096 := inE (rfl : x1.toInt = x1.toInt) (by omega) (by omega)
        refine ⟨g18, ?_⟩
        exact hQ _ trivial
    · first | have f20 := (notltE64 (show (4095 : Int64).toInt = 4095 from by decide) (i2lE (rfl : x1.toInt = x1.toInt))).mp c11 | skip
      try dsimp only
      refine ⟨fun c21 => ?_, fun c21 => ?_⟩
      · first | have f22 := (eqE (show (1 : Int32).toInt = 1 from by decide) (show (0 : Int32).toInt = 0 from by decide)).mp c21 | skip
        exact hQ _ trivial
      · first | have f23 := (noteqE (show (1 : Int32).toInt = 1 from by decide) (show (0 : Int32).toInt = 0 from by decide)).mp c21 | skip
        have g25 : vp_in x1 4096 := inE (rfl : x1.toInt = x1.toInt) (by omega) (by omega)
        refine ⟨g25, ?_⟩
        exact hQ _ trivial
set_option maxHeartbeats 4000000 in
theorem sX12_fails {N : Nat} (hN : 4294967400 ≤ N) {x1 : Int32} {Q : St → Prop} {σ0 σ : St} (hp1 : 1 ≤ x1.toInt ∧ x1.toInt ≤ 9) (hσ : K2 σ0 σ) (hQ : ∀ τ : St, K2 σ0 τ → (τ.1 0 14 = σ.1 0 14 ∧ τ.1 0 35 = σ.1 0 35 ∧ τ.1 0 24 = σ.1 0 24 ∧ τ.1 0 36 = σ.1 0 36 ∧ τ.1 0 41 = σ.1 0 41 ∧ τ.1 0 50 = σ.1 0 50 ∧ τ.1 0 51 = σ.1 0 51) → Q τ) : fX12_fails N x1 Q σ := by
  unfold fX12_fails
  refine ⟨fun c1 => ?_, fun c1 => ?_⟩
  · have f2 := K2.g_0_9 hσ
    first | have f3 := (eqE (rfl : (σ.1 0 9).toInt = (σ.1 0 9).toInt) (show (0 : Int32).toInt = 0 from by decide)).mp c1 | skip
    try unfold fX12_fails_j16
    intro σ4 eσ4
    have f5 := tB x1
    have hσ4 : K2 σ0 σ4 := by rw [eσ4]; exact hσ.u (Rg2.r_0_9 (leP (rfl : x1.toInt = x1.toInt) (by omega)) (geP (rfl : x1.toInt = x1.toInt) (by omega))) (fun q => absurd q.2 (by decide)) (fun q => absurd q.2 (by decide)) ⟨⟨by decide, by decide⟩, fun q => absurd q.2 (by decide)⟩
    exact hQ _ hσ4 (⟨(kq (a := 0) (b := 14) eσ4 (fun q => absurd q.2 (by decide))), (kq (a := 0) (b := 35) eσ4 (fun q => absurd q.2 (by decide))), (kq (a := 0) (b := 24) eσ4 (fun q => absurd q.2 (by decide))), (kq (a := 0) (b := 36) eσ4 (fun q => absurd q.2 (by decide))), (kq (a := 0) (b := 41) eσ4 (fun q => absurd q.2 (by decide))), (kq (a := 0) (b := 50) eσ4 (fun q => absurd q.2 (by decide))), (kq (a := 0) (b := 51) eσ4 (fun q => absurd q.2 (by decide)))⟩)
  · have f6 := K2.g_0_9 hσ
    first | have f7 := (noteqE (rfl : (σ.1 0 9).toInt = (σ.1 0 9).toInt) (show (0 : Int32).toInt = 0 from by decide)).mp c1 | skip
    try unfold fX12_fails_j16
    intro σ8 eσ8
    have hσ8 : K2 σ0 σ8 := by rw [eσ8]; exact hσ.u (Rg2.r_0_9 (leP (rfl : (σ.1 0 9).toInt = (σ.1 0 9).toInt) (by omega)) (geP (rfl : (σ.1 0 9).toInt = (σ.1 0 9).toInt) (by omega))) (fun q => absurd q.2 (by decide)) (fun q => absurd q.2 (by decide)) ⟨⟨by decide, by decide⟩, fun q => absurd q.2 (by decide)⟩
    exact hQ _ hσ8 (⟨(kq (a := 0) (b := 14) eσ8 (fun q => absurd q.2 (by decide))), (kq (a := 0) (b := 35) eσ8 (fun q => absurd q.2 (by decide))), (kq (a := 0) (b := 24) eσ8 (fun q => absurd q.2 (by decide))), (kq (a := 0) (b := 36) eσ8 (fun q => absurd q.2 (by decide))), (kq (a := 0) (b := 41) eσ8 (fun q => absurd q.2 (by decide))), (kq (a := 0) (b := 50) eσ8 (fun q => absurd q.2 (by decide))), (kq (a := 0) (b := 51) eσ8 (fun q => absurd q.2 (by decide)))⟩)
set_option maxHeartbeats 4000000 in
theorem sX12_read {N : Nat} (hN : 4294967400 ≤ N) {x1 : Int64} {Q : Int32 → St → Prop} {σ0 σ : St} (hσ : K2 σ0 σ) (hQ : ∀ (r : Int32) (τ : St), K2 σ0 τ → (τ.1 0 14 = σ.1 0 14 ∧ τ.1 0 35 = σ.1 0 35 ∧ τ.1 0 24 = σ.1 0 24 ∧ τ.1 0 36 = σ.1 0 36 ∧ τ.1 0 41 = σ.1 0 41 ∧ τ.1 0 50 = σ.1 0 50 ∧ τ.1 0 51 = σ.1 0 51) → (0) ≤ r.toInt ∧ r.toInt ≤ 255 → Q r τ) : fX12_read N x1 Q σ := by
  unfold fX12_read
  try unfold fX12_in
  refine ⟨fun c1 => ?_, fun c1 => ?_⟩
  · have f2 := tB64 x1
    first | have f3 := (ltE64 (rfl : x1.toInt = x1.toInt) (show (0 : Int64).toInt = 0 from by decide)).mp c1 | skip
    try dsimp only
    refine ⟨fun c4 => ?_, fun c4 => ?_⟩
    · first | have f5 := (eqE (show (0 : Int32).toInt = 0 from by decide) (show (0 : Int32).toInt = 0 from by decide)).mp c4 | skip
      try unfold fX12_fails
      refine ⟨fun c6 => ?_, fun c6 => ?_⟩
      · have f7 := K2.g_0_9 hσ
        first | have f8 := (eqE (rfl : (σ.1 0 9).toInt = (σ.1 0 9).toInt) (show (0 : Int32).toInt = 0 from by decide)).mp c6 | skip
        try unfold fX12_fails_j16
        intro σ9 eσ9
        have hσ9 : K2 σ0 σ9 := by rw [eσ9]; exact hσ.u (Rg2.r_0_9 (leP (show (1 : Int32).toInt = 1 from by decide) (by omega)) (geP (show (1 : Int32).toInt = 1 from by decide) (by omega))) (fun q => absurd q.2 (by decide)) (fun q => absurd q.2 (by decide)) ⟨⟨by decide, by decide⟩, fun q => absurd q.2 (by decide)⟩
        try dsimp only
        exact hQ _ _ hσ9 (⟨(kq (a := 0) (b := 14) eσ9 (fun q => absurd q.2 (by decide))), (kq (a := 0) (b := 35) eσ9 (fun q => absurd q.2 (by decide))), (kq (a := 0) (b := 24) eσ9 (fun q => absurd q.2 (by decide))), (kq (a := 0) (b := 36) eσ9 (fun q => absurd q.2 (by decide))), (kq (a := 0) (b := 41) eσ9 (fun q => absurd q.2 (by decide))), (kq (a := 0) (b := 50) eσ9 (fun q => absurd q.2 (by decide))), (kq (a := 0) (b := 51) eσ9 (fun q => absurd q.2 (by decide)))⟩) ⟨leP (show (0 : Int32).toInt = 0 from by decide) (by omega), geP (show (0 : Int32).toInt = 0 from by decide) (by omega)⟩
      · have f10 := K2.g_0_9 hσ
        first | have f11 := (noteqE (rfl : (σ.1 0 9).toInt = (σ.1 0 9).toInt) (show (0 : Int32).toInt = 0 from by decide)).mp c6 | skip
        try unfold fX12_fails_j16
        intro σ12 eσ12
        have hσ12 : K2 σ0 σ12 := by rw [eσ12]; exact hσ.u (Rg2.r_0_9 (leP (rfl : (σ.1 0 9).toInt = (σ.1 0 9).toInt) (by omega)) (geP (rfl : (σ.1 0 9).toInt = (σ.1 0 9).toInt) (by omega))) (fun q => absurd q.2 (by decide)) (fun q => absurd q.2 (by decide)) ⟨⟨by decide, by decide⟩, fun q => absurd q.2 (by decide)⟩
        try dsimp only
        exact hQ _ _ hσ12 (⟨(kq (a := 0) (b := 14) eσ12 (fun q => absurd q.2 (by decide))), (kq (a := 0) (b := 35) eσ12 (fun q => absurd q.2 (by decide))), (kq (a := 0) (b := 24) eσ12 (fun q => absurd q.2 (by decide))), (kq (a := 0) (b := 36) eσ12 (fun q => absurd q.2 (by decide))), (kq (a := 0) (b := 41) eσ12 (fun q => absurd q.2 (by decide))), (kq (a := 0) (b := 50) eσ12 (fun q => absurd q.2 (by decide))), (kq (a := 0) (b := 51) eσ12 (fun q => absurd q.2 (by decide)))⟩) ⟨leP (show (0 : Int32).toInt = 0 from by decide) (by omega), geP (show (0 : Int32).toInt = 0 from by decide) (by omega)⟩
    · first | have f14 := (noteqE (show (0 : Int32).toInt = 0 from by decide) (show (0 : Int32).toInt = 0 from by decide)).mp c4 | skip
      have g16 : vp_in x1.toInt32 4096 := inE (l2iE (rfl : x1.toInt = x1.toInt) (by omega) (by omega)) (by omega) (by omega)
      refine ⟨g16, ?_⟩
      have f17 := K2.ga_1 hσ x1.toInt32.toNatClampNeg
      exact hQ _ _ hσ (⟨rfl, rfl, rfl, rfl, rfl, rfl, rfl⟩) ⟨leP (rfl : (σ.1 1 x1.toInt32.toNatClampNeg).toInt = (σ.1 1 x1.toInt32.toNatClampNeg).toInt) (by omega), geP (rfl : (σ.1 1 x1.toInt32.toNatClampNeg).toInt = (σ.1 1 x1.toInt32.toNatClampNeg).toInt) (by omega)⟩
  · have f18 := tB64 x1
    first | have f19 := (notltE64 (rfl : x1.toInt = x1.toInt) (show (0 : Int64).toInt = 0 from by decide)).mp c1 | skip
    refine ⟨fun c20 => ?_, fun c20 => ?_⟩
    · first | have f22 := (ltE64 (show (4095 : Int64).toInt = 4095 from by decide) (rfl : x1.toInt = x1.toInt)).mp c20 | skip
      try dsimp only
      refine ⟨fun c23 => ?_, fun c23 => ?_⟩
      · first | have f24 := (eqE (show (0 : Int32).toInt = 0 from by decide) (show (0 : Int32).toInt = 0 from by decide)).mp c23 | skip
        try unfold fX12_fails
        refine ⟨fun c25 => ?_, fun c25 => ?_⟩
        · have f26 := K2.g_0_9 hσ
          first | have f27 := (eqE (rfl : (σ.1 0 9).toInt = (σ.1 0 9).toInt) (show (0 : Int32).toInt = 0 from by decide)).mp c25 | skip
          try unfold fX12_fails_j16
          intro σ28 eσ28
          have hσ28 : K2 σ0 σ28 := by rw [eσ28]; exact hσ.u (Rg2.r_0_9 (leP (show (1 : Int32).toInt = 1 from by decide) (by omega)) (geP (show (1 : Int32).toInt = 1 from by decide) (by omega))) (fun q => absurd q.2 (by decide)) (fun q => absurd q.2 (by decide)) ⟨⟨by decide, by decide⟩, fun q => absurd q.2 (by decide)⟩
          try dsimp only
          exact hQ _ _ hσ28 (⟨(kq (a := 0) (b := 14) eσ28 (fun q => absurd q.2 (by decide))), (kq (a := 0) (b := 35) eσ28 (fun q => absurd q.2 (by decide))), (kq (a := 0) (b := 24) eσ28 (fun q => absurd q.2 (by decide))), (kq (a := 0) (b := 36) eσ28 (fun q => absurd q.2 (by decide))), (kq (a := 0) (b := 41) eσ28 (fun q => absurd q.2 (by decide))), (kq (a := 0) (b := 50) eσ28 (fun q => absurd q.2 (by decide))), (kq (a := 0) (b := 51) eσ28 (fun q => absurd q.2 (by decide)))⟩) ⟨leP (show (0 : Int32).toInt = 0 from by decide) (by omega), geP (show (0 : Int32).toInt = 0 from by decide) (by omega)⟩
        · have f29 := K2.g_0_9 hσ
          first | have f30 := (noteqE (rfl : (σ.1 0 9).toInt = (σ.1 0 9).toInt) (show (0 : Int32).toInt = 0 from by decide)).mp c25 | skip
          try unfold fX12_fails_j16
          intro σ31 eσ31
          have hσ31 : K2 σ0 σ31 := by rw [eσ31]; exact hσ.u (Rg2.r_0_9 (leP (rfl : (σ.1 0 9).toInt = (σ.1 0 9).toInt) (by omega)) (geP (rfl : (σ.1 0 9).toInt = (σ.1 0 9).toInt) (by omega))) (fun q => absurd q.2 (by decide)) (fun q => absurd q.2 (by decide)) ⟨⟨by decide, by decide⟩, fun q => absurd q.2 (by decide)⟩
          try dsimp only
          exact hQ _ _ hσ31 (⟨(kq (a := 0) (b := 14) eσ31 (fun q => absurd q.2 (by decide))), (kq (a := 0) (b := 35) eσ31 (fun q => absurd q.2 (by decide))), (kq (a := 0) (b := 24) eσ31 (fun q => absurd q.2 (by decide))), (kq (a := 0) (b := 36) eσ31 (fun q => absurd q.2 (by decide))), (kq (a := 0) (b := 41) eσ31 (fun q => absurd q.2 (by decide))), (kq (a := 0) (b := 50) eσ31 (fun q => absurd q.2 (by decide))), (kq (a := 0) (b := 51) eσ31 (fun q => absurd q.2 (by decide)))⟩) ⟨leP (show (0 : Int32).toInt = 0 from by decide) (by omega), geP (show (0 : Int32).toInt = 0 from by decide) (by omega)⟩
      · first | have f33 := (noteqE (show (0 : Int32).toInt = 0 from by decide) (show (0 : Int32).toInt = 0 from by decide)).mp c23 | skip
        have g35 : vp_in x1.toInt32 4096 := inE (l2iE (rfl : x1.toInt = x1.toInt) (by omega) (by omega)) (by omega) (by omega)
        refine ⟨g35, ?_⟩
        have f36 := K2.ga_1 hσ x1.toInt32.toNatClampNeg
        exact hQ _ _ hσ (⟨rfl, rfl, rfl, rfl, rfl, rfl, rfl⟩) ⟨leP (rfl : (σ.1 1 x1.toInt32.toNatClampNeg).toInt = (σ.1 1 x1.toInt32.toNatClampNeg).toInt) (by omega), geP (rfl : (σ.1 1 x1.toInt32.toNatClampNeg).toInt = (σ.1 1 x1.toInt32.toNatClampNeg).toInt) (by omega)⟩
    · first | have f38 := (notltE64 (show (4095 : Int64).toInt = 4095 from by decide) (rfl : x1.toInt = x1.toInt)).mp c20 | skip
      try dsimp only
      refine ⟨fun c39 => ?_, fun c39 => ?_⟩
      · first | have f40 := (eqE (show (1 : Int32).toInt = 1 from by decide) (show (0 : Int32).toInt = 0 from by decide)).mp c39 | skip
        try unfold fX12_fails
        refine ⟨fun c41 => ?_, fun c41 => ?_⟩
        · have f42 := K2.g_0_9 hσ
          first | have f43 := (eqE (rfl : (σ.1 0 9).toInt = (σ.1 0 9).toInt) (show (0 : Int32).toInt = 0 from by decide)).mp c41 | skip
          try unfold fX12_fails_j16
          intro σ44 eσ44
          have hσ44 : K2 σ0 σ44 := by rw [eσ44]; exact hσ.u (Rg2.r_0_9 (leP (show (1 : Int32).toInt = 1 from by decide) (by omega)) (geP (show (1 : Int32).toInt = 1 from by decide) (by omega))) (fun q => absurd q.2 (by decide)) (fun q => absurd q.2 (by decide)) ⟨⟨by decide, by decide⟩, fun q => absurd q.2 (by decide)⟩
          try dsimp only
          exact hQ _ _ hσ44 (⟨(kq (a := 0) (b := 14) eσ44 (fun q => absurd q.2 (by decide))), (kq (a := 0) (b := 35) eσ44 (fun q => absurd q.2 (by decide))), (kq (a := 0) (b := 24) eσ44 (fun q => absurd q.2 (by decide))), (kq (a := 0) (b := 36) eσ44 (fun q => absurd q.2 (by decide))), (kq (a := 0) (b := 41) eσ44 (fun q => absurd q.2 (by decide))), (kq (a := 0) (b := 50) eσ44 (fun q => absurd q.2 (by decide))), (kq (a := 0) (b := 51) eσ44 (fun q => absurd q.2 (by decide)))⟩) ⟨leP (show (0 : Int32).toInt = 0 from by decide) (by omega), geP (show (0 : Int32).toInt = 0 from by decide) (by omega)⟩
        · have f45 := K2.g_0_9 hσ
          first | have f46 := (noteqE (rfl : (σ.1 0 9).toInt = (σ.1 0 9).toInt) (show (0 : Int32).toInt = 0 from by decide)).mp c41 | skip
          try unfold fX12_fails_j16
          intro σ47 eσ47
          have hσ47 : K2 σ0 σ47 := by rw [eσ47]; exact hσ.u (Rg2.r_0_9 (leP (rfl : (σ.1 0 9).toInt = (σ.1 0 9).toInt) (by omega)) (geP (rfl : (σ.1 0 9).toInt = (σ.1 0 9).toInt) (by omega))) (fun q => absurd q.2 (by decide)) (fun q => absurd q.2 (by decide)) ⟨⟨by decide, by decide⟩, fun q => absurd q.2 (by decide)⟩
          try dsimp only
          exact hQ _ _ hσ47 (⟨(kq (a := 0) (b := 14) eσ47 (fun q => absurd q.2 (by decide))), (kq (a := 0) (b := 35) eσ47 (fun q => absurd q.2 (by decide))), (kq (a := 0) (b := 24) eσ47 (fun q => absurd q.2 (by decide))), (kq (a := 0) (b := 36) eσ47 (fun q => absurd q.2 (by decide))), (kq (a := 0) (b := 41) eσ47 (fun q => absurd q.2 (by decide))), (kq (a := 0) (b := 50) eσ47 (fun q => absurd q.2 (by decide))), (kq (a := 0) (b := 51) eσ47 (fun q => absurd q.2 (by decide)))⟩) ⟨leP (show (0 : Int32).toInt = 0 from by decide) (by omega), geP (show (0 : Int32).toInt = 0 from by decide) (by omega)⟩
      · first | have f49 := (noteqE (show (1 : Int32).toInt = 1 from by decide) (show (0 : Int32).toInt = 0 from by decide)).mp c39 | skip
        have g51 : vp_in x1.toInt32 4096 := inE (l2iE (rfl : x1.toInt = x1.toInt) (by omega) (by omega)) (by omega) (by omega)
        refine ⟨g51, ?_⟩
        have f52 := K2.ga_1 hσ x1.toInt32.toNatClampNeg
        exact hQ _ _ hσ (⟨rfl, rfl, rfl, rfl, rfl, rfl, rfl⟩) ⟨leP (rfl : (σ.1 1 x1.toInt32.toNatClampNeg).toInt = (σ.1 1 x1.toInt32.toNatClampNeg).toInt) (by omega), geP (rfl : (σ.1 1 x1.toInt32.toNatClampNeg).toInt = (σ.1 1 x1.toInt32.toNatClampNeg).toInt) (by omega)⟩
set_option maxHeartbeats 4000000 in
theorem sX12_four {N : Nat} (hN : 4294967400 ≤ N) {x1 : Int64} {Q : Int32 → St → Prop} {σ0 σ : St} (hσ : K2 σ0 σ) (hQ : ∀ (r : Int32) (τ : St), K2 σ0 τ → (τ.1 0 14 = σ.1 0 14 ∧ τ.1 0 35 = σ.1 0 35 ∧ τ.1 0 24 = σ.1 0 24 ∧ τ.1 0 36 = σ.1 0 36 ∧ τ.1 0 41 = σ.1 0 41 ∧ τ.1 0 50 = σ.1 0 50 ∧ τ.1 0 51 = σ.1 0 51) → True → Q r τ) : fX12_four N x1 Q σ := by
  unfold fX12_four
  refine lo2_i (fun (y1 : Int32) (y2 : Int32) (ω : St) => K2 σ0 ω ∧ ω.1 0 14 = σ.1 0 14 ∧ ω.1 0 35 = σ.1 0 35 ∧ ω.1 0 24 = σ.1 0 24 ∧ ω.1 0 36 = σ.1 0 36 ∧ ω.1 0 41 = σ.1 0 41 ∧ ω.1 0 50 = σ.1 0 50 ∧ ω.1 0 51 = σ.1 0 51 ∧ 0 ≤ y2.toInt) (fun (y1 : Int32) (y2 : Int32) (ω : St) => (2147483648 - y2.toInt).toNat) ?_ N (0 : Int32) (0 : Int32) σ ⟨hσ, rfl, rfl, rfl, rfl, rfl, rfl, rfl, by first | decide | (have z0 : (0 : Int32).toInt = 0 := (by decide); omega)⟩ (by have z0 : (0 : Int32).toInt = 0 := (by decide); (try dsimp only); omega)
  intro rr3 y6 y7 σ5 hIσ5 ih4
  obtain ⟨hσ5, k8, k9, k10, k11, k12, k13, k14, i15⟩ := hIσ5
  unfold fX12_four_l5
  have f16 := tB y6
  have f17 := tB y7
  refine ⟨fun c18 => ?_, fun c18 => ?_⟩
  · first | have f20 := (leE (show (4 : Int32).toInt = 4 from by decide) (rfl : y7.toInt = y7.toInt)).mp c18 | skip
    exact hQ _ _ hσ5 (⟨k8, k9, k10, k11, k12, k13, k14⟩) trivial
  · first | have f22 := (notleE (show (4 : Int32).toInt = 4 from by decide) (rfl : y7.toInt = y7.toInt)).mp c18 | skip
    have f23 := tB64 x1
    refine sX12_read hN hσ5 (fun r34 σ25 hσ25 kk33 p35 => ?_)
    obtain ⟨k26, k27, k28, k29, k30, k31, k32⟩ := kk33
    intro v36 ev36
    intro v37 ev37
    have f38 := tB v36
    have f39 := tB ((y6 <<< (8 &&& 31)) ||| r34)
    first | have f40 : v36.toInt = ((y6 <<< (8 &&& 31)) ||| r34).toInt := (congrArg Int32.toInt ev36).trans (rfl : ((y6 <<< (8 &&& 31)) ||| r34).toInt = ((y6 <<< (8 &&& 31)) ||| r34).toInt) | skip
    have f41 := tB v37
    first | have f43 : v37.toInt = (y7.toInt + (1)) := (congrArg Int32.toInt ev37).trans (aOkE (rfl : y7.toInt = y7.toInt) (show (1 : Int32).toInt = 1 from by decide) (by omega) (by omega)) | skip
    exact ih4 v36 v37 σ25 ⟨hσ25, k26.trans (k8), k27.trans (k9), k28.trans (k10), k29.trans (k11), k30.trans (k12), k31.trans (k13), k32.trans (k14), by omega⟩ (by (try dsimp only); omega)
set_option maxHeartbeats 4000000 in
theorem sX12_system {N : Nat} (hN : 4294967400 ≤ N) {x1 : Int32} {x2 : Int32} {Q : Int32 → St → Prop} {σ0 σ : St} (hσ : K2 σ0 σ) (hQ : ∀ (r : Int32) (τ : St), K2 σ0 τ → (τ.1 0 14 = σ.1 0 14 ∧ τ.1 0 9 = σ.1 0 9 ∧ τ.1 0 35 = σ.1 0 35 ∧ τ.1 0 24 = σ.1 0 24 ∧ τ.1 0 36 = σ.1 0 36 ∧ τ.1 0 41 = σ.1 0 41 ∧ τ.1 0 50 = σ.1 0 50 ∧ τ.1 0 51 = σ.1 0 51) → True → Q r τ) : fX12_system N x1 x2 Q σ := by
  unfold fX12_system
  try unfold fX12_in
  refine ⟨fun c1 => ?_, fun c1 => ?_⟩
  · have f2 := tB x1
    first | have f3 := (ltE64 (i2lE (rfl : x1.toInt = x1.toInt)) (show (0 : Int64).toInt = 0 from by decide)).mp c1 | skip
    try dsimp only
    refine ⟨fun c4 => ?_, fun c4 => ?_⟩
    · first | have f5 := (eqE (show (0 : Int32).toInt = 0 from by decide) (show (0 : Int32).toInt = 0 from by decide)).mp c4 | skip
      exact hQ _ _ hσ (⟨rfl, rfl, rfl, rfl, rfl, rfl, rfl, rfl⟩) trivial
    · first | have f6 := (noteqE (show (0 : Int32).toInt = 0 from by decide) (show (0 : Int32).toInt = 0 from by decide)).mp c4 | skip
      refine ⟨fun c7 => ?_, fun c7 => ?_⟩
      · have f8 := K2.g_0_14 hσ
        first | have f9 := (leE (rfl : (σ.1 0 14).toInt = (σ.1 0 14).toInt) (show (0 : Int32).toInt = 0 from by decide)).mp c7 | skip
        intro σ10 eσ10
        have hσ10 : K2 σ0 σ10 := by rw [eσ10]; exact hσ.u (Rg2.u_0_12 _) (fun q => absurd q.2 (by decide)) (fun q => absurd q.2 (by decide)) ⟨⟨by decide, by decide⟩, fun q => absurd q.2 (by decide)⟩
        intro σ11 eσ11
        have hσ11 : K2 σ0 σ11 := by rw [eσ11]; exact hσ10.u (Rg2.u_0_13 _) (fun q => absurd q.2 (by decide)) (fun q => absurd q.2 (by decide)) ⟨⟨by decide, by decide⟩, fun q => absurd q.2 (by decide)⟩
        exact hQ _ _ hσ11 (⟨(kq (a := 0) (b := 14) eσ11 (fun q => absurd q.2 (by decide))).trans ((kq (a := 0) (b := 14) eσ10 (fun q => absurd q.2 (by decide)))), (kq (a := 0) (b := 9) eσ11 (fun q => absurd q.2 (by decide))).trans ((kq (a := 0) (b := 9) eσ10 (fun q => absurd q.2 (by decide)))), (kq (a := 0) (b := 35) eσ11 (fun q => absurd q.2 (by decide))).trans ((kq (a := 0) (b := 35) eσ10 (fun q => absurd q.2 (by decide)))), (kq (a := 0) (b := 24) eσ11 (fun q => absurd q.2 (by decide))).trans ((kq (a := 0) (b := 24) eσ10 (fun q => absurd q.2 (by decide)))), (kq (a := 0) (b := 36) eσ11 (fun q => absurd q.2 (by decide))).trans ((kq (a := 0) (b := 36) eσ10 (fun q => absurd q.2 (by decide)))), (kq (a := 0) (b := 41) eσ11 (fun q => absurd q.2 (by decide))).trans ((kq (a := 0) (b := 41) eσ10 (fun q => absurd q.2 (by decide)))), (kq (a := 0) (b := 50) eσ11 (fun q => absurd q.2 (by decide))).trans ((kq (a := 0) (b := 50) eσ10 (fun q => absurd q.2 (by decide)))), (kq (a := 0) (b := 51) eσ11 (fun q => absurd q.2 (by decide))).trans ((kq (a := 0) (b := 51) eσ10 (fun q => absurd q.2 (by decide))))⟩) trivial
      · have f12 := K2.g_0_14 hσ
        first | have f13 := (notleE (rfl : (σ.1 0 14).toInt = (σ.1 0 14).toInt) (show (0 : Int32).toInt = 0 from by decide)).mp c7 | skip
        exact hQ _ _ hσ (⟨rfl, rfl, rfl, rfl, rfl, rfl, rfl, rfl⟩) trivial
  · have f14 := tB x1
    first | have f15 := (notltE64 (i2lE (rfl : x1.toInt = x1.toInt)) (show (0 : Int64).toInt = 0 from by decide)).mp c1 | skip
    refine ⟨fun c16 => ?_, fun c16 => ?_⟩
    · first | have f18 := (ltE64 (show (2 : Int64).toInt = 2 from by decide) (i2lE (rfl : x1.toInt = x1.toInt))).mp c16 | skip
      try dsimp only
      refine ⟨fun c19 => ?_, fun c19 => ?_⟩
      · first | have f20 := (eqE (show (0 : Int32).toInt = 0 from by decide) (show (0 : Int32).toInt = 0 from by decide)).mp c19 | skip
        exact hQ _ _ hσ (⟨rfl, rfl, rfl, rfl, rfl, rfl, rfl, rfl⟩) trivial
      · first | have f21 := (noteqE (show (0 : Int32).toInt = 0 from by decide) (show (0 : Int32).toInt = 0 from by decide)).mp c19 | skip
        refine ⟨fun c22 => ?_, fun c22 => ?_⟩
        · have f23 := K2.g_0_14 hσ
          first | have f24 := (leE (rfl : (σ.1 0 14).toInt = (σ.1 0 14).toInt) (show (0 : Int32).toInt = 0 from by decide)).mp c22 | skip
          intro σ25 eσ25
          have hσ25 : K2 σ0 σ25 := by rw [eσ25]; exact hσ.u (Rg2.u_0_12 _) (fun q => absurd q.2 (by decide)) (fun q => absurd q.2 (by decide)) ⟨⟨by decide, by decide⟩, fun q => absurd q.2 (by decide)⟩
          intro σ26 eσ26
          have hσ26 : K2 σ0 σ26 := by rw [eσ26]; exact hσ25.u (Rg2.u_0_13 _) (fun q => absurd q.2 (by decide)) (fun q => absurd q.2 (by decide)) ⟨⟨by decide, by decide⟩, fun q => absurd q.2 (by decide)⟩
          exact hQ _ _ hσ26 (⟨(kq (a := 0) (b := 14) eσ26 (fun q => absurd q.2 (by decide))).trans ((kq (a := 0) (b := 14) eσ25 (fun q => absurd q.2 (by decide)))), (kq (a := 0) (b := 9) eσ26 (fun q => absurd q.2 (by decide))).trans ((kq (a := 0) (b := 9) eσ25 (fun q => absurd q.2 (by decide)))), (kq (a := 0) (b := 35) eσ26 (fun q => absurd q.2 (by decide))).trans ((kq (a := 0) (b := 35) eσ25 (fun q => absurd q.2 (by decide)))), (kq (a := 0) (b := 24) eσ26 (fun q => absurd q.2 (by decide))).trans ((kq (a := 0) (b := 24) eσ25 (fun q => absurd q.2 (by decide)))), (kq (a := 0) (b := 36) eσ26 (fun q => absurd q.2 (by decide))).trans ((kq (a := 0) (b := 36) eσ25 (fun q => absurd q.2 (by decide)))), (kq (a := 0) (b := 41) eσ26 (fun q => absurd q.2 (by decide))).trans ((kq (a := 0) (b := 41) eσ25 (fun q => absurd q.2 (by decide)))), (kq (a := 0) (b := 50) eσ26 (fun q => absurd q.2 (by decide))).trans ((kq (a := 0) (b := 50) eσ25 (fun q => absurd q.2 (by decide)))), (kq (a := 0) (b := 51) eσ26 (fun q => absurd q.2 (by decide))).trans ((kq (a := 0) (b := 51) eσ25 (fun q => absurd q.2 (by decide))))⟩) trivial
        · have f27 := K2.g_0_14 hσ
          first | have f28 := (notleE (rfl : (σ.1 0 14).toInt = (σ.1 0 14).toInt) (show (0 : Int32).toInt = 0 from by decide)).mp c22 | skip
          exact hQ _ _ hσ (⟨rfl, rfl, rfl, rfl, rfl, rfl, rfl, rfl⟩) trivial
    · first | have f30 := (notltE64 (show (2 : Int64).toInt = 2 from by decide) (i2lE (rfl : x1.toInt = x1.toInt))).mp c16 | skip
      try dsimp only
      refine ⟨fun c31 => ?_, fun c31 => ?_⟩
      · first | have f32 := (eqE (show (1 : Int32).toInt = 1 from by decide) (show (0 : Int32).toInt = 0 from by decide)).mp c31 | skip
        exact hQ _ _ hσ (⟨rfl, rfl, rfl, rfl, rfl, rfl, rfl, rfl⟩) trivial
      · first | have f33 := (noteqE (show (1 : Int32).toInt = 1 from by decide) (show (0 : Int32).toInt = 0 from by decide)).mp c31 | skip
        refine ⟨fun c34 => ?_, fun c34 => ?_⟩
        · have f35 := K2.g_0_14 hσ
          first | have f36 := (leE (rfl : (σ.1 0 14).toInt = (σ.1 0 14).toInt) (show (0 : Int32).toInt = 0 from by decide)).mp c34 | skip
          intro σ37 eσ37
          have hσ37 : K2 σ0 σ37 := by rw [eσ37]; exact hσ.u (Rg2.u_0_12 _) (fun q => absurd q.2 (by decide)) (fun q => absurd q.2 (by decide)) ⟨⟨by decide, by decide⟩, fun q => absurd q.2 (by decide)⟩
          intro σ38 eσ38
          have hσ38 : K2 σ0 σ38 := by rw [eσ38]; exact hσ37.u (Rg2.u_0_13 _) (fun q => absurd q.2 (by decide)) (fun q => absurd q.2 (by decide)) ⟨⟨by decide, by decide⟩, fun q => absurd q.2 (by decide)⟩
          exact hQ _ _ hσ38 (⟨(kq (a := 0) (b := 14) eσ38 (fun q => absurd q.2 (by decide))).trans ((kq (a := 0) (b := 14) eσ37 (fun q => absurd q.2 (by decide)))), (kq (a := 0) (b := 9) eσ38 (fun q => absurd q.2 (by decide))).trans ((kq (a := 0) (b := 9) eσ37 (fun q => absurd q.2 (by decide)))), (kq (a := 0) (b := 35) eσ38 (fun q => absurd q.2 (by decide))).trans ((kq (a := 0) (b := 35) eσ37 (fun q => absurd q.2 (by decide)))), (kq (a := 0) (b := 24) eσ38 (fun q => absurd q.2 (by decide))).trans ((kq (a := 0) (b := 24) eσ37 (fun q => absurd q.2 (by decide)))), (kq (a := 0) (b := 36) eσ38 (fun q => absurd q.2 (by decide))).trans ((kq (a := 0) (b := 36) eσ37 (fun q => absurd q.2 (by decide)))), (kq (a := 0) (b := 41) eσ38 (fun q => absurd q.2 (by decide))).trans ((kq (a := 0) (b := 41) eσ37 (fun q => absurd q.2 (by decide)))), (kq (a := 0) (b := 50) eσ38 (fun q => absurd q.2 (by decide))).trans ((kq (a := 0) (b := 50) eσ37 (fun q => absurd q.2 (by decide)))), (kq (a := 0) (b := 51) eσ38 (fun q => absurd q.2 (by decide))).trans ((kq (a := 0) (b := 51) eσ37 (fun q => absurd q.2 (by decide))))⟩) trivial
        · have f39 := K2.g_0_14 hσ
          first | have f40 := (notleE (rfl : (σ.1 0 14).toInt = (σ.1 0 14).toInt) (show (0 : Int32).toInt = 0 from by decide)).mp c34 | skip
          exact hQ _ _ hσ (⟨rfl, rfl, rfl, rfl, rfl, rfl, rfl, rfl⟩) trivial
set_option maxHeartbeats 4000000 in
theorem sX12_isString {N : Nat} (hN : 4294967400 ≤ N) {x0 : Int32} {Q : Int32 → St → Prop} {σ0 σ : St} (hσ : K2 σ0 σ) (hQ : ∀ r : Int32, True → Q r σ) : fX12_isString N x0 Q σ := by
  unfold fX12_isString
  refine ⟨fun c1 => ?_, fun c1 => ?_⟩
  · have f2 := tB x0
    first | have f3 := (ltE (rfl : x0.toInt = x0.toInt) (show (224 : Int32).toInt = 224 from by decide)).mp c1 | skip
    exact hQ _ trivial
  · have f4 := tB x0
    first | have f5 := (notltE (rfl : x0.toInt = x0.toInt) (show (224 : Int32).toInt = 224 from by decide)).mp c1 | skip
    refine ⟨fun c6 => ?_, fun c6 => ?_⟩
    · first | have f8 := (ltE (show (226 : Int32).toInt = 226 from by decide) (rfl : x0.toInt = x0.toInt)).mp c6 | skip
      exact hQ _ trivial
    · first | have f10 := (notltE (show (226 : Int32).toInt = 226 from by decide) (rfl : x0.toInt = x0.toInt)).mp c6 | skip
      exact hQ _ trivial
set_option maxHeartbeats 4000000 in
theorem sX12_lays {N : Nat} (hN : 4294967400 ≤ N) {x1 : Int32} {x2 : Int32} {Q : St → Prop} {σ0 σ : St} (hσ : K2 σ0 σ) (hQ : ∀ τ : St, K2 σ0 τ → (τ.1 0 35 = σ.1 0 35 ∧ τ.1 0 24 = σ.1 0 24 ∧ τ.1 0 36 = σ.1 0 36 ∧ τ.1 0 41 = σ.1 0 41 ∧ τ.1 0 50 = σ.1 0 50 ∧ τ.1 0 51 = σ.1 0 51 ∧ (¬ (τ.1 0 9).toInt = 0 ∨ (σ.1 0 9).toInt = 0) ∧ (¬ (τ.1 0 9).toInt = 0 ∨ (τ.1 0 14).toInt = (σ.1 0 14).toInt + 1)) → Q τ) : fX12_lays N x1 x2 Q σ := by
  unfold fX12_lays
  refine ⟨fun c1 => ?_, fun c1 => ?_⟩
  · have f2 := K2.g_0_9 hσ
    first | have f3 := (eqE (rfl : (σ.1 0 9).toInt = (σ.1 0 9).toInt) (show (0 : Int32).toInt = 0 from by decide)).mp c1 | skip
    refine ⟨fun c4 => ?_, fun c4 => ?_⟩
    · have f5 := K2.g_0_14 hσ
      first | have f6 := (eqE (rfl : (σ.1 0 14).toInt = (σ.1 0 14).toInt) (show (40 : Int32).toInt = 40 from by decide)).mp c4 | skip
      try unfold fX12_fails
      refine ⟨fun c7 => ?_, fun c7 => ?_⟩
      · first | have f9 := (eqE (rfl : (σ.1 0 9).toInt = (σ.1 0 9).toInt) (show (0 : Int32).toInt = 0 from by decide)).mp c7 | skip
        try unfold fX12_fails_j16
        intro σ10 eσ10
        have hσ10 : K2 σ0 σ10 := by rw [eσ10]; exact hσ.u (Rg2.r_0_9 (leP (show (8 : Int32).toInt = 8 from by decide) (by omega)) (geP (show (8 : Int32).toInt = 8 from by decide) (by omega))) (fun q => absurd q.2 (by decide)) (fun q => absurd q.2 (by decide)) ⟨⟨by decide, by decide⟩, fun q => absurd q.2 (by decide)⟩
        try dsimp only
        try unfold fX12_lays_j22
        refine ⟨fun c11 => ?_, fun c11 => ?_⟩
        · have f12 := K2.g_0_9 hσ10
          have q13 : σ10.1 0 9 = 8 := by rw [eσ10, u1_at]; exact if_pos rfl
          first | have f14 : (σ10.1 0 9).toInt = (8) := (congrArg Int32.toInt q13).trans (show (8 : Int32).toInt = 8 from by decide) | skip
          first | have f15 := (eqE (rfl : (σ10.1 0 9).toInt = (σ10.1 0 9).toInt) (show (0 : Int32).toInt = 0 from by decide)).mp c11 | skip
          have f16 := K2.g_0_14 hσ10
          have q17 : σ10.1 0 14 = σ.1 0 14 := by rw [eσ10, u1_at]; exact if_neg (by decide)
          have f18 := congrArg Int32.toInt q17
          refine ⟨inE (rfl : (σ10.1 0 14).toInt = (σ10.1 0 14).toInt) (by omega) (by omega), ?_⟩
          intro σ20 eσ20
          have hσ20 : K2 σ0 σ20 := by rw [eσ20]; exact hσ10.u (Rg2.ra_6 _ _) (fun q => absurd q.1 (by decide)) (fun q => absurd q.1 (by decide)) ⟨⟨by decide, by decide⟩, fun q => absurd q.1 (by decide)⟩
          have f21 := K2.g_0_14 hσ20
          have q22 : σ20.1 0 14 = σ10.1 0 14 := by rw [eσ20]; exact congrFun (u1_ne (by decide)) 14
          have f23 := congrArg Int32.toInt q22
          refine ⟨inE (rfl : (σ20.1 0 14).toInt = (σ20.1 0 14).toInt) (by omega) (by omega), ?_⟩
          intro σ25 eσ25
          have hσ25 : K2 σ0 σ25 := by rw [eσ25]; exact hσ20.u (Rg2.ra_7 _ _) (fun q => absurd q.1 (by decide)) (fun q => absurd q.1 (by decide)) ⟨⟨by decide, by decide⟩, fun q => absurd q.1 (by decide)⟩
          have f26 := K2.g_0_14 hσ25
          have q27 : σ25.1 0 14 = σ20.1 0 14 := by rw [eσ25]; exact congrFun (u1_ne (by decide)) 14
          have f28 := congrArg Int32.toInt q27
          refine ⟨inE (rfl : (σ25.1 0 14).toInt = (σ25.1 0 14).toInt) (by omega) (by omega), ?_⟩
          intro σ30 eσ30
          have hσ30 : K2 σ0 σ30 := by rw [eσ30]; exact hσ25.u (Rg2.ra_8 _ _) (fun q => absurd q.1 (by decide)) (fun q => absurd q.1 (by decide)) ⟨⟨by decide, by decide⟩, fun q => absurd q.1 (by decide)⟩
          have f31 := K2.g_0_14 hσ30
          have q32 : σ30.1 0 14 = σ25.1 0 14 := by rw [eσ30]; exact congrFun (u1_ne (by decide)) 14
          have f33 := congrArg Int32.toInt q32
          refine ⟨inE (rfl : (σ30.1 0 14).toInt = (σ30.1 0 14).toInt) (by omega) (by omega), ?_⟩
          intro σ35 eσ35
          have hσ35 : K2 σ0 σ35 := by rw [eσ35]; exact hσ30.u (Rg2.ra_9 (leP (show (0 : Int32).toInt = 0 from by decide) (by omega)) (geP (show (0 : Int32).toInt = 0 from by decide) (by omega))) (fun q => absurd q.1 (by decide)) (fun q => absurd q.1 (by decide)) ⟨⟨by decide, by decide⟩, fun q => absurd q.1 (by decide)⟩
          have f36 := K2.g_0_14 hσ35
          have q37 : σ35.1 0 14 = σ30.1 0 14 := by rw [eσ35]; exact congrFun (u1_ne (by decide)) 14
          have f38 := congrArg Int32.toInt q37
          refine ⟨inE (rfl : (σ35.1 0 14).toInt = (σ35.1 0 14).toInt) (by omega) (by omega), ?_⟩
          intro σ40 eσ40
          have hσ40 : K2 σ0 σ40 := by rw [eσ40]; exact hσ35.u (Rg2.ra_11 _ _) (fun q => absurd q.1 (by decide)) (fun q => absurd q.1 (by decide)) ⟨⟨by decide, by decide⟩, fun q => absurd q.1 (by decide)⟩
          have f41 := K2.g_0_14 hσ40
          have q42 : σ40.1 0 14 = σ35.1 0 14 := by rw [eσ40]; exact congrFun (u1_ne (by decide)) 14
          have f43 := congrArg Int32.toInt q42
          refine ⟨inE (rfl : (σ40.1 0 14).toInt = (σ40.1 0 14).toInt) (by omega) (by omega), ?_⟩
          intro σ45 eσ45
          have hσ45 : K2 σ0 σ45 := by rw [eσ45]; exact hσ40.u (Rg2.ra_12 _ _) (fun q => absurd q.1 (by decide)) (fun q => absurd q.1 (by decide)) ⟨⟨by decide, by decide⟩, fun q => absurd q.1 (by decide)⟩
          have f46 := K2.g_0_14 hσ45
          have q47 : σ45.1 0 14 = σ40.1 0 14 := by rw [eσ45]; exact congrFun (u1_ne (by decide)) 14
          have f48 := congrArg Int32.toInt q47
          refine ⟨inE (rfl : (σ45.1 0 14).toInt = (σ45.1 0 14).toInt) (by omega) (by omega), ?_⟩
          intro σ50 eσ50
          have hσ50 : K2 σ0 σ50 := by rw [eσ50]; exact hσ45.u13 (Or.inl (by decide))
          intro v51 ev51
          intro σ52 eσ52
          have f53 := tB v51
          have f54 := K2.g_0_14 hσ50
          have q55 : σ50.1 0 14 = σ45.1 0 14 := by rw [eσ50]; exact congrFun (u1_ne (by decide)) 14
          have f56 := congrArg Int32.toInt q55
          first | have f58 : v51.toInt = ((σ50.1 0 14).toInt + (1)) := (congrArg Int32.toInt ev51).trans (aOkE (rfl : (σ50.1 0 14).toInt = (σ50.1 0 14).toInt) (show (1 : Int32).toInt = 1 from by decide) (by omega) (by omega)) | skip
          have hσ52 : K2 σ0 σ52 := by rw [eσ52]; exact hσ50.u14 (Rg2.r_0_14 (leP (rfl : v51.toInt = v51.toInt) (by omega)) (geP (rfl : v51.toInt = v51.toInt) (by omega))) (Or.inr (hσ45.z13 eσ50))
          refine ⟨fun c59 => ?_, fun c59 => ?_⟩
          · have f60 := K2.g_0_14 hσ52
            have q61 : σ52.1 0 14 = v51 := by rw [eσ52, u1_at]; exact if_pos rfl
            first | have f63 : (σ52.1 0 14).toInt = v51.toInt := (congrArg Int32.toInt q61).trans (rfl : v51.toInt = v51.toInt) | skip
            have f64 := tB (σ52.1 0 32)
            have q65 : σ52.1 0 32 = σ50.1 0 32 := by rw [eσ52, u1_at]; exact if_neg (by decide)
            have f66 := congrArg Int32.toInt q65
            have f67 := tB (σ50.1 0 32)
            have q68 : σ50.1 0 32 = σ45.1 0 32 := by rw [eσ50]; exact congrFun (u1_ne (by decide)) 32
            have f69 := congrArg Int32.toInt q68
            have f70 := tB (σ45.1 0 32)
            have q71 : σ45.1 0 32 = σ40.1 0 32 := by rw [eσ45]; exact congrFun (u1_ne (by decide)) 32
            have f72 := congrArg Int32.toInt q71
            have f73 := tB (σ40.1 0 32)
            have q74 : σ40.1 0 32 = σ35.1 0 32 := by rw [eσ40]; exact congrFun (u1_ne (by decide)) 32
            have f75 := congrArg Int32.toInt q74
            have f76 := tB (σ35.1 0 32)
            have q77 : σ35.1 0 32 = σ30.1 0 32 := by rw [eσ35]; exact congrFun (u1_ne (by decide)) 32
            have f78 := congrArg Int32.toInt q77
            have f79 := tB (σ30.1 0 32)
            have q80 : σ30.1 0 32 = σ25.1 0 32 := by rw [eσ30]; exact congrFun (u1_ne (by decide)) 32
            have f81 := congrArg Int32.toInt q80
            have f82 := tB (σ25.1 0 32)
            have q83 : σ25.1 0 32 = σ20.1 0 32 := by rw [eσ25]; exact congrFun (u1_ne (by decide)) 32
            have f84 := congrArg Int32.toInt q83
            have f85 := tB (σ20.1 0 32)
            have q86 : σ20.1 0 32 = σ10.1 0 32 := by rw [eσ20]; exact congrFun (u1_ne (by decide)) 32
            have f87 := congrArg Int32.toInt q86
            have f88 := tB (σ10.1 0 32)
            have q89 : σ10.1 0 32 = σ.1 0 32 := by rw [eσ10, u1_at]; exact if_neg (by decide)
            have f90 := congrArg Int32.toInt q89
            have f91 := tB (σ.1 0 32)
            first | have f92 := (leE (rfl : (σ52.1 0 14).toInt = (σ52.1 0 14).toInt) (rfl : (σ52.1 0 32).toInt = (σ52.1 0 32).toInt)).mp c59 | skip
            try unfold fX12_lays_j134
            intro σ93 eσ93
            have hσ93 : K2 σ0 σ93 := by rw [eσ93]; exact hσ52.u (Rg2.u_0_32 _) (fun q => absurd q.2 (by decide)) (fun q => absurd q.2 (by decide)) ⟨⟨by decide, by decide⟩, fun q => absurd q.2 (by decide)⟩
            have f94 := K2.g_0_9 hσ93
            have q95 : σ93.1 0 9 = σ52.1 0 9 := by rw [eσ93, u1_at]; exact if_neg (by decide)
            have f96 := congrArg Int32.toInt q95
            have f97 := K2.g_0_9 hσ52
            have q98 : σ52.1 0 9 = σ50.1 0 9 := by rw [eσ52, u1_at]; exact if_neg (by decide)
            have f99 := congrArg Int32.toInt q98
            have f100 := K2.g_0_9 hσ50
            have q101 : σ50.1 0 9 = σ45.1 0 9 := by rw [eσ50]; exact congrFun (u1_ne (by decide)) 9
            have f102 := congrArg Int32.toInt q101
            have f103 := K2.g_0_9 hσ45
            have q104 : σ45.1 0 9 = σ40.1 0 9 := by rw [eσ45]; exact congrFun (u1_ne (by decide)) 9
            have f105 := congrArg Int32.toInt q104
            have f106 := K2.g_0_9 hσ40
            have q107 : σ40.1 0 9 = σ35.1 0 9 := by rw [eσ40]; exact congrFun (u1_ne (by decide)) 9
            have f108 := congrArg Int32.toInt q107
            have f109 := K2.g_0_9 hσ35
            have q110 : σ35.1 0 9 = σ30.1 0 9 := by rw [eσ35]; exact congrFun (u1_ne (by decide)) 9
            have f111 := congrArg Int32.toInt q110
            have f112 := K2.g_0_9 hσ30
            have q113 : σ30.1 0 9 = σ25.1 0 9 := by rw [eσ30]; exact congrFun (u1_ne (by decide)) 9
            have f114 := congrArg Int32.toInt q113
            have f115 := K2.g_0_9 hσ25
            have q116 : σ25.1 0 9 = σ20.1 0 9 := by rw [eσ25]; exact congrFun (u1_ne (by decide)) 9
            have f117 := congrArg Int32.toInt q116
            have f118 := K2.g_0_9 hσ20
            have q119 : σ20.1 0 9 = σ10.1 0 9 := by rw [eσ20]; exact congrFun (u1_ne (by decide)) 9
            have f120 := congrArg Int32.toInt q119
            have f125 := K2.g_0_14 hσ93
            have q126 : σ93.1 0 14 = σ52.1 0 14 := by rw [eσ93, u1_at]; exact if_neg (by decide)
            have f127 := congrArg Int32.toInt q126
            exact hQ _ hσ93 (⟨(kq (a := 0) (b := 35) eσ93 (fun q => absurd q.2 (by decide))).trans ((kq (a := 0) (b := 35) eσ52 (fun q => absurd q.2 (by decide))).trans ((kq (a := 0) (b := 35) eσ50 (fun q => absurd q.1 (by decide))).trans ((kq (a := 0) (b := 35) eσ45 (fun q => absurd q.1 (by decide))).trans ((kq (a := 0) (b := 35) eσ40 (fun q => absurd q.1 (by decide))).trans ((kq (a := 0) (b := 35) eσ35 (fun q => absurd q.1 (by decide))).trans ((kq (a := 0) (b := 35) eσ30 (fun q => absurd q.1 (by decide))).trans ((kq (a := 0) (b := 35) eσ25 (fun q => absurd q.1 (by decide))).trans ((kq (a := 0) (b := 35) eσ20 (fun q => absurd q.1 (by decide))).trans ((kq (a := 0) (b := 35) eσ10 (fun q => absurd q.2 (by decide)))))))))))), (kq (a := 0) (b := 24) eσ93 (fun q => absurd q.2 (by decide))).trans ((kq (a := 0) (b := 24) eσ52 (fun q => absurd q.2 (by decide))).trans ((kq (a := 0) (b := 24) eσ50 (fun q => absurd q.1 (by decide))).trans ((kq (a := 0) (b := 24) eσ45 (fun q => absurd q.1 (by decide))).trans ((kq (a := 0) (b := 24) eσ40 (fun q => absurd q.1 (by decide))).trans ((kq (a := 0) (b := 24) eσ35 (fun q => absurd q.1 (by decide))).trans ((kq (a := 0) (b := 24) eσ30 (fun q => absurd q.1 (by decide))).trans ((kq (a := 0) (b := 24) eσ25 (fun q => absurd q.1 (by decide))).trans ((kq (a := 0) (b := 24) eσ20 (fun q => absurd q.1 (by decide))).trans ((kq (a := 0) (b := 24) eσ10 (fun q => absurd q.2 (by decide)))))))))))), (kq (a := 0) (b := 36) eσ93 (fun q => absurd q.2 (by decide))).trans ((kq (a := 0) (b := 36) eσ52 (fun q => absurd q.2 (by decide))).trans ((kq (a := 0) (b := 36) eσ50 (fun q => absurd q.1 (by decide))).trans ((kq (a := 0) (b := 36) eσ45 (fun q => absurd q.1 (by decide))).trans ((kq (a := 0) (b := 36) eσ40 (fun q => absurd q.1 (by decide))).trans ((kq (a := 0) (b := 36) eσ35 (fun q => absurd q.1 (by decide))).trans ((kq (a := 0) (b := 36) eσ30 (fun q => absurd q.1 (by decide))).trans ((kq (a := 0) (b := 36) eσ25 (fun q => absurd q.1 (by decide))).trans ((kq (a := 0) (b := 36) eσ20 (fun q => absurd q.1 (by decide))).trans ((kq (a := 0) (b := 36) eσ10 (fun q => absurd q.2 (by decide)))))))))))), (kq (a := 0) (b := 41) eσ93 (fun q => absurd q.2 (by decide))).trans ((kq (a := 0) (b := 41) eσ52 (fun q => absurd q.2 (by decide))).trans ((kq (a := 0) (b := 41) eσ50 (fun q => absurd q.1 (by decide))).trans ((kq (a := 0) (b := 41) eσ45 (fun q => absurd q.1 (by decide))).trans ((kq (a := 0) (b := 41) eσ40 (fun q => absurd q.1 (by decide))).trans ((kq (a := 0) (b := 41) eσ35 (fun q => absurd q.1 (by decide))).trans ((kq (a := 0) (b := 41) eσ30 (fun q => absurd q.1 (by decide))).trans ((kq (a := 0) (b := 41) eσ25 (fun q => absurd q.1 (by decide))).trans ((kq (a := 0) (b := 41) eσ20 (fun q => absurd q.1 (by decide))).trans ((kq (a := 0) (b := 41) eσ10 (fun q => absurd q.2 (by decide)))))))))))), (kq (a := 0) (b := 50) eσ93 (fun q => absurd q.2 (by decide))).trans ((kq (a := 0) (b := 50) eσ52 (fun q => absurd q.2 (by decide))).trans ((kq (a := 0) (b := 50) eσ50 (fun q => absurd q.1 (by decide))).trans ((kq (a := 0) (b := 50) eσ45 (fun q => absurd q.1 (by decide))).trans ((kq (a := 0) (b := 50) eσ40 (fun q => absurd q.1 (by decide))).trans ((kq (a := 0) (b := 50) eσ35 (fun q => absurd q.1 (by decide))).trans ((kq (a := 0) (b := 50) eσ30 (fun q => absurd q.1 (by decide))).trans ((kq (a := 0) (b := 50) eσ25 (fun q => absurd q.1 (by decide))).trans ((kq (a := 0) (b := 50) eσ20 (fun q => absurd q.1 (by decide))).trans ((kq (a := 0) (b := 50) eσ10 (fun q => absurd q.2 (by decide)))))))))))), (kq (a := 0) (b := 51) eσ93 (fun q => absurd q.2 (by decide))).trans ((kq (a := 0) (b := 51) eσ52 (fun q => absurd q.2 (by decide))).trans ((kq (a := 0) (b := 51) eσ50 (fun q => absurd q.1 (by decide))).trans ((kq (a := 0) (b := 51) eσ45 (fun q => absurd q.1 (by decide))).trans ((kq (a := 0) (b := 51) eσ40 (fun q => absurd q.1 (by decide))).trans ((kq (a := 0) (b := 51) eσ35 (fun q => absurd q.1 (by decide))).trans ((kq (a := 0) (b := 51) eσ30 (fun q => absurd q.1 (by decide))).trans ((kq (a := 0) (b := 51) eσ25 (fun q => absurd q.1 (by decide))).trans ((kq (a := 0) (b := 51) eσ20 (fun q => absurd q.1 (by decide))).trans ((kq (a := 0) (b := 51) eσ10 (fun q => absurd q.2 (by decide)))))))))))), (by omega), (by omega)⟩)
          · have f130 := K2.g_0_14 hσ52
            have q131 : σ52.1 0 14 = v51 := by rw [eσ52, u1_at]; exact if_pos rfl
            first | have f133 : (σ52.1 0 14).toInt = v51.toInt := (congrArg Int32.toInt q131).trans (rfl : v51.toInt = v51.toInt) | skip
            have f134 := tB (σ52.1 0 32)
            have q135 : σ52.1 0 32 = σ50.1 0 32 := by rw [eσ52, u1_at]; exact if_neg (by decide)
            have f136 := congrArg Int32.toInt q135
            have f137 := tB (σ50.1 0 32)
            have q138 : σ50.1 0 32 = σ45.1 0 32 := by rw [eσ50]; exact congrFun (u1_ne (by decide)) 32
            have f139 := congrArg Int32.toInt q138
            have f140 := tB (σ45.1 0 32)
            have q141 : σ45.1 0 32 = σ40.1 0 32 := by rw [eσ45]; exact congrFun (u1_ne (by decide)) 32
            have f142 := congrArg Int32.toInt q141
            have f143 := tB (σ40.1 0 32)
            have q144 : σ40.1 0 32 = σ35.1 0 32 := by rw [eσ40]; exact congrFun (u1_ne (by decide)) 32
            have f145 := congrArg Int32.toInt q144
            have f146 := tB (σ35.1 0 32)
            have q147 : σ35.1 0 32 = σ30.1 0 32 := by rw [eσ35]; exact congrFun (u1_ne (by decide)) 32
            have f148 := congrArg Int32.toInt q147
            have f149 := tB (σ30.1 0 32)
            have q150 : σ30.1 0 32 = σ25.1 0 32 := by rw [eσ30]; exact congrFun (u1_ne (by decide)) 32
            have f151 := congrArg Int32.toInt q150
            have f152 := tB (σ25.1 0 32)
            have q153 : σ25.1 0 32 = σ20.1 0 32 := by rw [eσ25]; exact congrFun (u1_ne (by decide)) 32
            have f154 := congrArg Int32.toInt q153
            have f155 := tB (σ20.1 0 32)
            have q156 : σ20.1 0 32 = σ10.1 0 32 := by rw [eσ20]; exact congrFun (u1_ne (by decide)) 32
            have f157 := congrArg Int32.toInt q156
            have f158 := tB (σ10.1 0 32)
            have q159 : σ10.1 0 32 = σ.1 0 32 := by rw [eσ10, u1_at]; exact if_neg (by decide)
            have f160 := congrArg Int32.toInt q159
            have f161 := tB (σ.1 0 32)
            first | have f162 := (notleE (rfl : (σ52.1 0 14).toInt = (σ52.1 0 14).toInt) (rfl : (σ52.1 0 32).toInt = (σ52.1 0 32).toInt)).mp c59 | skip
            try unfold fX12_lays_j134
            intro σ163 eσ163
            have hσ163 : K2 σ0 σ163 := by rw [eσ163]; exact hσ52.u (Rg2.u_0_32 _) (fun q => absurd q.2 (by decide)) (fun q => absurd q.2 (by decide)) ⟨⟨by decide, by decide⟩, fun q => absurd q.2 (by decide)⟩
            have f164 := K2.g_0_9 hσ163
            have q165 : σ163.1 0 9 = σ52.1 0 9 := by rw [eσ163, u1_at]; exact if_neg (by decide)
            have f166 := congrArg Int32.toInt q165
            have f167 := K2.g_0_9 hσ52
            have q168 : σ52.1 0 9 = σ50.1 0 9 := by rw [eσ52, u1_at]; exact if_neg (by decide)
            have f169 := congrArg Int32.toInt q168
            have f170 := K2.g_0_9 hσ50
            have q171 : σ50.1 0 9 = σ45.1 0 9 := by rw [eσ50]; exact congrFun (u1_ne (by decide)) 9
            have f172 := congrArg Int32.toInt q171
            have f173 := K2.g_0_9 hσ45
            have q174 : σ45.1 0 9 = σ40.1 0 9 := by rw [eσ45]; exact congrFun (u1_ne (by decide)) 9
            have f175 := congrArg Int32.toInt q174
            have f176 := K2.g_0_9 hσ40
            have q177 : σ40.1 0 9 = σ35.1 0 9 := by rw [eσ40]; exact congrFun (u1_ne (by decide)) 9
            have f178 := congrArg Int32.toInt q177
            have f179 := K2.g_0_9 hσ35
            have q180 : σ35.1 0 9 = σ30.1 0 9 := by rw [eσ35]; exact congrFun (u1_ne (by decide)) 9
            have f181 := congrArg Int32.toInt q180
            have f182 := K2.g_0_9 hσ30
            have q183 : σ30.1 0 9 = σ25.1 0 9 := by rw [eσ30]; exact congrFun (u1_ne (by decide)) 9
            have f184 := congrArg Int32.toInt q183
            have f185 := K2.g_0_9 hσ25
            have q186 : σ25.1 0 9 = σ20.1 0 9 := by rw [eσ25]; exact congrFun (u1_ne (by decide)) 9
            have f187 := congrArg Int32.toInt q186
            have f188 := K2.g_0_9 hσ20
            have q189 : σ20.1 0 9 = σ10.1 0 9 := by rw [eσ20]; exact congrFun (u1_ne (by decide)) 9
            have f190 := congrArg Int32.toInt q189
            have f195 := K2.g_0_14 hσ163
            have q196 : σ163.1 0 14 = σ52.1 0 14 := by rw [eσ163, u1_at]; exact if_neg (by decide)
            have f197 := congrArg Int32.toInt q196
            exact hQ _ hσ163 (⟨(kq (a := 0) (b := 35) eσ163 (fun q => absurd q.2 (by decide))).trans ((kq (a := 0) (b := 35) eσ52 (fun q => absurd q.2 (by decide))).trans ((kq (a := 0) (b := 35) eσ50 (fun q => absurd q.1 (by decide))).trans ((kq (a := 0) (b := 35) eσ45 (fun q => absurd q.1 (by decide))).trans ((kq (a := 0) (b := 35) eσ40 (fun q => absurd q.1 (by decide))).trans ((kq (a := 0) (b := 35) eσ35 (fun q => absurd q.1 (by decide))).trans ((kq (a := 0) (b := 35) eσ30 (fun q => absurd q.1 (by decide))).trans ((kq (a := 0) (b := 35) eσ25 (fun q => absurd q.1 (by decide))).trans ((kq (a := 0) (b := 35) eσ20 (fun q => absurd q.1 (by decide))).trans ((kq (a := 0) (b := 35) eσ10 (fun q => absurd q.2 (by decide)))))))))))), (kq (a := 0) (b := 24) eσ163 (fun q => absurd q.2 (by decide))).trans ((kq (a := 0) (b := 24) eσ52 (fun q => absurd q.2 (by decide))).trans ((kq (a := 0) (b := 24) eσ50 (fun q => absurd q.1 (by decide))).trans ((kq (a := 0) (b := 24) eσ45 (fun q => absurd q.1 (by decide))).trans ((kq (a := 0) (b := 24) eσ40 (fun q => absurd q.1 (by decide))).trans ((kq (a := 0) (b := 24) eσ35 (fun q => absurd q.1 (by decide))).trans ((kq (a := 0) (b := 24) eσ30 (fun q => absurd q.1 (by decide))).trans ((kq (a := 0) (b := 24) eσ25 (fun q => absurd q.1 (by decide))).trans ((kq (a := 0) (b := 24) eσ20 (fun q => absurd q.1 (by decide))).trans ((kq (a := 0) (b := 24) eσ10 (fun q => absurd q.2 (by decide)))))))))))), (kq (a := 0) (b := 36) eσ163 (fun q => absurd q.2 (by decide))).trans ((kq (a := 0) (b := 36) eσ52 (fun q => absurd q.2 (by decide))).trans ((kq (a := 0) (b := 36) eσ50 (fun q => absurd q.1 (by decide))).trans ((kq (a := 0) (b := 36) eσ45 (fun q => absurd q.1 (by decide))).trans ((kq (a := 0) (b := 36) eσ40 (fun q => absurd q.1 (by decide))).trans ((kq (a := 0) (b := 36) eσ35 (fun q => absurd q.1 (by decide))).trans ((kq (a := 0) (b := 36) eσ30 (fun q => absurd q.1 (by decide))).trans ((kq (a := 0) (b := 36) eσ25 (fun q => absurd q.1 (by decide))).trans ((kq (a := 0) (b := 36) eσ20 (fun q => absurd q.1 (by decide))).trans ((kq (a := 0) (b := 36) eσ10 (fun q => absurd q.2 (by decide)))))))))))), (kq (a := 0) (b := 41) eσ163 (fun q => absurd q.2 (by decide))).trans ((kq (a := 0) (b := 41) eσ52 (fun q => absurd q.2 (by decide))).trans ((kq (a := 0) (b := 41) eσ50 (fun q => absurd q.1 (by decide))).trans ((kq (a := 0) (b := 41) eσ45 (fun q => absurd q.1 (by decide))).trans ((kq (a := 0) (b := 41) eσ40 (fun q => absurd q.1 (by decide))).trans ((kq (a := 0) (b := 41) eσ35 (fun q => absurd q.1 (by decide))).trans ((kq (a := 0) (b := 41) eσ30 (fun q => absurd q.1 (by decide))).trans ((kq (a := 0) (b := 41) eσ25 (fun q => absurd q.1 (by decide))).trans ((kq (a := 0) (b := 41) eσ20 (fun q => absurd q.1 (by decide))).trans ((kq (a := 0) (b := 41) eσ10 (fun q => absurd q.2 (by decide)))))))))))), (kq (a := 0) (b := 50) eσ163 (fun q => absurd q.2 (by decide))).trans ((kq (a := 0) (b := 50) eσ52 (fun q => absurd q.2 (by decide))).trans ((kq (a := 0) (b := 50) eσ50 (fun q => absurd q.1 (by decide))).trans ((kq (a := 0) (b := 50) eσ45 (fun q => absurd q.1 (by decide))).trans ((kq (a := 0) (b := 50) eσ40 (fun q => absurd q.1 (by decide))).trans ((kq (a := 0) (b := 50) eσ35 (fun q => absurd q.1 (by decide))).trans ((kq (a := 0) (b := 50) eσ30 (fun q => absurd q.1 (by decide))).trans ((kq (a := 0) (b := 50) eσ25 (fun q => absurd q.1 (by decide))).trans ((kq (a := 0) (b := 50) eσ20 (fun q => absurd q.1 (by decide))).trans ((kq (a := 0) (b := 50) eσ10 (fun q => absurd q.2 (by decide)))))))))))), (kq (a := 0) (b := 51) eσ163 (fun q => absurd q.2 (by decide))).trans ((kq (a := 0) (b := 51) eσ52 (fun q => absurd q.2 (by decide))).trans ((kq (a := 0) (b := 51) eσ50 (fun q => absurd q.1 (by decide))).trans ((kq (a := 0) (b := 51) eσ45 (fun q => absurd q.1 (by decide))).trans ((kq (a := 0) (b := 51) eσ40 (fun q => absurd q.1 (by decide))).trans ((kq (a := 0) (b := 51) eσ35 (fun q => absurd q.1 (by decide))).trans ((kq (a := 0) (b := 51) eσ30 (fun q => absurd q.1 (by decide))).trans ((kq (a := 0) (b := 51) eσ25 (fun q => absurd q.1 (by decide))).trans ((kq (a := 0) (b := 51) eσ20 (fun q => absurd q.1 (by decide))).trans ((kq (a := 0) (b := 51) eσ10 (fun q => absurd q.2 (by decide)))))))))))), (by omega), (by omega)⟩)
        · have f200 := K2.g_0_9 hσ10
          have q201 : σ10.1 0 9 = 8 := by rw [eσ10, u1_at]; exact if_pos rfl
          first | have f202 : (σ10.1 0 9).toInt = (8) := (congrArg Int32.toInt q201).trans (show (8 : Int32).toInt = 8 from by decide) | skip
          first | have f203 := (noteqE (rfl : (σ10.1 0 9).toInt = (σ10.1 0 9).toInt) (show (0 : Int32).toInt = 0 from by decide)).mp c11 | skip
          have f208 := K2.g_0_14 hσ10
          have q209 : σ10.1 0 14 = σ.1 0 14 := by rw [eσ10, u1_at]; exact if_neg (by decide)
          have f210 := congrArg Int32.toInt q209
          exact hQ _ hσ10 (⟨(kq (a := 0) (b := 35) eσ10 (fun q => absurd q.2 (by decide))), (kq (a := 0) (b := 24) eσ10 (fun q => absurd q.2 (by decide))), (kq (a := 0) (b := 36) eσ10 (fun q => absurd q.2 (by decide))), (kq (a := 0) (b := 41) eσ10 (fun q => absurd q.2 (by decide))), (kq (a := 0) (b := 50) eσ10 (fun q => absurd q.2 (by decide))), (kq (a := 0) (b := 51) eσ10 (fun q => absurd q.2 (by decide))), (by omega), (by omega)⟩)
      · first | have f214 := (noteqE (rfl : (σ.1 0 9).toInt = (σ.1 0 9).toInt) (show (0 : Int32).toInt = 0 from by decide)).mp c7 | skip
        try unfold fX12_fails_j16
        intro σ215 eσ215
        have hσ215 : K2 σ0 σ215 := by rw [eσ215]; exact hσ.u (Rg2.r_0_9 (leP (rfl : (σ.1 0 9).toInt = (σ.1 0 9).toInt) (by omega)) (geP (rfl : (σ.1 0 9).toInt = (σ.1 0 9).toInt) (by omega))) (fun q => absurd q.2 (by decide)) (fun q => absurd q.2 (by decide)) ⟨⟨by decide, by decide⟩, fun q => absurd q.2 (by decide)⟩
        try dsimp only
        try unfold fX12_lays_j22
        refine ⟨fun c217 => ?_, fun c217 => ?_⟩
        · have f218 := K2.g_0_9 hσ215
          have q219 : σ215.1 0 9 = (σ.1 0 9) := by rw [eσ215, u1_at]; exact if_pos rfl
          first | have f221 : (σ215.1 0 9).toInt = (σ.1 0 9).toInt := (congrArg Int32.toInt q219).trans (rfl : (σ.1 0 9).toInt = (σ.1 0 9).toInt) | skip
          first | have f222 := (eqE (rfl : (σ215.1 0 9).toInt = (σ215.1 0 9).toInt) (show (0 : Int32).toInt = 0 from by decide)).mp c217 | skip
          have f223 := K2.g_0_14 hσ215
          have q224 : σ215.1 0 14 = σ.1 0 14 := by rw [eσ215, u1_at]; exact if_neg (by decide)
          have f225 := congrArg Int32.toInt q224
          refine ⟨inE (rfl : (σ215.1 0 14).toInt = (σ215.1 0 14).toInt) (by omega) (by omega), ?_⟩
          intro σ227 eσ227
          have hσ227 : K2 σ0 σ227 := by rw [eσ227]; exact hσ215.u (Rg2.ra_6 _ _) (fun q => absurd q.1 (by decide)) (fun q => absurd q.1 (by decide)) ⟨⟨by decide, by decide⟩, fun q => absurd q.1 (by decide)⟩
          have f228 := K2.g_0_14 hσ227
          have q229 : σ227.1 0 14 = σ215.1 0 14 := by rw [eσ227]; exact congrFun (u1_ne (by decide)) 14
          have f230 := congrArg Int32.toInt q229
          refine ⟨inE (rfl : (σ227.1 0 14).toInt = (σ227.1 0 14).toInt) (by omega) (by omega), ?_⟩
          intro σ232 eσ232
          have hσ232 : K2 σ0 σ232 := by rw [eσ232]; exact hσ227.u (Rg2.ra_7 _ _) (fun q => absurd q.1 (by decide)) (fun q => absurd q.1 (by decide)) ⟨⟨by decide, by decide⟩, fun q => absurd q.1 (by decide)⟩
          have f233 := K2.g_0_14 hσ232
          have q234 : σ232.1 0 14 = σ227.1 0 14 := by rw [eσ232]; exact congrFun (u1_ne (by decide)) 14
          have f235 := congrArg Int32.toInt q234
          refine ⟨inE (rfl : (σ232.1 0 14).toInt = (σ232.1 0 14).toInt) (by omega) (by omega), ?_⟩
          intro σ237 eσ237
          have hσ237 : K2 σ0 σ237 := by rw [eσ237]; exact hσ232.u (Rg2.ra_8 _ _) (fun q => absurd q.1 (by decide)) (fun q => absurd q.1 (by decide)) ⟨⟨by decide, by decide⟩, fun q => absurd q.1 (by decide)⟩
          have f238 := K2.g_0_14 hσ237
          have q239 : σ237.1 0 14 = σ232.1 0 14 := by rw [eσ237]; exact congrFun (u1_ne (by decide)) 14
          have f240 := congrArg Int32.toInt q239
          refine ⟨inE (rfl : (σ237.1 0 14).toInt = (σ237.1 0 14).toInt) (by omega) (by omega), ?_⟩
          intro σ242 eσ242
          have hσ242 : K2 σ0 σ242 := by rw [eσ242]; exact hσ237.u (Rg2.ra_9 (leP (show (0 : Int32).toInt = 0 from by decide) (by omega)) (geP (show (0 : Int32).toInt = 0 from by decide) (by omega))) (fun q => absurd q.1 (by decide)) (fun q => absurd q.1 (by decide)) ⟨⟨by decide, by decide⟩, fun q => absurd q.1 (by decide)⟩
          have f243 := K2.g_0_14 hσ242
          have q244 : σ242.1 0 14 = σ237.1 0 14 := by rw [eσ242]; exact congrFun (u1_ne (by decide)) 14
          have f245 := congrArg Int32.toInt q244
          refine ⟨inE (rfl : (σ242.1 0 14).toInt = (σ242.1 0 14).toInt) (by omega) (by omega), ?_⟩
          intro σ247 eσ247
          have hσ247 : K2 σ0 σ247 := by rw [eσ247]; exact hσ242.u (Rg2.ra_11 _ _) (fun q => absurd q.1 (by decide)) (fun q => absurd q.1 (by decide)) ⟨⟨by decide, by decide⟩, fun q => absurd q.1 (by decide)⟩
          have f248 := K2.g_0_14 hσ247
          have q249 : σ247.1 0 14 = σ242.1 0 14 := by rw [eσ247]; exact congrFun (u1_ne (by decide)) 14
          have f250 := congrArg Int32.toInt q249
          refine ⟨inE (rfl : (σ247.1 0 14).toInt = (σ247.1 0 14).toInt) (by omega) (by omega), ?_⟩
          intro σ252 eσ252
          have hσ252 : K2 σ0 σ252 := by rw [eσ252]; exact hσ247.u (Rg2.ra_12 _ _) (fun q => absurd q.1 (by decide)) (fun q => absurd q.1 (by decide)) ⟨⟨by decide, by decide⟩, fun q => absurd q.1 (by decide)⟩
          have f253 := K2.g_0_14 hσ252
          have q254 : σ252.1 0 14 = σ247.1 0 14 := by rw [eσ252]; exact congrFun (u1_ne (by decide)) 14
          have f255 := congrArg Int32.toInt q254
          refine ⟨inE (rfl : (σ252.1 0 14).toInt = (σ252.1 0 14).toInt) (by omega) (by omega), ?_⟩
          intro σ257 eσ257
          have hσ257 : K2 σ0 σ257 := by rw [eσ257]; exact hσ252.u13 (Or.inl (by decide))
          intro v258 ev258
          intro σ259 eσ259
          have f260 := tB v258
          have f261 := K2.g_0_14 hσ257
          have q262 : σ257.1 0 14 = σ252.1 0 14 := by rw [eσ257]; exact congrFun (u1_ne (by decide)) 14
          have f263 := congrArg Int32.toInt q262
          first | have f265 : v258.toInt = ((σ257.1 0 14).toInt + (1)) := (congrArg Int32.toInt ev258).trans (aOkE (rfl : (σ257.1 0 14).toInt = (σ257.1 0 14).toInt) (show (1 : Int32).toInt = 1 from by decide) (by omega) (by omega)) | skip
          have hσ259 : K2 σ0 σ259 := by rw [eσ259]; exact hσ257.u14 (Rg2.r_0_14 (leP (rfl : v258.toInt = v258.toInt) (by omega)) (geP (rfl : v258.toInt = v258.toInt) (by omega))) (Or.inr (hσ252.z13 eσ257))
          refine ⟨fun c266 => ?_, fun c266 => ?_⟩
          · have f267 := K2.g_0_14 hσ259
            have q268 : σ259.1 0 14 = v258 := by rw [eσ259, u1_at]; exact if_pos rfl
            first | have f270 : (σ259.1 0 14).toInt = v258.toInt := (congrArg Int32.toInt q268).trans (rfl : v258.toInt = v258.toInt) | skip
            have f271 := tB (σ259.1 0 32)
            have q272 : σ259.1 0 32 = σ257.1 0 32 := by rw [eσ259, u1_at]; exact if_neg (by decide)
            have f273 := congrArg Int32.toInt q272
            have f274 := tB (σ257.1 0 32)
            have q275 : σ257.1 0 32 = σ252.1 0 32 := by rw [eσ257]; exact congrFun (u1_ne (by decide)) 32
            have f276 := congrArg Int32.toInt q275
            have f277 := tB (σ252.1 0 32)
            have q278 : σ252.1 0 32 = σ247.1 0 32 := by rw [eσ252]; exact congrFun (u1_ne (by decide)) 32
            have f279 := congrArg Int32.toInt q278
            have f280 := tB (σ247.1 0 32)
            have q281 : σ247.1 0 32 = σ242.1 0 32 := by rw [eσ247]; exact congrFun (u1_ne (by decide)) 32
            have f282 := congrArg Int32.toInt q281
            have f283 := tB (σ242.1 0 32)
            have q284 : σ242.1 0 32 = σ237.1 0 32 := by rw [eσ242]; exact congrFun (u1_ne (by decide)) 32
            have f285 := congrArg Int32.toInt q284
            have f286 := tB (σ237.1 0 32)
            have q287 : σ237.1 0 32 = σ232.1 0 32 := by rw [eσ237]; exact congrFun (u1_ne (by decide)) 32
            have f288 := congrArg Int32.toInt q287
            have f289 := tB (σ232.1 0 32)
            have q290 : σ232.1 0 32 = σ227.1 0 32 := by rw [eσ232]; exact congrFun (u1_ne (by decide)) 32
            have f291 := congrArg Int32.toInt q290
            have f292 := tB (σ227.1 0 32)
            have q293 : σ227.1 0 32 = σ215.1 0 32 := by rw [eσ227]; exact congrFun (u1_ne (by decide)) 32
            have f294 := congrArg Int32.toInt q293
            have f295 := tB (σ215.1 0 32)
            have q296 : σ215.1 0 32 = σ.1 0 32 := by rw [eσ215, u1_at]; exact if_neg (by decide)
            have f297 := congrArg Int32.toInt q296
            have f298 := tB (σ.1 0 32)
            first | have f299 := (leE (rfl : (σ259.1 0 14).toInt = (σ259.1 0 14).toInt) (rfl : (σ259.1 0 32).toInt = (σ259.1 0 32).toInt)).mp c266 | skip
            try unfold fX12_lays_j134
            intro σ300 eσ300
            have hσ300 : K2 σ0 σ300 := by rw [eσ300]; exact hσ259.u (Rg2.u_0_32 _) (fun q => absurd q.2 (by decide)) (fun q => absurd q.2 (by decide)) ⟨⟨by decide, by decide⟩, fun q => absurd q.2 (by decide)⟩
            have f301 := K2.g_0_9 hσ300
            have q302 : σ300.1 0 9 = σ259.1 0 9 := by rw [eσ300, u1_at]; exact if_neg (by decide)
            have f303 := congrArg Int32.toInt q302
            have f304 := K2.g_0_9 hσ259
            have q305 : σ259.1 0 9 = σ257.1 0 9 := by rw [eσ259, u1_at]; exact if_neg (by decide)
            have f306 := congrArg Int32.toInt q305
            have f307 := K2.g_0_9 hσ257
            have q308 : σ257.1 0 9 = σ252.1 0 9 := by rw [eσ257]; exact congrFun (u1_ne (by decide)) 9
            have f309 := congrArg Int32.toInt q308
            have f310 := K2.g_0_9 hσ252
            have q311 : σ252.1 0 9 = σ247.1 0 9 := by rw [eσ252]; exact congrFun (u1_ne (by decide)) 9
            have f312 := congrArg Int32.toInt q311
            have f313 := K2.g_0_9 hσ247
            have q314 : σ247.1 0 9 = σ242.1 0 9 := by rw [eσ247]; exact congrFun (u1_ne (by decide)) 9
            have f315 := congrArg Int32.toInt q314
            have f316 := K2.g_0_9 hσ242
            have q317 : σ242.1 0 9 = σ237.1 0 9 := by rw [eσ242]; exact congrFun (u1_ne (by decide)) 9
            have f318 := congrArg Int32.toInt q317
            have f319 := K2.g_0_9 hσ237
            have q320 : σ237.1 0 9 = σ232.1 0 9 := by rw [eσ237]; exact congrFun (u1_ne (by decide)) 9
            have f321 := congrArg Int32.toInt q320
            have f322 := K2.g_0_9 hσ232
            have q323 : σ232.1 0 9 = σ227.1 0 9 := by rw [eσ232]; exact congrFun (u1_ne (by decide)) 9
            have f324 := congrArg Int32.toInt q323
            have f325 := K2.g_0_9 hσ227
            have q326 : σ227.1 0 9 = σ215.1 0 9 := by rw [eσ227]; exact congrFun (u1_ne (by decide)) 9
            have f327 := congrArg Int32.toInt q326
            have f332 := K2.g_0_14 hσ300
            have q333 : σ300.1 0 14 = σ259.1 0 14 := by rw [eσ300, u1_at]; exact if_neg (by decide)
            have f334 := congrArg Int32.toInt q333
            exact hQ _ hσ300 (⟨(kq (a := 0) (b := 35) eσ300 (fun q => absurd q.2 (by decide))).trans ((kq (a := 0) (b := 35) eσ259 (fun q => absurd q.2 (by decide))).trans ((kq (a := 0) (b := 35) eσ257 (fun q => absurd q.1 (by decide))).trans ((kq (a := 0) (b := 35) eσ252 (fun q => absurd q.1 (by decide))).trans ((kq (a := 0) (b := 35) eσ247 (fun q => absurd q.1 (by decide))).trans ((kq (a := 0) (b := 35) eσ242 (fun q => absurd q.1 (by decide))).trans ((kq (a := 0) (b := 35) eσ237 (fun q => absurd q.1 (by decide))).trans ((kq (a := 0) (b := 35) eσ232 (fun q => absurd q.1 (by decide))).trans ((kq (a := 0) (b := 35) eσ227 (fun q => absurd q.1 (by decide))).trans ((kq (a := 0) (b := 35) eσ215 (fun q => absurd q.2 (by decide)))))))))))), (kq (a := 0) (b := 24) eσ300 (fun q => absurd q.2 (by decide))).trans ((kq (a := 0) (b := 24) eσ259 (fun q => absurd q.2 (by decide))).trans ((kq (a := 0) (b := 24) eσ257 (fun q => absurd q.1 (by decide))).trans ((kq (a := 0) (b := 24) eσ252 (fun q => absurd q.1 (by decide))).trans ((kq (a := 0) (b := 24) eσ247 (fun q => absurd q.1 (by decide))).trans ((kq (a := 0) (b := 24) eσ242 (fun q => absurd q.1 (by decide))).trans ((kq (a := 0) (b := 24) eσ237 (fun q => absurd q.1 (by decide))).trans ((kq (a := 0) (b := 24) eσ232 (fun q => absurd q.1 (by decide))).trans ((kq (a := 0) (b := 24) eσ227 (fun q => absurd q.1 (by decide))).trans ((kq (a := 0) (b := 24) eσ215 (fun q => absurd q.2 (by decide)))))))))))), (kq (a := 0) (b := 36) eσ300 (fun q => absurd q.2 (by decide))).trans ((kq (a := 0) (b := 36) eσ259 (fun q => absurd q.2 (by decide))).trans ((kq (a := 0) (b := 36) eσ257 (fun q => absurd q.1 (by decide))).trans ((kq (a := 0) (b := 36) eσ252 (fun q => absurd q.1 (by decide))).trans ((kq (a := 0) (b := 36) eσ247 (fun q => absurd q.1 (by decide))).trans ((kq (a := 0) (b := 36) eσ242 (fun q => absurd q.1 (by decide))).trans ((kq (a := 0) (b := 36) eσ237 (fun q => absurd q.1 (by decide))).trans ((kq (a := 0) (b := 36) eσ232 (fun q => absurd q.1 (by decide))).trans ((kq (a := 0) (b := 36) eσ227 (fun q => absurd q.1 (by decide))).trans ((kq (a := 0) (b := 36) eσ215 (fun q => absurd q.2 (by decide)))))))))))), (kq (a := 0) (b := 41) eσ300 (fun q => absurd q.2 (by decide))).trans ((kq (a := 0) (b := 41) eσ259 (fun q => absurd q.2 (by decide))).trans ((kq (a := 0) (b := 41) eσ257 (fun q => absurd q.1 (by decide))).trans ((kq (a := 0) (b := 41) eσ252 (fun q => absurd q.1 (by decide))).trans ((kq (a := 0) (b := 41) eσ247 (fun q => absurd q.1 (by decide))).trans ((kq (a := 0) (b := 41) eσ242 (fun q => absurd q.1 (by decide))).trans ((kq (a := 0) (b := 41) eσ237 (fun q => absurd q.1 (by decide))).trans ((kq (a := 0) (b := 41) eσ232 (fun q => absurd q.1 (by decide))).trans ((kq (a := 0) (b := 41) eσ227 (fun q => absurd q.1 (by decide))).trans ((kq (a := 0) (b := 41) eσ215 (fun q => absurd q.2 (by decide)))))))))))), (kq (a := 0) (b := 50) eσ300 (fun q => absurd q.2 (by decide))).trans ((kq (a := 0) (b := 50) eσ259 (fun q => absurd q.2 (by decide))).trans ((kq (a := 0) (b := 50) eσ257 (fun q => absurd q.1 (by decide))).trans ((kq (a := 0) (b := 50) eσ252 (fun q => absurd q.1 (by decide))).trans ((kq (a := 0) (b := 50) eσ247 (fun q => absurd q.1 (by decide))).trans ((kq (a := 0) (b := 50) eσ242 (fun q => absurd q.1 (by decide))).trans ((kq (a := 0) (b := 50) eσ237 (fun q => absurd q.1 (by decide))).trans ((kq (a := 0) (b := 50) eσ232 (fun q => absurd q.1 (by decide))).trans ((kq (a := 0) (b := 50) eσ227 (fun q => absurd q.1 (by decide))).trans ((kq (a := 0) (b := 50) eσ215 (fun q => absurd q.2 (by decide)))))))))))), (kq (a := 0) (b := 51) eσ300 (fun q => absurd q.2 (by decide))).trans ((kq (a := 0) (b := 51) eσ259 (fun q => absurd q.2 (by decide))).trans ((kq (a := 0) (b := 51) eσ257 (fun q => absurd q.1 (by decide))).trans ((kq (a := 0) (b := 51) eσ252 (fun q => absurd q.1 (by decide))).trans ((kq (a := 0) (b := 51) eσ247 (fun q => absurd q.1 (by decide))).trans ((kq (a := 0) (b := 51) eσ242 (fun q => absurd q.1 (by decide))).trans ((kq (a := 0) (b := 51) eσ237 (fun q => absurd q.1 (by decide))).trans ((kq (a := 0) (b := 51) eσ232 (fun q => absurd q.1 (by decide))).trans ((kq (a := 0) (b := 51) eσ227 (fun q => absurd q.1 (by decide))).trans ((kq (a := 0) (b := 51) eσ215 (fun q => absurd q.2 (by decide)))))))))))), (by omega), (by omega)⟩)
          · have f337 := K2.g_0_14 hσ259
            have q338 : σ259.1 0 14 = v258 := by rw [eσ259, u1_at]; exact if_pos rfl
            first | have f340 : (σ259.1 0 14).toInt = v258.toInt := (congrArg Int32.toInt q338).trans (rfl : v258.toInt = v258.toInt) | skip
            have f341 := tB (σ259.1 0 32)
            have q342 : σ259.1 0 32 = σ257.1 0 32 := by rw [eσ259, u1_at]; exact if_neg (by decide)
            have f343 := congrArg Int32.toInt q342
            have f344 := tB (σ257.1 0 32)
            have q345 : σ257.1 0 32 = σ252.1 0 32 := by rw [eσ257]; exact congrFun (u1_ne (by decide)) 32
            have f346 := congrArg Int32.toInt q345
            have f347 := tB (σ252.1 0 32)
            have q348 : σ252.1 0 32 = σ247.1 0 32 := by rw [eσ252]; exact congrFun (u1_ne (by decide)) 32
            have f349 := congrArg Int32.toInt q348
            have f350 := tB (σ247.1 0 32)
            have q351 : σ247.1 0 32 = σ242.1 0 32 := by rw [eσ247]; exact congrFun (u1_ne (by decide)) 32
            have f352 := congrArg Int32.toInt q351
            have f353 := tB (σ242.1 0 32)
            have q354 : σ242.1 0 32 = σ237.1 0 32 := by rw [eσ242]; exact congrFun (u1_ne (by decide)) 32
            have f355 := congrArg Int32.toInt q354
            have f356 := tB (σ237.1 0 32)
            have q357 : σ237.1 0 32 = σ232.1 0 32 := by rw [eσ237]; exact congrFun (u1_ne (by decide)) 32
            have f358 := congrArg Int32.toInt q357
            have f359 := tB (σ232.1 0 32)
            have q360 : σ232.1 0 32 = σ227.1 0 32 := by rw [eσ232]; exact congrFun (u1_ne (by decide)) 32
            have f361 := congrArg Int32.toInt q360
            have f362 := tB (σ227.1 0 32)
            have q363 : σ227.1 0 32 = σ215.1 0 32 := by rw [eσ227]; exact congrFun (u1_ne (by decide)) 32
            have f364 := congrArg Int32.toInt q363
            have f365 := tB (σ215.1 0 32)
            have q366 : σ215.1 0 32 = σ.1 0 32 := by rw [eσ215, u1_at]; exact if_neg (by decide)
            have f367 := congrArg Int32.toInt q366
            have f368 := tB (σ.1 0 32)
            first | have f369 := (notleE (rfl : (σ259.1 0 14).toInt = (σ259.1 0 14).toInt) (rfl : (σ259.1 0 32).toInt = (σ259.1 0 32).toInt)).mp c266 | skip
            try unfold fX12_lays_j134
            intro σ370 eσ370
            have hσ370 : K2 σ0 σ370 := by rw [eσ370]; exact hσ259.u (Rg2.u_0_32 _) (fun q => absurd q.2 (by decide)) (fun q => absurd q.2 (by decide)) ⟨⟨by decide, by decide⟩, fun q => absurd q.2 (by decide)⟩
            have f371 := K2.g_0_9 hσ370
            have q372 : σ370.1 0 9 = σ259.1 0 9 := by rw [eσ370, u1_at]; exact if_neg (by decide)
            have f373 := congrArg Int32.toInt q372
            have f374 := K2.g_0_9 hσ259
            have q375 : σ259.1 0 9 = σ257.1 0 9 := by rw [eσ259, u1_at]; exact if_neg (by decide)
            have f376 := congrArg Int32.toInt q375
            have f377 := K2.g_0_9 hσ257
            have q378 : σ257.1 0 9 = σ252.1 0 9 := by rw [eσ257]; exact congrFun (u1_ne (by decide)) 9
            have f379 := congrArg Int32.toInt q378
            have f380 := K2.g_0_9 hσ252
            have q381 : σ252.1 0 9 = σ247.1 0 9 := by rw [eσ252]; exact congrFun (u1_ne (by decide)) 9
            have f382 := congrArg Int32.toInt q381
            have f383 := K2.g_0_9 hσ247
            have q384 : σ247.1 0 9 = σ242.1 0 9 := by rw [eσ247]; exact congrFun (u1_ne (by decide)) 9
            have f385 := congrArg Int32.toInt q384
            have f386 := K2.g_0_9 hσ242
            have q387 : σ242.1 0 9 = σ237.1 0 9 := by rw [eσ242]; exact congrFun (u1_ne (by decide)) 9
            have f388 := congrArg Int32.toInt q387
            have f389 := K2.g_0_9 hσ237
            have q390 : σ237.1 0 9 = σ232.1 0 9 := by rw [eσ237]; exact congrFun (u1_ne (by decide)) 9
            have f391 := congrArg Int32.toInt q390
            have f392 := K2.g_0_9 hσ232
            have q393 : σ232.1 0 9 = σ227.1 0 9 := by rw [eσ232]; exact congrFun (u1_ne (by decide)) 9
            have f394 := congrArg Int32.toInt q393
            have f395 := K2.g_0_9 hσ227
            have q396 : σ227.1 0 9 = σ215.1 0 9 := by rw [eσ227]; exact congrFun (u1_ne (by decide)) 9
            have f397 := congrArg Int32.toInt q396
            have f402 := K2.g_0_14 hσ370
            have q403 : σ370.1 0 14 = σ259.1 0 14 := by rw [eσ370, u1_at]; exact if_neg (by decide)
            have f404 := congrArg Int32.toInt q403
            exact hQ _ hσ370 (⟨(kq (a := 0) (b := 35) eσ370 (fun q => absurd q.2 (by decide))).trans ((kq (a := 0) (b := 35) eσ259 (fun q => absurd q.2 (by decide))).trans ((kq (a := 0) (b := 35) eσ257 (fun q => absurd q.1 (by decide))).trans ((kq (a := 0) (b := 35) eσ252 (fun q => absurd q.1 (by decide))).trans ((kq (a := 0) (b := 35) eσ247 (fun q => absurd q.1 (by decide))).trans ((kq (a := 0) (b := 35) eσ242 (fun q => absurd q.1 (by decide))).trans ((kq (a := 0) (b := 35) eσ237 (fun q => absurd q.1 (by decide))).trans ((kq (a := 0) (b := 35) eσ232 (fun q => absurd q.1 (by decide))).trans ((kq (a := 0) (b := 35) eσ227 (fun q => absurd q.1 (by decide))).trans ((kq (a := 0) (b := 35) eσ215 (fun q => absurd q.2 (by decide)))))))))))), (kq (a := 0) (b := 24) eσ370 (fun q => absurd q.2 (by decide))).trans ((kq (a := 0) (b := 24) eσ259 (fun q => absurd q.2 (by decide))).trans ((kq (a := 0) (b := 24) eσ257 (fun q => absurd q.1 (by decide))).trans ((kq (a := 0) (b := 24) eσ252 (fun q => absurd q.1 (by decide))).trans ((kq (a := 0) (b := 24) eσ247 (fun q => absurd q.1 (by decide))).trans ((kq (a := 0) (b := 24) eσ242 (fun q => absurd q.1 (by decide))).trans ((kq (a := 0) (b := 24) eσ237 (fun q => absurd q.1 (by decide))).trans ((kq (a := 0) (b := 24) eσ232 (fun q => absurd q.1 (by decide))).trans ((kq (a := 0) (b := 24) eσ227 (fun q => absurd q.1 (by decide))).trans ((kq (a := 0) (b := 24) eσ215 (fun q => absurd q.2 (by decide)))))))))))), (kq (a := 0) (b := 36) eσ370 (fun q => absurd q.2 (by decide))).trans ((kq (a := 0) (b := 36) eσ259 (fun q => absurd q.2 (by decide))).trans ((kq (a := 0) (b := 36) eσ257 (fun q => absurd q.1 (by decide))).trans ((kq (a := 0) (b := 36) eσ252 (fun q => absurd q.1 (by decide))).trans ((kq (a := 0) (b := 36) eσ247 (fun q => absurd q.1 (by decide))).trans ((kq (a := 0) (b := 36) eσ242 (fun q => absurd q.1 (by decide))).trans ((kq (a := 0) (b := 36) eσ237 (fun q => absurd q.1 (by decide))).trans ((kq (a := 0) (b := 36) eσ232 (fun q => absurd q.1 (by decide))).trans ((kq (a := 0) (b := 36) eσ227 (fun q => absurd q.1 (by decide))).trans ((kq (a := 0) (b := 36) eσ215 (fun q => absurd q.2 (by decide)))))))))))), (kq (a := 0) (b := 41) eσ370 (fun q => absurd q.2 (by decide))).trans ((kq (a := 0) (b := 41) eσ259 (fun q => absurd q.2 (by decide))).trans ((kq (a := 0) (b := 41) eσ257 (fun q => absurd q.1 (by decide))).trans ((kq (a := 0) (b := 41) eσ252 (fun q => absurd q.1 (by decide))).trans ((kq (a := 0) (b := 41) eσ247 (fun q => absurd q.1 (by decide))).trans ((kq (a := 0) (b := 41) eσ242 (fun q => absurd q.1 (by decide))).trans ((kq (a := 0) (b := 41) eσ237 (fun q => absurd q.1 (by decide))).trans ((kq (a := 0) (b := 41) eσ232 (fun q => absurd q.1 (by decide))).trans ((kq (a := 0) (b := 41) eσ227 (fun q => absurd q.1 (by decide))).trans ((kq (a := 0) (b := 41) eσ215 (fun q => absurd q.2 (by decide)))))))))))), (kq (a := 0) (b := 50) eσ370 (fun q => absurd q.2 (by decide))).trans ((kq (a := 0) (b := 50) eσ259 (fun q => absurd q.2 (by decide))).trans ((kq (a := 0) (b := 50) eσ257 (fun q => absurd q.1 (by decide))).trans ((kq (a := 0) (b := 50) eσ252 (fun q => absurd q.1 (by decide))).trans ((kq (a := 0) (b := 50) eσ247 (fun q => absurd q.1 (by decide))).trans ((kq (a := 0) (b := 50) eσ242 (fun q => absurd q.1 (by decide))).trans ((kq (a := 0) (b := 50) eσ237 (fun q => absurd q.1 (by decide))).trans ((kq (a := 0) (b := 50) eσ232 (fun q => absurd q.1 (by decide))).trans ((kq (a := 0) (b := 50) eσ227 (fun q => absurd q.1 (by decide))).trans ((kq (a := 0) (b := 50) eσ215 (fun q => absurd q.2 (by decide)))))))))))), (kq (a := 0) (b := 51) eσ370 (fun q => absurd q.2 (by decide))).trans ((kq (a := 0) (b := 51) eσ259 (fun q => absurd q.2 (by decide))).trans ((kq (a := 0) (b := 51) eσ257 (fun q => absurd q.1 (by decide))).trans ((kq (a := 0) (b := 51) eσ252 (fun q => absurd q.1 (by decide))).trans ((kq (a := 0) (b := 51) eσ247 (fun q => absurd q.1 (by decide))).trans ((kq (a := 0) (b := 51) eσ242 (fun q => absurd q.1 (by decide))).trans ((kq (a := 0) (b := 51) eσ237 (fun q => absurd q.1 (by decide))).trans ((kq (a := 0) (b := 51) eσ232 (fun q => absurd q.1 (by decide))).trans ((kq (a := 0) (b := 51) eσ227 (fun q => absurd q.1 (by decide))).trans ((kq (a := 0) (b := 51) eσ215 (fun q => absurd q.2 (by decide)))))))))))), (by omega), (by omega)⟩)
        · have f407 := K2.g_0_9 hσ215
          have q408 : σ215.1 0 9 = (σ.1 0 9) := by rw [eσ215, u1_at]; exact if_pos rfl
          first | have f410 : (σ215.1 0 9).toInt = (σ.1 0 9).toInt := (congrArg Int32.toInt q408).trans (rfl : (σ.1 0 9).toInt = (σ.1 0 9).toInt) | skip
          first | have f411 := (noteqE (rfl : (σ215.1 0 9).toInt = (σ215.1 0 9).toInt) (show (0 : Int32).toInt = 0 from by decide)).mp c217 | skip
          have f416 := K2.g_0_14 hσ215
          have q417 : σ215.1 0 14 = σ.1 0 14 := by rw [eσ215, u1_at]; exact if_neg (by decide)
          have f418 := congrArg Int32.toInt q417
          exact hQ _ hσ215 (⟨(kq (a := 0) (b := 35) eσ215 (fun q => absurd q.2 (by decide))), (kq (a := 0) (b := 24) eσ215 (fun q => absurd q.2 (by decide))), (kq (a := 0) (b := 36) eσ215 (fun q => absurd q.2 (by decide))), (kq (a := 0) (b := 41) eσ215 (fun q => absurd q.2 (by decide))), (kq (a := 0) (b := 50) eσ215 (fun q => absurd q.2 (by decide))), (kq (a := 0) (b := 51) eσ215 (fun q => absurd q.2 (by decide))), (by omega), (by omega)⟩)
    · have f421 := K2.g_0_14 hσ
      first | have f422 := (noteqE (rfl : (σ.1 0 14).toInt = (σ.1 0 14).toInt) (show (40 : Int32).toInt = 40 from by decide)).mp c4 | skip
      try unfold fX12_lays_j22
      refine ⟨fun c423 => ?_, fun c423 => ?_⟩
      · first | have f425 := (eqE (rfl : (σ.1 0 9).toInt = (σ.1 0 9).toInt) (show (0 : Int32).toInt = 0 from by decide)).mp c423 | skip
        refine ⟨inE (rfl : (σ.1 0 14).toInt = (σ.1 0 14).toInt) (by omega) (by omega), ?_⟩
        intro σ427 eσ427
        have hσ427 : K2 σ0 σ427 := by rw [eσ427]; exact hσ.u (Rg2.ra_6 _ _) (fun q => absurd q.1 (by decide)) (fun q => absurd q.1 (by decide)) ⟨⟨by decide, by decide⟩, fun q => absurd q.1 (by decide)⟩
        have f428 := K2.g_0_14 hσ427
        have q429 : σ427.1 0 14 = σ.1 0 14 := by rw [eσ427]; exact congrFun (u1_ne (by decide)) 14
        have f430 := congrArg Int32.toInt q429
        refine ⟨inE (rfl : (σ427.1 0 14).toInt = (σ427.1 0 14).toInt) (by omega) (by omega), ?_⟩
        intro σ432 eσ432
        have hσ432 : K2 σ0 σ432 := by rw [eσ432]; exact hσ427.u (Rg2.ra_7 _ _) (fun q => absurd q.1 (by decide)) (fun q => absurd q.1 (by decide)) ⟨⟨by decide, by decide⟩, fun q => absurd q.1 (by decide)⟩
        have f433 := K2.g_0_14 hσ432
        have q434 : σ432.1 0 14 = σ427.1 0 14 := by rw [eσ432]; exact congrFun (u1_ne (by decide)) 14
        have f435 := congrArg Int32.toInt q434
        refine ⟨inE (rfl : (σ432.1 0 14).toInt = (σ432.1 0 14).toInt) (by omega) (by omega), ?_⟩
        intro σ437 eσ437
        have hσ437 : K2 σ0 σ437 := by rw [eσ437]; exact hσ432.u (Rg2.ra_8 _ _) (fun q => absurd q.1 (by decide)) (fun q => absurd q.1 (by decide)) ⟨⟨by decide, by decide⟩, fun q => absurd q.1 (by decide)⟩
        have f438 := K2.g_0_14 hσ437
        have q439 : σ437.1 0 14 = σ432.1 0 14 := by rw [eσ437]; exact congrFun (u1_ne (by decide)) 14
        have f440 := congrArg Int32.toInt q439
        refine ⟨inE (rfl : (σ437.1 0 14).toInt = (σ437.1 0 14).toInt) (by omega) (by omega), ?_⟩
        intro σ442 eσ442
        have hσ442 : K2 σ0 σ442 := by rw [eσ442]; exact hσ437.u (Rg2.ra_9 (leP (show (0 : Int32).toInt = 0 from by decide) (by omega)) (geP (show (0 : Int32).toInt = 0 from by decide) (by omega))) (fun q => absurd q.1 (by decide)) (fun q => absurd q.1 (by decide)) ⟨⟨by decide, by decide⟩, fun q => absurd q.1 (by decide)⟩
        have f443 := K2.g_0_14 hσ442
        have q444 : σ442.1 0 14 = σ437.1 0 14 := by rw [eσ442]; exact congrFun (u1_ne (by decide)) 14
        have f445 := congrArg Int32.toInt q444
        refine ⟨inE (rfl : (σ442.1 0 14).toInt = (σ442.1 0 14).toInt) (by omega) (by omega), ?_⟩
        intro σ447 eσ447
        have hσ447 : K2 σ0 σ447 := by rw [eσ447]; exact hσ442.u (Rg2.ra_11 _ _) (fun q => absurd q.1 (by decide)) (fun q => absurd q.1 (by decide)) ⟨⟨by decide, by decide⟩, fun q => absurd q.1 (by decide)⟩
        have f448 := K2.g_0_14 hσ447
        have q449 : σ447.1 0 14 = σ442.1 0 14 := by rw [eσ447]; exact congrFun (u1_ne (by decide)) 14
        have f450 := congrArg Int32.toInt q449
        refine ⟨inE (rfl : (σ447.1 0 14).toInt = (σ447.1 0 14).toInt) (by omega) (by omega), ?_⟩
        intro σ452 eσ452
        have hσ452 : K2 σ0 σ452 := by rw [eσ452]; exact hσ447.u (Rg2.ra_12 _ _) (fun q => absurd q.1 (by decide)) (fun q => absurd q.1 (by decide)) ⟨⟨by decide, by decide⟩, fun q => absurd q.1 (by decide)⟩
        have f453 := K2.g_0_14 hσ452
        have q454 : σ452.1 0 14 = σ447.1 0 14 := by rw [eσ452]; exact congrFun (u1_ne (by decide)) 14
        have f455 := congrArg Int32.toInt q454
        refine ⟨inE (rfl : (σ452.1 0 14).toInt = (σ452.1 0 14).toInt) (by omega) (by omega), ?_⟩
        intro σ457 eσ457
        have hσ457 : K2 σ0 σ457 := by rw [eσ457]; exact hσ452.u13 (Or.inl (by decide))
        intro v458 ev458
        intro σ459 eσ459
        have f460 := tB v458
        have f461 := K2.g_0_14 hσ457
        have q462 : σ457.1 0 14 = σ452.1 0 14 := by rw [eσ457]; exact congrFun (u1_ne (by decide)) 14
        have f463 := congrArg Int32.toInt q462
        first | have f465 : v458.toInt = ((σ457.1 0 14).toInt + (1)) := (congrArg Int32.toInt ev458).trans (aOkE (rfl : (σ457.1 0 14).toInt = (σ457.1 0 14).toInt) (show (1 : Int32).toInt = 1 from by decide) (by omega) (by omega)) | skip
        have hσ459 : K2 σ0 σ459 := by rw [eσ459]; exact hσ457.u14 (Rg2.r_0_14 (leP (rfl : v458.toInt = v458.toInt) (by omega)) (geP (rfl : v458.toInt = v458.toInt) (by omega))) (Or.inr (hσ452.z13 eσ457))
        refine ⟨fun c466 => ?_, fun c466 => ?_⟩
        · have f467 := K2.g_0_14 hσ459
          have q468 : σ459.1 0 14 = v458 := by rw [eσ459, u1_at]; exact if_pos rfl
          first | have f470 : (σ459.1 0 14).toInt = v458.toInt := (congrArg Int32.toInt q468).trans (rfl : v458.toInt = v458.toInt) | skip
          have f471 := tB (σ459.1 0 32)
          have q472 : σ459.1 0 32 = σ457.1 0 32 := by rw [eσ459, u1_at]; exact if_neg (by decide)
          have f473 := congrArg Int32.toInt q472
          have f474 := tB (σ457.1 0 32)
          have q475 : σ457.1 0 32 = σ452.1 0 32 := by rw [eσ457]; exact congrFun (u1_ne (by decide)) 32
          have f476 := congrArg Int32.toInt q475
          have f477 := tB (σ452.1 0 32)
          have q478 : σ452.1 0 32 = σ447.1 0 32 := by rw [eσ452]; exact congrFun (u1_ne (by decide)) 32
          have f479 := congrArg Int32.toInt q478
          have f480 := tB (σ447.1 0 32)
          have q481 : σ447.1 0 32 = σ442.1 0 32 := by rw [eσ447]; exact congrFun (u1_ne (by decide)) 32
          have f482 := congrArg Int32.toInt q481
          have f483 := tB (σ442.1 0 32)
          have q484 : σ442.1 0 32 = σ437.1 0 32 := by rw [eσ442]; exact congrFun (u1_ne (by decide)) 32
          have f485 := congrArg Int32.toInt q484
          have f486 := tB (σ437.1 0 32)
          have q487 : σ437.1 0 32 = σ432.1 0 32 := by rw [eσ437]; exact congrFun (u1_ne (by decide)) 32
          have f488 := congrArg Int32.toInt q487
          have f489 := tB (σ432.1 0 32)
          have q490 : σ432.1 0 32 = σ427.1 0 32 := by rw [eσ432]; exact congrFun (u1_ne (by decide)) 32
          have f491 := congrArg Int32.toInt q490
          have f492 := tB (σ427.1 0 32)
          have q493 : σ427.1 0 32 = σ.1 0 32 := by rw [eσ427]; exact congrFun (u1_ne (by decide)) 32
          have f494 := congrArg Int32.toInt q493
          have f495 := tB (σ.1 0 32)
          first | have f496 := (leE (rfl : (σ459.1 0 14).toInt = (σ459.1 0 14).toInt) (rfl : (σ459.1 0 32).toInt = (σ459.1 0 32).toInt)).mp c466 | skip
          try unfold fX12_lays_j134
          intro σ497 eσ497
          have hσ497 : K2 σ0 σ497 := by rw [eσ497]; exact hσ459.u (Rg2.u_0_32 _) (fun q => absurd q.2 (by decide)) (fun q => absurd q.2 (by decide)) ⟨⟨by decide, by decide⟩, fun q => absurd q.2 (by decide)⟩
          have f498 := K2.g_0_9 hσ497
          have q499 : σ497.1 0 9 = σ459.1 0 9 := by rw [eσ497, u1_at]; exact if_neg (by decide)
          have f500 := congrArg Int32.toInt q499
          have f501 := K2.g_0_9 hσ459
          have q502 : σ459.1 0 9 = σ457.1 0 9 := by rw [eσ459, u1_at]; exact if_neg (by decide)
          have f503 := congrArg Int32.toInt q502
          have f504 := K2.g_0_9 hσ457
          have q505 : σ457.1 0 9 = σ452.1 0 9 := by rw [eσ457]; exact congrFun (u1_ne (by decide)) 9
          have f506 := congrArg Int32.toInt q505
          have f507 := K2.g_0_9 hσ452
          have q508 : σ452.1 0 9 = σ447.1 0 9 := by rw [eσ452]; exact congrFun (u1_ne (by decide)) 9
          have f509 := congrArg Int32.toInt q508
          have f510 := K2.g_0_9 hσ447
          have q511 : σ447.1 0 9 = σ442.1 0 9 := by rw [eσ447]; exact congrFun (u1_ne (by decide)) 9
          have f512 := congrArg Int32.toInt q511
          have f513 := K2.g_0_9 hσ442
          have q514 : σ442.1 0 9 = σ437.1 0 9 := by rw [eσ442]; exact congrFun (u1_ne (by decide)) 9
          have f515 := congrArg Int32.toInt q514
          have f516 := K2.g_0_9 hσ437
          have q517 : σ437.1 0 9 = σ432.1 0 9 := by rw [eσ437]; exact congrFun (u1_ne (by decide)) 9
          have f518 := congrArg Int32.toInt q517
          have f519 := K2.g_0_9 hσ432
          have q520 : σ432.1 0 9 = σ427.1 0 9 := by rw [eσ432]; exact congrFun (u1_ne (by decide)) 9
          have f521 := congrArg Int32.toInt q520
          have f522 := K2.g_0_9 hσ427
          have q523 : σ427.1 0 9 = σ.1 0 9 := by rw [eσ427]; exact congrFun (u1_ne (by decide)) 9
          have f524 := congrArg Int32.toInt q523
          have f529 := K2.g_0_14 hσ497
          have q530 : σ497.1 0 14 = σ459.1 0 14 := by rw [eσ497, u1_at]; exact if_neg (by decide)
          have f531 := congrArg Int32.toInt q530
          exact hQ _ hσ497 (⟨(kq (a := 0) (b := 35) eσ497 (fun q => absurd q.2 (by decide))).trans ((kq (a := 0) (b := 35) eσ459 (fun q => absurd q.2 (by decide))).trans ((kq (a := 0) (b := 35) eσ457 (fun q => absurd q.1 (by decide))).trans ((kq (a := 0) (b := 35) eσ452 (fun q => absurd q.1 (by decide))).trans ((kq (a := 0) (b := 35) eσ447 (fun q => absurd q.1 (by decide))).trans ((kq (a := 0) (b := 35) eσ442 (fun q => absurd q.1 (by decide))).trans ((kq (a := 0) (b := 35) eσ437 (fun q => absurd q.1 (by decide))).trans ((kq (a := 0) (b := 35) eσ432 (fun q => absurd q.1 (by decide))).trans ((kq (a := 0) (b := 35) eσ427 (fun q => absurd q.1 (by decide))))))))))), (kq (a := 0) (b := 24) eσ497 (fun q => absurd q.2 (by decide))).trans ((kq (a := 0) (b := 24) eσ459 (fun q => absurd q.2 (by decide))).trans ((kq (a := 0) (b := 24) eσ457 (fun q => absurd q.1 (by decide))).trans ((kq (a := 0) (b := 24) eσ452 (fun q => absurd q.1 (by decide))).trans ((kq (a := 0) (b := 24) eσ447 (fun q => absurd q.1 (by decide))).trans ((kq (a := 0) (b := 24) eσ442 (fun q => absurd q.1 (by decide))).trans ((kq (a := 0) (b := 24) eσ437 (fun q => absurd q.1 (by decide))).trans ((kq (a := 0) (b := 24) eσ432 (fun q => absurd q.1 (by decide))).trans ((kq (a := 0) (b := 24) eσ427 (fun q => absurd q.1 (by decide))))))))))), (kq (a := 0) (b := 36) eσ497 (fun q => absurd q.2 (by decide))).trans ((kq (a := 0) (b := 36) eσ459 (fun q => absurd q.2 (by decide))).trans ((kq (a := 0) (b := 36) eσ457 (fun q => absurd q.1 (by decide))).trans ((kq (a := 0) (b := 36) eσ452 (fun q => absurd q.1 (by decide))).trans ((kq (a := 0) (b := 36) eσ447 (fun q => absurd q.1 (by decide))).trans ((kq (a := 0) (b := 36) eσ442 (fun q => absurd q.1 (by decide))).trans ((kq (a := 0) (b := 36) eσ437 (fun q => absurd q.1 (by decide))).trans ((kq (a := 0) (b := 36) eσ432 (fun q => absurd q.1 (by decide))).trans ((kq (a := 0) (b := 36) eσ427 (fun q => absurd q.1 (by decide))))))))))), (kq (a := 0) (b := 41) eσ497 (fun q => absurd q.2 (by decide))).trans ((kq (a := 0) (b := 41) eσ459 (fun q => absurd q.2 (by decide))).trans ((kq (a := 0) (b := 41) eσ457 (fun q => absurd q.1 (by decide))).trans ((kq (a := 0) (b := 41) eσ452 (fun q => absurd q.1 (by decide))).trans ((kq (a := 0) (b := 41) eσ447 (fun q => absurd q.1 (by decide))).trans ((kq (a := 0) (b := 41) eσ442 (fun q => absurd q.1 (by decide))).trans ((kq (a := 0) (b := 41) eσ437 (fun q => absurd q.1 (by decide))).trans ((kq (a := 0) (b := 41) eσ432 (fun q => absurd q.1 (by decide))).trans ((kq (a := 0) (b := 41) eσ427 (fun q => absurd q.1 (by decide))))))))))), (kq (a := 0) (b := 50) eσ497 (fun q => absurd q.2 (by decide))).trans ((kq (a := 0) (b := 50) eσ459 (fun q => absurd q.2 (by decide))).trans ((kq (a := 0) (b := 50) eσ457 (fun q => absurd q.1 (by decide))).trans ((kq (a := 0) (b := 50) eσ452 (fun q => absurd q.1 (by decide))).trans ((kq (a := 0) (b := 50) eσ447 (fun q => absurd q.1 (by decide))).trans ((kq (a := 0) (b := 50) eσ442 (fun q => absurd q.1 (by decide))).trans ((kq (a := 0) (b := 50) eσ437 (fun q => absurd q.1 (by decide))).trans ((kq (a := 0) (b := 50) eσ432 (fun q => absurd q.1 (by decide))).trans ((kq (a := 0) (b := 50) eσ427 (fun q => absurd q.1 (by decide))))))))))), (kq (a := 0) (b := 51) eσ497 (fun q => absurd q.2 (by decide))).trans ((kq (a := 0) (b := 51) eσ459 (fun q => absurd q.2 (by decide))).trans ((kq (a := 0) (b := 51) eσ457 (fun q => absurd q.1 (by decide))).trans ((kq (a := 0) (b := 51) eσ452 (fun q => absurd q.1 (by decide))).trans ((kq (a := 0) (b := 51) eσ447 (fun q => absurd q.1 (by decide))).trans ((kq (a := 0) (b := 51) eσ442 (fun q => absurd q.1 (by decide))).trans ((kq (a := 0) (b := 51) eσ437 (fun q => absurd q.1 (by decide))).trans ((kq (a := 0) (b := 51) eσ432 (fun q => absurd q.1 (by decide))).trans ((kq (a := 0) (b := 51) eσ427 (fun q => absurd q.1 (by decide))))))))))), (by omega), (by omega)⟩)
        · have f534 := K2.g_0_14 hσ459
          have q535 : σ459.1 0 14 = v458 := by rw [eσ459, u1_at]; exact if_pos rfl
          first | have f537 : (σ459.1 0 14).toInt = v458.toInt := (congrArg Int32.toInt q535).trans (rfl : v458.toInt = v458.toInt) | skip
          have f538 := tB (σ459.1 0 32)
          have q539 : σ459.1 0 32 = σ457.1 0 32 := by rw [eσ459, u1_at]; exact if_neg (by decide)
          have f540 := congrArg Int32.toInt q539
          have f541 := tB (σ457.1 0 32)
          have q542 : σ457.1 0 32 = σ452.1 0 32 := by rw [eσ457]; exact congrFun (u1_ne (by decide)) 32
          have f543 := congrArg Int32.toInt q542
          have f544 := tB (σ452.1 0 32)
          have q545 : σ452.1 0 32 = σ447.1 0 32 := by rw [eσ452]; exact congrFun (u1_ne (by decide)) 32
          have f546 := congrArg Int32.toInt q545
          have f547 := tB (σ447.1 0 32)
          have q548 : σ447.1 0 32 = σ442.1 0 32 := by rw [eσ447]; exact congrFun (u1_ne (by decide)) 32
          have f549 := congrArg Int32.toInt q548
          have f550 := tB (σ442.1 0 32)
          have q551 : σ442.1 0 32 = σ437.1 0 32 := by rw [eσ442]; exact congrFun (u1_ne (by decide)) 32
          have f552 := congrArg Int32.toInt q551
          have f553 := tB (σ437.1 0 32)
          have q554 : σ437.1 0 32 = σ432.1 0 32 := by rw [eσ437]; exact congrFun (u1_ne (by decide)) 32
          have f555 := congrArg Int32.toInt q554
          have f556 := tB (σ432.1 0 32)
          have q557 : σ432.1 0 32 = σ427.1 0 32 := by rw [eσ432]; exact congrFun (u1_ne (by decide)) 32
          have f558 := congrArg Int32.toInt q557
          have f559 := tB (σ427.1 0 32)
          have q560 : σ427.1 0 32 = σ.1 0 32 := by rw [eσ427]; exact congrFun (u1_ne (by decide)) 32
          have f561 := congrArg Int32.toInt q560
          have f562 := tB (σ.1 0 32)
          first | have f563 := (notleE (rfl : (σ459.1 0 14).toInt = (σ459.1 0 14).toInt) (rfl : (σ459.1 0 32).toInt = (σ459.1 0 32).toInt)).mp c466 | skip
          try unfold fX12_lays_j134
          intro σ564 eσ564
          have hσ564 : K2 σ0 σ564 := by rw [eσ564]; exact hσ459.u (Rg2.u_0_32 _) (fun q => absurd q.2 (by decide)) (fun q => absurd q.2 (by decide)) ⟨⟨by decide, by decide⟩, fun q => absurd q.2 (by decide)⟩
          have f565 := K2.g_0_9 hσ564
          have q566 : σ564.1 0 9 = σ459.1 0 9 := by rw [eσ564, u1_at]; exact if_neg (by decide)
          have f567 := congrArg Int32.toInt q566
          have f568 := K2.g_0_9 hσ459
          have q569 : σ459.1 0 9 = σ457.1 0 9 := by rw [eσ459, u1_at]; exact if_neg (by decide)
          have f570 := congrArg Int32.toInt q569
          have f571 := K2.g_0_9 hσ457
          have q572 : σ457.1 0 9 = σ452.1 0 9 := by rw [eσ457]; exact congrFun (u1_ne (by decide)) 9
          have f573 := congrArg Int32.toInt q572
          have f574 := K2.g_0_9 hσ452
          have q575 : σ452.1 0 9 = σ447.1 0 9 := by rw [eσ452]; exact congrFun (u1_ne (by decide)) 9
          have f576 := congrArg Int32.toInt q575
          have f577 := K2.g_0_9 hσ447
          have q578 : σ447.1 0 9 = σ442.1 0 9 := by rw [eσ447]; exact congrFun (u1_ne (by decide)) 9
          have f579 := congrArg Int32.toInt q578
          have f580 := K2.g_0_9 hσ442
          have q581 : σ442.1 0 9 = σ437.1 0 9 := by rw [eσ442]; exact congrFun (u1_ne (by decide)) 9
          have f582 := congrArg Int32.toInt q581
          have f583 := K2.g_0_9 hσ437
          have q584 : σ437.1 0 9 = σ432.1 0 9 := by rw [eσ437]; exact congrFun (u1_ne (by decide)) 9
          have f585 := congrArg Int32.toInt q584
          have f586 := K2.g_0_9 hσ432
          have q587 : σ432.1 0 9 = σ427.1 0 9 := by rw [eσ432]; exact congrFun (u1_ne (by decide)) 9
          have f588 := congrArg Int32.toInt q587
          have f589 := K2.g_0_9 hσ427
          have q590 : σ427.1 0 9 = σ.1 0 9 := by rw [eσ427]; exact congrFun (u1_ne (by decide)) 9
          have f591 := congrArg Int32.toInt q590
          have f596 := K2.g_0_14 hσ564
          have q597 : σ564.1 0 14 = σ459.1 0 14 := by rw [eσ564, u1_at]; exact if_neg (by decide)
          have f598 := congrArg Int32.toInt q597
          exact hQ _ hσ564 (⟨(kq (a := 0) (b := 35) eσ564 (fun q => absurd q.2 (by decide))).trans ((kq (a := 0) (b := 35) eσ459 (fun q => absurd q.2 (by decide))).trans ((kq (a := 0) (b := 35) eσ457 (fun q => absurd q.1 (by decide))).trans ((kq (a := 0) (b := 35) eσ452 (fun q => absurd q.1 (by decide))).trans ((kq (a := 0) (b := 35) eσ447 (fun q => absurd q.1 (by decide))).trans ((kq (a := 0) (b := 35) eσ442 (fun q => absurd q.1 (by decide))).trans ((kq (a := 0) (b := 35) eσ437 (fun q => absurd q.1 (by decide))).trans ((kq (a := 0) (b := 35) eσ432 (fun q => absurd q.1 (by decide))).trans ((kq (a := 0) (b := 35) eσ427 (fun q => absurd q.1 (by decide))))))))))), (kq (a := 0) (b := 24) eσ564 (fun q => absurd q.2 (by decide))).trans ((kq (a := 0) (b := 24) eσ459 (fun q => absurd q.2 (by decide))).trans ((kq (a := 0) (b := 24) eσ457 (fun q => absurd q.1 (by decide))).trans ((kq (a := 0) (b := 24) eσ452 (fun q => absurd q.1 (by decide))).trans ((kq (a := 0) (b := 24) eσ447 (fun q => absurd q.1 (by decide))).trans ((kq (a := 0) (b := 24) eσ442 (fun q => absurd q.1 (by decide))).trans ((kq (a := 0) (b := 24) eσ437 (fun q => absurd q.1 (by decide))).trans ((kq (a := 0) (b := 24) eσ432 (fun q => absurd q.1 (by decide))).trans ((kq (a := 0) (b := 24) eσ427 (fun q => absurd q.1 (by decide))))))))))), (kq (a := 0) (b := 36) eσ564 (fun q => absurd q.2 (by decide))).trans ((kq (a := 0) (b := 36) eσ459 (fun q => absurd q.2 (by decide))).trans ((kq (a := 0) (b := 36) eσ457 (fun q => absurd q.1 (by decide))).trans ((kq (a := 0) (b := 36) eσ452 (fun q => absurd q.1 (by decide))).trans ((kq (a := 0) (b := 36) eσ447 (fun q => absurd q.1 (by decide))).trans ((kq (a := 0) (b := 36) eσ442 (fun q => absurd q.1 (by decide))).trans ((kq (a := 0) (b := 36) eσ437 (fun q => absurd q.1 (by decide))).trans ((kq (a := 0) (b := 36) eσ432 (fun q => absurd q.1 (by decide))).trans ((kq (a := 0) (b := 36) eσ427 (fun q => absurd q.1 (by decide))))))))))), (kq (a := 0) (b := 41) eσ564 (fun q => absurd q.2 (by decide))).trans ((kq (a := 0) (b := 41) eσ459 (fun q => absurd q.2 (by decide))).trans ((kq (a := 0) (b := 41) eσ457 (fun q => absurd q.1 (by decide))).trans ((kq (a := 0) (b := 41) eσ452 (fun q => absurd q.1 (by decide))).trans ((kq (a := 0) (b := 41) eσ447 (fun q => absurd q.1 (by decide))).trans ((kq (a := 0) (b := 41) eσ442 (fun q => absurd q.1 (by decide))).trans ((kq (a := 0) (b := 41) eσ437 (fun q => absurd q.1 (by decide))).trans ((kq (a := 0) (b := 41) eσ432 (fun q => absurd q.1 (by decide))).trans ((kq (a := 0) (b := 41) eσ427 (fun q => absurd q.1 (by decide))))))))))), (kq (a := 0) (b := 50) eσ564 (fun q => absurd q.2 (by decide))).trans ((kq (a := 0) (b := 50) eσ459 (fun q => absurd q.2 (by decide))).trans ((kq (a := 0) (b := 50) eσ457 (fun q => absurd q.1 (by decide))).trans ((kq (a := 0) (b := 50) eσ452 (fun q => absurd q.1 (by decide))).trans ((kq (a := 0) (b := 50) eσ447 (fun q => absurd q.1 (by decide))).trans ((kq (a := 0) (b := 50) eσ442 (fun q => absurd q.1 (by decide))).trans ((kq (a := 0) (b := 50) eσ437 (fun q => absurd q.1 (by decide))).trans ((kq (a := 0) (b := 50) eσ432 (fun q => absurd q.1 (by decide))).trans ((kq (a := 0) (b := 50) eσ427 (fun q => absurd q.1 (by decide))))))))))), (kq (a := 0) (b := 51) eσ564 (fun q => absurd q.2 (by decide))).trans ((kq (a := 0) (b := 51) eσ459 (fun q => absurd q.2 (by decide))).trans ((kq (a := 0) (b := 51) eσ457 (fun q => absurd q.1 (by decide))).trans ((kq (a := 0) (b := 51) eσ452 (fun q => absurd q.1 (by decide))).trans ((kq (a := 0) (b := 51) eσ447 (fun q => absurd q.1 (by decide))).trans ((kq (a := 0) (b := 51) eσ442 (fun q => absurd q.1 (by decide))).trans ((kq (a := 0) (b := 51) eσ437 (fun q => absurd q.1 (by decide))).trans ((kq (a := 0) (b := 51) eσ432 (fun q => absurd q.1 (by decide))).trans ((kq (a := 0) (b := 51) eσ427 (fun q => absurd q.1 (by decide))))))))))), (by omega), (by omega)⟩)
      · first | have f602 := (noteqE (rfl : (σ.1 0 9).toInt = (σ.1 0 9).toInt) (show (0 : Int32).toInt = 0 from by decide)).mp c423 | skip
        exact hQ _ hσ (⟨rfl, rfl, rfl, rfl, rfl, rfl, (by omega), (by omega)⟩)
  · have f609 := K2.g_0_9 hσ
    first | have f610 := (noteqE (rfl : (σ.1 0 9).toInt = (σ.1 0 9).toInt) (show (0 : Int32).toInt = 0 from by decide)).mp c1 | skip
    try unfold fX12_lays_j22
    refine ⟨fun c611 => ?_, fun c611 => ?_⟩
    · first | have f613 := (eqE (rfl : (σ.1 0 9).toInt = (σ.1 0 9).toInt) (show (0 : Int32).toInt = 0 from by decide)).mp c611 | skip
      have f614 := K2.g_0_14 hσ
      refine ⟨inE (rfl : (σ.1 0 14).toInt = (σ.1 0 14).toInt) (by omega) (by omega), ?_⟩
      intro σ615 eσ615
      have hσ615 : K2 σ0 σ615 := by rw [eσ615]; exact hσ.u (Rg2.ra_6 _ _) (fun q => absurd q.1 (by decide)) (fun q => absurd q.1 (by decide)) ⟨⟨by decide, by decide⟩, fun q => absurd q.1 (by decide)⟩
      have f616 := K2.g_0_14 hσ615
      have q617 : σ615.1 0 14 = σ.1 0 14 := by rw [eσ615]; exact congrFun (u1_ne (by decide)) 14
      have f618 := congrArg Int32.toInt q617
      refine ⟨inE (rfl : (σ615.1 0 14).toInt = (σ615.1 0 14).toInt) (by omega) (by omega), ?_⟩
      intro σ620 eσ620
      have hσ620 : K2 σ0 σ620 := by rw [eσ620]; exact hσ615.u (Rg2.ra_7 _ _) (fun q => absurd q.1 (by decide)) (fun q => absurd q.1 (by decide)) ⟨⟨by decide, by decide⟩, fun q => absurd q.1 (by decide)⟩
      have f621 := K2.g_0_14 hσ620
      have q622 : σ620.1 0 14 = σ615.1 0 14 := by rw [eσ620]; exact congrFun (u1_ne (by decide)) 14
      have f623 := congrArg Int32.toInt q622
      refine ⟨inE (rfl : (σ620.1 0 14).toInt = (σ620.1 0 14).toInt) (by omega) (by omega), ?_⟩
      intro σ625 eσ625
      have hσ625 : K2 σ0 σ625 := by rw [eσ625]; exact hσ620.u (Rg2.ra_8 _ _) (fun q => absurd q.1 (by decide)) (fun q => absurd q.1 (by decide)) ⟨⟨by decide, by decide⟩, fun q => absurd q.1 (by decide)⟩
      have f626 := K2.g_0_14 hσ625
      have q627 : σ625.1 0 14 = σ620.1 0 14 := by rw [eσ625]; exact congrFun (u1_ne (by decide)) 14
      have f628 := congrArg Int32.toInt q627
      refine ⟨inE (rfl : (σ625.1 0 14).toInt = (σ625.1 0 14).toInt) (by omega) (by omega), ?_⟩
      intro σ630 eσ630
      have hσ630 : K2 σ0 σ630 := by rw [eσ630]; exact hσ625.u (Rg2.ra_9 (leP (show (0 : Int32).toInt = 0 from by decide) (by omega)) (geP (show (0 : Int32).toInt = 0 from by decide) (by omega))) (fun q => absurd q.1 (by decide)) (fun q => absurd q.1 (by decide)) ⟨⟨by decide, by decide⟩, fun q => absurd q.1 (by decide)⟩
      have f631 := K2.g_0_14 hσ630
      have q632 : σ630.1 0 14 = σ625.1 0 14 := by rw [eσ630]; exact congrFun (u1_ne (by decide)) 14
      have f633 := congrArg Int32.toInt q632
      refine ⟨inE (rfl : (σ630.1 0 14).toInt = (σ630.1 0 14).toInt) (by omega) (by omega), ?_⟩
      intro σ635 eσ635
      have hσ635 : K2 σ0 σ635 := by rw [eσ635]; exact hσ630.u (Rg2.ra_11 _ _) (fun q => absurd q.1 (by decide)) (fun q => absurd q.1 (by decide)) ⟨⟨by decide, by decide⟩, fun q => absurd q.1 (by decide)⟩
      have f636 := K2.g_0_14 hσ635
      have q637 : σ635.1 0 14 = σ630.1 0 14 := by rw [eσ635]; exact congrFun (u1_ne (by decide)) 14
      have f638 := congrArg Int32.toInt q637
      refine ⟨inE (rfl : (σ635.1 0 14).toInt = (σ635.1 0 14).toInt) (by omega) (by omega), ?_⟩
      intro σ640 eσ640
      have hσ640 : K2 σ0 σ640 := by rw [eσ640]; exact hσ635.u (Rg2.ra_12 _ _) (fun q => absurd q.1 (by decide)) (fun q => absurd q.1 (by decide)) ⟨⟨by decide, by decide⟩, fun q => absurd q.1 (by decide)⟩
      have f641 := K2.g_0_14 hσ640
      have q642 : σ640.1 0 14 = σ635.1 0 14 := by rw [eσ640]; exact congrFun (u1_ne (by decide)) 14
      have f643 := congrArg Int32.toInt q642
      refine ⟨inE (rfl : (σ640.1 0 14).toInt = (σ640.1 0 14).toInt) (by omega) (by omega), ?_⟩
      intro σ645 eσ645
      have hσ645 : K2 σ0 σ645 := by rw [eσ645]; exact hσ640.u13 (Or.inl (by decide))
      intro v646 ev646
      intro σ647 eσ647
      have f648 := tB v646
      have f649 := K2.g_0_14 hσ645
      have q650 : σ645.1 0 14 = σ640.1 0 14 := by rw [eσ645]; exact congrFun (u1_ne (by decide)) 14
      have f651 := congrArg Int32.toInt q650
      first | have f653 : v646.toInt = ((σ645.1 0 14).toInt + (1)) := (congrArg Int32.toInt ev646).trans (aOkE (rfl : (σ645.1 0 14).toInt = (σ645.1 0 14).toInt) (show (1 : Int32).toInt = 1 from by decide) (by omega) (by omega)) | skip
      have hσ647 : K2 σ0 σ647 := by rw [eσ647]; exact hσ645.u14 (Rg2.r_0_14 (leP (rfl : v646.toInt = v646.toInt) (by omega)) (geP (rfl : v646.toInt = v646.toInt) (by omega))) (Or.inr (hσ640.z13 eσ645))
      refine ⟨fun c654 => ?_, fun c654 => ?_⟩
      · have f655 := K2.g_0_14 hσ647
        have q656 : σ647.1 0 14 = v646 := by rw [eσ647, u1_at]; exact if_pos rfl
        first | have f658 : (σ647.1 0 14).toInt = v646.toInt := (congrArg Int32.toInt q656).trans (rfl : v646.toInt = v646.toInt) | skip
        have f659 := tB (σ647.1 0 32)
        have q660 : σ647.1 0 32 = σ645.1 0 32 := by rw [eσ647, u1_at]; exact if_neg (by decide)
        have f661 := congrArg Int32.toInt q660
        have f662 := tB (σ645.1 0 32)
        have q663 : σ645.1 0 32 = σ640.1 0 32 := by rw [eσ645]; exact congrFun (u1_ne (by decide)) 32
        have f664 := congrArg Int32.toInt q663
        have f665 := tB (σ640.1 0 32)
        have q666 : σ640.1 0 32 = σ635.1 0 32 := by rw [eσ640]; exact congrFun (u1_ne (by decide)) 32
        have f667 := congrArg Int32.toInt q666
        have f668 := tB (σ635.1 0 32)
        have q669 : σ635.1 0 32 = σ630.1 0 32 := by rw [eσ635]; exact congrFun (u1_ne (by decide)) 32
        have f670 := congrArg Int32.toInt q669
        have f671 := tB (σ630.1 0 32)
        have q672 : σ630.1 0 32 = σ625.1 0 32 := by rw [eσ630]; exact congrFun (u1_ne (by decide)) 32
        have f673 := congrArg Int32.toInt q672
        have f674 := tB (σ625.1 0 32)
        have q675 : σ625.1 0 32 = σ620.1 0 32 := by rw [eσ625]; exact congrFun (u1_ne (by decide)) 32
        have f676 := congrArg Int32.toInt q675
        have f677 := tB (σ620.1 0 32)
        have q678 : σ620.1 0 32 = σ615.1 0 32 := by rw [eσ620]; exact congrFun (u1_ne (by decide)) 32
        have f679 := congrArg Int32.toInt q678
        have f680 := tB (σ615.1 0 32)
        have q681 : σ615.1 0 32 = σ.1 0 32 := by rw [eσ615]; exact congrFun (u1_ne (by decide)) 32
        have f682 := congrArg Int32.toInt q681
        have f683 := tB (σ.1 0 32)
        first | have f684 := (leE (rfl : (σ647.1 0 14).toInt = (σ647.1 0 14).toInt) (rfl : (σ647.1 0 32).toInt = (σ647.1 0 32).toInt)).mp c654 | skip
        try unfold fX12_lays_j134
        intro σ685 eσ685
        have hσ685 : K2 σ0 σ685 := by rw [eσ685]; exact hσ647.u (Rg2.u_0_32 _) (fun q => absurd q.2 (by decide)) (fun q => absurd q.2 (by decide)) ⟨⟨by decide, by decide⟩, fun q => absurd q.2 (by decide)⟩
        have f686 := K2.g_0_9 hσ685
        have q687 : σ685.1 0 9 = σ647.1 0 9 := by rw [eσ685, u1_at]; exact if_neg (by decide)
        have f688 := congrArg Int32.toInt q687
        have f689 := K2.g_0_9 hσ647
        have q690 : σ647.1 0 9 = σ645.1 0 9 := by rw [eσ647, u1_at]; exact if_neg (by decide)
        have f691 := congrArg Int32.toInt q690
        have f692 := K2.g_0_9 hσ645
        have q693 : σ645.1 0 9 = σ640.1 0 9 := by rw [eσ645]; exact congrFun (u1_ne (by decide)) 9
        have f694 := congrArg Int32.toInt q693
        have f695 := K2.g_0_9 hσ640
        have q696 : σ640.1 0 9 = σ635.1 0 9 := by rw [eσ640]; exact congrFun (u1_ne (by decide)) 9
        have f697 := congrArg Int32.toInt q696
        have f698 := K2.g_0_9 hσ635
        have q699 : σ635.1 0 9 = σ630.1 0 9 := by rw [eσ635]; exact congrFun (u1_ne (by decide)) 9
        have f700 := congrArg Int32.toInt q699
        have f701 := K2.g_0_9 hσ630
        have q702 : σ630.1 0 9 = σ625.1 0 9 := by rw [eσ630]; exact congrFun (u1_ne (by decide)) 9
        have f703 := congrArg Int32.toInt q702
        have f704 := K2.g_0_9 hσ625
        have q705 : σ625.1 0 9 = σ620.1 0 9 := by rw [eσ625]; exact congrFun (u1_ne (by decide)) 9
        have f706 := congrArg Int32.toInt q705
        have f707 := K2.g_0_9 hσ620
        have q708 : σ620.1 0 9 = σ615.1 0 9 := by rw [eσ620]; exact congrFun (u1_ne (by decide)) 9
        have f709 := congrArg Int32.toInt q708
        have f710 := K2.g_0_9 hσ615
        have q711 : σ615.1 0 9 = σ.1 0 9 := by rw [eσ615]; exact congrFun (u1_ne (by decide)) 9
        have f712 := congrArg Int32.toInt q711
        have f717 := K2.g_0_14 hσ685
        have q718 : σ685.1 0 14 = σ647.1 0 14 := by rw [eσ685, u1_at]; exact if_neg (by decide)
        have f719 := congrArg Int32.toInt q718
        exact hQ _ hσ685 (⟨(kq (a := 0) (b := 35) eσ685 (fun q => absurd q.2 (by decide))).trans ((kq (a := 0) (b := 35) eσ647 (fun q => absurd q.2 (by decide))).trans ((kq (a := 0) (b := 35) eσ645 (fun q => absurd q.1 (by decide))).trans ((kq (a := 0) (b := 35) eσ640 (fun q => absurd q.1 (by decide))).trans ((kq (a := 0) (b := 35) eσ635 (fun q => absurd q.1 (by decide))).trans ((kq (a := 0) (b := 35) eσ630 (fun q => absurd q.1 (by decide))).trans ((kq (a := 0) (b := 35) eσ625 (fun q => absurd q.1 (by decide))).trans ((kq (a := 0) (b := 35) eσ620 (fun q => absurd q.1 (by decide))).trans ((kq (a := 0) (b := 35) eσ615 (fun q => absurd q.1 (by decide))))))))))), (kq (a := 0) (b := 24) eσ685 (fun q => absurd q.2 (by decide))).trans ((kq (a := 0) (b := 24) eσ647 (fun q => absurd q.2 (by decide))).trans ((kq (a := 0) (b := 24) eσ645 (fun q => absurd q.1 (by decide))).trans ((kq (a := 0) (b := 24) eσ640 (fun q => absurd q.1 (by decide))).trans ((kq (a := 0) (b := 24) eσ635 (fun q => absurd q.1 (by decide))).trans ((kq (a := 0) (b := 24) eσ630 (fun q => absurd q.1 (by decide))).trans ((kq (a := 0) (b := 24) eσ625 (fun q => absurd q.1 (by decide))).trans ((kq (a := 0) (b := 24) eσ620 (fun q => absurd q.1 (by decide))).trans ((kq (a := 0) (b := 24) eσ615 (fun q => absurd q.1 (by decide))))))))))), (kq (a := 0) (b := 36) eσ685 (fun q => absurd q.2 (by decide))).trans ((kq (a := 0) (b := 36) eσ647 (fun q => absurd q.2 (by decide))).trans ((kq (a := 0) (b := 36) eσ645 (fun q => absurd q.1 (by decide))).trans ((kq (a := 0) (b := 36) eσ640 (fun q => absurd q.1 (by decide))).trans ((kq (a := 0) (b := 36) eσ635 (fun q => absurd q.1 (by decide))).trans ((kq (a := 0) (b := 36) eσ630 (fun q => absurd q.1 (by decide))).trans ((kq (a := 0) (b := 36) eσ625 (fun q => absurd q.1 (by decide))).trans ((kq (a := 0) (b := 36) eσ620 (fun q => absurd q.1 (by decide))).trans ((kq (a := 0) (b := 36) eσ615 (fun q => absurd q.1 (by decide))))))))))), (kq (a := 0) (b := 41) eσ685 (fun q => absurd q.2 (by decide))).trans ((kq (a := 0) (b := 41) eσ647 (fun q => absurd q.2 (by decide))).trans ((kq (a := 0) (b := 41) eσ645 (fun q => absurd q.1 (by decide))).trans ((kq (a := 0) (b := 41) eσ640 (fun q => absurd q.1 (by decide))).trans ((kq (a := 0) (b := 41) eσ635 (fun q => absurd q.1 (by decide))).trans ((kq (a := 0) (b := 41) eσ630 (fun q => absurd q.1 (by decide))).trans ((kq (a := 0) (b := 41) eσ625 (fun q => absurd q.1 (by decide))).trans ((kq (a := 0) (b := 41) eσ620 (fun q => absurd q.1 (by decide))).trans ((kq (a := 0) (b := 41) eσ615 (fun q => absurd q.1 (by decide))))))))))), (kq (a := 0) (b := 50) eσ685 (fun q => absurd q.2 (by decide))).trans ((kq (a := 0) (b := 50) eσ647 (fun q => absurd q.2 (by decide))).trans ((kq (a := 0) (b := 50) eσ645 (fun q => absurd q.1 (by decide))).trans ((kq (a := 0) (b := 50) eσ640 (fun q => absurd q.1 (by decide))).trans ((kq (a := 0) (b := 50) eσ635 (fun q => absurd q.1 (by decide))).trans ((kq (a := 0) (b := 50) eσ630 (fun q => absurd q.1 (by decide))).trans ((kq (a := 0) (b := 50) eσ625 (fun q => absurd q.1 (by decide))).trans ((kq (a := 0) (b := 50) eσ620 (fun q => absurd q.1 (by decide))).trans ((kq (a := 0) (b := 50) eσ615 (fun q => absurd q.1 (by decide))))))))))), (kq (a := 0) (b := 51) eσ685 (fun q => absurd q.2 (by decide))).trans ((kq (a := 0) (b := 51) eσ647 (fun q => absurd q.2 (by decide))).trans ((kq (a := 0) (b := 51) eσ645 (fun q => absurd q.1 (by decide))).trans ((kq (a := 0) (b := 51) eσ640 (fun q => absurd q.1 (by decide))).trans ((kq (a := 0) (b := 51) eσ635 (fun q => absurd q.1 (by decide))).trans ((kq (a := 0) (b := 51) eσ630 (fun q => absurd q.1 (by decide))).trans ((kq (a := 0) (b := 51) eσ625 (fun q => absurd q.1 (by decide))).trans ((kq (a := 0) (b := 51) eσ620 (fun q => absurd q.1 (by decide))).trans ((kq (a := 0) (b := 51) eσ615 (fun q => absurd q.1 (by decide))))))))))), (by omega), (by omega)⟩)
      · have f722 := K2.g_0_14 hσ647
        have q723 : σ647.1 0 14 = v646 := by rw [eσ647, u1_at]; exact if_pos rfl
        first | have f725 : (σ647.1 0 14).toInt = v646.toInt := (congrArg Int32.toInt q723).trans (rfl : v646.toInt = v646.toInt) | skip
        have f726 := tB (σ647.1 0 32)
        have q727 : σ647.1 0 32 = σ645.1 0 32 := by rw [eσ647, u1_at]; exact if_neg (by decide)
        have f728 := congrArg Int32.toInt q727
        have f729 := tB (σ645.1 0 32)
        have q730 : σ645.1 0 32 = σ640.1 0 32 := by rw [eσ645]; exact congrFun (u1_ne (by decide)) 32
        have f731 := congrArg Int32.toInt q730
        have f732 := tB (σ640.1 0 32)
        have q733 : σ640.1 0 32 = σ635.1 0 32 := by rw [eσ640]; exact congrFun (u1_ne (by decide)) 32
        have f734 := congrArg Int32.toInt q733
        have f735 := tB (σ635.1 0 32)
        have q736 : σ635.1 0 32 = σ630.1 0 32 := by rw [eσ635]; exact congrFun (u1_ne (by decide)) 32
        have f737 := congrArg Int32.toInt q736
        have f738 := tB (σ630.1 0 32)
        have q739 : σ630.1 0 32 = σ625.1 0 32 := by rw [eσ630]; exact congrFun (u1_ne (by decide)) 32
        have f740 := congrArg Int32.toInt q739
        have f741 := tB (σ625.1 0 32)
        have q742 : σ625.1 0 32 = σ620.1 0 32 := by rw [eσ625]; exact congrFun (u1_ne (by decide)) 32
        have f743 := congrArg Int32.toInt q742
        have f744 := tB (σ620.1 0 32)
        have q745 : σ620.1 0 32 = σ615.1 0 32 := by rw [eσ620]; exact congrFun (u1_ne (by decide)) 32
        have f746 := congrArg Int32.toInt q745
        have f747 := tB (σ615.1 0 32)
        have q748 : σ615.1 0 32 = σ.1 0 32 := by rw [eσ615]; exact congrFun (u1_ne (by decide)) 32
        have f749 := congrArg Int32.toInt q748
        have f750 := tB (σ.1 0 32)
        first | have f751 := (notleE (rfl : (σ647.1 0 14).toInt = (σ647.1 0 14).toInt) (rfl : (σ647.1 0 32).toInt = (σ647.1 0 32).toInt)).mp c654 | skip
        try unfold fX12_lays_j134
        intro σ752 eσ752
        have hσ752 : K2 σ0 σ752 := by rw [eσ752]; exact hσ647.u (Rg2.u_0_32 _) (fun q => absurd q.2 (by decide)) (fun q => absurd q.2 (by decide)) ⟨⟨by decide, by decide⟩, fun q => absurd q.2 (by decide)⟩
        have f753 := K2.g_0_9 hσ752
        have q754 : σ752.1 0 9 = σ647.1 0 9 := by rw [eσ752, u1_at]; exact if_neg (by decide)
        have f755 := congrArg Int32.toInt q754
        have f756 := K2.g_0_9 hσ647
        have q757 : σ647.1 0 9 = σ645.1 0 9 := by rw [eσ647, u1_at]; exact if_neg (by decide)
        have f758 := congrArg Int32.toInt q757
        have f759 := K2.g_0_9 hσ645
        have q760 : σ645.1 0 9 = σ640.1 0 9 := by rw [eσ645]; exact congrFun (u1_ne (by decide)) 9
        have f761 := congrArg Int32.toInt q760
        have f762 := K2.g_0_9 hσ640
        have q763 : σ640.1 0 9 = σ635.1 0 9 := by rw [eσ640]; exact congrFun (u1_ne (by decide)) 9
        have f764 := congrArg Int32.toInt q763
        have f765 := K2.g_0_9 hσ635
        have q766 : σ635.1 0 9 = σ630.1 0 9 := by rw [eσ635]; exact congrFun (u1_ne (by decide)) 9
        have f767 := congrArg Int32.toInt q766
        have f768 := K2.g_0_9 hσ630
        have q769 : σ630.1 0 9 = σ625.1 0 9 := by rw [eσ630]; exact congrFun (u1_ne (by decide)) 9
        have f770 := congrArg Int32.toInt q769
        have f771 := K2.g_0_9 hσ625
        have q772 : σ625.1 0 9 = σ620.1 0 9 := by rw [eσ625]; exact congrFun (u1_ne (by decide)) 9
        have f773 := congrArg Int32.toInt q772
        have f774 := K2.g_0_9 hσ620
        have q775 : σ620.1 0 9 = σ615.1 0 9 := by rw [eσ620]; exact congrFun (u1_ne (by decide)) 9
        have f776 := congrArg Int32.toInt q775
        have f777 := K2.g_0_9 hσ615
        have q778 : σ615.1 0 9 = σ.1 0 9 := by rw [eσ615]; exact congrFun (u1_ne (by decide)) 9
        have f779 := congrArg Int32.toInt q778
        have f784 := K2.g_0_14 hσ752
        have q785 : σ752.1 0 14 = σ647.1 0 14 := by rw [eσ752, u1_at]; exact if_neg (by decide)
        have f786 := congrArg Int32.toInt q785
        exact hQ _ hσ752 (⟨(kq (a := 0) (b := 35) eσ752 (fun q => absurd q.2 (by decide))).trans ((kq (a := 0) (b := 35) eσ647 (fun q => absurd q.2 (by decide))).trans ((kq (a := 0) (b := 35) eσ645 (fun q => absurd q.1 (by decide))).trans ((kq (a := 0) (b := 35) eσ640 (fun q => absurd q.1 (by decide))).trans ((kq (a := 0) (b := 35) eσ635 (fun q => absurd q.1 (by decide))).trans ((kq (a := 0) (b := 35) eσ630 (fun q => absurd q.1 (by decide))).trans ((kq (a := 0) (b := 35) eσ625 (fun q => absurd q.1 (by decide))).trans ((kq (a := 0) (b := 35) eσ620 (fun q => absurd q.1 (by decide))).trans ((kq (a := 0) (b := 35) eσ615 (fun q => absurd q.1 (by decide))))))))))), (kq (a := 0) (b := 24) eσ752 (fun q => absurd q.2 (by decide))).trans ((kq (a := 0) (b := 24) eσ647 (fun q => absurd q.2 (by decide))).trans ((kq (a := 0) (b := 24) eσ645 (fun q => absurd q.1 (by decide))).trans ((kq (a := 0) (b := 24) eσ640 (fun q => absurd q.1 (by decide))).trans ((kq (a := 0) (b := 24) eσ635 (fun q => absurd q.1 (by decide))).trans ((kq (a := 0) (b := 24) eσ630 (fun q => absurd q.1 (by decide))).trans ((kq (a := 0) (b := 24) eσ625 (fun q => absurd q.1 (by decide))).trans ((kq (a := 0) (b := 24) eσ620 (fun q => absurd q.1 (by decide))).trans ((kq (a := 0) (b := 24) eσ615 (fun q => absurd q.1 (by decide))))))))))), (kq (a := 0) (b := 36) eσ752 (fun q => absurd q.2 (by decide))).trans ((kq (a := 0) (b := 36) eσ647 (fun q => absurd q.2 (by decide))).trans ((kq (a := 0) (b := 36) eσ645 (fun q => absurd q.1 (by decide))).trans ((kq (a := 0) (b := 36) eσ640 (fun q => absurd q.1 (by decide))).trans ((kq (a := 0) (b := 36) eσ635 (fun q => absurd q.1 (by decide))).trans ((kq (a := 0) (b := 36) eσ630 (fun q => absurd q.1 (by decide))).trans ((kq (a := 0) (b := 36) eσ625 (fun q => absurd q.1 (by decide))).trans ((kq (a := 0) (b := 36) eσ620 (fun q => absurd q.1 (by decide))).trans ((kq (a := 0) (b := 36) eσ615 (fun q => absurd q.1 (by decide))))))))))), (kq (a := 0) (b := 41) eσ752 (fun q => absurd q.2 (by decide))).trans ((kq (a := 0) (b := 41) eσ647 (fun q => absurd q.2 (by decide))).trans ((kq (a := 0) (b := 41) eσ645 (fun q => absurd q.1 (by decide))).trans ((kq (a := 0) (b := 41) eσ640 (fun q => absurd q.1 (by decide))).trans ((kq (a := 0) (b := 41) eσ635 (fun q => absurd q.1 (by decide))).trans ((kq (a := 0) (b := 41) eσ630 (fun q => absurd q.1 (by decide))).trans ((kq (a := 0) (b := 41) eσ625 (fun q => absurd q.1 (by decide))).trans ((kq (a := 0) (b := 41) eσ620 (fun q => absurd q.1 (by decide))).trans ((kq (a := 0) (b := 41) eσ615 (fun q => absurd q.1 (by decide))))))))))), (kq (a := 0) (b := 50) eσ752 (fun q => absurd q.2 (by decide))).trans ((kq (a := 0) (b := 50) eσ647 (fun q => absurd q.2 (by decide))).trans ((kq (a := 0) (b := 50) eσ645 (fun q => absurd q.1 (by decide))).trans ((kq (a := 0) (b := 50) eσ640 (fun q => absurd q.1 (by decide))).trans ((kq (a := 0) (b := 50) eσ635 (fun q => absurd q.1 (by decide))).trans ((kq (a := 0) (b := 50) eσ630 (fun q => absurd q.1 (by decide))).trans ((kq (a := 0) (b := 50) eσ625 (fun q => absurd q.1 (by decide))).trans ((kq (a := 0) (b := 50) eσ620 (fun q => absurd q.1 (by decide))).trans ((kq (a := 0) (b := 50) eσ615 (fun q => absurd q.1 (by decide))))))))))), (kq (a := 0) (b := 51) eσ752 (fun q => absurd q.2 (by decide))).trans ((kq (a := 0) (b := 51) eσ647 (fun q => absurd q.2 (by decide))).trans ((kq (a := 0) (b := 51) eσ645 (fun q => absurd q.1 (by decide))).trans ((kq (a := 0) (b := 51) eσ640 (fun q => absurd q.1 (by decide))).trans ((kq (a := 0) (b := 51) eσ635 (fun q => absurd q.1 (by decide))).trans ((kq (a := 0) (b := 51) eσ630 (fun q => absurd q.1 (by decide))).trans ((kq (a := 0) (b := 51) eσ625 (fun q => absurd q.1 (by decide))).trans ((kq (a := 0) (b := 51) eσ620 (fun q => absurd q.1 (by decide))).trans ((kq (a := 0) (b := 51) eσ615 (fun q => absurd q.1 (by decide))))))))))), (by omega), (by omega)⟩)
    · first | have f790 := (noteqE (rfl : (σ.1 0 9).toInt = (σ.1 0 9).toInt) (show (0 : Int32).toInt = 0 from by decide)).mp c611 | skip
      have f795 := K2.g_0_14 hσ
      exact hQ _ hσ (⟨rfl, rfl, rfl, rfl, rfl, rfl, (by omega), (by omega)⟩)
set_option maxHeartbeats 4000000 in
theorem sX12_prints {N : Nat} (hN : 4294967400 ≤ N) {x1 : Int32} {Q : St → Prop} {σ0 σ : St} (hσ : K2 σ0 σ) (hQ : ∀ τ : St, K2 σ0 τ → (τ.1 0 35 = σ.1 0 35 ∧ τ.1 0 24 = σ.1 0 24 ∧ τ.1 0 36 = σ.1 0 36 ∧ τ.1 0 41 = σ.1 0 41 ∧ τ.1 0 50 = σ.1 0 50 ∧ τ.1 0 51 = σ.1 0 51) → Q τ) : fX12_prints N x1 Q σ := by
  unfold fX12_prints
  have f1 := tB x1
  refine sX12_read hN hσ (fun r11 σ2 hσ2 kk10 p12 => ?_)
  obtain ⟨k3, k4, k5, k6, k7, k8, k9⟩ := kk10
  refine ⟨fun c13 => ?_, fun c13 => ?_⟩
  · have f14 := K2.g_0_9 hσ2
    first | have f15 := (eqE (rfl : (σ2.1 0 9).toInt = (σ2.1 0 9).toInt) (show (0 : Int32).toInt = 0 from by decide)).mp c13 | skip
    try unfold fX12_isString
    refine ⟨fun c16 => ?_, fun c16 => ?_⟩
    · have f17 := tB r11
      first | have f18 := (ltE (rfl : r11.toInt = r11.toInt) (show (224 : Int32).toInt = 224 from by decide)).mp c16 | skip
      try dsimp only
      refine ⟨fun c19 => ?_, fun c19 => ?_⟩
      · first | have f20 := (eqE (show (0 : Int32).toInt = 0 from by decide) (show (0 : Int32).toInt = 0 from by decide)).mp c19 | skip
        try unfold fX12_fails
        refine ⟨fun c21 => ?_, fun c21 => ?_⟩
        · first | have f23 := (eqE (rfl : (σ2.1 0 9).toInt = (σ2.1 0 9).toInt) (show (0 : Int32).toInt = 0 from by decide)).mp c21 | skip
          try unfold fX12_fails_j16
          intro σ24 eσ24
          have hσ24 : K2 σ0 σ24 := by rw [eσ24]; exact hσ2.u (Rg2.r_0_9 (leP (show (4 : Int32).toInt = 4 from by decide) (by omega)) (geP (show (4 : Int32).toInt = 4 from by decide) (by omega))) (fun q => absurd q.2 (by decide)) (fun q => absurd q.2 (by decide)) ⟨⟨by decide, by decide⟩, fun q => absurd q.2 (by decide)⟩
          try dsimp only
          try unfold fX12_prints_j26
          refine ⟨fun c25 => ?_, fun c25 => ?_⟩
          · first | have f27 := (eqE (rfl : r11.toInt = r11.toInt) (show (224 : Int32).toInt = 224 from by decide)).mp c25 | skip
            try unfold fX12_prints_j50
            refine ⟨fun c28 => ?_, fun c28 => ?_⟩
            · first | have f30 := (eqE (rfl : r11.toInt = r11.toInt) (show (226 : Int32).toInt = 226 from by decide)).mp c28 | skip
              try unfold fX12_prints_j66
              refine sX12_lays hN hσ24 (fun σ32 hσ32 kk39 => ?_)
              have f42 := K2.g_0_9 hσ24
              have q43 : σ24.1 0 9 = 4 := by rw [eσ24, u1_at]; exact if_pos rfl
              first | have f44 : (σ24.1 0 9).toInt = (4) := (congrArg Int32.toInt q43).trans (show (4 : Int32).toInt = 4 from by decide) | skip
              have f46 := K2.g_0_14 hσ24
              have q47 : σ24.1 0 14 = σ2.1 0 14 := by rw [eσ24, u1_at]; exact if_neg (by decide)
              have f48 := congrArg Int32.toInt q47
              have f49 := K2.g_0_14 hσ2
              have f50 := congrArg Int32.toInt k3
              have f51 := K2.g_0_14 hσ
              obtain ⟨k33, k34, k35, k36, k37, k38, sp40, sp41⟩ := kk39
              exact hQ _ hσ32 (⟨k33.trans ((kq (a := 0) (b := 35) eσ24 (fun q => absurd q.2 (by decide))).trans (k4)), k34.trans ((kq (a := 0) (b := 24) eσ24 (fun q => absurd q.2 (by decide))).trans (k5)), k35.trans ((kq (a := 0) (b := 36) eσ24 (fun q => absurd q.2 (by decide))).trans (k6)), k36.trans ((kq (a := 0) (b := 41) eσ24 (fun q => absurd q.2 (by decide))).trans (k7)), k37.trans ((kq (a := 0) (b := 50) eσ24 (fun q => absurd q.2 (by decide))).trans (k8)), k38.trans ((kq (a := 0) (b := 51) eσ24 (fun q => absurd q.2 (by decide))).trans (k9))⟩)
            · first | have f53 := (noteqE (rfl : r11.toInt = r11.toInt) (show (226 : Int32).toInt = 226 from by decide)).mp c28 | skip
              try unfold fX12_prints_j66
              refine sX12_lays hN hσ24 (fun σ55 hσ55 kk62 => ?_)
              have f65 := K2.g_0_9 hσ24
              have q66 : σ24.1 0 9 = 4 := by rw [eσ24, u1_at]; exact if_pos rfl
              first | have f67 : (σ24.1 0 9).toInt = (4) := (congrArg Int32.toInt q66).trans (show (4 : Int32).toInt = 4 from by decide) | skip
              have f69 := K2.g_0_14 hσ24
              have q70 : σ24.1 0 14 = σ2.1 0 14 := by rw [eσ24, u1_at]; exact if_neg (by decide)
              have f71 := congrArg Int32.toInt q70
              have f72 := K2.g_0_14 hσ2
              have f73 := congrArg Int32.toInt k3
              have f74 := K2.g_0_14 hσ
              obtain ⟨k56, k57, k58, k59, k60, k61, sp63, sp64⟩ := kk62
              exact hQ _ hσ55 (⟨k56.trans ((kq (a := 0) (b := 35) eσ24 (fun q => absurd q.2 (by decide))).trans (k4)), k57.trans ((kq (a := 0) (b := 24) eσ24 (fun q => absurd q.2 (by decide))).trans (k5)), k58.trans ((kq (a := 0) (b := 36) eσ24 (fun q => absurd q.2 (by decide))).trans (k6)), k59.trans ((kq (a := 0) (b := 41) eσ24 (fun q => absurd q.2 (by decide))).trans (k7)), k60.trans ((kq (a := 0) (b := 50) eσ24 (fun q => absurd q.2 (by decide))).trans (k8)), k61.trans ((kq (a := 0) (b := 51) eσ24 (fun q => absurd q.2 (by decide))).trans (k9))⟩)
          · first | have f76 := (noteqE (rfl : r11.toInt = r11.toInt) (show (224 : Int32).toInt = 224 from by decide)).mp c25 | skip
            refine ⟨fun c77 => ?_, fun c77 => ?_⟩
            · first | have f79 := (eqE (rfl : r11.toInt = r11.toInt) (show (226 : Int32).toInt = 226 from by decide)).mp c77 | skip
              try unfold fX12_prints_j50
              refine ⟨fun c80 => ?_, fun c80 => ?_⟩
              · first | have f82 := (eqE (rfl : r11.toInt = r11.toInt) (show (226 : Int32).toInt = 226 from by decide)).mp c80 | skip
                try unfold fX12_prints_j66
                refine sX12_lays hN hσ24 (fun σ84 hσ84 kk91 => ?_)
                have f94 := K2.g_0_9 hσ24
                have q95 : σ24.1 0 9 = 4 := by rw [eσ24, u1_at]; exact if_pos rfl
                first | have f96 : (σ24.1 0 9).toInt = (4) := (congrArg Int32.toInt q95).trans (show (4 : Int32).toInt = 4 from by decide) | skip
                have f98 := K2.g_0_14 hσ24
                have q99 : σ24.1 0 14 = σ2.1 0 14 := by rw [eσ24, u1_at]; exact if_neg (by decide)
                have f100 := congrArg Int32.toInt q99
                have f101 := K2.g_0_14 hσ2
                have f102 := congrArg Int32.toInt k3
                have f103 := K2.g_0_14 hσ
                obtain ⟨k85, k86, k87, k88, k89, k90, sp92, sp93⟩ := kk91
                exact hQ _ hσ84 (⟨k85.trans ((kq (a := 0) (b := 35) eσ24 (fun q => absurd q.2 (by decide))).trans (k4)), k86.trans ((kq (a := 0) (b := 24) eσ24 (fun q => absurd q.2 (by decide))).trans (k5)), k87.trans ((kq (a := 0) (b := 36) eσ24 (fun q => absurd q.2 (by decide))).trans (k6)), k88.trans ((kq (a := 0) (b := 41) eσ24 (fun q => absurd q.2 (by decide))).trans (k7)), k89.trans ((kq (a := 0) (b := 50) eσ24 (fun q => absurd q.2 (by decide))).trans (k8)), k90.trans ((kq (a := 0) (b := 51) eσ24 (fun q => absurd q.2 (by decide))).trans (k9))⟩)
              · first | have f105 := (noteqE (rfl : r11.toInt = r11.toInt) (show (226 : Int32).toInt = 226 from by decide)).mp c80 | skip
                try unfold fX12_prints_j66
                refine sX12_lays hN hσ24 (fun σ107 hσ107 kk114 => ?_)
                have f117 := K2.g_0_9 hσ24
                have q118 : σ24.1 0 9 = 4 := by rw [eσ24, u1_at]; exact if_pos rfl
                first | have f119 : (σ24.1 0 9).toInt = (4) := (congrArg Int32.toInt q118).trans (show (4 : Int32).toInt = 4 from by decide) | skip
                have f121 := K2.g_0_14 hσ24
                have q122 : σ24.1 0 14 = σ2.1 0 14 := by rw [eσ24, u1_at]; exact if_neg (by decide)
                have f123 := congrArg Int32.toInt q122
                have f124 := K2.g_0_14 hσ2
                have f125 := congrArg Int32.toInt k3
                have f126 := K2.g_0_14 hσ
                obtain ⟨k108, k109, k110, k111, k112, k113, sp115, sp116⟩ := kk114
                exact hQ _ hσ107 (⟨k108.trans ((kq (a := 0) (b := 35) eσ24 (fun q => absurd q.2 (by decide))).trans (k4)), k109.trans ((kq (a := 0) (b := 24) eσ24 (fun q => absurd q.2 (by decide))).trans (k5)), k110.trans ((kq (a := 0) (b := 36) eσ24 (fun q => absurd q.2 (by decide))).trans (k6)), k111.trans ((kq (a := 0) (b := 41) eσ24 (fun q => absurd q.2 (by decide))).trans (k7)), k112.trans ((kq (a := 0) (b := 50) eσ24 (fun q => absurd q.2 (by decide))).trans (k8)), k113.trans ((kq (a := 0) (b := 51) eσ24 (fun q => absurd q.2 (by decide))).trans (k9))⟩)
            · first | have f128 := (noteqE (rfl : r11.toInt = r11.toInt) (show (226 : Int32).toInt = 226 from by decide)).mp c77 | skip
              try unfold fX12_prints_j50
              refine ⟨fun c129 => ?_, fun c129 => ?_⟩
              · first | have f131 := (eqE (rfl : r11.toInt = r11.toInt) (show (226 : Int32).toInt = 226 from by decide)).mp c129 | skip
                try unfold fX12_prints_j66
                refine sX12_lays hN hσ24 (fun σ133 hσ133 kk140 => ?_)
                have f143 := K2.g_0_9 hσ24
                have q144 : σ24.1 0 9 = 4 := by rw [eσ24, u1_at]; exact if_pos rfl
                first | have f145 : (σ24.1 0 9).toInt = (4) := (congrArg Int32.toInt q144).trans (show (4 : Int32).toInt = 4 from by decide) | skip
                have f147 := K2.g_0_14 hσ24
                have q148 : σ24.1 0 14 = σ2.1 0 14 := by rw [eσ24, u1_at]; exact if_neg (by decide)
                have f149 := congrArg Int32.toInt q148
                have f150 := K2.g_0_14 hσ2
                have f151 := congrArg Int32.toInt k3
                have f152 := K2.g_0_14 hσ
                obtain ⟨k134, k135, k136, k137, k138, k139, sp141, sp142⟩ := kk140
                exact hQ _ hσ133 (⟨k134.trans ((kq (a := 0) (b := 35) eσ24 (fun q => absurd q.2 (by decide))).trans (k4)), k135.trans ((kq (a := 0) (b := 24) eσ24 (fun q => absurd q.2 (by decide))).trans (k5)), k136.trans ((kq (a := 0) (b := 36) eσ24 (fun q => absurd q.2 (by decide))).trans (k6)), k137.trans ((kq (a := 0) (b := 41) eσ24 (fun q => absurd q.2 (by decide))).trans (k7)), k138.trans ((kq (a := 0) (b := 50) eσ24 (fun q => absurd q.2 (by decide))).trans (k8)), k139.trans ((kq (a := 0) (b := 51) eσ24 (fun q => absurd q.2 (by decide))).trans (k9))⟩)
              · first | have f154 := (noteqE (rfl : r11.toInt = r11.toInt) (show (226 : Int32).toInt = 226 from by decide)).mp c129 | skip
                try unfold fX12_prints_j66
                refine sX12_lays hN hσ24 (fun σ156 hσ156 kk163 => ?_)
                have f166 := K2.g_0_9 hσ24
                have q167 : σ24.1 0 9 = 4 := by rw [eσ24, u1_at]; exact if_pos rfl
                first | have f168 : (σ24.1 0 9).toInt = (4) := (congrArg Int32.toInt q167).trans (show (4 : Int32).toInt = 4 from by decide) | skip
                have f170 := K2.g_0_14 hσ24
                have q171 : σ24.1 0 14 = σ2.1 0 14 := by rw [eσ24, u1_at]; exact if_neg (by decide)
                have f172 := congrArg Int32.toInt q171
                have f173 := K2.g_0_14 hσ2
                have f174 := congrArg Int32.toInt k3
                have f175 := K2.g_0_14 hσ
                obtain ⟨k157, k158, k159, k160, k161, k162, sp164, sp165⟩ := kk163
                exact hQ _ hσ156 (⟨k157.trans ((kq (a := 0) (b := 35) eσ24 (fun q => absurd q.2 (by decide))).trans (k4)), k158.trans ((kq (a := 0) (b := 24) eσ24 (fun q => absurd q.2 (by decide))).trans (k5)), k159.trans ((kq (a := 0) (b := 36) eσ24 (fun q => absurd q.2 (by decide))).trans (k6)), k160.trans ((kq (a := 0) (b := 41) eσ24 (fun q => absurd q.2 (by decide))).trans (k7)), k161.trans ((kq (a := 0) (b := 50) eσ24 (fun q => absurd q.2 (by decide))).trans (k8)), k162.trans ((kq (a := 0) (b := 51) eσ24 (fun q => absurd q.2 (by decide))).trans (k9))⟩)
        · first | have f177 := (noteqE (rfl : (σ2.1 0 9).toInt = (σ2.1 0 9).toInt) (show (0 : Int32).toInt = 0 from by decide)).mp c21 | skip
          try unfold fX12_fails_j16
          intro σ178 eσ178
          have hσ178 : K2 σ0 σ178 := by rw [eσ178]; exact hσ2.u (Rg2.r_0_9 (leP (rfl : (σ2.1 0 9).toInt = (σ2.1 0 9).toInt) (by omega)) (geP (rfl : (σ2.1 0 9).toInt = (σ2.1 0 9).toInt) (by omega))) (fun q => absurd q.2 (by decide)) (fun q => absurd q.2 (by decide)) ⟨⟨by decide, by decide⟩, fun q => absurd q.2 (by decide)⟩
          try dsimp only
          try unfold fX12_prints_j26
          refine ⟨fun c180 => ?_, fun c180 => ?_⟩
          · first | have f182 := (eqE (rfl : r11.toInt = r11.toInt) (show (224 : Int32).toInt = 224 from by decide)).mp c180 | skip
            try unfold fX12_prints_j50
            refine ⟨fun c183 => ?_, fun c183 => ?_⟩
            · first | have f185 := (eqE (rfl : r11.toInt = r11.toInt) (show (226 : Int32).toInt = 226 from by decide)).mp c183 | skip
              try unfold fX12_prints_j66
              refine sX12_lays hN hσ178 (fun σ187 hσ187 kk194 => ?_)
              have f197 := K2.g_0_9 hσ178
              have q198 : σ178.1 0 9 = (σ2.1 0 9) := by rw [eσ178, u1_at]; exact if_pos rfl
              first | have f200 : (σ178.1 0 9).toInt = (σ2.1 0 9).toInt := (congrArg Int32.toInt q198).trans (rfl : (σ2.1 0 9).toInt = (σ2.1 0 9).toInt) | skip
              have f202 := K2.g_0_14 hσ178
              have q203 : σ178.1 0 14 = σ2.1 0 14 := by rw [eσ178, u1_at]; exact if_neg (by decide)
              have f204 := congrArg Int32.toInt q203
              have f205 := K2.g_0_14 hσ2
              have f206 := congrArg Int32.toInt k3
              have f207 := K2.g_0_14 hσ
              obtain ⟨k188, k189, k190, k191, k192, k193, sp195, sp196⟩ := kk194
              exact hQ _ hσ187 (⟨k188.trans ((kq (a := 0) (b := 35) eσ178 (fun q => absurd q.2 (by decide))).trans (k4)), k189.trans ((kq (a := 0) (b := 24) eσ178 (fun q => absurd q.2 (by decide))).trans (k5)), k190.trans ((kq (a := 0) (b := 36) eσ178 (fun q => absurd q.2 (by decide))).trans (k6)), k191.trans ((kq (a := 0) (b := 41) eσ178 (fun q => absurd q.2 (by decide))).trans (k7)), k192.trans ((kq (a := 0) (b := 50) eσ178 (fun q => absurd q.2 (by decide))).trans (k8)), k193.trans ((kq (a := 0) (b := 51) eσ178 (fun q => absurd q.2 (by decide))).trans (k9))⟩)
            · first | have f209 := (noteqE (rfl : r11.toInt = r11.toInt) (show (226 : Int32).toInt = 226 from by decide)).mp c183 | skip
              try unfold fX12_prints_j66
              refine sX12_lays hN hσ178 (fun σ211 hσ211 kk218 => ?_)
              have f221 := K2.g_0_9 hσ178
              have q222 : σ178.1 0 9 = (σ2.1 0 9) := by rw [eσ178, u1_at]; exact if_pos rfl
              first | have f224 : (σ178.1 0 9).toInt = (σ2.1 0 9).toInt := (congrArg Int32.toInt q222).trans (rfl : (σ2.1 0 9).toInt = (σ2.1 0 9).toInt) | skip
              have f226 := K2.g_0_14 hσ178
              have q227 : σ178.1 0 14 = σ2.1 0 14 := by rw [eσ178, u1_at]; exact if_neg (by decide)
              have f228 := congrArg Int32.toInt q227
              have f229 := K2.g_0_14 hσ2
              have f230 := congrArg Int32.toInt k3
              have f231 := K2.g_0_14 hσ
              obtain ⟨k212, k213, k214, k215, k216, k217, sp219, sp220⟩ := kk218
              exact hQ _ hσ211 (⟨k212.trans ((kq (a := 0) (b := 35) eσ178 (fun q => absurd q.2 (by decide))).trans (k4)), k213.trans ((kq (a := 0) (b := 24) eσ178 (fun q => absurd q.2 (by decide))).trans (k5)), k214.trans ((kq (a := 0) (b := 36) eσ178 (fun q => absurd q.2 (by decide))).trans (k6)), k215.trans ((kq (a := 0) (b := 41) eσ178 (fun q => absurd q.2 (by decide))).trans (k7)), k216.trans ((kq (a := 0) (b := 50) eσ178 (fun q => absurd q.2 (by decide))).trans (k8)), k217.trans ((kq (a := 0) (b := 51) eσ178 (fun q => absurd q.2 (by decide))).trans (k9))⟩)
          · first | have f233 := (noteqE (rfl : r11.toInt = r11.toInt) (show (224 : Int32).toInt = 224 from by decide)).mp c180 | skip
            refine ⟨fun c234 => ?_, fun c234 => ?_⟩
            · first | have f236 := (eqE (rfl : r11.toInt = r11.toInt) (show (226 : Int32).toInt = 226 from by decide)).mp c234 | skip
              try unfold fX12_prints_j50
              refine ⟨fun c237 => ?_, fun c237 => ?_⟩
              · first | have f239 := (eqE (rfl : r11.toInt = r11.toInt) (show (226 : Int32).toInt = 226 from by decide)).mp c237 | skip
                try unfold fX12_prints_j66
                refine sX12_lays hN hσ178 (fun σ241 hσ241 kk248 => ?_)
                have f251 := K2.g_0_9 hσ178
                have q252 : σ178.1 0 9 = (σ2.1 0 9) := by rw [eσ178, u1_at]; exact if_pos rfl
                first | have f254 : (σ178.1 0 9).toInt = (σ2.1 0 9).toInt := (congrArg Int32.toInt q252).trans (rfl : (σ2.1 0 9).toInt = (σ2.1 0 9).toInt) | skip
                have f256 := K2.g_0_14 hσ178
                have q257 : σ178.1 0 14 = σ2.1 0 14 := by rw [eσ178, u1_at]; exact if_neg (by decide)
                have f258 := congrArg Int32.toInt q257
                have f259 := K2.g_0_14 hσ2
                have f260 := congrArg Int32.toInt k3
                have f261 := K2.g_0_14 hσ
                obtain ⟨k242, k243, k244, k245, k246, k247, sp249, sp250⟩ := kk248
                exact hQ _ hσ241 (⟨k242.trans ((kq (a := 0) (b := 35) eσ178 (fun q => absurd q.2 (by decide))).trans (k4)), k243.trans ((kq (a := 0) (b := 24) eσ178 (fun q => absurd q.2 (by decide))).trans (k5)), k244.trans ((kq (a := 0) (b := 36) eσ178 (fun q => absurd q.2 (by decide))).trans (k6)), k245.trans ((kq (a := 0) (b := 41) eσ178 (fun q => absurd q.2 (by decide))).trans (k7)), k246.trans ((kq (a := 0) (b := 50) eσ178 (fun q => absurd q.2 (by decide))).trans (k8)), k247.trans ((kq (a := 0) (b := 51) eσ178 (fun q => absurd q.2 (by decide))).trans (k9))⟩)
              · first | have f263 := (noteqE (rfl : r11.toInt = r11.toInt) (show (226 : Int32).toInt = 226 from by decide)).mp c237 | skip
                try unfold fX12_prints_j66
                refine sX12_lays hN hσ178 (fun σ265 hσ265 kk272 => ?_)
                have f275 := K2.g_0_9 hσ178
                have q276 : σ178.1 0 9 = (σ2.1 0 9) := by rw [eσ178, u1_at]; exact if_pos rfl
                first | have f278 : (σ178.1 0 9).toInt = (σ2.1 0 9).toInt := (congrArg Int32.toInt q276).trans (rfl : (σ2.1 0 9).toInt = (σ2.1 0 9).toInt) | skip
                have f280 := K2.g_0_14 hσ178
                have q281 : σ178.1 0 14 = σ2.1 0 14 := by rw [eσ178, u1_at]; exact if_neg (by decide)
                have f282 := congrArg Int32.toInt q281
                have f283 := K2.g_0_14 hσ2
                have f284 := congrArg Int32.toInt k3
                have f285 := K2.g_0_14 hσ
                obtain ⟨k266, k267, k268, k269, k270, k271, sp273, sp274⟩ := kk272
                exact hQ _ hσ265 (⟨k266.trans ((kq (a := 0) (b := 35) eσ178 (fun q => absurd q.2 (by decide))).trans (k4)), k267.trans ((kq (a := 0) (b := 24) eσ178 (fun q => absurd q.2 (by decide))).trans (k5)), k268.trans ((kq (a := 0) (b := 36) eσ178 (fun q => absurd q.2 (by decide))).trans (k6)), k269.trans ((kq (a := 0) (b := 41) eσ178 (fun q => absurd q.2 (by decide))).trans (k7)), k270.trans ((kq (a := 0) (b := 50) eσ178 (fun q => absurd q.2 (by decide))).trans (k8)), k271.trans ((kq (a := 0) (b := 51) eσ178 (fun q => absurd q.2 (by decide))).trans (k9))⟩)
            · first | have f287 := (noteqE (rfl : r11.toInt = r11.toInt) (show (226 : Int32).toInt = 226 from by decide)).mp c234 | skip
              try unfold fX12_prints_j50
              refine ⟨fun c288 => ?_, fun c288 => ?_⟩
              · first | have f290 := (eqE (rfl : r11.toInt = r11.toInt) (show (226 : Int32).toInt = 226 from by decide)).mp c288 | skip
                try unfold fX12_prints_j66
                refine sX12_lays hN hσ178 (fun σ292 hσ292 kk299 => ?_)
                have f302 := K2.g_0_9 hσ178
                have q303 : σ178.1 0 9 = (σ2.1 0 9) := by rw [eσ178, u1_at]; exact if_pos rfl
                first | have f305 : (σ178.1 0 9).toInt = (σ2.1 0 9).toInt := (congrArg Int32.toInt q303).trans (rfl : (σ2.1 0 9).toInt = (σ2.1 0 9).toInt) | skip
                have f307 := K2.g_0_14 hσ178
                have q308 : σ178.1 0 14 = σ2.1 0 14 := by rw [eσ178, u1_at]; exact if_neg (by decide)
                have f309 := congrArg Int32.toInt q308
                have f310 := K2.g_0_14 hσ2
                have f311 := congrArg Int32.toInt k3
                have f312 := K2.g_0_14 hσ
                obtain ⟨k293, k294, k295, k296, k297, k298, sp300, sp301⟩ := kk299
                exact hQ _ hσ292 (⟨k293.trans ((kq (a := 0) (b := 35) eσ178 (fun q => absurd q.2 (by decide))).trans (k4)), k294.trans ((kq (a := 0) (b := 24) eσ178 (fun q => absurd q.2 (by decide))).trans (k5)), k295.trans ((kq (a := 0) (b := 36) eσ178 (fun q => absurd q.2 (by decide))).trans (k6)), k296.trans ((kq (a := 0) (b := 41) eσ178 (fun q => absurd q.2 (by decide))).trans (k7)), k297.trans ((kq (a := 0) (b := 50) eσ178 (fun q => absurd q.2 (by decide))).trans (k8)), k298.trans ((kq (a := 0) (b := 51) eσ178 (fun q => absurd q.2 (by decide))).trans (k9))⟩)
              · first | have f314 := (noteqE (rfl : r11.toInt = r11.toInt) (show (226 : Int32).toInt = 226 from by decide)).mp c288 | skip
                try unfold fX12_prints_j66
                refine sX12_lays hN hσ178 (fun σ316 hσ316 kk323 => ?_)
                have f326 := K2.g_0_9 hσ178
                have q327 : σ178.1 0 9 = (σ2.1 0 9) := by rw [eσ178, u1_at]; exact if_pos rfl
                first | have f329 : (σ178.1 0 9).toInt = (σ2.1 0 9).toInt := (congrArg Int32.toInt q327).trans (rfl : (σ2.1 0 9).toInt = (σ2.1 0 9).toInt) | skip
                have f331 := K2.g_0_14 hσ178
                have q332 : σ178.1 0 14 = σ2.1 0 14 := by rw [eσ178, u1_at]; exact if_neg (by decide)
                have f333 := congrArg Int32.toInt q332
                have f334 := K2.g_0_14 hσ2
                have f335 := congrArg Int32.toInt k3
                have f336 := K2.g_0_14 hσ
                obtain ⟨k317, k318, k319, k320, k321, k322, sp324, sp325⟩ := kk323
                exact hQ _ hσ316 (⟨k317.trans ((kq (a := 0) (b := 35) eσ178 (fun q => absurd q.2 (by decide))).trans (k4)), k318.trans ((kq (a := 0) (b := 24) eσ178 (fun q => absurd q.2 (by decide))).trans (k5)), k319.trans ((kq (a := 0) (b := 36) eσ178 (fun q => absurd q.2 (by decide))).trans (k6)), k320.trans ((kq (a := 0) (b := 41) eσ178 (fun q => absurd q.2 (by decide))).trans (k7)), k321.trans ((kq (a := 0) (b := 50) eσ178 (fun q => absurd q.2 (by decide))).trans (k8)), k322.trans ((kq (a := 0) (b := 51) eσ178 (fun q => absurd q.2 (by decide))).trans (k9))⟩)
      · first | have f337 := (noteqE (show (0 : Int32).toInt = 0 from by decide) (show (0 : Int32).toInt = 0 from by decide)).mp c19 | skip
        try unfold fX12_prints_j26
        refine ⟨fun c338 => ?_, fun c338 => ?_⟩
        · first | have f340 := (eqE (rfl : r11.toInt = r11.toInt) (show (224 : Int32).toInt = 224 from by decide)).mp c338 | skip
          try unfold fX12_prints_j50
          refine ⟨fun c341 => ?_, fun c341 => ?_⟩
          · first | have f343 := (eqE (rfl : r11.toInt = r11.toInt) (show (226 : Int32).toInt = 226 from by decide)).mp c341 | skip
            try unfold fX12_prints_j66
            refine sX12_lays hN hσ2 (fun σ345 hσ345 kk352 => ?_)
            have f357 := K2.g_0_14 hσ2
            have f358 := congrArg Int32.toInt k3
            have f359 := K2.g_0_14 hσ
            obtain ⟨k346, k347, k348, k349, k350, k351, sp353, sp354⟩ := kk352
            exact hQ _ hσ345 (⟨k346.trans (k4), k347.trans (k5), k348.trans (k6), k349.trans (k7), k350.trans (k8), k351.trans (k9)⟩)
          · first | have f361 := (noteqE (rfl : r11.toInt = r11.toInt) (show (226 : Int32).toInt = 226 from by decide)).mp c341 | skip
            try unfold fX12_prints_j66
            refine sX12_lays hN hσ2 (fun σ363 hσ363 kk370 => ?_)
            have f375 := K2.g_0_14 hσ2
            have f376 := congrArg Int32.toInt k3
            have f377 := K2.g_0_14 hσ
            obtain ⟨k364, k365, k366, k367, k368, k369, sp371, sp372⟩ := kk370
            exact hQ _ hσ363 (⟨k364.trans (k4), k365.trans (k5), k366.trans (k6), k367.trans (k7), k368.trans (k8), k369.trans (k9)⟩)
        · first | have f379 := (noteqE (rfl : r11.toInt = r11.toInt) (show (224 : Int32).toInt = 224 from by decide)).mp c338 | skip
          refine ⟨fun c380 => ?_, fun c380 => ?_⟩
          · first | have f382 := (eqE (rfl : r11.toInt = r11.toInt) (show (226 : Int32).toInt = 226 from by decide)).mp c380 | skip
            try unfold fX12_prints_j50
            refine ⟨fun c383 => ?_, fun c383 => ?_⟩
            · first | have f385 := (eqE (rfl : r11.toInt = r11.toInt) (show (226 : Int32).toInt = 226 from by decide)).mp c383 | skip
              try unfold fX12_prints_j66
              refine sX12_lays hN hσ2 (fun σ387 hσ387 kk394 => ?_)
              have f399 := K2.g_0_14 hσ2
              have f400 := congrArg Int32.toInt k3
              have f401 := K2.g_0_14 hσ
              obtain ⟨k388, k389, k390, k391, k392, k393, sp395, sp396⟩ := kk394
              exact hQ _ hσ387 (⟨k388.trans (k4), k389.trans (k5), k390.trans (k6), k391.trans (k7), k392.trans (k8), k393.trans (k9)⟩)
            · first | have f403 := (noteqE (rfl : r11.toInt = r11.toInt) (show (226 : Int32).toInt = 226 from by decide)).mp c383 | skip
              try unfold fX12_prints_j66
              refine sX12_lays hN hσ2 (fun σ405 hσ405 kk412 => ?_)
              have f417 := K2.g_0_14 hσ2
              have f418 := congrArg Int32.toInt k3
              have f419 := K2.g_0_14 hσ
              obtain ⟨k406, k407, k408, k409, k410, k411, sp413, sp414⟩ := kk412
              exact hQ _ hσ405 (⟨k406.trans (k4), k407.trans (k5), k408.trans (k6), k409.trans (k7), k410.trans (k8), k411.trans (k9)⟩)
          · first | have f421 := (noteqE (rfl : r11.toInt = r11.toInt) (show (226 : Int32).toInt = 226 from by decide)).mp c380 | skip
            try unfold fX12_prints_j50
            refine ⟨fun c422 => ?_, fun c422 => ?_⟩
            · first | have f424 := (eqE (rfl : r11.toInt = r11.toInt) (show (226 : Int32).toInt = 226 from by decide)).mp c422 | skip
              try unfold fX12_prints_j66
              refine sX12_lays hN hσ2 (fun σ426 hσ426 kk433 => ?_)
              have f438 := K2.g_0_14 hσ2
              have f439 := congrArg Int32.toInt k3
              have f440 := K2.g_0_14 hσ
              obtain ⟨k427, k428, k429, k430, k431, k432, sp434, sp435⟩ := kk433
              exact hQ _ hσ426 (⟨k427.trans (k4), k428.trans (k5), k429.trans (k6), k430.trans (k7), k431.trans (k8), k432.trans (k9)⟩)
            · first | have f442 := (noteqE (rfl : r11.toInt = r11.toInt) (show (226 : Int32).toInt = 226 from by decide)).mp c422 | skip
              try unfold fX12_prints_j66
              refine sX12_lays hN hσ2 (fun σ444 hσ444 kk451 => ?_)
              have f456 := K2.g_0_14 hσ2
              have f457 := congrArg Int32.toInt k3
              have f458 := K2.g_0_14 hσ
              obtain ⟨k445, k446, k447, k448, k449, k450, sp452, sp453⟩ := kk451
              exact hQ _ hσ444 (⟨k445.trans (k4), k446.trans (k5), k447.trans (k6), k448.trans (k7), k449.trans (k8), k450.trans (k9)⟩)
    · have f459 := tB r11
      first | have f460 := (notltE (rfl : r11.toInt = r11.toInt) (show (224 : Int32).toInt = 224 from by decide)).mp c16 | skip
      refine ⟨fun c461 => ?_, fun c461 => ?_⟩
      · first | have f463 := (ltE (show (226 : Int32).toInt = 226 from by decide) (rfl : r11.toInt = r11.toInt)).mp c461 | skip
        try dsimp only
        refine ⟨fun c464 => ?_, fun c464 => ?_⟩
        · first | have f465 := (eqE (show (0 : Int32).toInt = 0 from by decide) (show (0 : Int32).toInt = 0 from by decide)).mp c464 | skip
          try unfold fX12_fails
          refine ⟨fun c466 => ?_, fun c466 => ?_⟩
          · first | have f468 := (eqE (rfl : (σ2.1 0 9).toInt = (σ2.1 0 9).toInt) (show (0 : Int32).toInt = 0 from by decide)).mp c466 | skip
            try unfold fX12_fails_j16
            intro σ469 eσ469
            have hσ469 : K2 σ0 σ469 := by rw [eσ469]; exact hσ2.u (Rg2.r_0_9 (leP (show (4 : Int32).toInt = 4 from by decide) (by omega)) (geP (show (4 : Int32).toInt = 4 from by decide) (by omega))) (fun q => absurd q.2 (by decide)) (fun q => absurd q.2 (by decide)) ⟨⟨by decide, by decide⟩, fun q => absurd q.2 (by decide)⟩
            try dsimp only
            try unfold fX12_prints_j26
            refine ⟨fun c470 => ?_, fun c470 => ?_⟩
            · first | have f472 := (eqE (rfl : r11.toInt = r11.toInt) (show (224 : Int32).toInt = 224 from by decide)).mp c470 | skip
              try unfold fX12_prints_j50
              refine ⟨fun c473 => ?_, fun c473 => ?_⟩
              · first | have f475 := (eqE (rfl : r11.toInt = r11.toInt) (show (226 : Int32).toInt = 226 from by decide)).mp c473 | skip
                try unfold fX12_prints_j66
                refine sX12_lays hN hσ469 (fun σ477 hσ477 kk484 => ?_)
                have f487 := K2.g_0_9 hσ469
                have q488 : σ469.1 0 9 = 4 := by rw [eσ469, u1_at]; exact if_pos rfl
                first | have f489 : (σ469.1 0 9).toInt = (4) := (congrArg Int32.toInt q488).trans (show (4 : Int32).toInt = 4 from by decide) | skip
                have f491 := K2.g_0_14 hσ469
                have q492 : σ469.1 0 14 = σ2.1 0 14 := by rw [eσ469, u1_at]; exact if_neg (by decide)
                have f493 := congrArg Int32.toInt q492
                have f494 := K2.g_0_14 hσ2
                have f495 := congrArg Int32.toInt k3
                have f496 := K2.g_0_14 hσ
                obtain ⟨k478, k479, k480, k481, k482, k483, sp485, sp486⟩ := kk484
                exact hQ _ hσ477 (⟨k478.trans ((kq (a := 0) (b := 35) eσ469 (fun q => absurd q.2 (by decide))).trans (k4)), k479.trans ((kq (a := 0) (b := 24) eσ469 (fun q => absurd q.2 (by decide))).trans (k5)), k480.trans ((kq (a := 0) (b := 36) eσ469 (fun q => absurd q.2 (by decide))).trans (k6)), k481.trans ((kq (a := 0) (b := 41) eσ469 (fun q => absurd q.2 (by decide))).trans (k7)), k482.trans ((kq (a := 0) (b := 50) eσ469 (fun q => absurd q.2 (by decide))).trans (k8)), k483.trans ((kq (a := 0) (b := 51) eσ469 (fun q => absurd q.2 (by decide))).trans (k9))⟩)
              · first | have f498 := (noteqE (rfl : r11.toInt = r11.toInt) (show (226 : Int32).toInt = 226 from by decide)).mp c473 | skip
                try unfold fX12_prints_j66
                refine sX12_lays hN hσ469 (fun σ500 hσ500 kk507 => ?_)
                have f510 := K2.g_0_9 hσ469
                have q511 : σ469.1 0 9 = 4 := by rw [eσ469, u1_at]; exact if_pos rfl
                first | have f512 : (σ469.1 0 9).toInt = (4) := (congrArg Int32.toInt q511).trans (show (4 : Int32).toInt = 4 from by decide) | skip
                have f514 := K2.g_0_14 hσ469
                have q515 : σ469.1 0 14 = σ2.1 0 14 := by rw [eσ469, u1_at]; exact if_neg (by decide)
                have f516 := congrArg Int32.toInt q515
                have f517 := K2.g_0_14 hσ2
                have f518 := congrArg Int32.toInt k3
                have f519 := K2.g_0_14 hσ
                obtain ⟨k501, k502, k503, k504, k505, k506, sp508, sp509⟩ := kk507
                exact hQ _ hσ500 (⟨k501.trans ((kq (a := 0) (b := 35) eσ469 (fun q => absurd q.2 (by decide))).trans (k4)), k502.trans ((kq (a := 0) (b := 24) eσ469 (fun q => absurd q.2 (by decide))).trans (k5)), k503.trans ((kq (a := 0) (b := 36) eσ469 (fun q => absurd q.2 (by decide))).trans (k6)), k504.trans ((kq (a := 0) (b := 41) eσ469 (fun q => absurd q.2 (by decide))).trans (k7)), k505.trans ((kq (a := 0) (b := 50) eσ469 (fun q => absurd q.2 (by decide))).trans (k8)), k506.trans ((kq (a := 0) (b := 51) eσ469 (fun q => absurd q.2 (by decide))).trans (k9))⟩)
            · first | have f521 := (noteqE (rfl : r11.toInt = r11.toInt) (show (224 : Int32).toInt = 224 from by decide)).mp c470 | skip
              refine ⟨fun c522 => ?_, fun c522 => ?_⟩
              · first | have f524 := (eqE (rfl : r11.toInt = r11.toInt) (show (226 : Int32).toInt = 226 from by decide)).mp c522 | skip
                try unfold fX12_prints_j50
                refine ⟨fun c525 => ?_, fun c525 => ?_⟩
                · first | have f527 := (eqE (rfl : r11.toInt = r11.toInt) (show (226 : Int32).toInt = 226 from by decide)).mp c525 | skip
                  try unfold fX12_prints_j66
                  refine sX12_lays hN hσ469 (fun σ529 hσ529 kk536 => ?_)
                  have f539 := K2.g_0_9 hσ469
                  have q540 : σ469.1 0 9 = 4 := by rw [eσ469, u1_at]; exact if_pos rfl
                  first | have f541 : (σ469.1 0 9).toInt = (4) := (congrArg Int32.toInt q540).trans (show (4 : Int32).toInt = 4 from by decide) | skip
                  have f543 := K2.g_0_14 hσ469
                  have q544 : σ469.1 0 14 = σ2.1 0 14 := by rw [eσ469, u1_at]; exact if_neg (by decide)
                  have f545 := congrArg Int32.toInt q544
                  have f546 := K2.g_0_14 hσ2
                  have f547 := congrArg Int32.toInt k3
                  have f548 := K2.g_0_14 hσ
                  obtain ⟨k530, k531, k532, k533, k534, k535, sp537, sp538⟩ := kk536
                  exact hQ _ hσ529 (⟨k530.trans ((kq (a := 0) (b := 35) eσ469 (fun q => absurd q.2 (by decide))).trans (k4)), k531.trans ((kq (a := 0) (b := 24) eσ469 (fun q => absurd q.2 (by decide))).trans (k5)), k532.trans ((kq (a := 0) (b := 36) eσ469 (fun q => absurd q.2 (by decide))).trans (k6)), k533.trans ((kq (a := 0) (b := 41) eσ469 (fun q => absurd q.2 (by decide))).trans (k7)), k534.trans ((kq (a := 0) (b := 50) eσ469 (fun q => absurd q.2 (by decide))).trans (k8)), k535.trans ((kq (a := 0) (b := 51) eσ469 (fun q => absurd q.2 (by decide))).trans (k9))⟩)
                · first | have f550 := (noteqE (rfl : r11.toInt = r11.toInt) (show (226 : Int32).toInt = 226 from by decide)).mp c525 | skip
                  try unfold fX12_prints_j66
                  refine sX12_lays hN hσ469 (fun σ552 hσ552 kk559 => ?_)
                  have f562 := K2.g_0_9 hσ469
                  have q563 : σ469.1 0 9 = 4 := by rw [eσ469, u1_at]; exact if_pos rfl
                  first | have f564 : (σ469.1 0 9).toInt = (4) := (congrArg Int32.toInt q563).trans (show (4 : Int32).toInt = 4 from by decide) | skip
                  have f566 := K2.g_0_14 hσ469
                  have q567 : σ469.1 0 14 = σ2.1 0 14 := by rw [eσ469, u1_at]; exact if_neg (by decide)
                  have f568 := congrArg Int32.toInt q567
                  have f569 := K2.g_0_14 hσ2
                  have f570 := congrArg Int32.toInt k3
                  have f571 := K2.g_0_14 hσ
                  obtain ⟨k553, k554, k555, k556, k557, k558, sp560, sp561⟩ := kk559
                  exact hQ _ hσ552 (⟨k553.trans ((kq (a := 0) (b := 35) eσ469 (fun q => absurd q.2 (by decide))).trans (k4)), k554.trans ((kq (a := 0) (b := 24) eσ469 (fun q => absurd q.2 (by decide))).trans (k5)), k555.trans ((kq (a := 0) (b := 36) eσ469 (fun q => absurd q.2 (by decide))).trans (k6)), k556.trans ((kq (a := 0) (b := 41) eσ469 (fun q => absurd q.2 (by decide))).trans (k7)), k557.trans ((kq (a := 0) (b := 50) eσ469 (fun q => absurd q.2 (by decide))).trans (k8)), k558.trans ((kq (a := 0) (b := 51) eσ469 (fun q => absurd q.2 (by decide))).trans (k9))⟩)
              · first | have f573 := (noteqE (rfl : r11.toInt = r11.toInt) (show (226 : Int32).toInt = 226 from by decide)).mp c522 | skip
                try unfold fX12_prints_j50
                refine ⟨fun c574 => ?_, fun c574 => ?_⟩
                · first | have f576 := (eqE (rfl : r11.toInt = r11.toInt) (show (226 : Int32).toInt = 226 from by decide)).mp c574 | skip
                  try unfold fX12_prints_j66
                  refine sX12_lays hN hσ469 (fun σ578 hσ578 kk585 => ?_)
                  have f588 := K2.g_0_9 hσ469
                  have q589 : σ469.1 0 9 = 4 := by rw [eσ469, u1_at]; exact if_pos rfl
                  first | have f590 : (σ469.1 0 9).toInt = (4) := (congrArg Int32.toInt q589).trans (show (4 : Int32).toInt = 4 from by decide) | skip
                  have f592 := K2.g_0_14 hσ469
                  have q593 : σ469.1 0 14 = σ2.1 0 14 := by rw [eσ469, u1_at]; exact if_neg (by decide)
                  have f594 := congrArg Int32.toInt q593
                  have f595 := K2.g_0_14 hσ2
                  have f596 := congrArg Int32.toInt k3
                  have f597 := K2.g_0_14 hσ
                  obtain ⟨k579, k580, k581, k582, k583, k584, sp586, sp587⟩ := kk585
                  exact hQ _ hσ578 (⟨k579.trans ((kq (a := 0) (b := 35) eσ469 (fun q => absurd q.2 (by decide))).trans (k4)), k580.trans ((kq (a := 0) (b := 24) eσ469 (fun q => absurd q.2 (by decide))).trans (k5)), k581.trans ((kq (a := 0) (b := 36) eσ469 (fun q => absurd q.2 (by decide))).trans (k6)), k582.trans ((kq (a := 0) (b := 41) eσ469 (fun q => absurd q.2 (by decide))).trans (k7)), k583.trans ((kq (a := 0) (b := 50) eσ469 (fun q => absurd q.2 (by decide))).trans (k8)), k584.trans ((kq (a := 0) (b := 51) eσ469 (fun q => absurd q.2 (by decide))).trans (k9))⟩)
                · first | have f599 := (noteqE (rfl : r11.toInt = r11.toInt) (show (226 : Int32).toInt = 226 from by decide)).mp c574 | skip
                  try unfold fX12_prints_j66
                  refine sX12_lays hN hσ469 (fun σ601 hσ601 kk608 => ?_)
                  have f611 := K2.g_0_9 hσ469
                  have q612 : σ469.1 0 9 = 4 := by rw [eσ469, u1_at]; exact if_pos rfl
                  first | have f613 : (σ469.1 0 9).toInt = (4) := (congrArg Int32.toInt q612).trans (show (4 : Int32).toInt = 4 from by decide) | skip
                  have f615 := K2.g_0_14 hσ469
                  have q616 : σ469.1 0 14 = σ2.1 0 14 := by rw [eσ469, u1_at]; exact if_neg (by decide)
                  have f617 := congrArg Int32.toInt q616
                  have f618 := K2.g_0_14 hσ2
                  have f619 := congrArg Int32.toInt k3
                  have f620 := K2.g_0_14 hσ
                  obtain ⟨k602, k603, k604, k605, k606, k607, sp609, sp610⟩ := kk608
                  exact hQ _ hσ601 (⟨k602.trans ((kq (a := 0) (b := 35) eσ469 (fun q => absurd q.2 (by decide))).trans (k4)), k603.trans ((kq (a := 0) (b := 24) eσ469 (fun q => absurd q.2 (by decide))).trans (k5)), k604.trans ((kq (a := 0) (b := 36) eσ469 (fun q => absurd q.2 (by decide))).trans (k6)), k605.trans ((kq (a := 0) (b := 41) eσ469 (fun q => absurd q.2 (by decide))).trans (k7)), k606.trans ((kq (a := 0) (b := 50) eσ469 (fun q => absurd q.2 (by decide))).trans (k8)), k607.trans ((kq (a := 0) (b := 51) eσ469 (fun q => absurd q.2 (by decide))).trans (k9))⟩)
          · first | have f622 := (noteqE (rfl : (σ2.1 0 9).toInt = (σ2.1 0 9).toInt) (show (0 : Int32).toInt = 0 from by decide)).mp c466 | skip
            try unfold fX12_fails_j16
            intro σ623 eσ623
            have hσ623 : K2 σ0 σ623 := by rw [eσ623]; exact hσ2.u (Rg2.r_0_9 (leP (rfl : (σ2.1 0 9).toInt = (σ2.1 0 9).toInt) (by omega)) (geP (rfl : (σ2.1 0 9).toInt = (σ2.1 0 9).toInt) (by omega))) (fun q => absurd q.2 (by decide)) (fun q => absurd q.2 (by decide)) ⟨⟨by decide, by decide⟩, fun q => absurd q.2 (by decide)⟩
            try dsimp only
            try unfold fX12_prints_j26
            refine ⟨fun c625 => ?_, fun c625 => ?_⟩
            · first | have f627 := (eqE (rfl : r11.toInt = r11.toInt) (show (224 : Int32).toInt = 224 from by decide)).mp c625 | skip
              try unfold fX12_prints_j50
              refine ⟨fun c628 => ?_, fun c628 => ?_⟩
              · first | have f630 := (eqE (rfl : r11.toInt = r11.toInt) (show (226 : Int32).toInt = 226 from by decide)).mp c628 | skip
                try unfold fX12_prints_j66
                refine sX12_lays hN hσ623 (fun σ632 hσ632 kk639 => ?_)
                have f642 := K2.g_0_9 hσ623
                have q643 : σ623.1 0 9 = (σ2.1 0 9) := by rw [eσ623, u1_at]; exact if_pos rfl
                first | have f645 : (σ623.1 0 9).toInt = (σ2.1 0 9).toInt := (congrArg Int32.toInt q643).trans (rfl : (σ2.1 0 9).toInt = (σ2.1 0 9).toInt) | skip
                have f647 := K2.g_0_14 hσ623
                have q648 : σ623.1 0 14 = σ2.1 0 14 := by rw [eσ623, u1_at]; exact if_neg (by decide)
                have f649 := congrArg Int32.toInt q648
                have f650 := K2.g_0_14 hσ2
                have f651 := congrArg Int32.toInt k3
                have f652 := K2.g_0_14 hσ
                obtain ⟨k633, k634, k635, k636, k637, k638, sp640, sp641⟩ := kk639
                exact hQ _ hσ632 (⟨k633.trans ((kq (a := 0) (b := 35) eσ623 (fun q => absurd q.2 (by decide))).trans (k4)), k634.trans ((kq (a := 0) (b := 24) eσ623 (fun q => absurd q.2 (by decide))).trans (k5)), k635.trans ((kq (a := 0) (b := 36) eσ623 (fun q => absurd q.2 (by decide))).trans (k6)), k636.trans ((kq (a := 0) (b := 41) eσ623 (fun q => absurd q.2 (by decide))).trans (k7)), k637.trans ((kq (a := 0) (b := 50) eσ623 (fun q => absurd q.2 (by decide))).trans (k8)), k638.trans ((kq (a := 0) (b := 51) eσ623 (fun q => absurd q.2 (by decide))).trans (k9))⟩)
              · first | have f654 := (noteqE (rfl : r11.toInt = r11.toInt) (show (226 : Int32).toInt = 226 from by decide)).mp c628 | skip
                try unfold fX12_prints_j66
                refine sX12_lays hN hσ623 (fun σ656 hσ656 kk663 => ?_)
                have f666 := K2.g_0_9 hσ623
                have q667 : σ623.1 0 9 = (σ2.1 0 9) := by rw [eσ623, u1_at]; exact if_pos rfl
                first | have f669 : (σ623.1 0 9).toInt = (σ2.1 0 9).toInt := (congrArg Int32.toInt q667).trans (rfl : (σ2.1 0 9).toInt = (σ2.1 0 9).toInt) | skip
                have f671 := K2.g_0_14 hσ623
                have q672 : σ623.1 0 14 = σ2.1 0 14 := by rw [eσ623, u1_at]; exact if_neg (by decide)
                have f673 := congrArg Int32.toInt q672
                have f674 := K2.g_0_14 hσ2
                have f675 := congrArg Int32.toInt k3
                have f676 := K2.g_0_14 hσ
                obtain ⟨k657, k658, k659, k660, k661, k662, sp664, sp665⟩ := kk663
                exact hQ _ hσ656 (⟨k657.trans ((kq (a := 0) (b := 35) eσ623 (fun q => absurd q.2 (by decide))).trans (k4)), k658.trans ((kq (a := 0) (b := 24) eσ623 (fun q => absurd q.2 (by decide))).trans (k5)), k659.trans ((kq (a := 0) (b := 36) eσ623 (fun q => absurd q.2 (by decide))).trans (k6)), k660.trans ((kq (a := 0) (b := 41) eσ623 (fun q => absurd q.2 (by decide))).trans (k7)), k661.trans ((kq (a := 0) (b := 50) eσ623 (fun q => absurd q.2 (by decide))).trans (k8)), k662.trans ((kq (a := 0) (b := 51) eσ623 (fun q => absurd q.2 (by decide))).trans (k9))⟩)
            · first | have f678 := (noteqE (rfl : r11.toInt = r11.toInt) (show (224 : Int32).toInt = 224 from by decide)).mp c625 | skip
              refine ⟨fun c679 => ?_, fun c679 => ?_⟩
              · first | have f681 := (eqE (rfl : r11.toInt = r11.toInt) (show (226 : Int32).toInt = 226 from by decide)).mp c679 | skip
                try unfold fX12_prints_j50
                refine ⟨fun c682 => ?_, fun c682 => ?_⟩
                · first | have f684 := (eqE (rfl : r11.toInt = r11.toInt) (show (226 : Int32).toInt = 226 from by decide)).mp c682 | skip
                  try unfold fX12_prints_j66
                  refine sX12_lays hN hσ623 (fun σ686 hσ686 kk693 => ?_)
                  have f696 := K2.g_0_9 hσ623
                  have q697 : σ623.1 0 9 = (σ2.1 0 9) := by rw [eσ623, u1_at]; exact if_pos rfl
                  first | have f699 : (σ623.1 0 9).toInt = (σ2.1 0 9).toInt := (congrArg Int32.toInt q697).trans (rfl : (σ2.1 0 9).toInt = (σ2.1 0 9).toInt) | skip
                  have f701 := K2.g_0_14 hσ623
                  have q702 : σ623.1 0 14 = σ2.1 0 14 := by rw [eσ623, u1_at]; exact if_neg (by decide)
                  have f703 := congrArg Int32.toInt q702
                  have f704 := K2.g_0_14 hσ2
                  have f705 := congrArg Int32.toInt k3
                  have f706 := K2.g_0_14 hσ
                  obtain ⟨k687, k688, k689, k690, k691, k692, sp694, sp695⟩ := kk693
                  exact hQ _ hσ686 (⟨k687.trans ((kq (a := 0) (b := 35) eσ623 (fun q => absurd q.2 (by decide))).trans (k4)), k688.trans ((kq (a := 0) (b := 24) eσ623 (fun q => absurd q.2 (by decide))).trans (k5)), k689.trans ((kq (a := 0) (b := 36) eσ623 (fun q => absurd q.2 (by decide))).trans (k6)), k690.trans ((kq (a := 0) (b := 41) eσ623 (fun q => absurd q.2 (by decide))).trans (k7)), k691.trans ((kq (a := 0) (b := 50) eσ623 (fun q => absurd q.2 (by decide))).trans (k8)), k692.trans ((kq (a := 0) (b := 51) eσ623 (fun q => absurd q.2 (by decide))).trans (k9))⟩)
                · first | have f708 := (noteqE (rfl : r11.toInt = r11.toInt) (show (226 : Int32).toInt = 226 from by decide)).mp c682 | skip
                  try unfold fX12_prints_j66
                  refine sX12_lays hN hσ623 (fun σ710 hσ710 kk717 => ?_)
                  have f720 := K2.g_0_9 hσ623
                  have q721 : σ623.1 0 9 = (σ2.1 0 9) := by rw [eσ623, u1_at]; exact if_pos rfl
                  first | have f723 : (σ623.1 0 9).toInt = (σ2.1 0 9).toInt := (congrArg Int32.toInt q721).trans (rfl : (σ2.1 0 9).toInt = (σ2.1 0 9).toInt) | skip
                  have f725 := K2.g_0_14 hσ623
                  have q726 : σ623.1 0 14 = σ2.1 0 14 := by rw [eσ623, u1_at]; exact if_neg (by decide)
                  have f727 := congrArg Int32.toInt q726
                  have f728 := K2.g_0_14 hσ2
                  have f729 := congrArg Int32.toInt k3
                  have f730 := K2.g_0_14 hσ
                  obtain ⟨k711, k712, k713, k714, k715, k716, sp718, sp719⟩ := kk717
                  exact hQ _ hσ710 (⟨k711.trans ((kq (a := 0) (b := 35) eσ623 (fun q => absurd q.2 (by decide))).trans (k4)), k712.trans ((kq (a := 0) (b := 24) eσ623 (fun q => absurd q.2 (by decide))).trans (k5)), k713.trans ((kq (a := 0) (b := 36) eσ623 (fun q => absurd q.2 (by decide))).trans (k6)), k714.trans ((kq (a := 0) (b := 41) eσ623 (fun q => absurd q.2 (by decide))).trans (k7)), k715.trans ((kq (a := 0) (b := 50) eσ623 (fun q => absurd q.2 (by decide))).trans (k8)), k716.trans ((kq (a := 0) (b := 51) eσ623 (fun q => absurd q.2 (by decide))).trans (k9))⟩)
              · first | have f732 := (noteqE (rfl : r11.toInt = r11.toInt) (show (226 : Int32).toInt = 226 from by decide)).mp c679 | skip
                try unfold fX12_prints_j50
                refine ⟨fun c733 => ?_, fun c733 => ?_⟩
                · first | have f735 := (eqE (rfl : r11.toInt = r11.toInt) (show (226 : Int32).toInt = 226 from by decide)).mp c733 | skip
                  try unfold fX12_prints_j66
                  refine sX12_lays hN hσ623 (fun σ737 hσ737 kk744 => ?_)
                  have f747 := K2.g_0_9 hσ623
                  have q748 : σ623.1 0 9 = (σ2.1 0 9) := by rw [eσ623, u1_at]; exact if_pos rfl
                  first | have f750 : (σ623.1 0 9).toInt = (σ2.1 0 9).toInt := (congrArg Int32.toInt q748).trans (rfl : (σ2.1 0 9).toInt = (σ2.1 0 9).toInt) | skip
                  have f752 := K2.g_0_14 hσ623
                  have q753 : σ623.1 0 14 = σ2.1 0 14 := by rw [eσ623, u1_at]; exact if_neg (by decide)
                  have f754 := congrArg Int32.toInt q753
                  have f755 := K2.g_0_14 hσ2
                  have f756 := congrArg Int32.toInt k3
                  have f757 := K2.g_0_14 hσ
                  obtain ⟨k738, k739, k740, k741, k742, k743, sp745, sp746⟩ := kk744
                  exact hQ _ hσ737 (⟨k738.trans ((kq (a := 0) (b := 35) eσ623 (fun q => absurd q.2 (by decide))).trans (k4)), k739.trans ((kq (a := 0) (b := 24) eσ623 (fun q => absurd q.2 (by decide))).trans (k5)), k740.trans ((kq (a := 0) (b := 36) eσ623 (fun q => absurd q.2 (by decide))).trans (k6)), k741.trans ((kq (a := 0) (b := 41) eσ623 (fun q => absurd q.2 (by decide))).trans (k7)), k742.trans ((kq (a := 0) (b := 50) eσ623 (fun q => absurd q.2 (by decide))).trans (k8)), k743.trans ((kq (a := 0) (b := 51) eσ623 (fun q => absurd q.2 (by decide))).trans (k9))⟩)
                · first | have f759 := (noteqE (rfl : r11.toInt = r11.toInt) (show (226 : Int32).toInt = 226 from by decide)).mp c733 | skip
                  try unfold fX12_prints_j66
                  refine sX12_lays hN hσ623 (fun σ761 hσ761 kk768 => ?_)
                  have f771 := K2.g_0_9 hσ623
                  have q772 : σ623.1 0 9 = (σ2.1 0 9) := by rw [eσ623, u1_at]; exact if_pos rfl
                  first | have f774 : (σ623.1 0 9).toInt = (σ2.1 0 9).toInt := (congrArg Int32.toInt q772).trans (rfl : (σ2.1 0 9).toInt = (σ2.1 0 9).toInt) | skip
                  have f776 := K2.g_0_14 hσ623
                  have q777 : σ623.1 0 14 = σ2.1 0 14 := by rw [eσ623, u1_at]; exact if_neg (by decide)
                  have f778 := congrArg Int32.toInt q777
                  have f779 := K2.g_0_14 hσ2
                  have f780 := congrArg Int32.toInt k3
                  have f781 := K2.g_0_14 hσ
                  obtain ⟨k762, k763, k764, k765, k766, k767, sp769, sp770⟩ := kk768
                  exact hQ _ hσ761 (⟨k762.trans ((kq (a := 0) (b := 35) eσ623 (fun q => absurd q.2 (by decide))).trans (k4)), k763.trans ((kq (a := 0) (b := 24) eσ623 (fun q => absurd q.2 (by decide))).trans (k5)), k764.trans ((kq (a := 0) (b := 36) eσ623 (fun q => absurd q.2 (by decide))).trans (k6)), k765.trans ((kq (a := 0) (b := 41) eσ623 (fun q => absurd q.2 (by decide))).trans (k7)), k766.trans ((kq (a := 0) (b := 50) eσ623 (fun q => absurd q.2 (by decide))).trans (k8)), k767.trans ((kq (a := 0) (b := 51) eσ623 (fun q => absurd q.2 (by decide))).trans (k9))⟩)
        · first | have f782 := (noteqE (show (0 : Int32).toInt = 0 from by decide) (show (0 : Int32).toInt = 0 from by decide)).mp c464 | skip
          try unfold fX12_prints_j26
          refine ⟨fun c783 => ?_, fun c783 => ?_⟩
          · first | have f785 := (eqE (rfl : r11.toInt = r11.toInt) (show (224 : Int32).toInt = 224 from by decide)).mp c783 | skip
            try unfold fX12_prints_j50
            refine ⟨fun c786 => ?_, fun c786 => ?_⟩
            · first | have f788 := (eqE (rfl : r11.toInt = r11.toInt) (show (226 : Int32).toInt = 226 from by decide)).mp c786 | skip
              try unfold fX12_prints_j66
              refine sX12_lays hN hσ2 (fun σ790 hσ790 kk797 => ?_)
              have f802 := K2.g_0_14 hσ2
              have f803 := congrArg Int32.toInt k3
              have f804 := K2.g_0_14 hσ
              obtain ⟨k791, k792, k793, k794, k795, k796, sp798, sp799⟩ := kk797
              exact hQ _ hσ790 (⟨k791.trans (k4), k792.trans (k5), k793.trans (k6), k794.trans (k7), k795.trans (k8), k796.trans (k9)⟩)
            · first | have f806 := (noteqE (rfl : r11.toInt = r11.toInt) (show (226 : Int32).toInt = 226 from by decide)).mp c786 | skip
              try unfold fX12_prints_j66
              refine sX12_lays hN hσ2 (fun σ808 hσ808 kk815 => ?_)
              have f820 := K2.g_0_14 hσ2
              have f821 := congrArg Int32.toInt k3
              have f822 := K2.g_0_14 hσ
              obtain ⟨k809, k810, k811, k812, k813, k814, sp816, sp817⟩ := kk815
              exact hQ _ hσ808 (⟨k809.trans (k4), k810.trans (k5), k811.trans (k6), k812.trans (k7), k813.trans (k8), k814.trans (k9)⟩)
          · first | have f824 := (noteqE (rfl : r11.toInt = r11.toInt) (show (224 : Int32).toInt = 224 from by decide)).mp c783 | skip
            refine ⟨fun c825 => ?_, fun c825 => ?_⟩
            · first | have f827 := (eqE (rfl : r11.toInt = r11.toInt) (show (226 : Int32).toInt = 226 from by decide)).mp c825 | skip
              try unfold fX12_prints_j50
              refine ⟨fun c828 => ?_, fun c828 => ?_⟩
              · first | have f830 := (eqE (rfl : r11.toInt = r11.toInt) (show (226 : Int32).toInt = 226 from by decide)).mp c828 | skip
                try unfold fX12_prints_j66
                refine sX12_lays hN hσ2 (fun σ832 hσ832 kk839 => ?_)
                have f844 := K2.g_0_14 hσ2
                have f845 := congrArg Int32.toInt k3
                have f846 := K2.g_0_14 hσ
                obtain ⟨k833, k834, k835, k836, k837, k838, sp840, sp841⟩ := kk839
                exact hQ _ hσ832 (⟨k833.trans (k4), k834.trans (k5), k835.trans (k6), k836.trans (k7), k837.trans (k8), k838.trans (k9)⟩)
              · first | have f848 := (noteqE (rfl : r11.toInt = r11.toInt) (show (226 : Int32).toInt = 226 from by decide)).mp c828 | skip
                try unfold fX12_prints_j66
                refine sX12_lays hN hσ2 (fun σ850 hσ850 kk857 => ?_)
                have f862 := K2.g_0_14 hσ2
                have f863 := congrArg Int32.toInt k3
                have f864 := K2.g_0_14 hσ
                obtain ⟨k851, k852, k853, k854, k855, k856, sp858, sp859⟩ := kk857
                exact hQ _ hσ850 (⟨k851.trans (k4), k852.trans (k5), k853.trans (k6), k854.trans (k7), k855.trans (k8), k856.trans (k9)⟩)
            · first | have f866 := (noteqE (rfl : r11.toInt = r11.toInt) (show (226 : Int32).toInt = 226 from by decide)).mp c825 | skip
              try unfold fX12_prints_j50
              refine ⟨fun c867 => ?_, fun c867 => ?_⟩
              · first | have f869 := (eqE (rfl : r11.toInt = r11.toInt) (show (226 : Int32).toInt = 226 from by decide)).mp c867 | skip
                try unfold fX12_prints_j66
                refine sX12_lays hN hσ2 (fun σ871 hσ871 kk878 => ?_)
                have f883 := K2.g_0_14 hσ2
                have f884 := congrArg Int32.toInt k3
                have f885 := K2.g_0_14 hσ
                obtain ⟨k872, k873, k874, k875, k876, k877, sp879, sp880⟩ := kk878
                exact hQ _ hσ871 (⟨k872.trans (k4), k873.trans (k5), k874.trans (k6), k875.trans (k7), k876.trans (k8), k877.trans (k9)⟩)
              · first | have f887 := (noteqE (rfl : r11.toInt = r11.toInt) (show (226 : Int32).toInt = 226 from by decide)).mp c867 | skip
                try unfold fX12_prints_j66
                refine sX12_lays hN hσ2 (fun σ889 hσ889 kk896 => ?_)
                have f901 := K2.g_0_14 hσ2
                have f902 := congrArg Int32.toInt k3
                have f903 := K2.g_0_14 hσ
                obtain ⟨k890, k891, k892, k893, k894, k895, sp897, sp898⟩ := kk896
                exact hQ _ hσ889 (⟨k890.trans (k4), k891.trans (k5), k892.trans (k6), k893.trans (k7), k894.trans (k8), k895.trans (k9)⟩)
      · first | have f905 := (notltE (show (226 : Int32).toInt = 226 from by decide) (rfl : r11.toInt = r11.toInt)).mp c461 | skip
        try dsimp only
        refine ⟨fun c906 => ?_, fun c906 => ?_⟩
        · first | have f907 := (eqE (show (1 : Int32).toInt = 1 from by decide) (show (0 : Int32).toInt = 0 from by decide)).mp c906 | skip
          try unfold fX12_fails
          refine ⟨fun c908 => ?_, fun c908 => ?_⟩
          · first | have f910 := (eqE (rfl : (σ2.1 0 9).toInt = (σ2.1 0 9).toInt) (show (0 : Int32).toInt = 0 from by decide)).mp c908 | skip
            try unfold fX12_fails_j16
            intro σ911 eσ911
            have hσ911 : K2 σ0 σ911 := by rw [eσ911]; exact hσ2.u (Rg2.r_0_9 (leP (show (4 : Int32).toInt = 4 from by decide) (by omega)) (geP (show (4 : Int32).toInt = 4 from by decide) (by omega))) (fun q => absurd q.2 (by decide)) (fun q => absurd q.2 (by decide)) ⟨⟨by decide, by decide⟩, fun q => absurd q.2 (by decide)⟩
            try dsimp only
            try unfold fX12_prints_j26
            refine ⟨fun c912 => ?_, fun c912 => ?_⟩
            · first | have f914 := (eqE (rfl : r11.toInt = r11.toInt) (show (224 : Int32).toInt = 224 from by decide)).mp c912 | skip
              try unfold fX12_prints_j50
              refine ⟨fun c915 => ?_, fun c915 => ?_⟩
              · first | have f917 := (eqE (rfl : r11.toInt = r11.toInt) (show (226 : Int32).toInt = 226 from by decide)).mp c915 | skip
                try unfold fX12_prints_j66
                refine sX12_lays hN hσ911 (fun σ919 hσ919 kk926 => ?_)
                have f929 := K2.g_0_9 hσ911
                have q930 : σ911.1 0 9 = 4 := by rw [eσ911, u1_at]; exact if_pos rfl
                first | have f931 : (σ911.1 0 9).toInt = (4) := (congrArg Int32.toInt q930).trans (show (4 : Int32).toInt = 4 from by decide) | skip
                have f933 := K2.g_0_14 hσ911
                have q934 : σ911.1 0 14 = σ2.1 0 14 := by rw [eσ911, u1_at]; exact if_neg (by decide)
                have f935 := congrArg Int32.toInt q934
                have f936 := K2.g_0_14 hσ2
                have f937 := congrArg Int32.toInt k3
                have f938 := K2.g_0_14 hσ
                obtain ⟨k920, k921, k922, k923, k924, k925, sp927, sp928⟩ := kk926
                exact hQ _ hσ919 (⟨k920.trans ((kq (a := 0) (b := 35) eσ911 (fun q => absurd q.2 (by decide))).trans (k4)), k921.trans ((kq (a := 0) (b := 24) eσ911 (fun q => absurd q.2 (by decide))).trans (k5)), k922.trans ((kq (a := 0) (b := 36) eσ911 (fun q => absurd q.2 (by decide))).trans (k6)), k923.trans ((kq (a := 0) (b := 41) eσ911 (fun q => absurd q.2 (by decide))).trans (k7)), k924.trans ((kq (a := 0) (b := 50) eσ911 (fun q => absurd q.2 (by decide))).trans (k8)), k925.trans ((kq (a := 0) (b := 51) eσ911 (fun q => absurd q.2 (by decide))).trans (k9))⟩)
              · first | have f940 := (noteqE (rfl : r11.toInt = r11.toInt) (show (226 : Int32).toInt = 226 from by decide)).mp c915 | skip
                try unfold fX12_prints_j66
                refine sX12_lays hN hσ911 (fun σ942 hσ942 kk949 => ?_)
                have f952 := K2.g_0_9 hσ911
                have q953 : σ911.1 0 9 = 4 := by rw [eσ911, u1_at]; exact if_pos rfl
                first | have f954 : (σ911.1 0 9).toInt = (4) := (congrArg Int32.toInt q953).trans (show (4 : Int32).toInt = 4 from by decide) | skip
                have f956 := K2.g_0_14 hσ911
                have q957 : σ911.1 0 14 = σ2.1 0 14 := by rw [eσ911, u1_at]; exact if_neg (by decide)
                have f958 := congrArg Int32.toInt q957
                have f959 := K2.g_0_14 hσ2
                have f960 := congrArg Int32.toInt k3
                have f961 := K2.g_0_14 hσ
                obtain ⟨k943, k944, k945, k946, k947, k948, sp950, sp951⟩ := kk949
                exact hQ _ hσ942 (⟨k943.trans ((kq (a := 0) (b := 35) eσ911 (fun q => absurd q.2 (by decide))).trans (k4)), k944.trans ((kq (a := 0) (b := 24) eσ911 (fun q => absurd q.2 (by decide))).trans (k5)), k945.trans ((kq (a := 0) (b := 36) eσ911 (fun q => absurd q.2 (by decide))).trans (k6)), k946.trans ((kq (a := 0) (b := 41) eσ911 (fun q => absurd q.2 (by decide))).trans (k7)), k947.trans ((kq (a := 0) (b := 50) eσ911 (fun q => absurd q.2 (by decide))).trans (k8)), k948.trans ((kq (a := 0) (b := 51) eσ911 (fun q => absurd q.2 (by decide))).trans (k9))⟩)
            · first | have f963 := (noteqE (rfl : r11.toInt = r11.toInt) (show (224 : Int32).toInt = 224 from by decide)).mp c912 | skip
              refine ⟨fun c964 => ?_, fun c964 => ?_⟩
              · first | have f966 := (eqE (rfl : r11.toInt = r11.toInt) (show (226 : Int32).toInt = 226 from by decide)).mp c964 | skip
                try unfold fX12_prints_j50
                refine ⟨fun c967 => ?_, fun c967 => ?_⟩
                · first | have f969 := (eqE (rfl : r11.toInt = r11.toInt) (show (226 : Int32).toInt = 226 from by decide)).mp c967 | skip
                  try unfold fX12_prints_j66
                  refine sX12_lays hN hσ911 (fun σ971 hσ971 kk978 => ?_)
                  have f981 := K2.g_0_9 hσ911
                  have q982 : σ911.1 0 9 = 4 := by rw [eσ911, u1_at]; exact if_pos rfl
                  first | have f983 : (σ911.1 0 9).toInt = (4) := (congrArg Int32.toInt q982).trans (show (4 : Int32).toInt = 4 from by decide) | skip
                  have f985 := K2.g_0_14 hσ911
                  have q986 : σ911.1 0 14 = σ2.1 0 14 := by rw [eσ911, u1_at]; exact if_neg (by decide)
                  have f987 := congrArg Int32.toInt q986
                  have f988 := K2.g_0_14 hσ2
                  have f989 := congrArg Int32.toInt k3
                  have f990 := K2.g_0_14 hσ
                  obtain ⟨k972, k973, k974, k975, k976, k977, sp979, sp980⟩ := kk978
                  exact hQ _ hσ971 (⟨k972.trans ((kq (a := 0) (b := 35) eσ911 (fun q => absurd q.2 (by decide))).trans (k4)), k973.trans ((kq (a := 0) (b := 24) eσ911 (fun q => absurd q.2 (by decide))).trans (k5)), k974.trans ((kq (a := 0) (b := 36) eσ911 (fun q => absurd q.2 (by decide))).trans (k6)), k975.trans ((kq (a := 0) (b := 41) eσ911 (fun q => absurd q.2 (by decide))).trans (k7)), k976.trans ((kq (a := 0) (b := 50) eσ911 (fun q => absurd q.2 (by decide))).trans (k8)), k977.trans ((kq (a := 0) (b := 51) eσ911 (fun q => absurd q.2 (by decide))).trans (k9))⟩)
                · first | have f992 := (noteqE (rfl : r11.toInt = r11.toInt) (show (226 : Int32).toInt = 226 from by decide)).mp c967 | skip
                  try unfold fX12_prints_j66
                  refine sX12_lays hN hσ911 (fun σ994 hσ994 kk1001 => ?_)
                  have f1004 := K2.g_0_9 hσ911
                  have q1005 : σ911.1 0 9 = 4 := by rw [eσ911, u1_at]; exact if_pos rfl
                  first | have f1006 : (σ911.1 0 9).toInt = (4) := (congrArg Int32.toInt q1005).trans (show (4 : Int32).toInt = 4 from by decide) | skip
                  have f1008 := K2.g_0_14 hσ911
                  have q1009 : σ911.1 0 14 = σ2.1 0 14 := by rw [eσ911, u1_at]; exact if_neg (by decide)
                  have f1010 := congrArg Int32.toInt q1009
                  have f1011 := K2.g_0_14 hσ2
                  have f1012 := congrArg Int32.toInt k3
                  have f1013 := K2.g_0_14 hσ
                  obtain ⟨k995, k996, k997, k998, k999, k1000, sp1002, sp1003⟩ := kk1001
                  exact hQ _ hσ994 (⟨k995.trans ((kq (a := 0) (b := 35) eσ911 (fun q => absurd q.2 (by decide))).trans (k4)), k996.trans ((kq (a := 0) (b := 24) eσ911 (fun q => absurd q.2 (by decide))).trans (k5)), k997.trans ((kq (a := 0) (b := 36) eσ911 (fun q => absurd q.2 (by decide))).trans (k6)), k998.trans ((kq (a := 0) (b := 41) eσ911 (fun q => absurd q.2 (by decide))).trans (k7)), k999.trans ((kq (a := 0) (b := 50) eσ911 (fun q => absurd q.2 (by decide))).trans (k8)), k1000.trans ((kq (a := 0) (b := 51) eσ911 (fun q => absurd q.2 (by decide))).trans (k9))⟩)
              · first | have f1015 := (noteqE (rfl : r11.toInt = r11.toInt) (show (226 : Int32).toInt = 226 from by decide)).mp c964 | skip
                try unfold fX12_prints_j50
                refine ⟨fun c1016 => ?_, fun c1016 => ?_⟩
                · first | have f1018 := (eqE (rfl : r11.toInt = r11.toInt) (show (226 : Int32).toInt = 226 from by decide)).mp c1016 | skip
                  try unfold fX12_prints_j66
                  refine sX12_lays hN hσ911 (fun σ1020 hσ1020 kk1027 => ?_)
                  have f1030 := K2.g_0_9 hσ911
                  have q1031 : σ911.1 0 9 = 4 := by rw [eσ911, u1_at]; exact if_pos rfl
                  first | have f1032 : (σ911.1 0 9).toInt = (4) := (congrArg Int32.toInt q1031).trans (show (4 : Int32).toInt = 4 from by decide) | skip
                  have f1034 := K2.g_0_14 hσ911
                  have q1035 : σ911.1 0 14 = σ2.1 0 14 := by rw [eσ911, u1_at]; exact if_neg (by decide)
                  have f1036 := congrArg Int32.toInt q1035
                  have f1037 := K2.g_0_14 hσ2
                  have f1038 := congrArg Int32.toInt k3
                  have f1039 := K2.g_0_14 hσ
                  obtain ⟨k1021, k1022, k1023, k1024, k1025, k1026, sp1028, sp1029⟩ := kk1027
                  exact hQ _ hσ1020 (⟨k1021.trans ((kq (a := 0) (b := 35) eσ911 (fun q => absurd q.2 (by decide))).trans (k4)), k1022.trans ((kq (a := 0) (b := 24) eσ911 (fun q => absurd q.2 (by decide))).trans (k5)), k1023.trans ((kq (a := 0) (b := 36) eσ911 (fun q => absurd q.2 (by decide))).trans (k6)), k1024.trans ((kq (a := 0) (b := 41) eσ911 (fun q => absurd q.2 (by decide))).trans (k7)), k1025.trans ((kq (a := 0) (b := 50) eσ911 (fun q => absurd q.2 (by decide))).trans (k8)), k1026.trans ((kq (a := 0) (b := 51) eσ911 (fun q => absurd q.2 (by decide))).trans (k9))⟩)
                · first | have f1041 := (noteqE (rfl : r11.toInt = r11.toInt) (show (226 : Int32).toInt = 226 from by decide)).mp c1016 | skip
                  try unfold fX12_prints_j66
                  refine sX12_lays hN hσ911 (fun σ1043 hσ1043 kk1050 => ?_)
                  have f1053 := K2.g_0_9 hσ911
                  have q1054 : σ911.1 0 9 = 4 := by rw [eσ911, u1_at]; exact if_pos rfl
                  first | have f1055 : (σ911.1 0 9).toInt = (4) := (congrArg Int32.toInt q1054).trans (show (4 : Int32).toInt = 4 from by decide) | skip
                  have f1057 := K2.g_0_14 hσ911
                  have q1058 : σ911.1 0 14 = σ2.1 0 14 := by rw [eσ911, u1_at]; exact if_neg (by decide)
                  have f1059 := congrArg Int32.toInt q1058
                  have f1060 := K2.g_0_14 hσ2
                  have f1061 := congrArg Int32.toInt k3
                  have f1062 := K2.g_0_14 hσ
                  obtain ⟨k1044, k1045, k1046, k1047, k1048, k1049, sp1051, sp1052⟩ := kk1050
                  exact hQ _ hσ1043 (⟨k1044.trans ((kq (a := 0) (b := 35) eσ911 (fun q => absurd q.2 (by decide))).trans (k4)), k1045.trans ((kq (a := 0) (b := 24) eσ911 (fun q => absurd q.2 (by decide))).trans (k5)), k1046.trans ((kq (a := 0) (b := 36) eσ911 (fun q => absurd q.2 (by decide))).trans (k6)), k1047.trans ((kq (a := 0) (b := 41) eσ911 (fun q => absurd q.2 (by decide))).trans (k7)), k1048.trans ((kq (a := 0) (b := 50) eσ911 (fun q => absurd q.2 (by decide))).trans (k8)), k1049.trans ((kq (a := 0) (b := 51) eσ911 (fun q => absurd q.2 (by decide))).trans (k9))⟩)
          · first | have f1064 := (noteqE (rfl : (σ2.1 0 9).toInt = (σ2.1 0 9).toInt) (show (0 : Int32).toInt = 0 from by decide)).mp c908 | skip
            try unfold fX12_fails_j16
            intro σ1065 eσ1065
            have hσ1065 : K2 σ0 σ1065 := by rw [eσ1065]; exact hσ2.u (Rg2.r_0_9 (leP (rfl : (σ2.1 0 9).toInt = (σ2.1 0 9).toInt) (by omega)) (geP (rfl : (σ2.1 0 9).toInt = (σ2.1 0 9).toInt) (by omega))) (fun q => absurd q.2 (by decide)) (fun q => absurd q.2 (by decide)) ⟨⟨by decide, by decide⟩, fun q => absurd q.2 (by decide)⟩
            try dsimp only
            try unfold fX12_prints_j26
            refine ⟨fun c1067 => ?_, fun c1067 => ?_⟩
            · first | have f1069 := (eqE (rfl : r11.toInt = r11.toInt) (show (224 : Int32).toInt = 224 from by decide)).mp c1067 | skip
              try unfold fX12_prints_j50
              refine ⟨fun c1070 => ?_, fun c1070 => ?_⟩
              · first | have f1072 := (eqE (rfl : r11.toInt = r11.toInt) (show (226 : Int32).toInt = 226 from by decide)).mp c1070 | skip
                try unfold fX12_prints_j66
                refine sX12_lays hN hσ1065 (fun σ1074 hσ1074 kk1081 => ?_)
                have f1084 := K2.g_0_9 hσ1065
                have q1085 : σ1065.1 0 9 = (σ2.1 0 9) := by rw [eσ1065, u1_at]; exact if_pos rfl
                first | have f1087 : (σ1065.1 0 9).toInt = (σ2.1 0 9).toInt := (congrArg Int32.toInt q1085).trans (rfl : (σ2.1 0 9).toInt = (σ2.1 0 9).toInt) | skip
                have f1089 := K2.g_0_14 hσ1065
                have q1090 : σ1065.1 0 14 = σ2.1 0 14 := by rw [eσ1065, u1_at]; exact if_neg (by decide)
                have f1091 := congrArg Int32.toInt q1090
                have f1092 := K2.g_0_14 hσ2
                have f1093 := congrArg Int32.toInt k3
                have f1094 := K2.g_0_14 hσ
                obtain ⟨k1075, k1076, k1077, k1078, k1079, k1080, sp1082, sp1083⟩ := kk1081
                exact hQ _ hσ1074 (⟨k1075.trans ((kq (a := 0) (b := 35) eσ1065 (fun q => absurd q.2 (by decide))).trans (k4)), k1076.trans ((kq (a := 0) (b := 24) eσ1065 (fun q => absurd q.2 (by decide))).trans (k5)), k1077.trans ((kq (a := 0) (b := 36) eσ1065 (fun q => absurd q.2 (by decide))).trans (k6)), k1078.trans ((kq (a := 0) (b := 41) eσ1065 (fun q => absurd q.2 (by decide))).trans (k7)), k1079.trans ((kq (a := 0) (b := 50) eσ1065 (fun q => absurd q.2 (by decide))).trans (k8)), k1080.trans ((kq (a := 0) (b := 51) eσ1065 (fun q => absurd q.2 (by decide))).trans (k9))⟩)
              · first | have f1096 := (noteqE (rfl : r11.toInt = r11.toInt) (show (226 : Int32).toInt = 226 from by decide)).mp c1070 | skip
                try unfold fX12_prints_j66
                refine sX12_lays hN hσ1065 (fun σ1098 hσ1098 kk1105 => ?_)
                have f1108 := K2.g_0_9 hσ1065
                have q1109 : σ1065.1 0 9 = (σ2.1 0 9) := by rw [eσ1065, u1_at]; exact if_pos rfl
                first | have f1111 : (σ1065.1 0 9).toInt = (σ2.1 0 9).toInt := (congrArg Int32.toInt q1109).trans (rfl : (σ2.1 0 9).toInt = (σ2.1 0 9).toInt) | skip
                have f1113 := K2.g_0_14 hσ1065
                have q1114 : σ1065.1 0 14 = σ2.1 0 14 := by rw [eσ1065, u1_at]; exact if_neg (by decide)
                have f1115 := congrArg Int32.toInt q1114
                have f1116 := K2.g_0_14 hσ2
                have f1117 := congrArg Int32.toInt k3
                have f1118 := K2.g_0_14 hσ
                obtain ⟨k1099, k1100, k1101, k1102, k1103, k1104, sp1106, sp1107⟩ := kk1105
                exact hQ _ hσ1098 (⟨k1099.trans ((kq (a := 0) (b := 35) eσ1065 (fun q => absurd q.2 (by decide))).trans (k4)), k1100.trans ((kq (a := 0) (b := 24) eσ1065 (fun q => absurd q.2 (by decide))).trans (k5)), k1101.trans ((kq (a := 0) (b := 36) eσ1065 (fun q => absurd q.2 (by decide))).trans (k6)), k1102.trans ((kq (a := 0) (b := 41) eσ1065 (fun q => absurd q.2 (by decide))).trans (k7)), k1103.trans ((kq (a := 0) (b := 50) eσ1065 (fun q => absurd q.2 (by decide))).trans (k8)), k1104.trans ((kq (a := 0) (b := 51) eσ1065 (fun q => absurd q.2 (by decide))).trans (k9))⟩)
            · first | have f1120 := (noteqE (rfl : r11.toInt = r11.toInt) (show (224 : Int32).toInt = 224 from by decide)).mp c1067 | skip
              refine ⟨fun c1121 => ?_, fun c1121 => ?_⟩
              · first | have f1123 := (eqE (rfl : r11.toInt = r11.toInt) (show (226 : Int32).toInt = 226 from by decide)).mp c1121 | skip
                try unfold fX12_prints_j50
                refine ⟨fun c1124 => ?_, fun c1124 => ?_⟩
                · first | have f1126 := (eqE (rfl : r11.toInt = r11.toInt) (show (226 : Int32).toInt = 226 from by decide)).mp c1124 | skip
                  try unfold fX12_prints_j66
                  refine sX12_lays hN hσ1065 (fun σ1128 hσ1128 kk1135 => ?_)
                  have f1138 := K2.g_0_9 hσ1065
                  have q1139 : σ1065.1 0 9 = (σ2.1 0 9) := by rw [eσ1065, u1_at]; exact if_pos rfl
                  first | have f1141 : (σ1065.1 0 9).toInt = (σ2.1 0 9).toInt := (congrArg Int32.toInt q1139).trans (rfl : (σ2.1 0 9).toInt = (σ2.1 0 9).toInt) | skip
                  have f1143 := K2.g_0_14 hσ1065
                  have q1144 : σ1065.1 0 14 = σ2.1 0 14 := by rw [eσ1065, u1_at]; exact if_neg (by decide)
                  have f1145 := congrArg Int32.toInt q1144
                  have f1146 := K2.g_0_14 hσ2
                  have f1147 := congrArg Int32.toInt k3
                  have f1148 := K2.g_0_14 hσ
                  obtain ⟨k1129, k1130, k1131, k1132, k1133, k1134, sp1136, sp1137⟩ := kk1135
                  exact hQ _ hσ1128 (⟨k1129.trans ((kq (a := 0) (b := 35) eσ1065 (fun q => absurd q.2 (by decide))).trans (k4)), k1130.trans ((kq (a := 0) (b := 24) eσ1065 (fun q => absurd q.2 (by decide))).trans (k5)), k1131.trans ((kq (a := 0) (b := 36) eσ1065 (fun q => absurd q.2 (by decide))).trans (k6)), k1132.trans ((kq (a := 0) (b := 41) eσ1065 (fun q => absurd q.2 (by decide))).trans (k7)), k1133.trans ((kq (a := 0) (b := 50) eσ1065 (fun q => absurd q.2 (by decide))).trans (k8)), k1134.trans ((kq (a := 0) (b := 51) eσ1065 (fun q => absurd q.2 (by decide))).trans (k9))⟩)
                · first | have f1150 := (noteqE (rfl : r11.toInt = r11.toInt) (show (226 : Int32).toInt = 226 from by decide)).mp c1124 | skip
                  try unfold fX12_prints_j66
                  refine sX12_lays hN hσ1065 (fun σ1152 hσ1152 kk1159 => ?_)
                  have f1162 := K2.g_0_9 hσ1065
                  have q1163 : σ1065.1 0 9 = (σ2.1 0 9) := by rw [eσ1065, u1_at]; exact if_pos rfl
                  first | have f1165 : (σ1065.1 0 9).toInt = (σ2.1 0 9).toInt := (congrArg Int32.toInt q1163).trans (rfl : (σ2.1 0 9).toInt = (σ2.1 0 9).toInt) | skip
                  have f1167 := K2.g_0_14 hσ1065
                  have q1168 : σ1065.1 0 14 = σ2.1 0 14 := by rw [eσ1065, u1_at]; exact if_neg (by decide)
                  have f1169 := congrArg Int32.toInt q1168
                  have f1170 := K2.g_0_14 hσ2
                  have f1171 := congrArg Int32.toInt k3
                  have f1172 := K2.g_0_14 hσ
                  obtain ⟨k1153, k1154, k1155, k1156, k1157, k1158, sp1160, sp1161⟩ := kk1159
                  exact hQ _ hσ1152 (⟨k1153.trans ((kq (a := 0) (b := 35) eσ1065 (fun q => absurd q.2 (by decide))).trans (k4)), k1154.trans ((kq (a := 0) (b := 24) eσ1065 (fun q => absurd q.2 (by decide))).trans (k5)), k1155.trans ((kq (a := 0) (b := 36) eσ1065 (fun q => absurd q.2 (by decide))).trans (k6)), k1156.trans ((kq (a := 0) (b := 41) eσ1065 (fun q => absurd q.2 (by decide))).trans (k7)), k1157.trans ((kq (a := 0) (b := 50) eσ1065 (fun q => absurd q.2 (by decide))).trans (k8)), k1158.trans ((kq (a := 0) (b := 51) eσ1065 (fun q => absurd q.2 (by decide))).trans (k9))⟩)
              · first | have f1174 := (noteqE (rfl : r11.toInt = r11.toInt) (show (226 : Int32).toInt = 226 from by decide)).mp c1121 | skip
                try unfold fX12_prints_j50
                refine ⟨fun c1175 => ?_, fun c1175 => ?_⟩
                · first | have f1177 := (eqE (rfl : r11.toInt = r11.toInt) (show (226 : Int32).toInt = 226 from by decide)).mp c1175 | skip
                  try unfold fX12_prints_j66
                  refine sX12_lays hN hσ1065 (fun σ1179 hσ1179 kk1186 => ?_)
                  have f1189 := K2.g_0_9 hσ1065
                  have q1190 : σ1065.1 0 9 = (σ2.1 0 9) := by rw [eσ1065, u1_at]; exact if_pos rfl
                  first | have f1192 : (σ1065.1 0 9).toInt = (σ2.1 0 9).toInt := (congrArg Int32.toInt q1190).trans (rfl : (σ2.1 0 9).toInt = (σ2.1 0 9).toInt) | skip
                  have f1194 := K2.g_0_14 hσ1065
                  have q1195 : σ1065.1 0 14 = σ2.1 0 14 := by rw [eσ1065, u1_at]; exact if_neg (by decide)
                  have f1196 := congrArg Int32.toInt q1195
                  have f1197 := K2.g_0_14 hσ2
                  have f1198 := congrArg Int32.toInt k3
                  have f1199 := K2.g_0_14 hσ
                  obtain ⟨k1180, k1181, k1182, k1183, k1184, k1185, sp1187, sp1188⟩ := kk1186
                  exact hQ _ hσ1179 (⟨k1180.trans ((kq (a := 0) (b := 35) eσ1065 (fun q => absurd q.2 (by decide))).trans (k4)), k1181.trans ((kq (a := 0) (b := 24) eσ1065 (fun q => absurd q.2 (by decide))).trans (k5)), k1182.trans ((kq (a := 0) (b := 36) eσ1065 (fun q => absurd q.2 (by decide))).trans (k6)), k1183.trans ((kq (a := 0) (b := 41) eσ1065 (fun q => absurd q.2 (by decide))).trans (k7)), k1184.trans ((kq (a := 0) (b := 50) eσ1065 (fun q => absurd q.2 (by decide))).trans (k8)), k1185.trans ((kq (a := 0) (b := 51) eσ1065 (fun q => absurd q.2 (by decide))).trans (k9))⟩)
                · first | have f1201 := (noteqE (rfl : r11.toInt = r11.toInt) (show (226 : Int32).toInt = 226 from by decide)).mp c1175 | skip
                  try unfold fX12_prints_j66
                  refine sX12_lays hN hσ1065 (fun σ1203 hσ1203 kk1210 => ?_)
                  have f1213 := K2.g_0_9 hσ1065
                  have q1214 : σ1065.1 0 9 = (σ2.1 0 9) := by rw [eσ1065, u1_at]; exact if_pos rfl
                  first | have f1216 : (σ1065.1 0 9).toInt = (σ2.1 0 9).toInt := (congrArg Int32.toInt q1214).trans (rfl : (σ2.1 0 9).toInt = (σ2.1 0 9).toInt) | skip
                  have f1218 := K2.g_0_14 hσ1065
                  have q1219 : σ1065.1 0 14 = σ2.1 0 14 := by rw [eσ1065, u1_at]; exact if_neg (by decide)
                  have f1220 := congrArg Int32.toInt q1219
                  have f1221 := K2.g_0_14 hσ2
                  have f1222 := congrArg Int32.toInt k3
                  have f1223 := K2.g_0_14 hσ
                  obtain ⟨k1204, k1205, k1206, k1207, k1208, k1209, sp1211, sp1212⟩ := kk1210
                  exact hQ _ hσ1203 (⟨k1204.trans ((kq (a := 0) (b := 35) eσ1065 (fun q => absurd q.2 (by decide))).trans (k4)), k1205.trans ((kq (a := 0) (b := 24) eσ1065 (fun q => absurd q.2 (by decide))).trans (k5)), k1206.trans ((kq (a := 0) (b := 36) eσ1065 (fun q => absurd q.2 (by decide))).trans (k6)), k1207.trans ((kq (a := 0) (b := 41) eσ1065 (fun q => absurd q.2 (by decide))).trans (k7)), k1208.trans ((kq (a := 0) (b := 50) eσ1065 (fun q => absurd q.2 (by decide))).trans (k8)), k1209.trans ((kq (a := 0) (b := 51) eσ1065 (fun q => absurd q.2 (by decide))).trans (k9))⟩)
        · first | have f1224 := (noteqE (show (1 : Int32).toInt = 1 from by decide) (show (0 : Int32).toInt = 0 from by decide)).mp c906 | skip
          try unfold fX12_prints_j26
          refine ⟨fun c1225 => ?_, fun c1225 => ?_⟩
          · first | have f1227 := (eqE (rfl : r11.toInt = r11.toInt) (show (224 : Int32).toInt = 224 from by decide)).mp c1225 | skip
            try unfold fX12_prints_j50
            refine ⟨fun c1228 => ?_, fun c1228 => ?_⟩
            · first | have f1230 := (eqE (rfl : r11.toInt = r11.toInt) (show (226 : Int32).toInt = 226 from by decide)).mp c1228 | skip
              try unfold fX12_prints_j66
              refine sX12_lays hN hσ2 (fun σ1232 hσ1232 kk1239 => ?_)
              have f1244 := K2.g_0_14 hσ2
              have f1245 := congrArg Int32.toInt k3
              have f1246 := K2.g_0_14 hσ
              obtain ⟨k1233, k1234, k1235, k1236, k1237, k1238, sp1240, sp1241⟩ := kk1239
              exact hQ _ hσ1232 (⟨k1233.trans (k4), k1234.trans (k5), k1235.trans (k6), k1236.trans (k7), k1237.trans (k8), k1238.trans (k9)⟩)
            · first | have f1248 := (noteqE (rfl : r11.toInt = r11.toInt) (show (226 : Int32).toInt = 226 from by decide)).mp c1228 | skip
              try unfold fX12_prints_j66
              refine sX12_lays hN hσ2 (fun σ1250 hσ1250 kk1257 => ?_)
              have f1262 := K2.g_0_14 hσ2
              have f1263 := congrArg Int32.toInt k3
              have f1264 := K2.g_0_14 hσ
              obtain ⟨k1251, k1252, k1253, k1254, k1255, k1256, sp1258, sp1259⟩ := kk1257
              exact hQ _ hσ1250 (⟨k1251.trans (k4), k1252.trans (k5), k1253.trans (k6), k1254.trans (k7), k1255.trans (k8), k1256.trans (k9)⟩)
          · first | have f1266 := (noteqE (rfl : r11.toInt = r11.toInt) (show (224 : Int32).toInt = 224 from by decide)).mp c1225 | skip
            refine ⟨fun c1267 => ?_, fun c1267 => ?_⟩
            · first | have f1269 := (eqE (rfl : r11.toInt = r11.toInt) (show (226 : Int32).toInt = 226 from by decide)).mp c1267 | skip
              try unfold fX12_prints_j50
              refine ⟨fun c1270 => ?_, fun c1270 => ?_⟩
              · first | have f1272 := (eqE (rfl : r11.toInt = r11.toInt) (show (226 : Int32).toInt = 226 from by decide)).mp c1270 | skip
                try unfold fX12_prints_j66
                refine sX12_lays hN hσ2 (fun σ1274 hσ1274 kk1281 => ?_)
                have f1286 := K2.g_0_14 hσ2
                have f1287 := congrArg Int32.toInt k3
                have f1288 := K2.g_0_14 hσ
                obtain ⟨k1275, k1276, k1277, k1278, k1279, k1280, sp1282, sp1283⟩ := kk1281
                exact hQ _ hσ1274 (⟨k1275.trans (k4), k1276.trans (k5), k1277.trans (k6), k1278.trans (k7), k1279.trans (k8), k1280.trans (k9)⟩)
              · first | have f1290 := (noteqE (rfl : r11.toInt = r11.toInt) (show (226 : Int32).toInt = 226 from by decide)).mp c1270 | skip
                try unfold fX12_prints_j66
                refine sX12_lays hN hσ2 (fun σ1292 hσ1292 kk1299 => ?_)
                have f1304 := K2.g_0_14 hσ2
                have f1305 := congrArg Int32.toInt k3
                have f1306 := K2.g_0_14 hσ
                obtain ⟨k1293, k1294, k1295, k1296, k1297, k1298, sp1300, sp1301⟩ := kk1299
                exact hQ _ hσ1292 (⟨k1293.trans (k4), k1294.trans (k5), k1295.trans (k6), k1296.trans (k7), k1297.trans (k8), k1298.trans (k9)⟩)
            · first | have f1308 := (noteqE (rfl : r11.toInt = r11.toInt) (show (226 : Int32).toInt = 226 from by decide)).mp c1267 | skip
              try unfold fX12_prints_j50
              refine ⟨fun c1309 => ?_, fun c1309 => ?_⟩
              · first | have f1311 := (eqE (rfl : r11.toInt = r11.toInt) (show (226 : Int32).toInt = 226 from by decide)).mp c1309 | skip
                try unfold fX12_prints_j66
                refine sX12_lays hN hσ2 (fun σ1313 hσ1313 kk1320 => ?_)
                have f1325 := K2.g_0_14 hσ2
                have f1326 := congrArg Int32.toInt k3
                have f1327 := K2.g_0_14 hσ
                obtain ⟨k1314, k1315, k1316, k1317, k1318, k1319, sp1321, sp1322⟩ := kk1320
                exact hQ _ hσ1313 (⟨k1314.trans (k4), k1315.trans (k5), k1316.trans (k6), k1317.trans (k7), k1318.trans (k8), k1319.trans (k9)⟩)
              · first | have f1329 := (noteqE (rfl : r11.toInt = r11.toInt) (show (226 : Int32).toInt = 226 from by decide)).mp c1309 | skip
                try unfold fX12_prints_j66
                refine sX12_lays hN hσ2 (fun σ1331 hσ1331 kk1338 => ?_)
                have f1343 := K2.g_0_14 hσ2
                have f1344 := congrArg Int32.toInt k3
                have f1345 := K2.g_0_14 hσ
                obtain ⟨k1332, k1333, k1334, k1335, k1336, k1337, sp1339, sp1340⟩ := kk1338
                exact hQ _ hσ1331 (⟨k1332.trans (k4), k1333.trans (k5), k1334.trans (k6), k1335.trans (k7), k1336.trans (k8), k1337.trans (k9)⟩)
  · have f1346 := K2.g_0_9 hσ2
    first | have f1347 := (noteqE (rfl : (σ2.1 0 9).toInt = (σ2.1 0 9).toInt) (show (0 : Int32).toInt = 0 from by decide)).mp c13 | skip
    try unfold fX12_prints_j26
    refine ⟨fun c1348 => ?_, fun c1348 => ?_⟩
    · have f1349 := tB r11
      first | have f1350 := (eqE (rfl : r11.toInt = r11.toInt) (show (224 : Int32).toInt = 224 from by decide)).mp c1348 | skip
      try unfold fX12_prints_j50
      refine ⟨fun c1351 => ?_, fun c1351 => ?_⟩
      · first | have f1353 := (eqE (rfl : r11.toInt = r11.toInt) (show (226 : Int32).toInt = 226 from by decide)).mp c1351 | skip
        try unfold fX12_prints_j66
        refine sX12_lays hN hσ2 (fun σ1355 hσ1355 kk1362 => ?_)
        have f1367 := K2.g_0_14 hσ2
        have f1368 := congrArg Int32.toInt k3
        have f1369 := K2.g_0_14 hσ
        obtain ⟨k1356, k1357, k1358, k1359, k1360, k1361, sp1363, sp1364⟩ := kk1362
        exact hQ _ hσ1355 (⟨k1356.trans (k4), k1357.trans (k5), k1358.trans (k6), k1359.trans (k7), k1360.trans (k8), k1361.trans (k9)⟩)
      · first | have f1371 := (noteqE (rfl : r11.toInt = r11.toInt) (show (226 : Int32).toInt = 226 from by decide)).mp c1351 | skip
        try unfold fX12_prints_j66
        refine sX12_lays hN hσ2 (fun σ1373 hσ1373 kk1380 => ?_)
        have f1385 := K2.g_0_14 hσ2
        have f1386 := congrArg Int32.toInt k3
        have f1387 := K2.g_0_14 hσ
        obtain ⟨k1374, k1375, k1376, k1377, k1378, k1379, sp1381, sp1382⟩ := kk1380
        exact hQ _ hσ1373 (⟨k1374.trans (k4), k1375.trans (k5), k1376.trans (k6), k1377.trans (k7), k1378.trans (k8), k1379.trans (k9)⟩)
    · have f1388 := tB r11
      first | have f1389 := (noteqE (rfl : r11.toInt = r11.toInt) (show (224 : Int32).toInt = 224 from by decide)).mp c1348 | skip
      refine ⟨fun c1390 => ?_, fun c1390 => ?_⟩
      · first | have f1392 := (eqE (rfl : r11.toInt = r11.toInt) (show (226 : Int32).toInt = 226 from by decide)).mp c1390 | skip
        try unfold fX12_prints_j50
        refine ⟨fun c1393 => ?_, fun c1393 => ?_⟩
        · first | have f1395 := (eqE (rfl : r11.toInt = r11.toInt) (show (226 : Int32).toInt = 226 from by decide)).mp c1393 | skip
          try unfold fX12_prints_j66
          refine sX12_lays hN hσ2 (fun σ1397 hσ1397 kk1404 => ?_)
          have f1409 := K2.g_0_14 hσ2
          have f1410 := congrArg Int32.toInt k3
          have f1411 := K2.g_0_14 hσ
          obtain ⟨k1398, k1399, k1400, k1401, k1402, k1403, sp1405, sp1406⟩ := kk1404
          exact hQ _ hσ1397 (⟨k1398.trans (k4), k1399.trans (k5), k1400.trans (k6), k1401.trans (k7), k1402.trans (k8), k1403.trans (k9)⟩)
        · first | have f1413 := (noteqE (rfl : r11.toInt = r11.toInt) (show (226 : Int32).toInt = 226 from by decide)).mp c1393 | skip
          try unfold fX12_prints_j66
          refine sX12_lays hN hσ2 (fun σ1415 hσ1415 kk1422 => ?_)
          have f1427 := K2.g_0_14 hσ2
          have f1428 := congrArg Int32.toInt k3
          have f1429 := K2.g_0_14 hσ
          obtain ⟨k1416, k1417, k1418, k1419, k1420, k1421, sp1423, sp1424⟩ := kk1422
          exact hQ _ hσ1415 (⟨k1416.trans (k4), k1417.trans (k5), k1418.trans (k6), k1419.trans (k7), k1420.trans (k8), k1421.trans (k9)⟩)
      · first | have f1431 := (noteqE (rfl : r11.toInt = r11.toInt) (show (226 : Int32).toInt = 226 from by decide)).mp c1390 | skip
        try unfold fX12_prints_j50
        refine ⟨fun c1432 => ?_, fun c1432 => ?_⟩
        · first | have f1434 := (eqE (rfl : r11.toInt = r11.toInt) (show (226 : Int32).toInt = 226 from by decide)).mp c1432 | skip
          try unfold fX12_prints_j66
          refine sX12_lays hN hσ2 (fun σ1436 hσ1436 kk1443 => ?_)
          have f1448 := K2.g_0_14 hσ2
          have f1449 := congrArg Int32.toInt k3
          have f1450 := K2.g_0_14 hσ
          obtain ⟨k1437, k1438, k1439, k1440, k1441, k1442, sp1444, sp1445⟩ := kk1443
          exact hQ _ hσ1436 (⟨k1437.trans (k4), k1438.trans (k5), k1439.trans (k6), k1440.trans (k7), k1441.trans (k8), k1442.trans (k9)⟩)
        · first | have f1452 := (noteqE (rfl : r11.toInt = r11.toInt) (show (226 : Int32).toInt = 226 from by decide)).mp c1432 | skip
          try unfold fX12_prints_j66
          refine sX12_lays hN hσ2 (fun σ1454 hσ1454 kk1461 => ?_)
          have f1466 := K2.g_0_14 hσ2
          have f1467 := congrArg Int32.toInt k3
          have f1468 := K2.g_0_14 hσ
          obtain ⟨k1455, k1456, k1457, k1458, k1459, k1460, sp1462, sp1463⟩ := kk1461
          exact hQ _ hσ1454 (⟨k1455.trans (k4), k1456.trans (k5), k1457.trans (k6), k1458.trans (k7), k1459.trans (k8), k1460.trans (k9)⟩)
set_option maxHeartbeats 4000000 in
theorem sX12_value {N : Nat} (hN : 4294967400 ≤ N) {Q : Int32 → St → Prop} {σ0 σ : St} (hσ : K2 σ0 σ) (hQ : ∀ (r : Int32) (τ : St), K2 σ0 τ → (τ.1 0 14 = σ.1 0 14 ∧ τ.1 0 35 = σ.1 0 35 ∧ τ.1 0 24 = σ.1 0 24 ∧ τ.1 0 36 = σ.1 0 36 ∧ τ.1 0 41 = σ.1 0 41 ∧ τ.1 0 50 = σ.1 0 50 ∧ τ.1 0 51 = σ.1 0 51) → True → Q r τ) : fX12_value N  Q σ := by
  unfold fX12_value
  have f1 := tB64 (σ.2 0 34)
  refine sX12_read hN hσ (fun r11 σ2 hσ2 kk10 p12 => ?_)
  obtain ⟨k3, k4, k5, k6, k7, k8, k9⟩ := kk10
  intro v13 ev13
  intro σ14 eσ14
  have hσ14 : K2 σ0 σ14 := by rw [eσ14]; exact hσ2.l
  refine ⟨fun c15 => ?_, fun c15 => ?_⟩
  · have f16 := tB r11
    first | have f17 := (eqE (rfl : r11.toInt = r11.toInt) (show (1 : Int32).toInt = 1 from by decide)).mp c15 | skip
    intro v18 ev18
    intro σ19 eσ19
    have hσ19 : K2 σ0 σ19 := by rw [eσ19]; exact hσ14.l
    have f20 := tB64 (σ19.2 0 34)
    refine sX12_read hN hσ19 (fun r30 σ21 hσ21 kk29 p31 => ?_)
    obtain ⟨k22, k23, k24, k25, k26, k27, k28⟩ := kk29
    exact hQ _ _ hσ21 (⟨k22.trans ((kq2 (a := 0) (b := 14) eσ19).trans ((kq2 (a := 0) (b := 14) eσ14).trans (k3))), k23.trans ((kq2 (a := 0) (b := 35) eσ19).trans ((kq2 (a := 0) (b := 35) eσ14).trans (k4))), k24.trans ((kq2 (a := 0) (b := 24) eσ19).trans ((kq2 (a := 0) (b := 24) eσ14).trans (k5))), k25.trans ((kq2 (a := 0) (b := 36) eσ19).trans ((kq2 (a := 0) (b := 36) eσ14).trans (k6))), k26.trans ((kq2 (a := 0) (b := 41) eσ19).trans ((kq2 (a := 0) (b := 41) eσ14).trans (k7))), k27.trans ((kq2 (a := 0) (b := 50) eσ19).trans ((kq2 (a := 0) (b := 50) eσ14).trans (k8))), k28.trans ((kq2 (a := 0) (b := 51) eσ19).trans ((kq2 (a := 0) (b := 51) eσ14).trans (k9)))⟩) trivial
  · have f32 := tB r11
    first | have f33 := (noteqE (rfl : r11.toInt = r11.toInt) (show (1 : Int32).toInt = 1 from by decide)).mp c15 | skip
    refine ⟨fun c34 => ?_, fun c34 => ?_⟩
    · first | have f36 := (eqE (rfl : r11.toInt = r11.toInt) (show (2 : Int32).toInt = 2 from by decide)).mp c34 | skip
      intro v37 ev37
      intro σ38 eσ38
      have hσ38 : K2 σ0 σ38 := by rw [eσ38]; exact hσ14.l
      have f39 := tB64 (σ38.2 0 34)
      refine sX12_four hN hσ38 (fun r49 σ40 hσ40 kk48 p50 => ?_)
      obtain ⟨k41, k42, k43, k44, k45, k46, k47⟩ := kk48
      exact hQ _ _ hσ40 (⟨k41.trans ((kq2 (a := 0) (b := 14) eσ38).trans ((kq2 (a := 0) (b := 14) eσ14).trans (k3))), k42.trans ((kq2 (a := 0) (b := 35) eσ38).trans ((kq2 (a := 0) (b := 35) eσ14).trans (k4))), k43.trans ((kq2 (a := 0) (b := 24) eσ38).trans ((kq2 (a := 0) (b := 24) eσ14).trans (k5))), k44.trans ((kq2 (a := 0) (b := 36) eσ38).trans ((kq2 (a := 0) (b := 36) eσ14).trans (k6))), k45.trans ((kq2 (a := 0) (b := 41) eσ38).trans ((kq2 (a := 0) (b := 41) eσ14).trans (k7))), k46.trans ((kq2 (a := 0) (b := 50) eσ38).trans ((kq2 (a := 0) (b := 50) eσ14).trans (k8))), k47.trans ((kq2 (a := 0) (b := 51) eσ38).trans ((kq2 (a := 0) (b := 51) eσ14).trans (k9)))⟩) trivial
    · first | have f52 := (noteqE (rfl : r11.toInt = r11.toInt) (show (2 : Int32).toInt = 2 from by decide)).mp c34 | skip
      refine ⟨fun c53 => ?_, fun c53 => ?_⟩
      · first | have f55 := (eqE (rfl : r11.toInt = r11.toInt) (show (3 : Int32).toInt = 3 from by decide)).mp c53 | skip
        have f56 := tB64 (σ14.2 0 34)
        refine sX12_read hN hσ14 (fun r66 σ57 hσ57 kk65 p67 => ?_)
        obtain ⟨k58, k59, k60, k61, k62, k63, k64⟩ := kk65
        intro v68 ev68
        intro σ69 eσ69
        have hσ69 : K2 σ0 σ69 := by rw [eσ69]; exact hσ57.l
        have f70 := K2.g_0_35 hσ69
        have f71 := congrArg Int32.toInt (kq2 (a := 0) (b := 35) eσ69)
        have f72 := K2.g_0_35 hσ57
        have f73 := congrArg Int32.toInt k59
        have f74 := K2.g_0_35 hσ14
        have f75 := congrArg Int32.toInt (kq2 (a := 0) (b := 35) eσ14)
        have f76 := K2.g_0_35 hσ2
        have f77 := congrArg Int32.toInt k4
        have f78 := K2.g_0_35 hσ
        have g79 : vp_in (σ69.1 0 35) 40 := inE (rfl : (σ69.1 0 35).toInt = (σ69.1 0 35).toInt) (by omega) (by omega)
        refine ⟨g79, ?_⟩
        refine ⟨fun c80 => ?_, fun c80 => ?_⟩
        · have f81 := K2.ga_9 hσ69 (σ69.1 0 35).toNatClampNeg
          have f82 := tB r66
          first | have f83 := (leE (rfl : (σ69.1 9 (σ69.1 0 35).toNatClampNeg).toInt = (σ69.1 9 (σ69.1 0 35).toNatClampNeg).toInt) (rfl : r66.toInt = r66.toInt)).mp c80 | skip
          try unfold fX12_fails
          refine ⟨fun c84 => ?_, fun c84 => ?_⟩
          · have f85 := K2.g_0_9 hσ69
            have f86 := congrArg Int32.toInt (kq2 (a := 0) (b := 9) eσ69)
            have f87 := K2.g_0_9 hσ57
            first | have f88 := (eqE (rfl : (σ69.1 0 9).toInt = (σ69.1 0 9).toInt) (show (0 : Int32).toInt = 0 from by decide)).mp c84 | skip
            try unfold fX12_fails_j16
            intro σ89 eσ89
            have hσ89 : K2 σ0 σ89 := by rw [eσ89]; exact hσ69.u (Rg2.r_0_9 (leP (show (6 : Int32).toInt = 6 from by decide) (by omega)) (geP (show (6 : Int32).toInt = 6 from by decide) (by omega))) (fun q => absurd q.2 (by decide)) (fun q => absurd q.2 (by decide)) ⟨⟨by decide, by decide⟩, fun q => absurd q.2 (by decide)⟩
            try dsimp only
            exact hQ _ _ hσ89 (⟨(kq (a := 0) (b := 14) eσ89 (fun q => absurd q.2 (by decide))).trans ((kq2 (a := 0) (b := 14) eσ69).trans (k58.trans ((kq2 (a := 0) (b := 14) eσ14).trans (k3)))), (kq (a := 0) (b := 35) eσ89 (fun q => absurd q.2 (by decide))).trans ((kq2 (a := 0) (b := 35) eσ69).trans (k59.trans ((kq2 (a := 0) (b := 35) eσ14).trans (k4)))), (kq (a := 0) (b := 24) eσ89 (fun q => absurd q.2 (by decide))).trans ((kq2 (a := 0) (b := 24) eσ69).trans (k60.trans ((kq2 (a := 0) (b := 24) eσ14).trans (k5)))), (kq (a := 0) (b := 36) eσ89 (fun q => absurd q.2 (by decide))).trans ((kq2 (a := 0) (b := 36) eσ69).trans (k61.trans ((kq2 (a := 0) (b := 36) eσ14).trans (k6)))), (kq (a := 0) (b := 41) eσ89 (fun q => absurd q.2 (by decide))).trans ((kq2 (a := 0) (b := 41) eσ69).trans (k62.trans ((kq2 (a := 0) (b := 41) eσ14).trans (k7)))), (kq (a := 0) (b := 50) eσ89 (fun q => absurd q.2 (by decide))).trans ((kq2 (a := 0) (b := 50) eσ69).trans (k63.trans ((kq2 (a := 0) (b := 50) eσ14).trans (k8)))), (kq (a := 0) (b := 51) eσ89 (fun q => absurd q.2 (by decide))).trans ((kq2 (a := 0) (b := 51) eσ69).trans (k64.trans ((kq2 (a := 0) (b := 51) eσ14).trans (k9))))⟩) trivial
          · have f90 := K2.g_0_9 hσ69
            have f91 := congrArg Int32.toInt (kq2 (a := 0) (b := 9) eσ69)
            have f92 := K2.g_0_9 hσ57
            first | have f93 := (noteqE (rfl : (σ69.1 0 9).toInt = (σ69.1 0 9).toInt) (show (0 : Int32).toInt = 0 from by decide)).mp c84 | skip
            try unfold fX12_fails_j16
            intro σ94 eσ94
            have hσ94 : K2 σ0 σ94 := by rw [eσ94]; exact hσ69.u (Rg2.r_0_9 (leP (rfl : (σ69.1 0 9).toInt = (σ69.1 0 9).toInt) (by omega)) (geP (rfl : (σ69.1 0 9).toInt = (σ69.1 0 9).toInt) (by omega))) (fun q => absurd q.2 (by decide)) (fun q => absurd q.2 (by decide)) ⟨⟨by decide, by decide⟩, fun q => absurd q.2 (by decide)⟩
            try dsimp only
            exact hQ _ _ hσ94 (⟨(kq (a := 0) (b := 14) eσ94 (fun q => absurd q.2 (by decide))).trans ((kq2 (a := 0) (b := 14) eσ69).trans (k58.trans ((kq2 (a := 0) (b := 14) eσ14).trans (k3)))), (kq (a := 0) (b := 35) eσ94 (fun q => absurd q.2 (by decide))).trans ((kq2 (a := 0) (b := 35) eσ69).trans (k59.trans ((kq2 (a := 0) (b := 35) eσ14).trans (k4)))), (kq (a := 0) (b := 24) eσ94 (fun q => absurd q.2 (by decide))).trans ((kq2 (a := 0) (b := 24) eσ69).trans (k60.trans ((kq2 (a := 0) (b := 24) eσ14).trans (k5)))), (kq (a := 0) (b := 36) eσ94 (fun q => absurd q.2 (by decide))).trans ((kq2 (a := 0) (b := 36) eσ69).trans (k61.trans ((kq2 (a := 0) (b := 36) eσ14).trans (k6)))), (kq (a := 0) (b := 41) eσ94 (fun q => absurd q.2 (by decide))).trans ((kq2 (a := 0) (b := 41) eσ69).trans (k62.trans ((kq2 (a := 0) (b := 41) eσ14).trans (k7)))), (kq (a := 0) (b := 50) eσ94 (fun q => absurd q.2 (by decide))).trans ((kq2 (a := 0) (b := 50) eσ69).trans (k63.trans ((kq2 (a := 0) (b := 50) eσ14).trans (k8)))), (kq (a := 0) (b := 51) eσ94 (fun q => absurd q.2 (by decide))).trans ((kq2 (a := 0) (b := 51) eσ69).trans (k64.trans ((kq2 (a := 0) (b := 51) eσ14).trans (k9))))⟩) trivial
        · have f96 := K2.ga_9 hσ69 (σ69.1 0 35).toNatClampNeg
          have f97 := tB r66
          first | have f98 := (notleE (rfl : (σ69.1 9 (σ69.1 0 35).toNatClampNeg).toInt = (σ69.1 9 (σ69.1 0 35).toNatClampNeg).toInt) (rfl : r66.toInt = r66.toInt)).mp c80 | skip
          have g101 : vp_in ((8 * (σ69.1 0 35)) + r66) 320 := inE (aOkE (mOkE (show (8 : Int32).toInt = 8 from by decide) (rfl : (σ69.1 0 35).toInt = (σ69.1 0 35).toInt) (by omega) (by omega)) (rfl : r66.toInt = r66.toInt) (by omega) (by omega)) (by omega) (by omega)
          refine ⟨g101, ?_⟩
          exact hQ _ _ hσ69 (⟨(kq2 (a := 0) (b := 14) eσ69).trans (k58.trans ((kq2 (a := 0) (b := 14) eσ14).trans (k3))), (kq2 (a := 0) (b := 35) eσ69).trans (k59.trans ((kq2 (a := 0) (b := 35) eσ14).trans (k4))), (kq2 (a := 0) (b := 24) eσ69).trans (k60.trans ((kq2 (a := 0) (b := 24) eσ14).trans (k5))), (kq2 (a := 0) (b := 36) eσ69).trans (k61.trans ((kq2 (a := 0) (b := 36) eσ14).trans (k6))), (kq2 (a := 0) (b := 41) eσ69).trans (k62.trans ((kq2 (a := 0) (b := 41) eσ14).trans (k7))), (kq2 (a := 0) (b := 50) eσ69).trans (k63.trans ((kq2 (a := 0) (b := 50) eσ14).trans (k8))), (kq2 (a := 0) (b := 51) eσ69).trans (k64.trans ((kq2 (a := 0) (b := 51) eσ14).trans (k9)))⟩) trivial
      · first | have f103 := (noteqE (rfl : r11.toInt = r11.toInt) (show (3 : Int32).toInt = 3 from by decide)).mp c53 | skip
        refine ⟨fun c104 => ?_, fun c104 => ?_⟩
        · first | have f106 := (eqE (rfl : r11.toInt = r11.toInt) (show (0 : Int32).toInt = 0 from by decide)).mp c104 | skip
          exact hQ _ _ hσ14 (⟨(kq2 (a := 0) (b := 14) eσ14).trans (k3), (kq2 (a := 0) (b := 35) eσ14).trans (k4), (kq2 (a := 0) (b := 24) eσ14).trans (k5), (kq2 (a := 0) (b := 36) eσ14).trans (k6), (kq2 (a := 0) (b := 41) eσ14).trans (k7), (kq2 (a := 0) (b := 50) eσ14).trans (k8), (kq2 (a := 0) (b := 51) eσ14).trans (k9)⟩) trivial
        · first | have f108 := (noteqE (rfl : r11.toInt = r11.toInt) (show (0 : Int32).toInt = 0 from by decide)).mp c104 | skip
          try unfold fX12_fails
          refine ⟨fun c109 => ?_, fun c109 => ?_⟩
          · have f110 := K2.g_0_9 hσ14
            have f111 := congrArg Int32.toInt (kq2 (a := 0) (b := 9) eσ14)
            have f112 := K2.g_0_9 hσ2
            first | have f113 := (eqE (rfl : (σ14.1 0 9).toInt = (σ14.1 0 9).toInt) (show (0 : Int32).toInt = 0 from by decide)).mp c109 | skip
            try unfold fX12_fails_j16
            intro σ114 eσ114
            have hσ114 : K2 σ0 σ114 := by rw [eσ114]; exact hσ14.u (Rg2.r_0_9 (leP (show (6 : Int32).toInt = 6 from by decide) (by omega)) (geP (show (6 : Int32).toInt = 6 from by decide) (by omega))) (fun q => absurd q.2 (by decide)) (fun q => absurd q.2 (by decide)) ⟨⟨by decide, by decide⟩, fun q => absurd q.2 (by decide)⟩
            try dsimp only
            exact hQ _ _ hσ114 (⟨(kq (a := 0) (b := 14) eσ114 (fun q => absurd q.2 (by decide))).trans ((kq2 (a := 0) (b := 14) eσ14).trans (k3)), (kq (a := 0) (b := 35) eσ114 (fun q => absurd q.2 (by decide))).trans ((kq2 (a := 0) (b := 35) eσ14).trans (k4)), (kq (a := 0) (b := 24) eσ114 (fun q => absurd q.2 (by decide))).trans ((kq2 (a := 0) (b := 24) eσ14).trans (k5)), (kq (a := 0) (b := 36) eσ114 (fun q => absurd q.2 (by decide))).trans ((kq2 (a := 0) (b := 36) eσ14).trans (k6)), (kq (a := 0) (b := 41) eσ114 (fun q => absurd q.2 (by decide))).trans ((kq2 (a := 0) (b := 41) eσ14).trans (k7)), (kq (a := 0) (b := 50) eσ114 (fun q => absurd q.2 (by decide))).trans ((kq2 (a := 0) (b := 50) eσ14).trans (k8)), (kq (a := 0) (b := 51) eσ114 (fun q => absurd q.2 (by decide))).trans ((kq2 (a := 0) (b := 51) eσ14).trans (k9))⟩) trivial
          · have f115 := K2.g_0_9 hσ14
            have f116 := congrArg Int32.toInt (kq2 (a := 0) (b := 9) eσ14)
            have f117 := K2.g_0_9 hσ2
            first | have f118 := (noteqE (rfl : (σ14.1 0 9).toInt = (σ14.1 0 9).toInt) (show (0 : Int32).toInt = 0 from by decide)).mp c109 | skip
            try unfold fX12_fails_j16
            intro σ119 eσ119
            have hσ119 : K2 σ0 σ119 := by rw [eσ119]; exact hσ14.u (Rg2.r_0_9 (leP (rfl : (σ14.1 0 9).toInt = (σ14.1 0 9).toInt) (by omega)) (geP (rfl : (σ14.1 0 9).toInt = (σ14.1 0 9).toInt) (by omega))) (fun q => absurd q.2 (by decide)) (fun q => absurd q.2 (by decide)) ⟨⟨by decide, by decide⟩, fun q => absurd q.2 (by decide)⟩
            try dsimp only
            exact hQ _ _ hσ119 (⟨(kq (a := 0) (b := 14) eσ119 (fun q => absurd q.2 (by decide))).trans ((kq2 (a := 0) (b := 14) eσ14).trans (k3)), (kq (a := 0) (b := 35) eσ119 (fun q => absurd q.2 (by decide))).trans ((kq2 (a := 0) (b := 35) eσ14).trans (k4)), (kq (a := 0) (b := 24) eσ119 (fun q => absurd q.2 (by decide))).trans ((kq2 (a := 0) (b := 24) eσ14).trans (k5)), (kq (a := 0) (b := 36) eσ119 (fun q => absurd q.2 (by decide))).trans ((kq2 (a := 0) (b := 36) eσ14).trans (k6)), (kq (a := 0) (b := 41) eσ119 (fun q => absurd q.2 (by decide))).trans ((kq2 (a := 0) (b := 41) eσ14).trans (k7)), (kq (a := 0) (b := 50) eσ119 (fun q => absurd q.2 (by decide))).trans ((kq2 (a := 0) (b := 50) eσ14).trans (k8)), (kq (a := 0) (b := 51) eσ119 (fun q => absurd q.2 (by decide))).trans ((kq2 (a := 0) (b := 51) eσ14).trans (k9))⟩) trivial
set_option maxHeartbeats 4000000 in
theorem sX12_target {N : Nat} (hN : 4294967400 ≤ N) {Q : Int32 → St → Prop} {σ0 σ : St} (hσ : K2 σ0 σ) (hQ : ∀ (r : Int32) (τ : St), K2 σ0 τ → (τ.1 0 14 = σ.1 0 14 ∧ τ.1 0 35 = σ.1 0 35 ∧ τ.1 0 24 = σ.1 0 24 ∧ τ.1 0 36 = σ.1 0 36 ∧ τ.1 0 41 = σ.1 0 41 ∧ τ.1 0 50 = σ.1 0 50 ∧ τ.1 0 51 = σ.1 0 51) → (r.toInt = 255 ∨ (0 ≤ r.toInt ∧ r.toInt ≤ 7) ∨ ¬ (τ.1 0 9).toInt = 0) → Q r τ) : fX12_target N  Q σ := by
  unfold fX12_target
  have f1 := tB64 (σ.2 0 34)
  refine sX12_read hN hσ (fun r11 σ2 hσ2 kk10 p12 => ?_)
  obtain ⟨k3, k4, k5, k6, k7, k8, k9⟩ := kk10
  intro v13 ev13
  intro σ14 eσ14
  have hσ14 : K2 σ0 σ14 := by rw [eσ14]; exact hσ2.l
  refine ⟨fun c15 => ?_, fun c15 => ?_⟩
  · have f16 := tB r11
    first | have f17 := (eqE (rfl : r11.toInt = r11.toInt) (show (255 : Int32).toInt = 255 from by decide)).mp c15 | skip
    have f19 := K2.g_0_9 hσ14
    have f20 := congrArg Int32.toInt (kq2 (a := 0) (b := 9) eσ14)
    have f21 := K2.g_0_9 hσ2
    have hrv := (rfl : r11.toInt = r11.toInt)
    exact hQ _ _ hσ14 (⟨(kq2 (a := 0) (b := 14) eσ14).trans (k3), (kq2 (a := 0) (b := 35) eσ14).trans (k4), (kq2 (a := 0) (b := 24) eσ14).trans (k5), (kq2 (a := 0) (b := 36) eσ14).trans (k6), (kq2 (a := 0) (b := 41) eσ14).trans (k7), (kq2 (a := 0) (b := 50) eσ14).trans (k8), (kq2 (a := 0) (b := 51) eσ14).trans (k9)⟩) (by omega)
  · have f22 := tB r11
    first | have f23 := (noteqE (rfl : r11.toInt = r11.toInt) (show (255 : Int32).toInt = 255 from by decide)).mp c15 | skip
    have f24 := K2.g_0_35 hσ14
    have f25 := congrArg Int32.toInt (kq2 (a := 0) (b := 35) eσ14)
    have f26 := K2.g_0_35 hσ2
    have f27 := congrArg Int32.toInt k4
    have f28 := K2.g_0_35 hσ
    have g29 : vp_in (σ14.1 0 35) 40 := inE (rfl : (σ14.1 0 35).toInt = (σ14.1 0 35).toInt) (by omega) (by omega)
    refine ⟨g29, ?_⟩
    refine ⟨fun c30 => ?_, fun c30 => ?_⟩
    · have f32 := K2.ga_9 hσ14 (σ14.1 0 35).toNatClampNeg
      first | have f33 := (ltE (rfl : r11.toInt = r11.toInt) (rfl : (σ14.1 9 (σ14.1 0 35).toNatClampNeg).toInt = (σ14.1 9 (σ14.1 0 35).toNatClampNeg).toInt)).mp c30 | skip
      have f35 := K2.g_0_9 hσ14
      have f36 := congrArg Int32.toInt (kq2 (a := 0) (b := 9) eσ14)
      have f37 := K2.g_0_9 hσ2
      have hrv := (rfl : r11.toInt = r11.toInt)
      exact hQ _ _ hσ14 (⟨(kq2 (a := 0) (b := 14) eσ14).trans (k3), (kq2 (a := 0) (b := 35) eσ14).trans (k4), (kq2 (a := 0) (b := 24) eσ14).trans (k5), (kq2 (a := 0) (b := 36) eσ14).trans (k6), (kq2 (a := 0) (b := 41) eσ14).trans (k7), (kq2 (a := 0) (b := 50) eσ14).trans (k8), (kq2 (a := 0) (b := 51) eσ14).trans (k9)⟩) (by omega)
    · have f39 := K2.ga_9 hσ14 (σ14.1 0 35).toNatClampNeg
      first | have f40 := (notltE (rfl : r11.toInt = r11.toInt) (rfl : (σ14.1 9 (σ14.1 0 35).toNatClampNeg).toInt = (σ14.1 9 (σ14.1 0 35).toNatClampNeg).toInt)).mp c30 | skip
      try unfold fX12_fails
      refine ⟨fun c41 => ?_, fun c41 => ?_⟩
      · have f42 := K2.g_0_9 hσ14
        have f43 := congrArg Int32.toInt (kq2 (a := 0) (b := 9) eσ14)
        have f44 := K2.g_0_9 hσ2
        first | have f45 := (eqE (rfl : (σ14.1 0 9).toInt = (σ14.1 0 9).toInt) (show (0 : Int32).toInt = 0 from by decide)).mp c41 | skip
        try unfold fX12_fails_j16
        intro σ46 eσ46
        have hσ46 : K2 σ0 σ46 := by rw [eσ46]; exact hσ14.u (Rg2.r_0_9 (leP (show (6 : Int32).toInt = 6 from by decide) (by omega)) (geP (show (6 : Int32).toInt = 6 from by decide) (by omega))) (fun q => absurd q.2 (by decide)) (fun q => absurd q.2 (by decide)) ⟨⟨by decide, by decide⟩, fun q => absurd q.2 (by decide)⟩
        try dsimp only
        have f48 := K2.g_0_9 hσ46
        have q49 : σ46.1 0 9 = 6 := by rw [eσ46, u1_at]; exact if_pos rfl
        first | have f50 : (σ46.1 0 9).toInt = (6) := (congrArg Int32.toInt q49).trans (show (6 : Int32).toInt = 6 from by decide) | skip
        have hrv := (rfl : r11.toInt = r11.toInt)
        exact hQ _ _ hσ46 (⟨(kq (a := 0) (b := 14) eσ46 (fun q => absurd q.2 (by decide))).trans ((kq2 (a := 0) (b := 14) eσ14).trans (k3)), (kq (a := 0) (b := 35) eσ46 (fun q => absurd q.2 (by decide))).trans ((kq2 (a := 0) (b := 35) eσ14).trans (k4)), (kq (a := 0) (b := 24) eσ46 (fun q => absurd q.2 (by decide))).trans ((kq2 (a := 0) (b := 24) eσ14).trans (k5)), (kq (a := 0) (b := 36) eσ46 (fun q => absurd q.2 (by decide))).trans ((kq2 (a := 0) (b := 36) eσ14).trans (k6)), (kq (a := 0) (b := 41) eσ46 (fun q => absurd q.2 (by decide))).trans ((kq2 (a := 0) (b := 41) eσ14).trans (k7)), (kq (a := 0) (b := 50) eσ46 (fun q => absurd q.2 (by decide))).trans ((kq2 (a := 0) (b := 50) eσ14).trans (k8)), (kq (a := 0) (b := 51) eσ46 (fun q => absurd q.2 (by decide))).trans ((kq2 (a := 0) (b := 51) eσ14).trans (k9))⟩) (by omega)
      · have f51 := K2.g_0_9 hσ14
        have f52 := congrArg Int32.toInt (kq2 (a := 0) (b := 9) eσ14)
        have f53 := K2.g_0_9 hσ2
        first | have f54 := (noteqE (rfl : (σ14.1 0 9).toInt = (σ14.1 0 9).toInt) (show (0 : Int32).toInt = 0 from by decide)).mp c41 | skip
        try unfold fX12_fails_j16
        intro σ55 eσ55
        have hσ55 : K2 σ0 σ55 := by rw [eσ55]; exact hσ14.u (Rg2.r_0_9 (leP (rfl : (σ14.1 0 9).toInt = (σ14.1 0 9).toInt) (by omega)) (geP (rfl : (σ14.1 0 9).toInt = (σ14.1 0 9).toInt) (by omega))) (fun q => absurd q.2 (by decide)) (fun q => absurd q.2 (by decide)) ⟨⟨by decide, by decide⟩, fun q => absurd q.2 (by decide)⟩
        try dsimp only
        have f58 := K2.g_0_9 hσ55
        have q59 : σ55.1 0 9 = (σ14.1 0 9) := by rw [eσ55, u1_at]; exact if_pos rfl
        first | have f61 : (σ55.1 0 9).toInt = (σ14.1 0 9).toInt := (congrArg Int32.toInt q59).trans (rfl : (σ14.1 0 9).toInt = (σ14.1 0 9).toInt) | skip
        have hrv := (rfl : r11.toInt = r11.toInt)
        exact hQ _ _ hσ55 (⟨(kq (a := 0) (b := 14) eσ55 (fun q => absurd q.2 (by decide))).trans ((kq2 (a := 0) (b := 14) eσ14).trans (k3)), (kq (a := 0) (b := 35) eσ55 (fun q => absurd q.2 (by decide))).trans ((kq2 (a := 0) (b := 35) eσ14).trans (k4)), (kq (a := 0) (b := 24) eσ55 (fun q => absurd q.2 (by decide))).trans ((kq2 (a := 0) (b := 24) eσ14).trans (k5)), (kq (a := 0) (b := 36) eσ55 (fun q => absurd q.2 (by decide))).trans ((kq2 (a := 0) (b := 36) eσ14).trans (k6)), (kq (a := 0) (b := 41) eσ55 (fun q => absurd q.2 (by decide))).trans ((kq2 (a := 0) (b := 41) eσ14).trans (k7)), (kq (a := 0) (b := 50) eσ55 (fun q => absurd q.2 (by decide))).trans ((kq2 (a := 0) (b := 50) eσ14).trans (k8)), (kq (a := 0) (b := 51) eσ55 (fun q => absurd q.2 (by decide))).trans ((kq2 (a := 0) (b := 51) eσ14).trans (k9))⟩) (by omega)
set_option maxHeartbeats 4000000 in
theorem sX12_way {N : Nat} (hN : 4294967400 ≤ N) {Q : Int32 → St → Prop} {σ0 σ : St} (hσ : K2 σ0 σ) (hQ : ∀ (r : Int32) (τ : St), K2 σ0 τ → (τ.1 0 14 = σ.1 0 14 ∧ τ.1 0 35 = σ.1 0 35 ∧ τ.1 0 24 = σ.1 0 24 ∧ τ.1 0 36 = σ.1 0 36 ∧ τ.1 0 41 = σ.1 0 41 ∧ τ.1 0 50 = σ.1 0 50 ∧ τ.1 0 51 = σ.1 0 51) → True → Q r τ) : fX12_way N  Q σ := by
  unfold fX12_way
  have f1 := tB64 (σ.2 0 34)
  refine sX12_read hN hσ (fun r11 σ2 hσ2 kk10 p12 => ?_)
  obtain ⟨k3, k4, k5, k6, k7, k8, k9⟩ := kk10
  intro v13 ev13
  have f14 := tB64 (σ2.2 0 34)
  refine sX12_read hN hσ2 (fun r24 σ15 hσ15 kk23 p25 => ?_)
  obtain ⟨k16, k17, k18, k19, k20, k21, k22⟩ := kk23
  intro v26 ev26
  intro σ27 eσ27
  have hσ27 : K2 σ0 σ27 := by rw [eσ27]; exact hσ15.l
  exact hQ _ _ hσ27 (⟨(kq2 (a := 0) (b := 14) eσ27).trans (k16.trans (k3)), (kq2 (a := 0) (b := 35) eσ27).trans (k17.trans (k4)), (kq2 (a := 0) (b := 24) eσ27).trans (k18.trans (k5)), (kq2 (a := 0) (b := 36) eσ27).trans (k19.trans (k6)), (kq2 (a := 0) (b := 41) eσ27).trans (k20.trans (k7)), (kq2 (a := 0) (b := 50) eσ27).trans (k21.trans (k8)), (kq2 (a := 0) (b := 51) eσ27).trans (k22.trans (k9))⟩) trivial
set_option maxHeartbeats 4000000 in
theorem sX12_put {N : Nat} (hN : 4294967400 ≤ N) {x1 : Int32} {x2 : Int32} {Q : St → Prop} {σ0 σ : St} (hx0 : (x1.toInt = 255 ∨ (0 ≤ x1.toInt ∧ x1.toInt ≤ 7) ∨ ¬ (σ.1 0 9).toInt = 0)) (hσ : K2 σ0 σ) (hQ : ∀ τ : St, K2 σ0 τ → (τ.1 0 14 = σ.1 0 14 ∧ τ.1 0 9 = σ.1 0 9 ∧ τ.1 0 35 = σ.1 0 35 ∧ τ.1 0 24 = σ.1 0 24 ∧ τ.1 0 36 = σ.1 0 36 ∧ τ.1 0 41 = σ.1 0 41 ∧ τ.1 0 50 = σ.1 0 50 ∧ τ.1 0 51 = σ.1 0 51) → Q τ) : fX12_put N x1 x2 Q σ := by
  unfold fX12_put
  refine ⟨fun c1 => ?_, fun c1 => ?_⟩
  · have f2 := K2.g_0_9 hσ
    first | have f3 := (eqE (rfl : (σ.1 0 9).toInt = (σ.1 0 9).toInt) (show (0 : Int32).toInt = 0 from by decide)).mp c1 | skip
    refine ⟨fun c4 => ?_, fun c4 => ?_⟩
    · have f5 := tB x1
      first | have f6 := (eqE (rfl : x1.toInt = x1.toInt) (show (255 : Int32).toInt = 255 from by decide)).mp c4 | skip
      exact hQ _ hσ (⟨rfl, rfl, rfl, rfl, rfl, rfl, rfl, rfl⟩)
    · have f7 := tB x1
      first | have f8 := (noteqE (rfl : x1.toInt = x1.toInt) (show (255 : Int32).toInt = 255 from by decide)).mp c4 | skip
      have f9 := K2.g_0_35 hσ
      refine ⟨inE (aOkE (mOkE (show (8 : Int32).toInt = 8 from by decide) (rfl : (σ.1 0 35).toInt = (σ.1 0 35).toInt) (by omega) (by omega)) (rfl : x1.toInt = x1.toInt) (by omega) (by omega)) (by omega) (by omega), ?_⟩
      intro σ11 eσ11
      have hσ11 : K2 σ0 σ11 := by rw [eσ11]; exact hσ.u (Rg2.ra_10 _ _) (fun q => absurd q.1 (by decide)) (fun q => absurd q.1 (by decide)) ⟨⟨by decide, by decide⟩, fun q => absurd q.1 (by decide)⟩
      exact hQ _ hσ11 (⟨(kq (a := 0) (b := 14) eσ11 (fun q => absurd q.1 (by decide))), (kq (a := 0) (b := 9) eσ11 (fun q => absurd q.1 (by decide))), (kq (a := 0) (b := 35) eσ11 (fun q => absurd q.1 (by decide))), (kq (a := 0) (b := 24) eσ11 (fun q => absurd q.1 (by decide))), (kq (a := 0) (b := 36) eσ11 (fun q => absurd q.1 (by decide))), (kq (a := 0) (b := 41) eσ11 (fun q => absurd q.1 (by decide))), (kq (a := 0) (b := 50) eσ11 (fun q => absurd q.1 (by decide))), (kq (a := 0) (b := 51) eσ11 (fun q => absurd q.1 (by decide)))⟩)
  · have f12 := K2.g_0_9 hσ
    first | have f13 := (noteqE (rfl : (σ.1 0 9).toInt = (σ.1 0 9).toInt) (show (0 : Int32).toInt = 0 from by decide)).mp c1 | skip
    exact hQ _ hσ (⟨rfl, rfl, rfl, rfl, rfl, rfl, rfl, rfl⟩)
set_option maxHeartbeats 4000000 in
theorem sX12_failed {N : Nat} (hN : 4294967400 ≤ N) {Q : Int32 → St → Prop} {σ0 σ : St} (hσ : K2 σ0 σ) (hQ : ∀ (r : Int32) (τ : St), K2 σ0 τ → (τ.1 0 9 = σ.1 0 9 ∧ τ.1 0 35 = σ.1 0 35 ∧ τ.1 0 24 = σ.1 0 24 ∧ τ.1 0 36 = σ.1 0 36 ∧ τ.1 0 41 = σ.1 0 41 ∧ τ.1 0 50 = σ.1 0 50 ∧ τ.1 0 51 = σ.1 0 51) → True → Q r τ) : fX12_failed N  Q σ := by
  unfold fX12_failed
  intro σ1 eσ1
  have hσ1 : K2 σ0 σ1 := by rw [eσ1]; exact hσ.u14 (Rg2.r_0_14 (leP (show (0 : Int32).toInt = 0 from by decide) (by omega)) (geP (show (0 : Int32).toInt = 0 from by decide) (by omega))) (Or.inl (by decide))
  intro v2 ev2
  intro σ3 eσ3
  have hσ3 : K2 σ0 σ3 := by rw [eσ3]; exact hσ1.u (Rg2.u_0_29 _) (fun q => absurd q.2 (by decide)) (fun q => absurd q.2 (by decide)) ⟨⟨by decide, by decide⟩, fun q => absurd q.2 (by decide)⟩
  intro v4 ev4
  intro σ5 eσ5
  have hσ5 : K2 σ0 σ5 := by rw [eσ5]; exact hσ3.u (Rg2.u_0_30 _) (fun q => absurd q.2 (by decide)) (fun q => absurd q.2 (by decide)) ⟨⟨by decide, by decide⟩, fun q => absurd q.2 (by decide)⟩
  exact hQ _ _ hσ5 (⟨(kq (a := 0) (b := 9) eσ5 (fun q => absurd q.2 (by decide))).trans ((kq (a := 0) (b := 9) eσ3 (fun q => absurd q.2 (by decide))).trans ((kq (a := 0) (b := 9) eσ1 (fun q => absurd q.2 (by decide))))), (kq (a := 0) (b := 35) eσ5 (fun q => absurd q.2 (by decide))).trans ((kq (a := 0) (b := 35) eσ3 (fun q => absurd q.2 (by decide))).trans ((kq (a := 0) (b := 35) eσ1 (fun q => absurd q.2 (by decide))))), (kq (a := 0) (b := 24) eσ5 (fun q => absurd q.2 (by decide))).trans ((kq (a := 0) (b := 24) eσ3 (fun q => absurd q.2 (by decide))).trans ((kq (a := 0) (b := 24) eσ1 (fun q => absurd q.2 (by decide))))), (kq (a := 0) (b := 36) eσ5 (fun q => absurd q.2 (by decide))).trans ((kq (a := 0) (b := 36) eσ3 (fun q => absurd q.2 (by decide))).trans ((kq (a := 0) (b := 36) eσ1 (fun q => absurd q.2 (by decide))))), (kq (a := 0) (b := 41) eσ5 (fun q => absurd q.2 (by decide))).trans ((kq (a := 0) (b := 41) eσ3 (fun q => absurd q.2 (by decide))).trans ((kq (a := 0) (b := 41) eσ1 (fun q => absurd q.2 (by decide))))), (kq (a := 0) (b := 50) eσ5 (fun q => absurd q.2 (by decide))).trans ((kq (a := 0) (b := 50) eσ3 (fun q => absurd q.2 (by decide))).trans ((kq (a := 0) (b := 50) eσ1 (fun q => absurd q.2 (by decide))))), (kq (a := 0) (b := 51) eσ5 (fun q => absurd q.2 (by decide))).trans ((kq (a := 0) (b := 51) eσ3 (fun q => absurd q.2 (by decide))).trans ((kq (a := 0) (b := 51) eσ1 (fun q => absurd q.2 (by decide)))))⟩) trivial
set_option maxHeartbeats 4000000 in
theorem sX12_stop {N : Nat} (hN : 4294967400 ≤ N) {Q : Int32 → St → Prop} {σ0 σ : St} (hσ : K2 σ0 σ) (hQ : ∀ (r : Int32) (τ : St), K2 σ0 τ → (τ.1 0 9 = σ.1 0 9 ∧ τ.1 0 35 = σ.1 0 35 ∧ τ.1 0 24 = σ.1 0 24 ∧ τ.1 0 36 = σ.1 0 36 ∧ τ.1 0 41 = σ.1 0 41 ∧ τ.1 0 50 = σ.1 0 50 ∧ τ.1 0 51 = σ.1 0 51) → True → Q r τ) : fX12_stop N  Q σ := by
  unfold fX12_stop
  intro v1 ev1
  intro σ2 eσ2
  have hσ2 : K2 σ0 σ2 := by rw [eσ2]; exact hσ.u14 (Rg2.r_0_14 (leP (show (0 : Int32).toInt = 0 from by decide) (by omega)) (geP (show (0 : Int32).toInt = 0 from by decide) (by omega))) (Or.inl (by decide))
  exact hQ _ _ hσ2 (⟨(kq (a := 0) (b := 9) eσ2 (fun q => absurd q.2 (by decide))), (kq (a := 0) (b := 35) eσ2 (fun q => absurd q.2 (by decide))), (kq (a := 0) (b := 24) eσ2 (fun q => absurd q.2 (by decide))), (kq (a := 0) (b := 36) eσ2 (fun q => absurd q.2 (by decide))), (kq (a := 0) (b := 41) eσ2 (fun q => absurd q.2 (by decide))), (kq (a := 0) (b := 50) eσ2 (fun q => absurd q.2 (by decide))), (kq (a := 0) (b := 51) eσ2 (fun q => absurd q.2 (by decide)))⟩) trivial
set_option maxHeartbeats 4000000 in
theorem sX12_jobs {N : Nat} (hN : 4294967400 ≤ N) {Q : Int32 → St → Prop} {σ0 σ : St} (hσ : K2 σ0 σ) (hQ : ∀ r : Int32, True → Q r σ) : fX12_jobs N  Q σ := by
  unfold fX12_jobs
  exact hQ _ trivial
set_option maxHeartbeats 4000000 in
theorem sX12_job {N : Nat} (hN : 4294967400 ≤ N) {x1 : Int32} {x2 : Int32} {Q : Int32 → St → Prop} {σ0 σ : St} (hσ : K2 σ0 σ) (hQ : ∀ r : Int32, True → Q r σ) : fX12_job N x1 x2 Q σ := by
  unfold fX12_job
  try unfold fX12_in
  refine ⟨fun c1 => ?_, fun c1 => ?_⟩
  · have f2 := tB x1
    first | have f3 := (ltE64 (i2lE (rfl : x1.toInt = x1.toInt)) (show (0 : Int64).toInt = 0 from by decide)).mp c1 | skip
    try dsimp only
    refine ⟨fun c4 => ?_, fun c4 => ?_⟩
    · first | have f5 := (eqE (show (0 : Int32).toInt = 0 from by decide) (show (0 : Int32).toInt = 0 from by decide)).mp c4 | skip
      exact hQ _ trivial
    · first | have f6 := (noteqE (show (0 : Int32).toInt = 0 from by decide) (show (0 : Int32).toInt = 0 from by decide)).mp c4 | skip
      refine ⟨fun c7 => ?_, fun c7 => ?_⟩
      · have f8 := tB x2
        first | have f9 := (eqE (rfl : x2.toInt = x2.toInt) (show (0 : Int32).toInt = 0 from by decide)).mp c7 | skip
        have g11 : vp_in x1 40 := inE (rfl : x1.toInt = x1.toInt) (by omega) (by omega)
        refine ⟨g11, ?_⟩
        exact hQ _ trivial
      · have f12 := tB x2
        first | have f13 := (noteqE (rfl : x2.toInt = x2.toInt) (show (0 : Int32).toInt = 0 from by decide)).mp c7 | skip
        refine ⟨fun c14 => ?_, fun c14 => ?_⟩
        · first | have f16 := (eqE (rfl : x2.toInt = x2.toInt) (show (1 : Int32).toInt = 1 from by decide)).mp c14 | skip
          have g18 : vp_in x1 40 := inE (rfl : x1.toInt = x1.toInt) (by omega) (by omega)
          refine ⟨g18, ?_⟩
          exact hQ _ trivial
        · first | have f20 := (noteqE (rfl : x2.toInt = x2.toInt) (show (1 : Int32).toInt = 1 from by decide)).mp c14 | skip
          refine ⟨fun c21 => ?_, fun c21 => ?_⟩
          · first | have f23 := (eqE (rfl : x2.toInt = x2.toInt) (show (2 : Int32).toInt = 2 from by decide)).mp c21 | skip
            have g25 : vp_in x1 40 := inE (rfl : x1.toInt = x1.toInt) (by omega) (by omega)
            refine ⟨g25, ?_⟩
            exact hQ _ trivial
          · first | have f27 := (noteqE (rfl : x2.toInt = x2.toInt) (show (2 : Int32).toInt = 2 from by decide)).mp c21 | skip
            refine ⟨fun c28 => ?_, fun c28 => ?_⟩
            · first | have f30 := (eqE (rfl : x2.toInt = x2.toInt) (show (3 : Int32).toInt = 3 from by decide)).mp c28 | skip
              have g32 : vp_in x1 40 := inE (rfl : x1.toInt = x1.toInt) (by omega) (by omega)
              refine ⟨g32, ?_⟩
              exact hQ _ trivial
            · first | have f34 := (noteqE (rfl : x2.toInt = x2.toInt) (show (3 : Int32).toInt = 3 from by decide)).mp c28 | skip
              refine ⟨fun c35 => ?_, fun c35 => ?_⟩
              · first | have f37 := (eqE (rfl : x2.toInt = x2.toInt) (show (4 : Int32).toInt = 4 from by decide)).mp c35 | skip
                have g39 : vp_in x1 40 := inE (rfl : x1.toInt = x1.toInt) (by omega) (by omega)
                refine ⟨g39, ?_⟩
                refine ⟨fun c40 => ?_, fun c40 => ?_⟩
                · have f41 := tB (σ.1 6 x1.toNatClampNeg)
                  first | have f42 := (eqE (rfl : (σ.1 6 x1.toNatClampNeg).toInt = (σ.1 6 x1.toNatClampNeg).toInt) (show (3 : Int32).toInt = 3 from by decide)).mp c40 | skip
                  have g44 : vp_in x1 40 := inE (rfl : x1.toInt = x1.toInt) (by omega) (by omega)
                  refine ⟨g44, ?_⟩
                  refine ⟨fun c45 => ?_, fun c45 => ?_⟩
                  · have f46 := tB (σ.1 11 x1.toNatClampNeg)
                    first | have f47 := (eqE (rfl : (σ.1 11 x1.toNatClampNeg).toInt = (σ.1 11 x1.toNatClampNeg).toInt) (show (0 : Int32).toInt = 0 from by decide)).mp c45 | skip
                    have g49 : vp_in x1 40 := inE (rfl : x1.toInt = x1.toInt) (by omega) (by omega)
                    refine ⟨g49, ?_⟩
                    exact hQ _ trivial
                  · have f50 := tB (σ.1 11 x1.toNatClampNeg)
                    first | have f51 := (noteqE (rfl : (σ.1 11 x1.toNatClampNeg).toInt = (σ.1 11 x1.toNatClampNeg).toInt) (show (0 : Int32).toInt = 0 from by decide)).mp c45 | skip
                    exact hQ _ trivial
                · have f52 := tB (σ.1 6 x1.toNatClampNeg)
                  first | have f53 := (noteqE (rfl : (σ.1 6 x1.toNatClampNeg).toInt = (σ.1 6 x1.toNatClampNeg).toInt) (show (3 : Int32).toInt = 3 from by decide)).mp c40 | skip
                  exact hQ _ trivial
              · first | have f55 := (noteqE (rfl : x2.toInt = x2.toInt) (show (4 : Int32).toInt = 4 from by decide)).mp c35 | skip
                have g57 : vp_in x1 40 := inE (rfl : x1.toInt = x1.toInt) (by omega) (by omega)
                refine ⟨g57, ?_⟩
                try unfold fX12_in
                refine ⟨fun c58 => ?_, fun c58 => ?_⟩
                · first | have f60 := (ltE64 (i2lE (rfl : x2.toInt = x2.toInt)) (show (10 : Int64).toInt = 10 from by decide)).mp c58 | skip
                  try dsimp only
                  refine ⟨fun c61 => ?_, fun c61 => ?_⟩
                  · first | have f62 := (eqE (show (0 : Int32).toInt = 0 from by decide) (show (0 : Int32).toInt = 0 from by decide)).mp c61 | skip
                    exact hQ _ trivial
                  · first | have f63 := (noteqE (show (0 : Int32).toInt = 0 from by decide) (show (0 : Int32).toInt = 0 from by decide)).mp c61 | skip
                    have g66 : vp_in (((8 * x1) + x2) - 10) 320 := inE (sOkE (aOkE (mOkE (show (8 : Int32).toInt = 8 from by decide) (rfl : x1.toInt = x1.toInt) (by omega) (by omega)) (rfl : x2.toInt = x2.toInt) (by omega) (by omega)) (show (10 : Int32).toInt = 10 from by decide) (by omega) (by omega)) (by omega) (by omega)
                    refine ⟨g66, ?_⟩
                    exact hQ _ trivial
                · first | have f68 := (notltE64 (i2lE (rfl : x2.toInt = x2.toInt)) (show (10 : Int64).toInt = 10 from by decide)).mp c58 | skip
                  refine ⟨fun c69 => ?_, fun c69 => ?_⟩
                  · have f70 := K2.ga_9 hσ x1.toNatClampNeg
                    first | have f72 := (ltE64 (aOkE64 (show (9 : Int64).toInt = 9 from by decide) (i2lE (rfl : (σ.1 9 x1.toNatClampNeg).toInt = (σ.1 9 x1.toNatClampNeg).toInt)) (by omega) (by omega)) (i2lE (rfl : x2.toInt = x2.toInt))).mp c69 | skip
                    try dsimp only
                    refine ⟨fun c73 => ?_, fun c73 => ?_⟩
                    · first | have f74 := (eqE (show (0 : Int32).toInt = 0 from by decide) (show (0 : Int32).toInt = 0 from by decide)).mp c73 | skip
                      exact hQ _ trivial
                    · first | have f75 := (noteqE (show (0 : Int32).toInt = 0 from by decide) (show (0 : Int32).toInt = 0 from by decide)).mp c73 | skip
                      have g78 : vp_in (((8 * x1) + x2) - 10) 320 := inE (sOkE (aOkE (mOkE (show (8 : Int32).toInt = 8 from by decide) (rfl : x1.toInt = x1.toInt) (by omega) (by omega)) (rfl : x2.toInt = x2.toInt) (by omega) (by omega)) (show (10 : Int32).toInt = 10 from by decide) (by omega) (by omega)) (by omega) (by omega)
                      refine ⟨g78, ?_⟩
                      exact hQ _ trivial
                  · have f79 := K2.ga_9 hσ x1.toNatClampNeg
                    first | have f81 := (notltE64 (aOkE64 (show (9 : Int64).toInt = 9 from by decide) (i2lE (rfl : (σ.1 9 x1.toNatClampNeg).toInt = (σ.1 9 x1.toNatClampNeg).toInt)) (by omega) (by omega)) (i2lE (rfl : x2.toInt = x2.toInt))).mp c69 | skip
                    try dsimp only
                    refine ⟨fun c82 => ?_, fun c82 => ?_⟩
                    · first | have f83 := (eqE (show (1 : Int32).toInt = 1 from by decide) (show (0 : Int32).toInt = 0 from by decide)).mp c82 | skip
                      exact hQ _ trivial
                    · first | have f84 := (noteqE (show (1 : Int32).toInt = 1 from by decide) (show (0 : Int32).toInt = 0 from by decide)).mp c82 | skip
                      have g87 : vp_in (((8 * x1) + x2) - 10) 320 := inE (sOkE (aOkE (mOkE (show (8 : Int32).toInt = 8 from by decide) (rfl : x1.toInt = x1.toInt) (by omega) (by omega)) (rfl : x2.toInt = x2.toInt) (by omega) (by omega)) (show (10 : Int32).toInt = 10 from by decide) (by omega) (by omega)) (by omega) (by omega)
                      refine ⟨g87, ?_⟩
                      exact hQ _ trivial
  · have f88 := tB x1
    first | have f89 := (notltE64 (i2lE (rfl : x1.toInt = x1.toInt)) (show (0 : Int64).toInt = 0 from by decide)).mp c1 | skip
    refine ⟨fun c90 => ?_, fun c90 => ?_⟩
    · have f91 := K2.g_0_14 hσ
      first | have f93 := (ltE64 (i2lE (sOkE (rfl : (σ.1 0 14).toInt = (σ.1 0 14).toInt) (show (1 : Int32).toInt = 1 from by decide) (by omega) (by omega))) (i2lE (rfl : x1.toInt = x1.toInt))).mp c90 | skip
      try dsimp only
      refine ⟨fun c94 => ?_, fun c94 => ?_⟩
      · first | have f95 := (eqE (show (0 : Int32).toInt = 0 from by decide) (show (0 : Int32).toInt = 0 from by decide)).mp c94 | skip
        exact hQ _ trivial
      · first | have f96 := (noteqE (show (0 : Int32).toInt = 0 from by decide) (show (0 : Int32).toInt = 0 from by decide)).mp c94 | skip
        refine ⟨fun c97 => ?_, fun c97 => ?_⟩
        · have f98 := tB x2
          first | have f99 := (eqE (rfl : x2.toInt = x2.toInt) (show (0 : Int32).toInt = 0 from by decide)).mp c97 | skip
          have g101 : vp_in x1 40 := inE (rfl : x1.toInt = x1.toInt) (by omega) (by omega)
          refine ⟨g101, ?_⟩
          exact hQ _ trivial
        · have f102 := tB x2
          first | have f103 := (noteqE (rfl : x2.toInt = x2.toInt) (show (0 : Int32).toInt = 0 from by decide)).mp c97 | skip
          refine ⟨fun c104 => ?_, fun c104 => ?_⟩
          · first | have f106 := (eqE (rfl : x2.toInt = x2.toInt) (show (1 : Int32).toInt = 1 from by decide)).mp c104 | skip
            have g108 : vp_in x1 40 := inE (rfl : x1.toInt = x1.toInt) (by omega) (by omega)
            refine ⟨g108, ?_⟩
            exact hQ _ trivial
          · first | have f110 := (noteqE (rfl : x2.toInt = x2.toInt) (show (1 : Int32).toInt = 1 from by decide)).mp c104 | skip
            refine ⟨fun c111 => ?_, fun c111 => ?_⟩
            · first | have f113 := (eqE (rfl : x2.toInt = x2.toInt) (show (2 : Int32).toInt = 2 from by decide)).mp c111 | skip
              have g115 : vp_in x1 40 := inE (rfl : x1.toInt = x1.toInt) (by omega) (by omega)
              refine ⟨g115, ?_⟩
              exact hQ _ trivial
            · first | have f117 := (noteqE (rfl : x2.toInt = x2.toInt) (show (2 : Int32).toInt = 2 from by decide)).mp c111 | skip
              refine ⟨fun c118 => ?_, fun c118 => ?_⟩
              · first | have f120 := (eqE (rfl : x2.toInt = x2.toInt) (show (3 : Int32).toInt = 3 from by decide)).mp c118 | skip
                have g122 : vp_in x1 40 := inE (rfl : x1.toInt = x1.toInt) (by omega) (by omega)
                refine ⟨g122, ?_⟩
                exact hQ _ trivial
              · first | have f124 := (noteqE (rfl : x2.toInt = x2.toInt) (show (3 : Int32).toInt = 3 from by decide)).mp c118 | skip
                refine ⟨fun c125 => ?_, fun c125 => ?_⟩
                · first | have f127 := (eqE (rfl : x2.toInt = x2.toInt) (show (4 : Int32).toInt = 4 from by decide)).mp c125 | skip
                  have g129 : vp_in x1 40 := inE (rfl : x1.toInt = x1.toInt) (by omega) (by omega)
                  refine ⟨g129, ?_⟩
                  refine ⟨fun c130 => ?_, fun c130 => ?_⟩
                  · have f131 := tB (σ.1 6 x1.toNatClampNeg)
                    first | have f132 := (eqE (rfl : (σ.1 6 x1.toNatClampNeg).toInt = (σ.1 6 x1.toNatClampNeg).toInt) (show (3 : Int32).toInt = 3 from by decide)).mp c130 | skip
                    have g134 : vp_in x1 40 := inE (rfl : x1.toInt = x1.toInt) (by omega) (by omega)
                    refine ⟨g134, ?_⟩
                    refine ⟨fun c135 => ?_, fun c135 => ?_⟩
                    · have f136 := tB (σ.1 11 x1.toNatClampNeg)
                      first | have f137 := (eqE (rfl : (σ.1 11 x1.toNatClampNeg).toInt = (σ.1 11 x1.toNatClampNeg).toInt) (show (0 : Int32).toInt = 0 from by decide)).mp c135 | skip
                      have g139 : vp_in x1 40 := inE (rfl : x1.toInt = x1.toInt) (by omega) (by omega)
                      refine ⟨g139, ?_⟩
                      exact hQ _ trivial
                    · have f140 := tB (σ.1 11 x1.toNatClampNeg)
                      first | have f141 := (noteqE (rfl : (σ.1 11 x1.toNatClampNeg).toInt = (σ.1 11 x1.toNatClampNeg).toInt) (show (0 : Int32).toInt = 0 from by decide)).mp c135 | skip
                      exact hQ _ trivial
                  · have f142 := tB (σ.1 6 x1.toNatClampNeg)
                    first | have f143 := (noteqE (rfl : (σ.1 6 x1.toNatClampNeg).toInt = (σ.1 6 x1.toNatClampNeg).toInt) (show (3 : Int32).toInt = 3 from by decide)).mp c130 | skip
                    exact hQ _ trivial
                · first | have f145 := (noteqE (rfl : x2.toInt = x2.toInt) (show (4 : Int32).toInt = 4 from by decide)).mp c125 | skip
                  have g147 : vp_in x1 40 := inE (rfl : x1.toInt = x1.toInt) (by omega) (by omega)
                  refine ⟨g147, ?_⟩
                  try unfold fX12_in
                  refine ⟨fun c148 => ?_, fun c148 => ?_⟩
                  · first | have f150 := (ltE64 (i2lE (rfl : x2.toInt = x2.toInt)) (show (10 : Int64).toInt = 10 from by decide)).mp c148 | skip
                    try dsimp only
                    refine ⟨fun c151 => ?_, fun c151 => ?_⟩
                    · first | have f152 := (eqE (show (0 : Int32).toInt = 0 from by decide) (show (0 : Int32).toInt = 0 from by decide)).mp c151 | skip
                      exact hQ _ trivial
                    · first | have f153 := (noteqE (show (0 : Int32).toInt = 0 from by decide) (show (0 : Int32).toInt = 0 from by decide)).mp c151 | skip
                      have g156 : vp_in (((8 * x1) + x2) - 10) 320 := inE (sOkE (aOkE (mOkE (show (8 : Int32).toInt = 8 from by decide) (rfl : x1.toInt = x1.toInt) (by omega) (by omega)) (rfl : x2.toInt = x2.toInt) (by omega) (by omega)) (show (10 : Int32).toInt = 10 from by decide) (by omega) (by omega)) (by omega) (by omega)
                      refine ⟨g156, ?_⟩
                      exact hQ _ trivial
                  · first | have f158 := (notltE64 (i2lE (rfl : x2.toInt = x2.toInt)) (show (10 : Int64).toInt = 10 from by decide)).mp c148 | skip
                    refine ⟨fun c159 => ?_, fun c159 => ?_⟩
                    · have f160 := K2.ga_9 hσ x1.toNatClampNeg
                      first | have f162 := (ltE64 (aOkE64 (show (9 : Int64).toInt = 9 from by decide) (i2lE (rfl : (σ.1 9 x1.toNatClampNeg).toInt = (σ.1 9 x1.toNatClampNeg).toInt)) (by omega) (by omega)) (i2lE (rfl : x2.toInt = x2.toInt))).mp c159 | skip
                      try dsimp only
                      refine ⟨fun c163 => ?_, fun c163 => ?_⟩
                      · first | have f164 := (eqE (show (0 : Int32).toInt = 0 from by decide) (show (0 : Int32).toInt = 0 from by decide)).mp c163 | skip
                        exact hQ _ trivial
                      · first | have f165 := (noteqE (show (0 : Int32).toInt = 0 from by decide) (show (0 : Int32).toInt = 0 from by decide)).mp c163 | skip
                        have g168 : vp_in (((8 * x1) + x2) - 10) 320 := inE (sOkE (aOkE (mOkE (show (8 : Int32).toInt = 8 from by decide) (rfl : x1.toInt = x1.toInt) (by omega) (by omega)) (rfl : x2.toInt = x2.toInt) (by omega) (by omega)) (show (10 : Int32).toInt = 10 from by decide) (by omega) (by omega)) (by omega) (by omega)
                        refine ⟨g168, ?_⟩
                        exact hQ _ trivial
                    · have f169 := K2.ga_9 hσ x1.toNatClampNeg
                      first | have f171 := (notltE64 (aOkE64 (show (9 : Int64).toInt = 9 from by decide) (i2lE (rfl : (σ.1 9 x1.toNatClampNeg).toInt = (σ.1 9 x1.toNatClampNeg).toInt)) (by omega) (by omega)) (i2lE (rfl : x2.toInt = x2.toInt))).mp c159 | skip
                      try dsimp only
                      refine ⟨fun c172 => ?_, fun c172 => ?_⟩
                      · first | have f173 := (eqE (show (1 : Int32).toInt = 1 from by decide) (show (0 : Int32).toInt = 0 from by decide)).mp c172 | skip
                        exact hQ _ trivial
                      · first | have f174 := (noteqE (show (1 : Int32).toInt = 1 from by decide) (show (0 : Int32).toInt = 0 from by decide)).mp c172 | skip
                        have g177 : vp_in (((8 * x1) + x2) - 10) 320 := inE (sOkE (aOkE (mOkE (show (8 : Int32).toInt = 8 from by decide) (rfl : x1.toInt = x1.toInt) (by omega) (by omega)) (rfl : x2.toInt = x2.toInt) (by omega) (by omega)) (show (10 : Int32).toInt = 10 from by decide) (by omega) (by omega)) (by omega) (by omega)
                        refine ⟨g177, ?_⟩
                        exact hQ _ trivial
    · have f178 := K2.g_0_14 hσ
      first | have f180 := (notltE64 (i2lE (sOkE (rfl : (σ.1 0 14).toInt = (σ.1 0 14).toInt) (show (1 : Int32).toInt = 1 from by decide) (by omega) (by omega))) (i2lE (rfl : x1.toInt = x1.toInt))).mp c90 | skip
      try dsimp only
      refine ⟨fun c181 => ?_, fun c181 => ?_⟩
      · first | have f182 := (eqE (show (1 : Int32).toInt = 1 from by decide) (show (0 : Int32).toInt = 0 from by decide)).mp c181 | skip
        exact hQ _ trivial
      · first | have f183 := (noteqE (show (1 : Int32).toInt = 1 from by decide) (show (0 : Int32).toInt = 0 from by decide)).mp c181 | skip
        refine ⟨fun c184 => ?_, fun c184 => ?_⟩
        · have f185 := tB x2
          first | have f186 := (eqE (rfl : x2.toInt = x2.toInt) (show (0 : Int32).toInt = 0 from by decide)).mp c184 | skip
          have g188 : vp_in x1 40 := inE (rfl : x1.toInt = x1.toInt) (by omega) (by omega)
          refine ⟨g188, ?_⟩
          exact hQ _ trivial
        · have f189 := tB x2
          first | have f190 := (noteqE (rfl : x2.toInt = x2.toInt) (show (0 : Int32).toInt = 0 from by decide)).mp c184 | skip
          refine ⟨fun c191 => ?_, fun c191 => ?_⟩
          · first | have f193 := (eqE (rfl : x2.toInt = x2.toInt) (show (1 : Int32).toInt = 1 from by decide)).mp c191 | skip
            have g195 : vp_in x1 40 := inE (rfl : x1.toInt = x1.toInt) (by omega) (by omega)
            refine ⟨g195, ?_⟩
            exact hQ _ trivial
          · first | have f197 := (noteqE (rfl : x2.toInt = x2.toInt) (show (1 : Int32).toInt = 1 from by decide)).mp c191 | skip
            refine ⟨fun c198 => ?_, fun c198 => ?_⟩
            · first | have f200 := (eqE (rfl : x2.toInt = x2.toInt) (show (2 : Int32).toInt = 2 from by decide)).mp c198 | skip
              have g202 : vp_in x1 40 := inE (rfl : x1.toInt = x1.toInt) (by omega) (by omega)
              refine ⟨g202, ?_⟩
              exact hQ _ trivial
            · first | have f204 := (noteqE (rfl : x2.toInt = x2.toInt) (show (2 : Int32).toInt = 2 from by decide)).mp c198 | skip
              refine ⟨fun c205 => ?_, fun c205 => ?_⟩
              · first | have f207 := (eqE (rfl : x2.toInt = x2.toInt) (show (3 : Int32).toInt = 3 from by decide)).mp c205 | skip
                have g209 : vp_in x1 40 := inE (rfl : x1.toInt = x1.toInt) (by omega) (by omega)
                refine ⟨g209, ?_⟩
                exact hQ _ trivial
              · first | have f211 := (noteqE (rfl : x2.toInt = x2.toInt) (show (3 : Int32).toInt = 3 from by decide)).mp c205 | skip
                refine ⟨fun c212 => ?_, fun c212 => ?_⟩
                · first | have f214 := (eqE (rfl : x2.toInt = x2.toInt) (show (4 : Int32).toInt = 4 from by decide)).mp c212 | skip
                  have g216 : vp_in x1 40 := inE (rfl : x1.toInt = x1.toInt) (by omega) (by omega)
                  refine ⟨g216, ?_⟩
                  refine ⟨fun c217 => ?_, fun c217 => ?_⟩
                  · have f218 := tB (σ.1 6 x1.toNatClampNeg)
                    first | have f219 := (eqE (rfl : (σ.1 6 x1.toNatClampNeg).toInt = (σ.1 6 x1.toNatClampNeg).toInt) (show (3 : Int32).toInt = 3 from by decide)).mp c217 | skip
                    have g221 : vp_in x1 40 := inE (rfl : x1.toInt = x1.toInt) (by omega) (by omega)
                    refine ⟨g221, ?_⟩
                    refine ⟨fun c222 => ?_, fun c222 => ?_⟩
                    · have f223 := tB (σ.1 11 x1.toNatClampNeg)
                      first | have f224 := (eqE (rfl : (σ.1 11 x1.toNatClampNeg).toInt = (σ.1 11 x1.toNatClampNeg).toInt) (show (0 : Int32).toInt = 0 from by decide)).mp c222 | skip
                      have g226 : vp_in x1 40 := inE (rfl : x1.toInt = x1.toInt) (by omega) (by omega)
                      refine ⟨g226, ?_⟩
                      exact hQ _ trivial
                    · have f227 := tB (σ.1 11 x1.toNatClampNeg)
                      first | have f228 := (noteqE (rfl : (σ.1 11 x1.toNatClampNeg).toInt = (σ.1 11 x1.toNatClampNeg).toInt) (show (0 : Int32).toInt = 0 from by decide)).mp c222 | skip
                      exact hQ _ trivial
                  · have f229 := tB (σ.1 6 x1.toNatClampNeg)
                    first | have f230 := (noteqE (rfl : (σ.1 6 x1.toNatClampNeg).toInt = (σ.1 6 x1.toNatClampNeg).toInt) (show (3 : Int32).toInt = 3 from by decide)).mp c217 | skip
                    exact hQ _ trivial
                · first | have f232 := (noteqE (rfl : x2.toInt = x2.toInt) (show (4 : Int32).toInt = 4 from by decide)).mp c212 | skip
                  have g234 : vp_in x1 40 := inE (rfl : x1.toInt = x1.toInt) (by omega) (by omega)
                  refine ⟨g234, ?_⟩
                  try unfold fX12_in
                  refine ⟨fun c235 => ?_, fun c235 => ?_⟩
                  · first | have f237 := (ltE64 (i2lE (rfl : x2.toInt = x2.toInt)) (show (10 : Int64).toInt = 10 from by decide)).mp c235 | skip
                    try dsimp only
                    refine ⟨fun c238 => ?_, fun c238 => ?_⟩
                    · first | have f239 := (eqE (show (0 : Int32).toInt = 0 from by decide) (show (0 : Int32).toInt = 0 from by decide)).mp c238 | skip
                      exact hQ _ trivial
                    · first | have f240 := (noteqE (show (0 : Int32).toInt = 0 from by decide) (show (0 : Int32).toInt = 0 from by decide)).mp c238 | skip
                      have g243 : vp_in (((8 * x1) + x2) - 10) 320 := inE (sOkE (aOkE (mOkE (show (8 : Int32).toInt = 8 from by decide) (rfl : x1.toInt = x1.toInt) (by omega) (by omega)) (rfl : x2.toInt = x2.toInt) (by omega) (by omega)) (show (10 : Int32).toInt = 10 from by decide) (by omega) (by omega)) (by omega) (by omega)
                      refine ⟨g243, ?_⟩
                      exact hQ _ trivial
                  · first | have f245 := (notltE64 (i2lE (rfl : x2.toInt = x2.toInt)) (show (10 : Int64).toInt = 10 from by decide)).mp c235 | skip
                    refine ⟨fun c246 => ?_, fun c246 => ?_⟩
                    · have f247 := K2.ga_9 hσ x1.toNatClampNeg
                      first | have f249 := (ltE64 (aOkE64 (show (9 : Int64).toInt = 9 from by decide) (i2lE (rfl : (σ.1 9 x1.toNatClampNeg).toInt = (σ.1 9 x1.toNatClampNeg).toInt)) (by omega) (by omega)) (i2lE (rfl : x2.toInt = x2.toInt))).mp c246 | skip
                      try dsimp only
                      refine ⟨fun c250 => ?_, fun c250 => ?_⟩
                      · first | have f251 := (eqE (show (0 : Int32).toInt = 0 from by decide) (show (0 : Int32).toInt = 0 from by decide)).mp c250 | skip
                        exact hQ _ trivial
                      · first | have f252 := (noteqE (show (0 : Int32).toInt = 0 from by decide) (show (0 : Int32).toInt = 0 from by decide)).mp c250 | skip
                        have g255 : vp_in (((8 * x1) + x2) - 10) 320 := inE (sOkE (aOkE (mOkE (show (8 : Int32).toInt = 8 from by decide) (rfl : x1.toInt = x1.toInt) (by omega) (by omega)) (rfl : x2.toInt = x2.toInt) (by omega) (by omega)) (show (10 : Int32).toInt = 10 from by decide) (by omega) (by omega)) (by omega) (by omega)
                        refine ⟨g255, ?_⟩
                        exact hQ _ trivial
                    · have f256 := K2.ga_9 hσ x1.toNatClampNeg
                      first | have f258 := (notltE64 (aOkE64 (show (9 : Int64).toInt = 9 from by decide) (i2lE (rfl : (σ.1 9 x1.toNatClampNeg).toInt = (σ.1 9 x1.toNatClampNeg).toInt)) (by omega) (by omega)) (i2lE (rfl : x2.toInt = x2.toInt))).mp c246 | skip
                      try dsimp only
                      refine ⟨fun c259 => ?_, fun c259 => ?_⟩
                      · first | have f260 := (eqE (show (1 : Int32).toInt = 1 from by decide) (show (0 : Int32).toInt = 0 from by decide)).mp c259 | skip
                        exact hQ _ trivial
                      · first | have f261 := (noteqE (show (1 : Int32).toInt = 1 from by decide) (show (0 : Int32).toInt = 0 from by decide)).mp c259 | skip
                        have g264 : vp_in (((8 * x1) + x2) - 10) 320 := inE (sOkE (aOkE (mOkE (show (8 : Int32).toInt = 8 from by decide) (rfl : x1.toInt = x1.toInt) (by omega) (by omega)) (rfl : x2.toInt = x2.toInt) (by omega) (by omega)) (show (10 : Int32).toInt = 10 from by decide) (by omega) (by omega)) (by omega) (by omega)
                        refine ⟨g264, ?_⟩
                        exact hQ _ trivial
set_option maxHeartbeats 4000000 in
theorem sX12_at {N : Nat} (hN : 4294967400 ≤ N) {x1 : Int32} {Q : Int32 → St → Prop} {σ0 σ : St} (hσ : K2 σ0 σ) (hQ : ∀ r : Int32, True → Q r σ) : fX12_at N x1 Q σ := by
  unfold fX12_at
  try unfold fX12_in
  refine ⟨fun c1 => ?_, fun c1 => ?_⟩
  · have f2 := tB x1
    first | have f3 := (ltE64 (i2lE (rfl : x1.toInt = x1.toInt)) (show (0 : Int64).toInt = 0 from by decide)).mp c1 | skip
    try dsimp only
    refine ⟨fun c4 => ?_, fun c4 => ?_⟩
    · first | have f5 := (eqE (show (0 : Int32).toInt = 0 from by decide) (show (0 : Int32).toInt = 0 from by decide)).mp c4 | skip
      exact hQ _ trivial
    · first | have f6 := (noteqE (show (0 : Int32).toInt = 0 from by decide) (show (0 : Int32).toInt = 0 from by decide)).mp c4 | skip
      have g8 : vp_in x1 1000 := inE (rfl : x1.toInt = x1.toInt) (by omega) (by omega)
      refine ⟨g8, ?_⟩
      exact hQ _ trivial
  · have f9 := tB x1
    first | have f10 := (notltE64 (i2lE (rfl : x1.toInt = x1.toInt)) (show (0 : Int64).toInt = 0 from by decide)).mp c1 | skip
    refine ⟨fun c11 => ?_, fun c11 => ?_⟩
    · have f12 := K2.g_0_24 hσ
      first | have f14 := (ltE64 (i2lE (sOkE (rfl : (σ.1 0 24).toInt = (σ.1 0 24).toInt) (show (1 : Int32).toInt = 1 from by decide) (by omega) (by omega))) (i2lE (rfl : x1.toInt = x1.toInt))).mp c11 | skip
      try dsimp only
      refine ⟨fun c15 => ?_, fun c15 => ?_⟩
      · first | have f16 := (eqE (show (0 : Int32).toInt = 0 from by decide) (show (0 : Int32).toInt = 0 from by decide)).mp c15 | skip
        exact hQ _ trivial
      · first | have f17 := (noteqE (show (0 : Int32).toInt = 0 from by decide) (show (0 : Int32).toInt = 0 from by decide)).mp c15 | skip
        have g19 : vp_in x1 1000 := inE (rfl : x1.toInt = x1.toInt) (by omega) (by omega)
        refine ⟨g19, ?_⟩
        exact hQ _ trivial
    · have f20 := K2.g_0_24 hσ
      first | have f22 := (notltE64 (i2lE (sOkE (rfl : (σ.1 0 24).toInt = (σ.1 0 24).toInt) (show (1 : Int32).toInt = 1 from by decide) (by omega) (by omega))) (i2lE (rfl : x1.toInt = x1.toInt))).mp c11 | skip
      try dsimp only
      refine ⟨fun c23 => ?_, fun c23 => ?_⟩
      · first | have f24 := (eqE (show (1 : Int32).toInt = 1 from by decide) (show (0 : Int32).toInt = 0 from by decide)).mp c23 | skip
        exact hQ _ trivial
      · first | have f25 := (noteqE (show (1 : Int32).toInt = 1 from by decide) (show (0 : Int32).toInt = 0 from by decide)).mp c23 | skip
        have g27 : vp_in x1 1000 := inE (rfl : x1.toInt = x1.toInt) (by omega) (by omega)
        refine ⟨g27, ?_⟩
        exact hQ _ trivial
set_option maxHeartbeats 4000000 in
theorem sX12_clear {N : Nat} (hN : 4294967400 ≤ N) {Q : Int32 → St → Prop} {σ0 σ : St} (hσ : K2 σ0 σ) (hQ : ∀ (r : Int32) (τ : St), K2 σ0 τ → (τ.1 0 14 = σ.1 0 14 ∧ τ.1 0 9 = σ.1 0 9 ∧ τ.1 0 35 = σ.1 0 35 ∧ τ.1 0 36 = σ.1 0 36 ∧ τ.1 0 41 = σ.1 0 41 ∧ τ.1 0 50 = σ.1 0 50 ∧ τ.1 0 51 = σ.1 0 51) → True → Q r τ) : fX12_clear N  Q σ := by
  unfold fX12_clear
  intro v1 ev1
  intro σ2 eσ2
  have hσ2 : K2 σ0 σ2 := by rw [eσ2]; exact hσ.u (Rg2.r_0_24 (leP (show (0 : Int32).toInt = 0 from by decide) (by omega)) (geP (show (0 : Int32).toInt = 0 from by decide) (by omega))) (fun q => absurd q.2 (by decide)) (fun q => absurd q.2 (by decide)) ⟨⟨by decide, by decide⟩, fun q => absurd q.2 (by decide)⟩
  exact hQ _ _ hσ2 (⟨(kq (a := 0) (b := 14) eσ2 (fun q => absurd q.2 (by decide))), (kq (a := 0) (b := 9) eσ2 (fun q => absurd q.2 (by decide))), (kq (a := 0) (b := 35) eσ2 (fun q => absurd q.2 (by decide))), (kq (a := 0) (b := 36) eσ2 (fun q => absurd q.2 (by decide))), (kq (a := 0) (b := 41) eσ2 (fun q => absurd q.2 (by decide))), (kq (a := 0) (b := 50) eσ2 (fun q => absurd q.2 (by decide))), (kq (a := 0) (b := 51) eσ2 (fun q => absurd q.2 (by decide)))⟩) trivial
set_option maxHeartbeats 4000000 in
theorem sX12_told {N : Nat} (hN : 4294967400 ≤ N) {x1 : Int32} {Q : Int32 → St → Prop} {σ0 σ : St} (hσ : K2 σ0 σ) (hQ : ∀ r : Int32, True → Q r σ) : fX12_told N x1 Q σ := by
  unfold fX12_told
  refine ⟨fun c1 => ?_, fun c1 => ?_⟩
  · have f2 := tB x1
    first | have f3 := (eqE (rfl : x1.toInt = x1.toInt) (show (0 : Int32).toInt = 0 from by decide)).mp c1 | skip
    exact hQ _ trivial
  · have f4 := tB x1
    first | have f5 := (noteqE (rfl : x1.toInt = x1.toInt) (show (0 : Int32).toInt = 0 from by decide)).mp c1 | skip
    refine ⟨fun c6 => ?_, fun c6 => ?_⟩
    · first | have f8 := (eqE (rfl : x1.toInt = x1.toInt) (show (1 : Int32).toInt = 1 from by decide)).mp c6 | skip
      exact hQ _ trivial
    · first | have f10 := (noteqE (rfl : x1.toInt = x1.toInt) (show (1 : Int32).toInt = 1 from by decide)).mp c6 | skip
      refine ⟨fun c11 => ?_, fun c11 => ?_⟩
      · first | have f13 := (eqE (rfl : x1.toInt = x1.toInt) (show (2 : Int32).toInt = 2 from by decide)).mp c11 | skip
        exact hQ _ trivial
      · first | have f15 := (noteqE (rfl : x1.toInt = x1.toInt) (show (2 : Int32).toInt = 2 from by decide)).mp c11 | skip
        refine ⟨fun c16 => ?_, fun c16 => ?_⟩
        · first | have f18 := (eqE (rfl : x1.toInt = x1.toInt) (show (3 : Int32).toInt = 3 from by decide)).mp c16 | skip
          exact hQ _ trivial
        · first | have f20 := (noteqE (rfl : x1.toInt = x1.toInt) (show (3 : Int32).toInt = 3 from by decide)).mp c16 | skip
          refine ⟨fun c21 => ?_, fun c21 => ?_⟩
          · first | have f23 := (eqE (rfl : x1.toInt = x1.toInt) (show (4 : Int32).toInt = 4 from by decide)).mp c21 | skip
            exact hQ _ trivial
          · first | have f25 := (noteqE (rfl : x1.toInt = x1.toInt) (show (4 : Int32).toInt = 4 from by decide)).mp c21 | skip
            refine ⟨fun c26 => ?_, fun c26 => ?_⟩
            · first | have f28 := (eqE (rfl : x1.toInt = x1.toInt) (show (5 : Int32).toInt = 5 from by decide)).mp c26 | skip
              exact hQ _ trivial
            · first | have f30 := (noteqE (rfl : x1.toInt = x1.toInt) (show (5 : Int32).toInt = 5 from by decide)).mp c26 | skip
              refine ⟨fun c31 => ?_, fun c31 => ?_⟩
              · first | have f33 := (eqE (rfl : x1.toInt = x1.toInt) (show (6 : Int32).toInt = 6 from by decide)).mp c31 | skip
                exact hQ _ trivial
              · first | have f35 := (noteqE (rfl : x1.toInt = x1.toInt) (show (6 : Int32).toInt = 6 from by decide)).mp c31 | skip
                refine ⟨fun c36 => ?_, fun c36 => ?_⟩
                · first | have f38 := (eqE (rfl : x1.toInt = x1.toInt) (show (7 : Int32).toInt = 7 from by decide)).mp c36 | skip
                  exact hQ _ trivial
                · first | have f40 := (noteqE (rfl : x1.toInt = x1.toInt) (show (7 : Int32).toInt = 7 from by decide)).mp c36 | skip
                  refine ⟨fun c41 => ?_, fun c41 => ?_⟩
                  · first | have f43 := (eqE (rfl : x1.toInt = x1.toInt) (show (8 : Int32).toInt = 8 from by decide)).mp c41 | skip
                    exact hQ _ trivial
                  · first | have f45 := (noteqE (rfl : x1.toInt = x1.toInt) (show (8 : Int32).toInt = 8 from by decide)).mp c41 | skip
                    refine ⟨fun c46 => ?_, fun c46 => ?_⟩
                    · first | have f48 := (eqE (rfl : x1.toInt = x1.toInt) (show (9 : Int32).toInt = 9 from by decide)).mp c46 | skip
                      exact hQ _ trivial
                    · first | have f50 := (noteqE (rfl : x1.toInt = x1.toInt) (show (9 : Int32).toInt = 9 from by decide)).mp c46 | skip
                      refine ⟨fun c51 => ?_, fun c51 => ?_⟩
                      · first | have f53 := (eqE (rfl : x1.toInt = x1.toInt) (show (10 : Int32).toInt = 10 from by decide)).mp c51 | skip
                        exact hQ _ trivial
                      · first | have f55 := (noteqE (rfl : x1.toInt = x1.toInt) (show (10 : Int32).toInt = 10 from by decide)).mp c51 | skip
                        refine ⟨fun c56 => ?_, fun c56 => ?_⟩
                        · first | have f58 := (eqE (rfl : x1.toInt = x1.toInt) (show (11 : Int32).toInt = 11 from by decide)).mp c56 | skip
                          exact hQ _ trivial
                        · first | have f60 := (noteqE (rfl : x1.toInt = x1.toInt) (show (11 : Int32).toInt = 11 from by decide)).mp c56 | skip
                          refine ⟨fun c61 => ?_, fun c61 => ?_⟩
                          · first | have f63 := (eqE (rfl : x1.toInt = x1.toInt) (show (12 : Int32).toInt = 12 from by decide)).mp c61 | skip
                            exact hQ _ trivial
                          · first | have f65 := (noteqE (rfl : x1.toInt = x1.toInt) (show (12 : Int32).toInt = 12 from by decide)).mp c61 | skip
                            refine ⟨fun c66 => ?_, fun c66 => ?_⟩
                            · first | have f68 := (eqE (rfl : x1.toInt = x1.toInt) (show (13 : Int32).toInt = 13 from by decide)).mp c66 | skip
                              exact hQ _ trivial
                            · first | have f70 := (noteqE (rfl : x1.toInt = x1.toInt) (show (13 : Int32).toInt = 13 from by decide)).mp c66 | skip
                              refine ⟨fun c71 => ?_, fun c71 => ?_⟩
                              · first | have f73 := (eqE (rfl : x1.toInt = x1.toInt) (show (14 : Int32).toInt = 14 from by decide)).mp c71 | skip
                                exact hQ _ trivial
                              · first | have f75 := (noteqE (rfl : x1.toInt = x1.toInt) (show (14 : Int32).toInt = 14 from by decide)).mp c71 | skip
                                refine ⟨fun c76 => ?_, fun c76 => ?_⟩
                                · first | have f78 := (eqE (rfl : x1.toInt = x1.toInt) (show (15 : Int32).toInt = 15 from by decide)).mp c76 | skip
                                  exact hQ _ trivial
                                · first | have f80 := (noteqE (rfl : x1.toInt = x1.toInt) (show (15 : Int32).toInt = 15 from by decide)).mp c76 | skip
                                  refine ⟨fun c81 => ?_, fun c81 => ?_⟩
                                  · first | have f83 := (eqE (rfl : x1.toInt = x1.toInt) (show (16 : Int32).toInt = 16 from by decide)).mp c81 | skip
                                    exact hQ _ trivial
                                  · first | have f85 := (noteqE (rfl : x1.toInt = x1.toInt) (show (16 : Int32).toInt = 16 from by decide)).mp c81 | skip
                                    refine ⟨fun c86 => ?_, fun c86 => ?_⟩
                                    · first | have f88 := (eqE (rfl : x1.toInt = x1.toInt) (show (17 : Int32).toInt = 17 from by decide)).mp c86 | skip
                                      exact hQ _ trivial
                                    · first | have f90 := (noteqE (rfl : x1.toInt = x1.toInt) (show (17 : Int32).toInt = 17 from by decide)).mp c86 | skip
                                      exact hQ _ trivial
set_option maxHeartbeats 4000000 in
theorem sX12_sign {N : Nat} (hN : 4294967400 ≤ N) {x1 : Int32} {Q : Int32 → St → Prop} {σ0 σ : St} (hσ : K2 σ0 σ) (hQ : ∀ (r : Int32) (τ : St), K2 σ0 τ → (τ.1 0 14 = σ.1 0 14 ∧ τ.1 0 9 = σ.1 0 9 ∧ τ.1 0 35 = σ.1 0 35 ∧ τ.1 0 24 = σ.1 0 24 ∧ τ.1 0 36 = σ.1 0 36 ∧ τ.1 0 41 = σ.1 0 41 ∧ τ.1 0 50 = σ.1 0 50 ∧ τ.1 0 51 = σ.1 0 51) → True → Q r τ) : fX12_sign N x1 Q σ := by
  unfold fX12_sign
  refine ⟨fun c1 => ?_, fun c1 => ?_⟩
  · have f2 := K2.g_0_5 hσ
    first | have f3 := (eqE (rfl : (σ.1 0 5).toInt = (σ.1 0 5).toInt) (show (120 : Int32).toInt = 120 from by decide)).mp c1 | skip
    exact hQ _ _ hσ (⟨rfl, rfl, rfl, rfl, rfl, rfl, rfl, rfl⟩) trivial
  · have f4 := K2.g_0_5 hσ
    first | have f5 := (noteqE (rfl : (σ.1 0 5).toInt = (σ.1 0 5).toInt) (show (120 : Int32).toInt = 120 from by decide)).mp c1 | skip
    refine ⟨inE (rfl : (σ.1 0 5).toInt = (σ.1 0 5).toInt) (by omega) (by omega), ?_⟩
    intro σ7 eσ7
    have hσ7 : K2 σ0 σ7 := by rw [eσ7]; exact hσ.u (Rg2.ra_3 _ _) (fun q => absurd q.1 (by decide)) (fun q => absurd q.1 (by decide)) ⟨⟨by decide, by decide⟩, fun q => absurd q.1 (by decide)⟩
    intro v8 ev8
    intro σ9 eσ9
    have f10 := tB v8
    have f11 := K2.g_0_5 hσ7
    have q12 : σ7.1 0 5 = σ.1 0 5 := by rw [eσ7]; exact congrFun (u1_ne (by decide)) 5
    have f13 := congrArg Int32.toInt q12
    first | have f15 : v8.toInt = ((σ7.1 0 5).toInt + (1)) := (congrArg Int32.toInt ev8).trans (aOkE (rfl : (σ7.1 0 5).toInt = (σ7.1 0 5).toInt) (show (1 : Int32).toInt = 1 from by decide) (by omega) (by omega)) | skip
    have hσ9 : K2 σ0 σ9 := by rw [eσ9]; exact hσ7.u (Rg2.r_0_5 (leP (rfl : v8.toInt = v8.toInt) (by omega)) (geP (rfl : v8.toInt = v8.toInt) (by omega))) (fun q => absurd q.2 (by decide)) (fun q => absurd q.2 (by decide)) ⟨⟨by decide, by decide⟩, fun q => absurd q.2 (by decide)⟩
    exact hQ _ _ hσ9 (⟨(kq (a := 0) (b := 14) eσ9 (fun q => absurd q.2 (by decide))).trans ((kq (a := 0) (b := 14) eσ7 (fun q => absurd q.1 (by decide)))), (kq (a := 0) (b := 9) eσ9 (fun q => absurd q.2 (by decide))).trans ((kq (a := 0) (b := 9) eσ7 (fun q => absurd q.1 (by decide)))), (kq (a := 0) (b := 35) eσ9 (fun q => absurd q.2 (by decide))).trans ((kq (a := 0) (b := 35) eσ7 (fun q => absurd q.1 (by decide)))), (kq (a := 0) (b := 24) eσ9 (fun q => absurd q.2 (by decide))).trans ((kq (a := 0) (b := 24) eσ7 (fun q => absurd q.1 (by decide)))), (kq (a := 0) (b := 36) eσ9 (fun q => absurd q.2 (by decide))).trans ((kq (a := 0) (b := 36) eσ7 (fun q => absurd q.1 (by decide)))), (kq (a := 0) (b := 41) eσ9 (fun q => absurd q.2 (by decide))).trans ((kq (a := 0) (b := 41) eσ7 (fun q => absurd q.1 (by decide)))), (kq (a := 0) (b := 50) eσ9 (fun q => absurd q.2 (by decide))).trans ((kq (a := 0) (b := 50) eσ7 (fun q => absurd q.1 (by decide)))), (kq (a := 0) (b := 51) eσ9 (fun q => absurd q.2 (by decide))).trans ((kq (a := 0) (b := 51) eσ7 (fun q => absurd q.1 (by decide))))⟩) trivial
set_option maxHeartbeats 4000000 in
theorem sX12_signOf {N : Nat} (hN : 4294967400 ≤ N) {x1 : Int32} {x2 : Int32} {Q : Int32 → St → Prop} {σ0 σ : St} (hp1 : 0 ≤ x1.toInt ∧ x1.toInt ≤ 59) (hp2 : 0 ≤ x2.toInt ∧ x2.toInt ≤ 19) (hσ : K2 σ0 σ) (hQ : ∀ r : Int32, True → Q r σ) : fX12_signOf N x1 x2 Q σ := by
  unfold fX12_signOf
  have f1 := tB x1
  have g2 : vp_in x1 60 := inE (rfl : x1.toInt = x1.toInt) (by omega) (by omega)
  refine ⟨g2, ?_⟩
  refine ⟨fun c3 => ?_, fun c3 => ?_⟩
  · have f4 := tB (σ.1 16 x1.toNatClampNeg)
    first | have f5 := (ltE (rfl : (σ.1 16 x1.toNatClampNeg).toInt = (σ.1 16 x1.toNatClampNeg).toInt) (show (8 : Int32).toInt = 8 from by decide)).mp c3 | skip
    have f7 := tB x2
    have g8 : vp_in ((20 * x1) + x2) 1200 := inE (aOkE (mOkE (show (20 : Int32).toInt = 20 from by decide) (rfl : x1.toInt = x1.toInt) (by omega) (by omega)) (rfl : x2.toInt = x2.toInt) (by omega) (by omega)) (by omega) (by omega)
    refine ⟨g8, ?_⟩
    exact hQ _ trivial
  · have f9 := tB (σ.1 16 x1.toNatClampNeg)
    first | have f10 := (notltE (rfl : (σ.1 16 x1.toNatClampNeg).toInt = (σ.1 16 x1.toNatClampNeg).toInt) (show (8 : Int32).toInt = 8 from by decide)).mp c3 | skip
    exact hQ _ trivial
set_option maxHeartbeats 4000000 in
theorem sX12_sizeOf {N : Nat} (hN : 4294967400 ≤ N) {x1 : Int32} {Q : Int32 → St → Prop} {σ0 σ : St} (hp1 : 0 ≤ x1.toInt ∧ x1.toInt ≤ 59) (hσ : K2 σ0 σ) (hQ : ∀ r : Int32, True → Q r σ) : fX12_sizeOf N x1 Q σ := by
  unfold fX12_sizeOf
  have f1 := tB x1
  have g2 : vp_in x1 60 := inE (rfl : x1.toInt = x1.toInt) (by omega) (by omega)
  refine ⟨g2, ?_⟩
  intro v3 ev3
  have g5 : vp_in x1 60 := inE (rfl : x1.toInt = x1.toInt) (by omega) (by omega)
  refine ⟨g5, ?_⟩
  intro v6 ev6
  refine ⟨fun c7 => ?_, fun c7 => ?_⟩
  · have f8 := tB v6
    have f9 := tB (σ.1 16 x1.toNatClampNeg)
    first | have f10 : v6.toInt = (σ.1 16 x1.toNatClampNeg).toInt := (congrArg Int32.toInt ev6).trans (rfl : (σ.1 16 x1.toNatClampNeg).toInt = (σ.1 16 x1.toNatClampNeg).toInt) | skip
    first | have f11 := (eqE (rfl : v6.toInt = v6.toInt) (show (2 : Int32).toInt = 2 from by decide)).mp c7 | skip
    exact hQ _ trivial
  · have f12 := tB v6
    have f13 := tB (σ.1 16 x1.toNatClampNeg)
    first | have f14 : v6.toInt = (σ.1 16 x1.toNatClampNeg).toInt := (congrArg Int32.toInt ev6).trans (rfl : (σ.1 16 x1.toNatClampNeg).toInt = (σ.1 16 x1.toNatClampNeg).toInt) | skip
    first | have f15 := (noteqE (rfl : v6.toInt = v6.toInt) (show (2 : Int32).toInt = 2 from by decide)).mp c7 | skip
    refine ⟨fun c16 => ?_, fun c16 => ?_⟩
    · first | have f18 := (eqE (rfl : v6.toInt = v6.toInt) (show (3 : Int32).toInt = 3 from by decide)).mp c16 | skip
      exact hQ _ trivial
    · first | have f20 := (noteqE (rfl : v6.toInt = v6.toInt) (show (3 : Int32).toInt = 3 from by decide)).mp c16 | skip
      refine ⟨fun c21 => ?_, fun c21 => ?_⟩
      · first | have f23 := (eqE (rfl : v6.toInt = v6.toInt) (show (5 : Int32).toInt = 5 from by decide)).mp c21 | skip
        exact hQ _ trivial
      · first | have f25 := (noteqE (rfl : v6.toInt = v6.toInt) (show (5 : Int32).toInt = 5 from by decide)).mp c21 | skip
        exact hQ _ trivial
set_option maxHeartbeats 4000000 in
theorem sX12_tellFour {N : Nat} (hN : 4294967400 ≤ N) {x1 : Int32} {x2 : Int32} {Q : St → Prop} {σ0 σ : St} (hp1 : 0 ≤ x1.toInt ∧ x1.toInt ≤ 4092) (hσ : K2 σ0 σ) (hQ : ∀ τ : St, K2 σ0 τ → (τ.1 0 14 = σ.1 0 14 ∧ τ.1 0 9 = σ.1 0 9 ∧ τ.1 0 35 = σ.1 0 35 ∧ τ.1 0 24 = σ.1 0 24 ∧ τ.1 0 36 = σ.1 0 36 ∧ τ.1 0 41 = σ.1 0 41 ∧ τ.1 0 50 = σ.1 0 50 ∧ τ.1 0 51 = σ.1 0 51) → Q τ) : fX12_tellFour N x1 x2 Q σ := by
  unfold fX12_tellFour
  have f2 := tB x1
  have f3 := tB x2
  refine lo1_i (fun (y1 : Int32) (ω : St) => K2 σ0 ω ∧ ω.1 0 14 = σ.1 0 14 ∧ ω.1 0 9 = σ.1 0 9 ∧ ω.1 0 35 = σ.1 0 35 ∧ ω.1 0 24 = σ.1 0 24 ∧ ω.1 0 36 = σ.1 0 36 ∧ ω.1 0 41 = σ.1 0 41 ∧ ω.1 0 50 = σ.1 0 50 ∧ ω.1 0 51 = σ.1 0 51 ∧ 0 ≤ y1.toInt) (fun (y1 : Int32) (ω : St) => (2147483648 - y1.toInt).toNat) ?_ N (0 : Int32) σ ⟨hσ, rfl, rfl, rfl, rfl, rfl, rfl, rfl, rfl, by first | decide | (have z0 : (0 : Int32).toInt = 0 := (by decide); omega)⟩ (by have z0 : (0 : Int32).toInt = 0 := (by decide); (try dsimp only); omega)
  intro rr4 y7 σ6 hIσ6 ih5
  obtain ⟨hσ6, k8, k9, k10, k11, k12, k13, k14, k15, i16⟩ := hIσ6
  unfold fX12_tellFour_l2
  have f17 := tB y7
  refine ⟨fun c18 => ?_, fun c18 => ?_⟩
  · first | have f20 := (leE (show (4 : Int32).toInt = 4 from by decide) (rfl : y7.toInt = y7.toInt)).mp c18 | skip
    exact hQ _ hσ6 (⟨k8, k9, k10, k11, k12, k13, k14, k15⟩)
  · first | have f22 := (notleE (show (4 : Int32).toInt = 4 from by decide) (rfl : y7.toInt = y7.toInt)).mp c18 | skip
    have f25 := tB (x2 >>> ((24 - (8 * y7)) &&& 31))
    refine sX12_tell hN ⟨leP (aOkE (rfl : x1.toInt = x1.toInt) (rfl : y7.toInt = y7.toInt) (by omega) (by omega)) (by omega), geP (aOkE (rfl : x1.toInt = x1.toInt) (rfl : y7.toInt = y7.toInt) (by omega) (by omega)) (by omega)⟩ hσ6 (fun σ26 hσ26 kk35 => ?_)
    obtain ⟨k27, k28, k29, k30, k31, k32, k33, k34⟩ := kk35
    intro v36 ev36
    have f37 := tB v36
    first | have f39 : v36.toInt = (y7.toInt + (1)) := (congrArg Int32.toInt ev36).trans (aOkE (rfl : y7.toInt = y7.toInt) (show (1 : Int32).toInt = 1 from by decide) (by omega) (by omega)) | skip
    exact ih5 v36 σ26 ⟨hσ26, k27.trans (k8), k28.trans (k9), k29.trans (k10), k30.trans (k11), k31.trans (k12), k32.trans (k13), k33.trans (k14), k34.trans (k15), by omega⟩ (by (try dsimp only); omega)
set_option maxHeartbeats 4000000 in
theorem sX12_bits {N : Nat} (hN : 4294967400 ≤ N) {x1 : Int32} {Q : Int32 → St → Prop} {σ0 σ : St} (hσ : K2 σ0 σ) (hQ : ∀ r : Int32, True → Q r σ) : fX12_bits N x1 Q σ := by
  unfold fX12_bits
  refine ⟨fun c1 => ?_, fun c1 => ?_⟩
  · have f2 := tB x1
    first | have f3 := (eqE (rfl : x1.toInt = x1.toInt) (show ((-1) : Int32).toInt = -1 from by decide)).mp c1 | skip
    exact hQ _ trivial
  · have f4 := tB x1
    first | have f5 := (noteqE (rfl : x1.toInt = x1.toInt) (show ((-1) : Int32).toInt = -1 from by decide)).mp c1 | skip
    try unfold fX12_in
    refine ⟨fun c6 => ?_, fun c6 => ?_⟩
    · first | have f8 := (ltE64 (i2lE (rfl : x1.toInt = x1.toInt)) (show (0 : Int64).toInt = 0 from by decide)).mp c6 | skip
      try dsimp only
      refine ⟨fun c9 => ?_, fun c9 => ?_⟩
      · first | have f10 := (eqE (show (0 : Int32).toInt = 0 from by decide) (show (0 : Int32).toInt = 0 from by decide)).mp c9 | skip
        exact hQ _ trivial
      · first | have f11 := (noteqE (show (0 : Int32).toInt = 0 from by decide) (show (0 : Int32).toInt = 0 from by decide)).mp c9 | skip
        have g13 : vp_in x1 60 := inE (rfl : x1.toInt = x1.toInt) (by omega) (by omega)
        refine ⟨g13, ?_⟩
        exact hQ _ trivial
    · first | have f15 := (notltE64 (i2lE (rfl : x1.toInt = x1.toInt)) (show (0 : Int64).toInt = 0 from by decide)).mp c6 | skip
      refine ⟨fun c16 => ?_, fun c16 => ?_⟩
      · have f17 := K2.g_0_36 hσ
        first | have f19 := (ltE64 (i2lE (sOkE (rfl : (σ.1 0 36).toInt = (σ.1 0 36).toInt) (show (1 : Int32).toInt = 1 from by decide) (by omega) (by omega))) (i2lE (rfl : x1.toInt = x1.toInt))).mp c16 | skip
        try dsimp only
        refine ⟨fun c20 => ?_, fun c20 => ?_⟩
        · first | have f21 := (eqE (show (0 : Int32).toInt = 0 from by decide) (show (0 : Int32).toInt = 0 from by decide)).mp c20 | skip
          exact hQ _ trivial
        · first | have f22 := (noteqE (show (0 : Int32).toInt = 0 from by decide) (show (0 : Int32).toInt = 0 from by decide)).mp c20 | skip
          have g24 : vp_in x1 60 := inE (rfl : x1.toInt = x1.toInt) (by omega) (by omega)
          refine ⟨g24, ?_⟩
          exact hQ _ trivial
      · have f25 := K2.g_0_36 hσ
        first | have f27 := (notltE64 (i2lE (sOkE (rfl : (σ.1 0 36).toInt = (σ.1 0 36).toInt) (show (1 : Int32).toInt = 1 from by decide) (by omega) (by omega))) (i2lE (rfl : x1.toInt = x1.toInt))).mp c16 | skip
        try dsimp only
        refine ⟨fun c28 => ?_, fun c28 => ?_⟩
        · first | have f29 := (eqE (show (1 : Int32).toInt = 1 from by decide) (show (0 : Int32).toInt = 0 from by decide)).mp c28 | skip
          exact hQ _ trivial
        · first | have f30 := (noteqE (show (1 : Int32).toInt = 1 from by decide) (show (0 : Int32).toInt = 0 from by decide)).mp c28 | skip
          have g32 : vp_in x1 60 := inE (rfl : x1.toInt = x1.toInt) (by omega) (by omega)
          refine ⟨g32, ?_⟩
          exact hQ _ trivial
