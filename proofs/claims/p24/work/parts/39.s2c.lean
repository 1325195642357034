set_option maxHeartbeats 4000000 in
theorem sX12_text {N : Nat} (hN : 4294967400 ≤ N) {Q : Int32 → St → Prop} {σ0 σ : St} (hσ : K2 σ0 σ) (hQ : ∀ (r : Int32) (τ : St), K2 σ0 τ → (τ.1 0 14 = σ.1 0 14 ∧ τ.1 0 9 = σ.1 0 9 ∧ τ.1 0 35 = σ.1 0 35 ∧ τ.1 0 24 = σ.1 0 24 ∧ τ.1 0 36 = σ.1 0 36 ∧ τ.1 0 50 = σ.1 0 50 ∧ τ.1 0 51 = σ.1 0 51) → True → Q r τ) : fX12_text N  Q σ := by
  unfold fX12_text
  intro v1 ev1
  intro σ2 eσ2
  have hσ2 : K2 σ0 σ2 := by rw [eσ2]; exact hσ.u (Rg2.r_0_5 (leP (show (0 : Int32).toInt = 0 from by decide) (by omega)) (geP (show (0 : Int32).toInt = 0 from by decide) (by omega))) (fun q => absurd q.2 (by decide)) (fun q => absurd q.2 (by decide)) ⟨⟨by decide, by decide⟩, fun q => absurd q.2 (by decide)⟩
  have f3 := tB v1
  have f4 := K2.g_0_5 hσ
  first | have f5 : v1.toInt = (σ.1 0 5).toInt := (congrArg Int32.toInt ev1).trans (rfl : (σ.1 0 5).toInt = (σ.1 0 5).toInt) | skip
  refine sX12_parted hN ⟨leP (show ((-1) : Int32).toInt = -1 from by decide) (by omega), geP (show ((-1) : Int32).toInt = -1 from by decide) (by omega)⟩ ⟨leP (rfl : v1.toInt = v1.toInt) (by omega), geP (rfl : v1.toInt = v1.toInt) (by omega)⟩ hσ2 (fun r16 σ6 hσ6 kk15 p17 => ?_)
  obtain ⟨k7, k8, k9, k10, k11, k12, k13, k14⟩ := kk15
  refine ⟨fun c18 => ?_, fun c18 => ?_⟩
  · have f19 := tB r16
    first | have f20 := (leE (show (0 : Int32).toInt = 0 from by decide) (rfl : r16.toInt = r16.toInt)).mp c18 | skip
    refine ⟨fun c21 => ?_, fun c21 => ?_⟩
    · have f22 := K2.g_0_41 hσ6
      have f23 := congrArg Int32.toInt k12
      have f24 := K2.g_0_41 hσ2
      have q25 : σ2.1 0 41 = σ.1 0 41 := by rw [eσ2, u1_at]; exact if_neg (by decide)
      have f26 := congrArg Int32.toInt q25
      have f27 := K2.g_0_41 hσ
      first | have f28 := (eqE (rfl : (σ6.1 0 41).toInt = (σ6.1 0 41).toInt) (show (20 : Int32).toInt = 20 from by decide)).mp c21 | skip
      exact hQ _ _ hσ6 (⟨k7.trans ((kq (a := 0) (b := 14) eσ2 (fun q => absurd q.2 (by decide)))), k8.trans ((kq (a := 0) (b := 9) eσ2 (fun q => absurd q.2 (by decide)))), k9.trans ((kq (a := 0) (b := 35) eσ2 (fun q => absurd q.2 (by decide)))), k10.trans ((kq (a := 0) (b := 24) eσ2 (fun q => absurd q.2 (by decide)))), k11.trans ((kq (a := 0) (b := 36) eσ2 (fun q => absurd q.2 (by decide)))), k13.trans ((kq (a := 0) (b := 50) eσ2 (fun q => absurd q.2 (by decide)))), k14.trans ((kq (a := 0) (b := 51) eσ2 (fun q => absurd q.2 (by decide))))⟩) trivial
    · have f29 := K2.g_0_41 hσ6
      have f30 := congrArg Int32.toInt k12
      have f31 := K2.g_0_41 hσ2
      have q32 : σ2.1 0 41 = σ.1 0 41 := by rw [eσ2, u1_at]; exact if_neg (by decide)
      have f33 := congrArg Int32.toInt q32
      have f34 := K2.g_0_41 hσ
      first | have f35 := (noteqE (rfl : (σ6.1 0 41).toInt = (σ6.1 0 41).toInt) (show (20 : Int32).toInt = 20 from by decide)).mp c21 | skip
      refine lo1_i (fun (y36 : Int32) (ω : St) => K2 σ0 ω ∧ ω.1 0 14 = σ6.1 0 14 ∧ ω.1 0 9 = σ6.1 0 9 ∧ ω.1 0 35 = σ6.1 0 35 ∧ ω.1 0 24 = σ6.1 0 24 ∧ ω.1 0 36 = σ6.1 0 36 ∧ ω.1 0 41 = σ6.1 0 41 ∧ ω.1 0 50 = σ6.1 0 50 ∧ ω.1 0 51 = σ6.1 0 51 ∧ 0 ≤ y36.toInt) (fun (y36 : Int32) (ω : St) => (2147483648 - y36.toInt).toNat) ?_ N (0 : Int32) σ6 ⟨hσ6, rfl, rfl, rfl, rfl, rfl, rfl, rfl, rfl, by first | decide | (have z0 : (0 : Int32).toInt = 0 := (by decide); omega)⟩ (by have z0 : (0 : Int32).toInt = 0 := (by decide); (try dsimp only); omega)
      intro rr38 y41 σ40 hIσ40 ih39
      obtain ⟨hσ40, k42, k43, k44, k45, k46, k47, k48, k49, i50⟩ := hIσ40
      unfold fX12_text_l36
      have f51 := tB y41
      refine ⟨fun c52 => ?_, fun c52 => ?_⟩
      · first | have f55 := (leE (rfl : v1.toInt = v1.toInt) (rfl : y41.toInt = y41.toInt)).mp c52 | skip
        have f56 := K2.g_0_41 hσ40
        have f57 := congrArg Int32.toInt k47
        refine ⟨inE (rfl : (σ40.1 0 41).toInt = (σ40.1 0 41).toInt) (by omega) (by omega), ?_⟩
        intro σ59 eσ59
        have hσ59 : K2 σ0 σ59 := by rw [eσ59]; exact hσ40.u (Rg2.ra_21 (leP (rfl : v1.toInt = v1.toInt) (by omega)) (geP (rfl : v1.toInt = v1.toInt) (by omega))) (fun q => absurd q.1 (by decide)) (fun q => absurd q.1 (by decide)) ⟨⟨by decide, by decide⟩, fun q => absurd q.1 (by decide)⟩
        have f61 := K2.g_0_41 hσ59
        have q62 : σ59.1 0 41 = σ40.1 0 41 := by rw [eσ59]; exact congrFun (u1_ne (by decide)) 41
        have f63 := congrArg Int32.toInt q62
        refine ⟨inE (rfl : (σ59.1 0 41).toInt = (σ59.1 0 41).toInt) (by omega) (by omega), ?_⟩
        intro σ65 eσ65
        have hσ65 : K2 σ0 σ65 := by rw [eσ65]; exact hσ59.u (Rg2.ra_22 _ _) (fun q => absurd q.1 (by decide)) (fun q => absurd q.1 (by decide)) ⟨⟨by decide, by decide⟩, fun q => absurd q.1 (by decide)⟩
        have f66 := K2.g_0_41 hσ65
        have q67 : σ65.1 0 41 = σ59.1 0 41 := by rw [eσ65]; exact congrFun (u1_ne (by decide)) 41
        have f68 := congrArg Int32.toInt q67
        refine ⟨inE (rfl : (σ65.1 0 41).toInt = (σ65.1 0 41).toInt) (by omega) (by omega), ?_⟩
        intro σ70 eσ70
        have hσ70 : K2 σ0 σ70 := by rw [eσ70]; exact hσ65.u (Rg2.ra_23 _ _) (fun q => absurd q.1 (by decide)) (fun q => absurd q.1 (by decide)) ⟨⟨by decide, by decide⟩, fun q => absurd q.1 (by decide)⟩
        intro v71 ev71
        intro σ72 eσ72
        have f73 := tB v71
        have f74 := K2.g_0_41 hσ70
        have q75 : σ70.1 0 41 = σ65.1 0 41 := by rw [eσ70]; exact congrFun (u1_ne (by decide)) 41
        have f76 := congrArg Int32.toInt q75
        first | have f78 : v71.toInt = ((σ70.1 0 41).toInt + (1)) := (congrArg Int32.toInt ev71).trans (aOkE (rfl : (σ70.1 0 41).toInt = (σ70.1 0 41).toInt) (show (1 : Int32).toInt = 1 from by decide) (by omega) (by omega)) | skip
        have hσ72 : K2 σ0 σ72 := by rw [eσ72]; exact hσ70.u (Rg2.r_0_41 (leP (rfl : v71.toInt = v71.toInt) (by omega)) (geP (rfl : v71.toInt = v71.toInt) (by omega))) (fun q => absurd q.2 (by decide)) (fun q => absurd q.2 (by decide)) ⟨⟨by decide, by decide⟩, fun q => absurd q.2 (by decide)⟩
        exact hQ _ _ hσ72 (⟨(kq (a := 0) (b := 14) eσ72 (fun q => absurd q.2 (by decide))).trans ((kq (a := 0) (b := 14) eσ70 (fun q => absurd q.1 (by decide))).trans ((kq (a := 0) (b := 14) eσ65 (fun q => absurd q.1 (by decide))).trans ((kq (a := 0) (b := 14) eσ59 (fun q => absurd q.1 (by decide))).trans (k42.trans (k7.trans ((kq (a := 0) (b := 14) eσ2 (fun q => absurd q.2 (by decide))))))))), (kq (a := 0) (b := 9) eσ72 (fun q => absurd q.2 (by decide))).trans ((kq (a := 0) (b := 9) eσ70 (fun q => absurd q.1 (by decide))).trans ((kq (a := 0) (b := 9) eσ65 (fun q => absurd q.1 (by decide))).trans ((kq (a := 0) (b := 9) eσ59 (fun q => absurd q.1 (by decide))).trans (k43.trans (k8.trans ((kq (a := 0) (b := 9) eσ2 (fun q => absurd q.2 (by decide))))))))), (kq (a := 0) (b := 35) eσ72 (fun q => absurd q.2 (by decide))).trans ((kq (a := 0) (b := 35) eσ70 (fun q => absurd q.1 (by decide))).trans ((kq (a := 0) (b := 35) eσ65 (fun q => absurd q.1 (by decide))).trans ((kq (a := 0) (b := 35) eσ59 (fun q => absurd q.1 (by decide))).trans (k44.trans (k9.trans ((kq (a := 0) (b := 35) eσ2 (fun q => absurd q.2 (by decide))))))))), (kq (a := 0) (b := 24) eσ72 (fun q => absurd q.2 (by decide))).trans ((kq (a := 0) (b := 24) eσ70 (fun q => absurd q.1 (by decide))).trans ((kq (a := 0) (b := 24) eσ65 (fun q => absurd q.1 (by decide))).trans ((kq (a := 0) (b := 24) eσ59 (fun q => absurd q.1 (by decide))).trans (k45.trans (k10.trans ((kq (a := 0) (b := 24) eσ2 (fun q => absurd q.2 (by decide))))))))), (kq (a := 0) (b := 36) eσ72 (fun q => absurd q.2 (by decide))).trans ((kq (a := 0) (b := 36) eσ70 (fun q => absurd q.1 (by decide))).trans ((kq (a := 0) (b := 36) eσ65 (fun q => absurd q.1 (by decide))).trans ((kq (a := 0) (b := 36) eσ59 (fun q => absurd q.1 (by decide))).trans (k46.trans (k11.trans ((kq (a := 0) (b := 36) eσ2 (fun q => absurd q.2 (by decide))))))))), (kq (a := 0) (b := 50) eσ72 (fun q => absurd q.2 (by decide))).trans ((kq (a := 0) (b := 50) eσ70 (fun q => absurd q.1 (by decide))).trans ((kq (a := 0) (b := 50) eσ65 (fun q => absurd q.1 (by decide))).trans ((kq (a := 0) (b := 50) eσ59 (fun q => absurd q.1 (by decide))).trans (k48.trans (k13.trans ((kq (a := 0) (b := 50) eσ2 (fun q => absurd q.2 (by decide))))))))), (kq (a := 0) (b := 51) eσ72 (fun q => absurd q.2 (by decide))).trans ((kq (a := 0) (b := 51) eσ70 (fun q => absurd q.1 (by decide))).trans ((kq (a := 0) (b := 51) eσ65 (fun q => absurd q.1 (by decide))).trans ((kq (a := 0) (b := 51) eσ59 (fun q => absurd q.1 (by decide))).trans (k49.trans (k14.trans ((kq (a := 0) (b := 51) eσ2 (fun q => absurd q.2 (by decide)))))))))⟩) trivial
      · first | have f81 := (notleE (rfl : v1.toInt = v1.toInt) (rfl : y41.toInt = y41.toInt)).mp c52 | skip
        have g83 : vp_in y41 120 := inE (rfl : y41.toInt = y41.toInt) (by omega) (by omega)
        refine ⟨g83, ?_⟩
        intro v84 ev84
        have f85 := K2.g_0_41 hσ40
        have f86 := congrArg Int32.toInt k47
        refine ⟨inE (aOkE (mOkE (show (120 : Int32).toInt = 120 from by decide) (rfl : (σ40.1 0 41).toInt = (σ40.1 0 41).toInt) (by omega) (by omega)) (rfl : y41.toInt = y41.toInt) (by omega) (by omega)) (by omega) (by omega), ?_⟩
        intro σ89 eσ89
        have hσ89 : K2 σ0 σ89 := by rw [eσ89]; exact hσ40.u (Rg2.ra_20 _ _) (fun q => absurd q.1 (by decide)) (fun q => absurd q.1 (by decide)) ⟨⟨by decide, by decide⟩, fun q => absurd q.1 (by decide)⟩
        intro v90 ev90
        have f91 := tB v90
        first | have f93 : v90.toInt = (y41.toInt + (1)) := (congrArg Int32.toInt ev90).trans (aOkE (rfl : y41.toInt = y41.toInt) (show (1 : Int32).toInt = 1 from by decide) (by omega) (by omega)) | skip
        exact ih39 v90 σ89 ⟨hσ89, (kq (a := 0) (b := 14) eσ89 (fun q => absurd q.1 (by decide))).trans (k42), (kq (a := 0) (b := 9) eσ89 (fun q => absurd q.1 (by decide))).trans (k43), (kq (a := 0) (b := 35) eσ89 (fun q => absurd q.1 (by decide))).trans (k44), (kq (a := 0) (b := 24) eσ89 (fun q => absurd q.1 (by decide))).trans (k45), (kq (a := 0) (b := 36) eσ89 (fun q => absurd q.1 (by decide))).trans (k46), (kq (a := 0) (b := 41) eσ89 (fun q => absurd q.1 (by decide))).trans (k47), (kq (a := 0) (b := 50) eσ89 (fun q => absurd q.1 (by decide))).trans (k48), (kq (a := 0) (b := 51) eσ89 (fun q => absurd q.1 (by decide))).trans (k49), by omega⟩ (by (try dsimp only); omega)
  · have f94 := tB r16
    first | have f95 := (notleE (show (0 : Int32).toInt = 0 from by decide) (rfl : r16.toInt = r16.toInt)).mp c18 | skip
    exact hQ _ _ hσ6 (⟨k7.trans ((kq (a := 0) (b := 14) eσ2 (fun q => absurd q.2 (by decide)))), k8.trans ((kq (a := 0) (b := 9) eσ2 (fun q => absurd q.2 (by decide)))), k9.trans ((kq (a := 0) (b := 35) eσ2 (fun q => absurd q.2 (by decide)))), k10.trans ((kq (a := 0) (b := 24) eσ2 (fun q => absurd q.2 (by decide)))), k11.trans ((kq (a := 0) (b := 36) eσ2 (fun q => absurd q.2 (by decide)))), k13.trans ((kq (a := 0) (b := 50) eσ2 (fun q => absurd q.2 (by decide)))), k14.trans ((kq (a := 0) (b := 51) eσ2 (fun q => absurd q.2 (by decide))))⟩) trivial
set_option maxHeartbeats 4000000 in
theorem sX12_laid {N : Nat} (hN : 4294967400 ≤ N) {x1 : Int32} {x2 : Int32} {Q : Int32 → St → Prop} {σ0 σ : St} (hσ : K2 σ0 σ) (hQ : ∀ (r : Int32) (τ : St), K2 σ0 τ → (τ.1 0 14 = σ.1 0 14 ∧ τ.1 0 9 = σ.1 0 9 ∧ τ.1 0 35 = σ.1 0 35 ∧ τ.1 0 24 = σ.1 0 24 ∧ τ.1 0 36 = σ.1 0 36 ∧ τ.1 0 41 = σ.1 0 41 ∧ τ.1 0 50 = σ.1 0 50 ∧ τ.1 0 51 = σ.1 0 51) → True → Q r τ) : fX12_laid N x1 x2 Q σ := by
  unfold fX12_laid
  try unfold fX12_in
  refine ⟨fun c1 => ?_, fun c1 => ?_⟩
  · have f2 := tB x1
    first | have f3 := (ltE64 (i2lE (rfl : x1.toInt = x1.toInt)) (show (0 : Int64).toInt = 0 from by decide)).mp c1 | skip
    try dsimp only
    refine ⟨fun c4 => ?_, fun c4 => ?_⟩
    · first | have f5 := (eqE (show (0 : Int32).toInt = 0 from by decide) (show (0 : Int32).toInt = 0 from by decide)).mp c4 | skip
      exact hQ _ _ hσ (⟨rfl, rfl, rfl, rfl, rfl, rfl, rfl, rfl⟩) trivial
    · first | have f6 := (noteqE (show (0 : Int32).toInt = 0 from by decide) (show (0 : Int32).toInt = 0 from by decide)).mp c4 | skip
      try unfold fX12_in
      refine ⟨fun c7 => ?_, fun c7 => ?_⟩
      · have f8 := tB x2
        first | have f9 := (ltE64 (i2lE (rfl : x2.toInt = x2.toInt)) (show (0 : Int64).toInt = 0 from by decide)).mp c7 | skip
        try dsimp only
        refine ⟨fun c10 => ?_, fun c10 => ?_⟩
        · first | have f11 := (eqE (show (0 : Int32).toInt = 0 from by decide) (show (0 : Int32).toInt = 0 from by decide)).mp c10 | skip
          exact hQ _ _ hσ (⟨rfl, rfl, rfl, rfl, rfl, rfl, rfl, rfl⟩) trivial
        · first | have f12 := (noteqE (show (0 : Int32).toInt = 0 from by decide) (show (0 : Int32).toInt = 0 from by decide)).mp c10 | skip
          refine ⟨fun c13 => ?_, fun c13 => ?_⟩
          · first | have f15 := (eqE (rfl : x2.toInt = x2.toInt) (show (0 : Int32).toInt = 0 from by decide)).mp c13 | skip
            have g17 : vp_in x1 20 := inE (rfl : x1.toInt = x1.toInt) (by omega) (by omega)
            refine ⟨g17, ?_⟩
            exact hQ _ _ hσ (⟨rfl, rfl, rfl, rfl, rfl, rfl, rfl, rfl⟩) trivial
          · first | have f19 := (noteqE (rfl : x2.toInt = x2.toInt) (show (0 : Int32).toInt = 0 from by decide)).mp c13 | skip
            refine ⟨fun c20 => ?_, fun c20 => ?_⟩
            · first | have f22 := (eqE (rfl : x2.toInt = x2.toInt) (show (1 : Int32).toInt = 1 from by decide)).mp c20 | skip
              have g24 : vp_in x1 20 := inE (rfl : x1.toInt = x1.toInt) (by omega) (by omega)
              refine ⟨g24, ?_⟩
              exact hQ _ _ hσ (⟨rfl, rfl, rfl, rfl, rfl, rfl, rfl, rfl⟩) trivial
            · first | have f26 := (noteqE (rfl : x2.toInt = x2.toInt) (show (1 : Int32).toInt = 1 from by decide)).mp c20 | skip
              have g28 : vp_in x1 20 := inE (rfl : x1.toInt = x1.toInt) (by omega) (by omega)
              refine ⟨g28, ?_⟩
              have f30 := K2.ga_21 hσ x1.toNatClampNeg
              refine sX12_parted hN ⟨leP (rfl : x1.toInt = x1.toInt) (by omega), geP (rfl : x1.toInt = x1.toInt) (by omega)⟩ ⟨leP (rfl : (σ.1 21 x1.toNatClampNeg).toInt = (σ.1 21 x1.toNatClampNeg).toInt) (by omega), geP (rfl : (σ.1 21 x1.toNatClampNeg).toInt = (σ.1 21 x1.toNatClampNeg).toInt) (by omega)⟩ hσ (fun r41 σ31 hσ31 kk40 p42 => ?_)
              obtain ⟨k32, k33, k34, k35, k36, k37, k38, k39⟩ := kk40
              exact hQ _ _ hσ31 (⟨k32, k33, k34, k35, k36, k37, k38, k39⟩) trivial
      · have f43 := tB x2
        first | have f44 := (notltE64 (i2lE (rfl : x2.toInt = x2.toInt)) (show (0 : Int64).toInt = 0 from by decide)).mp c7 | skip
        refine ⟨fun c45 => ?_, fun c45 => ?_⟩
        · first | have f47 := (ltE64 (show (2 : Int64).toInt = 2 from by decide) (i2lE (rfl : x2.toInt = x2.toInt))).mp c45 | skip
          try dsimp only
          refine ⟨fun c48 => ?_, fun c48 => ?_⟩
          · first | have f49 := (eqE (show (0 : Int32).toInt = 0 from by decide) (show (0 : Int32).toInt = 0 from by decide)).mp c48 | skip
            exact hQ _ _ hσ (⟨rfl, rfl, rfl, rfl, rfl, rfl, rfl, rfl⟩) trivial
          · first | have f50 := (noteqE (show (0 : Int32).toInt = 0 from by decide) (show (0 : Int32).toInt = 0 from by decide)).mp c48 | skip
            refine ⟨fun c51 => ?_, fun c51 => ?_⟩
            · first | have f53 := (eqE (rfl : x2.toInt = x2.toInt) (show (0 : Int32).toInt = 0 from by decide)).mp c51 | skip
              have g55 : vp_in x1 20 := inE (rfl : x1.toInt = x1.toInt) (by omega) (by omega)
              refine ⟨g55, ?_⟩
              exact hQ _ _ hσ (⟨rfl, rfl, rfl, rfl, rfl, rfl, rfl, rfl⟩) trivial
            · first | have f57 := (noteqE (rfl : x2.toInt = x2.toInt) (show (0 : Int32).toInt = 0 from by decide)).mp c51 | skip
              refine ⟨fun c58 => ?_, fun c58 => ?_⟩
              · first | have f60 := (eqE (rfl : x2.toInt = x2.toInt) (show (1 : Int32).toInt = 1 from by decide)).mp c58 | skip
                have g62 : vp_in x1 20 := inE (rfl : x1.toInt = x1.toInt) (by omega) (by omega)
                refine ⟨g62, ?_⟩
                exact hQ _ _ hσ (⟨rfl, rfl, rfl, rfl, rfl, rfl, rfl, rfl⟩) trivial
              · first | have f64 := (noteqE (rfl : x2.toInt = x2.toInt) (show (1 : Int32).toInt = 1 from by decide)).mp c58 | skip
                have g66 : vp_in x1 20 := inE (rfl : x1.toInt = x1.toInt) (by omega) (by omega)
                refine ⟨g66, ?_⟩
                have f68 := K2.ga_21 hσ x1.toNatClampNeg
                refine sX12_parted hN ⟨leP (rfl : x1.toInt = x1.toInt) (by omega), geP (rfl : x1.toInt = x1.toInt) (by omega)⟩ ⟨leP (rfl : (σ.1 21 x1.toNatClampNeg).toInt = (σ.1 21 x1.toNatClampNeg).toInt) (by omega), geP (rfl : (σ.1 21 x1.toNatClampNeg).toInt = (σ.1 21 x1.toNatClampNeg).toInt) (by omega)⟩ hσ (fun r79 σ69 hσ69 kk78 p80 => ?_)
                obtain ⟨k70, k71, k72, k73, k74, k75, k76, k77⟩ := kk78
                exact hQ _ _ hσ69 (⟨k70, k71, k72, k73, k74, k75, k76, k77⟩) trivial
        · first | have f82 := (notltE64 (show (2 : Int64).toInt = 2 from by decide) (i2lE (rfl : x2.toInt = x2.toInt))).mp c45 | skip
          try dsimp only
          refine ⟨fun c83 => ?_, fun c83 => ?_⟩
          · first | have f84 := (eqE (show (1 : Int32).toInt = 1 from by decide) (show (0 : Int32).toInt = 0 from by decide)).mp c83 | skip
            exact hQ _ _ hσ (⟨rfl, rfl, rfl, rfl, rfl, rfl, rfl, rfl⟩) trivial
          · first | have f85 := (noteqE (show (1 : Int32).toInt = 1 from by decide) (show (0 : Int32).toInt = 0 from by decide)).mp c83 | skip
            refine ⟨fun c86 => ?_, fun c86 => ?_⟩
            · first | have f88 := (eqE (rfl : x2.toInt = x2.toInt) (show (0 : Int32).toInt = 0 from by decide)).mp c86 | skip
              have g90 : vp_in x1 20 := inE (rfl : x1.toInt = x1.toInt) (by omega) (by omega)
              refine ⟨g90, ?_⟩
              exact hQ _ _ hσ (⟨rfl, rfl, rfl, rfl, rfl, rfl, rfl, rfl⟩) trivial
            · first | have f92 := (noteqE (rfl : x2.toInt = x2.toInt) (show (0 : Int32).toInt = 0 from by decide)).mp c86 | skip
              refine ⟨fun c93 => ?_, fun c93 => ?_⟩
              · first | have f95 := (eqE (rfl : x2.toInt = x2.toInt) (show (1 : Int32).toInt = 1 from by decide)).mp c93 | skip
                have g97 : vp_in x1 20 := inE (rfl : x1.toInt = x1.toInt) (by omega) (by omega)
                refine ⟨g97, ?_⟩
                exact hQ _ _ hσ (⟨rfl, rfl, rfl, rfl, rfl, rfl, rfl, rfl⟩) trivial
              · first | have f99 := (noteqE (rfl : x2.toInt = x2.toInt) (show (1 : Int32).toInt = 1 from by decide)).mp c93 | skip
                have g101 : vp_in x1 20 := inE (rfl : x1.toInt = x1.toInt) (by omega) (by omega)
                refine ⟨g101, ?_⟩
                have f103 := K2.ga_21 hσ x1.toNatClampNeg
                refine sX12_parted hN ⟨leP (rfl : x1.toInt = x1.toInt) (by omega), geP (rfl : x1.toInt = x1.toInt) (by omega)⟩ ⟨leP (rfl : (σ.1 21 x1.toNatClampNeg).toInt = (σ.1 21 x1.toNatClampNeg).toInt) (by omega), geP (rfl : (σ.1 21 x1.toNatClampNeg).toInt = (σ.1 21 x1.toNatClampNeg).toInt) (by omega)⟩ hσ (fun r114 σ104 hσ104 kk113 p115 => ?_)
                obtain ⟨k105, k106, k107, k108, k109, k110, k111, k112⟩ := kk113
                exact hQ _ _ hσ104 (⟨k105, k106, k107, k108, k109, k110, k111, k112⟩) trivial
  · have f116 := tB x1
    first | have f117 := (notltE64 (i2lE (rfl : x1.toInt = x1.toInt)) (show (0 : Int64).toInt = 0 from by decide)).mp c1 | skip
    refine ⟨fun c118 => ?_, fun c118 => ?_⟩
    · have f119 := K2.g_0_41 hσ
      first | have f121 := (ltE64 (i2lE (sOkE (rfl : (σ.1 0 41).toInt = (σ.1 0 41).toInt) (show (1 : Int32).toInt = 1 from by decide) (by omega) (by omega))) (i2lE (rfl : x1.toInt = x1.toInt))).mp c118 | skip
      try dsimp only
      refine ⟨fun c122 => ?_, fun c122 => ?_⟩
      · first | have f123 := (eqE (show (0 : Int32).toInt = 0 from by decide) (show (0 : Int32).toInt = 0 from by decide)).mp c122 | skip
        exact hQ _ _ hσ (⟨rfl, rfl, rfl, rfl, rfl, rfl, rfl, rfl⟩) trivial
      · first | have f124 := (noteqE (show (0 : Int32).toInt = 0 from by decide) (show (0 : Int32).toInt = 0 from by decide)).mp c122 | skip
        try unfold fX12_in
        refine ⟨fun c125 => ?_, fun c125 => ?_⟩
        · have f126 := tB x2
          first | have f127 := (ltE64 (i2lE (rfl : x2.toInt = x2.toInt)) (show (0 : Int64).toInt = 0 from by decide)).mp c125 | skip
          try dsimp only
          refine ⟨fun c128 => ?_, fun c128 => ?_⟩
          · first | have f129 := (eqE (show (0 : Int32).toInt = 0 from by decide) (show (0 : Int32).toInt = 0 from by decide)).mp c128 | skip
            exact hQ _ _ hσ (⟨rfl, rfl, rfl, rfl, rfl, rfl, rfl, rfl⟩) trivial
          · first | have f130 := (noteqE (show (0 : Int32).toInt = 0 from by decide) (show (0 : Int32).toInt = 0 from by decide)).mp c128 | skip
            refine ⟨fun c131 => ?_, fun c131 => ?_⟩
            · first | have f133 := (eqE (rfl : x2.toInt = x2.toInt) (show (0 : Int32).toInt = 0 from by decide)).mp c131 | skip
              have g135 : vp_in x1 20 := inE (rfl : x1.toInt = x1.toInt) (by omega) (by omega)
              refine ⟨g135, ?_⟩
              exact hQ _ _ hσ (⟨rfl, rfl, rfl, rfl, rfl, rfl, rfl, rfl⟩) trivial
            · first | have f137 := (noteqE (rfl : x2.toInt = x2.toInt) (show (0 : Int32).toInt = 0 from by decide)).mp c131 | skip
              refine ⟨fun c138 => ?_, fun c138 => ?_⟩
              · first | have f140 := (eqE (rfl : x2.toInt = x2.toInt) (show (1 : Int32).toInt = 1 from by decide)).mp c138 | skip
                have g142 : vp_in x1 20 := inE (rfl : x1.toInt = x1.toInt) (by omega) (by omega)
                refine ⟨g142, ?_⟩
                exact hQ _ _ hσ (⟨rfl, rfl, rfl, rfl, rfl, rfl, rfl, rfl⟩) trivial
              · first | have f144 := (noteqE (rfl : x2.toInt = x2.toInt) (show (1 : Int32).toInt = 1 from by decide)).mp c138 | skip
                have g146 : vp_in x1 20 := inE (rfl : x1.toInt = x1.toInt) (by omega) (by omega)
                refine ⟨g146, ?_⟩
                have f148 := K2.ga_21 hσ x1.toNatClampNeg
                refine sX12_parted hN ⟨leP (rfl : x1.toInt = x1.toInt) (by omega), geP (rfl : x1.toInt = x1.toInt) (by omega)⟩ ⟨leP (rfl : (σ.1 21 x1.toNatClampNeg).toInt = (σ.1 21 x1.toNatClampNeg).toInt) (by omega), geP (rfl : (σ.1 21 x1.toNatClampNeg).toInt = (σ.1 21 x1.toNatClampNeg).toInt) (by omega)⟩ hσ (fun r159 σ149 hσ149 kk158 p160 => ?_)
                obtain ⟨k150, k151, k152, k153, k154, k155, k156, k157⟩ := kk158
                exact hQ _ _ hσ149 (⟨k150, k151, k152, k153, k154, k155, k156, k157⟩) trivial
        · have f161 := tB x2
          first | have f162 := (notltE64 (i2lE (rfl : x2.toInt = x2.toInt)) (show (0 : Int64).toInt = 0 from by decide)).mp c125 | skip
          refine ⟨fun c163 => ?_, fun c163 => ?_⟩
          · first | have f165 := (ltE64 (show (2 : Int64).toInt = 2 from by decide) (i2lE (rfl : x2.toInt = x2.toInt))).mp c163 | skip
            try dsimp only
            refine ⟨fun c166 => ?_, fun c166 => ?_⟩
            · first | have f167 := (eqE (show (0 : Int32).toInt = 0 from by decide) (show (0 : Int32).toInt = 0 from by decide)).mp c166 | skip
              exact hQ _ _ hσ (⟨rfl, rfl, rfl, rfl, rfl, rfl, rfl, rfl⟩) trivial
            · first | have f168 := (noteqE (show (0 : Int32).toInt = 0 from by decide) (show (0 : Int32).toInt = 0 from by decide)).mp c166 | skip
              refine ⟨fun c169 => ?_, fun c169 => ?_⟩
              · first | have f171 := (eqE (rfl : x2.toInt = x2.toInt) (show (0 : Int32).toInt = 0 from by decide)).mp c169 | skip
                have g173 : vp_in x1 20 := inE (rfl : x1.toInt = x1.toInt) (by omega) (by omega)
                refine ⟨g173, ?_⟩
                exact hQ _ _ hσ (⟨rfl, rfl, rfl, rfl, rfl, rfl, rfl, rfl⟩) trivial
              · first | have f175 := (noteqE (rfl : x2.toInt = x2.toInt) (show (0 : Int32).toInt = 0 from by decide)).mp c169 | skip
                refine ⟨fun c176 => ?_, fun c176 => ?_⟩
                · first | have f178 := (eqE (rfl : x2.toInt = x2.toInt) (show (1 : Int32).toInt = 1 from by decide)).mp c176 | skip
                  have g180 : vp_in x1 20 := inE (rfl : x1.toInt = x1.toInt) (by omega) (by omega)
                  refine ⟨g180, ?_⟩
                  exact hQ _ _ hσ (⟨rfl, rfl, rfl, rfl, rfl, rfl, rfl, rfl⟩) trivial
                · first | have f182 := (noteqE (rfl : x2.toInt = x2.toInt) (show (1 : Int32).toInt = 1 from by decide)).mp c176 | skip
                  have g184 : vp_in x1 20 := inE (rfl : x1.toInt = x1.toInt) (by omega) (by omega)
                  refine ⟨g184, ?_⟩
                  have f186 := K2.ga_21 hσ x1.toNatClampNeg
                  refine sX12_parted hN ⟨leP (rfl : x1.toInt = x1.toInt) (by omega), geP (rfl : x1.toInt = x1.toInt) (by omega)⟩ ⟨leP (rfl : (σ.1 21 x1.toNatClampNeg).toInt = (σ.1 21 x1.toNatClampNeg).toInt) (by omega), geP (rfl : (σ.1 21 x1.toNatClampNeg).toInt = (σ.1 21 x1.toNatClampNeg).toInt) (by omega)⟩ hσ (fun r197 σ187 hσ187 kk196 p198 => ?_)
                  obtain ⟨k188, k189, k190, k191, k192, k193, k194, k195⟩ := kk196
                  exact hQ _ _ hσ187 (⟨k188, k189, k190, k191, k192, k193, k194, k195⟩) trivial
          · first | have f200 := (notltE64 (show (2 : Int64).toInt = 2 from by decide) (i2lE (rfl : x2.toInt = x2.toInt))).mp c163 | skip
            try dsimp only
            refine ⟨fun c201 => ?_, fun c201 => ?_⟩
            · first | have f202 := (eqE (show (1 : Int32).toInt = 1 from by decide) (show (0 : Int32).toInt = 0 from by decide)).mp c201 | skip
              exact hQ _ _ hσ (⟨rfl, rfl, rfl, rfl, rfl, rfl, rfl, rfl⟩) trivial
            · first | have f203 := (noteqE (show (1 : Int32).toInt = 1 from by decide) (show (0 : Int32).toInt = 0 from by decide)).mp c201 | skip
              refine ⟨fun c204 => ?_, fun c204 => ?_⟩
              · first | have f206 := (eqE (rfl : x2.toInt = x2.toInt) (show (0 : Int32).toInt = 0 from by decide)).mp c204 | skip
                have g208 : vp_in x1 20 := inE (rfl : x1.toInt = x1.toInt) (by omega) (by omega)
                refine ⟨g208, ?_⟩
                exact hQ _ _ hσ (⟨rfl, rfl, rfl, rfl, rfl, rfl, rfl, rfl⟩) trivial
              · first | have f210 := (noteqE (rfl : x2.toInt = x2.toInt) (show (0 : Int32).toInt = 0 from by decide)).mp c204 | skip
                refine ⟨fun c211 => ?_, fun c211 => ?_⟩
                · first | have f213 := (eqE (rfl : x2.toInt = x2.toInt) (show (1 : Int32).toInt = 1 from by decide)).mp c211 | skip
                  have g215 : vp_in x1 20 := inE (rfl : x1.toInt = x1.toInt) (by omega) (by omega)
                  refine ⟨g215, ?_⟩
                  exact hQ _ _ hσ (⟨rfl, rfl, rfl, rfl, rfl, rfl, rfl, rfl⟩) trivial
                · first | have f217 := (noteqE (rfl : x2.toInt = x2.toInt) (show (1 : Int32).toInt = 1 from by decide)).mp c211 | skip
                  have g219 : vp_in x1 20 := inE (rfl : x1.toInt = x1.toInt) (by omega) (by omega)
                  refine ⟨g219, ?_⟩
                  have f221 := K2.ga_21 hσ x1.toNatClampNeg
                  refine sX12_parted hN ⟨leP (rfl : x1.toInt = x1.toInt) (by omega), geP (rfl : x1.toInt = x1.toInt) (by omega)⟩ ⟨leP (rfl : (σ.1 21 x1.toNatClampNeg).toInt = (σ.1 21 x1.toNatClampNeg).toInt) (by omega), geP (rfl : (σ.1 21 x1.toNatClampNeg).toInt = (σ.1 21 x1.toNatClampNeg).toInt) (by omega)⟩ hσ (fun r232 σ222 hσ222 kk231 p233 => ?_)
                  obtain ⟨k223, k224, k225, k226, k227, k228, k229, k230⟩ := kk231
                  exact hQ _ _ hσ222 (⟨k223, k224, k225, k226, k227, k228, k229, k230⟩) trivial
    · have f234 := K2.g_0_41 hσ
      first | have f236 := (notltE64 (i2lE (sOkE (rfl : (σ.1 0 41).toInt = (σ.1 0 41).toInt) (show (1 : Int32).toInt = 1 from by decide) (by omega) (by omega))) (i2lE (rfl : x1.toInt = x1.toInt))).mp c118 | skip
      try dsimp only
      refine ⟨fun c237 => ?_, fun c237 => ?_⟩
      · first | have f238 := (eqE (show (1 : Int32).toInt = 1 from by decide) (show (0 : Int32).toInt = 0 from by decide)).mp c237 | skip
        exact hQ _ _ hσ (⟨rfl, rfl, rfl, rfl, rfl, rfl, rfl, rfl⟩) trivial
      · first | have f239 := (noteqE (show (1 : Int32).toInt = 1 from by decide) (show (0 : Int32).toInt = 0 from by decide)).mp c237 | skip
        try unfold fX12_in
        refine ⟨fun c240 => ?_, fun c240 => ?_⟩
        · have f241 := tB x2
          first | have f242 := (ltE64 (i2lE (rfl : x2.toInt = x2.toInt)) (show (0 : Int64).toInt = 0 from by decide)).mp c240 | skip
          try dsimp only
          refine ⟨fun c243 => ?_, fun c243 => ?_⟩
          · first | have f244 := (eqE (show (0 : Int32).toInt = 0 from by decide) (show (0 : Int32).toInt = 0 from by decide)).mp c243 | skip
            exact hQ _ _ hσ (⟨rfl, rfl, rfl, rfl, rfl, rfl, rfl, rfl⟩) trivial
          · first | have f245 := (noteqE (show (0 : Int32).toInt = 0 from by decide) (show (0 : Int32).toInt = 0 from by decide)).mp c243 | skip
            refine ⟨fun c246 => ?_, fun c246 => ?_⟩
            · first | have f248 := (eqE (rfl : x2.toInt = x2.toInt) (show (0 : Int32).toInt = 0 from by decide)).mp c246 | skip
              have g250 : vp_in x1 20 := inE (rfl : x1.toInt = x1.toInt) (by omega) (by omega)
              refine ⟨g250, ?_⟩
              exact hQ _ _ hσ (⟨rfl, rfl, rfl, rfl, rfl, rfl, rfl, rfl⟩) trivial
            · first | have f252 := (noteqE (rfl : x2.toInt = x2.toInt) (show (0 : Int32).toInt = 0 from by decide)).mp c246 | skip
              refine ⟨fun c253 => ?_, fun c253 => ?_⟩
              · first | have f255 := (eqE (rfl : x2.toInt = x2.toInt) (show (1 : Int32).toInt = 1 from by decide)).mp c253 | skip
                have g257 : vp_in x1 20 := inE (rfl : x1.toInt = x1.toInt) (by omega) (by omega)
                refine ⟨g257, ?_⟩
                exact hQ _ _ hσ (⟨rfl, rfl, rfl, rfl, rfl, rfl, rfl, rfl⟩) trivial
              · first | have f259 := (noteqE (rfl : x2.toInt = x2.toInt) (show (1 : Int32).toInt = 1 from by decide)).mp c253 | skip
                have g261 : vp_in x1 20 := inE (rfl : x1.toInt = x1.toInt) (by omega) (by omega)
                refine ⟨g261, ?_⟩
                have f263 := K2.ga_21 hσ x1.toNatClampNeg
                refine sX12_parted hN ⟨leP (rfl : x1.toInt = x1.toInt) (by omega), geP (rfl : x1.toInt = x1.toInt) (by omega)⟩ ⟨leP (rfl : (σ.1 21 x1.toNatClampNeg).toInt = (σ.1 21 x1.toNatClampNeg).toInt) (by omega), geP (rfl : (σ.1 21 x1.toNatClampNeg).toInt = (σ.1 21 x1.toNatClampNeg).toInt) (by omega)⟩ hσ (fun r274 σ264 hσ264 kk273 p275 => ?_)
                obtain ⟨k265, k266, k267, k268, k269, k270, k271, k272⟩ := kk273
                exact hQ _ _ hσ264 (⟨k265, k266, k267, k268, k269, k270, k271, k272⟩) trivial
        · have f276 := tB x2
          first | have f277 := (notltE64 (i2lE (rfl : x2.toInt = x2.toInt)) (show (0 : Int64).toInt = 0 from by decide)).mp c240 | skip
          refine ⟨fun c278 => ?_, fun c278 => ?_⟩
          · first | have f280 := (ltE64 (show (2 : Int64).toInt = 2 from by decide) (i2lE (rfl : x2.toInt = x2.toInt))).mp c278 | skip
            try dsimp only
            refine ⟨fun c281 => ?_, fun c281 => ?_⟩
            · first | have f282 := (eqE (show (0 : Int32).toInt = 0 from by decide) (show (0 : Int32).toInt = 0 from by decide)).mp c281 | skip
              exact hQ _ _ hσ (⟨rfl, rfl, rfl, rfl, rfl, rfl, rfl, rfl⟩) trivial
            · first | have f283 := (noteqE (show (0 : Int32).toInt = 0 from by decide) (show (0 : Int32).toInt = 0 from by decide)).mp c281 | skip
              refine ⟨fun c284 => ?_, fun c284 => ?_⟩
              · first | have f286 := (eqE (rfl : x2.toInt = x2.toInt) (show (0 : Int32).toInt = 0 from by decide)).mp c284 | skip
                have g288 : vp_in x1 20 := inE (rfl : x1.toInt = x1.toInt) (by omega) (by omega)
                refine ⟨g288, ?_⟩
                exact hQ _ _ hσ (⟨rfl, rfl, rfl, rfl, rfl, rfl, rfl, rfl⟩) trivial
              · first | have f290 := (noteqE (rfl : x2.toInt = x2.toInt) (show (0 : Int32).toInt = 0 from by decide)).mp c284 | skip
                refine ⟨fun c291 => ?_, fun c291 => ?_⟩
                · first | have f293 := (eqE (rfl : x2.toInt = x2.toInt) (show (1 : Int32).toInt = 1 from by decide)).mp c291 | skip
                  have g295 : vp_in x1 20 := inE (rfl : x1.toInt = x1.toInt) (by omega) (by omega)
                  refine ⟨g295, ?_⟩
                  exact hQ _ _ hσ (⟨rfl, rfl, rfl, rfl, rfl, rfl, rfl, rfl⟩) trivial
                · first | have f297 := (noteqE (rfl : x2.toInt = x2.toInt) (show (1 : Int32).toInt = 1 from by decide)).mp c291 | skip
                  have g299 : vp_in x1 20 := inE (rfl : x1.toInt = x1.toInt) (by omega) (by omega)
                  refine ⟨g299, ?_⟩
                  have f301 := K2.ga_21 hσ x1.toNatClampNeg
                  refine sX12_parted hN ⟨leP (rfl : x1.toInt = x1.toInt) (by omega), geP (rfl : x1.toInt = x1.toInt) (by omega)⟩ ⟨leP (rfl : (σ.1 21 x1.toNatClampNeg).toInt = (σ.1 21 x1.toNatClampNeg).toInt) (by omega), geP (rfl : (σ.1 21 x1.toNatClampNeg).toInt = (σ.1 21 x1.toNatClampNeg).toInt) (by omega)⟩ hσ (fun r312 σ302 hσ302 kk311 p313 => ?_)
                  obtain ⟨k303, k304, k305, k306, k307, k308, k309, k310⟩ := kk311
                  exact hQ _ _ hσ302 (⟨k303, k304, k305, k306, k307, k308, k309, k310⟩) trivial
          · first | have f315 := (notltE64 (show (2 : Int64).toInt = 2 from by decide) (i2lE (rfl : x2.toInt = x2.toInt))).mp c278 | skip
            try dsimp only
            refine ⟨fun c316 => ?_, fun c316 => ?_⟩
            · first | have f317 := (eqE (show (1 : Int32).toInt = 1 from by decide) (show (0 : Int32).toInt = 0 from by decide)).mp c316 | skip
              exact hQ _ _ hσ (⟨rfl, rfl, rfl, rfl, rfl, rfl, rfl, rfl⟩) trivial
            · first | have f318 := (noteqE (show (1 : Int32).toInt = 1 from by decide) (show (0 : Int32).toInt = 0 from by decide)).mp c316 | skip
              refine ⟨fun c319 => ?_, fun c319 => ?_⟩
              · first | have f321 := (eqE (rfl : x2.toInt = x2.toInt) (show (0 : Int32).toInt = 0 from by decide)).mp c319 | skip
                have g323 : vp_in x1 20 := inE (rfl : x1.toInt = x1.toInt) (by omega) (by omega)
                refine ⟨g323, ?_⟩
                exact hQ _ _ hσ (⟨rfl, rfl, rfl, rfl, rfl, rfl, rfl, rfl⟩) trivial
              · first | have f325 := (noteqE (rfl : x2.toInt = x2.toInt) (show (0 : Int32).toInt = 0 from by decide)).mp c319 | skip
                refine ⟨fun c326 => ?_, fun c326 => ?_⟩
                · first | have f328 := (eqE (rfl : x2.toInt = x2.toInt) (show (1 : Int32).toInt = 1 from by decide)).mp c326 | skip
                  have g330 : vp_in x1 20 := inE (rfl : x1.toInt = x1.toInt) (by omega) (by omega)
                  refine ⟨g330, ?_⟩
                  exact hQ _ _ hσ (⟨rfl, rfl, rfl, rfl, rfl, rfl, rfl, rfl⟩) trivial
                · first | have f332 := (noteqE (rfl : x2.toInt = x2.toInt) (show (1 : Int32).toInt = 1 from by decide)).mp c326 | skip
                  have g334 : vp_in x1 20 := inE (rfl : x1.toInt = x1.toInt) (by omega) (by omega)
                  refine ⟨g334, ?_⟩
                  have f336 := K2.ga_21 hσ x1.toNatClampNeg
                  refine sX12_parted hN ⟨leP (rfl : x1.toInt = x1.toInt) (by omega), geP (rfl : x1.toInt = x1.toInt) (by omega)⟩ ⟨leP (rfl : (σ.1 21 x1.toNatClampNeg).toInt = (σ.1 21 x1.toNatClampNeg).toInt) (by omega), geP (rfl : (σ.1 21 x1.toNatClampNeg).toInt = (σ.1 21 x1.toNatClampNeg).toInt) (by omega)⟩ hσ (fun r347 σ337 hσ337 kk346 p348 => ?_)
                  obtain ⟨k338, k339, k340, k341, k342, k343, k344, k345⟩ := kk346
                  exact hQ _ _ hσ337 (⟨k338, k339, k340, k341, k342, k343, k344, k345⟩) trivial
