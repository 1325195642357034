set_option maxHeartbeats 4000000 in
theorem sX2_stepPlain {N : Nat} (hN : 4294967400 ≤ N) {k1 : Nat} (hk1 : jobK k1) {Q : St → Prop} {σ0 σ : St} (hs3_7 : 1 ≤ (σ.1 3 7).toInt ∧ (σ.1 3 7).toInt ≤ 40) (hσ : K1 σ0 σ) (hQ : ∀ τ : St, K1 σ0 τ → (τ.1 9 9 = σ.1 9 9 ∧ τ.1 9 10 = σ.1 9 10 ∧ τ.1 6 5 = σ.1 6 5 ∧ τ.1 7 4 = σ.1 7 4 ∧ τ.1 2 4 = σ.1 2 4 ∧ τ.1 2 5 = σ.1 2 5 ∧ τ.1 2 6 = σ.1 2 6) → Q τ) : fX2_stepPlain N k1 Q σ := by
  unfold fX2_stepPlain
  have kbhk1 := jobK_b hk1
  have f1 := tB (σ.1 k1 2)
  refine sX2_readByte hN hσ (fun r14 σ2 hσ2 kk13 p15 => ?_)
  obtain ⟨k3, k4, k5, k6, k7, k8, k9, k10, k11, k12⟩ := kk13
  refine ⟨fun c16 => ?_, fun c16 => ?_⟩
  · have f17 := tB (σ2.1 3 11)
    first | have f18 := (eqE (rfl : (σ2.1 3 11).toInt = (σ2.1 3 11).toInt) (show (0 : Int32).toInt = 0 from by decide)).mp c16 | skip
    refine ⟨fun c19 => ?_, fun c19 => ?_⟩
    · have f20 := tB r14
      first | have f21 := (eqE (rfl : r14.toInt = r14.toInt) (show (0 : Int32).toInt = 0 from by decide)).mp c19 | skip
      intro v22 ev22
      intro σ23 eσ23
      have f24 := tB v22
      have f25 := K1.g_3_7 hσ2
      have f26 := congrArg Int32.toInt k3
      have f27 := K1.g_3_7 hσ
      first | have f28 : v22.toInt = ((σ2.1 3 7).toInt - (1)) := (congrArg Int32.toInt ev22).trans (sOkE (rfl : (σ2.1 3 7).toInt = (σ2.1 3 7).toInt) (show (1 : Int32).toInt = 1 from by decide) (by omega) (by omega)) | skip
      have hσ23 : K1 σ0 σ23 := by rw [eσ23]; exact hσ2.u (Rg1.r_3_7 (leP (rfl : v22.toInt = v22.toInt) (by omega)) (geP (rfl : v22.toInt = v22.toInt) (by omega))) (fun q => absurd q.1 (by decide)) (fun q => absurd q.1 (by decide))
      exact hQ _ hσ23 (⟨(kq (a := 9) (b := 9) eσ23 (fun q => absurd q.1 (by decide))).trans (k5), (kq (a := 9) (b := 10) eσ23 (fun q => absurd q.1 (by decide))).trans (k6), (kq (a := 6) (b := 5) eσ23 (fun q => absurd q.1 (by decide))).trans (k7), (kq (a := 7) (b := 4) eσ23 (fun q => absurd q.1 (by decide))).trans (k8), (kq (a := 2) (b := 4) eσ23 (fun q => absurd q.1 (by decide))).trans (k9), (kq (a := 2) (b := 5) eσ23 (fun q => absurd q.1 (by decide))).trans (k10), (kq (a := 2) (b := 6) eσ23 (fun q => absurd q.1 (by decide))).trans (k11)⟩)
    · have f29 := tB r14
      first | have f30 := (noteqE (rfl : r14.toInt = r14.toInt) (show (0 : Int32).toInt = 0 from by decide)).mp c19 | skip
      intro v31 ev31
      intro σ32 eσ32
      have kb33 := jobK_b hk1
      have hσ32 : K1 σ0 σ32 := by rw [eσ32]; exact hσ2.u (rg_jobK hk1) (by omega) (by omega)
      refine sX2_give hN hσ32 (fun σ35 hσ35 kk43 => ?_)
      obtain ⟨k36, k37, k38, k39, k40, k41, k42⟩ := kk43
      exact hQ _ hσ35 (⟨k36.trans ((kq (a := 9) (b := 9) eσ32 (by omega)).trans (k5)), k37.trans ((kq (a := 9) (b := 10) eσ32 (by omega)).trans (k6)), k38.trans ((kq (a := 6) (b := 5) eσ32 (by omega)).trans (k7)), k39.trans ((kq (a := 7) (b := 4) eσ32 (by omega)).trans (k8)), k40.trans ((kq (a := 2) (b := 4) eσ32 (by omega)).trans (k9)), k41.trans ((kq (a := 2) (b := 5) eσ32 (by omega)).trans (k10)), k42.trans ((kq (a := 2) (b := 6) eσ32 (by omega)).trans (k11))⟩)
  · have f44 := tB (σ2.1 3 11)
    first | have f45 := (noteqE (rfl : (σ2.1 3 11).toInt = (σ2.1 3 11).toInt) (show (0 : Int32).toInt = 0 from by decide)).mp c16 | skip
    exact hQ _ hσ2 (⟨k5, k6, k7, k8, k9, k10, k11⟩)
set_option maxHeartbeats 4000000 in
theorem sX2_stepWide {N : Nat} (hN : 4294967400 ≤ N) {k1 : Nat} (hk1 : jobK k1) {Q : St → Prop} {σ0 σ : St} (hs3_7 : 1 ≤ (σ.1 3 7).toInt ∧ (σ.1 3 7).toInt ≤ 40) (hσ : K1 σ0 σ) (hQ : ∀ τ : St, K1 σ0 τ → (τ.1 9 9 = σ.1 9 9 ∧ τ.1 9 10 = σ.1 9 10 ∧ τ.1 6 5 = σ.1 6 5 ∧ τ.1 7 4 = σ.1 7 4 ∧ τ.1 2 4 = σ.1 2 4 ∧ τ.1 2 5 = σ.1 2 5 ∧ τ.1 2 6 = σ.1 2 6) → Q τ) : fX2_stepWide N k1 Q σ := by
  unfold fX2_stepWide
  have kbhk1 := jobK_b hk1
  have f1 := tB (σ.1 k1 2)
  refine sX2_readFour hN hσ (fun r14 σ2 hσ2 kk13 p15 => ?_)
  obtain ⟨k3, k4, k5, k6, k7, k8, k9, k10, k11, k12⟩ := kk13
  refine ⟨fun c16 => ?_, fun c16 => ?_⟩
  · have f17 := tB (σ2.1 3 11)
    first | have f18 := (eqE (rfl : (σ2.1 3 11).toInt = (σ2.1 3 11).toInt) (show (0 : Int32).toInt = 0 from by decide)).mp c16 | skip
    refine ⟨fun c19 => ?_, fun c19 => ?_⟩
    · have f20 := tB r14
      first | have f21 := (eqE (rfl : r14.toInt = r14.toInt) (show (0 : Int32).toInt = 0 from by decide)).mp c19 | skip
      intro v22 ev22
      intro σ23 eσ23
      have f24 := tB v22
      have f25 := K1.g_3_7 hσ2
      have f26 := congrArg Int32.toInt k3
      have f27 := K1.g_3_7 hσ
      first | have f28 : v22.toInt = ((σ2.1 3 7).toInt - (1)) := (congrArg Int32.toInt ev22).trans (sOkE (rfl : (σ2.1 3 7).toInt = (σ2.1 3 7).toInt) (show (1 : Int32).toInt = 1 from by decide) (by omega) (by omega)) | skip
      have hσ23 : K1 σ0 σ23 := by rw [eσ23]; exact hσ2.u (Rg1.r_3_7 (leP (rfl : v22.toInt = v22.toInt) (by omega)) (geP (rfl : v22.toInt = v22.toInt) (by omega))) (fun q => absurd q.1 (by decide)) (fun q => absurd q.1 (by decide))
      exact hQ _ hσ23 (⟨(kq (a := 9) (b := 9) eσ23 (fun q => absurd q.1 (by decide))).trans (k5), (kq (a := 9) (b := 10) eσ23 (fun q => absurd q.1 (by decide))).trans (k6), (kq (a := 6) (b := 5) eσ23 (fun q => absurd q.1 (by decide))).trans (k7), (kq (a := 7) (b := 4) eσ23 (fun q => absurd q.1 (by decide))).trans (k8), (kq (a := 2) (b := 4) eσ23 (fun q => absurd q.1 (by decide))).trans (k9), (kq (a := 2) (b := 5) eσ23 (fun q => absurd q.1 (by decide))).trans (k10), (kq (a := 2) (b := 6) eσ23 (fun q => absurd q.1 (by decide))).trans (k11)⟩)
    · have f29 := tB r14
      first | have f30 := (noteqE (rfl : r14.toInt = r14.toInt) (show (0 : Int32).toInt = 0 from by decide)).mp c19 | skip
      intro v31 ev31
      intro σ32 eσ32
      have kb33 := jobK_b hk1
      have hσ32 : K1 σ0 σ32 := by rw [eσ32]; exact hσ2.u (rg_jobK hk1) (by omega) (by omega)
      refine sX2_give hN hσ32 (fun σ35 hσ35 kk43 => ?_)
      obtain ⟨k36, k37, k38, k39, k40, k41, k42⟩ := kk43
      exact hQ _ hσ35 (⟨k36.trans ((kq (a := 9) (b := 9) eσ32 (by omega)).trans (k5)), k37.trans ((kq (a := 9) (b := 10) eσ32 (by omega)).trans (k6)), k38.trans ((kq (a := 6) (b := 5) eσ32 (by omega)).trans (k7)), k39.trans ((kq (a := 7) (b := 4) eσ32 (by omega)).trans (k8)), k40.trans ((kq (a := 2) (b := 4) eσ32 (by omega)).trans (k9)), k41.trans ((kq (a := 2) (b := 5) eσ32 (by omega)).trans (k10)), k42.trans ((kq (a := 2) (b := 6) eσ32 (by omega)).trans (k11))⟩)
  · have f44 := tB (σ2.1 3 11)
    first | have f45 := (noteqE (rfl : (σ2.1 3 11).toInt = (σ2.1 3 11).toInt) (show (0 : Int32).toInt = 0 from by decide)).mp c16 | skip
    exact hQ _ hσ2 (⟨k5, k6, k7, k8, k9, k10, k11⟩)
set_option maxHeartbeats 4000000 in
theorem sX2_followBranch {N : Nat} (hN : 4294967400 ≤ N) {k1 : Nat} {x2 : Int32} (hk1 : jobK k1) {Q : St → Prop} {σ0 σ : St} (hσ : K1 σ0 σ) (hQ : ∀ τ : St, K1 σ0 τ → (τ.1 3 7 = σ.1 3 7 ∧ τ.1 3 6 = σ.1 3 6 ∧ τ.1 9 9 = σ.1 9 9 ∧ τ.1 9 10 = σ.1 9 10 ∧ τ.1 6 5 = σ.1 6 5 ∧ τ.1 7 4 = σ.1 7 4 ∧ τ.1 2 4 = σ.1 2 4 ∧ τ.1 2 5 = σ.1 2 5 ∧ τ.1 2 6 = σ.1 2 6 ∧ τ.1 3 8 = σ.1 3 8) → Q τ) : fX2_followBranch N k1 x2 Q σ := by
  unfold fX2_followBranch
  have kbhk1 := jobK_b hk1
  have f1 := tB (σ.1 k1 2)
  refine sX2_readByte hN hσ (fun r14 σ2 hσ2 kk13 p15 => ?_)
  obtain ⟨k3, k4, k5, k6, k7, k8, k9, k10, k11, k12⟩ := kk13
  intro v16 ev16
  have f17 := tB x2
  have f18 := tB v16
  have f19 := and1 (r14 >>> ((σ2.1 k1 3) &&& 31))
  first | have f20 : v16.toInt = ((r14 >>> ((σ2.1 k1 3) &&& 31)) &&& 1).toInt := (congrArg Int32.toInt ev16).trans (rfl : ((r14 >>> ((σ2.1 k1 3) &&& 31)) &&& 1).toInt = ((r14 >>> ((σ2.1 k1 3) &&& 31)) &&& 1).toInt) | skip
  refine sX2_readFour hN hσ2 (fun r33 σ21 hσ21 kk32 p34 => ?_)
  obtain ⟨k22, k23, k24, k25, k26, k27, k28, k29, k30, k31⟩ := kk32
  refine ⟨fun c35 => ?_, fun c35 => ?_⟩
  · have f36 := tB (σ21.1 3 11)
    first | have f37 := (eqE (rfl : (σ21.1 3 11).toInt = (σ21.1 3 11).toInt) (show (0 : Int32).toInt = 0 from by decide)).mp c35 | skip
    intro σ38 eσ38
    have kb39 := jobK_b hk1
    have hσ38 : K1 σ0 σ38 := by rw [eσ38]; exact hσ21.u (rg_jobK hk1) (by omega) (by omega)
    intro σ40 eσ40
    have kb41 := jobK_b hk1
    have hσ40 : K1 σ0 σ40 := by rw [eσ40]; exact hσ38.u (rg_jobK hk1) (by omega) (by omega)
    intro v42 ev42
    intro σ43 eσ43
    have kb44 := jobK_b hk1
    have hσ43 : K1 σ0 σ43 := by rw [eσ43]; exact hσ40.u (rg_jobK hk1) (by omega) (by omega)
    refine ⟨fun c45 => ?_, fun c45 => ?_⟩
    · have f46 := tB (σ43.1 k1 3)
      have q47 : σ43.1 k1 3 = v42 := by rw [eσ43, u1_at]; exact if_pos rfl
      have f48 := tB v42
      have f49 := tB (σ40.1 k1 3)
      have q50 : σ40.1 k1 3 = σ38.1 k1 3 := by rw [eσ40, u1_at]; exact if_neg (by decide)
      have f51 := congrArg Int32.toInt q50
      have f52 := tB (σ38.1 k1 3)
      have q53 : σ38.1 k1 3 = σ21.1 k1 3 := by rw [eσ38, u1_at]; exact if_neg (by decide)
      have f54 := congrArg Int32.toInt q53
      have f55 := tB (σ21.1 k1 3)
      first | have f56 : v42.toInt = ((σ40.1 k1 3).toInt + (1)) := (congrArg Int32.toInt ev42).trans (aOkE (rfl : (σ40.1 k1 3).toInt = (σ40.1 k1 3).toInt) (show (1 : Int32).toInt = 1 from by decide) (by omega) (by omega)) | skip
      first | have f57 : (σ43.1 k1 3).toInt = v42.toInt := (congrArg Int32.toInt q47).trans (rfl : v42.toInt = v42.toInt) | skip
      first | have f58 := (eqE (rfl : (σ43.1 k1 3).toInt = (σ43.1 k1 3).toInt) (show (8 : Int32).toInt = 8 from by decide)).mp c45 | skip
      intro σ59 eσ59
      have kb60 := jobK_b hk1
      have hσ59 : K1 σ0 σ59 := by rw [eσ59]; exact hσ43.u (rg_jobK hk1) (by omega) (by omega)
      intro v61 ev61
      intro σ62 eσ62
      have kb63 := jobK_b hk1
      have hσ62 : K1 σ0 σ62 := by rw [eσ62]; exact hσ59.u (rg_jobK hk1) (by omega) (by omega)
      exact hQ _ hσ62 (⟨(kq (a := 3) (b := 7) eσ62 (by omega)).trans ((kq (a := 3) (b := 7) eσ59 (by omega)).trans ((kq (a := 3) (b := 7) eσ43 (by omega)).trans ((kq (a := 3) (b := 7) eσ40 (by omega)).trans ((kq (a := 3) (b := 7) eσ38 (by omega)).trans (k22.trans (k3)))))), (kq (a := 3) (b := 6) eσ62 (by omega)).trans ((kq (a := 3) (b := 6) eσ59 (by omega)).trans ((kq (a := 3) (b := 6) eσ43 (by omega)).trans ((kq (a := 3) (b := 6) eσ40 (by omega)).trans ((kq (a := 3) (b := 6) eσ38 (by omega)).trans (k23.trans (k4)))))), (kq (a := 9) (b := 9) eσ62 (by omega)).trans ((kq (a := 9) (b := 9) eσ59 (by omega)).trans ((kq (a := 9) (b := 9) eσ43 (by omega)).trans ((kq (a := 9) (b := 9) eσ40 (by omega)).trans ((kq (a := 9) (b := 9) eσ38 (by omega)).trans (k24.trans (k5)))))), (kq (a := 9) (b := 10) eσ62 (by omega)).trans ((kq (a := 9) (b := 10) eσ59 (by omega)).trans ((kq (a := 9) (b := 10) eσ43 (by omega)).trans ((kq (a := 9) (b := 10) eσ40 (by omega)).trans ((kq (a := 9) (b := 10) eσ38 (by omega)).trans (k25.trans (k6)))))), (kq (a := 6) (b := 5) eσ62 (by omega)).trans ((kq (a := 6) (b := 5) eσ59 (by omega)).trans ((kq (a := 6) (b := 5) eσ43 (by omega)).trans ((kq (a := 6) (b := 5) eσ40 (by omega)).trans ((kq (a := 6) (b := 5) eσ38 (by omega)).trans (k26.trans (k7)))))), (kq (a := 7) (b := 4) eσ62 (by omega)).trans ((kq (a := 7) (b := 4) eσ59 (by omega)).trans ((kq (a := 7) (b := 4) eσ43 (by omega)).trans ((kq (a := 7) (b := 4) eσ40 (by omega)).trans ((kq (a := 7) (b := 4) eσ38 (by omega)).trans (k27.trans (k8)))))), (kq (a := 2) (b := 4) eσ62 (by omega)).trans ((kq (a := 2) (b := 4) eσ59 (by omega)).trans ((kq (a := 2) (b := 4) eσ43 (by omega)).trans ((kq (a := 2) (b := 4) eσ40 (by omega)).trans ((kq (a := 2) (b := 4) eσ38 (by omega)).trans (k28.trans (k9)))))), (kq (a := 2) (b := 5) eσ62 (by omega)).trans ((kq (a := 2) (b := 5) eσ59 (by omega)).trans ((kq (a := 2) (b := 5) eσ43 (by omega)).trans ((kq (a := 2) (b := 5) eσ40 (by omega)).trans ((kq (a := 2) (b := 5) eσ38 (by omega)).trans (k29.trans (k10)))))), (kq (a := 2) (b := 6) eσ62 (by omega)).trans ((kq (a := 2) (b := 6) eσ59 (by omega)).trans ((kq (a := 2) (b := 6) eσ43 (by omega)).trans ((kq (a := 2) (b := 6) eσ40 (by omega)).trans ((kq (a := 2) (b := 6) eσ38 (by omega)).trans (k30.trans (k11)))))), (kq (a := 3) (b := 8) eσ62 (by omega)).trans ((kq (a := 3) (b := 8) eσ59 (by omega)).trans ((kq (a := 3) (b := 8) eσ43 (by omega)).trans ((kq (a := 3) (b := 8) eσ40 (by omega)).trans ((kq (a := 3) (b := 8) eσ38 (by omega)).trans (k31.trans (k12))))))⟩)
    · have f64 := tB (σ43.1 k1 3)
      have q65 : σ43.1 k1 3 = v42 := by rw [eσ43, u1_at]; exact if_pos rfl
      have f66 := tB v42
      have f67 := tB (σ40.1 k1 3)
      have q68 : σ40.1 k1 3 = σ38.1 k1 3 := by rw [eσ40, u1_at]; exact if_neg (by decide)
      have f69 := congrArg Int32.toInt q68
      have f70 := tB (σ38.1 k1 3)
      have q71 : σ38.1 k1 3 = σ21.1 k1 3 := by rw [eσ38, u1_at]; exact if_neg (by decide)
      have f72 := congrArg Int32.toInt q71
      have f73 := tB (σ21.1 k1 3)
      first | have f74 : v42.toInt = ((σ40.1 k1 3).toInt + (1)) := (congrArg Int32.toInt ev42).trans (aOkE (rfl : (σ40.1 k1 3).toInt = (σ40.1 k1 3).toInt) (show (1 : Int32).toInt = 1 from by decide) (by omega) (by omega)) | skip
      first | have f75 : (σ43.1 k1 3).toInt = v42.toInt := (congrArg Int32.toInt q65).trans (rfl : v42.toInt = v42.toInt) | skip
      first | have f76 := (noteqE (rfl : (σ43.1 k1 3).toInt = (σ43.1 k1 3).toInt) (show (8 : Int32).toInt = 8 from by decide)).mp c45 | skip
      exact hQ _ hσ43 (⟨(kq (a := 3) (b := 7) eσ43 (by omega)).trans ((kq (a := 3) (b := 7) eσ40 (by omega)).trans ((kq (a := 3) (b := 7) eσ38 (by omega)).trans (k22.trans (k3)))), (kq (a := 3) (b := 6) eσ43 (by omega)).trans ((kq (a := 3) (b := 6) eσ40 (by omega)).trans ((kq (a := 3) (b := 6) eσ38 (by omega)).trans (k23.trans (k4)))), (kq (a := 9) (b := 9) eσ43 (by omega)).trans ((kq (a := 9) (b := 9) eσ40 (by omega)).trans ((kq (a := 9) (b := 9) eσ38 (by omega)).trans (k24.trans (k5)))), (kq (a := 9) (b := 10) eσ43 (by omega)).trans ((kq (a := 9) (b := 10) eσ40 (by omega)).trans ((kq (a := 9) (b := 10) eσ38 (by omega)).trans (k25.trans (k6)))), (kq (a := 6) (b := 5) eσ43 (by omega)).trans ((kq (a := 6) (b := 5) eσ40 (by omega)).trans ((kq (a := 6) (b := 5) eσ38 (by omega)).trans (k26.trans (k7)))), (kq (a := 7) (b := 4) eσ43 (by omega)).trans ((kq (a := 7) (b := 4) eσ40 (by omega)).trans ((kq (a := 7) (b := 4) eσ38 (by omega)).trans (k27.trans (k8)))), (kq (a := 2) (b := 4) eσ43 (by omega)).trans ((kq (a := 2) (b := 4) eσ40 (by omega)).trans ((kq (a := 2) (b := 4) eσ38 (by omega)).trans (k28.trans (k9)))), (kq (a := 2) (b := 5) eσ43 (by omega)).trans ((kq (a := 2) (b := 5) eσ40 (by omega)).trans ((kq (a := 2) (b := 5) eσ38 (by omega)).trans (k29.trans (k10)))), (kq (a := 2) (b := 6) eσ43 (by omega)).trans ((kq (a := 2) (b := 6) eσ40 (by omega)).trans ((kq (a := 2) (b := 6) eσ38 (by omega)).trans (k30.trans (k11)))), (kq (a := 3) (b := 8) eσ43 (by omega)).trans ((kq (a := 3) (b := 8) eσ40 (by omega)).trans ((kq (a := 3) (b := 8) eσ38 (by omega)).trans (k31.trans (k12))))⟩)
  · have f77 := tB (σ21.1 3 11)
    first | have f78 := (noteqE (rfl : (σ21.1 3 11).toInt = (σ21.1 3 11).toInt) (show (0 : Int32).toInt = 0 from by decide)).mp c35 | skip
    exact hQ _ hσ21 (⟨k22.trans (k3), k23.trans (k4), k24.trans (k5), k25.trans (k6), k26.trans (k7), k27.trans (k8), k28.trans (k9), k29.trans (k10), k30.trans (k11), k31.trans (k12)⟩)
set_option maxHeartbeats 4000000 in
theorem sX2_readArguments {N : Nat} (hN : 4294967400 ≤ N) {x1 : Int32} {Q : St → Prop} {σ0 σ : St} (hσ : K1 σ0 σ) (hQ : ∀ τ : St, K1 σ0 τ → (τ.1 3 7 = σ.1 3 7 ∧ τ.1 9 9 = σ.1 9 9 ∧ τ.1 9 10 = σ.1 9 10 ∧ τ.1 6 5 = σ.1 6 5 ∧ τ.1 7 4 = σ.1 7 4 ∧ τ.1 2 4 = σ.1 2 4 ∧ τ.1 2 5 = σ.1 2 5 ∧ τ.1 2 6 = σ.1 2 6 ∧ τ.1 3 8 = σ.1 3 8) → Q τ) : fX2_readArguments N x1 Q σ := by
  unfold fX2_readArguments
  have f1 := tB x1
  refine sX2_readFour hN hσ (fun r14 σ2 hσ2 kk13 p15 => ?_)
  obtain ⟨k3, k4, k5, k6, k7, k8, k9, k10, k11, k12⟩ := kk13
  refine ⟨fun c16 => ?_, fun c16 => ?_⟩
  · have f17 := tB r14
    first | have f18 := (ltE (rfl : r14.toInt = r14.toInt) (show (0 : Int32).toInt = 0 from by decide)).mp c16 | skip
    unfold fX2_readArguments_j15
    unfold fX2_fail
    refine ⟨fun c19 => ?_, fun c19 => ?_⟩
    · have f20 := tB (σ2.1 3 11)
      first | have f21 := (eqE (rfl : (σ2.1 3 11).toInt = (σ2.1 3 11).toInt) (show (0 : Int32).toInt = 0 from by decide)).mp c19 | skip
      intro σ22 eσ22
      have hσ22 : K1 σ0 σ22 := by rw [eσ22]; exact hσ2.u (Rg1.u_3_11 _) (fun q => absurd q.1 (by decide)) (fun q => absurd q.1 (by decide))
      try dsimp only
      exact hQ _ hσ22 (⟨(kq (a := 3) (b := 7) eσ22 (fun q => absurd q.2 (by decide))).trans (k3), (kq (a := 9) (b := 9) eσ22 (fun q => absurd q.1 (by decide))).trans (k5), (kq (a := 9) (b := 10) eσ22 (fun q => absurd q.1 (by decide))).trans (k6), (kq (a := 6) (b := 5) eσ22 (fun q => absurd q.1 (by decide))).trans (k7), (kq (a := 7) (b := 4) eσ22 (fun q => absurd q.1 (by decide))).trans (k8), (kq (a := 2) (b := 4) eσ22 (fun q => absurd q.1 (by decide))).trans (k9), (kq (a := 2) (b := 5) eσ22 (fun q => absurd q.1 (by decide))).trans (k10), (kq (a := 2) (b := 6) eσ22 (fun q => absurd q.1 (by decide))).trans (k11), (kq (a := 3) (b := 8) eσ22 (fun q => absurd q.2 (by decide))).trans (k12)⟩)
    · have f23 := tB (σ2.1 3 11)
      first | have f24 := (noteqE (rfl : (σ2.1 3 11).toInt = (σ2.1 3 11).toInt) (show (0 : Int32).toInt = 0 from by decide)).mp c19 | skip
      try dsimp only
      exact hQ _ hσ2 (⟨k3, k5, k6, k7, k8, k9, k10, k11, k12⟩)
  · have f25 := tB r14
    first | have f26 := (notltE (rfl : r14.toInt = r14.toInt) (show (0 : Int32).toInt = 0 from by decide)).mp c16 | skip
    refine ⟨fun c27 => ?_, fun c27 => ?_⟩
    · first | have f29 := (leE (rfl : r14.toInt = r14.toInt) (show (4 : Int32).toInt = 4 from by decide)).mp c27 | skip
      refine lo1_i (fun (y30 : Int32) (τ : St) => K1 σ0 τ ∧ τ.1 3 7 = σ2.1 3 7 ∧ τ.1 3 6 = σ2.1 3 6 ∧ τ.1 9 9 = σ2.1 9 9 ∧ τ.1 9 10 = σ2.1 9 10 ∧ τ.1 6 5 = σ2.1 6 5 ∧ τ.1 7 4 = σ2.1 7 4 ∧ τ.1 2 4 = σ2.1 2 4 ∧ τ.1 2 5 = σ2.1 2 5 ∧ τ.1 2 6 = σ2.1 2 6 ∧ τ.1 3 8 = σ2.1 3 8 ∧ 0 ≤ y30.toInt) (fun (y30 : Int32) (τ : St) => (2147483648 - y30.toInt).toNat) ?_ N (0 : Int32) σ2 ⟨hσ2, rfl, rfl, rfl, rfl, rfl, rfl, rfl, rfl, rfl, rfl, by first | decide | (have z0 : (0 : Int32).toInt = 0 := (by decide); omega)⟩ (by have z0 : (0 : Int32).toInt = 0 := (by decide); (try dsimp only); omega)
      intro rr33 y36 σ35 hIσ35 ih34
      obtain ⟨hσ35, k37, k38, k39, k40, k41, k42, k43, k44, k45, k46, i47⟩ := hIσ35
      unfold fX2_readArguments_l23
      have f48 := tB y36
      refine ⟨fun c49 => ?_, fun c49 => ?_⟩
      · first | have f52 := (leE (rfl : r14.toInt = r14.toInt) (rfl : y36.toInt = y36.toInt)).mp c49 | skip
        intro σ53 eσ53
        have hσ53 : K1 σ0 σ53 := by rw [eσ53]; exact hσ35.u (Rg1.r_3_6 (leP (rfl : r14.toInt = r14.toInt) (by omega)) (geP (rfl : r14.toInt = r14.toInt) (by omega))) (fun q => absurd q.1 (by decide)) (fun q => absurd q.1 (by decide))
        exact hQ _ hσ53 (⟨(kq (a := 3) (b := 7) eσ53 (fun q => absurd q.2 (by decide))).trans (k37.trans (k3)), (kq (a := 9) (b := 9) eσ53 (fun q => absurd q.1 (by decide))).trans (k39.trans (k5)), (kq (a := 9) (b := 10) eσ53 (fun q => absurd q.1 (by decide))).trans (k40.trans (k6)), (kq (a := 6) (b := 5) eσ53 (fun q => absurd q.1 (by decide))).trans (k41.trans (k7)), (kq (a := 7) (b := 4) eσ53 (fun q => absurd q.1 (by decide))).trans (k42.trans (k8)), (kq (a := 2) (b := 4) eσ53 (fun q => absurd q.1 (by decide))).trans (k43.trans (k9)), (kq (a := 2) (b := 5) eσ53 (fun q => absurd q.1 (by decide))).trans (k44.trans (k10)), (kq (a := 2) (b := 6) eσ53 (fun q => absurd q.1 (by decide))).trans (k45.trans (k11)), (kq (a := 3) (b := 8) eσ53 (fun q => absurd q.2 (by decide))).trans (k46.trans (k12))⟩)
      · first | have f57 := (notleE (rfl : r14.toInt = r14.toInt) (rfl : y36.toInt = y36.toInt)).mp c49 | skip
        refine sX2_readFour hN hσ35 (fun r72 σ60 hσ60 kk71 p73 => ?_)
        obtain ⟨k61, k62, k63, k64, k65, k66, k67, k68, k69, k70⟩ := kk71
        refine ⟨inE (rfl : y36.toInt = y36.toInt) (by omega) (by omega), ?_⟩
        intro σ75 eσ75
        have hσ75 : K1 σ0 σ75 := by rw [eσ75]; exact hσ60.u (Rg1.ra_17 _ _) (fun q => absurd q.1 (by decide)) (fun q => absurd q.1 (by decide))
        intro v76 ev76
        have f77 := tB v76
        first | have f79 : v76.toInt = (y36.toInt + (1)) := (congrArg Int32.toInt ev76).trans (aOkE (rfl : y36.toInt = y36.toInt) (show (1 : Int32).toInt = 1 from by decide) (by omega) (by omega)) | skip
        exact ih34 v76 σ75 ⟨hσ75, (kq (a := 3) (b := 7) eσ75 (fun q => absurd q.1 (by decide))).trans (k61.trans (k37)), (kq (a := 3) (b := 6) eσ75 (fun q => absurd q.1 (by decide))).trans (k62.trans (k38)), (kq (a := 9) (b := 9) eσ75 (fun q => absurd q.1 (by decide))).trans (k63.trans (k39)), (kq (a := 9) (b := 10) eσ75 (fun q => absurd q.1 (by decide))).trans (k64.trans (k40)), (kq (a := 6) (b := 5) eσ75 (fun q => absurd q.1 (by decide))).trans (k65.trans (k41)), (kq (a := 7) (b := 4) eσ75 (fun q => absurd q.1 (by decide))).trans (k66.trans (k42)), (kq (a := 2) (b := 4) eσ75 (fun q => absurd q.1 (by decide))).trans (k67.trans (k43)), (kq (a := 2) (b := 5) eσ75 (fun q => absurd q.1 (by decide))).trans (k68.trans (k44)), (kq (a := 2) (b := 6) eσ75 (fun q => absurd q.1 (by decide))).trans (k69.trans (k45)), (kq (a := 3) (b := 8) eσ75 (fun q => absurd q.1 (by decide))).trans (k70.trans (k46)), by omega⟩ (by (try dsimp only); omega)
    · first | have f81 := (notleE (rfl : r14.toInt = r14.toInt) (show (4 : Int32).toInt = 4 from by decide)).mp c27 | skip
      unfold fX2_readArguments_j15
      unfold fX2_fail
      refine ⟨fun c82 => ?_, fun c82 => ?_⟩
      · have f83 := tB (σ2.1 3 11)
        first | have f84 := (eqE (rfl : (σ2.1 3 11).toInt = (σ2.1 3 11).toInt) (show (0 : Int32).toInt = 0 from by decide)).mp c82 | skip
        intro σ85 eσ85
        have hσ85 : K1 σ0 σ85 := by rw [eσ85]; exact hσ2.u (Rg1.u_3_11 _) (fun q => absurd q.1 (by decide)) (fun q => absurd q.1 (by decide))
        try dsimp only
        exact hQ _ hσ85 (⟨(kq (a := 3) (b := 7) eσ85 (fun q => absurd q.2 (by decide))).trans (k3), (kq (a := 9) (b := 9) eσ85 (fun q => absurd q.1 (by decide))).trans (k5), (kq (a := 9) (b := 10) eσ85 (fun q => absurd q.1 (by decide))).trans (k6), (kq (a := 6) (b := 5) eσ85 (fun q => absurd q.1 (by decide))).trans (k7), (kq (a := 7) (b := 4) eσ85 (fun q => absurd q.1 (by decide))).trans (k8), (kq (a := 2) (b := 4) eσ85 (fun q => absurd q.1 (by decide))).trans (k9), (kq (a := 2) (b := 5) eσ85 (fun q => absurd q.1 (by decide))).trans (k10), (kq (a := 2) (b := 6) eσ85 (fun q => absurd q.1 (by decide))).trans (k11), (kq (a := 3) (b := 8) eσ85 (fun q => absurd q.2 (by decide))).trans (k12)⟩)
      · have f86 := tB (σ2.1 3 11)
        first | have f87 := (noteqE (rfl : (σ2.1 3 11).toInt = (σ2.1 3 11).toInt) (show (0 : Int32).toInt = 0 from by decide)).mp c82 | skip
        try dsimp only
        exact hQ _ hσ2 (⟨k3, k5, k6, k7, k8, k9, k10, k11, k12⟩)
set_option maxHeartbeats 4000000 in
theorem sX2_enterThing {N : Nat} (hN : 4294967400 ≤ N) {x1 : Int32} {x2 : Int32} {Q : St → Prop} {σ0 σ : St} (hσ : K1 σ0 σ) (hQ : ∀ τ : St, K1 σ0 τ → (τ.1 9 9 = σ.1 9 9 ∧ τ.1 9 10 = σ.1 9 10 ∧ τ.1 6 5 = σ.1 6 5 ∧ τ.1 7 4 = σ.1 7 4 ∧ τ.1 2 4 = σ.1 2 4 ∧ τ.1 2 5 = σ.1 2 5 ∧ τ.1 2 6 = σ.1 2 6 ∧ τ.1 3 8 = σ.1 3 8) → Q τ) : fX2_enterThing N x1 x2 Q σ := by
  unfold fX2_enterThing
  have f1 := tB x1
  refine sX2_readFour hN hσ (fun r14 σ2 hσ2 kk13 p15 => ?_)
  obtain ⟨k3, k4, k5, k6, k7, k8, k9, k10, k11, k12⟩ := kk13
  refine ⟨fun c16 => ?_, fun c16 => ?_⟩
  · have f17 := tB (σ2.1 3 11)
    first | have f18 := (eqE (rfl : (σ2.1 3 11).toInt = (σ2.1 3 11).toInt) (show (0 : Int32).toInt = 0 from by decide)).mp c16 | skip
    refine ⟨fun c19 => ?_, fun c19 => ?_⟩
    · have f20 := tB x2
      first | have f21 := (eqE (rfl : x2.toInt = x2.toInt) (show (9 : Int32).toInt = 9 from by decide)).mp c19 | skip
      unfold fX2_enterThing_j27
      have f22 := tB r14
      refine sX2_readFour hN hσ2 (fun r35 σ23 hσ23 kk34 p36 => ?_)
      obtain ⟨k24, k25, k26, k27, k28, k29, k30, k31, k32, k33⟩ := kk34
      unfold fX2_enterThing_j33
      intro σ37 eσ37
      have hσ37 : K1 σ0 σ37 := by rw [eσ37]; exact hσ23.u (Rg1.r_3_6 (leP (show (0 : Int32).toInt = 0 from by decide) (by omega)) (geP (show (0 : Int32).toInt = 0 from by decide) (by omega))) (fun q => absurd q.1 (by decide)) (fun q => absurd q.1 (by decide))
      refine ⟨fun c38 => ?_, fun c38 => ?_⟩
      · first | have f40 := (eqE (rfl : x2.toInt = x2.toInt) (show (10 : Int32).toInt = 10 from by decide)).mp c38 | skip
        unfold fX2_enterThing_j50
        refine sX2_readArguments hN hσ37 (fun σ42 hσ42 kk52 => ?_)
        obtain ⟨k43, k44, k45, k46, k47, k48, k49, k50, k51⟩ := kk52
        unfold fX2_enterThing_j57
        refine ⟨fun c53 => ?_, fun c53 => ?_⟩
        · have f54 := tB (σ42.1 3 11)
          first | have f55 := (eqE (rfl : (σ42.1 3 11).toInt = (σ42.1 3 11).toInt) (show (0 : Int32).toInt = 0 from by decide)).mp c53 | skip
          have f56 := tB r35
          refine sX2_readByte hN hσ42 (fun r69 σ57 hσ57 kk68 p70 => ?_)
          obtain ⟨k58, k59, k60, k61, k62, k63, k64, k65, k66, k67⟩ := kk68
          unfold fX2_enterThing_j73
          refine ⟨fun c71 => ?_, fun c71 => ?_⟩
          · have f72 := tB (σ57.1 3 11)
            first | have f73 := (eqE (rfl : (σ57.1 3 11).toInt = (σ57.1 3 11).toInt) (show (0 : Int32).toInt = 0 from by decide)).mp c71 | skip
            refine ⟨fun c74 => ?_, fun c74 => ?_⟩
            · have f75 := tB r69
              first | have f76 := (eqE (rfl : r69.toInt = r69.toInt) (show (192 : Int32).toInt = 192 from by decide)).mp c74 | skip
              unfold fX2_enterThing_j99
              refine sX2_callFunction hN hσ57 (fun σ78 hσ78 kk88 => ?_)
              obtain ⟨k79, k80, k81, k82, k83, k84, k85, k86, k87⟩ := kk88
              exact hQ _ hσ78 (⟨k80.trans (k60.trans (k44.trans ((kq (a := 9) (b := 9) eσ37 (fun q => absurd q.1 (by decide))).trans (k26.trans (k5))))), k81.trans (k61.trans (k45.trans ((kq (a := 9) (b := 10) eσ37 (fun q => absurd q.1 (by decide))).trans (k27.trans (k6))))), k82.trans (k62.trans (k46.trans ((kq (a := 6) (b := 5) eσ37 (fun q => absurd q.1 (by decide))).trans (k28.trans (k7))))), k83.trans (k63.trans (k47.trans ((kq (a := 7) (b := 4) eσ37 (fun q => absurd q.1 (by decide))).trans (k29.trans (k8))))), k84.trans (k64.trans (k48.trans ((kq (a := 2) (b := 4) eσ37 (fun q => absurd q.1 (by decide))).trans (k30.trans (k9))))), k85.trans (k65.trans (k49.trans ((kq (a := 2) (b := 5) eσ37 (fun q => absurd q.1 (by decide))).trans (k31.trans (k10))))), k86.trans (k66.trans (k50.trans ((kq (a := 2) (b := 6) eσ37 (fun q => absurd q.1 (by decide))).trans (k32.trans (k11))))), k87.trans (k67.trans (k51.trans ((kq (a := 3) (b := 8) eσ37 (fun q => absurd q.2 (by decide))).trans (k33.trans (k12)))))⟩)
            · have f89 := tB r69
              first | have f90 := (noteqE (rfl : r69.toInt = r69.toInt) (show (192 : Int32).toInt = 192 from by decide)).mp c74 | skip
              refine ⟨fun c91 => ?_, fun c91 => ?_⟩
              · first | have f93 := (eqE (rfl : r69.toInt = r69.toInt) (show (193 : Int32).toInt = 193 from by decide)).mp c91 | skip
                unfold fX2_enterThing_j99
                refine sX2_callFunction hN hσ57 (fun σ95 hσ95 kk105 => ?_)
                obtain ⟨k96, k97, k98, k99, k100, k101, k102, k103, k104⟩ := kk105
                exact hQ _ hσ95 (⟨k97.trans (k60.trans (k44.trans ((kq (a := 9) (b := 9) eσ37 (fun q => absurd q.1 (by decide))).trans (k26.trans (k5))))), k98.trans (k61.trans (k45.trans ((kq (a := 9) (b := 10) eσ37 (fun q => absurd q.1 (by decide))).trans (k27.trans (k6))))), k99.trans (k62.trans (k46.trans ((kq (a := 6) (b := 5) eσ37 (fun q => absurd q.1 (by decide))).trans (k28.trans (k7))))), k100.trans (k63.trans (k47.trans ((kq (a := 7) (b := 4) eσ37 (fun q => absurd q.1 (by decide))).trans (k29.trans (k8))))), k101.trans (k64.trans (k48.trans ((kq (a := 2) (b := 4) eσ37 (fun q => absurd q.1 (by decide))).trans (k30.trans (k9))))), k102.trans (k65.trans (k49.trans ((kq (a := 2) (b := 5) eσ37 (fun q => absurd q.1 (by decide))).trans (k31.trans (k10))))), k103.trans (k66.trans (k50.trans ((kq (a := 2) (b := 6) eσ37 (fun q => absurd q.1 (by decide))).trans (k32.trans (k11))))), k104.trans (k67.trans (k51.trans ((kq (a := 3) (b := 8) eσ37 (fun q => absurd q.2 (by decide))).trans (k33.trans (k12)))))⟩)
              · first | have f107 := (noteqE (rfl : r69.toInt = r69.toInt) (show (193 : Int32).toInt = 193 from by decide)).mp c91 | skip
                refine sX2_beginString hN hσ57 (fun σ109 hσ109 kk119 => ?_)
                obtain ⟨k110, k111, k112, k113, k114, k115, k116, k117, k118⟩ := kk119
                exact hQ _ hσ109 (⟨k111.trans (k60.trans (k44.trans ((kq (a := 9) (b := 9) eσ37 (fun q => absurd q.1 (by decide))).trans (k26.trans (k5))))), k112.trans (k61.trans (k45.trans ((kq (a := 9) (b := 10) eσ37 (fun q => absurd q.1 (by decide))).trans (k27.trans (k6))))), k113.trans (k62.trans (k46.trans ((kq (a := 6) (b := 5) eσ37 (fun q => absurd q.1 (by decide))).trans (k28.trans (k7))))), k114.trans (k63.trans (k47.trans ((kq (a := 7) (b := 4) eσ37 (fun q => absurd q.1 (by decide))).trans (k29.trans (k8))))), k115.trans (k64.trans (k48.trans ((kq (a := 2) (b := 4) eσ37 (fun q => absurd q.1 (by decide))).trans (k30.trans (k9))))), k116.trans (k65.trans (k49.trans ((kq (a := 2) (b := 5) eσ37 (fun q => absurd q.1 (by decide))).trans (k31.trans (k10))))), k117.trans (k66.trans (k50.trans ((kq (a := 2) (b := 6) eσ37 (fun q => absurd q.1 (by decide))).trans (k32.trans (k11))))), k118.trans (k67.trans (k51.trans ((kq (a := 3) (b := 8) eσ37 (fun q => absurd q.2 (by decide))).trans (k33.trans (k12)))))⟩)
          · have f120 := tB (σ57.1 3 11)
            first | have f121 := (noteqE (rfl : (σ57.1 3 11).toInt = (σ57.1 3 11).toInt) (show (0 : Int32).toInt = 0 from by decide)).mp c71 | skip
            exact hQ _ hσ57 (⟨k60.trans (k44.trans ((kq (a := 9) (b := 9) eσ37 (fun q => absurd q.1 (by decide))).trans (k26.trans (k5)))), k61.trans (k45.trans ((kq (a := 9) (b := 10) eσ37 (fun q => absurd q.1 (by decide))).trans (k27.trans (k6)))), k62.trans (k46.trans ((kq (a := 6) (b := 5) eσ37 (fun q => absurd q.1 (by decide))).trans (k28.trans (k7)))), k63.trans (k47.trans ((kq (a := 7) (b := 4) eσ37 (fun q => absurd q.1 (by decide))).trans (k29.trans (k8)))), k64.trans (k48.trans ((kq (a := 2) (b := 4) eσ37 (fun q => absurd q.1 (by decide))).trans (k30.trans (k9)))), k65.trans (k49.trans ((kq (a := 2) (b := 5) eσ37 (fun q => absurd q.1 (by decide))).trans (k31.trans (k10)))), k66.trans (k50.trans ((kq (a := 2) (b := 6) eσ37 (fun q => absurd q.1 (by decide))).trans (k32.trans (k11)))), k67.trans (k51.trans ((kq (a := 3) (b := 8) eσ37 (fun q => absurd q.2 (by decide))).trans (k33.trans (k12))))⟩)
        · have f122 := tB (σ42.1 3 11)
          first | have f123 := (noteqE (rfl : (σ42.1 3 11).toInt = (σ42.1 3 11).toInt) (show (0 : Int32).toInt = 0 from by decide)).mp c53 | skip
          unfold fX2_enterThing_j73
          refine ⟨fun c124 => ?_, fun c124 => ?_⟩
          · first | have f126 := (eqE (rfl : (σ42.1 3 11).toInt = (σ42.1 3 11).toInt) (show (0 : Int32).toInt = 0 from by decide)).mp c124 | skip
            refine ⟨fun c127 => ?_, fun c127 => ?_⟩
            · first | have f128 := (eqE (show (0 : Int32).toInt = 0 from by decide) (show (192 : Int32).toInt = 192 from by decide)).mp c127 | skip
              unfold fX2_enterThing_j99
              have f129 := tB r35
              refine sX2_callFunction hN hσ42 (fun σ130 hσ130 kk140 => ?_)
              obtain ⟨k131, k132, k133, k134, k135, k136, k137, k138, k139⟩ := kk140
              exact hQ _ hσ130 (⟨k132.trans (k44.trans ((kq (a := 9) (b := 9) eσ37 (fun q => absurd q.1 (by decide))).trans (k26.trans (k5)))), k133.trans (k45.trans ((kq (a := 9) (b := 10) eσ37 (fun q => absurd q.1 (by decide))).trans (k27.trans (k6)))), k134.trans (k46.trans ((kq (a := 6) (b := 5) eσ37 (fun q => absurd q.1 (by decide))).trans (k28.trans (k7)))), k135.trans (k47.trans ((kq (a := 7) (b := 4) eσ37 (fun q => absurd q.1 (by decide))).trans (k29.trans (k8)))), k136.trans (k48.trans ((kq (a := 2) (b := 4) eσ37 (fun q => absurd q.1 (by decide))).trans (k30.trans (k9)))), k137.trans (k49.trans ((kq (a := 2) (b := 5) eσ37 (fun q => absurd q.1 (by decide))).trans (k31.trans (k10)))), k138.trans (k50.trans ((kq (a := 2) (b := 6) eσ37 (fun q => absurd q.1 (by decide))).trans (k32.trans (k11)))), k139.trans (k51.trans ((kq (a := 3) (b := 8) eσ37 (fun q => absurd q.2 (by decide))).trans (k33.trans (k12))))⟩)
            · first | have f141 := (noteqE (show (0 : Int32).toInt = 0 from by decide) (show (192 : Int32).toInt = 192 from by decide)).mp c127 | skip
              refine ⟨fun c142 => ?_, fun c142 => ?_⟩
              · first | have f143 := (eqE (show (0 : Int32).toInt = 0 from by decide) (show (193 : Int32).toInt = 193 from by decide)).mp c142 | skip
                unfold fX2_enterThing_j99
                have f144 := tB r35
                refine sX2_callFunction hN hσ42 (fun σ145 hσ145 kk155 => ?_)
                obtain ⟨k146, k147, k148, k149, k150, k151, k152, k153, k154⟩ := kk155
                exact hQ _ hσ145 (⟨k147.trans (k44.trans ((kq (a := 9) (b := 9) eσ37 (fun q => absurd q.1 (by decide))).trans (k26.trans (k5)))), k148.trans (k45.trans ((kq (a := 9) (b := 10) eσ37 (fun q => absurd q.1 (by decide))).trans (k27.trans (k6)))), k149.trans (k46.trans ((kq (a := 6) (b := 5) eσ37 (fun q => absurd q.1 (by decide))).trans (k28.trans (k7)))), k150.trans (k47.trans ((kq (a := 7) (b := 4) eσ37 (fun q => absurd q.1 (by decide))).trans (k29.trans (k8)))), k151.trans (k48.trans ((kq (a := 2) (b := 4) eσ37 (fun q => absurd q.1 (by decide))).trans (k30.trans (k9)))), k152.trans (k49.trans ((kq (a := 2) (b := 5) eσ37 (fun q => absurd q.1 (by decide))).trans (k31.trans (k10)))), k153.trans (k50.trans ((kq (a := 2) (b := 6) eσ37 (fun q => absurd q.1 (by decide))).trans (k32.trans (k11)))), k154.trans (k51.trans ((kq (a := 3) (b := 8) eσ37 (fun q => absurd q.2 (by decide))).trans (k33.trans (k12))))⟩)
              · first | have f156 := (noteqE (show (0 : Int32).toInt = 0 from by decide) (show (193 : Int32).toInt = 193 from by decide)).mp c142 | skip
                have f157 := tB r35
                refine sX2_beginString hN hσ42 (fun σ158 hσ158 kk168 => ?_)
                obtain ⟨k159, k160, k161, k162, k163, k164, k165, k166, k167⟩ := kk168
                exact hQ _ hσ158 (⟨k160.trans (k44.trans ((kq (a := 9) (b := 9) eσ37 (fun q => absurd q.1 (by decide))).trans (k26.trans (k5)))), k161.trans (k45.trans ((kq (a := 9) (b := 10) eσ37 (fun q => absurd q.1 (by decide))).trans (k27.trans (k6)))), k162.trans (k46.trans ((kq (a := 6) (b := 5) eσ37 (fun q => absurd q.1 (by decide))).trans (k28.trans (k7)))), k163.trans (k47.trans ((kq (a := 7) (b := 4) eσ37 (fun q => absurd q.1 (by decide))).trans (k29.trans (k8)))), k164.trans (k48.trans ((kq (a := 2) (b := 4) eσ37 (fun q => absurd q.1 (by decide))).trans (k30.trans (k9)))), k165.trans (k49.trans ((kq (a := 2) (b := 5) eσ37 (fun q => absurd q.1 (by decide))).trans (k31.trans (k10)))), k166.trans (k50.trans ((kq (a := 2) (b := 6) eσ37 (fun q => absurd q.1 (by decide))).trans (k32.trans (k11)))), k167.trans (k51.trans ((kq (a := 3) (b := 8) eσ37 (fun q => absurd q.2 (by decide))).trans (k33.trans (k12))))⟩)
          · first | have f170 := (noteqE (rfl : (σ42.1 3 11).toInt = (σ42.1 3 11).toInt) (show (0 : Int32).toInt = 0 from by decide)).mp c124 | skip
            exact hQ _ hσ42 (⟨k44.trans ((kq (a := 9) (b := 9) eσ37 (fun q => absurd q.1 (by decide))).trans (k26.trans (k5))), k45.trans ((kq (a := 9) (b := 10) eσ37 (fun q => absurd q.1 (by decide))).trans (k27.trans (k6))), k46.trans ((kq (a := 6) (b := 5) eσ37 (fun q => absurd q.1 (by decide))).trans (k28.trans (k7))), k47.trans ((kq (a := 7) (b := 4) eσ37 (fun q => absurd q.1 (by decide))).trans (k29.trans (k8))), k48.trans ((kq (a := 2) (b := 4) eσ37 (fun q => absurd q.1 (by decide))).trans (k30.trans (k9))), k49.trans ((kq (a := 2) (b := 5) eσ37 (fun q => absurd q.1 (by decide))).trans (k31.trans (k10))), k50.trans ((kq (a := 2) (b := 6) eσ37 (fun q => absurd q.1 (by decide))).trans (k32.trans (k11))), k51.trans ((kq (a := 3) (b := 8) eσ37 (fun q => absurd q.2 (by decide))).trans (k33.trans (k12)))⟩)
      · first | have f172 := (noteqE (rfl : x2.toInt = x2.toInt) (show (10 : Int32).toInt = 10 from by decide)).mp c38 | skip
        refine ⟨fun c173 => ?_, fun c173 => ?_⟩
        · first | have f175 := (eqE (rfl : x2.toInt = x2.toInt) (show (11 : Int32).toInt = 11 from by decide)).mp c173 | skip
          unfold fX2_enterThing_j50
          refine sX2_readArguments hN hσ37 (fun σ177 hσ177 kk187 => ?_)
          obtain ⟨k178, k179, k180, k181, k182, k183, k184, k185, k186⟩ := kk187
          unfold fX2_enterThing_j57
          refine ⟨fun c188 => ?_, fun c188 => ?_⟩
          · have f189 := tB (σ177.1 3 11)
            first | have f190 := (eqE (rfl : (σ177.1 3 11).toInt = (σ177.1 3 11).toInt) (show (0 : Int32).toInt = 0 from by decide)).mp c188 | skip
            have f191 := tB r35
            refine sX2_readByte hN hσ177 (fun r204 σ192 hσ192 kk203 p205 => ?_)
            obtain ⟨k193, k194, k195, k196, k197, k198, k199, k200, k201, k202⟩ := kk203
            unfold fX2_enterThing_j73
            refine ⟨fun c206 => ?_, fun c206 => ?_⟩
            · have f207 := tB (σ192.1 3 11)
              first | have f208 := (eqE (rfl : (σ192.1 3 11).toInt = (σ192.1 3 11).toInt) (show (0 : Int32).toInt = 0 from by decide)).mp c206 | skip
              refine ⟨fun c209 => ?_, fun c209 => ?_⟩
              · have f210 := tB r204
                first | have f211 := (eqE (rfl : r204.toInt = r204.toInt) (show (192 : Int32).toInt = 192 from by decide)).mp c209 | skip
                unfold fX2_enterThing_j99
                refine sX2_callFunction hN hσ192 (fun σ213 hσ213 kk223 => ?_)
                obtain ⟨k214, k215, k216, k217, k218, k219, k220, k221, k222⟩ := kk223
                exact hQ _ hσ213 (⟨k215.trans (k195.trans (k179.trans ((kq (a := 9) (b := 9) eσ37 (fun q => absurd q.1 (by decide))).trans (k26.trans (k5))))), k216.trans (k196.trans (k180.trans ((kq (a := 9) (b := 10) eσ37 (fun q => absurd q.1 (by decide))).trans (k27.trans (k6))))), k217.trans (k197.trans (k181.trans ((kq (a := 6) (b := 5) eσ37 (fun q => absurd q.1 (by decide))).trans (k28.trans (k7))))), k218.trans (k198.trans (k182.trans ((kq (a := 7) (b := 4) eσ37 (fun q => absurd q.1 (by decide))).trans (k29.trans (k8))))), k219.trans (k199.trans (k183.trans ((kq (a := 2) (b := 4) eσ37 (fun q => absurd q.1 (by decide))).trans (k30.trans (k9))))), k220.trans (k200.trans (k184.trans ((kq (a := 2) (b := 5) eσ37 (fun q => absurd q.1 (by decide))).trans (k31.trans (k10))))), k221.trans (k201.trans (k185.trans ((kq (a := 2) (b := 6) eσ37 (fun q => absurd q.1 (by decide))).trans (k32.trans (k11))))), k222.trans (k202.trans (k186.trans ((kq (a := 3) (b := 8) eσ37 (fun q => absurd q.2 (by decide))).trans (k33.trans (k12)))))⟩)
              · have f224 := tB r204
                first | have f225 := (noteqE (rfl : r204.toInt = r204.toInt) (show (192 : Int32).toInt = 192 from by decide)).mp c209 | skip
                refine ⟨fun c226 => ?_, fun c226 => ?_⟩
                · first | have f228 := (eqE (rfl : r204.toInt = r204.toInt) (show (193 : Int32).toInt = 193 from by decide)).mp c226 | skip
                  unfold fX2_enterThing_j99
                  refine sX2_callFunction hN hσ192 (fun σ230 hσ230 kk240 => ?_)
                  obtain ⟨k231, k232, k233, k234, k235, k236, k237, k238, k239⟩ := kk240
                  exact hQ _ hσ230 (⟨k232.trans (k195.trans (k179.trans ((kq (a := 9) (b := 9) eσ37 (fun q => absurd q.1 (by decide))).trans (k26.trans (k5))))), k233.trans (k196.trans (k180.trans ((kq (a := 9) (b := 10) eσ37 (fun q => absurd q.1 (by decide))).trans (k27.trans (k6))))), k234.trans (k197.trans (k181.trans ((kq (a := 6) (b := 5) eσ37 (fun q => absurd q.1 (by decide))).trans (k28.trans (k7))))), k235.trans (k198.trans (k182.trans ((kq (a := 7) (b := 4) eσ37 (fun q => absurd q.1 (by decide))).trans (k29.trans (k8))))), k236.trans (k199.trans (k183.trans ((kq (a := 2) (b := 4) eσ37 (fun q => absurd q.1 (by decide))).trans (k30.trans (k9))))), k237.trans (k200.trans (k184.trans ((kq (a := 2) (b := 5) eσ37 (fun q => absurd q.1 (by decide))).trans (k31.trans (k10))))), k238.trans (k201.trans (k185.trans ((kq (a := 2) (b := 6) eσ37 (fun q => absurd q.1 (by decide))).trans (k32.trans (k11))))), k239.trans (k202.trans (k186.trans ((kq (a := 3) (b := 8) eσ37 (fun q => absurd q.2 (by decide))).trans (k33.trans (k12)))))⟩)
                · first | have f242 := (noteqE (rfl : r204.toInt = r204.toInt) (show (193 : Int32).toInt = 193 from by decide)).mp c226 | skip
                  refine sX2_beginString hN hσ192 (fun σ244 hσ244 kk254 => ?_)
                  obtain ⟨k245, k246, k247, k248, k249, k250, k251, k252, k253⟩ := kk254
                  exact hQ _ hσ244 (⟨k246.trans (k195.trans (k179.trans ((kq (a := 9) (b := 9) eσ37 (fun q => absurd q.1 (by decide))).trans (k26.trans (k5))))), k247.trans (k196.trans (k180.trans ((kq (a := 9) (b := 10) eσ37 (fun q => absurd q.1 (by decide))).trans (k27.trans (k6))))), k248.trans (k197.trans (k181.trans ((kq (a := 6) (b := 5) eσ37 (fun q => absurd q.1 (by decide))).trans (k28.trans (k7))))), k249.trans (k198.trans (k182.trans ((kq (a := 7) (b := 4) eσ37 (fun q => absurd q.1 (by decide))).trans (k29.trans (k8))))), k250.trans (k199.trans (k183.trans ((kq (a := 2) (b := 4) eσ37 (fun q => absurd q.1 (by decide))).trans (k30.trans (k9))))), k251.trans (k200.trans (k184.trans ((kq (a := 2) (b := 5) eσ37 (fun q => absurd q.1 (by decide))).trans (k31.trans (k10))))), k252.trans (k201.trans (k185.trans ((kq (a := 2) (b := 6) eσ37 (fun q => absurd q.1 (by decide))).trans (k32.trans (k11))))), k253.trans (k202.trans (k186.trans ((kq (a := 3) (b := 8) eσ37 (fun q => absurd q.2 (by decide))).trans (k33.trans (k12)))))⟩)
            · have f255 := tB (σ192.1 3 11)
              first | have f256 := (noteqE (rfl : (σ192.1 3 11).toInt = (σ192.1 3 11).toInt) (show (0 : Int32).toInt = 0 from by decide)).mp c206 | skip
              exact hQ _ hσ192 (⟨k195.trans (k179.trans ((kq (a := 9) (b := 9) eσ37 (fun q => absurd q.1 (by decide))).trans (k26.trans (k5)))), k196.trans (k180.trans ((kq (a := 9) (b := 10) eσ37 (fun q => absurd q.1 (by decide))).trans (k27.trans (k6)))), k197.trans (k181.trans ((kq (a := 6) (b := 5) eσ37 (fun q => absurd q.1 (by decide))).trans (k28.trans (k7)))), k198.trans (k182.trans ((kq (a := 7) (b := 4) eσ37 (fun q => absurd q.1 (by decide))).trans (k29.trans (k8)))), k199.trans (k183.trans ((kq (a := 2) (b := 4) eσ37 (fun q => absurd q.1 (by decide))).trans (k30.trans (k9)))), k200.trans (k184.trans ((kq (a := 2) (b := 5) eσ37 (fun q => absurd q.1 (by decide))).trans (k31.trans (k10)))), k201.trans (k185.trans ((kq (a := 2) (b := 6) eσ37 (fun q => absurd q.1 (by decide))).trans (k32.trans (k11)))), k202.trans (k186.trans ((kq (a := 3) (b := 8) eσ37 (fun q => absurd q.2 (by decide))).trans (k33.trans (k12))))⟩)
          · have f257 := tB (σ177.1 3 11)
            first | have f258 := (noteqE (rfl : (σ177.1 3 11).toInt = (σ177.1 3 11).toInt) (show (0 : Int32).toInt = 0 from by decide)).mp c188 | skip
            unfold fX2_enterThing_j73
            refine ⟨fun c259 => ?_, fun c259 => ?_⟩
            · first | have f261 := (eqE (rfl : (σ177.1 3 11).toInt = (σ177.1 3 11).toInt) (show (0 : Int32).toInt = 0 from by decide)).mp c259 | skip
              refine ⟨fun c262 => ?_, fun c262 => ?_⟩
              · first | have f263 := (eqE (show (0 : Int32).toInt = 0 from by decide) (show (192 : Int32).toInt = 192 from by decide)).mp c262 | skip
                unfold fX2_enterThing_j99
                have f264 := tB r35
                refine sX2_callFunction hN hσ177 (fun σ265 hσ265 kk275 => ?_)
                obtain ⟨k266, k267, k268, k269, k270, k271, k272, k273, k274⟩ := kk275
                exact hQ _ hσ265 (⟨k267.trans (k179.trans ((kq (a := 9) (b := 9) eσ37 (fun q => absurd q.1 (by decide))).trans (k26.trans (k5)))), k268.trans (k180.trans ((kq (a := 9) (b := 10) eσ37 (fun q => absurd q.1 (by decide))).trans (k27.trans (k6)))), k269.trans (k181.trans ((kq (a := 6) (b := 5) eσ37 (fun q => absurd q.1 (by decide))).trans (k28.trans (k7)))), k270.trans (k182.trans ((kq (a := 7) (b := 4) eσ37 (fun q => absurd q.1 (by decide))).trans (k29.trans (k8)))), k271.trans (k183.trans ((kq (a := 2) (b := 4) eσ37 (fun q => absurd q.1 (by decide))).trans (k30.trans (k9)))), k272.trans (k184.trans ((kq (a := 2) (b := 5) eσ37 (fun q => absurd q.1 (by decide))).trans (k31.trans (k10)))), k273.trans (k185.trans ((kq (a := 2) (b := 6) eσ37 (fun q => absurd q.1 (by decide))).trans (k32.trans (k11)))), k274.trans (k186.trans ((kq (a := 3) (b := 8) eσ37 (fun q => absurd q.2 (by decide))).trans (k33.trans (k12))))⟩)
              · first | have f276 := (noteqE (show (0 : Int32).toInt = 0 from by decide) (show (192 : Int32).toInt = 192 from by decide)).mp c262 | skip
                refine ⟨fun c277 => ?_, fun c277 => ?_⟩
                · first | have f278 := (eqE (show (0 : Int32).toInt = 0 from by decide) (show (193 : Int32).toInt = 193 from by decide)).mp c277 | skip
                  unfold fX2_enterThing_j99
                  have f279 := tB r35
                  refine sX2_callFunction hN hσ177 (fun σ280 hσ280 kk290 => ?_)
                  obtain ⟨k281, k282, k283, k284, k285, k286, k287, k288, k289⟩ := kk290
                  exact hQ _ hσ280 (⟨k282.trans (k179.trans ((kq (a := 9) (b := 9) eσ37 (fun q => absurd q.1 (by decide))).trans (k26.trans (k5)))), k283.trans (k180.trans ((kq (a := 9) (b := 10) eσ37 (fun q => absurd q.1 (by decide))).trans (k27.trans (k6)))), k284.trans (k181.trans ((kq (a := 6) (b := 5) eσ37 (fun q => absurd q.1 (by decide))).trans (k28.trans (k7)))), k285.trans (k182.trans ((kq (a := 7) (b := 4) eσ37 (fun q => absurd q.1 (by decide))).trans (k29.trans (k8)))), k286.trans (k183.trans ((kq (a := 2) (b := 4) eσ37 (fun q => absurd q.1 (by decide))).trans (k30.trans (k9)))), k287.trans (k184.trans ((kq (a := 2) (b := 5) eσ37 (fun q => absurd q.1 (by decide))).trans (k31.trans (k10)))), k288.trans (k185.trans ((kq (a := 2) (b := 6) eσ37 (fun q => absurd q.1 (by decide))).trans (k32.trans (k11)))), k289.trans (k186.trans ((kq (a := 3) (b := 8) eσ37 (fun q => absurd q.2 (by decide))).trans (k33.trans (k12))))⟩)
                · first | have f291 := (noteqE (show (0 : Int32).toInt = 0 from by decide) (show (193 : Int32).toInt = 193 from by decide)).mp c277 | skip
                  have f292 := tB r35
                  refine sX2_beginString hN hσ177 (fun σ293 hσ293 kk303 => ?_)
                  obtain ⟨k294, k295, k296, k297, k298, k299, k300, k301, k302⟩ := kk303
                  exact hQ _ hσ293 (⟨k295.trans (k179.trans ((kq (a := 9) (b := 9) eσ37 (fun q => absurd q.1 (by decide))).trans (k26.trans (k5)))), k296.trans (k180.trans ((kq (a := 9) (b := 10) eσ37 (fun q => absurd q.1 (by decide))).trans (k27.trans (k6)))), k297.trans (k181.trans ((kq (a := 6) (b := 5) eσ37 (fun q => absurd q.1 (by decide))).trans (k28.trans (k7)))), k298.trans (k182.trans ((kq (a := 7) (b := 4) eσ37 (fun q => absurd q.1 (by decide))).trans (k29.trans (k8)))), k299.trans (k183.trans ((kq (a := 2) (b := 4) eσ37 (fun q => absurd q.1 (by decide))).trans (k30.trans (k9)))), k300.trans (k184.trans ((kq (a := 2) (b := 5) eσ37 (fun q => absurd q.1 (by decide))).trans (k31.trans (k10)))), k301.trans (k185.trans ((kq (a := 2) (b := 6) eσ37 (fun q => absurd q.1 (by decide))).trans (k32.trans (k11)))), k302.trans (k186.trans ((kq (a := 3) (b := 8) eσ37 (fun q => absurd q.2 (by decide))).trans (k33.trans (k12))))⟩)
            · first | have f305 := (noteqE (rfl : (σ177.1 3 11).toInt = (σ177.1 3 11).toInt) (show (0 : Int32).toInt = 0 from by decide)).mp c259 | skip
              exact hQ _ hσ177 (⟨k179.trans ((kq (a := 9) (b := 9) eσ37 (fun q => absurd q.1 (by decide))).trans (k26.trans (k5))), k180.trans ((kq (a := 9) (b := 10) eσ37 (fun q => absurd q.1 (by decide))).trans (k27.trans (k6))), k181.trans ((kq (a := 6) (b := 5) eσ37 (fun q => absurd q.1 (by decide))).trans (k28.trans (k7))), k182.trans ((kq (a := 7) (b := 4) eσ37 (fun q => absurd q.1 (by decide))).trans (k29.trans (k8))), k183.trans ((kq (a := 2) (b := 4) eσ37 (fun q => absurd q.1 (by decide))).trans (k30.trans (k9))), k184.trans ((kq (a := 2) (b := 5) eσ37 (fun q => absurd q.1 (by decide))).trans (k31.trans (k10))), k185.trans ((kq (a := 2) (b := 6) eσ37 (fun q => absurd q.1 (by decide))).trans (k32.trans (k11))), k186.trans ((kq (a := 3) (b := 8) eσ37 (fun q => absurd q.2 (by decide))).trans (k33.trans (k12)))⟩)
        · first | have f307 := (noteqE (rfl : x2.toInt = x2.toInt) (show (11 : Int32).toInt = 11 from by decide)).mp c173 | skip
          unfold fX2_enterThing_j57
          refine ⟨fun c308 => ?_, fun c308 => ?_⟩
          · have f309 := tB (σ37.1 3 11)
            have q310 : σ37.1 3 11 = σ23.1 3 11 := by rw [eσ37, u1_at]; exact if_neg (by decide)
            have f311 := congrArg Int32.toInt q310
            have f312 := tB (σ23.1 3 11)
            first | have f313 := (eqE (rfl : (σ37.1 3 11).toInt = (σ37.1 3 11).toInt) (show (0 : Int32).toInt = 0 from by decide)).mp c308 | skip
            have f314 := tB r35
            refine sX2_readByte hN hσ37 (fun r327 σ315 hσ315 kk326 p328 => ?_)
            obtain ⟨k316, k317, k318, k319, k320, k321, k322, k323, k324, k325⟩ := kk326
            unfold fX2_enterThing_j73
            refine ⟨fun c329 => ?_, fun c329 => ?_⟩
            · have f330 := tB (σ315.1 3 11)
              first | have f331 := (eqE (rfl : (σ315.1 3 11).toInt = (σ315.1 3 11).toInt) (show (0 : Int32).toInt = 0 from by decide)).mp c329 | skip
              refine ⟨fun c332 => ?_, fun c332 => ?_⟩
              · have f333 := tB r327
                first | have f334 := (eqE (rfl : r327.toInt = r327.toInt) (show (192 : Int32).toInt = 192 from by decide)).mp c332 | skip
                unfold fX2_enterThing_j99
                refine sX2_callFunction hN hσ315 (fun σ336 hσ336 kk346 => ?_)
                obtain ⟨k337, k338, k339, k340, k341, k342, k343, k344, k345⟩ := kk346
                exact hQ _ hσ336 (⟨k338.trans (k318.trans ((kq (a := 9) (b := 9) eσ37 (fun q => absurd q.1 (by decide))).trans (k26.trans (k5)))), k339.trans (k319.trans ((kq (a := 9) (b := 10) eσ37 (fun q => absurd q.1 (by decide))).trans (k27.trans (k6)))), k340.trans (k320.trans ((kq (a := 6) (b := 5) eσ37 (fun q => absurd q.1 (by decide))).trans (k28.trans (k7)))), k341.trans (k321.trans ((kq (a := 7) (b := 4) eσ37 (fun q => absurd q.1 (by decide))).trans (k29.trans (k8)))), k342.trans (k322.trans ((kq (a := 2) (b := 4) eσ37 (fun q => absurd q.1 (by decide))).trans (k30.trans (k9)))), k343.trans (k323.trans ((kq (a := 2) (b := 5) eσ37 (fun q => absurd q.1 (by decide))).trans (k31.trans (k10)))), k344.trans (k324.trans ((kq (a := 2) (b := 6) eσ37 (fun q => absurd q.1 (by decide))).trans (k32.trans (k11)))), k345.trans (k325.trans ((kq (a := 3) (b := 8) eσ37 (fun q => absurd q.2 (by decide))).trans (k33.trans (k12))))⟩)
              · have f347 := tB r327
                first | have f348 := (noteqE (rfl : r327.toInt = r327.toInt) (show (192 : Int32).toInt = 192 from by decide)).mp c332 | skip
                refine ⟨fun c349 => ?_, fun c349 => ?_⟩
                · first | have f351 := (eqE (rfl : r327.toInt = r327.toInt) (show (193 : Int32).toInt = 193 from by decide)).mp c349 | skip
                  unfold fX2_enterThing_j99
                  refine sX2_callFunction hN hσ315 (fun σ353 hσ353 kk363 => ?_)
                  obtain ⟨k354, k355, k356, k357, k358, k359, k360, k361, k362⟩ := kk363
                  exact hQ _ hσ353 (⟨k355.trans (k318.trans ((kq (a := 9) (b := 9) eσ37 (fun q => absurd q.1 (by decide))).trans (k26.trans (k5)))), k356.trans (k319.trans ((kq (a := 9) (b := 10) eσ37 (fun q => absurd q.1 (by decide))).trans (k27.trans (k6)))), k357.trans (k320.trans ((kq (a := 6) (b := 5) eσ37 (fun q => absurd q.1 (by decide))).trans (k28.trans (k7)))), k358.trans (k321.trans ((kq (a := 7) (b := 4) eσ37 (fun q => absurd q.1 (by decide))).trans (k29.trans (k8)))), k359.trans (k322.trans ((kq (a := 2) (b := 4) eσ37 (fun q => absurd q.1 (by decide))).trans (k30.trans (k9)))), k360.trans (k323.trans ((kq (a := 2) (b := 5) eσ37 (fun q => absurd q.1 (by decide))).trans (k31.trans (k10)))), k361.trans (k324.trans ((kq (a := 2) (b := 6) eσ37 (fun q => absurd q.1 (by decide))).trans (k32.trans (k11)))), k362.trans (k325.trans ((kq (a := 3) (b := 8) eσ37 (fun q => absurd q.2 (by decide))).trans (k33.trans (k12))))⟩)
                · first | have f365 := (noteqE (rfl : r327.toInt = r327.toInt) (show (193 : Int32).toInt = 193 from by decide)).mp c349 | skip
                  refine sX2_beginString hN hσ315 (fun σ367 hσ367 kk377 => ?_)
                  obtain ⟨k368, k369, k370, k371, k372, k373, k374, k375, k376⟩ := kk377
                  exact hQ _ hσ367 (⟨k369.trans (k318.trans ((kq (a := 9) (b := 9) eσ37 (fun q => absurd q.1 (by decide))).trans (k26.trans (k5)))), k370.trans (k319.trans ((kq (a := 9) (b := 10) eσ37 (fun q => absurd q.1 (by decide))).trans (k27.trans (k6)))), k371.trans (k320.trans ((kq (a := 6) (b := 5) eσ37 (fun q => absurd q.1 (by decide))).trans (k28.trans (k7)))), k372.trans (k321.trans ((kq (a := 7) (b := 4) eσ37 (fun q => absurd q.1 (by decide))).trans (k29.trans (k8)))), k373.trans (k322.trans ((kq (a := 2) (b := 4) eσ37 (fun q => absurd q.1 (by decide))).trans (k30.trans (k9)))), k374.trans (k323.trans ((kq (a := 2) (b := 5) eσ37 (fun q => absurd q.1 (by decide))).trans (k31.trans (k10)))), k375.trans (k324.trans ((kq (a := 2) (b := 6) eσ37 (fun q => absurd q.1 (by decide))).trans (k32.trans (k11)))), k376.trans (k325.trans ((kq (a := 3) (b := 8) eσ37 (fun q => absurd q.2 (by decide))).trans (k33.trans (k12))))⟩)
            · have f378 := tB (σ315.1 3 11)
              first | have f379 := (noteqE (rfl : (σ315.1 3 11).toInt = (σ315.1 3 11).toInt) (show (0 : Int32).toInt = 0 from by decide)).mp c329 | skip
              exact hQ _ hσ315 (⟨k318.trans ((kq (a := 9) (b := 9) eσ37 (fun q => absurd q.1 (by decide))).trans (k26.trans (k5))), k319.trans ((kq (a := 9) (b := 10) eσ37 (fun q => absurd q.1 (by decide))).trans (k27.trans (k6))), k320.trans ((kq (a := 6) (b := 5) eσ37 (fun q => absurd q.1 (by decide))).trans (k28.trans (k7))), k321.trans ((kq (a := 7) (b := 4) eσ37 (fun q => absurd q.1 (by decide))).trans (k29.trans (k8))), k322.trans ((kq (a := 2) (b := 4) eσ37 (fun q => absurd q.1 (by decide))).trans (k30.trans (k9))), k323.trans ((kq (a := 2) (b := 5) eσ37 (fun q => absurd q.1 (by decide))).trans (k31.trans (k10))), k324.trans ((kq (a := 2) (b := 6) eσ37 (fun q => absurd q.1 (by decide))).trans (k32.trans (k11))), k325.trans ((kq (a := 3) (b := 8) eσ37 (fun q => absurd q.2 (by decide))).trans (k33.trans (k12)))⟩)
          · have f380 := tB (σ37.1 3 11)
            have q381 : σ37.1 3 11 = σ23.1 3 11 := by rw [eσ37, u1_at]; exact if_neg (by decide)
            have f382 := congrArg Int32.toInt q381
            have f383 := tB (σ23.1 3 11)
            first | have f384 := (noteqE (rfl : (σ37.1 3 11).toInt = (σ37.1 3 11).toInt) (show (0 : Int32).toInt = 0 from by decide)).mp c308 | skip
            unfold fX2_enterThing_j73
            refine ⟨fun c385 => ?_, fun c385 => ?_⟩
            · first | have f387 := (eqE (rfl : (σ37.1 3 11).toInt = (σ37.1 3 11).toInt) (show (0 : Int32).toInt = 0 from by decide)).mp c385 | skip
              refine ⟨fun c388 => ?_, fun c388 => ?_⟩
              · first | have f389 := (eqE (show (0 : Int32).toInt = 0 from by decide) (show (192 : Int32).toInt = 192 from by decide)).mp c388 | skip
                unfold fX2_enterThing_j99
                have f390 := tB r35
                refine sX2_callFunction hN hσ37 (fun σ391 hσ391 kk401 => ?_)
                obtain ⟨k392, k393, k394, k395, k396, k397, k398, k399, k400⟩ := kk401
                exact hQ _ hσ391 (⟨k393.trans ((kq (a := 9) (b := 9) eσ37 (fun q => absurd q.1 (by decide))).trans (k26.trans (k5))), k394.trans ((kq (a := 9) (b := 10) eσ37 (fun q => absurd q.1 (by decide))).trans (k27.trans (k6))), k395.trans ((kq (a := 6) (b := 5) eσ37 (fun q => absurd q.1 (by decide))).trans (k28.trans (k7))), k396.trans ((kq (a := 7) (b := 4) eσ37 (fun q => absurd q.1 (by decide))).trans (k29.trans (k8))), k397.trans ((kq (a := 2) (b := 4) eσ37 (fun q => absurd q.1 (by decide))).trans (k30.trans (k9))), k398.trans ((kq (a := 2) (b := 5) eσ37 (fun q => absurd q.1 (by decide))).trans (k31.trans (k10))), k399.trans ((kq (a := 2) (b := 6) eσ37 (fun q => absurd q.1 (by decide))).trans (k32.trans (k11))), k400.trans ((kq (a := 3) (b := 8) eσ37 (fun q => absurd q.2 (by decide))).trans (k33.trans (k12)))⟩)
              · first | have f402 := (noteqE (show (0 : Int32).toInt = 0 from by decide) (show (192 : Int32).toInt = 192 from by decide)).mp c388 | skip
                refine ⟨fun c403 => ?_, fun c403 => ?_⟩
                · first | have f404 := (eqE (show (0 : Int32).toInt = 0 from by decide) (show (193 : Int32).toInt = 193 from by decide)).mp c403 | skip
                  unfold fX2_enterThing_j99
                  have f405 := tB r35
                  refine sX2_callFunction hN hσ37 (fun σ406 hσ406 kk416 => ?_)
                  obtain ⟨k407, k408, k409, k410, k411, k412, k413, k414, k415⟩ := kk416
                  exact hQ _ hσ406 (⟨k408.trans ((kq (a := 9) (b := 9) eσ37 (fun q => absurd q.1 (by decide))).trans (k26.trans (k5))), k409.trans ((kq (a := 9) (b := 10) eσ37 (fun q => absurd q.1 (by decide))).trans (k27.trans (k6))), k410.trans ((kq (a := 6) (b := 5) eσ37 (fun q => absurd q.1 (by decide))).trans (k28.trans (k7))), k411.trans ((kq (a := 7) (b := 4) eσ37 (fun q => absurd q.1 (by decide))).trans (k29.trans (k8))), k412.trans ((kq (a := 2) (b := 4) eσ37 (fun q => absurd q.1 (by decide))).trans (k30.trans (k9))), k413.trans ((kq (a := 2) (b := 5) eσ37 (fun q => absurd q.1 (by decide))).trans (k31.trans (k10))), k414.trans ((kq (a := 2) (b := 6) eσ37 (fun q => absurd q.1 (by decide))).trans (k32.trans (k11))), k415.trans ((kq (a := 3) (b := 8) eσ37 (fun q => absurd q.2 (by decide))).trans (k33.trans (k12)))⟩)
                · first | have f417 := (noteqE (show (0 : Int32).toInt = 0 from by decide) (show (193 : Int32).toInt = 193 from by decide)).mp c403 | skip
                  have f418 := tB r35
                  refine sX2_beginString hN hσ37 (fun σ419 hσ419 kk429 => ?_)
                  obtain ⟨k420, k421, k422, k423, k424, k425, k426, k427, k428⟩ := kk429
                  exact hQ _ hσ419 (⟨k421.trans ((kq (a := 9) (b := 9) eσ37 (fun q => absurd q.1 (by decide))).trans (k26.trans (k5))), k422.trans ((kq (a := 9) (b := 10) eσ37 (fun q => absurd q.1 (by decide))).trans (k27.trans (k6))), k423.trans ((kq (a := 6) (b := 5) eσ37 (fun q => absurd q.1 (by decide))).trans (k28.trans (k7))), k424.trans ((kq (a := 7) (b := 4) eσ37 (fun q => absurd q.1 (by decide))).trans (k29.trans (k8))), k425.trans ((kq (a := 2) (b := 4) eσ37 (fun q => absurd q.1 (by decide))).trans (k30.trans (k9))), k426.trans ((kq (a := 2) (b := 5) eσ37 (fun q => absurd q.1 (by decide))).trans (k31.trans (k10))), k427.trans ((kq (a := 2) (b := 6) eσ37 (fun q => absurd q.1 (by decide))).trans (k32.trans (k11))), k428.trans ((kq (a := 3) (b := 8) eσ37 (fun q => absurd q.2 (by decide))).trans (k33.trans (k12)))⟩)
            · first | have f431 := (noteqE (rfl : (σ37.1 3 11).toInt = (σ37.1 3 11).toInt) (show (0 : Int32).toInt = 0 from by decide)).mp c385 | skip
              exact hQ _ hσ37 (⟨(kq (a := 9) (b := 9) eσ37 (fun q => absurd q.1 (by decide))).trans (k26.trans (k5)), (kq (a := 9) (b := 10) eσ37 (fun q => absurd q.1 (by decide))).trans (k27.trans (k6)), (kq (a := 6) (b := 5) eσ37 (fun q => absurd q.1 (by decide))).trans (k28.trans (k7)), (kq (a := 7) (b := 4) eσ37 (fun q => absurd q.1 (by decide))).trans (k29.trans (k8)), (kq (a := 2) (b := 4) eσ37 (fun q => absurd q.1 (by decide))).trans (k30.trans (k9)), (kq (a := 2) (b := 5) eσ37 (fun q => absurd q.1 (by decide))).trans (k31.trans (k10)), (kq (a := 2) (b := 6) eσ37 (fun q => absurd q.1 (by decide))).trans (k32.trans (k11)), (kq (a := 3) (b := 8) eσ37 (fun q => absurd q.2 (by decide))).trans (k33.trans (k12))⟩)
    · have f432 := tB x2
      first | have f433 := (noteqE (rfl : x2.toInt = x2.toInt) (show (9 : Int32).toInt = 9 from by decide)).mp c19 | skip
      refine ⟨fun c434 => ?_, fun c434 => ?_⟩
      · first | have f436 := (eqE (rfl : x2.toInt = x2.toInt) (show (11 : Int32).toInt = 11 from by decide)).mp c434 | skip
        unfold fX2_enterThing_j27
        have f437 := tB r14
        refine sX2_readFour hN hσ2 (fun r450 σ438 hσ438 kk449 p451 => ?_)
        obtain ⟨k439, k440, k441, k442, k443, k444, k445, k446, k447, k448⟩ := kk449
        unfold fX2_enterThing_j33
        intro σ452 eσ452
        have hσ452 : K1 σ0 σ452 := by rw [eσ452]; exact hσ438.u (Rg1.r_3_6 (leP (show (0 : Int32).toInt = 0 from by decide) (by omega)) (geP (show (0 : Int32).toInt = 0 from by decide) (by omega))) (fun q => absurd q.1 (by decide)) (fun q => absurd q.1 (by decide))
        refine ⟨fun c453 => ?_, fun c453 => ?_⟩
        · first | have f455 := (eqE (rfl : x2.toInt = x2.toInt) (show (10 : Int32).toInt = 10 from by decide)).mp c453 | skip
          unfold fX2_enterThing_j50
          refine sX2_readArguments hN hσ452 (fun σ457 hσ457 kk467 => ?_)
          obtain ⟨k458, k459, k460, k461, k462, k463, k464, k465, k466⟩ := kk467
          unfold fX2_enterThing_j57
          refine ⟨fun c468 => ?_, fun c468 => ?_⟩
          · have f469 := tB (σ457.1 3 11)
            first | have f470 := (eqE (rfl : (σ457.1 3 11).toInt = (σ457.1 3 11).toInt) (show (0 : Int32).toInt = 0 from by decide)).mp c468 | skip
            have f471 := tB r450
            refine sX2_readByte hN hσ457 (fun r484 σ472 hσ472 kk483 p485 => ?_)
            obtain ⟨k473, k474, k475, k476, k477, k478, k479, k480, k481, k482⟩ := kk483
            unfold fX2_enterThing_j73
            refine ⟨fun c486 => ?_, fun c486 => ?_⟩
            · have f487 := tB (σ472.1 3 11)
              first | have f488 := (eqE (rfl : (σ472.1 3 11).toInt = (σ472.1 3 11).toInt) (show (0 : Int32).toInt = 0 from by decide)).mp c486 | skip
              refine ⟨fun c489 => ?_, fun c489 => ?_⟩
              · have f490 := tB r484
                first | have f491 := (eqE (rfl : r484.toInt = r484.toInt) (show (192 : Int32).toInt = 192 from by decide)).mp c489 | skip
                unfold fX2_enterThing_j99
                refine sX2_callFunction hN hσ472 (fun σ493 hσ493 kk503 => ?_)
                obtain ⟨k494, k495, k496, k497, k498, k499, k500, k501, k502⟩ := kk503
                exact hQ _ hσ493 (⟨k495.trans (k475.trans (k459.trans ((kq (a := 9) (b := 9) eσ452 (fun q => absurd q.1 (by decide))).trans (k441.trans (k5))))), k496.trans (k476.trans (k460.trans ((kq (a := 9) (b := 10) eσ452 (fun q => absurd q.1 (by decide))).trans (k442.trans (k6))))), k497.trans (k477.trans (k461.trans ((kq (a := 6) (b := 5) eσ452 (fun q => absurd q.1 (by decide))).trans (k443.trans (k7))))), k498.trans (k478.trans (k462.trans ((kq (a := 7) (b := 4) eσ452 (fun q => absurd q.1 (by decide))).trans (k444.trans (k8))))), k499.trans (k479.trans (k463.trans ((kq (a := 2) (b := 4) eσ452 (fun q => absurd q.1 (by decide))).trans (k445.trans (k9))))), k500.trans (k480.trans (k464.trans ((kq (a := 2) (b := 5) eσ452 (fun q => absurd q.1 (by decide))).trans (k446.trans (k10))))), k501.trans (k481.trans (k465.trans ((kq (a := 2) (b := 6) eσ452 (fun q => absurd q.1 (by decide))).trans (k447.trans (k11))))), k502.trans (k482.trans (k466.trans ((kq (a := 3) (b := 8) eσ452 (fun q => absurd q.2 (by decide))).trans (k448.trans (k12)))))⟩)
              · have f504 := tB r484
                first | have f505 := (noteqE (rfl : r484.toInt = r484.toInt) (show (192 : Int32).toInt = 192 from by decide)).mp c489 | skip
                refine ⟨fun c506 => ?_, fun c506 => ?_⟩
                · first | have f508 := (eqE (rfl : r484.toInt = r484.toInt) (show (193 : Int32).toInt = 193 from by decide)).mp c506 | skip
                  unfold fX2_enterThing_j99
                  refine sX2_callFunction hN hσ472 (fun σ510 hσ510 kk520 => ?_)
                  obtain ⟨k511, k512, k513, k514, k515, k516, k517, k518, k519⟩ := kk520
                  exact hQ _ hσ510 (⟨k512.trans (k475.trans (k459.trans ((kq (a := 9) (b := 9) eσ452 (fun q => absurd q.1 (by decide))).trans (k441.trans (k5))))), k513.trans (k476.trans (k460.trans ((kq (a := 9) (b := 10) eσ452 (fun q => absurd q.1 (by decide))).trans (k442.trans (k6))))), k514.trans (k477.trans (k461.trans ((kq (a := 6) (b := 5) eσ452 (fun q => absurd q.1 (by decide))).trans (k443.trans (k7))))), k515.trans (k478.trans (k462.trans ((kq (a := 7) (b := 4) eσ452 (fun q => absurd q.1 (by decide))).trans (k444.trans (k8))))), k516.trans (k479.trans (k463.trans ((kq (a := 2) (b := 4) eσ452 (fun q => absurd q.1 (by decide))).trans (k445.trans (k9))))), k517.trans (k480.trans (k464.trans ((kq (a := 2) (b := 5) eσ452 (fun q => absurd q.1 (by decide))).trans (k446.trans (k10))))), k518.trans (k481.trans (k465.trans ((kq (a := 2) (b := 6) eσ452 (fun q => absurd q.1 (by decide))).trans (k447.trans (k11))))), k519.trans (k482.trans (k466.trans ((kq (a := 3) (b := 8) eσ452 (fun q => absurd q.2 (by decide))).trans (k448.trans (k12)))))⟩)
                · first | have f522 := (noteqE (rfl : r484.toInt = r484.toInt) (show (193 : Int32).toInt = 193 from by decide)).mp c506 | skip
                  refine sX2_beginString hN hσ472 (fun σ524 hσ524 kk534 => ?_)
                  obtain ⟨k525, k526, k527, k528, k529, k530, k531, k532, k533⟩ := kk534
                  exact hQ _ hσ524 (⟨k526.trans (k475.trans (k459.trans ((kq (a := 9) (b := 9) eσ452 (fun q => absurd q.1 (by decide))).trans (k441.trans (k5))))), k527.trans (k476.trans (k460.trans ((kq (a := 9) (b := 10) eσ452 (fun q => absurd q.1 (by decide))).trans (k442.trans (k6))))), k528.trans (k477.trans (k461.trans ((kq (a := 6) (b := 5) eσ452 (fun q => absurd q.1 (by decide))).trans (k443.trans (k7))))), k529.trans (k478.trans (k462.trans ((kq (a := 7) (b := 4) eσ452 (fun q => absurd q.1 (by decide))).trans (k444.trans (k8))))), k530.trans (k479.trans (k463.trans ((kq (a := 2) (b := 4) eσ452 (fun q => absurd q.1 (by decide))).trans (k445.trans (k9))))), k531.trans (k480.trans (k464.trans ((kq (a := 2) (b := 5) eσ452 (fun q => absurd q.1 (by decide))).trans (k446.trans (k10))))), k532.trans (k481.trans (k465.trans ((kq (a := 2) (b := 6) eσ452 (fun q => absurd q.1 (by decide))).trans (k447.trans (k11))))), k533.trans (k482.trans (k466.trans ((kq (a := 3) (b := 8) eσ452 (fun q => absurd q.2 (by decide))).trans (k448.trans (k12)))))⟩)
            · have f535 := tB (σ472.1 3 11)
              first | have f536 := (noteqE (rfl : (σ472.1 3 11).toInt = (σ472.1 3 11).toInt) (show (0 : Int32).toInt = 0 from by decide)).mp c486 | skip
              exact hQ _ hσ472 (⟨k475.trans (k459.trans ((kq (a := 9) (b := 9) eσ452 (fun q => absurd q.1 (by decide))).trans (k441.trans (k5)))), k476.trans (k460.trans ((kq (a := 9) (b := 10) eσ452 (fun q => absurd q.1 (by decide))).trans (k442.trans (k6)))), k477.trans (k461.trans ((kq (a := 6) (b := 5) eσ452 (fun q => absurd q.1 (by decide))).trans (k443.trans (k7)))), k478.trans (k462.trans ((kq (a := 7) (b := 4) eσ452 (fun q => absurd q.1 (by decide))).trans (k444.trans (k8)))), k479.trans (k463.trans ((kq (a := 2) (b := 4) eσ452 (fun q => absurd q.1 (by decide))).trans (k445.trans (k9)))), k480.trans (k464.trans ((kq (a := 2) (b := 5) eσ452 (fun q => absurd q.1 (by decide))).trans (k446.trans (k10)))), k481.trans (k465.trans ((kq (a := 2) (b := 6) eσ452 (fun q => absurd q.1 (by decide))).trans (k447.trans (k11)))), k482.trans (k466.trans ((kq (a := 3) (b := 8) eσ452 (fun q => absurd q.2 (by decide))).trans (k448.trans (k12))))⟩)
          · have f537 := tB (σ457.1 3 11)
            first | have f538 := (noteqE (rfl : (σ457.1 3 11).toInt = (σ457.1 3 11).toInt) (show (0 : Int32).toInt = 0 from by decide)).mp c468 | skip
            unfold fX2_enterThing_j73
            refine ⟨fun c539 => ?_, fun c539 => ?_⟩
            · first | have f541 := (eqE (rfl : (σ457.1 3 11).toInt = (σ457.1 3 11).toInt) (show (0 : Int32).toInt = 0 from by decide)).mp c539 | skip
              refine ⟨fun c542 => ?_, fun c542 => ?_⟩
              · first | have f543 := (eqE (show (0 : Int32).toInt = 0 from by decide) (show (192 : Int32).toInt = 192 from by decide)).mp c542 | skip
                unfold fX2_enterThing_j99
                have f544 := tB r450
                refine sX2_callFunction hN hσ457 (fun σ545 hσ545 kk555 => ?_)
                obtain ⟨k546, k547, k548, k549, k550, k551, k552, k553, k554⟩ := kk555
                exact hQ _ hσ545 (⟨k547.trans (k459.trans ((kq (a := 9) (b := 9) eσ452 (fun q => absurd q.1 (by decide))).trans (k441.trans (k5)))), k548.trans (k460.trans ((kq (a := 9) (b := 10) eσ452 (fun q => absurd q.1 (by decide))).trans (k442.trans (k6)))), k549.trans (k461.trans ((kq (a := 6) (b := 5) eσ452 (fun q => absurd q.1 (by decide))).trans (k443.trans (k7)))), k550.trans (k462.trans ((kq (a := 7) (b := 4) eσ452 (fun q => absurd q.1 (by decide))).trans (k444.trans (k8)))), k551.trans (k463.trans ((kq (a := 2) (b := 4) eσ452 (fun q => absurd q.1 (by decide))).trans (k445.trans (k9)))), k552.trans (k464.trans ((kq (a := 2) (b := 5) eσ452 (fun q => absurd q.1 (by decide))).trans (k446.trans (k10)))), k553.trans (k465.trans ((kq (a := 2) (b := 6) eσ452 (fun q => absurd q.1 (by decide))).trans (k447.trans (k11)))), k554.trans (k466.trans ((kq (a := 3) (b := 8) eσ452 (fun q => absurd q.2 (by decide))).trans (k448.trans (k12))))⟩)
              · first | have f556 := (noteqE (show (0 : Int32).toInt = 0 from by decide) (show (192 : Int32).toInt = 192 from by decide)).mp c542 | skip
                refine ⟨fun c557 => ?_, fun c557 => ?_⟩
                · first | have f558 := (eqE (show (0 : Int32).toInt = 0 from by decide) (show (193 : Int32).toInt = 193 from by decide)).mp c557 | skip
                  unfold fX2_enterThing_j99
                  have f559 := tB r450
                  refine sX2_callFunction hN hσ457 (fun σ560 hσ560 kk570 => ?_)
                  obtain ⟨k561, k562, k563, k564, k565, k566, k567, k568, k569⟩ := kk570
                  exact hQ _ hσ560 (⟨k562.trans (k459.trans ((kq (a := 9) (b := 9) eσ452 (fun q => absurd q.1 (by decide))).trans (k441.trans (k5)))), k563.trans (k460.trans ((kq (a := 9) (b := 10) eσ452 (fun q => absurd q.1 (by decide))).trans (k442.trans (k6)))), k564.trans (k461.trans ((kq (a := 6) (b := 5) eσ452 (fun q => absurd q.1 (by decide))).trans (k443.trans (k7)))), k565.trans (k462.trans ((kq (a := 7) (b := 4) eσ452 (fun q => absurd q.1 (by decide))).trans (k444.trans (k8)))), k566.trans (k463.trans ((kq (a := 2) (b := 4) eσ452 (fun q => absurd q.1 (by decide))).trans (k445.trans (k9)))), k567.trans (k464.trans ((kq (a := 2) (b := 5) eσ452 (fun q => absurd q.1 (by decide))).trans (k446.trans (k10)))), k568.trans (k465.trans ((kq (a := 2) (b := 6) eσ452 (fun q => absurd q.1 (by decide))).trans (k447.trans (k11)))), k569.trans (k466.trans ((kq (a := 3) (b := 8) eσ452 (fun q => absurd q.2 (by decide))).trans (k448.trans (k12))))⟩)
                · first | have f571 := (noteqE (show (0 : Int32).toInt = 0 from by decide) (show (193 : Int32).toInt = 193 from by decide)).mp c557 | skip
                  have f572 := tB r450
                  refine sX2_beginString hN hσ457 (fun σ573 hσ573 kk583 => ?_)
                  obtain ⟨k574, k575, k576, k577, k578, k579, k580, k581, k582⟩ := kk583
                  exact hQ _ hσ573 (⟨k575.trans (k459.trans ((kq (a := 9) (b := 9) eσ452 (fun q => absurd q.1 (by decide))).trans (k441.trans (k5)))), k576.trans (k460.trans ((kq (a := 9) (b := 10) eσ452 (fun q => absurd q.1 (by decide))).trans (k442.trans (k6)))), k577.trans (k461.trans ((kq (a := 6) (b := 5) eσ452 (fun q => absurd q.1 (by decide))).trans (k443.trans (k7)))), k578.trans (k462.trans ((kq (a := 7) (b := 4) eσ452 (fun q => absurd q.1 (by decide))).trans (k444.trans (k8)))), k579.trans (k463.trans ((kq (a := 2) (b := 4) eσ452 (fun q => absurd q.1 (by decide))).trans (k445.trans (k9)))), k580.trans (k464.trans ((kq (a := 2) (b := 5) eσ452 (fun q => absurd q.1 (by decide))).trans (k446.trans (k10)))), k581.trans (k465.trans ((kq (a := 2) (b := 6) eσ452 (fun q => absurd q.1 (by decide))).trans (k447.trans (k11)))), k582.trans (k466.trans ((kq (a := 3) (b := 8) eσ452 (fun q => absurd q.2 (by decide))).trans (k448.trans (k12))))⟩)
            · first | have f585 := (noteqE (rfl : (σ457.1 3 11).toInt = (σ457.1 3 11).toInt) (show (0 : Int32).toInt = 0 from by decide)).mp c539 | skip
              exact hQ _ hσ457 (⟨k459.trans ((kq (a := 9) (b := 9) eσ452 (fun q => absurd q.1 (by decide))).trans (k441.trans (k5))), k460.trans ((kq (a := 9) (b := 10) eσ452 (fun q => absurd q.1 (by decide))).trans (k442.trans (k6))), k461.trans ((kq (a := 6) (b := 5) eσ452 (fun q => absurd q.1 (by decide))).trans (k443.trans (k7))), k462.trans ((kq (a := 7) (b := 4) eσ452 (fun q => absurd q.1 (by decide))).trans (k444.trans (k8))), k463.trans ((kq (a := 2) (b := 4) eσ452 (fun q => absurd q.1 (by decide))).trans (k445.trans (k9))), k464.trans ((kq (a := 2) (b := 5) eσ452 (fun q => absurd q.1 (by decide))).trans (k446.trans (k10))), k465.trans ((kq (a := 2) (b := 6) eσ452 (fun q => absurd q.1 (by decide))).trans (k447.trans (k11))), k466.trans ((kq (a := 3) (b := 8) eσ452 (fun q => absurd q.2 (by decide))).trans (k448.trans (k12)))⟩)
        · first | have f587 := (noteqE (rfl : x2.toInt = x2.toInt) (show (10 : Int32).toInt = 10 from by decide)).mp c453 | skip
          refine ⟨fun c588 => ?_, fun c588 => ?_⟩
          · first | have f590 := (eqE (rfl : x2.toInt = x2.toInt) (show (11 : Int32).toInt = 11 from by decide)).mp c588 | skip
            unfold fX2_enterThing_j50
            refine sX2_readArguments hN hσ452 (fun σ592 hσ592 kk602 => ?_)
            obtain ⟨k593, k594, k595, k596, k597, k598, k599, k600, k601⟩ := kk602
            unfold fX2_enterThing_j57
            refine ⟨fun c603 => ?_, fun c603 => ?_⟩
            · have f604 := tB (σ592.1 3 11)
              first | have f605 := (eqE (rfl : (σ592.1 3 11).toInt = (σ592.1 3 11).toInt) (show (0 : Int32).toInt = 0 from by decide)).mp c603 | skip
              have f606 := tB r450
              refine sX2_readByte hN hσ592 (fun r619 σ607 hσ607 kk618 p620 => ?_)
              obtain ⟨k608, k609, k610, k611, k612, k613, k614, k615, k616, k617⟩ := kk618
              unfold fX2_enterThing_j73
              refine ⟨fun c621 => ?_, fun c621 => ?_⟩
              · have f622 := tB (σ607.1 3 11)
                first | have f623 := (eqE (rfl : (σ607.1 3 11).toInt = (σ607.1 3 11).toInt) (show (0 : Int32).toInt = 0 from by decide)).mp c621 | skip
                refine ⟨fun c624 => ?_, fun c624 => ?_⟩
                · have f625 := tB r619
                  first | have f626 := (eqE (rfl : r619.toInt = r619.toInt) (show (192 : Int32).toInt = 192 from by decide)).mp c624 | skip
                  unfold fX2_enterThing_j99
                  refine sX2_callFunction hN hσ607 (fun σ628 hσ628 kk638 => ?_)
                  obtain ⟨k629, k630, k631, k632, k633, k634, k635, k636, k637⟩ := kk638
                  exact hQ _ hσ628 (⟨k630.trans (k610.trans (k594.trans ((kq (a := 9) (b := 9) eσ452 (fun q => absurd q.1 (by decide))).trans (k441.trans (k5))))), k631.trans (k611.trans (k595.trans ((kq (a := 9) (b := 10) eσ452 (fun q => absurd q.1 (by decide))).trans (k442.trans (k6))))), k632.trans (k612.trans (k596.trans ((kq (a := 6) (b := 5) eσ452 (fun q => absurd q.1 (by decide))).trans (k443.trans (k7))))), k633.trans (k613.trans (k597.trans ((kq (a := 7) (b := 4) eσ452 (fun q => absurd q.1 (by decide))).trans (k444.trans (k8))))), k634.trans (k614.trans (k598.trans ((kq (a := 2) (b := 4) eσ452 (fun q => absurd q.1 (by decide))).trans (k445.trans (k9))))), k635.trans (k615.trans (k599.trans ((kq (a := 2) (b := 5) eσ452 (fun q => absurd q.1 (by decide))).trans (k446.trans (k10))))), k636.trans (k616.trans (k600.trans ((kq (a := 2) (b := 6) eσ452 (fun q => absurd q.1 (by decide))).trans (k447.trans (k11))))), k637.trans (k617.trans (k601.trans ((kq (a := 3) (b := 8) eσ452 (fun q => absurd q.2 (by decide))).trans (k448.trans (k12)))))⟩)
                · have f639 := tB r619
                  first | have f640 := (noteqE (rfl : r619.toInt = r619.toInt) (show (192 : Int32).toInt = 192 from by decide)).mp c624 | skip
                  refine ⟨fun c641 => ?_, fun c641 => ?_⟩
                  · first | have f643 := (eqE (rfl : r619.toInt = r619.toInt) (show (193 : Int32).toInt = 193 from by decide)).mp c641 | skip
                    unfold fX2_enterThing_j99
                    refine sX2_callFunction hN hσ607 (fun σ645 hσ645 kk655 => ?_)
                    obtain ⟨k646, k647, k648, k649, k650, k651, k652, k653, k654⟩ := kk655
                    exact hQ _ hσ645 (⟨k647.trans (k610.trans (k594.trans ((kq (a := 9) (b := 9) eσ452 (fun q => absurd q.1 (by decide))).trans (k441.trans (k5))))), k648.trans (k611.trans (k595.trans ((kq (a := 9) (b := 10) eσ452 (fun q => absurd q.1 (by decide))).trans (k442.trans (k6))))), k649.trans (k612.trans (k596.trans ((kq (a := 6) (b := 5) eσ452 (fun q => absurd q.1 (by decide))).trans (k443.trans (k7))))), k650.trans (k613.trans (k597.trans ((kq (a := 7) (b := 4) eσ452 (fun q => absurd q.1 (by decide))).trans (k444.trans (k8))))), k651.trans (k614.trans (k598.trans ((kq (a := 2) (b := 4) eσ452 (fun q => absurd q.1 (by decide))).trans (k445.trans (k9))))), k652.trans (k615.trans (k599.trans ((kq (a := 2) (b := 5) eσ452 (fun q => absurd q.1 (by decide))).trans (k446.trans (k10))))), k653.trans (k616.trans (k600.trans ((kq (a := 2) (b := 6) eσ452 (fun q => absurd q.1 (by decide))).trans (k447.trans (k11))))), k654.trans (k617.trans (k601.trans ((kq (a := 3) (b := 8) eσ452 (fun q => absurd q.2 (by decide))).trans (k448.trans (k12)))))⟩)
                  · first | have f657 := (noteqE (rfl : r619.toInt = r619.toInt) (show (193 : Int32).toInt = 193 from by decide)).mp c641 | skip
                    refine sX2_beginString hN hσ607 (fun σ659 hσ659 kk669 => ?_)
                    obtain ⟨k660, k661, k662, k663, k664, k665, k666, k667, k668⟩ := kk669
                    exact hQ _ hσ659 (⟨k661.trans (k610.trans (k594.trans ((kq (a := 9) (b := 9) eσ452 (fun q => absurd q.1 (by decide))).trans (k441.trans (k5))))), k662.trans (k611.trans (k595.trans ((kq (a := 9) (b := 10) eσ452 (fun q => absurd q.1 (by decide))).trans (k442.trans (k6))))), k663.trans (k612.trans (k596.trans ((kq (a := 6) (b := 5) eσ452 (fun q => absurd q.1 (by decide))).trans (k443.trans (k7))))), k664.trans (k613.trans (k597.trans ((kq (a := 7) (b := 4) eσ452 (fun q => absurd q.1 (by decide))).trans (k444.trans (k8))))), k665.trans (k614.trans (k598.trans ((kq (a := 2) (b := 4) eσ452 (fun q => absurd q.1 (by decide))).trans (k445.trans (k9))))), k666.trans (k615.trans (k599.trans ((kq (a := 2) (b := 5) eσ452 (fun q => absurd q.1 (by decide))).trans (k446.trans (k10))))), k667.trans (k616.trans (k600.trans ((kq (a := 2) (b := 6) eσ452 (fun q => absurd q.1 (by decide))).trans (k447.trans (k11))))), k668.trans (k617.trans (k601.trans ((kq (a := 3) (b := 8) eσ452 (fun q => absurd q.2 (by decide))).trans (k448.trans (k12)))))⟩)
              · have f670 := tB (σ607.1 3 11)
                first | have f671 := (noteqE (rfl : (σ607.1 3 11).toInt = (σ607.1 3 11).toInt) (show (0 : Int32).toInt = 0 from by decide)).mp c621 | skip
                exact hQ _ hσ607 (⟨k610.trans (k594.trans ((kq (a := 9) (b := 9) eσ452 (fun q => absurd q.1 (by decide))).trans (k441.trans (k5)))), k611.trans (k595.trans ((kq (a := 9) (b := 10) eσ452 (fun q => absurd q.1 (by decide))).trans (k442.trans (k6)))), k612.trans (k596.trans ((kq (a := 6) (b := 5) eσ452 (fun q => absurd q.1 (by decide))).trans (k443.trans (k7)))), k613.trans (k597.trans ((kq (a := 7) (b := 4) eσ452 (fun q => absurd q.1 (by decide))).trans (k444.trans (k8)))), k614.trans (k598.trans ((kq (a := 2) (b := 4) eσ452 (fun q => absurd q.1 (by decide))).trans (k445.trans (k9)))), k615.trans (k599.trans ((kq (a := 2) (b := 5) eσ452 (fun q => absurd q.1 (by decide))).trans (k446.trans (k10)))), k616.trans (k600.trans ((kq (a := 2) (b := 6) eσ452 (fun q => absurd q.1 (by decide))).trans (k447.trans (k11)))), k617.trans (k601.trans ((kq (a := 3) (b := 8) eσ452 (fun q => absurd q.2 (by decide))).trans (k448.trans (k12))))⟩)
            · have f672 := tB (σ592.1 3 11)
              first | have f673 := (noteqE (rfl : (σ592.1 3 11).toInt = (σ592.1 3 11).toInt) (show (0 : Int32).toInt = 0 from by decide)).mp c603 | skip
              unfold fX2_enterThing_j73
              refine ⟨fun c674 => ?_, fun c674 => ?_⟩
              · first | have f676 := (eqE (rfl : (σ592.1 3 11).toInt = (σ592.1 3 11).toInt) (show (0 : Int32).toInt = 0 from by decide)).mp c674 | skip
                refine ⟨fun c677 => ?_, fun c677 => ?_⟩
                · first | have f678 := (eqE (show (0 : Int32).toInt = 0 from by decide) (show (192 : Int32).toInt = 192 from by decide)).mp c677 | skip
                  unfold fX2_enterThing_j99
                  have f679 := tB r450
                  refine sX2_callFunction hN hσ592 (fun σ680 hσ680 kk690 => ?_)
                  obtain ⟨k681, k682, k683, k684, k685, k686, k687, k688, k689⟩ := kk690
                  exact hQ _ hσ680 (⟨k682.trans (k594.trans ((kq (a := 9) (b := 9) eσ452 (fun q => absurd q.1 (by decide))).trans (k441.trans (k5)))), k683.trans (k595.trans ((kq (a := 9) (b := 10) eσ452 (fun q => absurd q.1 (by decide))).trans (k442.trans (k6)))), k684.trans (k596.trans ((kq (a := 6) (b := 5) eσ452 (fun q => absurd q.1 (by decide))).trans (k443.trans (k7)))), k685.trans (k597.trans ((kq (a := 7) (b := 4) eσ452 (fun q => absurd q.1 (by decide))).trans (k444.trans (k8)))), k686.trans (k598.trans ((kq (a := 2) (b := 4) eσ452 (fun q => absurd q.1 (by decide))).trans (k445.trans (k9)))), k687.trans (k599.trans ((kq (a := 2) (b := 5) eσ452 (fun q => absurd q.1 (by decide))).trans (k446.trans (k10)))), k688.trans (k600.trans ((kq (a := 2) (b := 6) eσ452 (fun q => absurd q.1 (by decide))).trans (k447.trans (k11)))), k689.trans (k601.trans ((kq (a := 3) (b := 8) eσ452 (fun q => absurd q.2 (by decide))).trans (k448.trans (k12))))⟩)
                · first | have f691 := (noteqE (show (0 : Int32).toInt = 0 from by decide) (show (192 : Int32).toInt = 192 from by decide)).mp c677 | skip
                  refine ⟨fun c692 => ?_, fun c692 => ?_⟩
                  · first | have f693 := (eqE (show (0 : Int32).toInt = 0 from by decide) (show (193 : Int32).toInt = 193 from by decide)).mp c692 | skip
                    unfold fX2_enterThing_j99
                    have f694 := tB r450
                    refine sX2_callFunction hN hσ592 (fun σ695 hσ695 kk705 => ?_)
                    obtain ⟨k696, k697, k698, k699, k700, k701, k702, k703, k704⟩ := kk705
                    exact hQ _ hσ695 (⟨k697.trans (k594.trans ((kq (a := 9) (b := 9) eσ452 (fun q => absurd q.1 (by decide))).trans (k441.trans (k5)))), k698.trans (k595.trans ((kq (a := 9) (b := 10) eσ452 (fun q => absurd q.1 (by decide))).trans (k442.trans (k6)))), k699.trans (k596.trans ((kq (a := 6) (b := 5) eσ452 (fun q => absurd q.1 (by decide))).trans (k443.trans (k7)))), k700.trans (k597.trans ((kq (a := 7) (b := 4) eσ452 (fun q => absurd q.1 (by decide))).trans (k444.trans (k8)))), k701.trans (k598.trans ((kq (a := 2) (b := 4) eσ452 (fun q => absurd q.1 (by decide))).trans (k445.trans (k9)))), k702.trans (k599.trans ((kq (a := 2) (b := 5) eσ452 (fun q => absurd q.1 (by decide))).trans (k446.trans (k10)))), k703.trans (k600.trans ((kq (a := 2) (b := 6) eσ452 (fun q => absurd q.1 (by decide))).trans (k447.trans (k11)))), k704.trans (k601.trans ((kq (a := 3) (b := 8) eσ452 (fun q => absurd q.2 (by decide))).trans (k448.trans (k12))))⟩)
                  · first | have f706 := (noteqE (show (0 : Int32).toInt = 0 from by decide) (show (193 : Int32).toInt = 193 from by decide)).mp c692 | skip
                    have f707 := tB r450
                    refine sX2_beginString hN hσ592 (fun σ708 hσ708 kk718 => ?_)
                    obtain ⟨k709, k710, k711, k712, k713, k714, k715, k716, k717⟩ := kk718
                    exact hQ _ hσ708 (⟨k710.trans (k594.trans ((kq (a := 9) (b := 9) eσ452 (fun q => absurd q.1 (by decide))).trans (k441.trans (k5)))), k711.trans (k595.trans ((kq (a := 9) (b := 10) eσ452 (fun q => absurd q.1 (by decide))).trans (k442.trans (k6)))), k712.trans (k596.trans ((kq (a := 6) (b := 5) eσ452 (fun q => absurd q.1 (by decide))).trans (k443.trans (k7)))), k713.trans (k597.trans ((kq (a := 7) (b := 4) eσ452 (fun q => absurd q.1 (by decide))).trans (k444.trans (k8)))), k714.trans (k598.trans ((kq (a := 2) (b := 4) eσ452 (fun q => absurd q.1 (by decide))).trans (k445.trans (k9)))), k715.trans (k599.trans ((kq (a := 2) (b := 5) eσ452 (fun q => absurd q.1 (by decide))).trans (k446.trans (k10)))), k716.trans (k600.trans ((kq (a := 2) (b := 6) eσ452 (fun q => absurd q.1 (by decide))).trans (k447.trans (k11)))), k717.trans (k601.trans ((kq (a := 3) (b := 8) eσ452 (fun q => absurd q.2 (by decide))).trans (k448.trans (k12))))⟩)
              · first | have f720 := (noteqE (rfl : (σ592.1 3 11).toInt = (σ592.1 3 11).toInt) (show (0 : Int32).toInt = 0 from by decide)).mp c674 | skip
                exact hQ _ hσ592 (⟨k594.trans ((kq (a := 9) (b := 9) eσ452 (fun q => absurd q.1 (by decide))).trans (k441.trans (k5))), k595.trans ((kq (a := 9) (b := 10) eσ452 (fun q => absurd q.1 (by decide))).trans (k442.trans (k6))), k596.trans ((kq (a := 6) (b := 5) eσ452 (fun q => absurd q.1 (by decide))).trans (k443.trans (k7))), k597.trans ((kq (a := 7) (b := 4) eσ452 (fun q => absurd q.1 (by decide))).trans (k444.trans (k8))), k598.trans ((kq (a := 2) (b := 4) eσ452 (fun q => absurd q.1 (by decide))).trans (k445.trans (k9))), k599.trans ((kq (a := 2) (b := 5) eσ452 (fun q => absurd q.1 (by decide))).trans (k446.trans (k10))), k600.trans ((kq (a := 2) (b := 6) eσ452 (fun q => absurd q.1 (by decide))).trans (k447.trans (k11))), k601.trans ((kq (a := 3) (b := 8) eσ452 (fun q => absurd q.2 (by decide))).trans (k448.trans (k12)))⟩)
          · first | have f722 := (noteqE (rfl : x2.toInt = x2.toInt) (show (11 : Int32).toInt = 11 from by decide)).mp c588 | skip
            unfold fX2_enterThing_j57
            refine ⟨fun c723 => ?_, fun c723 => ?_⟩
            · have f724 := tB (σ452.1 3 11)
              have q725 : σ452.1 3 11 = σ438.1 3 11 := by rw [eσ452, u1_at]; exact if_neg (by decide)
              have f726 := congrArg Int32.toInt q725
              have f727 := tB (σ438.1 3 11)
              first | have f728 := (eqE (rfl : (σ452.1 3 11).toInt = (σ452.1 3 11).toInt) (show (0 : Int32).toInt = 0 from by decide)).mp c723 | skip
              have f729 := tB r450
              refine sX2_readByte hN hσ452 (fun r742 σ730 hσ730 kk741 p743 => ?_)
              obtain ⟨k731, k732, k733, k734, k735, k736, k737, k738, k739, k740⟩ := kk741
              unfold fX2_enterThing_j73
              refine ⟨fun c744 => ?_, fun c744 => ?_⟩
              · have f745 := tB (σ730.1 3 11)
                first | have f746 := (eqE (rfl : (σ730.1 3 11).toInt = (σ730.1 3 11).toInt) (show (0 : Int32).toInt = 0 from by decide)).mp c744 | skip
                refine ⟨fun c747 => ?_, fun c747 => ?_⟩
                · have f748 := tB r742
                  first | have f749 := (eqE (rfl : r742.toInt = r742.toInt) (show (192 : Int32).toInt = 192 from by decide)).mp c747 | skip
                  unfold fX2_enterThing_j99
                  refine sX2_callFunction hN hσ730 (fun σ751 hσ751 kk761 => ?_)
                  obtain ⟨k752, k753, k754, k755, k756, k757, k758, k759, k760⟩ := kk761
                  exact hQ _ hσ751 (⟨k753.trans (k733.trans ((kq (a := 9) (b := 9) eσ452 (fun q => absurd q.1 (by decide))).trans (k441.trans (k5)))), k754.trans (k734.trans ((kq (a := 9) (b := 10) eσ452 (fun q => absurd q.1 (by decide))).trans (k442.trans (k6)))), k755.trans (k735.trans ((kq (a := 6) (b := 5) eσ452 (fun q => absurd q.1 (by decide))).trans (k443.trans (k7)))), k756.trans (k736.trans ((kq (a := 7) (b := 4) eσ452 (fun q => absurd q.1 (by decide))).trans (k444.trans (k8)))), k757.trans (k737.trans ((kq (a := 2) (b := 4) eσ452 (fun q => absurd q.1 (by decide))).trans (k445.trans (k9)))), k758.trans (k738.trans ((kq (a := 2) (b := 5) eσ452 (fun q => absurd q.1 (by decide))).trans (k446.trans (k10)))), k759.trans (k739.trans ((kq (a := 2) (b := 6) eσ452 (fun q => absurd q.1 (by decide))).trans (k447.trans (k11)))), k760.trans (k740.trans ((kq (a := 3) (b := 8) eσ452 (fun q => absurd q.2 (by decide))).trans (k448.trans (k12))))⟩)
                · have f762 := tB r742
                  first | have f763 := (noteqE (rfl : r742.toInt = r742.toInt) (show (192 : Int32).toInt = 192 from by decide)).mp c747 | skip
                  refine ⟨fun c764 => ?_, fun c764 => ?_⟩
                  · first | have f766 := (eqE (rfl : r742.toInt = r742.toInt) (show (193 : Int32).toInt = 193 from by decide)).mp c764 | skip
                    unfold fX2_enterThing_j99
                    refine sX2_callFunction hN hσ730 (fun σ768 hσ768 kk778 => ?_)
                    obtain ⟨k769, k770, k771, k772, k773, k774, k775, k776, k777⟩ := kk778
                    exact hQ _ hσ768 (⟨k770.trans (k733.trans ((kq (a := 9) (b := 9) eσ452 (fun q => absurd q.1 (by decide))).trans (k441.trans (k5)))), k771.trans (k734.trans ((kq (a := 9) (b := 10) eσ452 (fun q => absurd q.1 (by decide))).trans (k442.trans (k6)))), k772.trans (k735.trans ((kq (a := 6) (b := 5) eσ452 (fun q => absurd q.1 (by decide))).trans (k443.trans (k7)))), k773.trans (k736.trans ((kq (a := 7) (b := 4) eσ452 (fun q => absurd q.1 (by decide))).trans (k444.trans (k8)))), k774.trans (k737.trans ((kq (a := 2) (b := 4) eσ452 (fun q => absurd q.1 (by decide))).trans (k445.trans (k9)))), k775.trans (k738.trans ((kq (a := 2) (b := 5) eσ452 (fun q => absurd q.1 (by decide))).trans (k446.trans (k10)))), k776.trans (k739.trans ((kq (a := 2) (b := 6) eσ452 (fun q => absurd q.1 (by decide))).trans (k447.trans (k11)))), k777.trans (k740.trans ((kq (a := 3) (b := 8) eσ452 (fun q => absurd q.2 (by decide))).trans (k448.trans (k12))))⟩)
                  · first | have f780 := (noteqE (rfl : r742.toInt = r742.toInt) (show (193 : Int32).toInt = 193 from by decide)).mp c764 | skip
                    refine sX2_beginString hN hσ730 (fun σ782 hσ782 kk792 => ?_)
                    obtain ⟨k783, k784, k785, k786, k787, k788, k789, k790, k791⟩ := kk792
                    exact hQ _ hσ782 (⟨k784.trans (k733.trans ((kq (a := 9) (b := 9) eσ452 (fun q => absurd q.1 (by decide))).trans (k441.trans (k5)))), k785.trans (k734.trans ((kq (a := 9) (b := 10) eσ452 (fun q => absurd q.1 (by decide))).trans (k442.trans (k6)))), k786.trans (k735.trans ((kq (a := 6) (b := 5) eσ452 (fun q => absurd q.1 (by decide))).trans (k443.trans (k7)))), k787.trans (k736.trans ((kq (a := 7) (b := 4) eσ452 (fun q => absurd q.1 (by decide))).trans (k444.trans (k8)))), k788.trans (k737.trans ((kq (a := 2) (b := 4) eσ452 (fun q => absurd q.1 (by decide))).trans (k445.trans (k9)))), k789.trans (k738.trans ((kq (a := 2) (b := 5) eσ452 (fun q => absurd q.1 (by decide))).trans (k446.trans (k10)))), k790.trans (k739.trans ((kq (a := 2) (b := 6) eσ452 (fun q => absurd q.1 (by decide))).trans (k447.trans (k11)))), k791.trans (k740.trans ((kq (a := 3) (b := 8) eσ452 (fun q => absurd q.2 (by decide))).trans (k448.trans (k12))))⟩)
              · have f793 := tB (σ730.1 3 11)
                first | have f794 := (noteqE (rfl : (σ730.1 3 11).toInt = (σ730.1 3 11).toInt) (show (0 : Int32).toInt = 0 from by decide)).mp c744 | skip
                exact hQ _ hσ730 (⟨k733.trans ((kq (a := 9) (b := 9) eσ452 (fun q => absurd q.1 (by decide))).trans (k441.trans (k5))), k734.trans ((kq (a := 9) (b := 10) eσ452 (fun q => absurd q.1 (by decide))).trans (k442.trans (k6))), k735.trans ((kq (a := 6) (b := 5) eσ452 (fun q => absurd q.1 (by decide))).trans (k443.trans (k7))), k736.trans ((kq (a := 7) (b := 4) eσ452 (fun q => absurd q.1 (by decide))).trans (k444.trans (k8))), k737.trans ((kq (a := 2) (b := 4) eσ452 (fun q => absurd q.1 (by decide))).trans (k445.trans (k9))), k738.trans ((kq (a := 2) (b := 5) eσ452 (fun q => absurd q.1 (by decide))).trans (k446.trans (k10))), k739.trans ((kq (a := 2) (b := 6) eσ452 (fun q => absurd q.1 (by decide))).trans (k447.trans (k11))), k740.trans ((kq (a := 3) (b := 8) eσ452 (fun q => absurd q.2 (by decide))).trans (k448.trans (k12)))⟩)
            · have f795 := tB (σ452.1 3 11)
              have q796 : σ452.1 3 11 = σ438.1 3 11 := by rw [eσ452, u1_at]; exact if_neg (by decide)
              have f797 := congrArg Int32.toInt q796
              have f798 := tB (σ438.1 3 11)
              first | have f799 := (noteqE (rfl : (σ452.1 3 11).toInt = (σ452.1 3 11).toInt) (show (0 : Int32).toInt = 0 from by decide)).mp c723 | skip
              unfold fX2_enterThing_j73
              refine ⟨fun c800 => ?_, fun c800 => ?_⟩
              · first | have f802 := (eqE (rfl : (σ452.1 3 11).toInt = (σ452.1 3 11).toInt) (show (0 : Int32).toInt = 0 from by decide)).mp c800 | skip
                refine ⟨fun c803 => ?_, fun c803 => ?_⟩
                · first | have f804 := (eqE (show (0 : Int32).toInt = 0 from by decide) (show (192 : Int32).toInt = 192 from by decide)).mp c803 | skip
                  unfold fX2_enterThing_j99
                  have f805 := tB r450
                  refine sX2_callFunction hN hσ452 (fun σ806 hσ806 kk816 => ?_)
                  obtain ⟨k807, k808, k809, k810, k811, k812, k813, k814, k815⟩ := kk816
                  exact hQ _ hσ806 (⟨k808.trans ((kq (a := 9) (b := 9) eσ452 (fun q => absurd q.1 (by decide))).trans (k441.trans (k5))), k809.trans ((kq (a := 9) (b := 10) eσ452 (fun q => absurd q.1 (by decide))).trans (k442.trans (k6))), k810.trans ((kq (a := 6) (b := 5) eσ452 (fun q => absurd q.1 (by decide))).trans (k443.trans (k7))), k811.trans ((kq (a := 7) (b := 4) eσ452 (fun q => absurd q.1 (by decide))).trans (k444.trans (k8))), k812.trans ((kq (a := 2) (b := 4) eσ452 (fun q => absurd q.1 (by decide))).trans (k445.trans (k9))), k813.trans ((kq (a := 2) (b := 5) eσ452 (fun q => absurd q.1 (by decide))).trans (k446.trans (k10))), k814.trans ((kq (a := 2) (b := 6) eσ452 (fun q => absurd q.1 (by decide))).trans (k447.trans (k11))), k815.trans ((kq (a := 3) (b := 8) eσ452 (fun q => absurd q.2 (by decide))).trans (k448.trans (k12)))⟩)
                · first | have f817 := (noteqE (show (0 : Int32).toInt = 0 from by decide) (show (192 : Int32).toInt = 192 from by decide)).mp c803 | skip
                  refine ⟨fun c818 => ?_, fun c818 => ?_⟩
                  · first | have f819 := (eqE (show (0 : Int32).toInt = 0 from by decide) (show (193 : Int32).toInt = 193 from by decide)).mp c818 | skip
                    unfold fX2_enterThing_j99
                    have f820 := tB r450
                    refine sX2_callFunction hN hσ452 (fun σ821 hσ821 kk831 => ?_)
                    obtain ⟨k822, k823, k824, k825, k826, k827, k828, k829, k830⟩ := kk831
                    exact hQ _ hσ821 (⟨k823.trans ((kq (a := 9) (b := 9) eσ452 (fun q => absurd q.1 (by decide))).trans (k441.trans (k5))), k824.trans ((kq (a := 9) (b := 10) eσ452 (fun q => absurd q.1 (by decide))).trans (k442.trans (k6))), k825.trans ((kq (a := 6) (b := 5) eσ452 (fun q => absurd q.1 (by decide))).trans (k443.trans (k7))), k826.trans ((kq (a := 7) (b := 4) eσ452 (fun q => absurd q.1 (by decide))).trans (k444.trans (k8))), k827.trans ((kq (a := 2) (b := 4) eσ452 (fun q => absurd q.1 (by decide))).trans (k445.trans (k9))), k828.trans ((kq (a := 2) (b := 5) eσ452 (fun q => absurd q.1 (by decide))).trans (k446.trans (k10))), k829.trans ((kq (a := 2) (b := 6) eσ452 (fun q => absurd q.1 (by decide))).trans (k447.trans (k11))), k830.trans ((kq (a := 3) (b := 8) eσ452 (fun q => absurd q.2 (by decide))).trans (k448.trans (k12)))⟩)
                  · first | have f832 := (noteqE (show (0 : Int32).toInt = 0 from by decide) (show (193 : Int32).toInt = 193 from by decide)).mp c818 | skip
                    have f833 := tB r450
                    refine sX2_beginString hN hσ452 (fun σ834 hσ834 kk844 => ?_)
                    obtain ⟨k835, k836, k837, k838, k839, k840, k841, k842, k843⟩ := kk844
                    exact hQ _ hσ834 (⟨k836.trans ((kq (a := 9) (b := 9) eσ452 (fun q => absurd q.1 (by decide))).trans (k441.trans (k5))), k837.trans ((kq (a := 9) (b := 10) eσ452 (fun q => absurd q.1 (by decide))).trans (k442.trans (k6))), k838.trans ((kq (a := 6) (b := 5) eσ452 (fun q => absurd q.1 (by decide))).trans (k443.trans (k7))), k839.trans ((kq (a := 7) (b := 4) eσ452 (fun q => absurd q.1 (by decide))).trans (k444.trans (k8))), k840.trans ((kq (a := 2) (b := 4) eσ452 (fun q => absurd q.1 (by decide))).trans (k445.trans (k9))), k841.trans ((kq (a := 2) (b := 5) eσ452 (fun q => absurd q.1 (by decide))).trans (k446.trans (k10))), k842.trans ((kq (a := 2) (b := 6) eσ452 (fun q => absurd q.1 (by decide))).trans (k447.trans (k11))), k843.trans ((kq (a := 3) (b := 8) eσ452 (fun q => absurd q.2 (by decide))).trans (k448.trans (k12)))⟩)
              · first | have f846 := (noteqE (rfl : (σ452.1 3 11).toInt = (σ452.1 3 11).toInt) (show (0 : Int32).toInt = 0 from by decide)).mp c800 | skip
                exact hQ _ hσ452 (⟨(kq (a := 9) (b := 9) eσ452 (fun q => absurd q.1 (by decide))).trans (k441.trans (k5)), (kq (a := 9) (b := 10) eσ452 (fun q => absurd q.1 (by decide))).trans (k442.trans (k6)), (kq (a := 6) (b := 5) eσ452 (fun q => absurd q.1 (by decide))).trans (k443.trans (k7)), (kq (a := 7) (b := 4) eσ452 (fun q => absurd q.1 (by decide))).trans (k444.trans (k8)), (kq (a := 2) (b := 4) eσ452 (fun q => absurd q.1 (by decide))).trans (k445.trans (k9)), (kq (a := 2) (b := 5) eσ452 (fun q => absurd q.1 (by decide))).trans (k446.trans (k10)), (kq (a := 2) (b := 6) eσ452 (fun q => absurd q.1 (by decide))).trans (k447.trans (k11)), (kq (a := 3) (b := 8) eσ452 (fun q => absurd q.2 (by decide))).trans (k448.trans (k12))⟩)
      · first | have f848 := (noteqE (rfl : x2.toInt = x2.toInt) (show (11 : Int32).toInt = 11 from by decide)).mp c434 | skip
        unfold fX2_enterThing_j33
        intro σ849 eσ849
        have hσ849 : K1 σ0 σ849 := by rw [eσ849]; exact hσ2.u (Rg1.r_3_6 (leP (show (0 : Int32).toInt = 0 from by decide) (by omega)) (geP (show (0 : Int32).toInt = 0 from by decide) (by omega))) (fun q => absurd q.1 (by decide)) (fun q => absurd q.1 (by decide))
        refine ⟨fun c850 => ?_, fun c850 => ?_⟩
        · first | have f852 := (eqE (rfl : x2.toInt = x2.toInt) (show (10 : Int32).toInt = 10 from by decide)).mp c850 | skip
          unfold fX2_enterThing_j50
          refine sX2_readArguments hN hσ849 (fun σ854 hσ854 kk864 => ?_)
          obtain ⟨k855, k856, k857, k858, k859, k860, k861, k862, k863⟩ := kk864
          unfold fX2_enterThing_j57
          refine ⟨fun c865 => ?_, fun c865 => ?_⟩
          · have f866 := tB (σ854.1 3 11)
            first | have f867 := (eqE (rfl : (σ854.1 3 11).toInt = (σ854.1 3 11).toInt) (show (0 : Int32).toInt = 0 from by decide)).mp c865 | skip
            have f868 := tB r14
            refine sX2_readByte hN hσ854 (fun r881 σ869 hσ869 kk880 p882 => ?_)
            obtain ⟨k870, k871, k872, k873, k874, k875, k876, k877, k878, k879⟩ := kk880
            unfold fX2_enterThing_j73
            refine ⟨fun c883 => ?_, fun c883 => ?_⟩
            · have f884 := tB (σ869.1 3 11)
              first | have f885 := (eqE (rfl : (σ869.1 3 11).toInt = (σ869.1 3 11).toInt) (show (0 : Int32).toInt = 0 from by decide)).mp c883 | skip
              refine ⟨fun c886 => ?_, fun c886 => ?_⟩
              · have f887 := tB r881
                first | have f888 := (eqE (rfl : r881.toInt = r881.toInt) (show (192 : Int32).toInt = 192 from by decide)).mp c886 | skip
                unfold fX2_enterThing_j99
                refine sX2_callFunction hN hσ869 (fun σ890 hσ890 kk900 => ?_)
                obtain ⟨k891, k892, k893, k894, k895, k896, k897, k898, k899⟩ := kk900
                exact hQ _ hσ890 (⟨k892.trans (k872.trans (k856.trans ((kq (a := 9) (b := 9) eσ849 (fun q => absurd q.1 (by decide))).trans (k5)))), k893.trans (k873.trans (k857.trans ((kq (a := 9) (b := 10) eσ849 (fun q => absurd q.1 (by decide))).trans (k6)))), k894.trans (k874.trans (k858.trans ((kq (a := 6) (b := 5) eσ849 (fun q => absurd q.1 (by decide))).trans (k7)))), k895.trans (k875.trans (k859.trans ((kq (a := 7) (b := 4) eσ849 (fun q => absurd q.1 (by decide))).trans (k8)))), k896.trans (k876.trans (k860.trans ((kq (a := 2) (b := 4) eσ849 (fun q => absurd q.1 (by decide))).trans (k9)))), k897.trans (k877.trans (k861.trans ((kq (a := 2) (b := 5) eσ849 (fun q => absurd q.1 (by decide))).trans (k10)))), k898.trans (k878.trans (k862.trans ((kq (a := 2) (b := 6) eσ849 (fun q => absurd q.1 (by decide))).trans (k11)))), k899.trans (k879.trans (k863.trans ((kq (a := 3) (b := 8) eσ849 (fun q => absurd q.2 (by decide))).trans (k12))))⟩)
              · have f901 := tB r881
                first | have f902 := (noteqE (rfl : r881.toInt = r881.toInt) (show (192 : Int32).toInt = 192 from by decide)).mp c886 | skip
                refine ⟨fun c903 => ?_, fun c903 => ?_⟩
                · first | have f905 := (eqE (rfl : r881.toInt = r881.toInt) (show (193 : Int32).toInt = 193 from by decide)).mp c903 | skip
                  unfold fX2_enterThing_j99
                  refine sX2_callFunction hN hσ869 (fun σ907 hσ907 kk917 => ?_)
                  obtain ⟨k908, k909, k910, k911, k912, k913, k914, k915, k916⟩ := kk917
                  exact hQ _ hσ907 (⟨k909.trans (k872.trans (k856.trans ((kq (a := 9) (b := 9) eσ849 (fun q => absurd q.1 (by decide))).trans (k5)))), k910.trans (k873.trans (k857.trans ((kq (a := 9) (b := 10) eσ849 (fun q => absurd q.1 (by decide))).trans (k6)))), k911.trans (k874.trans (k858.trans ((kq (a := 6) (b := 5) eσ849 (fun q => absurd q.1 (by decide))).trans (k7)))), k912.trans (k875.trans (k859.trans ((kq (a := 7) (b := 4) eσ849 (fun q => absurd q.1 (by decide))).trans (k8)))), k913.trans (k876.trans (k860.trans ((kq (a := 2) (b := 4) eσ849 (fun q => absurd q.1 (by decide))).trans (k9)))), k914.trans (k877.trans (k861.trans ((kq (a := 2) (b := 5) eσ849 (fun q => absurd q.1 (by decide))).trans (k10)))), k915.trans (k878.trans (k862.trans ((kq (a := 2) (b := 6) eσ849 (fun q => absurd q.1 (by decide))).trans (k11)))), k916.trans (k879.trans (k863.trans ((kq (a := 3) (b := 8) eσ849 (fun q => absurd q.2 (by decide))).trans (k12))))⟩)
                · first | have f919 := (noteqE (rfl : r881.toInt = r881.toInt) (show (193 : Int32).toInt = 193 from by decide)).mp c903 | skip
                  refine sX2_beginString hN hσ869 (fun σ921 hσ921 kk931 => ?_)
                  obtain ⟨k922, k923, k924, k925, k926, k927, k928, k929, k930⟩ := kk931
                  exact hQ _ hσ921 (⟨k923.trans (k872.trans (k856.trans ((kq (a := 9) (b := 9) eσ849 (fun q => absurd q.1 (by decide))).trans (k5)))), k924.trans (k873.trans (k857.trans ((kq (a := 9) (b := 10) eσ849 (fun q => absurd q.1 (by decide))).trans (k6)))), k925.trans (k874.trans (k858.trans ((kq (a := 6) (b := 5) eσ849 (fun q => absurd q.1 (by decide))).trans (k7)))), k926.trans (k875.trans (k859.trans ((kq (a := 7) (b := 4) eσ849 (fun q => absurd q.1 (by decide))).trans (k8)))), k927.trans (k876.trans (k860.trans ((kq (a := 2) (b := 4) eσ849 (fun q => absurd q.1 (by decide))).trans (k9)))), k928.trans (k877.trans (k861.trans ((kq (a := 2) (b := 5) eσ849 (fun q => absurd q.1 (by decide))).trans (k10)))), k929.trans (k878.trans (k862.trans ((kq (a := 2) (b := 6) eσ849 (fun q => absurd q.1 (by decide))).trans (k11)))), k930.trans (k879.trans (k863.trans ((kq (a := 3) (b := 8) eσ849 (fun q => absurd q.2 (by decide))).trans (k12))))⟩)
            · have f932 := tB (σ869.1 3 11)
              first | have f933 := (noteqE (rfl : (σ869.1 3 11).toInt = (σ869.1 3 11).toInt) (show (0 : Int32).toInt = 0 from by decide)).mp c883 | skip
              exact hQ _ hσ869 (⟨k872.trans (k856.trans ((kq (a := 9) (b := 9) eσ849 (fun q => absurd q.1 (by decide))).trans (k5))), k873.trans (k857.trans ((kq (a := 9) (b := 10) eσ849 (fun q => absurd q.1 (by decide))).trans (k6))), k874.trans (k858.trans ((kq (a := 6) (b := 5) eσ849 (fun q => absurd q.1 (by decide))).trans (k7))), k875.trans (k859.trans ((kq (a := 7) (b := 4) eσ849 (fun q => absurd q.1 (by decide))).trans (k8))), k876.trans (k860.trans ((kq (a := 2) (b := 4) eσ849 (fun q => absurd q.1 (by decide))).trans (k9))), k877.trans (k861.trans ((kq (a := 2) (b := 5) eσ849 (fun q => absurd q.1 (by decide))).trans (k10))), k878.trans (k862.trans ((kq (a := 2) (b := 6) eσ849 (fun q => absurd q.1 (by decide))).trans (k11))), k879.trans (k863.trans ((kq (a := 3) (b := 8) eσ849 (fun q => absurd q.2 (by decide))).trans (k12)))⟩)
          · have f934 := tB (σ854.1 3 11)
            first | have f935 := (noteqE (rfl : (σ854.1 3 11).toInt = (σ854.1 3 11).toInt) (show (0 : Int32).toInt = 0 from by decide)).mp c865 | skip
            unfold fX2_enterThing_j73
            refine ⟨fun c936 => ?_, fun c936 => ?_⟩
            · first | have f938 := (eqE (rfl : (σ854.1 3 11).toInt = (σ854.1 3 11).toInt) (show (0 : Int32).toInt = 0 from by decide)).mp c936 | skip
              refine ⟨fun c939 => ?_, fun c939 => ?_⟩
              · first | have f940 := (eqE (show (0 : Int32).toInt = 0 from by decide) (show (192 : Int32).toInt = 192 from by decide)).mp c939 | skip
                unfold fX2_enterThing_j99
                have f941 := tB r14
                refine sX2_callFunction hN hσ854 (fun σ942 hσ942 kk952 => ?_)
                obtain ⟨k943, k944, k945, k946, k947, k948, k949, k950, k951⟩ := kk952
                exact hQ _ hσ942 (⟨k944.trans (k856.trans ((kq (a := 9) (b := 9) eσ849 (fun q => absurd q.1 (by decide))).trans (k5))), k945.trans (k857.trans ((kq (a := 9) (b := 10) eσ849 (fun q => absurd q.1 (by decide))).trans (k6))), k946.trans (k858.trans ((kq (a := 6) (b := 5) eσ849 (fun q => absurd q.1 (by decide))).trans (k7))), k947.trans (k859.trans ((kq (a := 7) (b := 4) eσ849 (fun q => absurd q.1 (by decide))).trans (k8))), k948.trans (k860.trans ((kq (a := 2) (b := 4) eσ849 (fun q => absurd q.1 (by decide))).trans (k9))), k949.trans (k861.trans ((kq (a := 2) (b := 5) eσ849 (fun q => absurd q.1 (by decide))).trans (k10))), k950.trans (k862.trans ((kq (a := 2) (b := 6) eσ849 (fun q => absurd q.1 (by decide))).trans (k11))), k951.trans (k863.trans ((kq (a := 3) (b := 8) eσ849 (fun q => absurd q.2 (by decide))).trans (k12)))⟩)
              · first | have f953 := (noteqE (show (0 : Int32).toInt = 0 from by decide) (show (192 : Int32).toInt = 192 from by decide)).mp c939 | skip
                refine ⟨fun c954 => ?_, fun c954 => ?_⟩
                · first | have f955 := (eqE (show (0 : Int32).toInt = 0 from by decide) (show (193 : Int32).toInt = 193 from by decide)).mp c954 | skip
                  unfold fX2_enterThing_j99
                  have f956 := tB r14
                  refine sX2_callFunction hN hσ854 (fun σ957 hσ957 kk967 => ?_)
                  obtain ⟨k958, k959, k960, k961, k962, k963, k964, k965, k966⟩ := kk967
                  exact hQ _ hσ957 (⟨k959.trans (k856.trans ((kq (a := 9) (b := 9) eσ849 (fun q => absurd q.1 (by decide))).trans (k5))), k960.trans (k857.trans ((kq (a := 9) (b := 10) eσ849 (fun q => absurd q.1 (by decide))).trans (k6))), k961.trans (k858.trans ((kq (a := 6) (b := 5) eσ849 (fun q => absurd q.1 (by decide))).trans (k7))), k962.trans (k859.trans ((kq (a := 7) (b := 4) eσ849 (fun q => absurd q.1 (by decide))).trans (k8))), k963.trans (k860.trans ((kq (a := 2) (b := 4) eσ849 (fun q => absurd q.1 (by decide))).trans (k9))), k964.trans (k861.trans ((kq (a := 2) (b := 5) eσ849 (fun q => absurd q.1 (by decide))).trans (k10))), k965.trans (k862.trans ((kq (a := 2) (b := 6) eσ849 (fun q => absurd q.1 (by decide))).trans (k11))), k966.trans (k863.trans ((kq (a := 3) (b := 8) eσ849 (fun q => absurd q.2 (by decide))).trans (k12)))⟩)
                · first | have f968 := (noteqE (show (0 : Int32).toInt = 0 from by decide) (show (193 : Int32).toInt = 193 from by decide)).mp c954 | skip
                  have f969 := tB r14
                  refine sX2_beginString hN hσ854 (fun σ970 hσ970 kk980 => ?_)
                  obtain ⟨k971, k972, k973, k974, k975, k976, k977, k978, k979⟩ := kk980
                  exact hQ _ hσ970 (⟨k972.trans (k856.trans ((kq (a := 9) (b := 9) eσ849 (fun q => absurd q.1 (by decide))).trans (k5))), k973.trans (k857.trans ((kq (a := 9) (b := 10) eσ849 (fun q => absurd q.1 (by decide))).trans (k6))), k974.trans (k858.trans ((kq (a := 6) (b := 5) eσ849 (fun q => absurd q.1 (by decide))).trans (k7))), k975.trans (k859.trans ((kq (a := 7) (b := 4) eσ849 (fun q => absurd q.1 (by decide))).trans (k8))), k976.trans (k860.trans ((kq (a := 2) (b := 4) eσ849 (fun q => absurd q.1 (by decide))).trans (k9))), k977.trans (k861.trans ((kq (a := 2) (b := 5) eσ849 (fun q => absurd q.1 (by decide))).trans (k10))), k978.trans (k862.trans ((kq (a := 2) (b := 6) eσ849 (fun q => absurd q.1 (by decide))).trans (k11))), k979.trans (k863.trans ((kq (a := 3) (b := 8) eσ849 (fun q => absurd q.2 (by decide))).trans (k12)))⟩)
            · first | have f982 := (noteqE (rfl : (σ854.1 3 11).toInt = (σ854.1 3 11).toInt) (show (0 : Int32).toInt = 0 from by decide)).mp c936 | skip
              exact hQ _ hσ854 (⟨k856.trans ((kq (a := 9) (b := 9) eσ849 (fun q => absurd q.1 (by decide))).trans (k5)), k857.trans ((kq (a := 9) (b := 10) eσ849 (fun q => absurd q.1 (by decide))).trans (k6)), k858.trans ((kq (a := 6) (b := 5) eσ849 (fun q => absurd q.1 (by decide))).trans (k7)), k859.trans ((kq (a := 7) (b := 4) eσ849 (fun q => absurd q.1 (by decide))).trans (k8)), k860.trans ((kq (a := 2) (b := 4) eσ849 (fun q => absurd q.1 (by decide))).trans (k9)), k861.trans ((kq (a := 2) (b := 5) eσ849 (fun q => absurd q.1 (by decide))).trans (k10)), k862.trans ((kq (a := 2) (b := 6) eσ849 (fun q => absurd q.1 (by decide))).trans (k11)), k863.trans ((kq (a := 3) (b := 8) eσ849 (fun q => absurd q.2 (by decide))).trans (k12))⟩)
        · first | have f984 := (noteqE (rfl : x2.toInt = x2.toInt) (show (10 : Int32).toInt = 10 from by decide)).mp c850 | skip
          refine ⟨fun c985 => ?_, fun c985 => ?_⟩
          · first | have f987 := (eqE (rfl : x2.toInt = x2.toInt) (show (11 : Int32).toInt = 11 from by decide)).mp c985 | skip
            unfold fX2_enterThing_j50
            refine sX2_readArguments hN hσ849 (fun σ989 hσ989 kk999 => ?_)
            obtain ⟨k990, k991, k992, k993, k994, k995, k996, k997, k998⟩ := kk999
            unfold fX2_enterThing_j57
            refine ⟨fun c1000 => ?_, fun c1000 => ?_⟩
            · have f1001 := tB (σ989.1 3 11)
              first | have f1002 := (eqE (rfl : (σ989.1 3 11).toInt = (σ989.1 3 11).toInt) (show (0 : Int32).toInt = 0 from by decide)).mp c1000 | skip
              have f1003 := tB r14
              refine sX2_readByte hN hσ989 (fun r1016 σ1004 hσ1004 kk1015 p1017 => ?_)
              obtain ⟨k1005, k1006, k1007, k1008, k1009, k1010, k1011, k1012, k1013, k1014⟩ := kk1015
              unfold fX2_enterThing_j73
              refine ⟨fun c1018 => ?_, fun c1018 => ?_⟩
              · have f1019 := tB (σ1004.1 3 11)
                first | have f1020 := (eqE (rfl : (σ1004.1 3 11).toInt = (σ1004.1 3 11).toInt) (show (0 : Int32).toInt = 0 from by decide)).mp c1018 | skip
                refine ⟨fun c1021 => ?_, fun c1021 => ?_⟩
                · have f1022 := tB r1016
                  first | have f1023 := (eqE (rfl : r1016.toInt = r1016.toInt) (show (192 : Int32).toInt = 192 from by decide)).mp c1021 | skip
                  unfold fX2_enterThing_j99
                  refine sX2_callFunction hN hσ1004 (fun σ1025 hσ1025 kk1035 => ?_)
                  obtain ⟨k1026, k1027, k1028, k1029, k1030, k1031, k1032, k1033, k1034⟩ := kk1035
                  exact hQ _ hσ1025 (⟨k1027.trans (k1007.trans (k991.trans ((kq (a := 9) (b := 9) eσ849 (fun q => absurd q.1 (by decide))).trans (k5)))), k1028.trans (k1008.trans (k992.trans ((kq (a := 9) (b := 10) eσ849 (fun q => absurd q.1 (by decide))).trans (k6)))), k1029.trans (k1009.trans (k993.trans ((kq (a := 6) (b := 5) eσ849 (fun q => absurd q.1 (by decide))).trans (k7)))), k1030.trans (k1010.trans (k994.trans ((kq (a := 7) (b := 4) eσ849 (fun q => absurd q.1 (by decide))).trans (k8)))), k1031.trans (k1011.trans (k995.trans ((kq (a := 2) (b := 4) eσ849 (fun q => absurd q.1 (by decide))).trans (k9)))), k1032.trans (k1012.trans (k996.trans ((kq (a := 2) (b := 5) eσ849 (fun q => absurd q.1 (by decide))).trans (k10)))), k1033.trans (k1013.trans (k997.trans ((kq (a := 2) (b := 6) eσ849 (fun q => absurd q.1 (by decide))).trans (k11)))), k1034.trans (k1014.trans (k998.trans ((kq (a := 3) (b := 8) eσ849 (fun q => absurd q.2 (by decide))).trans (k12))))⟩)
                · have f1036 := tB r1016
                  first | have f1037 := (noteqE (rfl : r1016.toInt = r1016.toInt) (show (192 : Int32).toInt = 192 from by decide)).mp c1021 | skip
                  refine ⟨fun c1038 => ?_, fun c1038 => ?_⟩
                  · first | have f1040 := (eqE (rfl : r1016.toInt = r1016.toInt) (show (193 : Int32).toInt = 193 from by decide)).mp c1038 | skip
                    unfold fX2_enterThing_j99
                    refine sX2_callFunction hN hσ1004 (fun σ1042 hσ1042 kk1052 => ?_)
                    obtain ⟨k1043, k1044, k1045, k1046, k1047, k1048, k1049, k1050, k1051⟩ := kk1052
                    exact hQ _ hσ1042 (⟨k1044.trans (k1007.trans (k991.trans ((kq (a := 9) (b := 9) eσ849 (fun q => absurd q.1 (by decide))).trans (k5)))), k1045.trans (k1008.trans (k992.trans ((kq (a := 9) (b := 10) eσ849 (fun q => absurd q.1 (by decide))).trans (k6)))), k1046.trans (k1009.trans (k993.trans ((kq (a := 6) (b := 5) eσ849 (fun q => absurd q.1 (by decide))).trans (k7)))), k1047.trans (k1010.trans (k994.trans ((kq (a := 7) (b := 4) eσ849 (fun q => absurd q.1 (by decide))).trans (k8)))), k1048.trans (k1011.trans (k995.trans ((kq (a := 2) (b := 4) eσ849 (fun q => absurd q.1 (by decide))).trans (k9)))), k1049.trans (k1012.trans (k996.trans ((kq (a := 2) (b := 5) eσ849 (fun q => absurd q.1 (by decide))).trans (k10)))), k1050.trans (k1013.trans (k997.trans ((kq (a := 2) (b := 6) eσ849 (fun q => absurd q.1 (by decide))).trans (k11)))), k1051.trans (k1014.trans (k998.trans ((kq (a := 3) (b := 8) eσ849 (fun q => absurd q.2 (by decide))).trans (k12))))⟩)
                  · first | have f1054 := (noteqE (rfl : r1016.toInt = r1016.toInt) (show (193 : Int32).toInt = 193 from by decide)).mp c1038 | skip
                    refine sX2_beginString hN hσ1004 (fun σ1056 hσ1056 kk1066 => ?_)
                    obtain ⟨k1057, k1058, k1059, k1060, k1061, k1062, k1063, k1064, k1065⟩ := kk1066
                    exact hQ _ hσ1056 (⟨k1058.trans (k1007.trans (k991.trans ((kq (a := 9) (b := 9) eσ849 (fun q => absurd q.1 (by decide))).trans (k5)))), k1059.trans (k1008.trans (k992.trans ((kq (a := 9) (b := 10) eσ849 (fun q => absurd q.1 (by decide))).trans (k6)))), k1060.trans (k1009.trans (k993.trans ((kq (a := 6) (b := 5) eσ849 (fun q => absurd q.1 (by decide))).trans (k7)))), k1061.trans (k1010.trans (k994.trans ((kq (a := 7) (b := 4) eσ849 (fun q => absurd q.1 (by decide))).trans (k8)))), k1062.trans (k1011.trans (k995.trans ((kq (a := 2) (b := 4) eσ849 (fun q => absurd q.1 (by decide))).trans (k9)))), k1063.trans (k1012.trans (k996.trans ((kq (a := 2) (b := 5) eσ849 (fun q => absurd q.1 (by decide))).trans (k10)))), k1064.trans (k1013.trans (k997.trans ((kq (a := 2) (b := 6) eσ849 (fun q => absurd q.1 (by decide))).trans (k11)))), k1065.trans (k1014.trans (k998.trans ((kq (a := 3) (b := 8) eσ849 (fun q => absurd q.2 (by decide))).trans (k12))))⟩)
              · have f1067 := tB (σ1004.1 3 11)
                first | have f1068 := (noteqE (rfl : (σ1004.1 3 11).toInt = (σ1004.1 3 11).toInt) (show (0 : Int32).toInt = 0 from by decide)).mp c1018 | skip
                exact hQ _ hσ1004 (⟨k1007.trans (k991.trans ((kq (a := 9) (b := 9) eσ849 (fun q => absurd q.1 (by decide))).trans (k5))), k1008.trans (k992.trans ((kq (a := 9) (b := 10) eσ849 (fun q => absurd q.1 (by decide))).trans (k6))), k1009.trans (k993.trans ((kq (a := 6) (b := 5) eσ849 (fun q => absurd q.1 (by decide))).trans (k7))), k1010.trans (k994.trans ((kq (a := 7) (b := 4) eσ849 (fun q => absurd q.1 (by decide))).trans (k8))), k1011.trans (k995.trans ((kq (a := 2) (b := 4) eσ849 (fun q => absurd q.1 (by decide))).trans (k9))), k1012.trans (k996.trans ((kq (a := 2) (b := 5) eσ849 (fun q => absurd q.1 (by decide))).trans (k10))), k1013.trans (k997.trans ((kq (a := 2) (b := 6) eσ849 (fun q => absurd q.1 (by decide))).trans (k11))), k1014.trans (k998.trans ((kq (a := 3) (b := 8) eσ849 (fun q => absurd q.2 (by decide))).trans (k12)))⟩)
            · have f1069 := tB (σ989.1 3 11)
              first | have f1070 := (noteqE (rfl : (σ989.1 3 11).toInt = (σ989.1 3 11).toInt) (show (0 : Int32).toInt = 0 from by decide)).mp c1000 | skip
              unfold fX2_enterThing_j73
              refine ⟨fun c1071 => ?_, fun c1071 => ?_⟩
              · first | have f1073 := (eqE (rfl : (σ989.1 3 11).toInt = (σ989.1 3 11).toInt) (show (0 : Int32).toInt = 0 from by decide)).mp c1071 | skip
                refine ⟨fun c1074 => ?_, fun c1074 => ?_⟩
                · first | have f1075 := (eqE (show (0 : Int32).toInt = 0 from by decide) (show (192 : Int32).toInt = 192 from by decide)).mp c1074 | skip
                  unfold fX2_enterThing_j99
                  have f1076 := tB r14
                  refine sX2_callFunction hN hσ989 (fun σ1077 hσ1077 kk1087 => ?_)
                  obtain ⟨k1078, k1079, k1080, k1081, k1082, k1083, k1084, k1085, k1086⟩ := kk1087
                  exact hQ _ hσ1077 (⟨k1079.trans (k991.trans ((kq (a := 9) (b := 9) eσ849 (fun q => absurd q.1 (by decide))).trans (k5))), k1080.trans (k992.trans ((kq (a := 9) (b := 10) eσ849 (fun q => absurd q.1 (by decide))).trans (k6))), k1081.trans (k993.trans ((kq (a := 6) (b := 5) eσ849 (fun q => absurd q.1 (by decide))).trans (k7))), k1082.trans (k994.trans ((kq (a := 7) (b := 4) eσ849 (fun q => absurd q.1 (by decide))).trans (k8))), k1083.trans (k995.trans ((kq (a := 2) (b := 4) eσ849 (fun q => absurd q.1 (by decide))).trans (k9))), k1084.trans (k996.trans ((kq (a := 2) (b := 5) eσ849 (fun q => absurd q.1 (by decide))).trans (k10))), k1085.trans (k997.trans ((kq (a := 2) (b := 6) eσ849 (fun q => absurd q.1 (by decide))).trans (k11))), k1086.trans (k998.trans ((kq (a := 3) (b := 8) eσ849 (fun q => absurd q.2 (by decide))).trans (k12)))⟩)
                · first | have f1088 := (noteqE (show (0 : Int32).toInt = 0 from by decide) (show (192 : Int32).toInt = 192 from by decide)).mp c1074 | skip
                  refine ⟨fun c1089 => ?_, fun c1089 => ?_⟩
                  · first | have f1090 := (eqE (show (0 : Int32).toInt = 0 from by decide) (show (193 : Int32).toInt = 193 from by decide)).mp c1089 | skip
                    unfold fX2_enterThing_j99
                    have f1091 := tB r14
                    refine sX2_callFunction hN hσ989 (fun σ1092 hσ1092 kk1102 => ?_)
                    obtain ⟨k1093, k1094, k1095, k1096, k1097, k1098, k1099, k1100, k1101⟩ := kk1102
                    exact hQ _ hσ1092 (⟨k1094.trans (k991.trans ((kq (a := 9) (b := 9) eσ849 (fun q => absurd q.1 (by decide))).trans (k5))), k1095.trans (k992.trans ((kq (a := 9) (b := 10) eσ849 (fun q => absurd q.1 (by decide))).trans (k6))), k1096.trans (k993.trans ((kq (a := 6) (b := 5) eσ849 (fun q => absurd q.1 (by decide))).trans (k7))), k1097.trans (k994.trans ((kq (a := 7) (b := 4) eσ849 (fun q => absurd q.1 (by decide))).trans (k8))), k1098.trans (k995.trans ((kq (a := 2) (b := 4) eσ849 (fun q => absurd q.1 (by decide))).trans (k9))), k1099.trans (k996.trans ((kq (a := 2) (b := 5) eσ849 (fun q => absurd q.1 (by decide))).trans (k10))), k1100.trans (k997.trans ((kq (a := 2) (b := 6) eσ849 (fun q => absurd q.1 (by decide))).trans (k11))), k1101.trans (k998.trans ((kq (a := 3) (b := 8) eσ849 (fun q => absurd q.2 (by decide))).trans (k12)))⟩)
                  · first | have f1103 := (noteqE (show (0 : Int32).toInt = 0 from by decide) (show (193 : Int32).toInt = 193 from by decide)).mp c1089 | skip
                    have f1104 := tB r14
                    refine sX2_beginString hN hσ989 (fun σ1105 hσ1105 kk1115 => ?_)
                    obtain ⟨k1106, k1107, k1108, k1109, k1110, k1111, k1112, k1113, k1114⟩ := kk1115
                    exact hQ _ hσ1105 (⟨k1107.trans (k991.trans ((kq (a := 9) (b := 9) eσ849 (fun q => absurd q.1 (by decide))).trans (k5))), k1108.trans (k992.trans ((kq (a := 9) (b := 10) eσ849 (fun q => absurd q.1 (by decide))).trans (k6))), k1109.trans (k993.trans ((kq (a := 6) (b := 5) eσ849 (fun q => absurd q.1 (by decide))).trans (k7))), k1110.trans (k994.trans ((kq (a := 7) (b := 4) eσ849 (fun q => absurd q.1 (by decide))).trans (k8))), k1111.trans (k995.trans ((kq (a := 2) (b := 4) eσ849 (fun q => absurd q.1 (by decide))).trans (k9))), k1112.trans (k996.trans ((kq (a := 2) (b := 5) eσ849 (fun q => absurd q.1 (by decide))).trans (k10))), k1113.trans (k997.trans ((kq (a := 2) (b := 6) eσ849 (fun q => absurd q.1 (by decide))).trans (k11))), k1114.trans (k998.trans ((kq (a := 3) (b := 8) eσ849 (fun q => absurd q.2 (by decide))).trans (k12)))⟩)
              · first | have f1117 := (noteqE (rfl : (σ989.1 3 11).toInt = (σ989.1 3 11).toInt) (show (0 : Int32).toInt = 0 from by decide)).mp c1071 | skip
                exact hQ _ hσ989 (⟨k991.trans ((kq (a := 9) (b := 9) eσ849 (fun q => absurd q.1 (by decide))).trans (k5)), k992.trans ((kq (a := 9) (b := 10) eσ849 (fun q => absurd q.1 (by decide))).trans (k6)), k993.trans ((kq (a := 6) (b := 5) eσ849 (fun q => absurd q.1 (by decide))).trans (k7)), k994.trans ((kq (a := 7) (b := 4) eσ849 (fun q => absurd q.1 (by decide))).trans (k8)), k995.trans ((kq (a := 2) (b := 4) eσ849 (fun q => absurd q.1 (by decide))).trans (k9)), k996.trans ((kq (a := 2) (b := 5) eσ849 (fun q => absurd q.1 (by decide))).trans (k10)), k997.trans ((kq (a := 2) (b := 6) eσ849 (fun q => absurd q.1 (by decide))).trans (k11)), k998.trans ((kq (a := 3) (b := 8) eσ849 (fun q => absurd q.2 (by decide))).trans (k12))⟩)
          · first | have f1119 := (noteqE (rfl : x2.toInt = x2.toInt) (show (11 : Int32).toInt = 11 from by decide)).mp c985 | skip
            unfold fX2_enterThing_j57
            refine ⟨fun c1120 => ?_, fun c1120 => ?_⟩
            · have f1121 := tB (σ849.1 3 11)
              have q1122 : σ849.1 3 11 = σ2.1 3 11 := by rw [eσ849, u1_at]; exact if_neg (by decide)
              have f1123 := congrArg Int32.toInt q1122
              first | have f1125 := (eqE (rfl : (σ849.1 3 11).toInt = (σ849.1 3 11).toInt) (show (0 : Int32).toInt = 0 from by decide)).mp c1120 | skip
              have f1126 := tB r14
              refine sX2_readByte hN hσ849 (fun r1139 σ1127 hσ1127 kk1138 p1140 => ?_)
              obtain ⟨k1128, k1129, k1130, k1131, k1132, k1133, k1134, k1135, k1136, k1137⟩ := kk1138
              unfold fX2_enterThing_j73
              refine ⟨fun c1141 => ?_, fun c1141 => ?_⟩
              · have f1142 := tB (σ1127.1 3 11)
                first | have f1143 := (eqE (rfl : (σ1127.1 3 11).toInt = (σ1127.1 3 11).toInt) (show (0 : Int32).toInt = 0 from by decide)).mp c1141 | skip
                refine ⟨fun c1144 => ?_, fun c1144 => ?_⟩
                · have f1145 := tB r1139
                  first | have f1146 := (eqE (rfl : r1139.toInt = r1139.toInt) (show (192 : Int32).toInt = 192 from by decide)).mp c1144 | skip
                  unfold fX2_enterThing_j99
                  refine sX2_callFunction hN hσ1127 (fun σ1148 hσ1148 kk1158 => ?_)
                  obtain ⟨k1149, k1150, k1151, k1152, k1153, k1154, k1155, k1156, k1157⟩ := kk1158
                  exact hQ _ hσ1148 (⟨k1150.trans (k1130.trans ((kq (a := 9) (b := 9) eσ849 (fun q => absurd q.1 (by decide))).trans (k5))), k1151.trans (k1131.trans ((kq (a := 9) (b := 10) eσ849 (fun q => absurd q.1 (by decide))).trans (k6))), k1152.trans (k1132.trans ((kq (a := 6) (b := 5) eσ849 (fun q => absurd q.1 (by decide))).trans (k7))), k1153.trans (k1133.trans ((kq (a := 7) (b := 4) eσ849 (fun q => absurd q.1 (by decide))).trans (k8))), k1154.trans (k1134.trans ((kq (a := 2) (b := 4) eσ849 (fun q => absurd q.1 (by decide))).trans (k9))), k1155.trans (k1135.trans ((kq (a := 2) (b := 5) eσ849 (fun q => absurd q.1 (by decide))).trans (k10))), k1156.trans (k1136.trans ((kq (a := 2) (b := 6) eσ849 (fun q => absurd q.1 (by decide))).trans (k11))), k1157.trans (k1137.trans ((kq (a := 3) (b := 8) eσ849 (fun q => absurd q.2 (by decide))).trans (k12)))⟩)
                · have f1159 := tB r1139
                  first | have f1160 := (noteqE (rfl : r1139.toInt = r1139.toInt) (show (192 : Int32).toInt = 192 from by decide)).mp c1144 | skip
                  refine ⟨fun c1161 => ?_, fun c1161 => ?_⟩
                  · first | have f1163 := (eqE (rfl : r1139.toInt = r1139.toInt) (show (193 : Int32).toInt = 193 from by decide)).mp c1161 | skip
                    unfold fX2_enterThing_j99
                    refine sX2_callFunction hN hσ1127 (fun σ1165 hσ1165 kk1175 => ?_)
                    obtain ⟨k1166, k1167, k1168, k1169, k1170, k1171, k1172, k1173, k1174⟩ := kk1175
                    exact hQ _ hσ1165 (⟨k1167.trans (k1130.trans ((kq (a := 9) (b := 9) eσ849 (fun q => absurd q.1 (by decide))).trans (k5))), k1168.trans (k1131.trans ((kq (a := 9) (b := 10) eσ849 (fun q => absurd q.1 (by decide))).trans (k6))), k1169.trans (k1132.trans ((kq (a := 6) (b := 5) eσ849 (fun q => absurd q.1 (by decide))).trans (k7))), k1170.trans (k1133.trans ((kq (a := 7) (b := 4) eσ849 (fun q => absurd q.1 (by decide))).trans (k8))), k1171.trans (k1134.trans ((kq (a := 2) (b := 4) eσ849 (fun q => absurd q.1 (by decide))).trans (k9))), k1172.trans (k1135.trans ((kq (a := 2) (b := 5) eσ849 (fun q => absurd q.1 (by decide))).trans (k10))), k1173.trans (k1136.trans ((kq (a := 2) (b := 6) eσ849 (fun q => absurd q.1 (by decide))).trans (k11))), k1174.trans (k1137.trans ((kq (a := 3) (b := 8) eσ849 (fun q => absurd q.2 (by decide))).trans (k12)))⟩)
                  · first | have f1177 := (noteqE (rfl : r1139.toInt = r1139.toInt) (show (193 : Int32).toInt = 193 from by decide)).mp c1161 | skip
                    refine sX2_beginString hN hσ1127 (fun σ1179 hσ1179 kk1189 => ?_)
                    obtain ⟨k1180, k1181, k1182, k1183, k1184, k1185, k1186, k1187, k1188⟩ := kk1189
                    exact hQ _ hσ1179 (⟨k1181.trans (k1130.trans ((kq (a := 9) (b := 9) eσ849 (fun q => absurd q.1 (by decide))).trans (k5))), k1182.trans (k1131.trans ((kq (a := 9) (b := 10) eσ849 (fun q => absurd q.1 (by decide))).trans (k6))), k1183.trans (k1132.trans ((kq (a := 6) (b := 5) eσ849 (fun q => absurd q.1 (by decide))).trans (k7))), k1184.trans (k1133.trans ((kq (a := 7) (b := 4) eσ849 (fun q => absurd q.1 (by decide))).trans (k8))), k1185.trans (k1134.trans ((kq (a := 2) (b := 4) eσ849 (fun q => absurd q.1 (by decide))).trans (k9))), k1186.trans (k1135.trans ((kq (a := 2) (b := 5) eσ849 (fun q => absurd q.1 (by decide))).trans (k10))), k1187.trans (k1136.trans ((kq (a := 2) (b := 6) eσ849 (fun q => absurd q.1 (by decide))).trans (k11))), k1188.trans (k1137.trans ((kq (a := 3) (b := 8) eσ849 (fun q => absurd q.2 (by decide))).trans (k12)))⟩)
              · have f1190 := tB (σ1127.1 3 11)
                first | have f1191 := (noteqE (rfl : (σ1127.1 3 11).toInt = (σ1127.1 3 11).toInt) (show (0 : Int32).toInt = 0 from by decide)).mp c1141 | skip
                exact hQ _ hσ1127 (⟨k1130.trans ((kq (a := 9) (b := 9) eσ849 (fun q => absurd q.1 (by decide))).trans (k5)), k1131.trans ((kq (a := 9) (b := 10) eσ849 (fun q => absurd q.1 (by decide))).trans (k6)), k1132.trans ((kq (a := 6) (b := 5) eσ849 (fun q => absurd q.1 (by decide))).trans (k7)), k1133.trans ((kq (a := 7) (b := 4) eσ849 (fun q => absurd q.1 (by decide))).trans (k8)), k1134.trans ((kq (a := 2) (b := 4) eσ849 (fun q => absurd q.1 (by decide))).trans (k9)), k1135.trans ((kq (a := 2) (b := 5) eσ849 (fun q => absurd q.1 (by decide))).trans (k10)), k1136.trans ((kq (a := 2) (b := 6) eσ849 (fun q => absurd q.1 (by decide))).trans (k11)), k1137.trans ((kq (a := 3) (b := 8) eσ849 (fun q => absurd q.2 (by decide))).trans (k12))⟩)
            · have f1192 := tB (σ849.1 3 11)
              have q1193 : σ849.1 3 11 = σ2.1 3 11 := by rw [eσ849, u1_at]; exact if_neg (by decide)
              have f1194 := congrArg Int32.toInt q1193
              first | have f1196 := (noteqE (rfl : (σ849.1 3 11).toInt = (σ849.1 3 11).toInt) (show (0 : Int32).toInt = 0 from by decide)).mp c1120 | skip
              unfold fX2_enterThing_j73
              refine ⟨fun c1197 => ?_, fun c1197 => ?_⟩
              · first | have f1199 := (eqE (rfl : (σ849.1 3 11).toInt = (σ849.1 3 11).toInt) (show (0 : Int32).toInt = 0 from by decide)).mp c1197 | skip
                refine ⟨fun c1200 => ?_, fun c1200 => ?_⟩
                · first | have f1201 := (eqE (show (0 : Int32).toInt = 0 from by decide) (show (192 : Int32).toInt = 192 from by decide)).mp c1200 | skip
                  unfold fX2_enterThing_j99
                  have f1202 := tB r14
                  refine sX2_callFunction hN hσ849 (fun σ1203 hσ1203 kk1213 => ?_)
                  obtain ⟨k1204, k1205, k1206, k1207, k1208, k1209, k1210, k1211, k1212⟩ := kk1213
                  exact hQ _ hσ1203 (⟨k1205.trans ((kq (a := 9) (b := 9) eσ849 (fun q => absurd q.1 (by decide))).trans (k5)), k1206.trans ((kq (a := 9) (b := 10) eσ849 (fun q => absurd q.1 (by decide))).trans (k6)), k1207.trans ((kq (a := 6) (b := 5) eσ849 (fun q => absurd q.1 (by decide))).trans (k7)), k1208.trans ((kq (a := 7) (b := 4) eσ849 (fun q => absurd q.1 (by decide))).trans (k8)), k1209.trans ((kq (a := 2) (b := 4) eσ849 (fun q => absurd q.1 (by decide))).trans (k9)), k1210.trans ((kq (a := 2) (b := 5) eσ849 (fun q => absurd q.1 (by decide))).trans (k10)), k1211.trans ((kq (a := 2) (b := 6) eσ849 (fun q => absurd q.1 (by decide))).trans (k11)), k1212.trans ((kq (a := 3) (b := 8) eσ849 (fun q => absurd q.2 (by decide))).trans (k12))⟩)
                · first | have f1214 := (noteqE (show (0 : Int32).toInt = 0 from by decide) (show (192 : Int32).toInt = 192 from by decide)).mp c1200 | skip
                  refine ⟨fun c1215 => ?_, fun c1215 => ?_⟩
                  · first | have f1216 := (eqE (show (0 : Int32).toInt = 0 from by decide) (show (193 : Int32).toInt = 193 from by decide)).mp c1215 | skip
                    unfold fX2_enterThing_j99
                    have f1217 := tB r14
                    refine sX2_callFunction hN hσ849 (fun σ1218 hσ1218 kk1228 => ?_)
                    obtain ⟨k1219, k1220, k1221, k1222, k1223, k1224, k1225, k1226, k1227⟩ := kk1228
                    exact hQ _ hσ1218 (⟨k1220.trans ((kq (a := 9) (b := 9) eσ849 (fun q => absurd q.1 (by decide))).trans (k5)), k1221.trans ((kq (a := 9) (b := 10) eσ849 (fun q => absurd q.1 (by decide))).trans (k6)), k1222.trans ((kq (a := 6) (b := 5) eσ849 (fun q => absurd q.1 (by decide))).trans (k7)), k1223.trans ((kq (a := 7) (b := 4) eσ849 (fun q => absurd q.1 (by decide))).trans (k8)), k1224.trans ((kq (a := 2) (b := 4) eσ849 (fun q => absurd q.1 (by decide))).trans (k9)), k1225.trans ((kq (a := 2) (b := 5) eσ849 (fun q => absurd q.1 (by decide))).trans (k10)), k1226.trans ((kq (a := 2) (b := 6) eσ849 (fun q => absurd q.1 (by decide))).trans (k11)), k1227.trans ((kq (a := 3) (b := 8) eσ849 (fun q => absurd q.2 (by decide))).trans (k12))⟩)
                  · first | have f1229 := (noteqE (show (0 : Int32).toInt = 0 from by decide) (show (193 : Int32).toInt = 193 from by decide)).mp c1215 | skip
                    have f1230 := tB r14
                    refine sX2_beginString hN hσ849 (fun σ1231 hσ1231 kk1241 => ?_)
                    obtain ⟨k1232, k1233, k1234, k1235, k1236, k1237, k1238, k1239, k1240⟩ := kk1241
                    exact hQ _ hσ1231 (⟨k1233.trans ((kq (a := 9) (b := 9) eσ849 (fun q => absurd q.1 (by decide))).trans (k5)), k1234.trans ((kq (a := 9) (b := 10) eσ849 (fun q => absurd q.1 (by decide))).trans (k6)), k1235.trans ((kq (a := 6) (b := 5) eσ849 (fun q => absurd q.1 (by decide))).trans (k7)), k1236.trans ((kq (a := 7) (b := 4) eσ849 (fun q => absurd q.1 (by decide))).trans (k8)), k1237.trans ((kq (a := 2) (b := 4) eσ849 (fun q => absurd q.1 (by decide))).trans (k9)), k1238.trans ((kq (a := 2) (b := 5) eσ849 (fun q => absurd q.1 (by decide))).trans (k10)), k1239.trans ((kq (a := 2) (b := 6) eσ849 (fun q => absurd q.1 (by decide))).trans (k11)), k1240.trans ((kq (a := 3) (b := 8) eσ849 (fun q => absurd q.2 (by decide))).trans (k12))⟩)
              · first | have f1243 := (noteqE (rfl : (σ849.1 3 11).toInt = (σ849.1 3 11).toInt) (show (0 : Int32).toInt = 0 from by decide)).mp c1197 | skip
                exact hQ _ hσ849 (⟨(kq (a := 9) (b := 9) eσ849 (fun q => absurd q.1 (by decide))).trans (k5), (kq (a := 9) (b := 10) eσ849 (fun q => absurd q.1 (by decide))).trans (k6), (kq (a := 6) (b := 5) eσ849 (fun q => absurd q.1 (by decide))).trans (k7), (kq (a := 7) (b := 4) eσ849 (fun q => absurd q.1 (by decide))).trans (k8), (kq (a := 2) (b := 4) eσ849 (fun q => absurd q.1 (by decide))).trans (k9), (kq (a := 2) (b := 5) eσ849 (fun q => absurd q.1 (by decide))).trans (k10), (kq (a := 2) (b := 6) eσ849 (fun q => absurd q.1 (by decide))).trans (k11), (kq (a := 3) (b := 8) eσ849 (fun q => absurd q.2 (by decide))).trans (k12)⟩)
  · have f1244 := tB (σ2.1 3 11)
    first | have f1245 := (noteqE (rfl : (σ2.1 3 11).toInt = (σ2.1 3 11).toInt) (show (0 : Int32).toInt = 0 from by decide)).mp c16 | skip
    unfold fX2_enterThing_j33
    intro σ1246 eσ1246
    have hσ1246 : K1 σ0 σ1246 := by rw [eσ1246]; exact hσ2.u (Rg1.r_3_6 (leP (show (0 : Int32).toInt = 0 from by decide) (by omega)) (geP (show (0 : Int32).toInt = 0 from by decide) (by omega))) (fun q => absurd q.1 (by decide)) (fun q => absurd q.1 (by decide))
    refine ⟨fun c1247 => ?_, fun c1247 => ?_⟩
    · have f1248 := tB x2
      first | have f1249 := (eqE (rfl : x2.toInt = x2.toInt) (show (10 : Int32).toInt = 10 from by decide)).mp c1247 | skip
      unfold fX2_enterThing_j50
      refine sX2_readArguments hN hσ1246 (fun σ1251 hσ1251 kk1261 => ?_)
      obtain ⟨k1252, k1253, k1254, k1255, k1256, k1257, k1258, k1259, k1260⟩ := kk1261
      unfold fX2_enterThing_j57
      refine ⟨fun c1262 => ?_, fun c1262 => ?_⟩
      · have f1263 := tB (σ1251.1 3 11)
        first | have f1264 := (eqE (rfl : (σ1251.1 3 11).toInt = (σ1251.1 3 11).toInt) (show (0 : Int32).toInt = 0 from by decide)).mp c1262 | skip
        have f1265 := tB r14
        refine sX2_readByte hN hσ1251 (fun r1278 σ1266 hσ1266 kk1277 p1279 => ?_)
        obtain ⟨k1267, k1268, k1269, k1270, k1271, k1272, k1273, k1274, k1275, k1276⟩ := kk1277
        unfold fX2_enterThing_j73
        refine ⟨fun c1280 => ?_, fun c1280 => ?_⟩
        · have f1281 := tB (σ1266.1 3 11)
          first | have f1282 := (eqE (rfl : (σ1266.1 3 11).toInt = (σ1266.1 3 11).toInt) (show (0 : Int32).toInt = 0 from by decide)).mp c1280 | skip
          refine ⟨fun c1283 => ?_, fun c1283 => ?_⟩
          · have f1284 := tB r1278
            first | have f1285 := (eqE (rfl : r1278.toInt = r1278.toInt) (show (192 : Int32).toInt = 192 from by decide)).mp c1283 | skip
            unfold fX2_enterThing_j99
            refine sX2_callFunction hN hσ1266 (fun σ1287 hσ1287 kk1297 => ?_)
            obtain ⟨k1288, k1289, k1290, k1291, k1292, k1293, k1294, k1295, k1296⟩ := kk1297
            exact hQ _ hσ1287 (⟨k1289.trans (k1269.trans (k1253.trans ((kq (a := 9) (b := 9) eσ1246 (fun q => absurd q.1 (by decide))).trans (k5)))), k1290.trans (k1270.trans (k1254.trans ((kq (a := 9) (b := 10) eσ1246 (fun q => absurd q.1 (by decide))).trans (k6)))), k1291.trans (k1271.trans (k1255.trans ((kq (a := 6) (b := 5) eσ1246 (fun q => absurd q.1 (by decide))).trans (k7)))), k1292.trans (k1272.trans (k1256.trans ((kq (a := 7) (b := 4) eσ1246 (fun q => absurd q.1 (by decide))).trans (k8)))), k1293.trans (k1273.trans (k1257.trans ((kq (a := 2) (b := 4) eσ1246 (fun q => absurd q.1 (by decide))).trans (k9)))), k1294.trans (k1274.trans (k1258.trans ((kq (a := 2) (b := 5) eσ1246 (fun q => absurd q.1 (by decide))).trans (k10)))), k1295.trans (k1275.trans (k1259.trans ((kq (a := 2) (b := 6) eσ1246 (fun q => absurd q.1 (by decide))).trans (k11)))), k1296.trans (k1276.trans (k1260.trans ((kq (a := 3) (b := 8) eσ1246 (fun q => absurd q.2 (by decide))).trans (k12))))⟩)
          · have f1298 := tB r1278
            first | have f1299 := (noteqE (rfl : r1278.toInt = r1278.toInt) (show (192 : Int32).toInt = 192 from by decide)).mp c1283 | skip
            refine ⟨fun c1300 => ?_, fun c1300 => ?_⟩
            · first | have f1302 := (eqE (rfl : r1278.toInt = r1278.toInt) (show (193 : Int32).toInt = 193 from by decide)).mp c1300 | skip
              unfold fX2_enterThing_j99
              refine sX2_callFunction hN hσ1266 (fun σ1304 hσ1304 kk1314 => ?_)
              obtain ⟨k1305, k1306, k1307, k1308, k1309, k1310, k1311, k1312, k1313⟩ := kk1314
              exact hQ _ hσ1304 (⟨k1306.trans (k1269.trans (k1253.trans ((kq (a := 9) (b := 9) eσ1246 (fun q => absurd q.1 (by decide))).trans (k5)))), k1307.trans (k1270.trans (k1254.trans ((kq (a := 9) (b := 10) eσ1246 (fun q => absurd q.1 (by decide))).trans (k6)))), k1308.trans (k1271.trans (k1255.trans ((kq (a := 6) (b := 5) eσ1246 (fun q => absurd q.1 (by decide))).trans (k7)))), k1309.trans (k1272.trans (k1256.trans ((kq (a := 7) (b := 4) eσ1246 (fun q => absurd q.1 (by decide))).trans (k8)))), k1310.trans (k1273.trans (k1257.trans ((kq (a := 2) (b := 4) eσ1246 (fun q => absurd q.1 (by decide))).trans (k9)))), k1311.trans (k1274.trans (k1258.trans ((kq (a := 2) (b := 5) eσ1246 (fun q => absurd q.1 (by decide))).trans (k10)))), k1312.trans (k1275.trans (k1259.trans ((kq (a := 2) (b := 6) eσ1246 (fun q => absurd q.1 (by decide))).trans (k11)))), k1313.trans (k1276.trans (k1260.trans ((kq (a := 3) (b := 8) eσ1246 (fun q => absurd q.2 (by decide))).trans (k12))))⟩)
            · first | have f1316 := (noteqE (rfl : r1278.toInt = r1278.toInt) (show (193 : Int32).toInt = 193 from by decide)).mp c1300 | skip
              refine sX2_beginString hN hσ1266 (fun σ1318 hσ1318 kk1328 => ?_)
              obtain ⟨k1319, k1320, k1321, k1322, k1323, k1324, k1325, k1326, k1327⟩ := kk1328
              exact hQ _ hσ1318 (⟨k1320.trans (k1269.trans (k1253.trans ((kq (a := 9) (b := 9) eσ1246 (fun q => absurd q.1 (by decide))).trans (k5)))), k1321.trans (k1270.trans (k1254.trans ((kq (a := 9) (b := 10) eσ1246 (fun q => absurd q.1 (by decide))).trans (k6)))), k1322.trans (k1271.trans (k1255.trans ((kq (a := 6) (b := 5) eσ1246 (fun q => absurd q.1 (by decide))).trans (k7)))), k1323.trans (k1272.trans (k1256.trans ((kq (a := 7) (b := 4) eσ1246 (fun q => absurd q.1 (by decide))).trans (k8)))), k1324.trans (k1273.trans (k1257.trans ((kq (a := 2) (b := 4) eσ1246 (fun q => absurd q.1 (by decide))).trans (k9)))), k1325.trans (k1274.trans (k1258.trans ((kq (a := 2) (b := 5) eσ1246 (fun q => absurd q.1 (by decide))).trans (k10)))), k1326.trans (k1275.trans (k1259.trans ((kq (a := 2) (b := 6) eσ1246 (fun q => absurd q.1 (by decide))).trans (k11)))), k1327.trans (k1276.trans (k1260.trans ((kq (a := 3) (b := 8) eσ1246 (fun q => absurd q.2 (by decide))).trans (k12))))⟩)
        · have f1329 := tB (σ1266.1 3 11)
          first | have f1330 := (noteqE (rfl : (σ1266.1 3 11).toInt = (σ1266.1 3 11).toInt) (show (0 : Int32).toInt = 0 from by decide)).mp c1280 | skip
          exact hQ _ hσ1266 (⟨k1269.trans (k1253.trans ((kq (a := 9) (b := 9) eσ1246 (fun q => absurd q.1 (by decide))).trans (k5))), k1270.trans (k1254.trans ((kq (a := 9) (b := 10) eσ1246 (fun q => absurd q.1 (by decide))).trans (k6))), k1271.trans (k1255.trans ((kq (a := 6) (b := 5) eσ1246 (fun q => absurd q.1 (by decide))).trans (k7))), k1272.trans (k1256.trans ((kq (a := 7) (b := 4) eσ1246 (fun q => absurd q.1 (by decide))).trans (k8))), k1273.trans (k1257.trans ((kq (a := 2) (b := 4) eσ1246 (fun q => absurd q.1 (by decide))).trans (k9))), k1274.trans (k1258.trans ((kq (a := 2) (b := 5) eσ1246 (fun q => absurd q.1 (by decide))).trans (k10))), k1275.trans (k1259.trans ((kq (a := 2) (b := 6) eσ1246 (fun q => absurd q.1 (by decide))).trans (k11))), k1276.trans (k1260.trans ((kq (a := 3) (b := 8) eσ1246 (fun q => absurd q.2 (by decide))).trans (k12)))⟩)
      · have f1331 := tB (σ1251.1 3 11)
        first | have f1332 := (noteqE (rfl : (σ1251.1 3 11).toInt = (σ1251.1 3 11).toInt) (show (0 : Int32).toInt = 0 from by decide)).mp c1262 | skip
        unfold fX2_enterThing_j73
        refine ⟨fun c1333 => ?_, fun c1333 => ?_⟩
        · first | have f1335 := (eqE (rfl : (σ1251.1 3 11).toInt = (σ1251.1 3 11).toInt) (show (0 : Int32).toInt = 0 from by decide)).mp c1333 | skip
          refine ⟨fun c1336 => ?_, fun c1336 => ?_⟩
          · first | have f1337 := (eqE (show (0 : Int32).toInt = 0 from by decide) (show (192 : Int32).toInt = 192 from by decide)).mp c1336 | skip
            unfold fX2_enterThing_j99
            have f1338 := tB r14
            refine sX2_callFunction hN hσ1251 (fun σ1339 hσ1339 kk1349 => ?_)
            obtain ⟨k1340, k1341, k1342, k1343, k1344, k1345, k1346, k1347, k1348⟩ := kk1349
            exact hQ _ hσ1339 (⟨k1341.trans (k1253.trans ((kq (a := 9) (b := 9) eσ1246 (fun q => absurd q.1 (by decide))).trans (k5))), k1342.trans (k1254.trans ((kq (a := 9) (b := 10) eσ1246 (fun q => absurd q.1 (by decide))).trans (k6))), k1343.trans (k1255.trans ((kq (a := 6) (b := 5) eσ1246 (fun q => absurd q.1 (by decide))).trans (k7))), k1344.trans (k1256.trans ((kq (a := 7) (b := 4) eσ1246 (fun q => absurd q.1 (by decide))).trans (k8))), k1345.trans (k1257.trans ((kq (a := 2) (b := 4) eσ1246 (fun q => absurd q.1 (by decide))).trans (k9))), k1346.trans (k1258.trans ((kq (a := 2) (b := 5) eσ1246 (fun q => absurd q.1 (by decide))).trans (k10))), k1347.trans (k1259.trans ((kq (a := 2) (b := 6) eσ1246 (fun q => absurd q.1 (by decide))).trans (k11))), k1348.trans (k1260.trans ((kq (a := 3) (b := 8) eσ1246 (fun q => absurd q.2 (by decide))).trans (k12)))⟩)
          · first | have f1350 := (noteqE (show (0 : Int32).toInt = 0 from by decide) (show (192 : Int32).toInt = 192 from by decide)).mp c1336 | skip
            refine ⟨fun c1351 => ?_, fun c1351 => ?_⟩
            · first | have f1352 := (eqE (show (0 : Int32).toInt = 0 from by decide) (show (193 : Int32).toInt = 193 from by decide)).mp c1351 | skip
              unfold fX2_enterThing_j99
              have f1353 := tB r14
              refine sX2_callFunction hN hσ1251 (fun σ1354 hσ1354 kk1364 => ?_)
              obtain ⟨k1355, k1356, k1357, k1358, k1359, k1360, k1361, k1362, k1363⟩ := kk1364
              exact hQ _ hσ1354 (⟨k1356.trans (k1253.trans ((kq (a := 9) (b := 9) eσ1246 (fun q => absurd q.1 (by decide))).trans (k5))), k1357.trans (k1254.trans ((kq (a := 9) (b := 10) eσ1246 (fun q => absurd q.1 (by decide))).trans (k6))), k1358.trans (k1255.trans ((kq (a := 6) (b := 5) eσ1246 (fun q => absurd q.1 (by decide))).trans (k7))), k1359.trans (k1256.trans ((kq (a := 7) (b := 4) eσ1246 (fun q => absurd q.1 (by decide))).trans (k8))), k1360.trans (k1257.trans ((kq (a := 2) (b := 4) eσ1246 (fun q => absurd q.1 (by decide))).trans (k9))), k1361.trans (k1258.trans ((kq (a := 2) (b := 5) eσ1246 (fun q => absurd q.1 (by decide))).trans (k10))), k1362.trans (k1259.trans ((kq (a := 2) (b := 6) eσ1246 (fun q => absurd q.1 (by decide))).trans (k11))), k1363.trans (k1260.trans ((kq (a := 3) (b := 8) eσ1246 (fun q => absurd q.2 (by decide))).trans (k12)))⟩)
            · first | have f1365 := (noteqE (show (0 : Int32).toInt = 0 from by decide) (show (193 : Int32).toInt = 193 from by decide)).mp c1351 | skip
              have f1366 := tB r14
              refine sX2_beginString hN hσ1251 (fun σ1367 hσ1367 kk1377 => ?_)
              obtain ⟨k1368, k1369, k1370, k1371, k1372, k1373, k1374, k1375, k1376⟩ := kk1377
              exact hQ _ hσ1367 (⟨k1369.trans (k1253.trans ((kq (a := 9) (b := 9) eσ1246 (fun q => absurd q.1 (by decide))).trans (k5))), k1370.trans (k1254.trans ((kq (a := 9) (b := 10) eσ1246 (fun q => absurd q.1 (by decide))).trans (k6))), k1371.trans (k1255.trans ((kq (a := 6) (b := 5) eσ1246 (fun q => absurd q.1 (by decide))).trans (k7))), k1372.trans (k1256.trans ((kq (a := 7) (b := 4) eσ1246 (fun q => absurd q.1 (by decide))).trans (k8))), k1373.trans (k1257.trans ((kq (a := 2) (b := 4) eσ1246 (fun q => absurd q.1 (by decide))).trans (k9))), k1374.trans (k1258.trans ((kq (a := 2) (b := 5) eσ1246 (fun q => absurd q.1 (by decide))).trans (k10))), k1375.trans (k1259.trans ((kq (a := 2) (b := 6) eσ1246 (fun q => absurd q.1 (by decide))).trans (k11))), k1376.trans (k1260.trans ((kq (a := 3) (b := 8) eσ1246 (fun q => absurd q.2 (by decide))).trans (k12)))⟩)
        · first | have f1379 := (noteqE (rfl : (σ1251.1 3 11).toInt = (σ1251.1 3 11).toInt) (show (0 : Int32).toInt = 0 from by decide)).mp c1333 | skip
          exact hQ _ hσ1251 (⟨k1253.trans ((kq (a := 9) (b := 9) eσ1246 (fun q => absurd q.1 (by decide))).trans (k5)), k1254.trans ((kq (a := 9) (b := 10) eσ1246 (fun q => absurd q.1 (by decide))).trans (k6)), k1255.trans ((kq (a := 6) (b := 5) eσ1246 (fun q => absurd q.1 (by decide))).trans (k7)), k1256.trans ((kq (a := 7) (b := 4) eσ1246 (fun q => absurd q.1 (by decide))).trans (k8)), k1257.trans ((kq (a := 2) (b := 4) eσ1246 (fun q => absurd q.1 (by decide))).trans (k9)), k1258.trans ((kq (a := 2) (b := 5) eσ1246 (fun q => absurd q.1 (by decide))).trans (k10)), k1259.trans ((kq (a := 2) (b := 6) eσ1246 (fun q => absurd q.1 (by decide))).trans (k11)), k1260.trans ((kq (a := 3) (b := 8) eσ1246 (fun q => absurd q.2 (by decide))).trans (k12))⟩)
    · have f1380 := tB x2
      first | have f1381 := (noteqE (rfl : x2.toInt = x2.toInt) (show (10 : Int32).toInt = 10 from by decide)).mp c1247 | skip
      refine ⟨fun c1382 => ?_, fun c1382 => ?_⟩
      · first | have f1384 := (eqE (rfl : x2.toInt = x2.toInt) (show (11 : Int32).toInt = 11 from by decide)).mp c1382 | skip
        unfold fX2_enterThing_j50
        refine sX2_readArguments hN hσ1246 (fun σ1386 hσ1386 kk1396 => ?_)
        obtain ⟨k1387, k1388, k1389, k1390, k1391, k1392, k1393, k1394, k1395⟩ := kk1396
        unfold fX2_enterThing_j57
        refine ⟨fun c1397 => ?_, fun c1397 => ?_⟩
        · have f1398 := tB (σ1386.1 3 11)
          first | have f1399 := (eqE (rfl : (σ1386.1 3 11).toInt = (σ1386.1 3 11).toInt) (show (0 : Int32).toInt = 0 from by decide)).mp c1397 | skip
          have f1400 := tB r14
          refine sX2_readByte hN hσ1386 (fun r1413 σ1401 hσ1401 kk1412 p1414 => ?_)
          obtain ⟨k1402, k1403, k1404, k1405, k1406, k1407, k1408, k1409, k1410, k1411⟩ := kk1412
          unfold fX2_enterThing_j73
          refine ⟨fun c1415 => ?_, fun c1415 => ?_⟩
          · have f1416 := tB (σ1401.1 3 11)
            first | have f1417 := (eqE (rfl : (σ1401.1 3 11).toInt = (σ1401.1 3 11).toInt) (show (0 : Int32).toInt = 0 from by decide)).mp c1415 | skip
            refine ⟨fun c1418 => ?_, fun c1418 => ?_⟩
            · have f1419 := tB r1413
              first | have f1420 := (eqE (rfl : r1413.toInt = r1413.toInt) (show (192 : Int32).toInt = 192 from by decide)).mp c1418 | skip
              unfold fX2_enterThing_j99
              refine sX2_callFunction hN hσ1401 (fun σ1422 hσ1422 kk1432 => ?_)
              obtain ⟨k1423, k1424, k1425, k1426, k1427, k1428, k1429, k1430, k1431⟩ := kk1432
              exact hQ _ hσ1422 (⟨k1424.trans (k1404.trans (k1388.trans ((kq (a := 9) (b := 9) eσ1246 (fun q => absurd q.1 (by decide))).trans (k5)))), k1425.trans (k1405.trans (k1389.trans ((kq (a := 9) (b := 10) eσ1246 (fun q => absurd q.1 (by decide))).trans (k6)))), k1426.trans (k1406.trans (k1390.trans ((kq (a := 6) (b := 5) eσ1246 (fun q => absurd q.1 (by decide))).trans (k7)))), k1427.trans (k1407.trans (k1391.trans ((kq (a := 7) (b := 4) eσ1246 (fun q => absurd q.1 (by decide))).trans (k8)))), k1428.trans (k1408.trans (k1392.trans ((kq (a := 2) (b := 4) eσ1246 (fun q => absurd q.1 (by decide))).trans (k9)))), k1429.trans (k1409.trans (k1393.trans ((kq (a := 2) (b := 5) eσ1246 (fun q => absurd q.1 (by decide))).trans (k10)))), k1430.trans (k1410.trans (k1394.trans ((kq (a := 2) (b := 6) eσ1246 (fun q => absurd q.1 (by decide))).trans (k11)))), k1431.trans (k1411.trans (k1395.trans ((kq (a := 3) (b := 8) eσ1246 (fun q => absurd q.2 (by decide))).trans (k12))))⟩)
            · have f1433 := tB r1413
              first | have f1434 := (noteqE (rfl : r1413.toInt = r1413.toInt) (show (192 : Int32).toInt = 192 from by decide)).mp c1418 | skip
              refine ⟨fun c1435 => ?_, fun c1435 => ?_⟩
              · first | have f1437 := (eqE (rfl : r1413.toInt = r1413.toInt) (show (193 : Int32).toInt = 193 from by decide)).mp c1435 | skip
                unfold fX2_enterThing_j99
                refine sX2_callFunction hN hσ1401 (fun σ1439 hσ1439 kk1449 => ?_)
                obtain ⟨k1440, k1441, k1442, k1443, k1444, k1445, k1446, k1447, k1448⟩ := kk1449
                exact hQ _ hσ1439 (⟨k1441.trans (k1404.trans (k1388.trans ((kq (a := 9) (b := 9) eσ1246 (fun q => absurd q.1 (by decide))).trans (k5)))), k1442.trans (k1405.trans (k1389.trans ((kq (a := 9) (b := 10) eσ1246 (fun q => absurd q.1 (by decide))).trans (k6)))), k1443.trans (k1406.trans (k1390.trans ((kq (a := 6) (b := 5) eσ1246 (fun q => absurd q.1 (by decide))).trans (k7)))), k1444.trans (k1407.trans (k1391.trans ((kq (a := 7) (b := 4) eσ1246 (fun q => absurd q.1 (by decide))).trans (k8)))), k1445.trans (k1408.trans (k1392.trans ((kq (a := 2) (b := 4) eσ1246 (fun q => absurd q.1 (by decide))).trans (k9)))), k1446.trans (k1409.trans (k1393.trans ((kq (a := 2) (b := 5) eσ1246 (fun q => absurd q.1 (by decide))).trans (k10)))), k1447.trans (k1410.trans (k1394.trans ((kq (a := 2) (b := 6) eσ1246 (fun q => absurd q.1 (by decide))).trans (k11)))), k1448.trans (k1411.trans (k1395.trans ((kq (a := 3) (b := 8) eσ1246 (fun q => absurd q.2 (by decide))).trans (k12))))⟩)
              · first | have f1451 := (noteqE (rfl : r1413.toInt = r1413.toInt) (show (193 : Int32).toInt = 193 from by decide)).mp c1435 | skip
                refine sX2_beginString hN hσ1401 (fun σ1453 hσ1453 kk1463 => ?_)
                obtain ⟨k1454, k1455, k1456, k1457, k1458, k1459, k1460, k1461, k1462⟩ := kk1463
                exact hQ _ hσ1453 (⟨k1455.trans (k1404.trans (k1388.trans ((kq (a := 9) (b := 9) eσ1246 (fun q => absurd q.1 (by decide))).trans (k5)))), k1456.trans (k1405.trans (k1389.trans ((kq (a := 9) (b := 10) eσ1246 (fun q => absurd q.1 (by decide))).trans (k6)))), k1457.trans (k1406.trans (k1390.trans ((kq (a := 6) (b := 5) eσ1246 (fun q => absurd q.1 (by decide))).trans (k7)))), k1458.trans (k1407.trans (k1391.trans ((kq (a := 7) (b := 4) eσ1246 (fun q => absurd q.1 (by decide))).trans (k8)))), k1459.trans (k1408.trans (k1392.trans ((kq (a := 2) (b := 4) eσ1246 (fun q => absurd q.1 (by decide))).trans (k9)))), k1460.trans (k1409.trans (k1393.trans ((kq (a := 2) (b := 5) eσ1246 (fun q => absurd q.1 (by decide))).trans (k10)))), k1461.trans (k1410.trans (k1394.trans ((kq (a := 2) (b := 6) eσ1246 (fun q => absurd q.1 (by decide))).trans (k11)))), k1462.trans (k1411.trans (k1395.trans ((kq (a := 3) (b := 8) eσ1246 (fun q => absurd q.2 (by decide))).trans (k12))))⟩)
          · have f1464 := tB (σ1401.1 3 11)
            first | have f1465 := (noteqE (rfl : (σ1401.1 3 11).toInt = (σ1401.1 3 11).toInt) (show (0 : Int32).toInt = 0 from by decide)).mp c1415 | skip
            exact hQ _ hσ1401 (⟨k1404.trans (k1388.trans ((kq (a := 9) (b := 9) eσ1246 (fun q => absurd q.1 (by decide))).trans (k5))), k1405.trans (k1389.trans ((kq (a := 9) (b := 10) eσ1246 (fun q => absurd q.1 (by decide))).trans (k6))), k1406.trans (k1390.trans ((kq (a := 6) (b := 5) eσ1246 (fun q => absurd q.1 (by decide))).trans (k7))), k1407.trans (k1391.trans ((kq (a := 7) (b := 4) eσ1246 (fun q => absurd q.1 (by decide))).trans (k8))), k1408.trans (k1392.trans ((kq (a := 2) (b := 4) eσ1246 (fun q => absurd q.1 (by decide))).trans (k9))), k1409.trans (k1393.trans ((kq (a := 2) (b := 5) eσ1246 (fun q => absurd q.1 (by decide))).trans (k10))), k1410.trans (k1394.trans ((kq (a := 2) (b := 6) eσ1246 (fun q => absurd q.1 (by decide))).trans (k11))), k1411.trans (k1395.trans ((kq (a := 3) (b := 8) eσ1246 (fun q => absurd q.2 (by decide))).trans (k12)))⟩)
        · have f1466 := tB (σ1386.1 3 11)
          first | have f1467 := (noteqE (rfl : (σ1386.1 3 11).toInt = (σ1386.1 3 11).toInt) (show (0 : Int32).toInt = 0 from by decide)).mp c1397 | skip
          unfold fX2_enterThing_j73
          refine ⟨fun c1468 => ?_, fun c1468 => ?_⟩
          · first | have f1470 := (eqE (rfl : (σ1386.1 3 11).toInt = (σ1386.1 3 11).toInt) (show (0 : Int32).toInt = 0 from by decide)).mp c1468 | skip
            refine ⟨fun c1471 => ?_, fun c1471 => ?_⟩
            · first | have f1472 := (eqE (show (0 : Int32).toInt = 0 from by decide) (show (192 : Int32).toInt = 192 from by decide)).mp c1471 | skip
              unfold fX2_enterThing_j99
              have f1473 := tB r14
              refine sX2_callFunction hN hσ1386 (fun σ1474 hσ1474 kk1484 => ?_)
              obtain ⟨k1475, k1476, k1477, k1478, k1479, k1480, k1481, k1482, k1483⟩ := kk1484
              exact hQ _ hσ1474 (⟨k1476.trans (k1388.trans ((kq (a := 9) (b := 9) eσ1246 (fun q => absurd q.1 (by decide))).trans (k5))), k1477.trans (k1389.trans ((kq (a := 9) (b := 10) eσ1246 (fun q => absurd q.1 (by decide))).trans (k6))), k1478.trans (k1390.trans ((kq (a := 6) (b := 5) eσ1246 (fun q => absurd q.1 (by decide))).trans (k7))), k1479.trans (k1391.trans ((kq (a := 7) (b := 4) eσ1246 (fun q => absurd q.1 (by decide))).trans (k8))), k1480.trans (k1392.trans ((kq (a := 2) (b := 4) eσ1246 (fun q => absurd q.1 (by decide))).trans (k9))), k1481.trans (k1393.trans ((kq (a := 2) (b := 5) eσ1246 (fun q => absurd q.1 (by decide))).trans (k10))), k1482.trans (k1394.trans ((kq (a := 2) (b := 6) eσ1246 (fun q => absurd q.1 (by decide))).trans (k11))), k1483.trans (k1395.trans ((kq (a := 3) (b := 8) eσ1246 (fun q => absurd q.2 (by decide))).trans (k12)))⟩)
            · first | have f1485 := (noteqE (show (0 : Int32).toInt = 0 from by decide) (show (192 : Int32).toInt = 192 from by decide)).mp c1471 | skip
              refine ⟨fun c1486 => ?_, fun c1486 => ?_⟩
              · first | have f1487 := (eqE (show (0 : Int32).toInt = 0 from by decide) (show (193 : Int32).toInt = 193 from by decide)).mp c1486 | skip
                unfold fX2_enterThing_j99
                have f1488 := tB r14
                refine sX2_callFunction hN hσ1386 (fun σ1489 hσ1489 kk1499 => ?_)
                obtain ⟨k1490, k1491, k1492, k1493, k1494, k1495, k1496, k1497, k1498⟩ := kk1499
                exact hQ _ hσ1489 (⟨k1491.trans (k1388.trans ((kq (a := 9) (b := 9) eσ1246 (fun q => absurd q.1 (by decide))).trans (k5))), k1492.trans (k1389.trans ((kq (a := 9) (b := 10) eσ1246 (fun q => absurd q.1 (by decide))).trans (k6))), k1493.trans (k1390.trans ((kq (a := 6) (b := 5) eσ1246 (fun q => absurd q.1 (by decide))).trans (k7))), k1494.trans (k1391.trans ((kq (a := 7) (b := 4) eσ1246 (fun q => absurd q.1 (by decide))).trans (k8))), k1495.trans (k1392.trans ((kq (a := 2) (b := 4) eσ1246 (fun q => absurd q.1 (by decide))).trans (k9))), k1496.trans (k1393.trans ((kq (a := 2) (b := 5) eσ1246 (fun q => absurd q.1 (by decide))).trans (k10))), k1497.trans (k1394.trans ((kq (a := 2) (b := 6) eσ1246 (fun q => absurd q.1 (by decide))).trans (k11))), k1498.trans (k1395.trans ((kq (a := 3) (b := 8) eσ1246 (fun q => absurd q.2 (by decide))).trans (k12)))⟩)
              · first | have f1500 := (noteqE (show (0 : Int32).toInt = 0 from by decide) (show (193 : Int32).toInt = 193 from by decide)).mp c1486 | skip
                have f1501 := tB r14
                refine sX2_beginString hN hσ1386 (fun σ1502 hσ1502 kk1512 => ?_)
                obtain ⟨k1503, k1504, k1505, k1506, k1507, k1508, k1509, k1510, k1511⟩ := kk1512
                exact hQ _ hσ1502 (⟨k1504.trans (k1388.trans ((kq (a := 9) (b := 9) eσ1246 (fun q => absurd q.1 (by decide))).trans (k5))), k1505.trans (k1389.trans ((kq (a := 9) (b := 10) eσ1246 (fun q => absurd q.1 (by decide))).trans (k6))), k1506.trans (k1390.trans ((kq (a := 6) (b := 5) eσ1246 (fun q => absurd q.1 (by decide))).trans (k7))), k1507.trans (k1391.trans ((kq (a := 7) (b := 4) eσ1246 (fun q => absurd q.1 (by decide))).trans (k8))), k1508.trans (k1392.trans ((kq (a := 2) (b := 4) eσ1246 (fun q => absurd q.1 (by decide))).trans (k9))), k1509.trans (k1393.trans ((kq (a := 2) (b := 5) eσ1246 (fun q => absurd q.1 (by decide))).trans (k10))), k1510.trans (k1394.trans ((kq (a := 2) (b := 6) eσ1246 (fun q => absurd q.1 (by decide))).trans (k11))), k1511.trans (k1395.trans ((kq (a := 3) (b := 8) eσ1246 (fun q => absurd q.2 (by decide))).trans (k12)))⟩)
          · first | have f1514 := (noteqE (rfl : (σ1386.1 3 11).toInt = (σ1386.1 3 11).toInt) (show (0 : Int32).toInt = 0 from by decide)).mp c1468 | skip
            exact hQ _ hσ1386 (⟨k1388.trans ((kq (a := 9) (b := 9) eσ1246 (fun q => absurd q.1 (by decide))).trans (k5)), k1389.trans ((kq (a := 9) (b := 10) eσ1246 (fun q => absurd q.1 (by decide))).trans (k6)), k1390.trans ((kq (a := 6) (b := 5) eσ1246 (fun q => absurd q.1 (by decide))).trans (k7)), k1391.trans ((kq (a := 7) (b := 4) eσ1246 (fun q => absurd q.1 (by decide))).trans (k8)), k1392.trans ((kq (a := 2) (b := 4) eσ1246 (fun q => absurd q.1 (by decide))).trans (k9)), k1393.trans ((kq (a := 2) (b := 5) eσ1246 (fun q => absurd q.1 (by decide))).trans (k10)), k1394.trans ((kq (a := 2) (b := 6) eσ1246 (fun q => absurd q.1 (by decide))).trans (k11)), k1395.trans ((kq (a := 3) (b := 8) eσ1246 (fun q => absurd q.2 (by decide))).trans (k12))⟩)
      · first | have f1516 := (noteqE (rfl : x2.toInt = x2.toInt) (show (11 : Int32).toInt = 11 from by decide)).mp c1382 | skip
        unfold fX2_enterThing_j57
        refine ⟨fun c1517 => ?_, fun c1517 => ?_⟩
        · have f1518 := tB (σ1246.1 3 11)
          have q1519 : σ1246.1 3 11 = σ2.1 3 11 := by rw [eσ1246, u1_at]; exact if_neg (by decide)
          have f1520 := congrArg Int32.toInt q1519
          first | have f1522 := (eqE (rfl : (σ1246.1 3 11).toInt = (σ1246.1 3 11).toInt) (show (0 : Int32).toInt = 0 from by decide)).mp c1517 | skip
          have f1523 := tB r14
          refine sX2_readByte hN hσ1246 (fun r1536 σ1524 hσ1524 kk1535 p1537 => ?_)
          obtain ⟨k1525, k1526, k1527, k1528, k1529, k1530, k1531, k1532, k1533, k1534⟩ := kk1535
          unfold fX2_enterThing_j73
          refine ⟨fun c1538 => ?_, fun c1538 => ?_⟩
          · have f1539 := tB (σ1524.1 3 11)
            first | have f1540 := (eqE (rfl : (σ1524.1 3 11).toInt = (σ1524.1 3 11).toInt) (show (0 : Int32).toInt = 0 from by decide)).mp c1538 | skip
            refine ⟨fun c1541 => ?_, fun c1541 => ?_⟩
            · have f1542 := tB r1536
              first | have f1543 := (eqE (rfl : r1536.toInt = r1536.toInt) (show (192 : Int32).toInt = 192 from by decide)).mp c1541 | skip
              unfold fX2_enterThing_j99
              refine sX2_callFunction hN hσ1524 (fun σ1545 hσ1545 kk1555 => ?_)
              obtain ⟨k1546, k1547, k1548, k1549, k1550, k1551, k1552, k1553, k1554⟩ := kk1555
              exact hQ _ hσ1545 (⟨k1547.trans (k1527.trans ((kq (a := 9) (b := 9) eσ1246 (fun q => absurd q.1 (by decide))).trans (k5))), k1548.trans (k1528.trans ((kq (a := 9) (b := 10) eσ1246 (fun q => absurd q.1 (by decide))).trans (k6))), k1549.trans (k1529.trans ((kq (a := 6) (b := 5) eσ1246 (fun q => absurd q.1 (by decide))).trans (k7))), k1550.trans (k1530.trans ((kq (a := 7) (b := 4) eσ1246 (fun q => absurd q.1 (by decide))).trans (k8))), k1551.trans (k1531.trans ((kq (a := 2) (b := 4) eσ1246 (fun q => absurd q.1 (by decide))).trans (k9))), k1552.trans (k1532.trans ((kq (a := 2) (b := 5) eσ1246 (fun q => absurd q.1 (by decide))).trans (k10))), k1553.trans (k1533.trans ((kq (a := 2) (b := 6) eσ1246 (fun q => absurd q.1 (by decide))).trans (k11))), k1554.trans (k1534.trans ((kq (a := 3) (b := 8) eσ1246 (fun q => absurd q.2 (by decide))).trans (k12)))⟩)
            · have f1556 := tB r1536
              first | have f1557 := (noteqE (rfl : r1536.toInt = r1536.toInt) (show (192 : Int32).toInt = 192 from by decide)).mp c1541 | skip
              refine ⟨fun c1558 => ?_, fun c1558 => ?_⟩
              · first | have f1560 := (eqE (rfl : r1536.toInt = r1536.toInt) (show (193 : Int32).toInt = 193 from by decide)).mp c1558 | skip
                unfold fX2_enterThing_j99
                refine sX2_callFunction hN hσ1524 (fun σ1562 hσ1562 kk1572 => ?_)
                obtain ⟨k1563, k1564, k1565, k1566, k1567, k1568, k1569, k1570, k1571⟩ := kk1572
                exact hQ _ hσ1562 (⟨k1564.trans (k1527.trans ((kq (a := 9) (b := 9) eσ1246 (fun q => absurd q.1 (by decide))).trans (k5))), k1565.trans (k1528.trans ((kq (a := 9) (b := 10) eσ1246 (fun q => absurd q.1 (by decide))).trans (k6))), k1566.trans (k1529.trans ((kq (a := 6) (b := 5) eσ1246 (fun q => absurd q.1 (by decide))).trans (k7))), k1567.trans (k1530.trans ((kq (a := 7) (b := 4) eσ1246 (fun q => absurd q.1 (by decide))).trans (k8))), k1568.trans (k1531.trans ((kq (a := 2) (b := 4) eσ1246 (fun q => absurd q.1 (by decide))).trans (k9))), k1569.trans (k1532.trans ((kq (a := 2) (b := 5) eσ1246 (fun q => absurd q.1 (by decide))).trans (k10))), k1570.trans (k1533.trans ((kq (a := 2) (b := 6) eσ1246 (fun q => absurd q.1 (by decide))).trans (k11))), k1571.trans (k1534.trans ((kq (a := 3) (b := 8) eσ1246 (fun q => absurd q.2 (by decide))).trans (k12)))⟩)
              · first | have f1574 := (noteqE (rfl : r1536.toInt = r1536.toInt) (show (193 : Int32).toInt = 193 from by decide)).mp c1558 | skip
                refine sX2_beginString hN hσ1524 (fun σ1576 hσ1576 kk1586 => ?_)
                obtain ⟨k1577, k1578, k1579, k1580, k1581, k1582, k1583, k1584, k1585⟩ := kk1586
                exact hQ _ hσ1576 (⟨k1578.trans (k1527.trans ((kq (a := 9) (b := 9) eσ1246 (fun q => absurd q.1 (by decide))).trans (k5))), k1579.trans (k1528.trans ((kq (a := 9) (b := 10) eσ1246 (fun q => absurd q.1 (by decide))).trans (k6))), k1580.trans (k1529.trans ((kq (a := 6) (b := 5) eσ1246 (fun q => absurd q.1 (by decide))).trans (k7))), k1581.trans (k1530.trans ((kq (a := 7) (b := 4) eσ1246 (fun q => absurd q.1 (by decide))).trans (k8))), k1582.trans (k1531.trans ((kq (a := 2) (b := 4) eσ1246 (fun q => absurd q.1 (by decide))).trans (k9))), k1583.trans (k1532.trans ((kq (a := 2) (b := 5) eσ1246 (fun q => absurd q.1 (by decide))).trans (k10))), k1584.trans (k1533.trans ((kq (a := 2) (b := 6) eσ1246 (fun q => absurd q.1 (by decide))).trans (k11))), k1585.trans (k1534.trans ((kq (a := 3) (b := 8) eσ1246 (fun q => absurd q.2 (by decide))).trans (k12)))⟩)
          · have f1587 := tB (σ1524.1 3 11)
            first | have f1588 := (noteqE (rfl : (σ1524.1 3 11).toInt = (σ1524.1 3 11).toInt) (show (0 : Int32).toInt = 0 from by decide)).mp c1538 | skip
            exact hQ _ hσ1524 (⟨k1527.trans ((kq (a := 9) (b := 9) eσ1246 (fun q => absurd q.1 (by decide))).trans (k5)), k1528.trans ((kq (a := 9) (b := 10) eσ1246 (fun q => absurd q.1 (by decide))).trans (k6)), k1529.trans ((kq (a := 6) (b := 5) eσ1246 (fun q => absurd q.1 (by decide))).trans (k7)), k1530.trans ((kq (a := 7) (b := 4) eσ1246 (fun q => absurd q.1 (by decide))).trans (k8)), k1531.trans ((kq (a := 2) (b := 4) eσ1246 (fun q => absurd q.1 (by decide))).trans (k9)), k1532.trans ((kq (a := 2) (b := 5) eσ1246 (fun q => absurd q.1 (by decide))).trans (k10)), k1533.trans ((kq (a := 2) (b := 6) eσ1246 (fun q => absurd q.1 (by decide))).trans (k11)), k1534.trans ((kq (a := 3) (b := 8) eσ1246 (fun q => absurd q.2 (by decide))).trans (k12))⟩)
        · have f1589 := tB (σ1246.1 3 11)
          have q1590 : σ1246.1 3 11 = σ2.1 3 11 := by rw [eσ1246, u1_at]; exact if_neg (by decide)
          have f1591 := congrArg Int32.toInt q1590
          first | have f1593 := (noteqE (rfl : (σ1246.1 3 11).toInt = (σ1246.1 3 11).toInt) (show (0 : Int32).toInt = 0 from by decide)).mp c1517 | skip
          unfold fX2_enterThing_j73
          refine ⟨fun c1594 => ?_, fun c1594 => ?_⟩
          · first | have f1596 := (eqE (rfl : (σ1246.1 3 11).toInt = (σ1246.1 3 11).toInt) (show (0 : Int32).toInt = 0 from by decide)).mp c1594 | skip
            refine ⟨fun c1597 => ?_, fun c1597 => ?_⟩
            · first | have f1598 := (eqE (show (0 : Int32).toInt = 0 from by decide) (show (192 : Int32).toInt = 192 from by decide)).mp c1597 | skip
              unfold fX2_enterThing_j99
              have f1599 := tB r14
              refine sX2_callFunction hN hσ1246 (fun σ1600 hσ1600 kk1610 => ?_)
              obtain ⟨k1601, k1602, k1603, k1604, k1605, k1606, k1607, k1608, k1609⟩ := kk1610
              exact hQ _ hσ1600 (⟨k1602.trans ((kq (a := 9) (b := 9) eσ1246 (fun q => absurd q.1 (by decide))).trans (k5)), k1603.trans ((kq (a := 9) (b := 10) eσ1246 (fun q => absurd q.1 (by decide))).trans (k6)), k1604.trans ((kq (a := 6) (b := 5) eσ1246 (fun q => absurd q.1 (by decide))).trans (k7)), k1605.trans ((kq (a := 7) (b := 4) eσ1246 (fun q => absurd q.1 (by decide))).trans (k8)), k1606.trans ((kq (a := 2) (b := 4) eσ1246 (fun q => absurd q.1 (by decide))).trans (k9)), k1607.trans ((kq (a := 2) (b := 5) eσ1246 (fun q => absurd q.1 (by decide))).trans (k10)), k1608.trans ((kq (a := 2) (b := 6) eσ1246 (fun q => absurd q.1 (by decide))).trans (k11)), k1609.trans ((kq (a := 3) (b := 8) eσ1246 (fun q => absurd q.2 (by decide))).trans (k12))⟩)
            · first | have f1611 := (noteqE (show (0 : Int32).toInt = 0 from by decide) (show (192 : Int32).toInt = 192 from by decide)).mp c1597 | skip
              refine ⟨fun c1612 => ?_, fun c1612 => ?_⟩
              · first | have f1613 := (eqE (show (0 : Int32).toInt = 0 from by decide) (show (193 : Int32).toInt = 193 from by decide)).mp c1612 | skip
                unfold fX2_enterThing_j99
                have f1614 := tB r14
                refine sX2_callFunction hN hσ1246 (fun σ1615 hσ1615 kk1625 => ?_)
                obtain ⟨k1616, k1617, k1618, k1619, k1620, k1621, k1622, k1623, k1624⟩ := kk1625
                exact hQ _ hσ1615 (⟨k1617.trans ((kq (a := 9) (b := 9) eσ1246 (fun q => absurd q.1 (by decide))).trans (k5)), k1618.trans ((kq (a := 9) (b := 10) eσ1246 (fun q => absurd q.1 (by decide))).trans (k6)), k1619.trans ((kq (a := 6) (b := 5) eσ1246 (fun q => absurd q.1 (by decide))).trans (k7)), k1620.trans ((kq (a := 7) (b := 4) eσ1246 (fun q => absurd q.1 (by decide))).trans (k8)), k1621.trans ((kq (a := 2) (b := 4) eσ1246 (fun q => absurd q.1 (by decide))).trans (k9)), k1622.trans ((kq (a := 2) (b := 5) eσ1246 (fun q => absurd q.1 (by decide))).trans (k10)), k1623.trans ((kq (a := 2) (b := 6) eσ1246 (fun q => absurd q.1 (by decide))).trans (k11)), k1624.trans ((kq (a := 3) (b := 8) eσ1246 (fun q => absurd q.2 (by decide))).trans (k12))⟩)
              · first | have f1626 := (noteqE (show (0 : Int32).toInt = 0 from by decide) (show (193 : Int32).toInt = 193 from by decide)).mp c1612 | skip
                have f1627 := tB r14
                refine sX2_beginString hN hσ1246 (fun σ1628 hσ1628 kk1638 => ?_)
                obtain ⟨k1629, k1630, k1631, k1632, k1633, k1634, k1635, k1636, k1637⟩ := kk1638
                exact hQ _ hσ1628 (⟨k1630.trans ((kq (a := 9) (b := 9) eσ1246 (fun q => absurd q.1 (by decide))).trans (k5)), k1631.trans ((kq (a := 9) (b := 10) eσ1246 (fun q => absurd q.1 (by decide))).trans (k6)), k1632.trans ((kq (a := 6) (b := 5) eσ1246 (fun q => absurd q.1 (by decide))).trans (k7)), k1633.trans ((kq (a := 7) (b := 4) eσ1246 (fun q => absurd q.1 (by decide))).trans (k8)), k1634.trans ((kq (a := 2) (b := 4) eσ1246 (fun q => absurd q.1 (by decide))).trans (k9)), k1635.trans ((kq (a := 2) (b := 5) eσ1246 (fun q => absurd q.1 (by decide))).trans (k10)), k1636.trans ((kq (a := 2) (b := 6) eσ1246 (fun q => absurd q.1 (by decide))).trans (k11)), k1637.trans ((kq (a := 3) (b := 8) eσ1246 (fun q => absurd q.2 (by decide))).trans (k12))⟩)
          · first | have f1640 := (noteqE (rfl : (σ1246.1 3 11).toInt = (σ1246.1 3 11).toInt) (show (0 : Int32).toInt = 0 from by decide)).mp c1594 | skip
            exact hQ _ hσ1246 (⟨(kq (a := 9) (b := 9) eσ1246 (fun q => absurd q.1 (by decide))).trans (k5), (kq (a := 9) (b := 10) eσ1246 (fun q => absurd q.1 (by decide))).trans (k6), (kq (a := 6) (b := 5) eσ1246 (fun q => absurd q.1 (by decide))).trans (k7), (kq (a := 7) (b := 4) eσ1246 (fun q => absurd q.1 (by decide))).trans (k8), (kq (a := 2) (b := 4) eσ1246 (fun q => absurd q.1 (by decide))).trans (k9), (kq (a := 2) (b := 5) eσ1246 (fun q => absurd q.1 (by decide))).trans (k10), (kq (a := 2) (b := 6) eσ1246 (fun q => absurd q.1 (by decide))).trans (k11), (kq (a := 3) (b := 8) eσ1246 (fun q => absurd q.2 (by decide))).trans (k12)⟩)
set_option maxHeartbeats 4000000 in
theorem sX2_doLeaf {N : Nat} (hN : 4294967400 ≤ N) {x1 : Int32} {x2 : Int32} {Q : St → Prop} {σ0 σ : St} (hσ : K1 σ0 σ) (hQ : ∀ τ : St, K1 σ0 τ → (τ.1 9 9 = σ.1 9 9 ∧ τ.1 9 10 = σ.1 9 10 ∧ τ.1 6 5 = σ.1 6 5 ∧ τ.1 7 4 = σ.1 7 4 ∧ τ.1 2 4 = σ.1 2 4 ∧ τ.1 2 5 = σ.1 2 5 ∧ τ.1 2 6 = σ.1 2 6) → Q τ) : fX2_doLeaf N x1 x2 Q σ := by
  unfold fX2_doLeaf
  refine ⟨fun c1 => ?_, fun c1 => ?_⟩
  · have f2 := tB x2
    first | have f3 := (eqE (rfl : x2.toInt = x2.toInt) (show (2 : Int32).toInt = 2 from by decide)).mp c1 | skip
    have f4 := tB x1
    refine sX2_readByte hN hσ (fun r17 σ5 hσ5 kk16 p18 => ?_)
    obtain ⟨k6, k7, k8, k9, k10, k11, k12, k13, k14, k15⟩ := kk16
    have f19 := tB r17
    refine sX2_give hN hσ5 (fun σ20 hσ20 kk28 => ?_)
    obtain ⟨k21, k22, k23, k24, k25, k26, k27⟩ := kk28
    exact hQ _ hσ20 (⟨k21.trans (k8), k22.trans (k9), k23.trans (k10), k24.trans (k11), k25.trans (k12), k26.trans (k13), k27.trans (k14)⟩)
  · have f29 := tB x2
    first | have f30 := (noteqE (rfl : x2.toInt = x2.toInt) (show (2 : Int32).toInt = 2 from by decide)).mp c1 | skip
    refine ⟨fun c31 => ?_, fun c31 => ?_⟩
    · first | have f33 := (eqE (rfl : x2.toInt = x2.toInt) (show (3 : Int32).toInt = 3 from by decide)).mp c31 | skip
      have f34 := tB x1
      refine sX2_begin hN hσ (fun σ35 hσ35 kk45 => ?_)
      obtain ⟨k36, k37, k38, k39, k40, k41, k42, k43, k44⟩ := kk45
      exact hQ _ hσ35 (⟨k37, k38, k39, k40, k41, k42, k43⟩)
    · first | have f47 := (noteqE (rfl : x2.toInt = x2.toInt) (show (3 : Int32).toInt = 3 from by decide)).mp c31 | skip
      refine ⟨fun c48 => ?_, fun c48 => ?_⟩
      · first | have f50 := (eqE (rfl : x2.toInt = x2.toInt) (show (4 : Int32).toInt = 4 from by decide)).mp c48 | skip
        have f51 := tB x1
        refine sX2_readFour hN hσ (fun r64 σ52 hσ52 kk63 p65 => ?_)
        obtain ⟨k53, k54, k55, k56, k57, k58, k59, k60, k61, k62⟩ := kk63
        have f66 := tB r64
        refine sX2_give hN hσ52 (fun σ67 hσ67 kk75 => ?_)
        obtain ⟨k68, k69, k70, k71, k72, k73, k74⟩ := kk75
        exact hQ _ hσ67 (⟨k68.trans (k55), k69.trans (k56), k70.trans (k57), k71.trans (k58), k72.trans (k59), k73.trans (k60), k74.trans (k61)⟩)
      · first | have f77 := (noteqE (rfl : x2.toInt = x2.toInt) (show (4 : Int32).toInt = 4 from by decide)).mp c48 | skip
        refine ⟨fun c78 => ?_, fun c78 => ?_⟩
        · first | have f80 := (eqE (rfl : x2.toInt = x2.toInt) (show (5 : Int32).toInt = 5 from by decide)).mp c78 | skip
          have f81 := tB x1
          refine sX2_begin hN hσ (fun σ82 hσ82 kk92 => ?_)
          obtain ⟨k83, k84, k85, k86, k87, k88, k89, k90, k91⟩ := kk92
          exact hQ _ hσ82 (⟨k84, k85, k86, k87, k88, k89, k90⟩)
        · first | have f94 := (noteqE (rfl : x2.toInt = x2.toInt) (show (5 : Int32).toInt = 5 from by decide)).mp c78 | skip
          refine ⟨fun c95 => ?_, fun c95 => ?_⟩
          · first | have f97 := (eqE (rfl : x2.toInt = x2.toInt) (show (8 : Int32).toInt = 8 from by decide)).mp c95 | skip
            unfold fX2_doLeaf_j106
            have f98 := tB x1
            refine sX2_enterThing hN hσ (fun σ100 hσ100 kk109 => ?_)
            obtain ⟨k101, k102, k103, k104, k105, k106, k107, k108⟩ := kk109
            exact hQ _ hσ100 (⟨k101, k102, k103, k104, k105, k106, k107⟩)
          · first | have f111 := (noteqE (rfl : x2.toInt = x2.toInt) (show (8 : Int32).toInt = 8 from by decide)).mp c95 | skip
            refine ⟨fun c112 => ?_, fun c112 => ?_⟩
            · first | have f114 := (eqE (rfl : x2.toInt = x2.toInt) (show (9 : Int32).toInt = 9 from by decide)).mp c112 | skip
              unfold fX2_doLeaf_j106
              have f115 := tB x1
              refine sX2_enterThing hN hσ (fun σ117 hσ117 kk126 => ?_)
              obtain ⟨k118, k119, k120, k121, k122, k123, k124, k125⟩ := kk126
              exact hQ _ hσ117 (⟨k118, k119, k120, k121, k122, k123, k124⟩)
            · first | have f128 := (noteqE (rfl : x2.toInt = x2.toInt) (show (9 : Int32).toInt = 9 from by decide)).mp c112 | skip
              refine ⟨fun c129 => ?_, fun c129 => ?_⟩
              · first | have f131 := (eqE (rfl : x2.toInt = x2.toInt) (show (10 : Int32).toInt = 10 from by decide)).mp c129 | skip
                unfold fX2_doLeaf_j106
                have f132 := tB x1
                refine sX2_enterThing hN hσ (fun σ134 hσ134 kk143 => ?_)
                obtain ⟨k135, k136, k137, k138, k139, k140, k141, k142⟩ := kk143
                exact hQ _ hσ134 (⟨k135, k136, k137, k138, k139, k140, k141⟩)
              · first | have f145 := (noteqE (rfl : x2.toInt = x2.toInt) (show (10 : Int32).toInt = 10 from by decide)).mp c129 | skip
                refine ⟨fun c146 => ?_, fun c146 => ?_⟩
                · first | have f148 := (eqE (rfl : x2.toInt = x2.toInt) (show (11 : Int32).toInt = 11 from by decide)).mp c146 | skip
                  unfold fX2_doLeaf_j106
                  have f149 := tB x1
                  refine sX2_enterThing hN hσ (fun σ151 hσ151 kk160 => ?_)
                  obtain ⟨k152, k153, k154, k155, k156, k157, k158, k159⟩ := kk160
                  exact hQ _ hσ151 (⟨k152, k153, k154, k155, k156, k157, k158⟩)
                · first | have f162 := (noteqE (rfl : x2.toInt = x2.toInt) (show (11 : Int32).toInt = 11 from by decide)).mp c146 | skip
                  unfold fX2_doLeaf_j115
                  unfold fX2_fail
                  refine ⟨fun c163 => ?_, fun c163 => ?_⟩
                  · have f164 := tB (σ.1 3 11)
                    first | have f165 := (eqE (rfl : (σ.1 3 11).toInt = (σ.1 3 11).toInt) (show (0 : Int32).toInt = 0 from by decide)).mp c163 | skip
                    intro σ166 eσ166
                    have hσ166 : K1 σ0 σ166 := by rw [eσ166]; exact hσ.u (Rg1.u_3_11 _) (fun q => absurd q.1 (by decide)) (fun q => absurd q.1 (by decide))
                    try dsimp only
                    exact hQ _ hσ166 (⟨(kq (a := 9) (b := 9) eσ166 (fun q => absurd q.1 (by decide))), (kq (a := 9) (b := 10) eσ166 (fun q => absurd q.1 (by decide))), (kq (a := 6) (b := 5) eσ166 (fun q => absurd q.1 (by decide))), (kq (a := 7) (b := 4) eσ166 (fun q => absurd q.1 (by decide))), (kq (a := 2) (b := 4) eσ166 (fun q => absurd q.1 (by decide))), (kq (a := 2) (b := 5) eσ166 (fun q => absurd q.1 (by decide))), (kq (a := 2) (b := 6) eσ166 (fun q => absurd q.1 (by decide)))⟩)
                  · have f167 := tB (σ.1 3 11)
                    first | have f168 := (noteqE (rfl : (σ.1 3 11).toInt = (σ.1 3 11).toInt) (show (0 : Int32).toInt = 0 from by decide)).mp c163 | skip
                    try dsimp only
                    exact hQ _ hσ (⟨rfl, rfl, rfl, rfl, rfl, rfl, rfl⟩)
set_option maxHeartbeats 4000000 in
theorem sX2_stepPacked {N : Nat} (hN : 4294967400 ≤ N) {k1 : Nat} (hk1 : jobK k1) {Q : St → Prop} {σ0 σ : St} (hs3_7 : 1 ≤ (σ.1 3 7).toInt ∧ (σ.1 3 7).toInt ≤ 40) (hσ : K1 σ0 σ) (hQ : ∀ τ : St, K1 σ0 τ → (τ.1 9 9 = σ.1 9 9 ∧ τ.1 9 10 = σ.1 9 10 ∧ τ.1 6 5 = σ.1 6 5 ∧ τ.1 7 4 = σ.1 7 4 ∧ τ.1 2 4 = σ.1 2 4 ∧ τ.1 2 5 = σ.1 2 5 ∧ τ.1 2 6 = σ.1 2 6) → Q τ) : fX2_stepPacked N k1 Q σ := by
  unfold fX2_stepPacked
  have kbhk1 := jobK_b hk1
  refine ⟨fun c1 => ?_, fun c1 => ?_⟩
  · have f2 := tB (σ.1 2 8)
    first | have f3 := (eqE (rfl : (σ.1 2 8).toInt = (σ.1 2 8).toInt) (show (0 : Int32).toInt = 0 from by decide)).mp c1 | skip
    unfold fX2_fail
    refine ⟨fun c4 => ?_, fun c4 => ?_⟩
    · have f5 := tB (σ.1 3 11)
      first | have f6 := (eqE (rfl : (σ.1 3 11).toInt = (σ.1 3 11).toInt) (show (0 : Int32).toInt = 0 from by decide)).mp c4 | skip
      intro σ7 eσ7
      have hσ7 : K1 σ0 σ7 := by rw [eσ7]; exact hσ.u (Rg1.u_3_11 _) (fun q => absurd q.1 (by decide)) (fun q => absurd q.1 (by decide))
      try dsimp only
      exact hQ _ hσ7 (⟨(kq (a := 9) (b := 9) eσ7 (fun q => absurd q.1 (by decide))), (kq (a := 9) (b := 10) eσ7 (fun q => absurd q.1 (by decide))), (kq (a := 6) (b := 5) eσ7 (fun q => absurd q.1 (by decide))), (kq (a := 7) (b := 4) eσ7 (fun q => absurd q.1 (by decide))), (kq (a := 2) (b := 4) eσ7 (fun q => absurd q.1 (by decide))), (kq (a := 2) (b := 5) eσ7 (fun q => absurd q.1 (by decide))), (kq (a := 2) (b := 6) eσ7 (fun q => absurd q.1 (by decide)))⟩)
    · have f8 := tB (σ.1 3 11)
      first | have f9 := (noteqE (rfl : (σ.1 3 11).toInt = (σ.1 3 11).toInt) (show (0 : Int32).toInt = 0 from by decide)).mp c4 | skip
      try dsimp only
      exact hQ _ hσ (⟨rfl, rfl, rfl, rfl, rfl, rfl, rfl⟩)
  · have f10 := tB (σ.1 2 8)
    first | have f11 := (noteqE (rfl : (σ.1 2 8).toInt = (σ.1 2 8).toInt) (show (0 : Int32).toInt = 0 from by decide)).mp c1 | skip
    refine ⟨fun c12 => ?_, fun c12 => ?_⟩
    · have f13 := tB (σ.1 k1 5)
      first | have f14 := (eqE (rfl : (σ.1 k1 5).toInt = (σ.1 k1 5).toInt) (show (0 : Int32).toInt = 0 from by decide)).mp c12 | skip
      unfold fX2_stepPacked_j44
      refine ⟨fun c15 => ?_, fun c15 => ?_⟩
      · have f16 := tB (σ.1 3 11)
        first | have f17 := (eqE (rfl : (σ.1 3 11).toInt = (σ.1 3 11).toInt) (show (0 : Int32).toInt = 0 from by decide)).mp c15 | skip
        have f18 := tB (σ.1 k1 6)
        refine sX2_readByte hN hσ (fun r31 σ19 hσ19 kk30 p32 => ?_)
        obtain ⟨k20, k21, k22, k23, k24, k25, k26, k27, k28, k29⟩ := kk30
        refine ⟨fun c33 => ?_, fun c33 => ?_⟩
        · have f34 := tB (σ19.1 3 11)
          first | have f35 := (eqE (rfl : (σ19.1 3 11).toInt = (σ19.1 3 11).toInt) (show (0 : Int32).toInt = 0 from by decide)).mp c33 | skip
          refine ⟨fun c36 => ?_, fun c36 => ?_⟩
          · have f37 := tB r31
            first | have f38 := (eqE (rfl : r31.toInt = r31.toInt) (show (0 : Int32).toInt = 0 from by decide)).mp c36 | skip
            refine sX2_followBranch hN hk1 hσ19 (fun σ40 hσ40 kk51 => ?_)
            obtain ⟨k41, k42, k43, k44, k45, k46, k47, k48, k49, k50⟩ := kk51
            exact hQ _ hσ40 (⟨k43.trans (k22), k44.trans (k23), k45.trans (k24), k46.trans (k25), k47.trans (k26), k48.trans (k27), k49.trans (k28)⟩)
          · have f52 := tB r31
            first | have f53 := (noteqE (rfl : r31.toInt = r31.toInt) (show (0 : Int32).toInt = 0 from by decide)).mp c36 | skip
            refine ⟨fun c54 => ?_, fun c54 => ?_⟩
            · first | have f56 := (eqE (rfl : r31.toInt = r31.toInt) (show (1 : Int32).toInt = 1 from by decide)).mp c54 | skip
              intro v57 ev57
              intro σ58 eσ58
              have f59 := tB v57
              have f60 := K1.g_3_7 hσ19
              have f61 := congrArg Int32.toInt k20
              have f62 := K1.g_3_7 hσ
              first | have f63 : v57.toInt = ((σ19.1 3 7).toInt - (1)) := (congrArg Int32.toInt ev57).trans (sOkE (rfl : (σ19.1 3 7).toInt = (σ19.1 3 7).toInt) (show (1 : Int32).toInt = 1 from by decide) (by omega) (by omega)) | skip
              have hσ58 : K1 σ0 σ58 := by rw [eσ58]; exact hσ19.u (Rg1.r_3_7 (leP (rfl : v57.toInt = v57.toInt) (by omega)) (geP (rfl : v57.toInt = v57.toInt) (by omega))) (fun q => absurd q.1 (by decide)) (fun q => absurd q.1 (by decide))
              exact hQ _ hσ58 (⟨(kq (a := 9) (b := 9) eσ58 (fun q => absurd q.1 (by decide))).trans (k22), (kq (a := 9) (b := 10) eσ58 (fun q => absurd q.1 (by decide))).trans (k23), (kq (a := 6) (b := 5) eσ58 (fun q => absurd q.1 (by decide))).trans (k24), (kq (a := 7) (b := 4) eσ58 (fun q => absurd q.1 (by decide))).trans (k25), (kq (a := 2) (b := 4) eσ58 (fun q => absurd q.1 (by decide))).trans (k26), (kq (a := 2) (b := 5) eσ58 (fun q => absurd q.1 (by decide))).trans (k27), (kq (a := 2) (b := 6) eσ58 (fun q => absurd q.1 (by decide))).trans (k28)⟩)
            · first | have f65 := (noteqE (rfl : r31.toInt = r31.toInt) (show (1 : Int32).toInt = 1 from by decide)).mp c54 | skip
              intro σ66 eσ66
              have kb67 := jobK_b hk1
              have hσ66 : K1 σ0 σ66 := by rw [eσ66]; exact hσ19.u (rg_jobK hk1) (by omega) (by omega)
              refine sX2_doLeaf hN hσ66 (fun σ70 hσ70 kk78 => ?_)
              obtain ⟨k71, k72, k73, k74, k75, k76, k77⟩ := kk78
              exact hQ _ hσ70 (⟨k71.trans ((kq (a := 9) (b := 9) eσ66 (by omega)).trans (k22)), k72.trans ((kq (a := 9) (b := 10) eσ66 (by omega)).trans (k23)), k73.trans ((kq (a := 6) (b := 5) eσ66 (by omega)).trans (k24)), k74.trans ((kq (a := 7) (b := 4) eσ66 (by omega)).trans (k25)), k75.trans ((kq (a := 2) (b := 4) eσ66 (by omega)).trans (k26)), k76.trans ((kq (a := 2) (b := 5) eσ66 (by omega)).trans (k27)), k77.trans ((kq (a := 2) (b := 6) eσ66 (by omega)).trans (k28))⟩)
        · have f79 := tB (σ19.1 3 11)
          first | have f80 := (noteqE (rfl : (σ19.1 3 11).toInt = (σ19.1 3 11).toInt) (show (0 : Int32).toInt = 0 from by decide)).mp c33 | skip
          exact hQ _ hσ19 (⟨k22, k23, k24, k25, k26, k27, k28⟩)
      · have f81 := tB (σ.1 3 11)
        first | have f82 := (noteqE (rfl : (σ.1 3 11).toInt = (σ.1 3 11).toInt) (show (0 : Int32).toInt = 0 from by decide)).mp c15 | skip
        exact hQ _ hσ (⟨rfl, rfl, rfl, rfl, rfl, rfl, rfl⟩)
    · have f83 := tB (σ.1 k1 5)
      first | have f84 := (noteqE (rfl : (σ.1 k1 5).toInt = (σ.1 k1 5).toInt) (show (0 : Int32).toInt = 0 from by decide)).mp c12 | skip
      refine sX2_readFour hN hσ (fun r98 σ86 hσ86 kk97 p99 => ?_)
      obtain ⟨k87, k88, k89, k90, k91, k92, k93, k94, k95, k96⟩ := kk97
      unfold fX2_stepPacked_j44
      refine ⟨fun c100 => ?_, fun c100 => ?_⟩
      · have f101 := tB (σ86.1 3 11)
        first | have f102 := (eqE (rfl : (σ86.1 3 11).toInt = (σ86.1 3 11).toInt) (show (0 : Int32).toInt = 0 from by decide)).mp c100 | skip
        have f103 := tB r98
        refine sX2_readByte hN hσ86 (fun r116 σ104 hσ104 kk115 p117 => ?_)
        obtain ⟨k105, k106, k107, k108, k109, k110, k111, k112, k113, k114⟩ := kk115
        refine ⟨fun c118 => ?_, fun c118 => ?_⟩
        · have f119 := tB (σ104.1 3 11)
          first | have f120 := (eqE (rfl : (σ104.1 3 11).toInt = (σ104.1 3 11).toInt) (show (0 : Int32).toInt = 0 from by decide)).mp c118 | skip
          refine ⟨fun c121 => ?_, fun c121 => ?_⟩
          · have f122 := tB r116
            first | have f123 := (eqE (rfl : r116.toInt = r116.toInt) (show (0 : Int32).toInt = 0 from by decide)).mp c121 | skip
            refine sX2_followBranch hN hk1 hσ104 (fun σ125 hσ125 kk136 => ?_)
            obtain ⟨k126, k127, k128, k129, k130, k131, k132, k133, k134, k135⟩ := kk136
            exact hQ _ hσ125 (⟨k128.trans (k107.trans (k89)), k129.trans (k108.trans (k90)), k130.trans (k109.trans (k91)), k131.trans (k110.trans (k92)), k132.trans (k111.trans (k93)), k133.trans (k112.trans (k94)), k134.trans (k113.trans (k95))⟩)
          · have f137 := tB r116
            first | have f138 := (noteqE (rfl : r116.toInt = r116.toInt) (show (0 : Int32).toInt = 0 from by decide)).mp c121 | skip
            refine ⟨fun c139 => ?_, fun c139 => ?_⟩
            · first | have f141 := (eqE (rfl : r116.toInt = r116.toInt) (show (1 : Int32).toInt = 1 from by decide)).mp c139 | skip
              intro v142 ev142
              intro σ143 eσ143
              have f144 := tB v142
              have f145 := K1.g_3_7 hσ104
              have f146 := congrArg Int32.toInt k105
              have f147 := K1.g_3_7 hσ86
              have f148 := congrArg Int32.toInt k87
              have f149 := K1.g_3_7 hσ
              first | have f150 : v142.toInt = ((σ104.1 3 7).toInt - (1)) := (congrArg Int32.toInt ev142).trans (sOkE (rfl : (σ104.1 3 7).toInt = (σ104.1 3 7).toInt) (show (1 : Int32).toInt = 1 from by decide) (by omega) (by omega)) | skip
              have hσ143 : K1 σ0 σ143 := by rw [eσ143]; exact hσ104.u (Rg1.r_3_7 (leP (rfl : v142.toInt = v142.toInt) (by omega)) (geP (rfl : v142.toInt = v142.toInt) (by omega))) (fun q => absurd q.1 (by decide)) (fun q => absurd q.1 (by decide))
              exact hQ _ hσ143 (⟨(kq (a := 9) (b := 9) eσ143 (fun q => absurd q.1 (by decide))).trans (k107.trans (k89)), (kq (a := 9) (b := 10) eσ143 (fun q => absurd q.1 (by decide))).trans (k108.trans (k90)), (kq (a := 6) (b := 5) eσ143 (fun q => absurd q.1 (by decide))).trans (k109.trans (k91)), (kq (a := 7) (b := 4) eσ143 (fun q => absurd q.1 (by decide))).trans (k110.trans (k92)), (kq (a := 2) (b := 4) eσ143 (fun q => absurd q.1 (by decide))).trans (k111.trans (k93)), (kq (a := 2) (b := 5) eσ143 (fun q => absurd q.1 (by decide))).trans (k112.trans (k94)), (kq (a := 2) (b := 6) eσ143 (fun q => absurd q.1 (by decide))).trans (k113.trans (k95))⟩)
            · first | have f152 := (noteqE (rfl : r116.toInt = r116.toInt) (show (1 : Int32).toInt = 1 from by decide)).mp c139 | skip
              intro σ153 eσ153
              have kb154 := jobK_b hk1
              have hσ153 : K1 σ0 σ153 := by rw [eσ153]; exact hσ104.u (rg_jobK hk1) (by omega) (by omega)
              refine sX2_doLeaf hN hσ153 (fun σ157 hσ157 kk165 => ?_)
              obtain ⟨k158, k159, k160, k161, k162, k163, k164⟩ := kk165
              exact hQ _ hσ157 (⟨k158.trans ((kq (a := 9) (b := 9) eσ153 (by omega)).trans (k107.trans (k89))), k159.trans ((kq (a := 9) (b := 10) eσ153 (by omega)).trans (k108.trans (k90))), k160.trans ((kq (a := 6) (b := 5) eσ153 (by omega)).trans (k109.trans (k91))), k161.trans ((kq (a := 7) (b := 4) eσ153 (by omega)).trans (k110.trans (k92))), k162.trans ((kq (a := 2) (b := 4) eσ153 (by omega)).trans (k111.trans (k93))), k163.trans ((kq (a := 2) (b := 5) eσ153 (by omega)).trans (k112.trans (k94))), k164.trans ((kq (a := 2) (b := 6) eσ153 (by omega)).trans (k113.trans (k95)))⟩)
        · have f166 := tB (σ104.1 3 11)
          first | have f167 := (noteqE (rfl : (σ104.1 3 11).toInt = (σ104.1 3 11).toInt) (show (0 : Int32).toInt = 0 from by decide)).mp c118 | skip
          exact hQ _ hσ104 (⟨k107.trans (k89), k108.trans (k90), k109.trans (k91), k110.trans (k92), k111.trans (k93), k112.trans (k94), k113.trans (k95)⟩)
      · have f168 := tB (σ86.1 3 11)
        first | have f169 := (noteqE (rfl : (σ86.1 3 11).toInt = (σ86.1 3 11).toInt) (show (0 : Int32).toInt = 0 from by decide)).mp c100 | skip
        exact hQ _ hσ86 (⟨k89, k90, k91, k92, k93, k94, k95⟩)
set_option maxHeartbeats 4000000 in
theorem sX2_digitCount {N : Nat} (hN : 4294967400 ≤ N) {x0 : Int64} {Q : Int32 → St → Prop} {σ0 σ : St} (hσ : K1 σ0 σ) (hQ : ∀ r : Int32, True → Q r σ) : fX2_digitCount N x0 Q σ := by
  unfold fX2_digitCount
  intro v1 ev1
  refine lo2_i (fun (y2 : Int32) (y3 : Int64) (τ : St) => σ = τ ∧ 0 ≤ y2.toInt) (fun (y2 : Int32) (y3 : Int64) (τ : St) => (2147483648 - y2.toInt).toNat) ?_ N (1 : Int32) v1 σ ⟨rfl, by first | decide | (have z1 : (1 : Int32).toInt = 1 := (by decide); omega)⟩ (by have z1 : (1 : Int32).toInt = 1 := (by decide); (try dsimp only); omega)
  intro rr4 y7 y8 σ6 hIσ6 ih5
  obtain ⟨hσ6, i9⟩ := hIσ6
  subst hσ6
  unfold fX2_digitCount_l8
  have f10 := tB y7
  refine ⟨fun c11 => ?_, fun c11 => ?_⟩
  · exact hQ _ trivial
  · refine ⟨fun c12 => ?_, fun c12 => ?_⟩
    · first | have f14 := (leE (show (20 : Int32).toInt = 20 from by decide) (rfl : y7.toInt = y7.toInt)).mp c12 | skip
      exact hQ _ trivial
    · first | have f16 := (notleE (show (20 : Int32).toInt = 20 from by decide) (rfl : y7.toInt = y7.toInt)).mp c12 | skip
      intro v17 ev17
      intro v18 ev18
      have f19 := tB v18
      first | have f21 : v18.toInt = (y7.toInt + (1)) := (congrArg Int32.toInt ev18).trans (aOkE (rfl : y7.toInt = y7.toInt) (show (1 : Int32).toInt = 1 from by decide) (by omega) (by omega)) | skip
      exact ih5 v18 v17 σ ⟨rfl, by omega⟩ (by (try dsimp only); omega)
set_option maxHeartbeats 4000000 in
theorem sX2_stepNumber {N : Nat} (hN : 4294967400 ≤ N) {k1 : Nat} (hk1 : jobK k1) {Q : St → Prop} {σ0 σ : St} (hs3_7 : 1 ≤ (σ.1 3 7).toInt ∧ (σ.1 3 7).toInt ≤ 40) (hσ : K1 σ0 σ) (hQ : ∀ τ : St, K1 σ0 τ → (τ.1 9 9 = σ.1 9 9 ∧ τ.1 9 10 = σ.1 9 10 ∧ τ.1 6 5 = σ.1 6 5 ∧ τ.1 7 4 = σ.1 7 4 ∧ τ.1 2 4 = σ.1 2 4 ∧ τ.1 2 5 = σ.1 2 5 ∧ τ.1 2 6 = σ.1 2 6) → Q τ) : fX2_stepNumber N k1 Q σ := by
  unfold fX2_stepNumber
  have kbhk1 := jobK_b hk1
  intro v1 ev1
  refine ⟨fun c2 => ?_, fun c2 => ?_⟩
  · have f3 := tB (σ.1 k1 2)
    first | have f4 := (leE (show (0 : Int32).toInt = 0 from by decide) (rfl : (σ.1 k1 2).toInt = (σ.1 k1 2).toInt)).mp c2 | skip
    unfold fX2_stepNumber_j21
    refine sX2_digitCount hN hσ (fun r18 p19 => ?_)
    intro v20 ev20
    refine ⟨fun c21 => ?_, fun c21 => ?_⟩
    · have f22 := tB v20
      have f23 := tB r18
      have f24 := tB (σ.1 k1 3)
      first | have f25 : v20.toInt = ((((0) + r18.toInt) - (1)) - (σ.1 k1 3).toInt) := (congrArg Int32.toInt ev20).trans (sOkE (sOkE (aOkE (show (0 : Int32).toInt = 0 from by decide) (rfl : r18.toInt = r18.toInt) (by omega) (by omega)) (show (1 : Int32).toInt = 1 from by decide) (by omega) (by omega)) (rfl : (σ.1 k1 3).toInt = (σ.1 k1 3).toInt) (by omega) (by omega)) | skip
      first | have f26 := (leE (show (0 : Int32).toInt = 0 from by decide) (rfl : v20.toInt = v20.toInt)).mp c21 | skip
      refine ⟨fun c27 => ?_, fun c27 => ?_⟩
      · first | have f28 := (eqE (show (0 : Int32).toInt = 0 from by decide) (show (1 : Int32).toInt = 1 from by decide)).mp c27 | skip
        refine ⟨fun c29 => ?_, fun c29 => ?_⟩
        · first | have f31 := (eqE (rfl : (σ.1 k1 3).toInt = (σ.1 k1 3).toInt) (show (0 : Int32).toInt = 0 from by decide)).mp c29 | skip
          unfold fX2_stepNumber_j73
          intro v32 ev32
          intro σ33 eσ33
          have kb34 := jobK_b hk1
          have hσ33 : K1 σ0 σ33 := by rw [eσ33]; exact hσ.u (rg_jobK hk1) (by omega) (by omega)
          refine ⟨fun c35 => ?_, fun c35 => ?_⟩
          · first | have f36 := (eqE (show (1 : Int32).toInt = 1 from by decide) (show (0 : Int32).toInt = 0 from by decide)).mp c35 | skip
            refine lo2_i (fun (y37 : Int64) (y38 : Int32) (τ : St) => K1 σ0 τ ∧ τ.1 3 7 = σ33.1 3 7 ∧ τ.1 3 11 = σ33.1 3 11 ∧ τ.1 3 6 = σ33.1 3 6 ∧ τ.1 9 9 = σ33.1 9 9 ∧ τ.1 9 10 = σ33.1 9 10 ∧ τ.1 6 5 = σ33.1 6 5 ∧ τ.1 7 4 = σ33.1 7 4 ∧ τ.1 2 4 = σ33.1 2 4 ∧ τ.1 2 5 = σ33.1 2 5 ∧ τ.1 2 6 = σ33.1 2 6 ∧ τ.1 3 8 = σ33.1 3 8 ∧ 0 ≤ y38.toInt) (fun (y37 : Int64) (y38 : Int32) (τ : St) => (2147483648 - y38.toInt).toNat) ?_ N v1 (0 : Int32) σ33 ⟨hσ33, rfl, rfl, rfl, rfl, rfl, rfl, rfl, rfl, rfl, rfl, rfl, by first | decide | (have z0 : (0 : Int32).toInt = 0 := (by decide); omega)⟩ (by have z0 : (0 : Int32).toInt = 0 := (by decide); (try dsimp only); omega)
            intro rr40 y43 y44 σ42 hIσ42 ih41
            obtain ⟨hσ42, k45, k46, k47, k48, k49, k50, k51, k52, k53, k54, k55, i56⟩ := hIσ42
            unfold fX2_stepNumber_l100
            have f57 := tB y44
            refine ⟨fun c58 => ?_, fun c58 => ?_⟩
            · first | have f61 := (leE (rfl : v20.toInt = v20.toInt) (rfl : y44.toInt = y44.toInt)).mp c58 | skip
              refine sX2_give hN hσ42 (fun σ62 hσ62 kk70 => ?_)
              obtain ⟨k63, k64, k65, k66, k67, k68, k69⟩ := kk70
              exact hQ _ hσ62 (⟨k63.trans (k48.trans ((kq (a := 9) (b := 9) eσ33 (by omega)))), k64.trans (k49.trans ((kq (a := 9) (b := 10) eσ33 (by omega)))), k65.trans (k50.trans ((kq (a := 6) (b := 5) eσ33 (by omega)))), k66.trans (k51.trans ((kq (a := 7) (b := 4) eσ33 (by omega)))), k67.trans (k52.trans ((kq (a := 2) (b := 4) eσ33 (by omega)))), k68.trans (k53.trans ((kq (a := 2) (b := 5) eσ33 (by omega)))), k69.trans (k54.trans ((kq (a := 2) (b := 6) eσ33 (by omega))))⟩)
            · first | have f73 := (notleE (rfl : v20.toInt = v20.toInt) (rfl : y44.toInt = y44.toInt)).mp c58 | skip
              intro v74 ev74
              intro v75 ev75
              have f76 := tB v75
              first | have f78 : v75.toInt = (y44.toInt + (1)) := (congrArg Int32.toInt ev75).trans (aOkE (rfl : y44.toInt = y44.toInt) (show (1 : Int32).toInt = 1 from by decide) (by omega) (by omega)) | skip
              exact ih41 v74 v75 σ42 ⟨hσ42, k45, k46, k47, k48, k49, k50, k51, k52, k53, k54, k55, by omega⟩ (by (try dsimp only); omega)
          · first | have f79 := (noteqE (show (1 : Int32).toInt = 1 from by decide) (show (0 : Int32).toInt = 0 from by decide)).mp c35 | skip
            refine sX2_give hN hσ33 (fun σ80 hσ80 kk88 => ?_)
            obtain ⟨k81, k82, k83, k84, k85, k86, k87⟩ := kk88
            exact hQ _ hσ80 (⟨k81.trans ((kq (a := 9) (b := 9) eσ33 (by omega))), k82.trans ((kq (a := 9) (b := 10) eσ33 (by omega))), k83.trans ((kq (a := 6) (b := 5) eσ33 (by omega))), k84.trans ((kq (a := 7) (b := 4) eσ33 (by omega))), k85.trans ((kq (a := 2) (b := 4) eσ33 (by omega))), k86.trans ((kq (a := 2) (b := 5) eσ33 (by omega))), k87.trans ((kq (a := 2) (b := 6) eσ33 (by omega)))⟩)
        · first | have f90 := (noteqE (rfl : (σ.1 k1 3).toInt = (σ.1 k1 3).toInt) (show (0 : Int32).toInt = 0 from by decide)).mp c29 | skip
          unfold fX2_stepNumber_j72
          unfold fX2_stepNumber_j73
          intro v91 ev91
          intro σ92 eσ92
          have kb93 := jobK_b hk1
          have hσ92 : K1 σ0 σ92 := by rw [eσ92]; exact hσ.u (rg_jobK hk1) (by omega) (by omega)
          refine ⟨fun c94 => ?_, fun c94 => ?_⟩
          · first | have f95 := (eqE (show (0 : Int32).toInt = 0 from by decide) (show (0 : Int32).toInt = 0 from by decide)).mp c94 | skip
            refine lo2_i (fun (y96 : Int64) (y97 : Int32) (τ : St) => K1 σ0 τ ∧ τ.1 3 7 = σ92.1 3 7 ∧ τ.1 3 11 = σ92.1 3 11 ∧ τ.1 3 6 = σ92.1 3 6 ∧ τ.1 9 9 = σ92.1 9 9 ∧ τ.1 9 10 = σ92.1 9 10 ∧ τ.1 6 5 = σ92.1 6 5 ∧ τ.1 7 4 = σ92.1 7 4 ∧ τ.1 2 4 = σ92.1 2 4 ∧ τ.1 2 5 = σ92.1 2 5 ∧ τ.1 2 6 = σ92.1 2 6 ∧ τ.1 3 8 = σ92.1 3 8 ∧ 0 ≤ y97.toInt) (fun (y96 : Int64) (y97 : Int32) (τ : St) => (2147483648 - y97.toInt).toNat) ?_ N v1 (0 : Int32) σ92 ⟨hσ92, rfl, rfl, rfl, rfl, rfl, rfl, rfl, rfl, rfl, rfl, rfl, by first | decide | (have z0 : (0 : Int32).toInt = 0 := (by decide); omega)⟩ (by have z0 : (0 : Int32).toInt = 0 := (by decide); (try dsimp only); omega)
            intro rr99 y102 y103 σ101 hIσ101 ih100
            obtain ⟨hσ101, k104, k105, k106, k107, k108, k109, k110, k111, k112, k113, k114, i115⟩ := hIσ101
            unfold fX2_stepNumber_l100
            have f116 := tB y103
            refine ⟨fun c117 => ?_, fun c117 => ?_⟩
            · first | have f120 := (leE (rfl : v20.toInt = v20.toInt) (rfl : y103.toInt = y103.toInt)).mp c117 | skip
              refine sX2_give hN hσ101 (fun σ121 hσ121 kk129 => ?_)
              obtain ⟨k122, k123, k124, k125, k126, k127, k128⟩ := kk129
              exact hQ _ hσ121 (⟨k122.trans (k107.trans ((kq (a := 9) (b := 9) eσ92 (by omega)))), k123.trans (k108.trans ((kq (a := 9) (b := 10) eσ92 (by omega)))), k124.trans (k109.trans ((kq (a := 6) (b := 5) eσ92 (by omega)))), k125.trans (k110.trans ((kq (a := 7) (b := 4) eσ92 (by omega)))), k126.trans (k111.trans ((kq (a := 2) (b := 4) eσ92 (by omega)))), k127.trans (k112.trans ((kq (a := 2) (b := 5) eσ92 (by omega)))), k128.trans (k113.trans ((kq (a := 2) (b := 6) eσ92 (by omega))))⟩)
            · first | have f132 := (notleE (rfl : v20.toInt = v20.toInt) (rfl : y103.toInt = y103.toInt)).mp c117 | skip
              intro v133 ev133
              intro v134 ev134
              have f135 := tB v134
              first | have f137 : v134.toInt = (y103.toInt + (1)) := (congrArg Int32.toInt ev134).trans (aOkE (rfl : y103.toInt = y103.toInt) (show (1 : Int32).toInt = 1 from by decide) (by omega) (by omega)) | skip
              exact ih100 v133 v134 σ101 ⟨hσ101, k104, k105, k106, k107, k108, k109, k110, k111, k112, k113, k114, by omega⟩ (by (try dsimp only); omega)
          · first | have f138 := (noteqE (show (0 : Int32).toInt = 0 from by decide) (show (0 : Int32).toInt = 0 from by decide)).mp c94 | skip
            refine sX2_give hN hσ92 (fun σ139 hσ139 kk147 => ?_)
            obtain ⟨k140, k141, k142, k143, k144, k145, k146⟩ := kk147
            exact hQ _ hσ139 (⟨k140.trans ((kq (a := 9) (b := 9) eσ92 (by omega))), k141.trans ((kq (a := 9) (b := 10) eσ92 (by omega))), k142.trans ((kq (a := 6) (b := 5) eσ92 (by omega))), k143.trans ((kq (a := 7) (b := 4) eσ92 (by omega))), k144.trans ((kq (a := 2) (b := 4) eσ92 (by omega))), k145.trans ((kq (a := 2) (b := 5) eσ92 (by omega))), k146.trans ((kq (a := 2) (b := 6) eσ92 (by omega)))⟩)
      · first | have f148 := (noteqE (show (0 : Int32).toInt = 0 from by decide) (show (1 : Int32).toInt = 1 from by decide)).mp c27 | skip
        unfold fX2_stepNumber_j72
        unfold fX2_stepNumber_j73
        intro v149 ev149
        intro σ150 eσ150
        have kb151 := jobK_b hk1
        have hσ150 : K1 σ0 σ150 := by rw [eσ150]; exact hσ.u (rg_jobK hk1) (by omega) (by omega)
        refine ⟨fun c152 => ?_, fun c152 => ?_⟩
        · first | have f153 := (eqE (show (0 : Int32).toInt = 0 from by decide) (show (0 : Int32).toInt = 0 from by decide)).mp c152 | skip
          refine lo2_i (fun (y154 : Int64) (y155 : Int32) (τ : St) => K1 σ0 τ ∧ τ.1 3 7 = σ150.1 3 7 ∧ τ.1 3 11 = σ150.1 3 11 ∧ τ.1 3 6 = σ150.1 3 6 ∧ τ.1 9 9 = σ150.1 9 9 ∧ τ.1 9 10 = σ150.1 9 10 ∧ τ.1 6 5 = σ150.1 6 5 ∧ τ.1 7 4 = σ150.1 7 4 ∧ τ.1 2 4 = σ150.1 2 4 ∧ τ.1 2 5 = σ150.1 2 5 ∧ τ.1 2 6 = σ150.1 2 6 ∧ τ.1 3 8 = σ150.1 3 8 ∧ 0 ≤ y155.toInt) (fun (y154 : Int64) (y155 : Int32) (τ : St) => (2147483648 - y155.toInt).toNat) ?_ N v1 (0 : Int32) σ150 ⟨hσ150, rfl, rfl, rfl, rfl, rfl, rfl, rfl, rfl, rfl, rfl, rfl, by first | decide | (have z0 : (0 : Int32).toInt = 0 := (by decide); omega)⟩ (by have z0 : (0 : Int32).toInt = 0 := (by decide); (try dsimp only); omega)
          intro rr157 y160 y161 σ159 hIσ159 ih158
          obtain ⟨hσ159, k162, k163, k164, k165, k166, k167, k168, k169, k170, k171, k172, i173⟩ := hIσ159
          unfold fX2_stepNumber_l100
          have f174 := tB y161
          refine ⟨fun c175 => ?_, fun c175 => ?_⟩
          · first | have f178 := (leE (rfl : v20.toInt = v20.toInt) (rfl : y161.toInt = y161.toInt)).mp c175 | skip
            refine sX2_give hN hσ159 (fun σ179 hσ179 kk187 => ?_)
            obtain ⟨k180, k181, k182, k183, k184, k185, k186⟩ := kk187
            exact hQ _ hσ179 (⟨k180.trans (k165.trans ((kq (a := 9) (b := 9) eσ150 (by omega)))), k181.trans (k166.trans ((kq (a := 9) (b := 10) eσ150 (by omega)))), k182.trans (k167.trans ((kq (a := 6) (b := 5) eσ150 (by omega)))), k183.trans (k168.trans ((kq (a := 7) (b := 4) eσ150 (by omega)))), k184.trans (k169.trans ((kq (a := 2) (b := 4) eσ150 (by omega)))), k185.trans (k170.trans ((kq (a := 2) (b := 5) eσ150 (by omega)))), k186.trans (k171.trans ((kq (a := 2) (b := 6) eσ150 (by omega))))⟩)
          · first | have f190 := (notleE (rfl : v20.toInt = v20.toInt) (rfl : y161.toInt = y161.toInt)).mp c175 | skip
            intro v191 ev191
            intro v192 ev192
            have f193 := tB v192
            first | have f195 : v192.toInt = (y161.toInt + (1)) := (congrArg Int32.toInt ev192).trans (aOkE (rfl : y161.toInt = y161.toInt) (show (1 : Int32).toInt = 1 from by decide) (by omega) (by omega)) | skip
            exact ih158 v191 v192 σ159 ⟨hσ159, k162, k163, k164, k165, k166, k167, k168, k169, k170, k171, k172, by omega⟩ (by (try dsimp only); omega)
        · first | have f196 := (noteqE (show (0 : Int32).toInt = 0 from by decide) (show (0 : Int32).toInt = 0 from by decide)).mp c152 | skip
          refine sX2_give hN hσ150 (fun σ197 hσ197 kk205 => ?_)
          obtain ⟨k198, k199, k200, k201, k202, k203, k204⟩ := kk205
          exact hQ _ hσ197 (⟨k198.trans ((kq (a := 9) (b := 9) eσ150 (by omega))), k199.trans ((kq (a := 9) (b := 10) eσ150 (by omega))), k200.trans ((kq (a := 6) (b := 5) eσ150 (by omega))), k201.trans ((kq (a := 7) (b := 4) eσ150 (by omega))), k202.trans ((kq (a := 2) (b := 4) eσ150 (by omega))), k203.trans ((kq (a := 2) (b := 5) eσ150 (by omega))), k204.trans ((kq (a := 2) (b := 6) eσ150 (by omega)))⟩)
    · have f206 := tB v20
      have f207 := tB r18
      have f208 := tB (σ.1 k1 3)
      first | have f209 : v20.toInt = ((((0) + r18.toInt) - (1)) - (σ.1 k1 3).toInt) := (congrArg Int32.toInt ev20).trans (sOkE (sOkE (aOkE (show (0 : Int32).toInt = 0 from by decide) (rfl : r18.toInt = r18.toInt) (by omega) (by omega)) (show (1 : Int32).toInt = 1 from by decide) (by omega) (by omega)) (rfl : (σ.1 k1 3).toInt = (σ.1 k1 3).toInt) (by omega) (by omega)) | skip
      first | have f210 := (notleE (show (0 : Int32).toInt = 0 from by decide) (rfl : v20.toInt = v20.toInt)).mp c21 | skip
      intro v211 ev211
      intro σ212 eσ212
      have f213 := tB v211
      have f214 := K1.g_3_7 hσ
      first | have f215 : v211.toInt = ((σ.1 3 7).toInt - (1)) := (congrArg Int32.toInt ev211).trans (sOkE (rfl : (σ.1 3 7).toInt = (σ.1 3 7).toInt) (show (1 : Int32).toInt = 1 from by decide) (by omega) (by omega)) | skip
      have hσ212 : K1 σ0 σ212 := by rw [eσ212]; exact hσ.u (Rg1.r_3_7 (leP (rfl : v211.toInt = v211.toInt) (by omega)) (geP (rfl : v211.toInt = v211.toInt) (by omega))) (fun q => absurd q.1 (by decide)) (fun q => absurd q.1 (by decide))
      exact hQ _ hσ212 (⟨(kq (a := 9) (b := 9) eσ212 (fun q => absurd q.1 (by decide))), (kq (a := 9) (b := 10) eσ212 (fun q => absurd q.1 (by decide))), (kq (a := 6) (b := 5) eσ212 (fun q => absurd q.1 (by decide))), (kq (a := 7) (b := 4) eσ212 (fun q => absurd q.1 (by decide))), (kq (a := 2) (b := 4) eσ212 (fun q => absurd q.1 (by decide))), (kq (a := 2) (b := 5) eσ212 (fun q => absurd q.1 (by decide))), (kq (a := 2) (b := 6) eσ212 (fun q => absurd q.1 (by decide)))⟩)
  · have f216 := tB (σ.1 k1 2)
    first | have f217 := (notleE (show (0 : Int32).toInt = 0 from by decide) (rfl : (σ.1 k1 2).toInt = (σ.1 k1 2).toInt)).mp c2 | skip
    unfold fX2_stepNumber_j21
    refine sX2_digitCount hN hσ (fun r231 p232 => ?_)
    intro v233 ev233
    refine ⟨fun c234 => ?_, fun c234 => ?_⟩
    · have f235 := tB v233
      have f236 := tB r231
      have f237 := tB (σ.1 k1 3)
      first | have f238 : v233.toInt = ((((1) + r231.toInt) - (1)) - (σ.1 k1 3).toInt) := (congrArg Int32.toInt ev233).trans (sOkE (sOkE (aOkE (show (1 : Int32).toInt = 1 from by decide) (rfl : r231.toInt = r231.toInt) (by omega) (by omega)) (show (1 : Int32).toInt = 1 from by decide) (by omega) (by omega)) (rfl : (σ.1 k1 3).toInt = (σ.1 k1 3).toInt) (by omega) (by omega)) | skip
      first | have f239 := (leE (show (0 : Int32).toInt = 0 from by decide) (rfl : v233.toInt = v233.toInt)).mp c234 | skip
      refine ⟨fun c240 => ?_, fun c240 => ?_⟩
      · first | have f241 := (eqE (show (1 : Int32).toInt = 1 from by decide) (show (1 : Int32).toInt = 1 from by decide)).mp c240 | skip
        refine ⟨fun c242 => ?_, fun c242 => ?_⟩
        · first | have f244 := (eqE (rfl : (σ.1 k1 3).toInt = (σ.1 k1 3).toInt) (show (0 : Int32).toInt = 0 from by decide)).mp c242 | skip
          unfold fX2_stepNumber_j73
          intro v245 ev245
          intro σ246 eσ246
          have kb247 := jobK_b hk1
          have hσ246 : K1 σ0 σ246 := by rw [eσ246]; exact hσ.u (rg_jobK hk1) (by omega) (by omega)
          refine ⟨fun c248 => ?_, fun c248 => ?_⟩
          · first | have f249 := (eqE (show (1 : Int32).toInt = 1 from by decide) (show (0 : Int32).toInt = 0 from by decide)).mp c248 | skip
            refine lo2_i (fun (y250 : Int64) (y251 : Int32) (τ : St) => K1 σ0 τ ∧ τ.1 3 7 = σ246.1 3 7 ∧ τ.1 3 11 = σ246.1 3 11 ∧ τ.1 3 6 = σ246.1 3 6 ∧ τ.1 9 9 = σ246.1 9 9 ∧ τ.1 9 10 = σ246.1 9 10 ∧ τ.1 6 5 = σ246.1 6 5 ∧ τ.1 7 4 = σ246.1 7 4 ∧ τ.1 2 4 = σ246.1 2 4 ∧ τ.1 2 5 = σ246.1 2 5 ∧ τ.1 2 6 = σ246.1 2 6 ∧ τ.1 3 8 = σ246.1 3 8 ∧ 0 ≤ y251.toInt) (fun (y250 : Int64) (y251 : Int32) (τ : St) => (2147483648 - y251.toInt).toNat) ?_ N v1 (0 : Int32) σ246 ⟨hσ246, rfl, rfl, rfl, rfl, rfl, rfl, rfl, rfl, rfl, rfl, rfl, by first | decide | (have z0 : (0 : Int32).toInt = 0 := (by decide); omega)⟩ (by have z0 : (0 : Int32).toInt = 0 := (by decide); (try dsimp only); omega)
            intro rr253 y256 y257 σ255 hIσ255 ih254
            obtain ⟨hσ255, k258, k259, k260, k261, k262, k263, k264, k265, k266, k267, k268, i269⟩ := hIσ255
            unfold fX2_stepNumber_l100
            have f270 := tB y257
            refine ⟨fun c271 => ?_, fun c271 => ?_⟩
            · first | have f274 := (leE (rfl : v233.toInt = v233.toInt) (rfl : y257.toInt = y257.toInt)).mp c271 | skip
              refine sX2_give hN hσ255 (fun σ275 hσ275 kk283 => ?_)
              obtain ⟨k276, k277, k278, k279, k280, k281, k282⟩ := kk283
              exact hQ _ hσ275 (⟨k276.trans (k261.trans ((kq (a := 9) (b := 9) eσ246 (by omega)))), k277.trans (k262.trans ((kq (a := 9) (b := 10) eσ246 (by omega)))), k278.trans (k263.trans ((kq (a := 6) (b := 5) eσ246 (by omega)))), k279.trans (k264.trans ((kq (a := 7) (b := 4) eσ246 (by omega)))), k280.trans (k265.trans ((kq (a := 2) (b := 4) eσ246 (by omega)))), k281.trans (k266.trans ((kq (a := 2) (b := 5) eσ246 (by omega)))), k282.trans (k267.trans ((kq (a := 2) (b := 6) eσ246 (by omega))))⟩)
            · first | have f286 := (notleE (rfl : v233.toInt = v233.toInt) (rfl : y257.toInt = y257.toInt)).mp c271 | skip
              intro v287 ev287
              intro v288 ev288
              have f289 := tB v288
              first | have f291 : v288.toInt = (y257.toInt + (1)) := (congrArg Int32.toInt ev288).trans (aOkE (rfl : y257.toInt = y257.toInt) (show (1 : Int32).toInt = 1 from by decide) (by omega) (by omega)) | skip
              exact ih254 v287 v288 σ255 ⟨hσ255, k258, k259, k260, k261, k262, k263, k264, k265, k266, k267, k268, by omega⟩ (by (try dsimp only); omega)
          · first | have f292 := (noteqE (show (1 : Int32).toInt = 1 from by decide) (show (0 : Int32).toInt = 0 from by decide)).mp c248 | skip
            refine sX2_give hN hσ246 (fun σ293 hσ293 kk301 => ?_)
            obtain ⟨k294, k295, k296, k297, k298, k299, k300⟩ := kk301
            exact hQ _ hσ293 (⟨k294.trans ((kq (a := 9) (b := 9) eσ246 (by omega))), k295.trans ((kq (a := 9) (b := 10) eσ246 (by omega))), k296.trans ((kq (a := 6) (b := 5) eσ246 (by omega))), k297.trans ((kq (a := 7) (b := 4) eσ246 (by omega))), k298.trans ((kq (a := 2) (b := 4) eσ246 (by omega))), k299.trans ((kq (a := 2) (b := 5) eσ246 (by omega))), k300.trans ((kq (a := 2) (b := 6) eσ246 (by omega)))⟩)
        · first | have f303 := (noteqE (rfl : (σ.1 k1 3).toInt = (σ.1 k1 3).toInt) (show (0 : Int32).toInt = 0 from by decide)).mp c242 | skip
          unfold fX2_stepNumber_j72
          unfold fX2_stepNumber_j73
          intro v304 ev304
          intro σ305 eσ305
          have kb306 := jobK_b hk1
          have hσ305 : K1 σ0 σ305 := by rw [eσ305]; exact hσ.u (rg_jobK hk1) (by omega) (by omega)
          refine ⟨fun c307 => ?_, fun c307 => ?_⟩
          · first | have f308 := (eqE (show (0 : Int32).toInt = 0 from by decide) (show (0 : Int32).toInt = 0 from by decide)).mp c307 | skip
            refine lo2_i (fun (y309 : Int64) (y310 : Int32) (τ : St) => K1 σ0 τ ∧ τ.1 3 7 = σ305.1 3 7 ∧ τ.1 3 11 = σ305.1 3 11 ∧ τ.1 3 6 = σ305.1 3 6 ∧ τ.1 9 9 = σ305.1 9 9 ∧ τ.1 9 10 = σ305.1 9 10 ∧ τ.1 6 5 = σ305.1 6 5 ∧ τ.1 7 4 = σ305.1 7 4 ∧ τ.1 2 4 = σ305.1 2 4 ∧ τ.1 2 5 = σ305.1 2 5 ∧ τ.1 2 6 = σ305.1 2 6 ∧ τ.1 3 8 = σ305.1 3 8 ∧ 0 ≤ y310.toInt) (fun (y309 : Int64) (y310 : Int32) (τ : St) => (2147483648 - y310.toInt).toNat) ?_ N v1 (0 : Int32) σ305 ⟨hσ305, rfl, rfl, rfl, rfl, rfl, rfl, rfl, rfl, rfl, rfl, rfl, by first | decide | (have z0 : (0 : Int32).toInt = 0 := (by decide); omega)⟩ (by have z0 : (0 : Int32).toInt = 0 := (by decide); (try dsimp only); omega)
            intro rr312 y315 y316 σ314 hIσ314 ih313
            obtain ⟨hσ314, k317, k318, k319, k320, k321, k322, k323, k324, k325, k326, k327, i328⟩ := hIσ314
            unfold fX2_stepNumber_l100
            have f329 := tB y316
            refine ⟨fun c330 => ?_, fun c330 => ?_⟩
            · first | have f333 := (leE (rfl : v233.toInt = v233.toInt) (rfl : y316.toInt = y316.toInt)).mp c330 | skip
              refine sX2_give hN hσ314 (fun σ334 hσ334 kk342 => ?_)
              obtain ⟨k335, k336, k337, k338, k339, k340, k341⟩ := kk342
              exact hQ _ hσ334 (⟨k335.trans (k320.trans ((kq (a := 9) (b := 9) eσ305 (by omega)))), k336.trans (k321.trans ((kq (a := 9) (b := 10) eσ305 (by omega)))), k337.trans (k322.trans ((kq (a := 6) (b := 5) eσ305 (by omega)))), k338.trans (k323.trans ((kq (a := 7) (b := 4) eσ305 (by omega)))), k339.trans (k324.trans ((kq (a := 2) (b := 4) eσ305 (by omega)))), k340.trans (k325.trans ((kq (a := 2) (b := 5) eσ305 (by omega)))), k341.trans (k326.trans ((kq (a := 2) (b := 6) eσ305 (by omega))))⟩)
            · first | have f345 := (notleE (rfl : v233.toInt = v233.toInt) (rfl : y316.toInt = y316.toInt)).mp c330 | skip
              intro v346 ev346
              intro v347 ev347
              have f348 := tB v347
              first | have f350 : v347.toInt = (y316.toInt + (1)) := (congrArg Int32.toInt ev347).trans (aOkE (rfl : y316.toInt = y316.toInt) (show (1 : Int32).toInt = 1 from by decide) (by omega) (by omega)) | skip
              exact ih313 v346 v347 σ314 ⟨hσ314, k317, k318, k319, k320, k321, k322, k323, k324, k325, k326, k327, by omega⟩ (by (try dsimp only); omega)
          · first | have f351 := (noteqE (show (0 : Int32).toInt = 0 from by decide) (show (0 : Int32).toInt = 0 from by decide)).mp c307 | skip
            refine sX2_give hN hσ305 (fun σ352 hσ352 kk360 => ?_)
            obtain ⟨k353, k354, k355, k356, k357, k358, k359⟩ := kk360
            exact hQ _ hσ352 (⟨k353.trans ((kq (a := 9) (b := 9) eσ305 (by omega))), k354.trans ((kq (a := 9) (b := 10) eσ305 (by omega))), k355.trans ((kq (a := 6) (b := 5) eσ305 (by omega))), k356.trans ((kq (a := 7) (b := 4) eσ305 (by omega))), k357.trans ((kq (a := 2) (b := 4) eσ305 (by omega))), k358.trans ((kq (a := 2) (b := 5) eσ305 (by omega))), k359.trans ((kq (a := 2) (b := 6) eσ305 (by omega)))⟩)
      · first | have f361 := (noteqE (show (1 : Int32).toInt = 1 from by decide) (show (1 : Int32).toInt = 1 from by decide)).mp c240 | skip
        unfold fX2_stepNumber_j72
        unfold fX2_stepNumber_j73
        intro v362 ev362
        intro σ363 eσ363
        have kb364 := jobK_b hk1
        have hσ363 : K1 σ0 σ363 := by rw [eσ363]; exact hσ.u (rg_jobK hk1) (by omega) (by omega)
        refine ⟨fun c365 => ?_, fun c365 => ?_⟩
        · first | have f366 := (eqE (show (0 : Int32).toInt = 0 from by decide) (show (0 : Int32).toInt = 0 from by decide)).mp c365 | skip
          refine lo2_i (fun (y367 : Int64) (y368 : Int32) (τ : St) => K1 σ0 τ ∧ τ.1 3 7 = σ363.1 3 7 ∧ τ.1 3 11 = σ363.1 3 11 ∧ τ.1 3 6 = σ363.1 3 6 ∧ τ.1 9 9 = σ363.1 9 9 ∧ τ.1 9 10 = σ363.1 9 10 ∧ τ.1 6 5 = σ363.1 6 5 ∧ τ.1 7 4 = σ363.1 7 4 ∧ τ.1 2 4 = σ363.1 2 4 ∧ τ.1 2 5 = σ363.1 2 5 ∧ τ.1 2 6 = σ363.1 2 6 ∧ τ.1 3 8 = σ363.1 3 8 ∧ 0 ≤ y368.toInt) (fun (y367 : Int64) (y368 : Int32) (τ : St) => (2147483648 - y368.toInt).toNat) ?_ N v1 (0 : Int32) σ363 ⟨hσ363, rfl, rfl, rfl, rfl, rfl, rfl, rfl, rfl, rfl, rfl, rfl, by first | decide | (have z0 : (0 : Int32).toInt = 0 := (by decide); omega)⟩ (by have z0 : (0 : Int32).toInt = 0 := (by decide); (try dsimp only); omega)
          intro rr370 y373 y374 σ372 hIσ372 ih371
          obtain ⟨hσ372, k375, k376, k377, k378, k379, k380, k381, k382, k383, k384, k385, i386⟩ := hIσ372
          unfold fX2_stepNumber_l100
          have f387 := tB y374
          refine ⟨fun c388 => ?_, fun c388 => ?_⟩
          · first | have f391 := (leE (rfl : v233.toInt = v233.toInt) (rfl : y374.toInt = y374.toInt)).mp c388 | skip
            refine sX2_give hN hσ372 (fun σ392 hσ392 kk400 => ?_)
            obtain ⟨k393, k394, k395, k396, k397, k398, k399⟩ := kk400
            exact hQ _ hσ392 (⟨k393.trans (k378.trans ((kq (a := 9) (b := 9) eσ363 (by omega)))), k394.trans (k379.trans ((kq (a := 9) (b := 10) eσ363 (by omega)))), k395.trans (k380.trans ((kq (a := 6) (b := 5) eσ363 (by omega)))), k396.trans (k381.trans ((kq (a := 7) (b := 4) eσ363 (by omega)))), k397.trans (k382.trans ((kq (a := 2) (b := 4) eσ363 (by omega)))), k398.trans (k383.trans ((kq (a := 2) (b := 5) eσ363 (by omega)))), k399.trans (k384.trans ((kq (a := 2) (b := 6) eσ363 (by omega))))⟩)
          · first | have f403 := (notleE (rfl : v233.toInt = v233.toInt) (rfl : y374.toInt = y374.toInt)).mp c388 | skip
            intro v404 ev404
            intro v405 ev405
            have f406 := tB v405
            first | have f408 : v405.toInt = (y374.toInt + (1)) := (congrArg Int32.toInt ev405).trans (aOkE (rfl : y374.toInt = y374.toInt) (show (1 : Int32).toInt = 1 from by decide) (by omega) (by omega)) | skip
            exact ih371 v404 v405 σ372 ⟨hσ372, k375, k376, k377, k378, k379, k380, k381, k382, k383, k384, k385, by omega⟩ (by (try dsimp only); omega)
        · first | have f409 := (noteqE (show (0 : Int32).toInt = 0 from by decide) (show (0 : Int32).toInt = 0 from by decide)).mp c365 | skip
          refine sX2_give hN hσ363 (fun σ410 hσ410 kk418 => ?_)
          obtain ⟨k411, k412, k413, k414, k415, k416, k417⟩ := kk418
          exact hQ _ hσ410 (⟨k411.trans ((kq (a := 9) (b := 9) eσ363 (by omega))), k412.trans ((kq (a := 9) (b := 10) eσ363 (by omega))), k413.trans ((kq (a := 6) (b := 5) eσ363 (by omega))), k414.trans ((kq (a := 7) (b := 4) eσ363 (by omega))), k415.trans ((kq (a := 2) (b := 4) eσ363 (by omega))), k416.trans ((kq (a := 2) (b := 5) eσ363 (by omega))), k417.trans ((kq (a := 2) (b := 6) eσ363 (by omega)))⟩)
    · have f419 := tB v233
      have f420 := tB r231
      have f421 := tB (σ.1 k1 3)
      first | have f422 : v233.toInt = ((((1) + r231.toInt) - (1)) - (σ.1 k1 3).toInt) := (congrArg Int32.toInt ev233).trans (sOkE (sOkE (aOkE (show (1 : Int32).toInt = 1 from by decide) (rfl : r231.toInt = r231.toInt) (by omega) (by omega)) (show (1 : Int32).toInt = 1 from by decide) (by omega) (by omega)) (rfl : (σ.1 k1 3).toInt = (σ.1 k1 3).toInt) (by omega) (by omega)) | skip
      first | have f423 := (notleE (show (0 : Int32).toInt = 0 from by decide) (rfl : v233.toInt = v233.toInt)).mp c234 | skip
      intro v424 ev424
      intro σ425 eσ425
      have f426 := tB v424
      have f427 := K1.g_3_7 hσ
      first | have f428 : v424.toInt = ((σ.1 3 7).toInt - (1)) := (congrArg Int32.toInt ev424).trans (sOkE (rfl : (σ.1 3 7).toInt = (σ.1 3 7).toInt) (show (1 : Int32).toInt = 1 from by decide) (by omega) (by omega)) | skip
      have hσ425 : K1 σ0 σ425 := by rw [eσ425]; exact hσ.u (Rg1.r_3_7 (leP (rfl : v424.toInt = v424.toInt) (by omega)) (geP (rfl : v424.toInt = v424.toInt) (by omega))) (fun q => absurd q.1 (by decide)) (fun q => absurd q.1 (by decide))
      exact hQ _ hσ425 (⟨(kq (a := 9) (b := 9) eσ425 (fun q => absurd q.1 (by decide))), (kq (a := 9) (b := 10) eσ425 (fun q => absurd q.1 (by decide))), (kq (a := 6) (b := 5) eσ425 (fun q => absurd q.1 (by decide))), (kq (a := 7) (b := 4) eσ425 (fun q => absurd q.1 (by decide))), (kq (a := 2) (b := 4) eσ425 (fun q => absurd q.1 (by decide))), (kq (a := 2) (b := 5) eσ425 (fun q => absurd q.1 (by decide))), (kq (a := 2) (b := 6) eσ425 (fun q => absurd q.1 (by decide)))⟩)
set_option maxHeartbeats 4000000 in
theorem sX2_endInFault {N : Nat} (hN : 4294967400 ≤ N) {Q : Int32 → St → Prop} {σ0 σ : St} (hσ : K1 σ0 σ) (hQ : ∀ (r : Int32) (τ : St), K1 σ0 τ → (τ.1 3 6 = σ.1 3 6 ∧ τ.1 9 9 = σ.1 9 9 ∧ τ.1 9 10 = σ.1 9 10 ∧ τ.1 6 5 = σ.1 6 5 ∧ τ.1 7 4 = σ.1 7 4 ∧ τ.1 2 4 = σ.1 2 4 ∧ τ.1 2 5 = σ.1 2 5 ∧ τ.1 2 6 = σ.1 2 6 ∧ τ.1 3 8 = σ.1 3 8) → True → Q r τ) : fX2_endInFault N  Q σ := by
  unfold fX2_endInFault
  intro v1 ev1
  intro σ2 eσ2
  have hσ2 : K1 σ0 σ2 := by rw [eσ2]; exact hσ.u (Rg1.u_3_11 _) (fun q => absurd q.1 (by decide)) (fun q => absurd q.1 (by decide))
  intro σ3 eσ3
  have hσ3 : K1 σ0 σ3 := by rw [eσ3]; exact hσ2.u (Rg1.r_3_7 (leP (show (0 : Int32).toInt = 0 from by decide) (by omega)) (geP (show (0 : Int32).toInt = 0 from by decide) (by omega))) (fun q => absurd q.1 (by decide)) (fun q => absurd q.1 (by decide))
  intro v4 ev4
  intro σ5 eσ5
  have hσ5 : K1 σ0 σ5 := by rw [eσ5]; exact hσ3.u (Rg1.u_5_4 _) (fun q => absurd q.1 (by decide)) (fun q => absurd q.1 (by decide))
  intro σ6 eσ6
  have hσ6 : K1 σ0 σ6 := by rw [eσ6]; exact hσ5.u (Rg1.u_5_5 _) (fun q => absurd q.1 (by decide)) (fun q => absurd q.1 (by decide))
  exact hQ _ _ hσ6 (⟨(kq (a := 3) (b := 6) eσ6 (fun q => absurd q.1 (by decide))).trans ((kq (a := 3) (b := 6) eσ5 (fun q => absurd q.1 (by decide))).trans ((kq (a := 3) (b := 6) eσ3 (fun q => absurd q.2 (by decide))).trans ((kq (a := 3) (b := 6) eσ2 (fun q => absurd q.2 (by decide)))))), (kq (a := 9) (b := 9) eσ6 (fun q => absurd q.1 (by decide))).trans ((kq (a := 9) (b := 9) eσ5 (fun q => absurd q.1 (by decide))).trans ((kq (a := 9) (b := 9) eσ3 (fun q => absurd q.1 (by decide))).trans ((kq (a := 9) (b := 9) eσ2 (fun q => absurd q.1 (by decide)))))), (kq (a := 9) (b := 10) eσ6 (fun q => absurd q.1 (by decide))).trans ((kq (a := 9) (b := 10) eσ5 (fun q => absurd q.1 (by decide))).trans ((kq (a := 9) (b := 10) eσ3 (fun q => absurd q.1 (by decide))).trans ((kq (a := 9) (b := 10) eσ2 (fun q => absurd q.1 (by decide)))))), (kq (a := 6) (b := 5) eσ6 (fun q => absurd q.1 (by decide))).trans ((kq (a := 6) (b := 5) eσ5 (fun q => absurd q.1 (by decide))).trans ((kq (a := 6) (b := 5) eσ3 (fun q => absurd q.1 (by decide))).trans ((kq (a := 6) (b := 5) eσ2 (fun q => absurd q.1 (by decide)))))), (kq (a := 7) (b := 4) eσ6 (fun q => absurd q.1 (by decide))).trans ((kq (a := 7) (b := 4) eσ5 (fun q => absurd q.1 (by decide))).trans ((kq (a := 7) (b := 4) eσ3 (fun q => absurd q.1 (by decide))).trans ((kq (a := 7) (b := 4) eσ2 (fun q => absurd q.1 (by decide)))))), (kq (a := 2) (b := 4) eσ6 (fun q => absurd q.1 (by decide))).trans ((kq (a := 2) (b := 4) eσ5 (fun q => absurd q.1 (by decide))).trans ((kq (a := 2) (b := 4) eσ3 (fun q => absurd q.1 (by decide))).trans ((kq (a := 2) (b := 4) eσ2 (fun q => absurd q.1 (by decide)))))), (kq (a := 2) (b := 5) eσ6 (fun q => absurd q.1 (by decide))).trans ((kq (a := 2) (b := 5) eσ5 (fun q => absurd q.1 (by decide))).trans ((kq (a := 2) (b := 5) eσ3 (fun q => absurd q.1 (by decide))).trans ((kq (a := 2) (b := 5) eσ2 (fun q => absurd q.1 (by decide)))))), (kq (a := 2) (b := 6) eσ6 (fun q => absurd q.1 (by decide))).trans ((kq (a := 2) (b := 6) eσ5 (fun q => absurd q.1 (by decide))).trans ((kq (a := 2) (b := 6) eσ3 (fun q => absurd q.1 (by decide))).trans ((kq (a := 2) (b := 6) eσ2 (fun q => absurd q.1 (by decide)))))), (kq (a := 3) (b := 8) eσ6 (fun q => absurd q.1 (by decide))).trans ((kq (a := 3) (b := 8) eσ5 (fun q => absurd q.1 (by decide))).trans ((kq (a := 3) (b := 8) eσ3 (fun q => absurd q.2 (by decide))).trans ((kq (a := 3) (b := 8) eσ2 (fun q => absurd q.2 (by decide))))))⟩) trivial
set_option maxHeartbeats 4000000 in
theorem sX2_run {N : Nat} (hN : 4294967400 ≤ N) {x1 : Int32} {Q : Int32 → St → Prop} {σ0 σ : St} (hσ : K1 σ0 σ) (hQ : ∀ (r : Int32) (τ : St), K1 σ0 τ → (τ.1 9 9 = σ.1 9 9 ∧ τ.1 9 10 = σ.1 9 10 ∧ τ.1 6 5 = σ.1 6 5 ∧ τ.1 7 4 = σ.1 7 4 ∧ τ.1 2 4 = σ.1 2 4) → True → Q r τ) : fX2_run N x1 Q σ := by
  unfold fX2_run
  intro v1 ev1
  have f3 := tB x1
  have f4 := tB v1
  have f5 := tB (σ.1 5 1)
  first | have f6 : v1.toInt = (σ.1 5 1).toInt := (congrArg Int32.toInt ev1).trans (rfl : (σ.1 5 1).toInt = (σ.1 5 1).toInt) | skip
  refine lo1_i (fun (y2 : Int32) (τ : St) => K1 σ0 τ ∧ τ.1 9 9 = σ.1 9 9 ∧ τ.1 9 10 = σ.1 9 10 ∧ τ.1 6 5 = σ.1 6 5 ∧ τ.1 7 4 = σ.1 7 4 ∧ τ.1 2 4 = σ.1 2 4 ∧ 0 ≤ y2.toInt) (fun (y2 : Int32) (τ : St) => (2147483648 - y2.toInt).toNat) ?_ N (0 : Int32) σ ⟨hσ, rfl, rfl, rfl, rfl, rfl, by first | decide | (have z0 : (0 : Int32).toInt = 0 := (by decide); omega)⟩ (by have z0 : (0 : Int32).toInt = 0 := (by decide); (try dsimp only); omega)
  intro rr7 y10 σ9 hIσ9 ih8
  obtain ⟨hσ9, k11, k12, k13, k14, k15, i16⟩ := hIσ9
  unfold fX2_run_l10
  have f17 := tB y10
  refine ⟨fun c18 => ?_, fun c18 => ?_⟩
  · first | have f21 := (leE (rfl : x1.toInt = x1.toInt) (rfl : y10.toInt = y10.toInt)).mp c18 | skip
    unfold fX2_run_j140
    refine ⟨fun c22 => ?_, fun c22 => ?_⟩
    · have f23 := tB (σ9.1 3 11)
      first | have f24 := (eqE (rfl : (σ9.1 3 11).toInt = (σ9.1 3 11).toInt) (show (0 : Int32).toInt = 0 from by decide)).mp c22 | skip
      refine ⟨fun c25 => ?_, fun c25 => ?_⟩
      · have f26 := K1.g_3_7 hσ9
        first | have f27 := (leE (rfl : (σ9.1 3 7).toInt = (σ9.1 3 7).toInt) (show (0 : Int32).toInt = 0 from by decide)).mp c25 | skip
        exact hQ _ _ hσ9 (⟨k11, k12, k13, k14, k15⟩) trivial
      · have f28 := K1.g_3_7 hσ9
        first | have f29 := (notleE (rfl : (σ9.1 3 7).toInt = (σ9.1 3 7).toInt) (show (0 : Int32).toInt = 0 from by decide)).mp c25 | skip
        exact hQ _ _ hσ9 (⟨k11, k12, k13, k14, k15⟩) trivial
    · have f30 := tB (σ9.1 3 11)
      first | have f31 := (noteqE (rfl : (σ9.1 3 11).toInt = (σ9.1 3 11).toInt) (show (0 : Int32).toInt = 0 from by decide)).mp c22 | skip
      refine sX2_endInFault hN hσ9 (fun r43 σ32 hσ32 kk42 p44 => ?_)
      obtain ⟨k33, k34, k35, k36, k37, k38, k39, k40, k41⟩ := kk42
      exact hQ _ _ hσ32 (⟨k34.trans (k11), k35.trans (k12), k36.trans (k13), k37.trans (k14), k38.trans (k15)⟩) trivial
  · first | have f47 := (notleE (rfl : x1.toInt = x1.toInt) (rfl : y10.toInt = y10.toInt)).mp c18 | skip
    refine ⟨fun c48 => ?_, fun c48 => ?_⟩
    · have f49 := K1.g_3_7 hσ9
      first | have f50 := (leE (rfl : (σ9.1 3 7).toInt = (σ9.1 3 7).toInt) (show (0 : Int32).toInt = 0 from by decide)).mp c48 | skip
      unfold fX2_run_j140
      refine ⟨fun c51 => ?_, fun c51 => ?_⟩
      · have f52 := tB (σ9.1 3 11)
        first | have f53 := (eqE (rfl : (σ9.1 3 11).toInt = (σ9.1 3 11).toInt) (show (0 : Int32).toInt = 0 from by decide)).mp c51 | skip
        refine ⟨fun c54 => ?_, fun c54 => ?_⟩
        · first | have f56 := (leE (rfl : (σ9.1 3 7).toInt = (σ9.1 3 7).toInt) (show (0 : Int32).toInt = 0 from by decide)).mp c54 | skip
          exact hQ _ _ hσ9 (⟨k11, k12, k13, k14, k15⟩) trivial
        · first | have f58 := (notleE (rfl : (σ9.1 3 7).toInt = (σ9.1 3 7).toInt) (show (0 : Int32).toInt = 0 from by decide)).mp c54 | skip
          exact hQ _ _ hσ9 (⟨k11, k12, k13, k14, k15⟩) trivial
      · have f59 := tB (σ9.1 3 11)
        first | have f60 := (noteqE (rfl : (σ9.1 3 11).toInt = (σ9.1 3 11).toInt) (show (0 : Int32).toInt = 0 from by decide)).mp c51 | skip
        refine sX2_endInFault hN hσ9 (fun r72 σ61 hσ61 kk71 p73 => ?_)
        obtain ⟨k62, k63, k64, k65, k66, k67, k68, k69, k70⟩ := kk71
        exact hQ _ _ hσ61 (⟨k63.trans (k11), k64.trans (k12), k65.trans (k13), k66.trans (k14), k67.trans (k15)⟩) trivial
    · have f74 := K1.g_3_7 hσ9
      first | have f75 := (notleE (rfl : (σ9.1 3 7).toInt = (σ9.1 3 7).toInt) (show (0 : Int32).toInt = 0 from by decide)).mp c48 | skip
      refine ⟨fun c76 => ?_, fun c76 => ?_⟩
      · have f77 := tB (σ9.1 3 11)
        first | have f78 := (eqE (rfl : (σ9.1 3 11).toInt = (σ9.1 3 11).toInt) (show (0 : Int32).toInt = 0 from by decide)).mp c76 | skip
        intro v79 ev79
        intro σ80 eσ80
        have hσ80 : K1 σ0 σ80 := by rw [eσ80]; exact hσ9.u (Rg1.u_5_0 _) (fun q => absurd q.1 (by decide)) (fun q => absurd q.1 (by decide))
        have f81 := K1.g_3_7 hσ80
        have q82 : σ80.1 3 7 = σ9.1 3 7 := by rw [eσ80]; exact congrFun (u1_ne (by decide)) 7
        have f83 := congrArg Int32.toInt q82
        have g85 : vp_in ((σ80.1 3 7) - 1) 40 := inE (sOkE (rfl : (σ80.1 3 7).toInt = (σ80.1 3 7).toInt) (show (1 : Int32).toInt = 1 from by decide) (by omega) (by omega)) (by omega) (by omega)
        refine ⟨g85, ?_⟩
        have hk86 : jobK (43 + ((σ80.1 3 7) - 1).toNatClampNeg) := (jobK_in g85)
        have hk86x := vp_lt g85
        have hk86b := jobK_b hk86
        intro v87 ev87
        refine ⟨fun c88 => ?_, fun c88 => ?_⟩
        · have f89 := tB v87
          have f90 := tB (σ80.1 (43 + ((σ80.1 3 7) - 1).toNatClampNeg) 1)
          have q91 : σ80.1 (43 + ((σ80.1 3 7) - 1).toNatClampNeg) 1 = σ9.1 (43 + ((σ80.1 3 7) - 1).toNatClampNeg) 1 := by rw [eσ80]; exact congrFun (u1_ne (by omega)) 1
          have f92 := congrArg Int32.toInt q91
          have f93 := tB (σ9.1 (43 + ((σ80.1 3 7) - 1).toNatClampNeg) 1)
          first | have f94 : v87.toInt = (σ80.1 (43 + ((σ80.1 3 7) - 1).toNatClampNeg) 1).toInt := (congrArg Int32.toInt ev87).trans (rfl : (σ80.1 (43 + ((σ80.1 3 7) - 1).toNatClampNeg) 1).toInt = (σ80.1 (43 + ((σ80.1 3 7) - 1).toNatClampNeg) 1).toInt) | skip
          first | have f95 := (eqE (rfl : v87.toInt = v87.toInt) (show (0 : Int32).toInt = 0 from by decide)).mp c88 | skip
          refine sX2_doOrder hN hk86 ⟨by omega, by omega⟩ hσ80 (fun σ96 hσ96 kk103 => ?_)
          obtain ⟨k98, k99, k100, k101, k102⟩ := kk103
          unfold fX2_run_j134
          intro v104 ev104
          have f105 := tB v104
          first | have f107 : v104.toInt = (y10.toInt + (1)) := (congrArg Int32.toInt ev104).trans (aOkE (rfl : y10.toInt = y10.toInt) (show (1 : Int32).toInt = 1 from by decide) (by omega) (by omega)) | skip
          exact ih8 v104 σ96 ⟨hσ96, k98.trans ((kq (a := 9) (b := 9) eσ80 (fun q => absurd q.1 (by decide))).trans (k11)), k99.trans ((kq (a := 9) (b := 10) eσ80 (fun q => absurd q.1 (by decide))).trans (k12)), k100.trans ((kq (a := 6) (b := 5) eσ80 (fun q => absurd q.1 (by decide))).trans (k13)), k101.trans ((kq (a := 7) (b := 4) eσ80 (fun q => absurd q.1 (by decide))).trans (k14)), k102.trans ((kq (a := 2) (b := 4) eσ80 (fun q => absurd q.1 (by decide))).trans (k15)), by omega⟩ (by (try dsimp only); omega)
        · have f108 := tB v87
          have f109 := tB (σ80.1 (43 + ((σ80.1 3 7) - 1).toNatClampNeg) 1)
          have q110 : σ80.1 (43 + ((σ80.1 3 7) - 1).toNatClampNeg) 1 = σ9.1 (43 + ((σ80.1 3 7) - 1).toNatClampNeg) 1 := by rw [eσ80]; exact congrFun (u1_ne (by omega)) 1
          have f111 := congrArg Int32.toInt q110
          have f112 := tB (σ9.1 (43 + ((σ80.1 3 7) - 1).toNatClampNeg) 1)
          first | have f113 : v87.toInt = (σ80.1 (43 + ((σ80.1 3 7) - 1).toNatClampNeg) 1).toInt := (congrArg Int32.toInt ev87).trans (rfl : (σ80.1 (43 + ((σ80.1 3 7) - 1).toNatClampNeg) 1).toInt = (σ80.1 (43 + ((σ80.1 3 7) - 1).toNatClampNeg) 1).toInt) | skip
          first | have f114 := (noteqE (rfl : v87.toInt = v87.toInt) (show (0 : Int32).toInt = 0 from by decide)).mp c88 | skip
          refine ⟨fun c115 => ?_, fun c115 => ?_⟩
          · first | have f117 := (eqE (rfl : v87.toInt = v87.toInt) (show (1 : Int32).toInt = 1 from by decide)).mp c115 | skip
            refine sX2_stepPlain hN hk86 ⟨by omega, by omega⟩ hσ80 (fun σ118 hσ118 kk127 => ?_)
            obtain ⟨k120, k121, k122, k123, k124, k125, k126⟩ := kk127
            unfold fX2_run_j134
            intro v128 ev128
            have f129 := tB v128
            first | have f131 : v128.toInt = (y10.toInt + (1)) := (congrArg Int32.toInt ev128).trans (aOkE (rfl : y10.toInt = y10.toInt) (show (1 : Int32).toInt = 1 from by decide) (by omega) (by omega)) | skip
            exact ih8 v128 σ118 ⟨hσ118, k120.trans ((kq (a := 9) (b := 9) eσ80 (fun q => absurd q.1 (by decide))).trans (k11)), k121.trans ((kq (a := 9) (b := 10) eσ80 (fun q => absurd q.1 (by decide))).trans (k12)), k122.trans ((kq (a := 6) (b := 5) eσ80 (fun q => absurd q.1 (by decide))).trans (k13)), k123.trans ((kq (a := 7) (b := 4) eσ80 (fun q => absurd q.1 (by decide))).trans (k14)), k124.trans ((kq (a := 2) (b := 4) eσ80 (fun q => absurd q.1 (by decide))).trans (k15)), by omega⟩ (by (try dsimp only); omega)
          · first | have f133 := (noteqE (rfl : v87.toInt = v87.toInt) (show (1 : Int32).toInt = 1 from by decide)).mp c115 | skip
            refine ⟨fun c134 => ?_, fun c134 => ?_⟩
            · first | have f136 := (eqE (rfl : v87.toInt = v87.toInt) (show (2 : Int32).toInt = 2 from by decide)).mp c134 | skip
              refine sX2_stepWide hN hk86 ⟨by omega, by omega⟩ hσ80 (fun σ137 hσ137 kk146 => ?_)
              obtain ⟨k139, k140, k141, k142, k143, k144, k145⟩ := kk146
              unfold fX2_run_j134
              intro v147 ev147
              have f148 := tB v147
              first | have f150 : v147.toInt = (y10.toInt + (1)) := (congrArg Int32.toInt ev147).trans (aOkE (rfl : y10.toInt = y10.toInt) (show (1 : Int32).toInt = 1 from by decide) (by omega) (by omega)) | skip
              exact ih8 v147 σ137 ⟨hσ137, k139.trans ((kq (a := 9) (b := 9) eσ80 (fun q => absurd q.1 (by decide))).trans (k11)), k140.trans ((kq (a := 9) (b := 10) eσ80 (fun q => absurd q.1 (by decide))).trans (k12)), k141.trans ((kq (a := 6) (b := 5) eσ80 (fun q => absurd q.1 (by decide))).trans (k13)), k142.trans ((kq (a := 7) (b := 4) eσ80 (fun q => absurd q.1 (by decide))).trans (k14)), k143.trans ((kq (a := 2) (b := 4) eσ80 (fun q => absurd q.1 (by decide))).trans (k15)), by omega⟩ (by (try dsimp only); omega)
            · first | have f152 := (noteqE (rfl : v87.toInt = v87.toInt) (show (2 : Int32).toInt = 2 from by decide)).mp c134 | skip
              refine ⟨fun c153 => ?_, fun c153 => ?_⟩
              · first | have f155 := (eqE (rfl : v87.toInt = v87.toInt) (show (3 : Int32).toInt = 3 from by decide)).mp c153 | skip
                refine sX2_stepPacked hN hk86 ⟨by omega, by omega⟩ hσ80 (fun σ156 hσ156 kk165 => ?_)
                obtain ⟨k158, k159, k160, k161, k162, k163, k164⟩ := kk165
                unfold fX2_run_j134
                intro v166 ev166
                have f167 := tB v166
                first | have f169 : v166.toInt = (y10.toInt + (1)) := (congrArg Int32.toInt ev166).trans (aOkE (rfl : y10.toInt = y10.toInt) (show (1 : Int32).toInt = 1 from by decide) (by omega) (by omega)) | skip
                exact ih8 v166 σ156 ⟨hσ156, k158.trans ((kq (a := 9) (b := 9) eσ80 (fun q => absurd q.1 (by decide))).trans (k11)), k159.trans ((kq (a := 9) (b := 10) eσ80 (fun q => absurd q.1 (by decide))).trans (k12)), k160.trans ((kq (a := 6) (b := 5) eσ80 (fun q => absurd q.1 (by decide))).trans (k13)), k161.trans ((kq (a := 7) (b := 4) eσ80 (fun q => absurd q.1 (by decide))).trans (k14)), k162.trans ((kq (a := 2) (b := 4) eσ80 (fun q => absurd q.1 (by decide))).trans (k15)), by omega⟩ (by (try dsimp only); omega)
              · first | have f171 := (noteqE (rfl : v87.toInt = v87.toInt) (show (3 : Int32).toInt = 3 from by decide)).mp c153 | skip
                refine sX2_stepNumber hN hk86 ⟨by omega, by omega⟩ hσ80 (fun σ172 hσ172 kk181 => ?_)
                obtain ⟨k174, k175, k176, k177, k178, k179, k180⟩ := kk181
                unfold fX2_run_j134
                intro v182 ev182
                have f183 := tB v182
                first | have f185 : v182.toInt = (y10.toInt + (1)) := (congrArg Int32.toInt ev182).trans (aOkE (rfl : y10.toInt = y10.toInt) (show (1 : Int32).toInt = 1 from by decide) (by omega) (by omega)) | skip
                exact ih8 v182 σ172 ⟨hσ172, k174.trans ((kq (a := 9) (b := 9) eσ80 (fun q => absurd q.1 (by decide))).trans (k11)), k175.trans ((kq (a := 9) (b := 10) eσ80 (fun q => absurd q.1 (by decide))).trans (k12)), k176.trans ((kq (a := 6) (b := 5) eσ80 (fun q => absurd q.1 (by decide))).trans (k13)), k177.trans ((kq (a := 7) (b := 4) eσ80 (fun q => absurd q.1 (by decide))).trans (k14)), k178.trans ((kq (a := 2) (b := 4) eσ80 (fun q => absurd q.1 (by decide))).trans (k15)), by omega⟩ (by (try dsimp only); omega)
      · have f186 := tB (σ9.1 3 11)
        first | have f187 := (noteqE (rfl : (σ9.1 3 11).toInt = (σ9.1 3 11).toInt) (show (0 : Int32).toInt = 0 from by decide)).mp c76 | skip
        unfold fX2_run_j140
        refine ⟨fun c188 => ?_, fun c188 => ?_⟩
        · first | have f190 := (eqE (rfl : (σ9.1 3 11).toInt = (σ9.1 3 11).toInt) (show (0 : Int32).toInt = 0 from by decide)).mp c188 | skip
          refine ⟨fun c191 => ?_, fun c191 => ?_⟩
          · first | have f193 := (leE (rfl : (σ9.1 3 7).toInt = (σ9.1 3 7).toInt) (show (0 : Int32).toInt = 0 from by decide)).mp c191 | skip
            exact hQ _ _ hσ9 (⟨k11, k12, k13, k14, k15⟩) trivial
          · first | have f195 := (notleE (rfl : (σ9.1 3 7).toInt = (σ9.1 3 7).toInt) (show (0 : Int32).toInt = 0 from by decide)).mp c191 | skip
            exact hQ _ _ hσ9 (⟨k11, k12, k13, k14, k15⟩) trivial
        · first | have f197 := (noteqE (rfl : (σ9.1 3 11).toInt = (σ9.1 3 11).toInt) (show (0 : Int32).toInt = 0 from by decide)).mp c188 | skip
          refine sX2_endInFault hN hσ9 (fun r209 σ198 hσ198 kk208 p210 => ?_)
          obtain ⟨k199, k200, k201, k202, k203, k204, k205, k206, k207⟩ := kk208
          exact hQ _ _ hσ198 (⟨k200.trans (k11), k201.trans (k12), k202.trans (k13), k203.trans (k14), k204.trans (k15)⟩) trivial
set_option maxHeartbeats 4000000 in
theorem sX11_print {N : Nat} (hN : 4294967400 ≤ N) {x1 : Int32} {x2 : Int32} {Q : Int32 → St → Prop} {σ0 σ : St} (hσ : K1 σ0 σ) (hQ : ∀ (r : Int32) (τ : St), K1 σ0 τ → (τ.1 9 9 = σ.1 9 9 ∧ τ.1 9 10 = σ.1 9 10 ∧ τ.1 6 5 = σ.1 6 5 ∧ τ.1 7 4 = σ.1 7 4 ∧ τ.1 2 4 = σ.1 2 4) → True → Q r τ) : fX11_print N x1 x2 Q σ := by
  unfold fX11_print
  unfold fX11_isStepCount
  refine ⟨fun c1 => ?_, fun c1 => ?_⟩
  · have f2 := tB x2
    first | have f3 := (ltE (rfl : x2.toInt = x2.toInt) (show (0 : Int32).toInt = 0 from by decide)).mp c1 | skip
    try dsimp only
    refine ⟨fun c4 => ?_, fun c4 => ?_⟩
    · first | have f5 := (eqE (show (0 : Int32).toInt = 0 from by decide) (show (0 : Int32).toInt = 0 from by decide)).mp c4 | skip
      exact hQ _ _ hσ (⟨rfl, rfl, rfl, rfl, rfl⟩) trivial
    · first | have f6 := (noteqE (show (0 : Int32).toInt = 0 from by decide) (show (0 : Int32).toInt = 0 from by decide)).mp c4 | skip
      refine ⟨fun c7 => ?_, fun c7 => ?_⟩
      · have f8 := K1.g_3_7 hσ
        first | have f9 := (leE (rfl : (σ.1 3 7).toInt = (σ.1 3 7).toInt) (show (0 : Int32).toInt = 0 from by decide)).mp c7 | skip
        have f10 := tB x1
        refine sX2_beginString hN hσ (fun σ11 hσ11 kk21 => ?_)
        obtain ⟨k12, k13, k14, k15, k16, k17, k18, k19, k20⟩ := kk21
        refine sX2_run hN hσ11 (fun r30 σ23 hσ23 kk29 p31 => ?_)
        obtain ⟨k24, k25, k26, k27, k28⟩ := kk29
        exact hQ _ _ hσ23 (⟨k24.trans (k13), k25.trans (k14), k26.trans (k15), k27.trans (k16), k28.trans (k17)⟩) trivial
      · have f32 := K1.g_3_7 hσ
        first | have f33 := (notleE (rfl : (σ.1 3 7).toInt = (σ.1 3 7).toInt) (show (0 : Int32).toInt = 0 from by decide)).mp c7 | skip
        exact hQ _ _ hσ (⟨rfl, rfl, rfl, rfl, rfl⟩) trivial
  · have f34 := tB x2
    first | have f35 := (notltE (rfl : x2.toInt = x2.toInt) (show (0 : Int32).toInt = 0 from by decide)).mp c1 | skip
    refine ⟨fun c36 => ?_, fun c36 => ?_⟩
    · first | have f38 := (ltE (show (100000 : Int32).toInt = 100000 from by decide) (rfl : x2.toInt = x2.toInt)).mp c36 | skip
      try dsimp only
      refine ⟨fun c39 => ?_, fun c39 => ?_⟩
      · first | have f40 := (eqE (show (0 : Int32).toInt = 0 from by decide) (show (0 : Int32).toInt = 0 from by decide)).mp c39 | skip
        exact hQ _ _ hσ (⟨rfl, rfl, rfl, rfl, rfl⟩) trivial
      · first | have f41 := (noteqE (show (0 : Int32).toInt = 0 from by decide) (show (0 : Int32).toInt = 0 from by decide)).mp c39 | skip
        refine ⟨fun c42 => ?_, fun c42 => ?_⟩
        · have f43 := K1.g_3_7 hσ
          first | have f44 := (leE (rfl : (σ.1 3 7).toInt = (σ.1 3 7).toInt) (show (0 : Int32).toInt = 0 from by decide)).mp c42 | skip
          have f45 := tB x1
          refine sX2_beginString hN hσ (fun σ46 hσ46 kk56 => ?_)
          obtain ⟨k47, k48, k49, k50, k51, k52, k53, k54, k55⟩ := kk56
          refine sX2_run hN hσ46 (fun r65 σ58 hσ58 kk64 p66 => ?_)
          obtain ⟨k59, k60, k61, k62, k63⟩ := kk64
          exact hQ _ _ hσ58 (⟨k59.trans (k48), k60.trans (k49), k61.trans (k50), k62.trans (k51), k63.trans (k52)⟩) trivial
        · have f67 := K1.g_3_7 hσ
          first | have f68 := (notleE (rfl : (σ.1 3 7).toInt = (σ.1 3 7).toInt) (show (0 : Int32).toInt = 0 from by decide)).mp c42 | skip
          exact hQ _ _ hσ (⟨rfl, rfl, rfl, rfl, rfl⟩) trivial
    · first | have f70 := (notltE (show (100000 : Int32).toInt = 100000 from by decide) (rfl : x2.toInt = x2.toInt)).mp c36 | skip
      try dsimp only
      refine ⟨fun c71 => ?_, fun c71 => ?_⟩
      · first | have f72 := (eqE (show (1 : Int32).toInt = 1 from by decide) (show (0 : Int32).toInt = 0 from by decide)).mp c71 | skip
        exact hQ _ _ hσ (⟨rfl, rfl, rfl, rfl, rfl⟩) trivial
      · first | have f73 := (noteqE (show (1 : Int32).toInt = 1 from by decide) (show (0 : Int32).toInt = 0 from by decide)).mp c71 | skip
        refine ⟨fun c74 => ?_, fun c74 => ?_⟩
        · have f75 := K1.g_3_7 hσ
          first | have f76 := (leE (rfl : (σ.1 3 7).toInt = (σ.1 3 7).toInt) (show (0 : Int32).toInt = 0 from by decide)).mp c74 | skip
          have f77 := tB x1
          refine sX2_beginString hN hσ (fun σ78 hσ78 kk88 => ?_)
          obtain ⟨k79, k80, k81, k82, k83, k84, k85, k86, k87⟩ := kk88
          refine sX2_run hN hσ78 (fun r97 σ90 hσ90 kk96 p98 => ?_)
          obtain ⟨k91, k92, k93, k94, k95⟩ := kk96
          exact hQ _ _ hσ90 (⟨k91.trans (k80), k92.trans (k81), k93.trans (k82), k94.trans (k83), k95.trans (k84)⟩) trivial
        · have f99 := K1.g_3_7 hσ
          first | have f100 := (notleE (rfl : (σ.1 3 7).toInt = (σ.1 3 7).toInt) (show (0 : Int32).toInt = 0 from by decide)).mp c74 | skip
          exact hQ _ _ hσ (⟨rfl, rfl, rfl, rfl, rfl⟩) trivial
set_option maxHeartbeats 4000000 in
theorem sX11_number {N : Nat} (hN : 4294967400 ≤ N) {x1 : Int32} {x2 : Int32} {Q : Int32 → St → Prop} {σ0 σ : St} (hσ : K1 σ0 σ) (hQ : ∀ (r : Int32) (τ : St), K1 σ0 τ → (τ.1 9 9 = σ.1 9 9 ∧ τ.1 9 10 = σ.1 9 10 ∧ τ.1 6 5 = σ.1 6 5 ∧ τ.1 7 4 = σ.1 7 4 ∧ τ.1 2 4 = σ.1 2 4) → True → Q r τ) : fX11_number N x1 x2 Q σ := by
  unfold fX11_number
  unfold fX11_isStepCount
  refine ⟨fun c1 => ?_, fun c1 => ?_⟩
  · have f2 := tB x2
    first | have f3 := (ltE (rfl : x2.toInt = x2.toInt) (show (0 : Int32).toInt = 0 from by decide)).mp c1 | skip
    try dsimp only
    refine ⟨fun c4 => ?_, fun c4 => ?_⟩
    · first | have f5 := (eqE (show (0 : Int32).toInt = 0 from by decide) (show (0 : Int32).toInt = 0 from by decide)).mp c4 | skip
      exact hQ _ _ hσ (⟨rfl, rfl, rfl, rfl, rfl⟩) trivial
    · first | have f6 := (noteqE (show (0 : Int32).toInt = 0 from by decide) (show (0 : Int32).toInt = 0 from by decide)).mp c4 | skip
      refine ⟨fun c7 => ?_, fun c7 => ?_⟩
      · have f8 := K1.g_3_7 hσ
        first | have f9 := (leE (rfl : (σ.1 3 7).toInt = (σ.1 3 7).toInt) (show (0 : Int32).toInt = 0 from by decide)).mp c7 | skip
        have f10 := tB x1
        refine sX2_begin hN hσ (fun σ11 hσ11 kk21 => ?_)
        obtain ⟨k12, k13, k14, k15, k16, k17, k18, k19, k20⟩ := kk21
        refine sX2_run hN hσ11 (fun r30 σ23 hσ23 kk29 p31 => ?_)
        obtain ⟨k24, k25, k26, k27, k28⟩ := kk29
        exact hQ _ _ hσ23 (⟨k24.trans (k13), k25.trans (k14), k26.trans (k15), k27.trans (k16), k28.trans (k17)⟩) trivial
      · have f32 := K1.g_3_7 hσ
        first | have f33 := (notleE (rfl : (σ.1 3 7).toInt = (σ.1 3 7).toInt) (show (0 : Int32).toInt = 0 from by decide)).mp c7 | skip
        exact hQ _ _ hσ (⟨rfl, rfl, rfl, rfl, rfl⟩) trivial
  · have f34 := tB x2
    first | have f35 := (notltE (rfl : x2.toInt = x2.toInt) (show (0 : Int32).toInt = 0 from by decide)).mp c1 | skip
    refine ⟨fun c36 => ?_, fun c36 => ?_⟩
    · first | have f38 := (ltE (show (100000 : Int32).toInt = 100000 from by decide) (rfl : x2.toInt = x2.toInt)).mp c36 | skip
      try dsimp only
      refine ⟨fun c39 => ?_, fun c39 => ?_⟩
      · first | have f40 := (eqE (show (0 : Int32).toInt = 0 from by decide) (show (0 : Int32).toInt = 0 from by decide)).mp c39 | skip
        exact hQ _ _ hσ (⟨rfl, rfl, rfl, rfl, rfl⟩) trivial
      · first | have f41 := (noteqE (show (0 : Int32).toInt = 0 from by decide) (show (0 : Int32).toInt = 0 from by decide)).mp c39 | skip
        refine ⟨fun c42 => ?_, fun c42 => ?_⟩
        · have f43 := K1.g_3_7 hσ
          first | have f44 := (leE (rfl : (σ.1 3 7).toInt = (σ.1 3 7).toInt) (show (0 : Int32).toInt = 0 from by decide)).mp c42 | skip
          have f45 := tB x1
          refine sX2_begin hN hσ (fun σ46 hσ46 kk56 => ?_)
          obtain ⟨k47, k48, k49, k50, k51, k52, k53, k54, k55⟩ := kk56
          refine sX2_run hN hσ46 (fun r65 σ58 hσ58 kk64 p66 => ?_)
          obtain ⟨k59, k60, k61, k62, k63⟩ := kk64
          exact hQ _ _ hσ58 (⟨k59.trans (k48), k60.trans (k49), k61.trans (k50), k62.trans (k51), k63.trans (k52)⟩) trivial
        · have f67 := K1.g_3_7 hσ
          first | have f68 := (notleE (rfl : (σ.1 3 7).toInt = (σ.1 3 7).toInt) (show (0 : Int32).toInt = 0 from by decide)).mp c42 | skip
          exact hQ _ _ hσ (⟨rfl, rfl, rfl, rfl, rfl⟩) trivial
    · first | have f70 := (notltE (show (100000 : Int32).toInt = 100000 from by decide) (rfl : x2.toInt = x2.toInt)).mp c36 | skip
      try dsimp only
      refine ⟨fun c71 => ?_, fun c71 => ?_⟩
      · first | have f72 := (eqE (show (1 : Int32).toInt = 1 from by decide) (show (0 : Int32).toInt = 0 from by decide)).mp c71 | skip
        exact hQ _ _ hσ (⟨rfl, rfl, rfl, rfl, rfl⟩) trivial
      · first | have f73 := (noteqE (show (1 : Int32).toInt = 1 from by decide) (show (0 : Int32).toInt = 0 from by decide)).mp c71 | skip
        refine ⟨fun c74 => ?_, fun c74 => ?_⟩
        · have f75 := K1.g_3_7 hσ
          first | have f76 := (leE (rfl : (σ.1 3 7).toInt = (σ.1 3 7).toInt) (show (0 : Int32).toInt = 0 from by decide)).mp c74 | skip
          have f77 := tB x1
          refine sX2_begin hN hσ (fun σ78 hσ78 kk88 => ?_)
          obtain ⟨k79, k80, k81, k82, k83, k84, k85, k86, k87⟩ := kk88
          refine sX2_run hN hσ78 (fun r97 σ90 hσ90 kk96 p98 => ?_)
          obtain ⟨k91, k92, k93, k94, k95⟩ := kk96
          exact hQ _ _ hσ90 (⟨k91.trans (k80), k92.trans (k81), k93.trans (k82), k94.trans (k83), k95.trans (k84)⟩) trivial
        · have f99 := K1.g_3_7 hσ
          first | have f100 := (notleE (rfl : (σ.1 3 7).toInt = (σ.1 3 7).toInt) (show (0 : Int32).toInt = 0 from by decide)).mp c74 | skip
          exact hQ _ _ hσ (⟨rfl, rfl, rfl, rfl, rfl⟩) trivial
set_option maxHeartbeats 4000000 in
theorem sX2_setArguments {N : Nat} (hN : 4294967400 ≤ N) {k1 : Nat} {x2 : Int32} (hk1 : r120 k1) {Q : St → Prop} {σ0 σ : St} (hσ : K1 σ0 σ) (hQ : ∀ τ : St, K1 σ0 τ → (τ.1 3 7 = σ.1 3 7 ∧ τ.1 3 11 = σ.1 3 11 ∧ τ.1 9 9 = σ.1 9 9 ∧ τ.1 9 10 = σ.1 9 10 ∧ τ.1 6 5 = σ.1 6 5 ∧ τ.1 7 4 = σ.1 7 4 ∧ τ.1 2 4 = σ.1 2 4 ∧ τ.1 2 5 = σ.1 2 5 ∧ τ.1 2 6 = σ.1 2 6 ∧ τ.1 3 8 = σ.1 3 8) → Q τ) : fX2_setArguments N k1 x2 Q σ := by
  unfold fX2_setArguments
  have kbhk1 := r120_b hk1
  intro σ1 eσ1
  have hσ1 : K1 σ0 σ1 := by rw [eσ1]; exact hσ.u (Rg1.r_3_6 (leP (show (0 : Int32).toInt = 0 from by decide) (by omega)) (geP (show (0 : Int32).toInt = 0 from by decide) (by omega))) (fun q => absurd q.1 (by decide)) (fun q => absurd q.1 (by decide))
  have f3 := tB x2
  have f4 := K1.g_3_6 hσ1
  have q5 : σ1.1 3 6 = 0 := by rw [eσ1, u1_at]; exact if_pos rfl
  first | have f6 : (σ1.1 3 6).toInt = (0) := (congrArg Int32.toInt q5).trans (show (0 : Int32).toInt = 0 from by decide) | skip
  refine lo1_i (fun (y2 : Int32) (τ : St) => K1 σ0 τ ∧ τ.1 3 7 = σ1.1 3 7 ∧ τ.1 3 11 = σ1.1 3 11 ∧ τ.1 9 9 = σ1.1 9 9 ∧ τ.1 9 10 = σ1.1 9 10 ∧ τ.1 6 5 = σ1.1 6 5 ∧ τ.1 7 4 = σ1.1 7 4 ∧ τ.1 2 4 = σ1.1 2 4 ∧ τ.1 2 5 = σ1.1 2 5 ∧ τ.1 2 6 = σ1.1 2 6 ∧ τ.1 3 8 = σ1.1 3 8 ∧ 0 ≤ y2.toInt ∧ (τ.1 3 6).toInt = y2.toInt) (fun (y2 : Int32) (τ : St) => (2147483648 - y2.toInt).toNat) ?_ N (0 : Int32) σ1 ⟨hσ1, rfl, rfl, rfl, rfl, rfl, rfl, rfl, rfl, rfl, rfl, by first | decide | (have z0 : (0 : Int32).toInt = 0 := (by decide); omega), by first | decide | (have z0 : (0 : Int32).toInt = 0 := (by decide); omega)⟩ (by have z0 : (0 : Int32).toInt = 0 := (by decide); (try dsimp only); omega)
  intro rr7 y10 σ9 hIσ9 ih8
  obtain ⟨hσ9, k11, k12, k13, k14, k15, k16, k17, k18, k19, k20, i21, i22⟩ := hIσ9
  unfold fX2_setArguments_l7
  have f23 := tB y10
  refine ⟨fun c24 => ?_, fun c24 => ?_⟩
  · first | have f27 := (leE (rfl : x2.toInt = x2.toInt) (rfl : y10.toInt = y10.toInt)).mp c24 | skip
    exact hQ _ hσ9 (⟨k11.trans ((kq (a := 3) (b := 7) eσ1 (fun q => absurd q.2 (by decide)))), k12.trans ((kq (a := 3) (b := 11) eσ1 (fun q => absurd q.2 (by decide)))), k13.trans ((kq (a := 9) (b := 9) eσ1 (fun q => absurd q.1 (by decide)))), k14.trans ((kq (a := 9) (b := 10) eσ1 (fun q => absurd q.1 (by decide)))), k15.trans ((kq (a := 6) (b := 5) eσ1 (fun q => absurd q.1 (by decide)))), k16.trans ((kq (a := 7) (b := 4) eσ1 (fun q => absurd q.1 (by decide)))), k17.trans ((kq (a := 2) (b := 4) eσ1 (fun q => absurd q.1 (by decide)))), k18.trans ((kq (a := 2) (b := 5) eσ1 (fun q => absurd q.1 (by decide)))), k19.trans ((kq (a := 2) (b := 6) eσ1 (fun q => absurd q.1 (by decide)))), k20.trans ((kq (a := 3) (b := 8) eσ1 (fun q => absurd q.2 (by decide))))⟩)
  · first | have f30 := (notleE (rfl : x2.toInt = x2.toInt) (rfl : y10.toInt = y10.toInt)).mp c24 | skip
    refine ⟨fun c31 => ?_, fun c31 => ?_⟩
    · first | have f33 := (leE (show (120 : Int32).toInt = 120 from by decide) (rfl : y10.toInt = y10.toInt)).mp c31 | skip
      exact hQ _ hσ9 (⟨k11.trans ((kq (a := 3) (b := 7) eσ1 (fun q => absurd q.2 (by decide)))), k12.trans ((kq (a := 3) (b := 11) eσ1 (fun q => absurd q.2 (by decide)))), k13.trans ((kq (a := 9) (b := 9) eσ1 (fun q => absurd q.1 (by decide)))), k14.trans ((kq (a := 9) (b := 10) eσ1 (fun q => absurd q.1 (by decide)))), k15.trans ((kq (a := 6) (b := 5) eσ1 (fun q => absurd q.1 (by decide)))), k16.trans ((kq (a := 7) (b := 4) eσ1 (fun q => absurd q.1 (by decide)))), k17.trans ((kq (a := 2) (b := 4) eσ1 (fun q => absurd q.1 (by decide)))), k18.trans ((kq (a := 2) (b := 5) eσ1 (fun q => absurd q.1 (by decide)))), k19.trans ((kq (a := 2) (b := 6) eσ1 (fun q => absurd q.1 (by decide)))), k20.trans ((kq (a := 3) (b := 8) eσ1 (fun q => absurd q.2 (by decide))))⟩)
    · first | have f35 := (notleE (show (120 : Int32).toInt = 120 from by decide) (rfl : y10.toInt = y10.toInt)).mp c31 | skip
      refine ⟨fun c36 => ?_, fun c36 => ?_⟩
      · first | have f38 := (leE (show (4 : Int32).toInt = 4 from by decide) (rfl : y10.toInt = y10.toInt)).mp c36 | skip
        exact hQ _ hσ9 (⟨k11.trans ((kq (a := 3) (b := 7) eσ1 (fun q => absurd q.2 (by decide)))), k12.trans ((kq (a := 3) (b := 11) eσ1 (fun q => absurd q.2 (by decide)))), k13.trans ((kq (a := 9) (b := 9) eσ1 (fun q => absurd q.1 (by decide)))), k14.trans ((kq (a := 9) (b := 10) eσ1 (fun q => absurd q.1 (by decide)))), k15.trans ((kq (a := 6) (b := 5) eσ1 (fun q => absurd q.1 (by decide)))), k16.trans ((kq (a := 7) (b := 4) eσ1 (fun q => absurd q.1 (by decide)))), k17.trans ((kq (a := 2) (b := 4) eσ1 (fun q => absurd q.1 (by decide)))), k18.trans ((kq (a := 2) (b := 5) eσ1 (fun q => absurd q.1 (by decide)))), k19.trans ((kq (a := 2) (b := 6) eσ1 (fun q => absurd q.1 (by decide)))), k20.trans ((kq (a := 3) (b := 8) eσ1 (fun q => absurd q.2 (by decide))))⟩)
      · first | have f40 := (notleE (show (4 : Int32).toInt = 4 from by decide) (rfl : y10.toInt = y10.toInt)).mp c36 | skip
        have g42 : vp_in y10 120 := inE (rfl : y10.toInt = y10.toInt) (by omega) (by omega)
        refine ⟨g42, ?_⟩
        intro v43 ev43
        refine ⟨inE (rfl : y10.toInt = y10.toInt) (by omega) (by omega), ?_⟩
        intro σ45 eσ45
        have hσ45 : K1 σ0 σ45 := by rw [eσ45]; exact hσ9.u (Rg1.ra_17 _ _) (fun q => absurd q.1 (by decide)) (fun q => absurd q.1 (by decide))
        intro v46 ev46
        intro σ47 eσ47
        have f48 := tB v46
        have f49 := K1.g_3_6 hσ45
        have q50 : σ45.1 3 6 = σ9.1 3 6 := by rw [eσ45]; exact congrFun (u1_ne (by decide)) 6
        have f51 := congrArg Int32.toInt q50
        have f52 := K1.g_3_6 hσ9
        first | have f53 : v46.toInt = ((σ45.1 3 6).toInt + (1)) := (congrArg Int32.toInt ev46).trans (aOkE (rfl : (σ45.1 3 6).toInt = (σ45.1 3 6).toInt) (show (1 : Int32).toInt = 1 from by decide) (by omega) (by omega)) | skip
        have hσ47 : K1 σ0 σ47 := by rw [eσ47]; exact hσ45.u (Rg1.r_3_6 (leP (rfl : v46.toInt = v46.toInt) (by omega)) (geP (rfl : v46.toInt = v46.toInt) (by omega))) (fun q => absurd q.1 (by decide)) (fun q => absurd q.1 (by decide))
        intro v54 ev54
        have f55 := tB v54
        first | have f57 : v54.toInt = (y10.toInt + (1)) := (congrArg Int32.toInt ev54).trans (aOkE (rfl : y10.toInt = y10.toInt) (show (1 : Int32).toInt = 1 from by decide) (by omega) (by omega)) | skip
        have f58 := K1.g_3_6 hσ47
        have q59 : σ47.1 3 6 = v46 := by rw [eσ47, u1_at]; exact if_pos rfl
        first | have f61 : (σ47.1 3 6).toInt = v46.toInt := (congrArg Int32.toInt q59).trans (rfl : v46.toInt = v46.toInt) | skip
        exact ih8 v54 σ47 ⟨hσ47, (kq (a := 3) (b := 7) eσ47 (fun q => absurd q.2 (by decide))).trans ((kq (a := 3) (b := 7) eσ45 (fun q => absurd q.1 (by decide))).trans (k11)), (kq (a := 3) (b := 11) eσ47 (fun q => absurd q.2 (by decide))).trans ((kq (a := 3) (b := 11) eσ45 (fun q => absurd q.1 (by decide))).trans (k12)), (kq (a := 9) (b := 9) eσ47 (fun q => absurd q.1 (by decide))).trans ((kq (a := 9) (b := 9) eσ45 (fun q => absurd q.1 (by decide))).trans (k13)), (kq (a := 9) (b := 10) eσ47 (fun q => absurd q.1 (by decide))).trans ((kq (a := 9) (b := 10) eσ45 (fun q => absurd q.1 (by decide))).trans (k14)), (kq (a := 6) (b := 5) eσ47 (fun q => absurd q.1 (by decide))).trans ((kq (a := 6) (b := 5) eσ45 (fun q => absurd q.1 (by decide))).trans (k15)), (kq (a := 7) (b := 4) eσ47 (fun q => absurd q.1 (by decide))).trans ((kq (a := 7) (b := 4) eσ45 (fun q => absurd q.1 (by decide))).trans (k16)), (kq (a := 2) (b := 4) eσ47 (fun q => absurd q.1 (by decide))).trans ((kq (a := 2) (b := 4) eσ45 (fun q => absurd q.1 (by decide))).trans (k17)), (kq (a := 2) (b := 5) eσ47 (fun q => absurd q.1 (by decide))).trans ((kq (a := 2) (b := 5) eσ45 (fun q => absurd q.1 (by decide))).trans (k18)), (kq (a := 2) (b := 6) eσ47 (fun q => absurd q.1 (by decide))).trans ((kq (a := 2) (b := 6) eσ45 (fun q => absurd q.1 (by decide))).trans (k19)), (kq (a := 3) (b := 8) eσ47 (fun q => absurd q.2 (by decide))).trans ((kq (a := 3) (b := 8) eσ45 (fun q => absurd q.1 (by decide))).trans (k20)), by omega, by omega⟩ (by (try dsimp only); omega)
set_option maxHeartbeats 4000000 in
theorem sX11_call {N : Nat} (hN : 4294967400 ≤ N) {x1 : Int32} {x2 : Int32} {Q : Int32 → St → Prop} {σ0 σ : St} (hσ : K1 σ0 σ) (hQ : ∀ (r : Int32) (τ : St), K1 σ0 τ → (τ.1 9 9 = σ.1 9 9 ∧ τ.1 9 10 = σ.1 9 10 ∧ τ.1 6 5 = σ.1 6 5 ∧ τ.1 7 4 = σ.1 7 4 ∧ τ.1 2 4 = σ.1 2 4) → True → Q r τ) : fX11_call N x1 x2 Q σ := by
  unfold fX11_call
  unfold fX11_isStepCount
  refine ⟨fun c1 => ?_, fun c1 => ?_⟩
  · have f2 := tB x2
    first | have f3 := (ltE (rfl : x2.toInt = x2.toInt) (show (0 : Int32).toInt = 0 from by decide)).mp c1 | skip
    try dsimp only
    refine ⟨fun c4 => ?_, fun c4 => ?_⟩
    · first | have f5 := (eqE (show (0 : Int32).toInt = 0 from by decide) (show (0 : Int32).toInt = 0 from by decide)).mp c4 | skip
      exact hQ _ _ hσ (⟨rfl, rfl, rfl, rfl, rfl⟩) trivial
    · first | have f6 := (noteqE (show (0 : Int32).toInt = 0 from by decide) (show (0 : Int32).toInt = 0 from by decide)).mp c4 | skip
      refine ⟨fun c7 => ?_, fun c7 => ?_⟩
      · have f8 := K1.g_0_7 hσ
        first | have f9 := (leE (rfl : (σ.1 0 7).toInt = (σ.1 0 7).toInt) (show (4 : Int32).toInt = 4 from by decide)).mp c7 | skip
        refine ⟨fun c10 => ?_, fun c10 => ?_⟩
        · have f11 := K1.g_3_7 hσ
          first | have f12 := (leE (rfl : (σ.1 3 7).toInt = (σ.1 3 7).toInt) (show (0 : Int32).toInt = 0 from by decide)).mp c10 | skip
          refine sX2_setArguments hN r120_11 hσ (fun σ14 hσ14 kk25 => ?_)
          obtain ⟨k15, k16, k17, k18, k19, k20, k21, k22, k23, k24⟩ := kk25
          intro σ26 eσ26
          have hσ26 : K1 σ0 σ26 := by rw [eσ26]; exact hσ14.u (Rg1.r_0_7 (leP (show (0 : Int32).toInt = 0 from by decide) (by omega)) (geP (show (0 : Int32).toInt = 0 from by decide) (by omega))) (fun q => absurd q.1 (by decide)) (fun q => absurd q.2 (by decide))
          have f27 := tB x1
          refine sX2_callFunction hN hσ26 (fun σ28 hσ28 kk38 => ?_)
          obtain ⟨k29, k30, k31, k32, k33, k34, k35, k36, k37⟩ := kk38
          refine sX2_run hN hσ28 (fun r47 σ40 hσ40 kk46 p48 => ?_)
          obtain ⟨k41, k42, k43, k44, k45⟩ := kk46
          exact hQ _ _ hσ40 (⟨k41.trans (k30.trans ((kq (a := 9) (b := 9) eσ26 (fun q => absurd q.1 (by decide))).trans (k17))), k42.trans (k31.trans ((kq (a := 9) (b := 10) eσ26 (fun q => absurd q.1 (by decide))).trans (k18))), k43.trans (k32.trans ((kq (a := 6) (b := 5) eσ26 (fun q => absurd q.1 (by decide))).trans (k19))), k44.trans (k33.trans ((kq (a := 7) (b := 4) eσ26 (fun q => absurd q.1 (by decide))).trans (k20))), k45.trans (k34.trans ((kq (a := 2) (b := 4) eσ26 (fun q => absurd q.1 (by decide))).trans (k21)))⟩) trivial
        · have f49 := K1.g_3_7 hσ
          first | have f50 := (notleE (rfl : (σ.1 3 7).toInt = (σ.1 3 7).toInt) (show (0 : Int32).toInt = 0 from by decide)).mp c10 | skip
          exact hQ _ _ hσ (⟨rfl, rfl, rfl, rfl, rfl⟩) trivial
      · have f51 := K1.g_0_7 hσ
        first | have f52 := (notleE (rfl : (σ.1 0 7).toInt = (σ.1 0 7).toInt) (show (4 : Int32).toInt = 4 from by decide)).mp c7 | skip
        exact hQ _ _ hσ (⟨rfl, rfl, rfl, rfl, rfl⟩) trivial
  · have f53 := tB x2
    first | have f54 := (notltE (rfl : x2.toInt = x2.toInt) (show (0 : Int32).toInt = 0 from by decide)).mp c1 | skip
    refine ⟨fun c55 => ?_, fun c55 => ?_⟩
    · first | have f57 := (ltE (show (100000 : Int32).toInt = 100000 from by decide) (rfl : x2.toInt = x2.toInt)).mp c55 | skip
      try dsimp only
      refine ⟨fun c58 => ?_, fun c58 => ?_⟩
      · first | have f59 := (eqE (show (0 : Int32).toInt = 0 from by decide) (show (0 : Int32).toInt = 0 from by decide)).mp c58 | skip
        exact hQ _ _ hσ (⟨rfl, rfl, rfl, rfl, rfl⟩) trivial
      · first | have f60 := (noteqE (show (0 : Int32).toInt = 0 from by decide) (show (0 : Int32).toInt = 0 from by decide)).mp c58 | skip
        refine ⟨fun c61 => ?_, fun c61 => ?_⟩
        · have f62 := K1.g_0_7 hσ
          first | have f63 := (leE (rfl : (σ.1 0 7).toInt = (σ.1 0 7).toInt) (show (4 : Int32).toInt = 4 from by decide)).mp c61 | skip
          refine ⟨fun c64 => ?_, fun c64 => ?_⟩
          · have f65 := K1.g_3_7 hσ
            first | have f66 := (leE (rfl : (σ.1 3 7).toInt = (σ.1 3 7).toInt) (show (0 : Int32).toInt = 0 from by decide)).mp c64 | skip
            refine sX2_setArguments hN r120_11 hσ (fun σ68 hσ68 kk79 => ?_)
            obtain ⟨k69, k70, k71, k72, k73, k74, k75, k76, k77, k78⟩ := kk79
            intro σ80 eσ80
            have hσ80 : K1 σ0 σ80 := by rw [eσ80]; exact hσ68.u (Rg1.r_0_7 (leP (show (0 : Int32).toInt = 0 from by decide) (by omega)) (geP (show (0 : Int32).toInt = 0 from by decide) (by omega))) (fun q => absurd q.1 (by decide)) (fun q => absurd q.2 (by decide))
            have f81 := tB x1
            refine sX2_callFunction hN hσ80 (fun σ82 hσ82 kk92 => ?_)
            obtain ⟨k83, k84, k85, k86, k87, k88, k89, k90, k91⟩ := kk92
            refine sX2_run hN hσ82 (fun r101 σ94 hσ94 kk100 p102 => ?_)
            obtain ⟨k95, k96, k97, k98, k99⟩ := kk100
            exact hQ _ _ hσ94 (⟨k95.trans (k84.trans ((kq (a := 9) (b := 9) eσ80 (fun q => absurd q.1 (by decide))).trans (k71))), k96.trans (k85.trans ((kq (a := 9) (b := 10) eσ80 (fun q => absurd q.1 (by decide))).trans (k72))), k97.trans (k86.trans ((kq (a := 6) (b := 5) eσ80 (fun q => absurd q.1 (by decide))).trans (k73))), k98.trans (k87.trans ((kq (a := 7) (b := 4) eσ80 (fun q => absurd q.1 (by decide))).trans (k74))), k99.trans (k88.trans ((kq (a := 2) (b := 4) eσ80 (fun q => absurd q.1 (by decide))).trans (k75)))⟩) trivial
          · have f103 := K1.g_3_7 hσ
            first | have f104 := (notleE (rfl : (σ.1 3 7).toInt = (σ.1 3 7).toInt) (show (0 : Int32).toInt = 0 from by decide)).mp c64 | skip
            exact hQ _ _ hσ (⟨rfl, rfl, rfl, rfl, rfl⟩) trivial
        · have f105 := K1.g_0_7 hσ
          first | have f106 := (notleE (rfl : (σ.1 0 7).toInt = (σ.1 0 7).toInt) (show (4 : Int32).toInt = 4 from by decide)).mp c61 | skip
          exact hQ _ _ hσ (⟨rfl, rfl, rfl, rfl, rfl⟩) trivial
    · first | have f108 := (notltE (show (100000 : Int32).toInt = 100000 from by decide) (rfl : x2.toInt = x2.toInt)).mp c55 | skip
      try dsimp only
      refine ⟨fun c109 => ?_, fun c109 => ?_⟩
      · first | have f110 := (eqE (show (1 : Int32).toInt = 1 from by decide) (show (0 : Int32).toInt = 0 from by decide)).mp c109 | skip
        exact hQ _ _ hσ (⟨rfl, rfl, rfl, rfl, rfl⟩) trivial
      · first | have f111 := (noteqE (show (1 : Int32).toInt = 1 from by decide) (show (0 : Int32).toInt = 0 from by decide)).mp c109 | skip
        refine ⟨fun c112 => ?_, fun c112 => ?_⟩
        · have f113 := K1.g_0_7 hσ
          first | have f114 := (leE (rfl : (σ.1 0 7).toInt = (σ.1 0 7).toInt) (show (4 : Int32).toInt = 4 from by decide)).mp c112 | skip
          refine ⟨fun c115 => ?_, fun c115 => ?_⟩
          · have f116 := K1.g_3_7 hσ
            first | have f117 := (leE (rfl : (σ.1 3 7).toInt = (σ.1 3 7).toInt) (show (0 : Int32).toInt = 0 from by decide)).mp c115 | skip
            refine sX2_setArguments hN r120_11 hσ (fun σ119 hσ119 kk130 => ?_)
            obtain ⟨k120, k121, k122, k123, k124, k125, k126, k127, k128, k129⟩ := kk130
            intro σ131 eσ131
            have hσ131 : K1 σ0 σ131 := by rw [eσ131]; exact hσ119.u (Rg1.r_0_7 (leP (show (0 : Int32).toInt = 0 from by decide) (by omega)) (geP (show (0 : Int32).toInt = 0 from by decide) (by omega))) (fun q => absurd q.1 (by decide)) (fun q => absurd q.2 (by decide))
            have f132 := tB x1
            refine sX2_callFunction hN hσ131 (fun σ133 hσ133 kk143 => ?_)
            obtain ⟨k134, k135, k136, k137, k138, k139, k140, k141, k142⟩ := kk143
            refine sX2_run hN hσ133 (fun r152 σ145 hσ145 kk151 p153 => ?_)
            obtain ⟨k146, k147, k148, k149, k150⟩ := kk151
            exact hQ _ _ hσ145 (⟨k146.trans (k135.trans ((kq (a := 9) (b := 9) eσ131 (fun q => absurd q.1 (by decide))).trans (k122))), k147.trans (k136.trans ((kq (a := 9) (b := 10) eσ131 (fun q => absurd q.1 (by decide))).trans (k123))), k148.trans (k137.trans ((kq (a := 6) (b := 5) eσ131 (fun q => absurd q.1 (by decide))).trans (k124))), k149.trans (k138.trans ((kq (a := 7) (b := 4) eσ131 (fun q => absurd q.1 (by decide))).trans (k125))), k150.trans (k139.trans ((kq (a := 2) (b := 4) eσ131 (fun q => absurd q.1 (by decide))).trans (k126)))⟩) trivial
          · have f154 := K1.g_3_7 hσ
            first | have f155 := (notleE (rfl : (σ.1 3 7).toInt = (σ.1 3 7).toInt) (show (0 : Int32).toInt = 0 from by decide)).mp c115 | skip
            exact hQ _ _ hσ (⟨rfl, rfl, rfl, rfl, rfl⟩) trivial
        · have f156 := K1.g_0_7 hσ
          first | have f157 := (notleE (rfl : (σ.1 0 7).toInt = (σ.1 0 7).toInt) (show (4 : Int32).toInt = 4 from by decide)).mp c112 | skip
          exact hQ _ _ hσ (⟨rfl, rfl, rfl, rfl, rfl⟩) trivial
set_option maxHeartbeats 4000000 in
theorem sX11_resume {N : Nat} (hN : 4294967400 ≤ N) {x1 : Int32} {Q : Int32 → St → Prop} {σ0 σ : St} (hσ : K1 σ0 σ) (hQ : ∀ (r : Int32) (τ : St), K1 σ0 τ → (τ.1 9 9 = σ.1 9 9 ∧ τ.1 9 10 = σ.1 9 10 ∧ τ.1 6 5 = σ.1 6 5 ∧ τ.1 7 4 = σ.1 7 4 ∧ τ.1 2 4 = σ.1 2 4) → True → Q r τ) : fX11_resume N x1 Q σ := by
  unfold fX11_resume
  unfold fX11_isStepCount
  refine ⟨fun c1 => ?_, fun c1 => ?_⟩
  · have f2 := tB x1
    first | have f3 := (ltE (rfl : x1.toInt = x1.toInt) (show (0 : Int32).toInt = 0 from by decide)).mp c1 | skip
    try dsimp only
    refine ⟨fun c4 => ?_, fun c4 => ?_⟩
    · first | have f5 := (eqE (show (0 : Int32).toInt = 0 from by decide) (show (0 : Int32).toInt = 0 from by decide)).mp c4 | skip
      exact hQ _ _ hσ (⟨rfl, rfl, rfl, rfl, rfl⟩) trivial
    · first | have f6 := (noteqE (show (0 : Int32).toInt = 0 from by decide) (show (0 : Int32).toInt = 0 from by decide)).mp c4 | skip
      refine ⟨fun c7 => ?_, fun c7 => ?_⟩
      · have f8 := K1.g_3_7 hσ
        first | have f9 := (eqE (rfl : (σ.1 3 7).toInt = (σ.1 3 7).toInt) (show (0 : Int32).toInt = 0 from by decide)).mp c7 | skip
        exact hQ _ _ hσ (⟨rfl, rfl, rfl, rfl, rfl⟩) trivial
      · have f10 := K1.g_3_7 hσ
        first | have f11 := (noteqE (rfl : (σ.1 3 7).toInt = (σ.1 3 7).toInt) (show (0 : Int32).toInt = 0 from by decide)).mp c7 | skip
        refine sX2_run hN hσ (fun r20 σ13 hσ13 kk19 p21 => ?_)
        obtain ⟨k14, k15, k16, k17, k18⟩ := kk19
        exact hQ _ _ hσ13 (⟨k14, k15, k16, k17, k18⟩) trivial
  · have f22 := tB x1
    first | have f23 := (notltE (rfl : x1.toInt = x1.toInt) (show (0 : Int32).toInt = 0 from by decide)).mp c1 | skip
    refine ⟨fun c24 => ?_, fun c24 => ?_⟩
    · first | have f26 := (ltE (show (100000 : Int32).toInt = 100000 from by decide) (rfl : x1.toInt = x1.toInt)).mp c24 | skip
      try dsimp only
      refine ⟨fun c27 => ?_, fun c27 => ?_⟩
      · first | have f28 := (eqE (show (0 : Int32).toInt = 0 from by decide) (show (0 : Int32).toInt = 0 from by decide)).mp c27 | skip
        exact hQ _ _ hσ (⟨rfl, rfl, rfl, rfl, rfl⟩) trivial
      · first | have f29 := (noteqE (show (0 : Int32).toInt = 0 from by decide) (show (0 : Int32).toInt = 0 from by decide)).mp c27 | skip
        refine ⟨fun c30 => ?_, fun c30 => ?_⟩
        · have f31 := K1.g_3_7 hσ
          first | have f32 := (eqE (rfl : (σ.1 3 7).toInt = (σ.1 3 7).toInt) (show (0 : Int32).toInt = 0 from by decide)).mp c30 | skip
          exact hQ _ _ hσ (⟨rfl, rfl, rfl, rfl, rfl⟩) trivial
        · have f33 := K1.g_3_7 hσ
          first | have f34 := (noteqE (rfl : (σ.1 3 7).toInt = (σ.1 3 7).toInt) (show (0 : Int32).toInt = 0 from by decide)).mp c30 | skip
          refine sX2_run hN hσ (fun r43 σ36 hσ36 kk42 p44 => ?_)
          obtain ⟨k37, k38, k39, k40, k41⟩ := kk42
          exact hQ _ _ hσ36 (⟨k37, k38, k39, k40, k41⟩) trivial
    · first | have f46 := (notltE (show (100000 : Int32).toInt = 100000 from by decide) (rfl : x1.toInt = x1.toInt)).mp c24 | skip
      try dsimp only
      refine ⟨fun c47 => ?_, fun c47 => ?_⟩
      · first | have f48 := (eqE (show (1 : Int32).toInt = 1 from by decide) (show (0 : Int32).toInt = 0 from by decide)).mp c47 | skip
        exact hQ _ _ hσ (⟨rfl, rfl, rfl, rfl, rfl⟩) trivial
      · first | have f49 := (noteqE (show (1 : Int32).toInt = 1 from by decide) (show (0 : Int32).toInt = 0 from by decide)).mp c47 | skip
        refine ⟨fun c50 => ?_, fun c50 => ?_⟩
        · have f51 := K1.g_3_7 hσ
          first | have f52 := (eqE (rfl : (σ.1 3 7).toInt = (σ.1 3 7).toInt) (show (0 : Int32).toInt = 0 from by decide)).mp c50 | skip
          exact hQ _ _ hσ (⟨rfl, rfl, rfl, rfl, rfl⟩) trivial
        · have f53 := K1.g_3_7 hσ
          first | have f54 := (noteqE (rfl : (σ.1 3 7).toInt = (σ.1 3 7).toInt) (show (0 : Int32).toInt = 0 from by decide)).mp c50 | skip
          refine sX2_run hN hσ (fun r63 σ56 hσ56 kk62 p64 => ?_)
          obtain ⟨k57, k58, k59, k60, k61⟩ := kk62
          exact hQ _ _ hσ56 (⟨k57, k58, k59, k60, k61⟩) trivial
set_option maxHeartbeats 4000000 in
theorem sX11_stop {N : Nat} (hN : 4294967400 ≤ N) {Q : Int32 → St → Prop} {σ0 σ : St} (hσ : K1 σ0 σ) (hQ : ∀ (r : Int32) (τ : St), K1 σ0 τ → (τ.1 3 11 = σ.1 3 11 ∧ τ.1 3 6 = σ.1 3 6 ∧ τ.1 9 9 = σ.1 9 9 ∧ τ.1 9 10 = σ.1 9 10 ∧ τ.1 6 5 = σ.1 6 5 ∧ τ.1 7 4 = σ.1 7 4 ∧ τ.1 2 4 = σ.1 2 4 ∧ τ.1 2 5 = σ.1 2 5 ∧ τ.1 2 6 = σ.1 2 6 ∧ τ.1 3 8 = σ.1 3 8) → True → Q r τ) : fX11_stop N  Q σ := by
  unfold fX11_stop
  intro v1 ev1
  intro σ2 eσ2
  have hσ2 : K1 σ0 σ2 := by rw [eσ2]; exact hσ.u (Rg1.r_3_7 (leP (show (0 : Int32).toInt = 0 from by decide) (by omega)) (geP (show (0 : Int32).toInt = 0 from by decide) (by omega))) (fun q => absurd q.1 (by decide)) (fun q => absurd q.1 (by decide))
  exact hQ _ _ hσ2 (⟨(kq (a := 3) (b := 11) eσ2 (fun q => absurd q.2 (by decide))), (kq (a := 3) (b := 6) eσ2 (fun q => absurd q.2 (by decide))), (kq (a := 9) (b := 9) eσ2 (fun q => absurd q.1 (by decide))), (kq (a := 9) (b := 10) eσ2 (fun q => absurd q.1 (by decide))), (kq (a := 6) (b := 5) eσ2 (fun q => absurd q.1 (by decide))), (kq (a := 7) (b := 4) eσ2 (fun q => absurd q.1 (by decide))), (kq (a := 2) (b := 4) eσ2 (fun q => absurd q.1 (by decide))), (kq (a := 2) (b := 5) eσ2 (fun q => absurd q.1 (by decide))), (kq (a := 2) (b := 6) eσ2 (fun q => absurd q.1 (by decide))), (kq (a := 3) (b := 8) eσ2 (fun q => absurd q.2 (by decide)))⟩) trivial
set_option maxHeartbeats 4000000 in
theorem sX11_jobs {N : Nat} (hN : 4294967400 ≤ N) {Q : Int32 → St → Prop} {σ0 σ : St} (hσ : K1 σ0 σ) (hQ : ∀ r : Int32, True → Q r σ) : fX11_jobs N  Q σ := by
  unfold fX11_jobs
  exact hQ _ trivial
set_option maxHeartbeats 4000000 in
theorem sX1_tellNode {N : Nat} (hN : 4294967400 ≤ N) {k0 : Nat} (hk0 : jobK k0) {Q : Int32 → St → Prop} {σ0 σ : St} (hσ : K1 σ0 σ) (hQ : ∀ r : Int32, True → Q r σ) : fX1_tellNode N k0 Q σ := by
  unfold fX1_tellNode
  have kbhk0 := jobK_b hk0
  refine ⟨fun c1 => ?_, fun c1 => ?_⟩
  · have f2 := tB (σ.1 k0 1)
    first | have f3 := (eqE (rfl : (σ.1 k0 1).toInt = (σ.1 k0 1).toInt) (show (3 : Int32).toInt = 3 from by decide)).mp c1 | skip
    refine ⟨fun c4 => ?_, fun c4 => ?_⟩
    · have f5 := tB (σ.1 k0 5)
      first | have f6 := (eqE (rfl : (σ.1 k0 5).toInt = (σ.1 k0 5).toInt) (show (0 : Int32).toInt = 0 from by decide)).mp c4 | skip
      exact hQ _ trivial
    · have f7 := tB (σ.1 k0 5)
      first | have f8 := (noteqE (rfl : (σ.1 k0 5).toInt = (σ.1 k0 5).toInt) (show (0 : Int32).toInt = 0 from by decide)).mp c4 | skip
      exact hQ _ trivial
  · have f9 := tB (σ.1 k0 1)
    first | have f10 := (noteqE (rfl : (σ.1 k0 1).toInt = (σ.1 k0 1).toInt) (show (3 : Int32).toInt = 3 from by decide)).mp c1 | skip
    exact hQ _ trivial
set_option maxHeartbeats 4000000 in
theorem sX1_tell {N : Nat} (hN : 4294967400 ≤ N) {k0 : Nat} {x1 : Int32} (hk0 : jobK k0) {Q : Int32 → St → Prop} {σ0 σ : St} (hσ : K1 σ0 σ) (hQ : ∀ r : Int32, True → Q r σ) : fX1_tell N k0 x1 Q σ := by
  unfold fX1_tell
  have kbhk0 := jobK_b hk0
  refine ⟨fun c1 => ?_, fun c1 => ?_⟩
  · have f2 := tB x1
    first | have f3 := (eqE (rfl : x1.toInt = x1.toInt) (show (0 : Int32).toInt = 0 from by decide)).mp c1 | skip
    exact hQ _ trivial
  · have f4 := tB x1
    first | have f5 := (noteqE (rfl : x1.toInt = x1.toInt) (show (0 : Int32).toInt = 0 from by decide)).mp c1 | skip
    refine ⟨fun c6 => ?_, fun c6 => ?_⟩
    · first | have f8 := (eqE (rfl : x1.toInt = x1.toInt) (show (1 : Int32).toInt = 1 from by decide)).mp c6 | skip
      exact hQ _ trivial
    · first | have f10 := (noteqE (rfl : x1.toInt = x1.toInt) (show (1 : Int32).toInt = 1 from by decide)).mp c6 | skip
      refine ⟨fun c11 => ?_, fun c11 => ?_⟩
      · first | have f13 := (eqE (rfl : x1.toInt = x1.toInt) (show (2 : Int32).toInt = 2 from by decide)).mp c11 | skip
        exact hQ _ trivial
      · first | have f15 := (noteqE (rfl : x1.toInt = x1.toInt) (show (2 : Int32).toInt = 2 from by decide)).mp c11 | skip
        refine ⟨fun c16 => ?_, fun c16 => ?_⟩
        · first | have f18 := (eqE (rfl : x1.toInt = x1.toInt) (show (3 : Int32).toInt = 3 from by decide)).mp c16 | skip
          exact hQ _ trivial
        · first | have f20 := (noteqE (rfl : x1.toInt = x1.toInt) (show (3 : Int32).toInt = 3 from by decide)).mp c16 | skip
          refine ⟨fun c21 => ?_, fun c21 => ?_⟩
          · first | have f23 := (eqE (rfl : x1.toInt = x1.toInt) (show (4 : Int32).toInt = 4 from by decide)).mp c21 | skip
            refine sX1_tellNode hN hk0 hσ (fun r37 p38 => ?_)
            exact hQ _ trivial
          · first | have f40 := (noteqE (rfl : x1.toInt = x1.toInt) (show (4 : Int32).toInt = 4 from by decide)).mp c21 | skip
            refine ⟨fun c41 => ?_, fun c41 => ?_⟩
            · first | have f43 := (ltE (rfl : x1.toInt = x1.toInt) (show (10 : Int32).toInt = 10 from by decide)).mp c41 | skip
              exact hQ _ trivial
            · first | have f45 := (notltE (rfl : x1.toInt = x1.toInt) (show (10 : Int32).toInt = 10 from by decide)).mp c41 | skip
              unfold fX1_hasLocal
              refine ⟨fun c46 => ?_, fun c46 => ?_⟩
              · first | have f48 := (ltE (sOkE (rfl : x1.toInt = x1.toInt) (show (10 : Int32).toInt = 10 from by decide) (by omega) (by omega)) (show (0 : Int32).toInt = 0 from by decide)).mp c46 | skip
                try dsimp only
                refine ⟨fun c49 => ?_, fun c49 => ?_⟩
                · first | have f50 := (eqE (show (0 : Int32).toInt = 0 from by decide) (show (0 : Int32).toInt = 0 from by decide)).mp c49 | skip
                  exact hQ _ trivial
                · first | have f51 := (noteqE (show (0 : Int32).toInt = 0 from by decide) (show (0 : Int32).toInt = 0 from by decide)).mp c49 | skip
                  have g53 : vp_in (x1 - 10) 8 := inE (sOkE (rfl : x1.toInt = x1.toInt) (show (10 : Int32).toInt = 10 from by decide) (by omega) (by omega)) (by omega) (by omega)
                  refine ⟨g53, ?_⟩
                  exact hQ _ trivial
              · first | have f55 := (notltE (sOkE (rfl : x1.toInt = x1.toInt) (show (10 : Int32).toInt = 10 from by decide) (by omega) (by omega)) (show (0 : Int32).toInt = 0 from by decide)).mp c46 | skip
                refine ⟨fun c56 => ?_, fun c56 => ?_⟩
                · have f57 := tB (σ.1 k0 4)
                  first | have f59 := (leE (rfl : (σ.1 k0 4).toInt = (σ.1 k0 4).toInt) (sOkE (rfl : x1.toInt = x1.toInt) (show (10 : Int32).toInt = 10 from by decide) (by omega) (by omega))).mp c56 | skip
                  try dsimp only
                  refine ⟨fun c60 => ?_, fun c60 => ?_⟩
                  · first | have f61 := (eqE (show (0 : Int32).toInt = 0 from by decide) (show (0 : Int32).toInt = 0 from by decide)).mp c60 | skip
                    exact hQ _ trivial
                  · first | have f62 := (noteqE (show (0 : Int32).toInt = 0 from by decide) (show (0 : Int32).toInt = 0 from by decide)).mp c60 | skip
                    have g64 : vp_in (x1 - 10) 8 := inE (sOkE (rfl : x1.toInt = x1.toInt) (show (10 : Int32).toInt = 10 from by decide) (by omega) (by omega)) (by omega) (by omega)
                    refine ⟨g64, ?_⟩
                    exact hQ _ trivial
                · have f65 := tB (σ.1 k0 4)
                  first | have f67 := (notleE (rfl : (σ.1 k0 4).toInt = (σ.1 k0 4).toInt) (sOkE (rfl : x1.toInt = x1.toInt) (show (10 : Int32).toInt = 10 from by decide) (by omega) (by omega))).mp c56 | skip
                  refine ⟨fun c68 => ?_, fun c68 => ?_⟩
                  · first | have f70 := (leE (show (8 : Int32).toInt = 8 from by decide) (sOkE (rfl : x1.toInt = x1.toInt) (show (10 : Int32).toInt = 10 from by decide) (by omega) (by omega))).mp c68 | skip
                    try dsimp only
                    refine ⟨fun c71 => ?_, fun c71 => ?_⟩
                    · first | have f72 := (eqE (show (0 : Int32).toInt = 0 from by decide) (show (0 : Int32).toInt = 0 from by decide)).mp c71 | skip
                      exact hQ _ trivial
                    · first | have f73 := (noteqE (show (0 : Int32).toInt = 0 from by decide) (show (0 : Int32).toInt = 0 from by decide)).mp c71 | skip
                      have g75 : vp_in (x1 - 10) 8 := inE (sOkE (rfl : x1.toInt = x1.toInt) (show (10 : Int32).toInt = 10 from by decide) (by omega) (by omega)) (by omega) (by omega)
                      refine ⟨g75, ?_⟩
                      exact hQ _ trivial
                  · first | have f77 := (notleE (show (8 : Int32).toInt = 8 from by decide) (sOkE (rfl : x1.toInt = x1.toInt) (show (10 : Int32).toInt = 10 from by decide) (by omega) (by omega))).mp c68 | skip
                    try dsimp only
                    refine ⟨fun c78 => ?_, fun c78 => ?_⟩
                    · first | have f79 := (eqE (show (1 : Int32).toInt = 1 from by decide) (show (0 : Int32).toInt = 0 from by decide)).mp c78 | skip
                      exact hQ _ trivial
                    · first | have f80 := (noteqE (show (1 : Int32).toInt = 1 from by decide) (show (0 : Int32).toInt = 0 from by decide)).mp c78 | skip
                      have g82 : vp_in (x1 - 10) 8 := inE (sOkE (rfl : x1.toInt = x1.toInt) (show (10 : Int32).toInt = 10 from by decide) (by omega) (by omega)) (by omega) (by omega)
                      refine ⟨g82, ?_⟩
                      exact hQ _ trivial
set_option maxHeartbeats 4000000 in
theorem sX11_job {N : Nat} (hN : 4294967400 ≤ N) {x1 : Int32} {x2 : Int32} {Q : Int32 → St → Prop} {σ0 σ : St} (hσ : K1 σ0 σ) (hQ : ∀ r : Int32, True → Q r σ) : fX11_job N x1 x2 Q σ := by
  unfold fX11_job
  refine ⟨fun c1 => ?_, fun c1 => ?_⟩
  · have f2 := tB x1
    first | have f3 := (ltE (rfl : x1.toInt = x1.toInt) (show (0 : Int32).toInt = 0 from by decide)).mp c1 | skip
    exact hQ _ trivial
  · have f4 := tB x1
    first | have f5 := (notltE (rfl : x1.toInt = x1.toInt) (show (0 : Int32).toInt = 0 from by decide)).mp c1 | skip
    refine ⟨fun c6 => ?_, fun c6 => ?_⟩
    · have f8 := K1.g_3_7 hσ
      first | have f9 := (ltE (rfl : x1.toInt = x1.toInt) (rfl : (σ.1 3 7).toInt = (σ.1 3 7).toInt)).mp c6 | skip
      have g11 : vp_in x1 40 := inE (rfl : x1.toInt = x1.toInt) (by omega) (by omega)
      refine ⟨g11, ?_⟩
      have hk12 : jobK (43 + x1.toNatClampNeg) := (jobK_in g11)
      have hk12x := vp_lt g11
      have hk12b := jobK_b hk12
      have f13 := tB x2
      refine sX1_tell hN hk12 hσ (fun r27 p28 => ?_)
      exact hQ _ trivial
    · have f30 := K1.g_3_7 hσ
      first | have f31 := (notltE (rfl : x1.toInt = x1.toInt) (rfl : (σ.1 3 7).toInt = (σ.1 3 7).toInt)).mp c6 | skip
      exact hQ _ trivial
set_option maxHeartbeats 4000000 in
theorem sX11_at {N : Nat} (hN : 4294967400 ≤ N) {x1 : Int32} {Q : Int32 → St → Prop} {σ0 σ : St} (hσ : K1 σ0 σ) (hQ : ∀ r : Int32, True → Q r σ) : fX11_at N x1 Q σ := by
  unfold fX11_at
  refine ⟨fun c1 => ?_, fun c1 => ?_⟩
  · have f2 := tB x1
    first | have f3 := (ltE (rfl : x1.toInt = x1.toInt) (show (0 : Int32).toInt = 0 from by decide)).mp c1 | skip
    exact hQ _ trivial
  · have f4 := tB x1
    first | have f5 := (notltE (rfl : x1.toInt = x1.toInt) (show (0 : Int32).toInt = 0 from by decide)).mp c1 | skip
    refine ⟨fun c6 => ?_, fun c6 => ?_⟩
    · have f7 := K1.g_3_8 hσ
      first | have f9 := (leE (rfl : (σ.1 3 8).toInt = (σ.1 3 8).toInt) (rfl : x1.toInt = x1.toInt)).mp c6 | skip
      exact hQ _ trivial
    · have f10 := K1.g_3_8 hσ
      first | have f12 := (notleE (rfl : (σ.1 3 8).toInt = (σ.1 3 8).toInt) (rfl : x1.toInt = x1.toInt)).mp c6 | skip
      have g14 : vp_in x1 1000 := inE (rfl : x1.toInt = x1.toInt) (by omega) (by omega)
      refine ⟨g14, ?_⟩
      exact hQ _ trivial
set_option maxHeartbeats 4000000 in
theorem sX11_clear {N : Nat} (hN : 4294967400 ≤ N) {Q : Int32 → St → Prop} {σ0 σ : St} (hσ : K1 σ0 σ) (hQ : ∀ (r : Int32) (τ : St), K1 σ0 τ → (τ.1 3 7 = σ.1 3 7 ∧ τ.1 3 11 = σ.1 3 11 ∧ τ.1 3 6 = σ.1 3 6 ∧ τ.1 9 9 = σ.1 9 9 ∧ τ.1 9 10 = σ.1 9 10 ∧ τ.1 6 5 = σ.1 6 5 ∧ τ.1 7 4 = σ.1 7 4 ∧ τ.1 2 4 = σ.1 2 4 ∧ τ.1 2 5 = σ.1 2 5 ∧ τ.1 2 6 = σ.1 2 6) → True → Q r τ) : fX11_clear N  Q σ := by
  unfold fX11_clear
  intro v1 ev1
  intro σ2 eσ2
  have hσ2 : K1 σ0 σ2 := by rw [eσ2]; exact hσ.u (Rg1.r_3_8 (leP (show (0 : Int32).toInt = 0 from by decide) (by omega)) (geP (show (0 : Int32).toInt = 0 from by decide) (by omega))) (fun q => absurd q.1 (by decide)) (fun q => absurd q.1 (by decide))
  exact hQ _ _ hσ2 (⟨(kq (a := 3) (b := 7) eσ2 (fun q => absurd q.2 (by decide))), (kq (a := 3) (b := 11) eσ2 (fun q => absurd q.2 (by decide))), (kq (a := 3) (b := 6) eσ2 (fun q => absurd q.2 (by decide))), (kq (a := 9) (b := 9) eσ2 (fun q => absurd q.1 (by decide))), (kq (a := 9) (b := 10) eσ2 (fun q => absurd q.1 (by decide))), (kq (a := 6) (b := 5) eσ2 (fun q => absurd q.1 (by decide))), (kq (a := 7) (b := 4) eσ2 (fun q => absurd q.1 (by decide))), (kq (a := 2) (b := 4) eσ2 (fun q => absurd q.1 (by decide))), (kq (a := 2) (b := 5) eσ2 (fun q => absurd q.1 (by decide))), (kq (a := 2) (b := 6) eσ2 (fun q => absurd q.1 (by decide)))⟩) trivial
set_option maxHeartbeats 4000000 in
theorem sX9_tell {N : Nat} (hN : 4294967400 ≤ N) {x1 : Int32} {Q : Int32 → St → Prop} {σ0 σ : St} (hσ : K1 σ0 σ) (hQ : ∀ r : Int32, True → Q r σ) : fX9_tell N x1 Q σ := by
  unfold fX9_tell
  refine ⟨fun c1 => ?_, fun c1 => ?_⟩
  · have f2 := tB x1
    first | have f3 := (eqE (rfl : x1.toInt = x1.toInt) (show (0 : Int32).toInt = 0 from by decide)).mp c1 | skip
    exact hQ _ trivial
  · have f4 := tB x1
    first | have f5 := (noteqE (rfl : x1.toInt = x1.toInt) (show (0 : Int32).toInt = 0 from by decide)).mp c1 | skip
    refine ⟨fun c6 => ?_, fun c6 => ?_⟩
    · first | have f8 := (eqE (rfl : x1.toInt = x1.toInt) (show (1 : Int32).toInt = 1 from by decide)).mp c6 | skip
      exact hQ _ trivial
    · first | have f10 := (noteqE (rfl : x1.toInt = x1.toInt) (show (1 : Int32).toInt = 1 from by decide)).mp c6 | skip
      refine ⟨fun c11 => ?_, fun c11 => ?_⟩
      · first | have f13 := (eqE (rfl : x1.toInt = x1.toInt) (show (2 : Int32).toInt = 2 from by decide)).mp c11 | skip
        exact hQ _ trivial
      · first | have f15 := (noteqE (rfl : x1.toInt = x1.toInt) (show (2 : Int32).toInt = 2 from by decide)).mp c11 | skip
        refine ⟨fun c16 => ?_, fun c16 => ?_⟩
        · first | have f18 := (eqE (rfl : x1.toInt = x1.toInt) (show (3 : Int32).toInt = 3 from by decide)).mp c16 | skip
          exact hQ _ trivial
        · first | have f20 := (noteqE (rfl : x1.toInt = x1.toInt) (show (3 : Int32).toInt = 3 from by decide)).mp c16 | skip
          refine ⟨fun c21 => ?_, fun c21 => ?_⟩
          · first | have f23 := (eqE (rfl : x1.toInt = x1.toInt) (show (4 : Int32).toInt = 4 from by decide)).mp c21 | skip
            exact hQ _ trivial
          · first | have f25 := (noteqE (rfl : x1.toInt = x1.toInt) (show (4 : Int32).toInt = 4 from by decide)).mp c21 | skip
            refine ⟨fun c26 => ?_, fun c26 => ?_⟩
            · first | have f28 := (eqE (rfl : x1.toInt = x1.toInt) (show (5 : Int32).toInt = 5 from by decide)).mp c26 | skip
              exact hQ _ trivial
            · first | have f30 := (noteqE (rfl : x1.toInt = x1.toInt) (show (5 : Int32).toInt = 5 from by decide)).mp c26 | skip
              refine ⟨fun c31 => ?_, fun c31 => ?_⟩
              · first | have f33 := (eqE (rfl : x1.toInt = x1.toInt) (show (6 : Int32).toInt = 6 from by decide)).mp c31 | skip
                exact hQ _ trivial
              · first | have f35 := (noteqE (rfl : x1.toInt = x1.toInt) (show (6 : Int32).toInt = 6 from by decide)).mp c31 | skip
                refine ⟨fun c36 => ?_, fun c36 => ?_⟩
                · first | have f38 := (eqE (rfl : x1.toInt = x1.toInt) (show (7 : Int32).toInt = 7 from by decide)).mp c36 | skip
                  exact hQ _ trivial
                · first | have f40 := (noteqE (rfl : x1.toInt = x1.toInt) (show (7 : Int32).toInt = 7 from by decide)).mp c36 | skip
                  exact hQ _ trivial
set_option maxHeartbeats 4000000 in
theorem sX11_told {N : Nat} (hN : 4294967400 ≤ N) {x1 : Int32} {Q : Int32 → St → Prop} {σ0 σ : St} (hσ : K1 σ0 σ) (hQ : ∀ (r : Int32) (τ : St), K1 σ0 τ → (τ.1 3 7 = σ.1 3 7 ∧ τ.1 3 11 = σ.1 3 11 ∧ τ.1 3 6 = σ.1 3 6 ∧ τ.1 9 9 = σ.1 9 9 ∧ τ.1 9 10 = σ.1 9 10 ∧ τ.1 6 5 = σ.1 6 5 ∧ τ.1 7 4 = σ.1 7 4 ∧ τ.1 2 5 = σ.1 2 5 ∧ τ.1 2 6 = σ.1 2 6 ∧ τ.1 3 8 = σ.1 3 8) → True → Q r τ) : fX11_told N x1 Q σ := by
  unfold fX11_told
  refine ⟨fun c1 => ?_, fun c1 => ?_⟩
  · have f2 := tB x1
    first | have f3 := (eqE (rfl : x1.toInt = x1.toInt) (show (8 : Int32).toInt = 8 from by decide)).mp c1 | skip
    exact hQ _ _ hσ (⟨rfl, rfl, rfl, rfl, rfl, rfl, rfl, rfl, rfl, rfl⟩) trivial
  · have f4 := tB x1
    first | have f5 := (noteqE (rfl : x1.toInt = x1.toInt) (show (8 : Int32).toInt = 8 from by decide)).mp c1 | skip
    refine ⟨fun c6 => ?_, fun c6 => ?_⟩
    · first | have f8 := (eqE (rfl : x1.toInt = x1.toInt) (show (9 : Int32).toInt = 9 from by decide)).mp c6 | skip
      exact hQ _ _ hσ (⟨rfl, rfl, rfl, rfl, rfl, rfl, rfl, rfl, rfl, rfl⟩) trivial
    · first | have f10 := (noteqE (rfl : x1.toInt = x1.toInt) (show (9 : Int32).toInt = 9 from by decide)).mp c6 | skip
      refine ⟨fun c11 => ?_, fun c11 => ?_⟩
      · first | have f13 := (eqE (rfl : x1.toInt = x1.toInt) (show (10 : Int32).toInt = 10 from by decide)).mp c11 | skip
        exact hQ _ _ hσ (⟨rfl, rfl, rfl, rfl, rfl, rfl, rfl, rfl, rfl, rfl⟩) trivial
      · first | have f15 := (noteqE (rfl : x1.toInt = x1.toInt) (show (10 : Int32).toInt = 10 from by decide)).mp c11 | skip
        refine ⟨fun c16 => ?_, fun c16 => ?_⟩
        · first | have f18 := (eqE (rfl : x1.toInt = x1.toInt) (show (11 : Int32).toInt = 11 from by decide)).mp c16 | skip
          exact hQ _ _ hσ (⟨rfl, rfl, rfl, rfl, rfl, rfl, rfl, rfl, rfl, rfl⟩) trivial
        · first | have f20 := (noteqE (rfl : x1.toInt = x1.toInt) (show (11 : Int32).toInt = 11 from by decide)).mp c16 | skip
          refine ⟨fun c21 => ?_, fun c21 => ?_⟩
          · first | have f23 := (eqE (rfl : x1.toInt = x1.toInt) (show (12 : Int32).toInt = 12 from by decide)).mp c21 | skip
            exact hQ _ _ hσ (⟨rfl, rfl, rfl, rfl, rfl, rfl, rfl, rfl, rfl, rfl⟩) trivial
          · first | have f25 := (noteqE (rfl : x1.toInt = x1.toInt) (show (12 : Int32).toInt = 12 from by decide)).mp c21 | skip
            refine ⟨fun c26 => ?_, fun c26 => ?_⟩
            · first | have f28 := (eqE (rfl : x1.toInt = x1.toInt) (show (13 : Int32).toInt = 13 from by decide)).mp c26 | skip
              exact hQ _ _ hσ (⟨rfl, rfl, rfl, rfl, rfl, rfl, rfl, rfl, rfl, rfl⟩) trivial
            · first | have f30 := (noteqE (rfl : x1.toInt = x1.toInt) (show (13 : Int32).toInt = 13 from by decide)).mp c26 | skip
              refine ⟨fun c31 => ?_, fun c31 => ?_⟩
              · first | have f33 := (eqE (rfl : x1.toInt = x1.toInt) (show (14 : Int32).toInt = 14 from by decide)).mp c31 | skip
                exact hQ _ _ hσ (⟨rfl, rfl, rfl, rfl, rfl, rfl, rfl, rfl, rfl, rfl⟩) trivial
              · first | have f35 := (noteqE (rfl : x1.toInt = x1.toInt) (show (14 : Int32).toInt = 14 from by decide)).mp c31 | skip
                refine ⟨fun c36 => ?_, fun c36 => ?_⟩
                · first | have f38 := (eqE (rfl : x1.toInt = x1.toInt) (show (15 : Int32).toInt = 15 from by decide)).mp c36 | skip
                  refine sX8_cachedNodes hN hσ (fun r51 σ39 hσ39 kk50 p52 => ?_)
                  obtain ⟨k40, k41, k42, k43, k44, k45, k46, k47, k48, k49⟩ := kk50
                  exact hQ _ _ hσ39 (⟨k40, k41, k42, k43, k44, k45, k46, k47, k48, k49⟩) trivial
                · first | have f54 := (noteqE (rfl : x1.toInt = x1.toInt) (show (15 : Int32).toInt = 15 from by decide)).mp c36 | skip
                  refine ⟨fun c55 => ?_, fun c55 => ?_⟩
                  · first | have f57 := (eqE (rfl : x1.toInt = x1.toInt) (show (16 : Int32).toInt = 16 from by decide)).mp c55 | skip
                    exact hQ _ _ hσ (⟨rfl, rfl, rfl, rfl, rfl, rfl, rfl, rfl, rfl, rfl⟩) trivial
                  · first | have f59 := (noteqE (rfl : x1.toInt = x1.toInt) (show (16 : Int32).toInt = 16 from by decide)).mp c55 | skip
                    refine ⟨fun c60 => ?_, fun c60 => ?_⟩
                    · first | have f62 := (eqE (rfl : x1.toInt = x1.toInt) (show (17 : Int32).toInt = 17 from by decide)).mp c60 | skip
                      exact hQ _ _ hσ (⟨rfl, rfl, rfl, rfl, rfl, rfl, rfl, rfl, rfl, rfl⟩) trivial
                    · first | have f64 := (noteqE (rfl : x1.toInt = x1.toInt) (show (17 : Int32).toInt = 17 from by decide)).mp c60 | skip
                      refine sX9_tell hN hσ (fun r79 p80 => ?_)
                      exact hQ _ _ hσ (⟨rfl, rfl, rfl, rfl, rfl, rfl, rfl, rfl, rfl, rfl⟩) trivial
set_option maxHeartbeats 4000000 in
theorem sX11_sign {N : Nat} (hN : 4294967400 ≤ N) {x1 : Int32} {Q : Int32 → St → Prop} {σ0 σ : St} (hσ : K1 σ0 σ) (hQ : ∀ (r : Int32) (τ : St), K1 σ0 τ → (τ.1 3 7 = σ.1 3 7 ∧ τ.1 3 11 = σ.1 3 11 ∧ τ.1 3 6 = σ.1 3 6 ∧ τ.1 9 9 = σ.1 9 9 ∧ τ.1 9 10 = σ.1 9 10 ∧ τ.1 6 5 = σ.1 6 5 ∧ τ.1 7 4 = σ.1 7 4 ∧ τ.1 2 4 = σ.1 2 4 ∧ τ.1 2 5 = σ.1 2 5 ∧ τ.1 2 6 = σ.1 2 6 ∧ τ.1 3 8 = σ.1 3 8) → True → Q r τ) : fX11_sign N x1 Q σ := by
  unfold fX11_sign
  refine ⟨fun c1 => ?_, fun c1 => ?_⟩
  · have f2 := K1.g_0_7 hσ
    first | have f3 := (ltE (rfl : (σ.1 0 7).toInt = (σ.1 0 7).toInt) (show (120 : Int32).toInt = 120 from by decide)).mp c1 | skip
    refine ⟨inE (rfl : (σ.1 0 7).toInt = (σ.1 0 7).toInt) (by omega) (by omega), ?_⟩
    intro σ5 eσ5
    have hσ5 : K1 σ0 σ5 := by rw [eσ5]; exact hσ.u (Rg1.ra_11 _ _) (fun q => absurd q.1 (by decide)) (fun q => absurd q.1 (by decide))
    intro v6 ev6
    intro σ7 eσ7
    have f8 := tB v6
    have f9 := K1.g_0_7 hσ5
    have q10 : σ5.1 0 7 = σ.1 0 7 := by rw [eσ5]; exact congrFun (u1_ne (by decide)) 7
    have f11 := congrArg Int32.toInt q10
    first | have f13 : v6.toInt = ((σ5.1 0 7).toInt + (1)) := (congrArg Int32.toInt ev6).trans (aOkE (rfl : (σ5.1 0 7).toInt = (σ5.1 0 7).toInt) (show (1 : Int32).toInt = 1 from by decide) (by omega) (by omega)) | skip
    have hσ7 : K1 σ0 σ7 := by rw [eσ7]; exact hσ5.u (Rg1.r_0_7 (leP (rfl : v6.toInt = v6.toInt) (by omega)) (geP (rfl : v6.toInt = v6.toInt) (by omega))) (fun q => absurd q.1 (by decide)) (fun q => absurd q.2 (by decide))
    exact hQ _ _ hσ7 (⟨(kq (a := 3) (b := 7) eσ7 (fun q => absurd q.1 (by decide))).trans ((kq (a := 3) (b := 7) eσ5 (fun q => absurd q.1 (by decide)))), (kq (a := 3) (b := 11) eσ7 (fun q => absurd q.1 (by decide))).trans ((kq (a := 3) (b := 11) eσ5 (fun q => absurd q.1 (by decide)))), (kq (a := 3) (b := 6) eσ7 (fun q => absurd q.1 (by decide))).trans ((kq (a := 3) (b := 6) eσ5 (fun q => absurd q.1 (by decide)))), (kq (a := 9) (b := 9) eσ7 (fun q => absurd q.1 (by decide))).trans ((kq (a := 9) (b := 9) eσ5 (fun q => absurd q.1 (by decide)))), (kq (a := 9) (b := 10) eσ7 (fun q => absurd q.1 (by decide))).trans ((kq (a := 9) (b := 10) eσ5 (fun q => absurd q.1 (by decide)))), (kq (a := 6) (b := 5) eσ7 (fun q => absurd q.1 (by decide))).trans ((kq (a := 6) (b := 5) eσ5 (fun q => absurd q.1 (by decide)))), (kq (a := 7) (b := 4) eσ7 (fun q => absurd q.1 (by decide))).trans ((kq (a := 7) (b := 4) eσ5 (fun q => absurd q.1 (by decide)))), (kq (a := 2) (b := 4) eσ7 (fun q => absurd q.1 (by decide))).trans ((kq (a := 2) (b := 4) eσ5 (fun q => absurd q.1 (by decide)))), (kq (a := 2) (b := 5) eσ7 (fun q => absurd q.1 (by decide))).trans ((kq (a := 2) (b := 5) eσ5 (fun q => absurd q.1 (by decide)))), (kq (a := 2) (b := 6) eσ7 (fun q => absurd q.1 (by decide))).trans ((kq (a := 2) (b := 6) eσ5 (fun q => absurd q.1 (by decide)))), (kq (a := 3) (b := 8) eσ7 (fun q => absurd q.1 (by decide))).trans ((kq (a := 3) (b := 8) eσ5 (fun q => absurd q.1 (by decide))))⟩) trivial
  · have f14 := K1.g_0_7 hσ
    first | have f15 := (notltE (rfl : (σ.1 0 7).toInt = (σ.1 0 7).toInt) (show (120 : Int32).toInt = 120 from by decide)).mp c1 | skip
    exact hQ _ _ hσ (⟨rfl, rfl, rfl, rfl, rfl, rfl, rfl, rfl, rfl, rfl, rfl⟩) trivial
set_option maxHeartbeats 4000000 in
theorem sX7_areSigns {N : Nat} (hN : 4294967400 ≤ N) {k0 : Nat} {x1 : Int32} {x2 : Int32} (hk0 : r120 k0) {Q : Int32 → St → Prop} {σ0 σ : St} (hσ : K1 σ0 σ) (hQ : ∀ r : Int32, True → Q r σ) : fX7_areSigns N k0 x1 x2 Q σ := by
  unfold fX7_areSigns
  have kbhk0 := r120_b hk0
  have f2 := tB x1
  have f3 := tB x2
  refine lo1_i (fun (y1 : Int32) (τ : St) => σ = τ ∧ 0 ≤ y1.toInt) (fun (y1 : Int32) (τ : St) => (2147483648 - y1.toInt).toNat) ?_ N (0 : Int32) σ ⟨rfl, by first | decide | (have z0 : (0 : Int32).toInt = 0 := (by decide); omega)⟩ (by have z0 : (0 : Int32).toInt = 0 := (by decide); (try dsimp only); omega)
  intro rr4 y7 σ6 hIσ6 ih5
  obtain ⟨hσ6, i8⟩ := hIσ6
  subst hσ6
  unfold fX7_areSigns_l2
  have f9 := tB y7
  refine ⟨fun c10 => ?_, fun c10 => ?_⟩
  · first | have f13 := (leE (rfl : x1.toInt = x1.toInt) (rfl : y7.toInt = y7.toInt)).mp c10 | skip
    exact hQ _ trivial
  · first | have f16 := (notleE (rfl : x1.toInt = x1.toInt) (rfl : y7.toInt = y7.toInt)).mp c10 | skip
    refine ⟨fun c17 => ?_, fun c17 => ?_⟩
    · first | have f19 := (leE (show (120 : Int32).toInt = 120 from by decide) (rfl : y7.toInt = y7.toInt)).mp c17 | skip
      exact hQ _ trivial
    · first | have f21 := (notleE (show (120 : Int32).toInt = 120 from by decide) (rfl : y7.toInt = y7.toInt)).mp c17 | skip
      have g23 : vp_in y7 120 := inE (rfl : y7.toInt = y7.toInt) (by omega) (by omega)
      refine ⟨g23, ?_⟩
      refine ⟨fun c24 => ?_, fun c24 => ?_⟩
      · have f25 := tB (σ.1 k0 y7.toNatClampNeg)
        first | have f26 := (eqE (rfl : (σ.1 k0 y7.toNatClampNeg).toInt = (σ.1 k0 y7.toNatClampNeg).toInt) (show (0 : Int32).toInt = 0 from by decide)).mp c24 | skip
        exact hQ _ trivial
      · have f27 := tB (σ.1 k0 y7.toNatClampNeg)
        first | have f28 := (noteqE (rfl : (σ.1 k0 y7.toNatClampNeg).toInt = (σ.1 k0 y7.toNatClampNeg).toInt) (show (0 : Int32).toInt = 0 from by decide)).mp c24 | skip
        refine ⟨fun c29 => ?_, fun c29 => ?_⟩
        · first | have f31 := (eqE (rfl : x2.toInt = x2.toInt) (show (0 : Int32).toInt = 0 from by decide)).mp c29 | skip
          unfold fX7_areSigns_j40
          intro v32 ev32
          have f33 := tB v32
          first | have f35 : v32.toInt = (y7.toInt + (1)) := (congrArg Int32.toInt ev32).trans (aOkE (rfl : y7.toInt = y7.toInt) (show (1 : Int32).toInt = 1 from by decide) (by omega) (by omega)) | skip
          exact ih5 v32 σ ⟨rfl, by omega⟩ (by (try dsimp only); omega)
        · first | have f37 := (noteqE (rfl : x2.toInt = x2.toInt) (show (0 : Int32).toInt = 0 from by decide)).mp c29 | skip
          have g39 : vp_in y7 120 := inE (rfl : y7.toInt = y7.toInt) (by omega) (by omega)
          refine ⟨g39, ?_⟩
          refine ⟨fun c40 => ?_, fun c40 => ?_⟩
          · first | have f42 := (ltE (rfl : (σ.1 k0 y7.toNatClampNeg).toInt = (σ.1 k0 y7.toNatClampNeg).toInt) (show (0 : Int32).toInt = 0 from by decide)).mp c40 | skip
            exact hQ _ trivial
          · first | have f44 := (notltE (rfl : (σ.1 k0 y7.toNatClampNeg).toInt = (σ.1 k0 y7.toNatClampNeg).toInt) (show (0 : Int32).toInt = 0 from by decide)).mp c40 | skip
            have g46 : vp_in y7 120 := inE (rfl : y7.toInt = y7.toInt) (by omega) (by omega)
            refine ⟨g46, ?_⟩
            refine ⟨fun c47 => ?_, fun c47 => ?_⟩
            · first | have f49 := (leE (rfl : (σ.1 k0 y7.toNatClampNeg).toInt = (σ.1 k0 y7.toNatClampNeg).toInt) (show (255 : Int32).toInt = 255 from by decide)).mp c47 | skip
              unfold fX7_areSigns_j40
              intro v50 ev50
              have f51 := tB v50
              first | have f53 : v50.toInt = (y7.toInt + (1)) := (congrArg Int32.toInt ev50).trans (aOkE (rfl : y7.toInt = y7.toInt) (show (1 : Int32).toInt = 1 from by decide) (by omega) (by omega)) | skip
              exact ih5 v50 σ ⟨rfl, by omega⟩ (by (try dsimp only); omega)
            · first | have f55 := (notleE (rfl : (σ.1 k0 y7.toNatClampNeg).toInt = (σ.1 k0 y7.toNatClampNeg).toInt) (show (255 : Int32).toInt = 255 from by decide)).mp c47 | skip
              exact hQ _ trivial
set_option maxHeartbeats 4000000 in
theorem sX7_isPiece {N : Nat} (hN : 4294967400 ≤ N) {x0 : Int32} {k1 : Nat} {x2 : Int32} (hk1 : r120 k1) {Q : Int32 → St → Prop} {σ0 σ : St} (hσ : K1 σ0 σ) (hQ : ∀ r : Int32, (r.toInt = 0 ∨ (1 ≤ x2.toInt ∧ x2.toInt ≤ 20)) → Q r σ) : fX7_isPiece N x0 k1 x2 Q σ := by
  unfold fX7_isPiece
  have kbhk1 := r120_b hk1
  refine ⟨fun c1 => ?_, fun c1 => ?_⟩
  · have f2 := tB x0
    first | have f3 := (eqE (rfl : x0.toInt = x0.toInt) (show (2 : Int32).toInt = 2 from by decide)).mp c1 | skip
    refine ⟨fun c4 => ?_, fun c4 => ?_⟩
    · have f5 := tB x2
      first | have f6 := (eqE (rfl : x2.toInt = x2.toInt) (show (1 : Int32).toInt = 1 from by decide)).mp c4 | skip
      refine sX7_areSigns hN hk1 hσ (fun r21 p22 => ?_)
      refine ⟨fun c23 => ?_, fun c23 => ?_⟩
      · have f24 := tB r21
        first | have f25 := (eqE (rfl : r21.toInt = r21.toInt) (show (0 : Int32).toInt = 0 from by decide)).mp c23 | skip
        have hrv := (show (0 : Int32).toInt = 0 from by decide)
        exact hQ _ (by omega)
      · have f26 := tB r21
        first | have f27 := (noteqE (rfl : r21.toInt = r21.toInt) (show (0 : Int32).toInt = 0 from by decide)).mp c23 | skip
        have hrv := (show (1 : Int32).toInt = 1 from by decide)
        exact hQ _ (by omega)
    · have f28 := tB x2
      first | have f29 := (noteqE (rfl : x2.toInt = x2.toInt) (show (1 : Int32).toInt = 1 from by decide)).mp c4 | skip
      have hrv := (show (0 : Int32).toInt = 0 from by decide)
      exact hQ _ (by omega)
  · have f30 := tB x0
    first | have f31 := (noteqE (rfl : x0.toInt = x0.toInt) (show (2 : Int32).toInt = 2 from by decide)).mp c1 | skip
    refine ⟨fun c32 => ?_, fun c32 => ?_⟩
    · first | have f34 := (eqE (rfl : x0.toInt = x0.toInt) (show (3 : Int32).toInt = 3 from by decide)).mp c32 | skip
      refine ⟨fun c35 => ?_, fun c35 => ?_⟩
      · have f36 := tB x2
        first | have f37 := (ltE (rfl : x2.toInt = x2.toInt) (show (2 : Int32).toInt = 2 from by decide)).mp c35 | skip
        have hrv := (show (0 : Int32).toInt = 0 from by decide)
        exact hQ _ (by omega)
      · have f38 := tB x2
        first | have f39 := (notltE (rfl : x2.toInt = x2.toInt) (show (2 : Int32).toInt = 2 from by decide)).mp c35 | skip
        refine ⟨fun c40 => ?_, fun c40 => ?_⟩
        · first | have f42 := (ltE (show (20 : Int32).toInt = 20 from by decide) (rfl : x2.toInt = x2.toInt)).mp c40 | skip
          have hrv := (show (0 : Int32).toInt = 0 from by decide)
          exact hQ _ (by omega)
        · first | have f44 := (notltE (show (20 : Int32).toInt = 20 from by decide) (rfl : x2.toInt = x2.toInt)).mp c40 | skip
          refine sX7_areSigns hN hk1 hσ (fun r59 p60 => ?_)
          refine ⟨fun c61 => ?_, fun c61 => ?_⟩
          · have f62 := tB r59
            first | have f63 := (eqE (rfl : r59.toInt = r59.toInt) (show (0 : Int32).toInt = 0 from by decide)).mp c61 | skip
            have hrv := (show (0 : Int32).toInt = 0 from by decide)
            exact hQ _ (by omega)
          · have f64 := tB r59
            first | have f65 := (noteqE (rfl : r59.toInt = r59.toInt) (show (0 : Int32).toInt = 0 from by decide)).mp c61 | skip
            have hrv := (show (1 : Int32).toInt = 1 from by decide)
            exact hQ _ (by omega)
    · first | have f67 := (noteqE (rfl : x0.toInt = x0.toInt) (show (3 : Int32).toInt = 3 from by decide)).mp c32 | skip
      refine ⟨fun c68 => ?_, fun c68 => ?_⟩
      · first | have f70 := (eqE (rfl : x0.toInt = x0.toInt) (show (4 : Int32).toInt = 4 from by decide)).mp c68 | skip
        refine ⟨fun c71 => ?_, fun c71 => ?_⟩
        · have f72 := tB x2
          first | have f73 := (eqE (rfl : x2.toInt = x2.toInt) (show (1 : Int32).toInt = 1 from by decide)).mp c71 | skip
          refine sX7_areSigns hN hk1 hσ (fun r88 p89 => ?_)
          refine ⟨fun c90 => ?_, fun c90 => ?_⟩
          · have f91 := tB r88
            first | have f92 := (eqE (rfl : r88.toInt = r88.toInt) (show (0 : Int32).toInt = 0 from by decide)).mp c90 | skip
            have hrv := (show (0 : Int32).toInt = 0 from by decide)
            exact hQ _ (by omega)
          · have f93 := tB r88
            first | have f94 := (noteqE (rfl : r88.toInt = r88.toInt) (show (0 : Int32).toInt = 0 from by decide)).mp c90 | skip
            have hrv := (show (1 : Int32).toInt = 1 from by decide)
            exact hQ _ (by omega)
        · have f95 := tB x2
          first | have f96 := (noteqE (rfl : x2.toInt = x2.toInt) (show (1 : Int32).toInt = 1 from by decide)).mp c71 | skip
          have hrv := (show (0 : Int32).toInt = 0 from by decide)
          exact hQ _ (by omega)
      · first | have f98 := (noteqE (rfl : x0.toInt = x0.toInt) (show (4 : Int32).toInt = 4 from by decide)).mp c68 | skip
        refine ⟨fun c99 => ?_, fun c99 => ?_⟩
        · first | have f101 := (eqE (rfl : x0.toInt = x0.toInt) (show (5 : Int32).toInt = 5 from by decide)).mp c99 | skip
          refine ⟨fun c102 => ?_, fun c102 => ?_⟩
          · have f103 := tB x2
            first | have f104 := (ltE (rfl : x2.toInt = x2.toInt) (show (2 : Int32).toInt = 2 from by decide)).mp c102 | skip
            have hrv := (show (0 : Int32).toInt = 0 from by decide)
            exact hQ _ (by omega)
          · have f105 := tB x2
            first | have f106 := (notltE (rfl : x2.toInt = x2.toInt) (show (2 : Int32).toInt = 2 from by decide)).mp c102 | skip
            refine ⟨fun c107 => ?_, fun c107 => ?_⟩
            · first | have f109 := (ltE (show (20 : Int32).toInt = 20 from by decide) (rfl : x2.toInt = x2.toInt)).mp c107 | skip
              have hrv := (show (0 : Int32).toInt = 0 from by decide)
              exact hQ _ (by omega)
            · first | have f111 := (notltE (show (20 : Int32).toInt = 20 from by decide) (rfl : x2.toInt = x2.toInt)).mp c107 | skip
              refine sX7_areSigns hN hk1 hσ (fun r126 p127 => ?_)
              refine ⟨fun c128 => ?_, fun c128 => ?_⟩
              · have f129 := tB r126
                first | have f130 := (eqE (rfl : r126.toInt = r126.toInt) (show (0 : Int32).toInt = 0 from by decide)).mp c128 | skip
                have hrv := (show (0 : Int32).toInt = 0 from by decide)
                exact hQ _ (by omega)
              · have f131 := tB r126
                first | have f132 := (noteqE (rfl : r126.toInt = r126.toInt) (show (0 : Int32).toInt = 0 from by decide)).mp c128 | skip
                have hrv := (show (1 : Int32).toInt = 1 from by decide)
                exact hQ _ (by omega)
        · first | have f134 := (noteqE (rfl : x0.toInt = x0.toInt) (show (5 : Int32).toInt = 5 from by decide)).mp c99 | skip
          refine ⟨fun c135 => ?_, fun c135 => ?_⟩
          · first | have f137 := (eqE (rfl : x0.toInt = x0.toInt) (show (8 : Int32).toInt = 8 from by decide)).mp c135 | skip
            unfold fX7_isPiece_j140
            refine ⟨fun c138 => ?_, fun c138 => ?_⟩
            · have f139 := tB x2
              first | have f140 := (eqE (rfl : x2.toInt = x2.toInt) (show (1 : Int32).toInt = 1 from by decide)).mp c138 | skip
              have hrv := (show (1 : Int32).toInt = 1 from by decide)
              exact hQ _ (by omega)
            · have f141 := tB x2
              first | have f142 := (noteqE (rfl : x2.toInt = x2.toInt) (show (1 : Int32).toInt = 1 from by decide)).mp c138 | skip
              have hrv := (show (0 : Int32).toInt = 0 from by decide)
              exact hQ _ (by omega)
          · first | have f144 := (noteqE (rfl : x0.toInt = x0.toInt) (show (8 : Int32).toInt = 8 from by decide)).mp c135 | skip
            refine ⟨fun c145 => ?_, fun c145 => ?_⟩
            · first | have f147 := (eqE (rfl : x0.toInt = x0.toInt) (show (9 : Int32).toInt = 9 from by decide)).mp c145 | skip
              unfold fX7_isPiece_j140
              refine ⟨fun c148 => ?_, fun c148 => ?_⟩
              · have f149 := tB x2
                first | have f150 := (eqE (rfl : x2.toInt = x2.toInt) (show (1 : Int32).toInt = 1 from by decide)).mp c148 | skip
                have hrv := (show (1 : Int32).toInt = 1 from by decide)
                exact hQ _ (by omega)
              · have f151 := tB x2
                first | have f152 := (noteqE (rfl : x2.toInt = x2.toInt) (show (1 : Int32).toInt = 1 from by decide)).mp c148 | skip
                have hrv := (show (0 : Int32).toInt = 0 from by decide)
                exact hQ _ (by omega)
            · first | have f154 := (noteqE (rfl : x0.toInt = x0.toInt) (show (9 : Int32).toInt = 9 from by decide)).mp c145 | skip
              have hrv := (show (0 : Int32).toInt = 0 from by decide)
              exact hQ _ (by omega)
set_option maxHeartbeats 4000000 in
theorem sX7_add {N : Nat} (hN : 4294967400 ≤ N) {x1 : Int32} {k2 : Nat} {x3 : Int32} (hk2 : r120 k2) {Q : Int32 → St → Prop} {σ0 σ : St} (hp3 : 0 ≤ x3.toInt ∧ x3.toInt ≤ 20) (hσ : K1 σ0 σ) (hQ : ∀ (r : Int32) (τ : St), K1 σ0 τ → (τ.1 3 7 = σ.1 3 7 ∧ τ.1 3 11 = σ.1 3 11 ∧ τ.1 3 6 = σ.1 3 6 ∧ τ.1 9 9 = σ.1 9 9 ∧ τ.1 9 10 = σ.1 9 10 ∧ τ.1 7 4 = σ.1 7 4 ∧ τ.1 2 4 = σ.1 2 4 ∧ τ.1 2 5 = σ.1 2 5 ∧ τ.1 2 6 = σ.1 2 6 ∧ τ.1 3 8 = σ.1 3 8) → True → Q r τ) : fX7_add N x1 k2 x3 Q σ := by
  unfold fX7_add
  have kbhk2 := r120_b hk2
  refine ⟨fun c1 => ?_, fun c1 => ?_⟩
  · have f2 := K1.g_6_5 hσ
    first | have f3 := (ltE (rfl : (σ.1 6 5).toInt = (σ.1 6 5).toInt) (show (60 : Int32).toInt = 60 from by decide)).mp c1 | skip
    intro v4 ev4
    have f5 := tB v4
    first | have f7 : v4.toInt = (σ.1 6 5).toInt := (congrArg Int32.toInt ev4).trans (rfl : (σ.1 6 5).toInt = (σ.1 6 5).toInt) | skip
    refine ⟨inE (rfl : v4.toInt = v4.toInt) (by omega) (by omega), ?_⟩
    intro σ8 eσ8
    have hσ8 : K1 σ0 σ8 := by rw [eσ8]; exact hσ.u (Rg1.ra_18 _ _) (fun q => absurd q.1 (by decide)) (fun q => absurd q.1 (by decide))
    refine ⟨inE (rfl : v4.toInt = v4.toInt) (by omega) (by omega), ?_⟩
    intro σ10 eσ10
    have f11 := tB x3
    have hσ10 : K1 σ0 σ10 := by rw [eσ10]; exact hσ8.u (Rg1.ra_21 (leP (rfl : x3.toInt = x3.toInt) (by omega)) (geP (rfl : x3.toInt = x3.toInt) (by omega))) (fun q => absurd q.1 (by decide)) (fun q => absurd q.1 (by decide))
    refine ⟨inE (rfl : v4.toInt = v4.toInt) (by omega) (by omega), ?_⟩
    intro σ13 eσ13
    have hσ13 : K1 σ0 σ13 := by rw [eσ13]; exact hσ10.u (Rg1.ra_22 _ _) (fun q => absurd q.1 (by decide)) (fun q => absurd q.1 (by decide))
    have f15 := tB x1
    refine lo1_i (fun (y14 : Int32) (τ : St) => K1 σ0 τ ∧ τ.1 3 7 = σ13.1 3 7 ∧ τ.1 3 11 = σ13.1 3 11 ∧ τ.1 3 6 = σ13.1 3 6 ∧ τ.1 9 9 = σ13.1 9 9 ∧ τ.1 9 10 = σ13.1 9 10 ∧ τ.1 6 5 = σ13.1 6 5 ∧ τ.1 7 4 = σ13.1 7 4 ∧ τ.1 2 4 = σ13.1 2 4 ∧ τ.1 2 5 = σ13.1 2 5 ∧ τ.1 2 6 = σ13.1 2 6 ∧ τ.1 3 8 = σ13.1 3 8 ∧ 0 ≤ y14.toInt) (fun (y14 : Int32) (τ : St) => (2147483648 - y14.toInt).toNat) ?_ N (0 : Int32) σ13 ⟨hσ13, rfl, rfl, rfl, rfl, rfl, rfl, rfl, rfl, rfl, rfl, rfl, by first | decide | (have z0 : (0 : Int32).toInt = 0 := (by decide); omega)⟩ (by have z0 : (0 : Int32).toInt = 0 := (by decide); (try dsimp only); omega)
    intro rr18 y21 σ20 hIσ20 ih19
    obtain ⟨hσ20, k22, k23, k24, k25, k26, k27, k28, k29, k30, k31, k32, i33⟩ := hIσ20
    unfold fX7_add_l45
    have f34 := tB y21
    refine ⟨fun c35 => ?_, fun c35 => ?_⟩
    · first | have f38 := (leE (rfl : x3.toInt = x3.toInt) (rfl : y21.toInt = y21.toInt)).mp c35 | skip
      unfold fX7_add_j85
      refine ⟨fun c39 => ?_, fun c39 => ?_⟩
      · first | have f41 := (eqE (rfl : x1.toInt = x1.toInt) (show (8 : Int32).toInt = 8 from by decide)).mp c39 | skip
        unfold fX7_add_j97
        have g43 : vp_in v4 60 := inE (rfl : v4.toInt = v4.toInt) (by omega) (by omega)
        refine ⟨g43, ?_⟩
        have hk44 : r20 (123 + v4.toNatClampNeg) := (r20_in g43)
        have hk44x := vp_lt g43
        have hk44b := r20_b hk44
        have g45 : vp_in (0 : Int32) 20 := inE (show (0 : Int32).toInt = 0 from by decide) (by omega) (by omega)
        refine ⟨g45, ?_⟩
        intro v46 ev46
        refine ⟨inE (rfl : v4.toInt = v4.toInt) (by omega) (by omega), ?_⟩
        intro σ48 eσ48
        have hσ48 : K1 σ0 σ48 := by rw [eσ48]; exact hσ20.u (Rg1.ra_19 _ _) (fun q => absurd q.1 (by decide)) (fun q => absurd q.1 (by decide))
        have g50 : vp_in v4 60 := inE (rfl : v4.toInt = v4.toInt) (by omega) (by omega)
        refine ⟨g50, ?_⟩
        have hk51 : r20 (123 + v4.toNatClampNeg) := (r20_in g50)
        have hk51x := vp_lt g50
        have hk51b := r20_b hk51
        intro v52 ev52
        refine ⟨inE (show (0 : Int32).toInt = 0 from by decide) (by omega) (by omega), ?_⟩
        intro σ53 eσ53
        have kb54 := r20_b hk51
        have hσ53 : K1 σ0 σ53 := by rw [eσ53]; exact hσ48.u (rg_r20 hk51) (by omega) (by omega)
        unfold fX7_add_j128
        intro v55 ev55
        intro σ56 eσ56
        have f57 := tB v55
        have f58 := K1.g_6_5 hσ53
        have q59 : σ53.1 6 5 = σ48.1 6 5 := by rw [eσ53]; exact congrFun (u1_ne (by omega)) 5
        have f60 := congrArg Int32.toInt q59
        have f61 := K1.g_6_5 hσ48
        have q62 : σ48.1 6 5 = σ20.1 6 5 := by rw [eσ48]; exact congrFun (u1_ne (by decide)) 5
        have f63 := congrArg Int32.toInt q62
        have f64 := K1.g_6_5 hσ20
        have f65 := congrArg Int32.toInt k27
        have f66 := K1.g_6_5 hσ13
        have q67 : σ13.1 6 5 = σ10.1 6 5 := by rw [eσ13]; exact congrFun (u1_ne (by decide)) 5
        have f68 := congrArg Int32.toInt q67
        have f69 := K1.g_6_5 hσ10
        have q70 : σ10.1 6 5 = σ8.1 6 5 := by rw [eσ10]; exact congrFun (u1_ne (by decide)) 5
        have f71 := congrArg Int32.toInt q70
        have f72 := K1.g_6_5 hσ8
        have q73 : σ8.1 6 5 = σ.1 6 5 := by rw [eσ8]; exact congrFun (u1_ne (by decide)) 5
        have f74 := congrArg Int32.toInt q73
        first | have f76 : v55.toInt = ((σ53.1 6 5).toInt + (1)) := (congrArg Int32.toInt ev55).trans (aOkE (rfl : (σ53.1 6 5).toInt = (σ53.1 6 5).toInt) (show (1 : Int32).toInt = 1 from by decide) (by omega) (by omega)) | skip
        have hσ56 : K1 σ0 σ56 := by rw [eσ56]; exact hσ53.u (Rg1.r_6_5 (leP (rfl : v55.toInt = v55.toInt) (by omega)) (geP (rfl : v55.toInt = v55.toInt) (by omega))) (fun q => absurd q.1 (by decide)) (fun q => absurd q.1 (by decide))
        exact hQ _ _ hσ56 (⟨(kq (a := 3) (b := 7) eσ56 (fun q => absurd q.1 (by decide))).trans ((kq (a := 3) (b := 7) eσ53 (by omega)).trans ((kq (a := 3) (b := 7) eσ48 (fun q => absurd q.1 (by decide))).trans (k22.trans ((kq (a := 3) (b := 7) eσ13 (fun q => absurd q.1 (by decide))).trans ((kq (a := 3) (b := 7) eσ10 (fun q => absurd q.1 (by decide))).trans ((kq (a := 3) (b := 7) eσ8 (fun q => absurd q.1 (by decide))))))))), (kq (a := 3) (b := 11) eσ56 (fun q => absurd q.1 (by decide))).trans ((kq (a := 3) (b := 11) eσ53 (by omega)).trans ((kq (a := 3) (b := 11) eσ48 (fun q => absurd q.1 (by decide))).trans (k23.trans ((kq (a := 3) (b := 11) eσ13 (fun q => absurd q.1 (by decide))).trans ((kq (a := 3) (b := 11) eσ10 (fun q => absurd q.1 (by decide))).trans ((kq (a := 3) (b := 11) eσ8 (fun q => absurd q.1 (by decide))))))))), (kq (a := 3) (b := 6) eσ56 (fun q => absurd q.1 (by decide))).trans ((kq (a := 3) (b := 6) eσ53 (by omega)).trans ((kq (a := 3) (b := 6) eσ48 (fun q => absurd q.1 (by decide))).trans (k24.trans ((kq (a := 3) (b := 6) eσ13 (fun q => absurd q.1 (by decide))).trans ((kq (a := 3) (b := 6) eσ10 (fun q => absurd q.1 (by decide))).trans ((kq (a := 3) (b := 6) eσ8 (fun q => absurd q.1 (by decide))))))))), (kq (a := 9) (b := 9) eσ56 (fun q => absurd q.1 (by decide))).trans ((kq (a := 9) (b := 9) eσ53 (by omega)).trans ((kq (a := 9) (b := 9) eσ48 (fun q => absurd q.1 (by decide))).trans (k25.trans ((kq (a := 9) (b := 9) eσ13 (fun q => absurd q.1 (by decide))).trans ((kq (a := 9) (b := 9) eσ10 (fun q => absurd q.1 (by decide))).trans ((kq (a := 9) (b := 9) eσ8 (fun q => absurd q.1 (by decide))))))))), (kq (a := 9) (b := 10) eσ56 (fun q => absurd q.1 (by decide))).trans ((kq (a := 9) (b := 10) eσ53 (by omega)).trans ((kq (a := 9) (b := 10) eσ48 (fun q => absurd q.1 (by decide))).trans (k26.trans ((kq (a := 9) (b := 10) eσ13 (fun q => absurd q.1 (by decide))).trans ((kq (a := 9) (b := 10) eσ10 (fun q => absurd q.1 (by decide))).trans ((kq (a := 9) (b := 10) eσ8 (fun q => absurd q.1 (by decide))))))))), (kq (a := 7) (b := 4) eσ56 (fun q => absurd q.1 (by decide))).trans ((kq (a := 7) (b := 4) eσ53 (by omega)).trans ((kq (a := 7) (b := 4) eσ48 (fun q => absurd q.1 (by decide))).trans (k28.trans ((kq (a := 7) (b := 4) eσ13 (fun q => absurd q.1 (by decide))).trans ((kq (a := 7) (b := 4) eσ10 (fun q => absurd q.1 (by decide))).trans ((kq (a := 7) (b := 4) eσ8 (fun q => absurd q.1 (by decide))))))))), (kq (a := 2) (b := 4) eσ56 (fun q => absurd q.1 (by decide))).trans ((kq (a := 2) (b := 4) eσ53 (by omega)).trans ((kq (a := 2) (b := 4) eσ48 (fun q => absurd q.1 (by decide))).trans (k29.trans ((kq (a := 2) (b := 4) eσ13 (fun q => absurd q.1 (by decide))).trans ((kq (a := 2) (b := 4) eσ10 (fun q => absurd q.1 (by decide))).trans ((kq (a := 2) (b := 4) eσ8 (fun q => absurd q.1 (by decide))))))))), (kq (a := 2) (b := 5) eσ56 (fun q => absurd q.1 (by decide))).trans ((kq (a := 2) (b := 5) eσ53 (by omega)).trans ((kq (a := 2) (b := 5) eσ48 (fun q => absurd q.1 (by decide))).trans (k30.trans ((kq (a := 2) (b := 5) eσ13 (fun q => absurd q.1 (by decide))).trans ((kq (a := 2) (b := 5) eσ10 (fun q => absurd q.1 (by decide))).trans ((kq (a := 2) (b := 5) eσ8 (fun q => absurd q.1 (by decide))))))))), (kq (a := 2) (b := 6) eσ56 (fun q => absurd q.1 (by decide))).trans ((kq (a := 2) (b := 6) eσ53 (by omega)).trans ((kq (a := 2) (b := 6) eσ48 (fun q => absurd q.1 (by decide))).trans (k31.trans ((kq (a := 2) (b := 6) eσ13 (fun q => absurd q.1 (by decide))).trans ((kq (a := 2) (b := 6) eσ10 (fun q => absurd q.1 (by decide))).trans ((kq (a := 2) (b := 6) eσ8 (fun q => absurd q.1 (by decide))))))))), (kq (a := 3) (b := 8) eσ56 (fun q => absurd q.1 (by decide))).trans ((kq (a := 3) (b := 8) eσ53 (by omega)).trans ((kq (a := 3) (b := 8) eσ48 (fun q => absurd q.1 (by decide))).trans (k32.trans ((kq (a := 3) (b := 8) eσ13 (fun q => absurd q.1 (by decide))).trans ((kq (a := 3) (b := 8) eσ10 (fun q => absurd q.1 (by decide))).trans ((kq (a := 3) (b := 8) eσ8 (fun q => absurd q.1 (by decide)))))))))⟩) trivial
      · first | have f78 := (noteqE (rfl : x1.toInt = x1.toInt) (show (8 : Int32).toInt = 8 from by decide)).mp c39 | skip
        refine ⟨fun c79 => ?_, fun c79 => ?_⟩
        · first | have f81 := (eqE (rfl : x1.toInt = x1.toInt) (show (9 : Int32).toInt = 9 from by decide)).mp c79 | skip
          unfold fX7_add_j97
          have g83 : vp_in v4 60 := inE (rfl : v4.toInt = v4.toInt) (by omega) (by omega)
          refine ⟨g83, ?_⟩
          have hk84 : r20 (123 + v4.toNatClampNeg) := (r20_in g83)
          have hk84x := vp_lt g83
          have hk84b := r20_b hk84
          have g85 : vp_in (0 : Int32) 20 := inE (show (0 : Int32).toInt = 0 from by decide) (by omega) (by omega)
          refine ⟨g85, ?_⟩
          intro v86 ev86
          refine ⟨inE (rfl : v4.toInt = v4.toInt) (by omega) (by omega), ?_⟩
          intro σ88 eσ88
          have hσ88 : K1 σ0 σ88 := by rw [eσ88]; exact hσ20.u (Rg1.ra_19 _ _) (fun q => absurd q.1 (by decide)) (fun q => absurd q.1 (by decide))
          have g90 : vp_in v4 60 := inE (rfl : v4.toInt = v4.toInt) (by omega) (by omega)
          refine ⟨g90, ?_⟩
          have hk91 : r20 (123 + v4.toNatClampNeg) := (r20_in g90)
          have hk91x := vp_lt g90
          have hk91b := r20_b hk91
          intro v92 ev92
          refine ⟨inE (show (0 : Int32).toInt = 0 from by decide) (by omega) (by omega), ?_⟩
          intro σ93 eσ93
          have kb94 := r20_b hk91
          have hσ93 : K1 σ0 σ93 := by rw [eσ93]; exact hσ88.u (rg_r20 hk91) (by omega) (by omega)
          unfold fX7_add_j128
          intro v95 ev95
          intro σ96 eσ96
          have f97 := tB v95
          have f98 := K1.g_6_5 hσ93
          have q99 : σ93.1 6 5 = σ88.1 6 5 := by rw [eσ93]; exact congrFun (u1_ne (by omega)) 5
          have f100 := congrArg Int32.toInt q99
          have f101 := K1.g_6_5 hσ88
          have q102 : σ88.1 6 5 = σ20.1 6 5 := by rw [eσ88]; exact congrFun (u1_ne (by decide)) 5
          have f103 := congrArg Int32.toInt q102
          have f104 := K1.g_6_5 hσ20
          have f105 := congrArg Int32.toInt k27
          have f106 := K1.g_6_5 hσ13
          have q107 : σ13.1 6 5 = σ10.1 6 5 := by rw [eσ13]; exact congrFun (u1_ne (by decide)) 5
          have f108 := congrArg Int32.toInt q107
          have f109 := K1.g_6_5 hσ10
          have q110 : σ10.1 6 5 = σ8.1 6 5 := by rw [eσ10]; exact congrFun (u1_ne (by decide)) 5
          have f111 := congrArg Int32.toInt q110
          have f112 := K1.g_6_5 hσ8
          have q113 : σ8.1 6 5 = σ.1 6 5 := by rw [eσ8]; exact congrFun (u1_ne (by decide)) 5
          have f114 := congrArg Int32.toInt q113
          first | have f116 : v95.toInt = ((σ93.1 6 5).toInt + (1)) := (congrArg Int32.toInt ev95).trans (aOkE (rfl : (σ93.1 6 5).toInt = (σ93.1 6 5).toInt) (show (1 : Int32).toInt = 1 from by decide) (by omega) (by omega)) | skip
          have hσ96 : K1 σ0 σ96 := by rw [eσ96]; exact hσ93.u (Rg1.r_6_5 (leP (rfl : v95.toInt = v95.toInt) (by omega)) (geP (rfl : v95.toInt = v95.toInt) (by omega))) (fun q => absurd q.1 (by decide)) (fun q => absurd q.1 (by decide))
          exact hQ _ _ hσ96 (⟨(kq (a := 3) (b := 7) eσ96 (fun q => absurd q.1 (by decide))).trans ((kq (a := 3) (b := 7) eσ93 (by omega)).trans ((kq (a := 3) (b := 7) eσ88 (fun q => absurd q.1 (by decide))).trans (k22.trans ((kq (a := 3) (b := 7) eσ13 (fun q => absurd q.1 (by decide))).trans ((kq (a := 3) (b := 7) eσ10 (fun q => absurd q.1 (by decide))).trans ((kq (a := 3) (b := 7) eσ8 (fun q => absurd q.1 (by decide))))))))), (kq (a := 3) (b := 11) eσ96 (fun q => absurd q.1 (by decide))).trans ((kq (a := 3) (b := 11) eσ93 (by omega)).trans ((kq (a := 3) (b := 11) eσ88 (fun q => absurd q.1 (by decide))).trans (k23.trans ((kq (a := 3) (b := 11) eσ13 (fun q => absurd q.1 (by decide))).trans ((kq (a := 3) (b := 11) eσ10 (fun q => absurd q.1 (by decide))).trans ((kq (a := 3) (b := 11) eσ8 (fun q => absurd q.1 (by decide))))))))), (kq (a := 3) (b := 6) eσ96 (fun q => absurd q.1 (by decide))).trans ((kq (a := 3) (b := 6) eσ93 (by omega)).trans ((kq (a := 3) (b := 6) eσ88 (fun q => absurd q.1 (by decide))).trans (k24.trans ((kq (a := 3) (b := 6) eσ13 (fun q => absurd q.1 (by decide))).trans ((kq (a := 3) (b := 6) eσ10 (fun q => absurd q.1 (by decide))).trans ((kq (a := 3) (b := 6) eσ8 (fun q => absurd q.1 (by decide))))))))), (kq (a := 9) (b := 9) eσ96 (fun q => absurd q.1 (by decide))).trans ((kq (a := 9) (b := 9) eσ93 (by omega)).trans ((kq (a := 9) (b := 9) eσ88 (fun q => absurd q.1 (by decide))).trans (k25.trans ((kq (a := 9) (b := 9) eσ13 (fun q => absurd q.1 (by decide))).trans ((kq (a := 9) (b := 9) eσ10 (fun q => absurd q.1 (by decide))).trans ((kq (a := 9) (b := 9) eσ8 (fun q => absurd q.1 (by decide))))))))), (kq (a := 9) (b := 10) eσ96 (fun q => absurd q.1 (by decide))).trans ((kq (a := 9) (b := 10) eσ93 (by omega)).trans ((kq (a := 9) (b := 10) eσ88 (fun q => absurd q.1 (by decide))).trans (k26.trans ((kq (a := 9) (b := 10) eσ13 (fun q => absurd q.1 (by decide))).trans ((kq (a := 9) (b := 10) eσ10 (fun q => absurd q.1 (by decide))).trans ((kq (a := 9) (b := 10) eσ8 (fun q => absurd q.1 (by decide))))))))), (kq (a := 7) (b := 4) eσ96 (fun q => absurd q.1 (by decide))).trans ((kq (a := 7) (b := 4) eσ93 (by omega)).trans ((kq (a := 7) (b := 4) eσ88 (fun q => absurd q.1 (by decide))).trans (k28.trans ((kq (a := 7) (b := 4) eσ13 (fun q => absurd q.1 (by decide))).trans ((kq (a := 7) (b := 4) eσ10 (fun q => absurd q.1 (by decide))).trans ((kq (a := 7) (b := 4) eσ8 (fun q => absurd q.1 (by decide))))))))), (kq (a := 2) (b := 4) eσ96 (fun q => absurd q.1 (by decide))).trans ((kq (a := 2) (b := 4) eσ93 (by omega)).trans ((kq (a := 2) (b := 4) eσ88 (fun q => absurd q.1 (by decide))).trans (k29.trans ((kq (a := 2) (b := 4) eσ13 (fun q => absurd q.1 (by decide))).trans ((kq (a := 2) (b := 4) eσ10 (fun q => absurd q.1 (by decide))).trans ((kq (a := 2) (b := 4) eσ8 (fun q => absurd q.1 (by decide))))))))), (kq (a := 2) (b := 5) eσ96 (fun q => absurd q.1 (by decide))).trans ((kq (a := 2) (b := 5) eσ93 (by omega)).trans ((kq (a := 2) (b := 5) eσ88 (fun q => absurd q.1 (by decide))).trans (k30.trans ((kq (a := 2) (b := 5) eσ13 (fun q => absurd q.1 (by decide))).trans ((kq (a := 2) (b := 5) eσ10 (fun q => absurd q.1 (by decide))).trans ((kq (a := 2) (b := 5) eσ8 (fun q => absurd q.1 (by decide))))))))), (kq (a := 2) (b := 6) eσ96 (fun q => absurd q.1 (by decide))).trans ((kq (a := 2) (b := 6) eσ93 (by omega)).trans ((kq (a := 2) (b := 6) eσ88 (fun q => absurd q.1 (by decide))).trans (k31.trans ((kq (a := 2) (b := 6) eσ13 (fun q => absurd q.1 (by decide))).trans ((kq (a := 2) (b := 6) eσ10 (fun q => absurd q.1 (by decide))).trans ((kq (a := 2) (b := 6) eσ8 (fun q => absurd q.1 (by decide))))))))), (kq (a := 3) (b := 8) eσ96 (fun q => absurd q.1 (by decide))).trans ((kq (a := 3) (b := 8) eσ93 (by omega)).trans ((kq (a := 3) (b := 8) eσ88 (fun q => absurd q.1 (by decide))).trans (k32.trans ((kq (a := 3) (b := 8) eσ13 (fun q => absurd q.1 (by decide))).trans ((kq (a := 3) (b := 8) eσ10 (fun q => absurd q.1 (by decide))).trans ((kq (a := 3) (b := 8) eσ8 (fun q => absurd q.1 (by decide)))))))))⟩) trivial
        · first | have f118 := (noteqE (rfl : x1.toInt = x1.toInt) (show (9 : Int32).toInt = 9 from by decide)).mp c79 | skip
          unfold fX7_add_j128
          intro v119 ev119
          intro σ120 eσ120
          have f121 := tB v119
          have f122 := K1.g_6_5 hσ20
          have f123 := congrArg Int32.toInt k27
          have f124 := K1.g_6_5 hσ13
          have q125 : σ13.1 6 5 = σ10.1 6 5 := by rw [eσ13]; exact congrFun (u1_ne (by decide)) 5
          have f126 := congrArg Int32.toInt q125
          have f127 := K1.g_6_5 hσ10
          have q128 : σ10.1 6 5 = σ8.1 6 5 := by rw [eσ10]; exact congrFun (u1_ne (by decide)) 5
          have f129 := congrArg Int32.toInt q128
          have f130 := K1.g_6_5 hσ8
          have q131 : σ8.1 6 5 = σ.1 6 5 := by rw [eσ8]; exact congrFun (u1_ne (by decide)) 5
          have f132 := congrArg Int32.toInt q131
          first | have f134 : v119.toInt = ((σ20.1 6 5).toInt + (1)) := (congrArg Int32.toInt ev119).trans (aOkE (rfl : (σ20.1 6 5).toInt = (σ20.1 6 5).toInt) (show (1 : Int32).toInt = 1 from by decide) (by omega) (by omega)) | skip
          have hσ120 : K1 σ0 σ120 := by rw [eσ120]; exact hσ20.u (Rg1.r_6_5 (leP (rfl : v119.toInt = v119.toInt) (by omega)) (geP (rfl : v119.toInt = v119.toInt) (by omega))) (fun q => absurd q.1 (by decide)) (fun q => absurd q.1 (by decide))
          exact hQ _ _ hσ120 (⟨(kq (a := 3) (b := 7) eσ120 (fun q => absurd q.1 (by decide))).trans (k22.trans ((kq (a := 3) (b := 7) eσ13 (fun q => absurd q.1 (by decide))).trans ((kq (a := 3) (b := 7) eσ10 (fun q => absurd q.1 (by decide))).trans ((kq (a := 3) (b := 7) eσ8 (fun q => absurd q.1 (by decide))))))), (kq (a := 3) (b := 11) eσ120 (fun q => absurd q.1 (by decide))).trans (k23.trans ((kq (a := 3) (b := 11) eσ13 (fun q => absurd q.1 (by decide))).trans ((kq (a := 3) (b := 11) eσ10 (fun q => absurd q.1 (by decide))).trans ((kq (a := 3) (b := 11) eσ8 (fun q => absurd q.1 (by decide))))))), (kq (a := 3) (b := 6) eσ120 (fun q => absurd q.1 (by decide))).trans (k24.trans ((kq (a := 3) (b := 6) eσ13 (fun q => absurd q.1 (by decide))).trans ((kq (a := 3) (b := 6) eσ10 (fun q => absurd q.1 (by decide))).trans ((kq (a := 3) (b := 6) eσ8 (fun q => absurd q.1 (by decide))))))), (kq (a := 9) (b := 9) eσ120 (fun q => absurd q.1 (by decide))).trans (k25.trans ((kq (a := 9) (b := 9) eσ13 (fun q => absurd q.1 (by decide))).trans ((kq (a := 9) (b := 9) eσ10 (fun q => absurd q.1 (by decide))).trans ((kq (a := 9) (b := 9) eσ8 (fun q => absurd q.1 (by decide))))))), (kq (a := 9) (b := 10) eσ120 (fun q => absurd q.1 (by decide))).trans (k26.trans ((kq (a := 9) (b := 10) eσ13 (fun q => absurd q.1 (by decide))).trans ((kq (a := 9) (b := 10) eσ10 (fun q => absurd q.1 (by decide))).trans ((kq (a := 9) (b := 10) eσ8 (fun q => absurd q.1 (by decide))))))), (kq (a := 7) (b := 4) eσ120 (fun q => absurd q.1 (by decide))).trans (k28.trans ((kq (a := 7) (b := 4) eσ13 (fun q => absurd q.1 (by decide))).trans ((kq (a := 7) (b := 4) eσ10 (fun q => absurd q.1 (by decide))).trans ((kq (a := 7) (b := 4) eσ8 (fun q => absurd q.1 (by decide))))))), (kq (a := 2) (b := 4) eσ120 (fun q => absurd q.1 (by decide))).trans (k29.trans ((kq (a := 2) (b := 4) eσ13 (fun q => absurd q.1 (by decide))).trans ((kq (a := 2) (b := 4) eσ10 (fun q => absurd q.1 (by decide))).trans ((kq (a := 2) (b := 4) eσ8 (fun q => absurd q.1 (by decide))))))), (kq (a := 2) (b := 5) eσ120 (fun q => absurd q.1 (by decide))).trans (k30.trans ((kq (a := 2) (b := 5) eσ13 (fun q => absurd q.1 (by decide))).trans ((kq (a := 2) (b := 5) eσ10 (fun q => absurd q.1 (by decide))).trans ((kq (a := 2) (b := 5) eσ8 (fun q => absurd q.1 (by decide))))))), (kq (a := 2) (b := 6) eσ120 (fun q => absurd q.1 (by decide))).trans (k31.trans ((kq (a := 2) (b := 6) eσ13 (fun q => absurd q.1 (by decide))).trans ((kq (a := 2) (b := 6) eσ10 (fun q => absurd q.1 (by decide))).trans ((kq (a := 2) (b := 6) eσ8 (fun q => absurd q.1 (by decide))))))), (kq (a := 3) (b := 8) eσ120 (fun q => absurd q.1 (by decide))).trans (k32.trans ((kq (a := 3) (b := 8) eσ13 (fun q => absurd q.1 (by decide))).trans ((kq (a := 3) (b := 8) eσ10 (fun q => absurd q.1 (by decide))).trans ((kq (a := 3) (b := 8) eσ8 (fun q => absurd q.1 (by decide)))))))⟩) trivial
    · first | have f137 := (notleE (rfl : x3.toInt = x3.toInt) (rfl : y21.toInt = y21.toInt)).mp c35 | skip
      refine ⟨fun c138 => ?_, fun c138 => ?_⟩
      · first | have f140 := (leE (show (20 : Int32).toInt = 20 from by decide) (rfl : y21.toInt = y21.toInt)).mp c138 | skip
        unfold fX7_add_j85
        refine ⟨fun c141 => ?_, fun c141 => ?_⟩
        · first | have f143 := (eqE (rfl : x1.toInt = x1.toInt) (show (8 : Int32).toInt = 8 from by decide)).mp c141 | skip
          unfold fX7_add_j97
          have g145 : vp_in v4 60 := inE (rfl : v4.toInt = v4.toInt) (by omega) (by omega)
          refine ⟨g145, ?_⟩
          have hk146 : r20 (123 + v4.toNatClampNeg) := (r20_in g145)
          have hk146x := vp_lt g145
          have hk146b := r20_b hk146
          have g147 : vp_in (0 : Int32) 20 := inE (show (0 : Int32).toInt = 0 from by decide) (by omega) (by omega)
          refine ⟨g147, ?_⟩
          intro v148 ev148
          refine ⟨inE (rfl : v4.toInt = v4.toInt) (by omega) (by omega), ?_⟩
          intro σ150 eσ150
          have hσ150 : K1 σ0 σ150 := by rw [eσ150]; exact hσ20.u (Rg1.ra_19 _ _) (fun q => absurd q.1 (by decide)) (fun q => absurd q.1 (by decide))
          have g152 : vp_in v4 60 := inE (rfl : v4.toInt = v4.toInt) (by omega) (by omega)
          refine ⟨g152, ?_⟩
          have hk153 : r20 (123 + v4.toNatClampNeg) := (r20_in g152)
          have hk153x := vp_lt g152
          have hk153b := r20_b hk153
          intro v154 ev154
          refine ⟨inE (show (0 : Int32).toInt = 0 from by decide) (by omega) (by omega), ?_⟩
          intro σ155 eσ155
          have kb156 := r20_b hk153
          have hσ155 : K1 σ0 σ155 := by rw [eσ155]; exact hσ150.u (rg_r20 hk153) (by omega) (by omega)
          unfold fX7_add_j128
          intro v157 ev157
          intro σ158 eσ158
          have f159 := tB v157
          have f160 := K1.g_6_5 hσ155
          have q161 : σ155.1 6 5 = σ150.1 6 5 := by rw [eσ155]; exact congrFun (u1_ne (by omega)) 5
          have f162 := congrArg Int32.toInt q161
          have f163 := K1.g_6_5 hσ150
          have q164 : σ150.1 6 5 = σ20.1 6 5 := by rw [eσ150]; exact congrFun (u1_ne (by decide)) 5
          have f165 := congrArg Int32.toInt q164
          have f166 := K1.g_6_5 hσ20
          have f167 := congrArg Int32.toInt k27
          have f168 := K1.g_6_5 hσ13
          have q169 : σ13.1 6 5 = σ10.1 6 5 := by rw [eσ13]; exact congrFun (u1_ne (by decide)) 5
          have f170 := congrArg Int32.toInt q169
          have f171 := K1.g_6_5 hσ10
          have q172 : σ10.1 6 5 = σ8.1 6 5 := by rw [eσ10]; exact congrFun (u1_ne (by decide)) 5
          have f173 := congrArg Int32.toInt q172
          have f174 := K1.g_6_5 hσ8
          have q175 : σ8.1 6 5 = σ.1 6 5 := by rw [eσ8]; exact congrFun (u1_ne (by decide)) 5
          have f176 := congrArg Int32.toInt q175
          first | have f178 : v157.toInt = ((σ155.1 6 5).toInt + (1)) := (congrArg Int32.toInt ev157).trans (aOkE (rfl : (σ155.1 6 5).toInt = (σ155.1 6 5).toInt) (show (1 : Int32).toInt = 1 from by decide) (by omega) (by omega)) | skip
          have hσ158 : K1 σ0 σ158 := by rw [eσ158]; exact hσ155.u (Rg1.r_6_5 (leP (rfl : v157.toInt = v157.toInt) (by omega)) (geP (rfl : v157.toInt = v157.toInt) (by omega))) (fun q => absurd q.1 (by decide)) (fun q => absurd q.1 (by decide))
          exact hQ _ _ hσ158 (⟨(kq (a := 3) (b := 7) eσ158 (fun q => absurd q.1 (by decide))).trans ((kq (a := 3) (b := 7) eσ155 (by omega)).trans ((kq (a := 3) (b := 7) eσ150 (fun q => absurd q.1 (by decide))).trans (k22.trans ((kq (a := 3) (b := 7) eσ13 (fun q => absurd q.1 (by decide))).trans ((kq (a := 3) (b := 7) eσ10 (fun q => absurd q.1 (by decide))).trans ((kq (a := 3) (b := 7) eσ8 (fun q => absurd q.1 (by decide))))))))), (kq (a := 3) (b := 11) eσ158 (fun q => absurd q.1 (by decide))).trans ((kq (a := 3) (b := 11) eσ155 (by omega)).trans ((kq (a := 3) (b := 11) eσ150 (fun q => absurd q.1 (by decide))).trans (k23.trans ((kq (a := 3) (b := 11) eσ13 (fun q => absurd q.1 (by decide))).trans ((kq (a := 3) (b := 11) eσ10 (fun q => absurd q.1 (by decide))).trans ((kq (a := 3) (b := 11) eσ8 (fun q => absurd q.1 (by decide))))))))), (kq (a := 3) (b := 6) eσ158 (fun q => absurd q.1 (by decide))).trans ((kq (a := 3) (b := 6) eσ155 (by omega)).trans ((kq (a := 3) (b := 6) eσ150 (fun q => absurd q.1 (by decide))).trans (k24.trans ((kq (a := 3) (b := 6) eσ13 (fun q => absurd q.1 (by decide))).trans ((kq (a := 3) (b := 6) eσ10 (fun q => absurd q.1 (by decide))).trans ((kq (a := 3) (b := 6) eσ8 (fun q => absurd q.1 (by decide))))))))), (kq (a := 9) (b := 9) eσ158 (fun q => absurd q.1 (by decide))).trans ((kq (a := 9) (b := 9) eσ155 (by omega)).trans ((kq (a := 9) (b := 9) eσ150 (fun q => absurd q.1 (by decide))).trans (k25.trans ((kq (a := 9) (b := 9) eσ13 (fun q => absurd q.1 (by decide))).trans ((kq (a := 9) (b := 9) eσ10 (fun q => absurd q.1 (by decide))).trans ((kq (a := 9) (b := 9) eσ8 (fun q => absurd q.1 (by decide))))))))), (kq (a := 9) (b := 10) eσ158 (fun q => absurd q.1 (by decide))).trans ((kq (a := 9) (b := 10) eσ155 (by omega)).trans ((kq (a := 9) (b := 10) eσ150 (fun q => absurd q.1 (by decide))).trans (k26.trans ((kq (a := 9) (b := 10) eσ13 (fun q => absurd q.1 (by decide))).trans ((kq (a := 9) (b := 10) eσ10 (fun q => absurd q.1 (by decide))).trans ((kq (a := 9) (b := 10) eσ8 (fun q => absurd q.1 (by decide))))))))), (kq (a := 7) (b := 4) eσ158 (fun q => absurd q.1 (by decide))).trans ((kq (a := 7) (b := 4) eσ155 (by omega)).trans ((kq (a := 7) (b := 4) eσ150 (fun q => absurd q.1 (by decide))).trans (k28.trans ((kq (a := 7) (b := 4) eσ13 (fun q => absurd q.1 (by decide))).trans ((kq (a := 7) (b := 4) eσ10 (fun q => absurd q.1 (by decide))).trans ((kq (a := 7) (b := 4) eσ8 (fun q => absurd q.1 (by decide))))))))), (kq (a := 2) (b := 4) eσ158 (fun q => absurd q.1 (by decide))).trans ((kq (a := 2) (b := 4) eσ155 (by omega)).trans ((kq (a := 2) (b := 4) eσ150 (fun q => absurd q.1 (by decide))).trans (k29.trans ((kq (a := 2) (b := 4) eσ13 (fun q => absurd q.1 (by decide))).trans ((kq (a := 2) (b := 4) eσ10 (fun q => absurd q.1 (by decide))).trans ((kq (a := 2) (b := 4) eσ8 (fun q => absurd q.1 (by decide))))))))), (kq (a := 2) (b := 5) eσ158 (fun q => absurd q.1 (by decide))).trans ((kq (a := 2) (b := 5) eσ155 (by omega)).trans ((kq (a := 2) (b := 5) eσ150 (fun q => absurd q.1 (by decide))).trans (k30.trans ((kq (a := 2) (b := 5) eσ13 (fun q => absurd q.1 (by decide))).trans ((kq (a := 2) (b := 5) eσ10 (fun q => absurd q.1 (by decide))).trans ((kq (a := 2) (b := 5) eσ8 (fun q => absurd q.1 (by decide))))))))), (kq (a := 2) (b := 6) eσ158 (fun q => absurd q.1 (by decide))).trans ((kq (a := 2) (b := 6) eσ155 (by omega)).trans ((kq (a := 2) (b := 6) eσ150 (fun q => absurd q.1 (by decide))).trans (k31.trans ((kq (a := 2) (b := 6) eσ13 (fun q => absurd q.1 (by decide))).trans ((kq (a := 2) (b := 6) eσ10 (fun q => absurd q.1 (by decide))).trans ((kq (a := 2) (b := 6) eσ8 (fun q => absurd q.1 (by decide))))))))), (kq (a := 3) (b := 8) eσ158 (fun q => absurd q.1 (by decide))).trans ((kq (a := 3) (b := 8) eσ155 (by omega)).trans ((kq (a := 3) (b := 8) eσ150 (fun q => absurd q.1 (by decide))).trans (k32.trans ((kq (a := 3) (b := 8) eσ13 (fun q => absurd q.1 (by decide))).trans ((kq (a := 3) (b := 8) eσ10 (fun q => absurd q.1 (by decide))).trans ((kq (a := 3) (b := 8) eσ8 (fun q => absurd q.1 (by decide)))))))))⟩) trivial
        · first | have f180 := (noteqE (rfl : x1.toInt = x1.toInt) (show (8 : Int32).toInt = 8 from by decide)).mp c141 | skip
          refine ⟨fun c181 => ?_, fun c181 => ?_⟩
          · first | have f183 := (eqE (rfl : x1.toInt = x1.toInt) (show (9 : Int32).toInt = 9 from by decide)).mp c181 | skip
            unfold fX7_add_j97
            have g185 : vp_in v4 60 := inE (rfl : v4.toInt = v4.toInt) (by omega) (by omega)
            refine ⟨g185, ?_⟩
            have hk186 : r20 (123 + v4.toNatClampNeg) := (r20_in g185)
            have hk186x := vp_lt g185
            have hk186b := r20_b hk186
            have g187 : vp_in (0 : Int32) 20 := inE (show (0 : Int32).toInt = 0 from by decide) (by omega) (by omega)
            refine ⟨g187, ?_⟩
            intro v188 ev188
            refine ⟨inE (rfl : v4.toInt = v4.toInt) (by omega) (by omega), ?_⟩
            intro σ190 eσ190
            have hσ190 : K1 σ0 σ190 := by rw [eσ190]; exact hσ20.u (Rg1.ra_19 _ _) (fun q => absurd q.1 (by decide)) (fun q => absurd q.1 (by decide))
            have g192 : vp_in v4 60 := inE (rfl : v4.toInt = v4.toInt) (by omega) (by omega)
            refine ⟨g192, ?_⟩
            have hk193 : r20 (123 + v4.toNatClampNeg) := (r20_in g192)
            have hk193x := vp_lt g192
            have hk193b := r20_b hk193
            intro v194 ev194
            refine ⟨inE (show (0 : Int32).toInt = 0 from by decide) (by omega) (by omega), ?_⟩
            intro σ195 eσ195
            have kb196 := r20_b hk193
            have hσ195 : K1 σ0 σ195 := by rw [eσ195]; exact hσ190.u (rg_r20 hk193) (by omega) (by omega)
            unfold fX7_add_j128
            intro v197 ev197
            intro σ198 eσ198
            have f199 := tB v197
            have f200 := K1.g_6_5 hσ195
            have q201 : σ195.1 6 5 = σ190.1 6 5 := by rw [eσ195]; exact congrFun (u1_ne (by omega)) 5
            have f202 := congrArg Int32.toInt q201
            have f203 := K1.g_6_5 hσ190
            have q204 : σ190.1 6 5 = σ20.1 6 5 := by rw [eσ190]; exact congrFun (u1_ne (by decide)) 5
            have f205 := congrArg Int32.toInt q204
            have f206 := K1.g_6_5 hσ20
            have f207 := congrArg Int32.toInt k27
            have f208 := K1.g_6_5 hσ13
            have q209 : σ13.1 6 5 = σ10.1 6 5 := by rw [eσ13]; exact congrFun (u1_ne (by decide)) 5
            have f210 := congrArg Int32.toInt q209
            have f211 := K1.g_6_5 hσ10
            have q212 : σ10.1 6 5 = σ8.1 6 5 := by rw [eσ10]; exact congrFun (u1_ne (by decide)) 5
            have f213 := congrArg Int32.toInt q212
            have f214 := K1.g_6_5 hσ8
            have q215 : σ8.1 6 5 = σ.1 6 5 := by rw [eσ8]; exact congrFun (u1_ne (by decide)) 5
            have f216 := congrArg Int32.toInt q215
            first | have f218 : v197.toInt = ((σ195.1 6 5).toInt + (1)) := (congrArg Int32.toInt ev197).trans (aOkE (rfl : (σ195.1 6 5).toInt = (σ195.1 6 5).toInt) (show (1 : Int32).toInt = 1 from by decide) (by omega) (by omega)) | skip
            have hσ198 : K1 σ0 σ198 := by rw [eσ198]; exact hσ195.u (Rg1.r_6_5 (leP (rfl : v197.toInt = v197.toInt) (by omega)) (geP (rfl : v197.toInt = v197.toInt) (by omega))) (fun q => absurd q.1 (by decide)) (fun q => absurd q.1 (by decide))
            exact hQ _ _ hσ198 (⟨(kq (a := 3) (b := 7) eσ198 (fun q => absurd q.1 (by decide))).trans ((kq (a := 3) (b := 7) eσ195 (by omega)).trans ((kq (a := 3) (b := 7) eσ190 (fun q => absurd q.1 (by decide))).trans (k22.trans ((kq (a := 3) (b := 7) eσ13 (fun q => absurd q.1 (by decide))).trans ((kq (a := 3) (b := 7) eσ10 (fun q => absurd q.1 (by decide))).trans ((kq (a := 3) (b := 7) eσ8 (fun q => absurd q.1 (by decide))))))))), (kq (a := 3) (b := 11) eσ198 (fun q => absurd q.1 (by decide))).trans ((kq (a := 3) (b := 11) eσ195 (by omega)).trans ((kq (a := 3) (b := 11) eσ190 (fun q => absurd q.1 (by decide))).trans (k23.trans ((kq (a := 3) (b := 11) eσ13 (fun q => absurd q.1 (by decide))).trans ((kq (a := 3) (b := 11) eσ10 (fun q => absurd q.1 (by decide))).trans ((kq (a := 3) (b := 11) eσ8 (fun q => absurd q.1 (by decide))))))))), (kq (a := 3) (b := 6) eσ198 (fun q => absurd q.1 (by decide))).trans ((kq (a := 3) (b := 6) eσ195 (by omega)).trans ((kq (a := 3) (b := 6) eσ190 (fun q => absurd q.1 (by decide))).trans (k24.trans ((kq (a := 3) (b := 6) eσ13 (fun q => absurd q.1 (by decide))).trans ((kq (a := 3) (b := 6) eσ10 (fun q => absurd q.1 (by decide))).trans ((kq (a := 3) (b := 6) eσ8 (fun q => absurd q.1 (by decide))))))))), (kq (a := 9) (b := 9) eσ198 (fun q => absurd q.1 (by decide))).trans ((kq (a := 9) (b := 9) eσ195 (by omega)).trans ((kq (a := 9) (b := 9) eσ190 (fun q => absurd q.1 (by decide))).trans (k25.trans ((kq (a := 9) (b := 9) eσ13 (fun q => absurd q.1 (by decide))).trans ((kq (a := 9) (b := 9) eσ10 (fun q => absurd q.1 (by decide))).trans ((kq (a := 9) (b := 9) eσ8 (fun q => absurd q.1 (by decide))))))))), (kq (a := 9) (b := 10) eσ198 (fun q => absurd q.1 (by decide))).trans ((kq (a := 9) (b := 10) eσ195 (by omega)).trans ((kq (a := 9) (b := 10) eσ190 (fun q => absurd q.1 (by decide))).trans (k26.trans ((kq (a := 9) (b := 10) eσ13 (fun q => absurd q.1 (by decide))).trans ((kq (a := 9) (b := 10) eσ10 (fun q => absurd q.1 (by decide))).trans ((kq (a := 9) (b := 10) eσ8 (fun q => absurd q.1 (by decide))))))))), (kq (a := 7) (b := 4) eσ198 (fun q => absurd q.1 (by decide))).trans ((kq (a := 7) (b := 4) eσ195 (by omega)).trans ((kq (a := 7) (b := 4) eσ190 (fun q => absurd q.1 (by decide))).trans (k28.trans ((kq (a := 7) (b := 4) eσ13 (fun q => absurd q.1 (by decide))).trans ((kq (a := 7) (b := 4) eσ10 (fun q => absurd q.1 (by decide))).trans ((kq (a := 7) (b := 4) eσ8 (fun q => absurd q.1 (by decide))))))))), (kq (a := 2) (b := 4) eσ198 (fun q => absurd q.1 (by decide))).trans ((kq (a := 2) (b := 4) eσ195 (by omega)).trans ((kq (a := 2) (b := 4) eσ190 (fun q => absurd q.1 (by decide))).trans (k29.trans ((kq (a := 2) (b := 4) eσ13 (fun q => absurd q.1 (by decide))).trans ((kq (a := 2) (b := 4) eσ10 (fun q => absurd q.1 (by decide))).trans ((kq (a := 2) (b := 4) eσ8 (fun q => absurd q.1 (by decide))))))))), (kq (a := 2) (b := 5) eσ198 (fun q => absurd q.1 (by decide))).trans ((kq (a := 2) (b := 5) eσ195 (by omega)).trans ((kq (a := 2) (b := 5) eσ190 (fun q => absurd q.1 (by decide))).trans (k30.trans ((kq (a := 2) (b := 5) eσ13 (fun q => absurd q.1 (by decide))).trans ((kq (a := 2) (b := 5) eσ10 (fun q => absurd q.1 (by decide))).trans ((kq (a := 2) (b := 5) eσ8 (fun q => absurd q.1 (by decide))))))))), (kq (a := 2) (b := 6) eσ198 (fun q => absurd q.1 (by decide))).trans ((kq (a := 2) (b := 6) eσ195 (by omega)).trans ((kq (a := 2) (b := 6) eσ190 (fun q => absurd q.1 (by decide))).trans (k31.trans ((kq (a := 2) (b := 6) eσ13 (fun q => absurd q.1 (by decide))).trans ((kq (a := 2) (b := 6) eσ10 (fun q => absurd q.1 (by decide))).trans ((kq (a := 2) (b := 6) eσ8 (fun q => absurd q.1 (by decide))))))))), (kq (a := 3) (b := 8) eσ198 (fun q => absurd q.1 (by decide))).trans ((kq (a := 3) (b := 8) eσ195 (by omega)).trans ((kq (a := 3) (b := 8) eσ190 (fun q => absurd q.1 (by decide))).trans (k32.trans ((kq (a := 3) (b := 8) eσ13 (fun q => absurd q.1 (by decide))).trans ((kq (a := 3) (b := 8) eσ10 (fun q => absurd q.1 (by decide))).trans ((kq (a := 3) (b := 8) eσ8 (fun q => absurd q.1 (by decide)))))))))⟩) trivial
          · first | have f220 := (noteqE (rfl : x1.toInt = x1.toInt) (show (9 : Int32).toInt = 9 from by decide)).mp c181 | skip
            unfold fX7_add_j128
            intro v221 ev221
            intro σ222 eσ222
            have f223 := tB v221
            have f224 := K1.g_6_5 hσ20
            have f225 := congrArg Int32.toInt k27
            have f226 := K1.g_6_5 hσ13
            have q227 : σ13.1 6 5 = σ10.1 6 5 := by rw [eσ13]; exact congrFun (u1_ne (by decide)) 5
            have f228 := congrArg Int32.toInt q227
            have f229 := K1.g_6_5 hσ10
            have q230 : σ10.1 6 5 = σ8.1 6 5 := by rw [eσ10]; exact congrFun (u1_ne (by decide)) 5
            have f231 := congrArg Int32.toInt q230
            have f232 := K1.g_6_5 hσ8
            have q233 : σ8.1 6 5 = σ.1 6 5 := by rw [eσ8]; exact congrFun (u1_ne (by decide)) 5
            have f234 := congrArg Int32.toInt q233
            first | have f236 : v221.toInt = ((σ20.1 6 5).toInt + (1)) := (congrArg Int32.toInt ev221).trans (aOkE (rfl : (σ20.1 6 5).toInt = (σ20.1 6 5).toInt) (show (1 : Int32).toInt = 1 from by decide) (by omega) (by omega)) | skip
            have hσ222 : K1 σ0 σ222 := by rw [eσ222]; exact hσ20.u (Rg1.r_6_5 (leP (rfl : v221.toInt = v221.toInt) (by omega)) (geP (rfl : v221.toInt = v221.toInt) (by omega))) (fun q => absurd q.1 (by decide)) (fun q => absurd q.1 (by decide))
            exact hQ _ _ hσ222 (⟨(kq (a := 3) (b := 7) eσ222 (fun q => absurd q.1 (by decide))).trans (k22.trans ((kq (a := 3) (b := 7) eσ13 (fun q => absurd q.1 (by decide))).trans ((kq (a := 3) (b := 7) eσ10 (fun q => absurd q.1 (by decide))).trans ((kq (a := 3) (b := 7) eσ8 (fun q => absurd q.1 (by decide))))))), (kq (a := 3) (b := 11) eσ222 (fun q => absurd q.1 (by decide))).trans (k23.trans ((kq (a := 3) (b := 11) eσ13 (fun q => absurd q.1 (by decide))).trans ((kq (a := 3) (b := 11) eσ10 (fun q => absurd q.1 (by decide))).trans ((kq (a := 3) (b := 11) eσ8 (fun q => absurd q.1 (by decide))))))), (kq (a := 3) (b := 6) eσ222 (fun q => absurd q.1 (by decide))).trans (k24.trans ((kq (a := 3) (b := 6) eσ13 (fun q => absurd q.1 (by decide))).trans ((kq (a := 3) (b := 6) eσ10 (fun q => absurd q.1 (by decide))).trans ((kq (a := 3) (b := 6) eσ8 (fun q => absurd q.1 (by decide))))))), (kq (a := 9) (b := 9) eσ222 (fun q => absurd q.1 (by decide))).trans (k25.trans ((kq (a := 9) (b := 9) eσ13 (fun q => absurd q.1 (by decide))).trans ((kq (a := 9) (b := 9) eσ10 (fun q => absurd q.1 (by decide))).trans ((kq (a := 9) (b := 9) eσ8 (fun q => absurd q.1 (by decide))))))), (kq (a := 9) (b := 10) eσ222 (fun q => absurd q.1 (by decide))).trans (k26.trans ((kq (a := 9) (b := 10) eσ13 (fun q => absurd q.1 (by decide))).trans ((kq (a := 9) (b := 10) eσ10 (fun q => absurd q.1 (by decide))).trans ((kq (a := 9) (b := 10) eσ8 (fun q => absurd q.1 (by decide))))))), (kq (a := 7) (b := 4) eσ222 (fun q => absurd q.1 (by decide))).trans (k28.trans ((kq (a := 7) (b := 4) eσ13 (fun q => absurd q.1 (by decide))).trans ((kq (a := 7) (b := 4) eσ10 (fun q => absurd q.1 (by decide))).trans ((kq (a := 7) (b := 4) eσ8 (fun q => absurd q.1 (by decide))))))), (kq (a := 2) (b := 4) eσ222 (fun q => absurd q.1 (by decide))).trans (k29.trans ((kq (a := 2) (b := 4) eσ13 (fun q => absurd q.1 (by decide))).trans ((kq (a := 2) (b := 4) eσ10 (fun q => absurd q.1 (by decide))).trans ((kq (a := 2) (b := 4) eσ8 (fun q => absurd q.1 (by decide))))))), (kq (a := 2) (b := 5) eσ222 (fun q => absurd q.1 (by decide))).trans (k30.trans ((kq (a := 2) (b := 5) eσ13 (fun q => absurd q.1 (by decide))).trans ((kq (a := 2) (b := 5) eσ10 (fun q => absurd q.1 (by decide))).trans ((kq (a := 2) (b := 5) eσ8 (fun q => absurd q.1 (by decide))))))), (kq (a := 2) (b := 6) eσ222 (fun q => absurd q.1 (by decide))).trans (k31.trans ((kq (a := 2) (b := 6) eσ13 (fun q => absurd q.1 (by decide))).trans ((kq (a := 2) (b := 6) eσ10 (fun q => absurd q.1 (by decide))).trans ((kq (a := 2) (b := 6) eσ8 (fun q => absurd q.1 (by decide))))))), (kq (a := 3) (b := 8) eσ222 (fun q => absurd q.1 (by decide))).trans (k32.trans ((kq (a := 3) (b := 8) eσ13 (fun q => absurd q.1 (by decide))).trans ((kq (a := 3) (b := 8) eσ10 (fun q => absurd q.1 (by decide))).trans ((kq (a := 3) (b := 8) eσ8 (fun q => absurd q.1 (by decide)))))))⟩) trivial
      · first | have f238 := (notleE (show (20 : Int32).toInt = 20 from by decide) (rfl : y21.toInt = y21.toInt)).mp c138 | skip
        refine ⟨fun c239 => ?_, fun c239 => ?_⟩
        · first | have f241 := (leE (show (120 : Int32).toInt = 120 from by decide) (rfl : y21.toInt = y21.toInt)).mp c239 | skip
          unfold fX7_add_j85
          refine ⟨fun c242 => ?_, fun c242 => ?_⟩
          · first | have f244 := (eqE (rfl : x1.toInt = x1.toInt) (show (8 : Int32).toInt = 8 from by decide)).mp c242 | skip
            unfold fX7_add_j97
            have g246 : vp_in v4 60 := inE (rfl : v4.toInt = v4.toInt) (by omega) (by omega)
            refine ⟨g246, ?_⟩
            have hk247 : r20 (123 + v4.toNatClampNeg) := (r20_in g246)
            have hk247x := vp_lt g246
            have hk247b := r20_b hk247
            have g248 : vp_in (0 : Int32) 20 := inE (show (0 : Int32).toInt = 0 from by decide) (by omega) (by omega)
            refine ⟨g248, ?_⟩
            intro v249 ev249
            refine ⟨inE (rfl : v4.toInt = v4.toInt) (by omega) (by omega), ?_⟩
            intro σ251 eσ251
            have hσ251 : K1 σ0 σ251 := by rw [eσ251]; exact hσ20.u (Rg1.ra_19 _ _) (fun q => absurd q.1 (by decide)) (fun q => absurd q.1 (by decide))
            have g253 : vp_in v4 60 := inE (rfl : v4.toInt = v4.toInt) (by omega) (by omega)
            refine ⟨g253, ?_⟩
            have hk254 : r20 (123 + v4.toNatClampNeg) := (r20_in g253)
            have hk254x := vp_lt g253
            have hk254b := r20_b hk254
            intro v255 ev255
            refine ⟨inE (show (0 : Int32).toInt = 0 from by decide) (by omega) (by omega), ?_⟩
            intro σ256 eσ256
            have kb257 := r20_b hk254
            have hσ256 : K1 σ0 σ256 := by rw [eσ256]; exact hσ251.u (rg_r20 hk254) (by omega) (by omega)
            unfold fX7_add_j128
            intro v258 ev258
            intro σ259 eσ259
            have f260 := tB v258
            have f261 := K1.g_6_5 hσ256
            have q262 : σ256.1 6 5 = σ251.1 6 5 := by rw [eσ256]; exact congrFun (u1_ne (by omega)) 5
            have f263 := congrArg Int32.toInt q262
            have f264 := K1.g_6_5 hσ251
            have q265 : σ251.1 6 5 = σ20.1 6 5 := by rw [eσ251]; exact congrFun (u1_ne (by decide)) 5
            have f266 := congrArg Int32.toInt q265
            have f267 := K1.g_6_5 hσ20
            have f268 := congrArg Int32.toInt k27
            have f269 := K1.g_6_5 hσ13
            have q270 : σ13.1 6 5 = σ10.1 6 5 := by rw [eσ13]; exact congrFun (u1_ne (by decide)) 5
            have f271 := congrArg Int32.toInt q270
            have f272 := K1.g_6_5 hσ10
            have q273 : σ10.1 6 5 = σ8.1 6 5 := by rw [eσ10]; exact congrFun (u1_ne (by decide)) 5
            have f274 := congrArg Int32.toInt q273
            have f275 := K1.g_6_5 hσ8
            have q276 : σ8.1 6 5 = σ.1 6 5 := by rw [eσ8]; exact congrFun (u1_ne (by decide)) 5
            have f277 := congrArg Int32.toInt q276
            first | have f279 : v258.toInt = ((σ256.1 6 5).toInt + (1)) := (congrArg Int32.toInt ev258).trans (aOkE (rfl : (σ256.1 6 5).toInt = (σ256.1 6 5).toInt) (show (1 : Int32).toInt = 1 from by decide) (by omega) (by omega)) | skip
            have hσ259 : K1 σ0 σ259 := by rw [eσ259]; exact hσ256.u (Rg1.r_6_5 (leP (rfl : v258.toInt = v258.toInt) (by omega)) (geP (rfl : v258.toInt = v258.toInt) (by omega))) (fun q => absurd q.1 (by decide)) (fun q => absurd q.1 (by decide))
            exact hQ _ _ hσ259 (⟨(kq (a := 3) (b := 7) eσ259 (fun q => absurd q.1 (by decide))).trans ((kq (a := 3) (b := 7) eσ256 (by omega)).trans ((kq (a := 3) (b := 7) eσ251 (fun q => absurd q.1 (by decide))).trans (k22.trans ((kq (a := 3) (b := 7) eσ13 (fun q => absurd q.1 (by decide))).trans ((kq (a := 3) (b := 7) eσ10 (fun q => absurd q.1 (by decide))).trans ((kq (a := 3) (b := 7) eσ8 (fun q => absurd q.1 (by decide))))))))), (kq (a := 3) (b := 11) eσ259 (fun q => absurd q.1 (by decide))).trans ((kq (a := 3) (b := 11) eσ256 (by omega)).trans ((kq (a := 3) (b := 11) eσ251 (fun q => absurd q.1 (by decide))).trans (k23.trans ((kq (a := 3) (b := 11) eσ13 (fun q => absurd q.1 (by decide))).trans ((kq (a := 3) (b := 11) eσ10 (fun q => absurd q.1 (by decide))).trans ((kq (a := 3) (b := 11) eσ8 (fun q => absurd q.1 (by decide))))))))), (kq (a := 3) (b := 6) eσ259 (fun q => absurd q.1 (by decide))).trans ((kq (a := 3) (b := 6) eσ256 (by omega)).trans ((kq (a := 3) (b := 6) eσ251 (fun q => absurd q.1 (by decide))).trans (k24.trans ((kq (a := 3) (b := 6) eσ13 (fun q => absurd q.1 (by decide))).trans ((kq (a := 3) (b := 6) eσ10 (fun q => absurd q.1 (by decide))).trans ((kq (a := 3) (b := 6) eσ8 (fun q => absurd q.1 (by decide))))))))), (kq (a := 9) (b := 9) eσ259 (fun q => absurd q.1 (by decide))).trans ((kq (a := 9) (b := 9) eσ256 (by omega)).trans ((kq (a := 9) (b := 9) eσ251 (fun q => absurd q.1 (by decide))).trans (k25.trans ((kq (a := 9) (b := 9) eσ13 (fun q => absurd q.1 (by decide))).trans ((kq (a := 9) (b := 9) eσ10 (fun q => absurd q.1 (by decide))).trans ((kq (a := 9) (b := 9) eσ8 (fun q => absurd q.1 (by decide))))))))), (kq (a := 9) (b := 10) eσ259 (fun q => absurd q.1 (by decide))).trans ((kq (a := 9) (b := 10) eσ256 (by omega)).trans ((kq (a := 9) (b := 10) eσ251 (fun q => absurd q.1 (by decide))).trans (k26.trans ((kq (a := 9) (b := 10) eσ13 (fun q => absurd q.1 (by decide))).trans ((kq (a := 9) (b := 10) eσ10 (fun q => absurd q.1 (by decide))).trans ((kq (a := 9) (b := 10) eσ8 (fun q => absurd q.1 (by decide))))))))), (kq (a := 7) (b := 4) eσ259 (fun q => absurd q.1 (by decide))).trans ((kq (a := 7) (b := 4) eσ256 (by omega)).trans ((kq (a := 7) (b := 4) eσ251 (fun q => absurd q.1 (by decide))).trans (k28.trans ((kq (a := 7) (b := 4) eσ13 (fun q => absurd q.1 (by decide))).trans ((kq (a := 7) (b := 4) eσ10 (fun q => absurd q.1 (by decide))).trans ((kq (a := 7) (b := 4) eσ8 (fun q => absurd q.1 (by decide))))))))), (kq (a := 2) (b := 4) eσ259 (fun q => absurd q.1 (by decide))).trans ((kq (a := 2) (b := 4) eσ256 (by omega)).trans ((kq (a := 2) (b := 4) eσ251 (fun q => absurd q.1 (by decide))).trans (k29.trans ((kq (a := 2) (b := 4) eσ13 (fun q => absurd q.1 (by decide))).trans ((kq (a := 2) (b := 4) eσ10 (fun q => absurd q.1 (by decide))).trans ((kq (a := 2) (b := 4) eσ8 (fun q => absurd q.1 (by decide))))))))), (kq (a := 2) (b := 5) eσ259 (fun q => absurd q.1 (by decide))).trans ((kq (a := 2) (b := 5) eσ256 (by omega)).trans ((kq (a := 2) (b := 5) eσ251 (fun q => absurd q.1 (by decide))).trans (k30.trans ((kq (a := 2) (b := 5) eσ13 (fun q => absurd q.1 (by decide))).trans ((kq (a := 2) (b := 5) eσ10 (fun q => absurd q.1 (by decide))).trans ((kq (a := 2) (b := 5) eσ8 (fun q => absurd q.1 (by decide))))))))), (kq (a := 2) (b := 6) eσ259 (fun q => absurd q.1 (by decide))).trans ((kq (a := 2) (b := 6) eσ256 (by omega)).trans ((kq (a := 2) (b := 6) eσ251 (fun q => absurd q.1 (by decide))).trans (k31.trans ((kq (a := 2) (b := 6) eσ13 (fun q => absurd q.1 (by decide))).trans ((kq (a := 2) (b := 6) eσ10 (fun q => absurd q.1 (by decide))).trans ((kq (a := 2) (b := 6) eσ8 (fun q => absurd q.1 (by decide))))))))), (kq (a := 3) (b := 8) eσ259 (fun q => absurd q.1 (by decide))).trans ((kq (a := 3) (b := 8) eσ256 (by omega)).trans ((kq (a := 3) (b := 8) eσ251 (fun q => absurd q.1 (by decide))).trans (k32.trans ((kq (a := 3) (b := 8) eσ13 (fun q => absurd q.1 (by decide))).trans ((kq (a := 3) (b := 8) eσ10 (fun q => absurd q.1 (by decide))).trans ((kq (a := 3) (b := 8) eσ8 (fun q => absurd q.1 (by decide)))))))))⟩) trivial
          · first | have f281 := (noteqE (rfl : x1.toInt = x1.toInt) (show (8 : Int32).toInt = 8 from by decide)).mp c242 | skip
            refine ⟨fun c282 => ?_, fun c282 => ?_⟩
            · first | have f284 := (eqE (rfl : x1.toInt = x1.toInt) (show (9 : Int32).toInt = 9 from by decide)).mp c282 | skip
              unfold fX7_add_j97
              have g286 : vp_in v4 60 := inE (rfl : v4.toInt = v4.toInt) (by omega) (by omega)
              refine ⟨g286, ?_⟩
              have hk287 : r20 (123 + v4.toNatClampNeg) := (r20_in g286)
              have hk287x := vp_lt g286
              have hk287b := r20_b hk287
              have g288 : vp_in (0 : Int32) 20 := inE (show (0 : Int32).toInt = 0 from by decide) (by omega) (by omega)
              refine ⟨g288, ?_⟩
              intro v289 ev289
              refine ⟨inE (rfl : v4.toInt = v4.toInt) (by omega) (by omega), ?_⟩
              intro σ291 eσ291
              have hσ291 : K1 σ0 σ291 := by rw [eσ291]; exact hσ20.u (Rg1.ra_19 _ _) (fun q => absurd q.1 (by decide)) (fun q => absurd q.1 (by decide))
              have g293 : vp_in v4 60 := inE (rfl : v4.toInt = v4.toInt) (by omega) (by omega)
              refine ⟨g293, ?_⟩
              have hk294 : r20 (123 + v4.toNatClampNeg) := (r20_in g293)
              have hk294x := vp_lt g293
              have hk294b := r20_b hk294
              intro v295 ev295
              refine ⟨inE (show (0 : Int32).toInt = 0 from by decide) (by omega) (by omega), ?_⟩
              intro σ296 eσ296
              have kb297 := r20_b hk294
              have hσ296 : K1 σ0 σ296 := by rw [eσ296]; exact hσ291.u (rg_r20 hk294) (by omega) (by omega)
              unfold fX7_add_j128
              intro v298 ev298
              intro σ299 eσ299
              have f300 := tB v298
              have f301 := K1.g_6_5 hσ296
              have q302 : σ296.1 6 5 = σ291.1 6 5 := by rw [eσ296]; exact congrFun (u1_ne (by omega)) 5
              have f303 := congrArg Int32.toInt q302
              have f304 := K1.g_6_5 hσ291
              have q305 : σ291.1 6 5 = σ20.1 6 5 := by rw [eσ291]; exact congrFun (u1_ne (by decide)) 5
              have f306 := congrArg Int32.toInt q305
              have f307 := K1.g_6_5 hσ20
              have f308 := congrArg Int32.toInt k27
              have f309 := K1.g_6_5 hσ13
              have q310 : σ13.1 6 5 = σ10.1 6 5 := by rw [eσ13]; exact congrFun (u1_ne (by decide)) 5
              have f311 := congrArg Int32.toInt q310
              have f312 := K1.g_6_5 hσ10
              have q313 : σ10.1 6 5 = σ8.1 6 5 := by rw [eσ10]; exact congrFun (u1_ne (by decide)) 5
              have f314 := congrArg Int32.toInt q313
              have f315 := K1.g_6_5 hσ8
              have q316 : σ8.1 6 5 = σ.1 6 5 := by rw [eσ8]; exact congrFun (u1_ne (by decide)) 5
              have f317 := congrArg Int32.toInt q316
              first | have f319 : v298.toInt = ((σ296.1 6 5).toInt + (1)) := (congrArg Int32.toInt ev298).trans (aOkE (rfl : (σ296.1 6 5).toInt = (σ296.1 6 5).toInt) (show (1 : Int32).toInt = 1 from by decide) (by omega) (by omega)) | skip
              have hσ299 : K1 σ0 σ299 := by rw [eσ299]; exact hσ296.u (Rg1.r_6_5 (leP (rfl : v298.toInt = v298.toInt) (by omega)) (geP (rfl : v298.toInt = v298.toInt) (by omega))) (fun q => absurd q.1 (by decide)) (fun q => absurd q.1 (by decide))
              exact hQ _ _ hσ299 (⟨(kq (a := 3) (b := 7) eσ299 (fun q => absurd q.1 (by decide))).trans ((kq (a := 3) (b := 7) eσ296 (by omega)).trans ((kq (a := 3) (b := 7) eσ291 (fun q => absurd q.1 (by decide))).trans (k22.trans ((kq (a := 3) (b := 7) eσ13 (fun q => absurd q.1 (by decide))).trans ((kq (a := 3) (b := 7) eσ10 (fun q => absurd q.1 (by decide))).trans ((kq (a := 3) (b := 7) eσ8 (fun q => absurd q.1 (by decide))))))))), (kq (a := 3) (b := 11) eσ299 (fun q => absurd q.1 (by decide))).trans ((kq (a := 3) (b := 11) eσ296 (by omega)).trans ((kq (a := 3) (b := 11) eσ291 (fun q => absurd q.1 (by decide))).trans (k23.trans ((kq (a := 3) (b := 11) eσ13 (fun q => absurd q.1 (by decide))).trans ((kq (a := 3) (b := 11) eσ10 (fun q => absurd q.1 (by decide))).trans ((kq (a := 3) (b := 11) eσ8 (fun q => absurd q.1 (by decide))))))))), (kq (a := 3) (b := 6) eσ299 (fun q => absurd q.1 (by decide))).trans ((kq (a := 3) (b := 6) eσ296 (by omega)).trans ((kq (a := 3) (b := 6) eσ291 (fun q => absurd q.1 (by decide))).trans (k24.trans ((kq (a := 3) (b := 6) eσ13 (fun q => absurd q.1 (by decide))).trans ((kq (a := 3) (b := 6) eσ10 (fun q => absurd q.1 (by decide))).trans ((kq (a := 3) (b := 6) eσ8 (fun q => absurd q.1 (by decide))))))))), (kq (a := 9) (b := 9) eσ299 (fun q => absurd q.1 (by decide))).trans ((kq (a := 9) (b := 9) eσ296 (by omega)).trans ((kq (a := 9) (b := 9) eσ291 (fun q => absurd q.1 (by decide))).trans (k25.trans ((kq (a := 9) (b := 9) eσ13 (fun q => absurd q.1 (by decide))).trans ((kq (a := 9) (b := 9) eσ10 (fun q => absurd q.1 (by decide))).trans ((kq (a := 9) (b := 9) eσ8 (fun q => absurd q.1 (by decide))))))))), (kq (a := 9) (b := 10) eσ299 (fun q => absurd q.1 (by decide))).trans ((kq (a := 9) (b := 10) eσ296 (by omega)).trans ((kq (a := 9) (b := 10) eσ291 (fun q => absurd q.1 (by decide))).trans (k26.trans ((kq (a := 9) (b := 10) eσ13 (fun q => absurd q.1 (by decide))).trans ((kq (a := 9) (b := 10) eσ10 (fun q => absurd q.1 (by decide))).trans ((kq (a := 9) (b := 10) eσ8 (fun q => absurd q.1 (by decide))))))))), (kq (a := 7) (b := 4) eσ299 (fun q => absurd q.1 (by decide))).trans ((kq (a := 7) (b := 4) eσ296 (by omega)).trans ((kq (a := 7) (b := 4) eσ291 (fun q => absurd q.1 (by decide))).trans (k28.trans ((kq (a := 7) (b := 4) eσ13 (fun q => absurd q.1 (by decide))).trans ((kq (a := 7) (b := 4) eσ10 (fun q => absurd q.1 (by decide))).trans ((kq (a := 7) (b := 4) eσ8 (fun q => absurd q.1 (by decide))))))))), (kq (a := 2) (b := 4) eσ299 (fun q => absurd q.1 (by decide))).trans ((kq (a := 2) (b := 4) eσ296 (by omega)).trans ((kq (a := 2) (b := 4) eσ291 (fun q => absurd q.1 (by decide))).trans (k29.trans ((kq (a := 2) (b := 4) eσ13 (fun q => absurd q.1 (by decide))).trans ((kq (a := 2) (b := 4) eσ10 (fun q => absurd q.1 (by decide))).trans ((kq (a := 2) (b := 4) eσ8 (fun q => absurd q.1 (by decide))))))))), (kq (a := 2) (b := 5) eσ299 (fun q => absurd q.1 (by decide))).trans ((kq (a := 2) (b := 5) eσ296 (by omega)).trans ((kq (a := 2) (b := 5) eσ291 (fun q => absurd q.1 (by decide))).trans (k30.trans ((kq (a := 2) (b := 5) eσ13 (fun q => absurd q.1 (by decide))).trans ((kq (a := 2) (b := 5) eσ10 (fun q => absurd q.1 (by decide))).trans ((kq (a := 2) (b := 5) eσ8 (fun q => absurd q.1 (by decide))))))))), (kq (a := 2) (b := 6) eσ299 (fun q => absurd q.1 (by decide))).trans ((kq (a := 2) (b := 6) eσ296 (by omega)).trans ((kq (a := 2) (b := 6) eσ291 (fun q => absurd q.1 (by decide))).trans (k31.trans ((kq (a := 2) (b := 6) eσ13 (fun q => absurd q.1 (by decide))).trans ((kq (a := 2) (b := 6) eσ10 (fun q => absurd q.1 (by decide))).trans ((kq (a := 2) (b := 6) eσ8 (fun q => absurd q.1 (by decide))))))))), (kq (a := 3) (b := 8) eσ299 (fun q => absurd q.1 (by decide))).trans ((kq (a := 3) (b := 8) eσ296 (by omega)).trans ((kq (a := 3) (b := 8) eσ291 (fun q => absurd q.1 (by decide))).trans (k32.trans ((kq (a := 3) (b := 8) eσ13 (fun q => absurd q.1 (by decide))).trans ((kq (a := 3) (b := 8) eσ10 (fun q => absurd q.1 (by decide))).trans ((kq (a := 3) (b := 8) eσ8 (fun q => absurd q.1 (by decide)))))))))⟩) trivial
            · first | have f321 := (noteqE (rfl : x1.toInt = x1.toInt) (show (9 : Int32).toInt = 9 from by decide)).mp c282 | skip
              unfold fX7_add_j128
              intro v322 ev322
              intro σ323 eσ323
              have f324 := tB v322
              have f325 := K1.g_6_5 hσ20
              have f326 := congrArg Int32.toInt k27
              have f327 := K1.g_6_5 hσ13
              have q328 : σ13.1 6 5 = σ10.1 6 5 := by rw [eσ13]; exact congrFun (u1_ne (by decide)) 5
              have f329 := congrArg Int32.toInt q328
              have f330 := K1.g_6_5 hσ10
              have q331 : σ10.1 6 5 = σ8.1 6 5 := by rw [eσ10]; exact congrFun (u1_ne (by decide)) 5
              have f332 := congrArg Int32.toInt q331
              have f333 := K1.g_6_5 hσ8
              have q334 : σ8.1 6 5 = σ.1 6 5 := by rw [eσ8]; exact congrFun (u1_ne (by decide)) 5
              have f335 := congrArg Int32.toInt q334
              first | have f337 : v322.toInt = ((σ20.1 6 5).toInt + (1)) := (congrArg Int32.toInt ev322).trans (aOkE (rfl : (σ20.1 6 5).toInt = (σ20.1 6 5).toInt) (show (1 : Int32).toInt = 1 from by decide) (by omega) (by omega)) | skip
              have hσ323 : K1 σ0 σ323 := by rw [eσ323]; exact hσ20.u (Rg1.r_6_5 (leP (rfl : v322.toInt = v322.toInt) (by omega)) (geP (rfl : v322.toInt = v322.toInt) (by omega))) (fun q => absurd q.1 (by decide)) (fun q => absurd q.1 (by decide))
              exact hQ _ _ hσ323 (⟨(kq (a := 3) (b := 7) eσ323 (fun q => absurd q.1 (by decide))).trans (k22.trans ((kq (a := 3) (b := 7) eσ13 (fun q => absurd q.1 (by decide))).trans ((kq (a := 3) (b := 7) eσ10 (fun q => absurd q.1 (by decide))).trans ((kq (a := 3) (b := 7) eσ8 (fun q => absurd q.1 (by decide))))))), (kq (a := 3) (b := 11) eσ323 (fun q => absurd q.1 (by decide))).trans (k23.trans ((kq (a := 3) (b := 11) eσ13 (fun q => absurd q.1 (by decide))).trans ((kq (a := 3) (b := 11) eσ10 (fun q => absurd q.1 (by decide))).trans ((kq (a := 3) (b := 11) eσ8 (fun q => absurd q.1 (by decide))))))), (kq (a := 3) (b := 6) eσ323 (fun q => absurd q.1 (by decide))).trans (k24.trans ((kq (a := 3) (b := 6) eσ13 (fun q => absurd q.1 (by decide))).trans ((kq (a := 3) (b := 6) eσ10 (fun q => absurd q.1 (by decide))).trans ((kq (a := 3) (b := 6) eσ8 (fun q => absurd q.1 (by decide))))))), (kq (a := 9) (b := 9) eσ323 (fun q => absurd q.1 (by decide))).trans (k25.trans ((kq (a := 9) (b := 9) eσ13 (fun q => absurd q.1 (by decide))).trans ((kq (a := 9) (b := 9) eσ10 (fun q => absurd q.1 (by decide))).trans ((kq (a := 9) (b := 9) eσ8 (fun q => absurd q.1 (by decide))))))), (kq (a := 9) (b := 10) eσ323 (fun q => absurd q.1 (by decide))).trans (k26.trans ((kq (a := 9) (b := 10) eσ13 (fun q => absurd q.1 (by decide))).trans ((kq (a := 9) (b := 10) eσ10 (fun q => absurd q.1 (by decide))).trans ((kq (a := 9) (b := 10) eσ8 (fun q => absurd q.1 (by decide))))))), (kq (a := 7) (b := 4) eσ323 (fun q => absurd q.1 (by decide))).trans (k28.trans ((kq (a := 7) (b := 4) eσ13 (fun q => absurd q.1 (by decide))).trans ((kq (a := 7) (b := 4) eσ10 (fun q => absurd q.1 (by decide))).trans ((kq (a := 7) (b := 4) eσ8 (fun q => absurd q.1 (by decide))))))), (kq (a := 2) (b := 4) eσ323 (fun q => absurd q.1 (by decide))).trans (k29.trans ((kq (a := 2) (b := 4) eσ13 (fun q => absurd q.1 (by decide))).trans ((kq (a := 2) (b := 4) eσ10 (fun q => absurd q.1 (by decide))).trans ((kq (a := 2) (b := 4) eσ8 (fun q => absurd q.1 (by decide))))))), (kq (a := 2) (b := 5) eσ323 (fun q => absurd q.1 (by decide))).trans (k30.trans ((kq (a := 2) (b := 5) eσ13 (fun q => absurd q.1 (by decide))).trans ((kq (a := 2) (b := 5) eσ10 (fun q => absurd q.1 (by decide))).trans ((kq (a := 2) (b := 5) eσ8 (fun q => absurd q.1 (by decide))))))), (kq (a := 2) (b := 6) eσ323 (fun q => absurd q.1 (by decide))).trans (k31.trans ((kq (a := 2) (b := 6) eσ13 (fun q => absurd q.1 (by decide))).trans ((kq (a := 2) (b := 6) eσ10 (fun q => absurd q.1 (by decide))).trans ((kq (a := 2) (b := 6) eσ8 (fun q => absurd q.1 (by decide))))))), (kq (a := 3) (b := 8) eσ323 (fun q => absurd q.1 (by decide))).trans (k32.trans ((kq (a := 3) (b := 8) eσ13 (fun q => absurd q.1 (by decide))).trans ((kq (a := 3) (b := 8) eσ10 (fun q => absurd q.1 (by decide))).trans ((kq (a := 3) (b := 8) eσ8 (fun q => absurd q.1 (by decide)))))))⟩) trivial
        · first | have f339 := (notleE (show (120 : Int32).toInt = 120 from by decide) (rfl : y21.toInt = y21.toInt)).mp c239 | skip
          have g341 : vp_in v4 60 := inE (rfl : v4.toInt = v4.toInt) (by omega) (by omega)
          refine ⟨g341, ?_⟩
          have hk342 : r20 (123 + v4.toNatClampNeg) := (r20_in g341)
          have hk342x := vp_lt g341
          have hk342b := r20_b hk342
          have g344 : vp_in y21 120 := inE (rfl : y21.toInt = y21.toInt) (by omega) (by omega)
          refine ⟨g344, ?_⟩
          intro v345 ev345
          refine ⟨inE (rfl : y21.toInt = y21.toInt) (by omega) (by omega), ?_⟩
          intro σ347 eσ347
          have kb348 := r20_b hk342
          have hσ347 : K1 σ0 σ347 := by rw [eσ347]; exact hσ20.u (rg_r20 hk342) (by omega) (by omega)
          intro v349 ev349
          have f350 := tB v349
          first | have f352 : v349.toInt = (y21.toInt + (1)) := (congrArg Int32.toInt ev349).trans (aOkE (rfl : y21.toInt = y21.toInt) (show (1 : Int32).toInt = 1 from by decide) (by omega) (by omega)) | skip
          exact ih19 v349 σ347 ⟨hσ347, (kq (a := 3) (b := 7) eσ347 (by omega)).trans (k22), (kq (a := 3) (b := 11) eσ347 (by omega)).trans (k23), (kq (a := 3) (b := 6) eσ347 (by omega)).trans (k24), (kq (a := 9) (b := 9) eσ347 (by omega)).trans (k25), (kq (a := 9) (b := 10) eσ347 (by omega)).trans (k26), (kq (a := 6) (b := 5) eσ347 (by omega)).trans (k27), (kq (a := 7) (b := 4) eσ347 (by omega)).trans (k28), (kq (a := 2) (b := 4) eσ347 (by omega)).trans (k29), (kq (a := 2) (b := 5) eσ347 (by omega)).trans (k30), (kq (a := 2) (b := 6) eσ347 (by omega)).trans (k31), (kq (a := 3) (b := 8) eσ347 (by omega)).trans (k32), by omega⟩ (by (try dsimp only); omega)
  · have f353 := K1.g_6_5 hσ
    first | have f354 := (notltE (rfl : (σ.1 6 5).toInt = (σ.1 6 5).toInt) (show (60 : Int32).toInt = 60 from by decide)).mp c1 | skip
    exact hQ _ _ hσ (⟨rfl, rfl, rfl, rfl, rfl, rfl, rfl, rfl, rfl, rfl⟩) trivial
