set_option maxHeartbeats 4000000 in
theorem sX2_stepPlain {N : Nat} (hN : 4294967400 ≤ N) {k1 : Nat} (hk1 : jobK k1) {Q : St → Prop} {σ0 σ : St} (hs3_7 : 1 ≤ (σ.1 3 7).toInt) (hσ : K1 σ0 σ) (hQ : ∀ τ : St, K1 σ0 τ → (τ.1 9 9 = σ.1 9 9 ∧ τ.1 9 10 = σ.1 9 10 ∧ τ.1 6 5 = σ.1 6 5 ∧ τ.1 7 4 = σ.1 7 4 ∧ τ.1 2 4 = σ.1 2 4 ∧ τ.1 2 5 = σ.1 2 5 ∧ τ.1 2 6 = σ.1 2 6) → Q τ) : fX2_stepPlain N k1 Q σ := by
  unfold fX2_stepPlain
  have kbhk1 := jobK_b hk1
  have f1 := tB (σ.1 k1 2)
  refine sX2_readByte hN hσ (fun r14 σ2 hσ2 kk13 p15 => ?_)
  obtain ⟨k3, k4, k5, k6, k7, k8, k9, k10, k11, k12⟩ := kk13
  refine ⟨fun c16 => ?_, fun c16 => ?_⟩
  · have f17 := tB (σ2.1 3 11)
    have f18 : (0 : Int32).toInt = 0 := by decide
    have f19 := congrArg Int32.toInt c16
    refine ⟨fun c20 => ?_, fun c20 => ?_⟩
    · have f21 := tB r14
      have f23 := congrArg Int32.toInt c20
      intro v24 ev24
      intro σ25 eσ25
      have f26 := tB v24
      have f27 := K1.g_3_7 hσ2
      have f28 := congrArg Int32.toInt k3
      have f29 := K1.g_3_7 hσ
      have f30 : (1 : Int32).toInt = 1 := by decide
      have f31 := tS (σ2.1 3 7) (1 : Int32)
      have f32 := tB ((σ2.1 3 7) - 1)
      have f33 := congrArg Int32.toInt ev24
      have hσ25 : K1 σ0 σ25 := by rw [eσ25]; exact hσ2.u (Rg1.r_3_7 (by omega) (by omega)) (by omega) (by omega)
      exact hQ _ hσ25 (⟨(kq (a := 9) (b := 9) eσ25 (by omega)).trans (k5), (kq (a := 9) (b := 10) eσ25 (by omega)).trans (k6), (kq (a := 6) (b := 5) eσ25 (by omega)).trans (k7), (kq (a := 7) (b := 4) eσ25 (by omega)).trans (k8), (kq (a := 2) (b := 4) eσ25 (by omega)).trans (k9), (kq (a := 2) (b := 5) eσ25 (by omega)).trans (k10), (kq (a := 2) (b := 6) eσ25 (by omega)).trans (k11)⟩)
    · have f34 := tB r14
      have f36 := mt Int32.toInt_inj.mp c20
      intro v37 ev37
      intro σ38 eσ38
      have kb39 := jobK_b hk1
      have hσ38 : K1 σ0 σ38 := by rw [eσ38]; exact hσ2.u (rg_jobK hk1) (by omega) (by omega)
      refine sX2_give hN hσ38 (fun σ41 hσ41 kk49 => ?_)
      obtain ⟨k42, k43, k44, k45, k46, k47, k48⟩ := kk49
      exact hQ _ hσ41 (⟨k42.trans ((kq (a := 9) (b := 9) eσ38 (by omega)).trans (k5)), k43.trans ((kq (a := 9) (b := 10) eσ38 (by omega)).trans (k6)), k44.trans ((kq (a := 6) (b := 5) eσ38 (by omega)).trans (k7)), k45.trans ((kq (a := 7) (b := 4) eσ38 (by omega)).trans (k8)), k46.trans ((kq (a := 2) (b := 4) eσ38 (by omega)).trans (k9)), k47.trans ((kq (a := 2) (b := 5) eσ38 (by omega)).trans (k10)), k48.trans ((kq (a := 2) (b := 6) eσ38 (by omega)).trans (k11))⟩)
  · have f50 := tB (σ2.1 3 11)
    have f51 : (0 : Int32).toInt = 0 := by decide
    have f52 := mt Int32.toInt_inj.mp c16
    exact hQ _ hσ2 (⟨k5, k6, k7, k8, k9, k10, k11⟩)
set_option maxHeartbeats 4000000 in
theorem sX2_stepWide {N : Nat} (hN : 4294967400 ≤ N) {k1 : Nat} (hk1 : jobK k1) {Q : St → Prop} {σ0 σ : St} (hs3_7 : 1 ≤ (σ.1 3 7).toInt) (hσ : K1 σ0 σ) (hQ : ∀ τ : St, K1 σ0 τ → (τ.1 9 9 = σ.1 9 9 ∧ τ.1 9 10 = σ.1 9 10 ∧ τ.1 6 5 = σ.1 6 5 ∧ τ.1 7 4 = σ.1 7 4 ∧ τ.1 2 4 = σ.1 2 4 ∧ τ.1 2 5 = σ.1 2 5 ∧ τ.1 2 6 = σ.1 2 6) → Q τ) : fX2_stepWide N k1 Q σ := by
  unfold fX2_stepWide
  have kbhk1 := jobK_b hk1
  have f1 := tB (σ.1 k1 2)
  refine sX2_readFour hN hσ (fun r14 σ2 hσ2 kk13 p15 => ?_)
  obtain ⟨k3, k4, k5, k6, k7, k8, k9, k10, k11, k12⟩ := kk13
  refine ⟨fun c16 => ?_, fun c16 => ?_⟩
  · have f17 := tB (σ2.1 3 11)
    have f18 : (0 : Int32).toInt = 0 := by decide
    have f19 := congrArg Int32.toInt c16
    refine ⟨fun c20 => ?_, fun c20 => ?_⟩
    · have f21 := tB r14
      have f23 := congrArg Int32.toInt c20
      intro v24 ev24
      intro σ25 eσ25
      have f26 := tB v24
      have f27 := K1.g_3_7 hσ2
      have f28 := congrArg Int32.toInt k3
      have f29 := K1.g_3_7 hσ
      have f30 : (1 : Int32).toInt = 1 := by decide
      have f31 := tS (σ2.1 3 7) (1 : Int32)
      have f32 := tB ((σ2.1 3 7) - 1)
      have f33 := congrArg Int32.toInt ev24
      have hσ25 : K1 σ0 σ25 := by rw [eσ25]; exact hσ2.u (Rg1.r_3_7 (by omega) (by omega)) (by omega) (by omega)
      exact hQ _ hσ25 (⟨(kq (a := 9) (b := 9) eσ25 (by omega)).trans (k5), (kq (a := 9) (b := 10) eσ25 (by omega)).trans (k6), (kq (a := 6) (b := 5) eσ25 (by omega)).trans (k7), (kq (a := 7) (b := 4) eσ25 (by omega)).trans (k8), (kq (a := 2) (b := 4) eσ25 (by omega)).trans (k9), (kq (a := 2) (b := 5) eσ25 (by omega)).trans (k10), (kq (a := 2) (b := 6) eσ25 (by omega)).trans (k11)⟩)
    · have f34 := tB r14
      have f36 := mt Int32.toInt_inj.mp c20
      intro v37 ev37
      intro σ38 eσ38
      have kb39 := jobK_b hk1
      have hσ38 : K1 σ0 σ38 := by rw [eσ38]; exact hσ2.u (rg_jobK hk1) (by omega) (by omega)
      refine sX2_give hN hσ38 (fun σ41 hσ41 kk49 => ?_)
      obtain ⟨k42, k43, k44, k45, k46, k47, k48⟩ := kk49
      exact hQ _ hσ41 (⟨k42.trans ((kq (a := 9) (b := 9) eσ38 (by omega)).trans (k5)), k43.trans ((kq (a := 9) (b := 10) eσ38 (by omega)).trans (k6)), k44.trans ((kq (a := 6) (b := 5) eσ38 (by omega)).trans (k7)), k45.trans ((kq (a := 7) (b := 4) eσ38 (by omega)).trans (k8)), k46.trans ((kq (a := 2) (b := 4) eσ38 (by omega)).trans (k9)), k47.trans ((kq (a := 2) (b := 5) eσ38 (by omega)).trans (k10)), k48.trans ((kq (a := 2) (b := 6) eσ38 (by omega)).trans (k11))⟩)
  · have f50 := tB (σ2.1 3 11)
    have f51 : (0 : Int32).toInt = 0 := by decide
    have f52 := mt Int32.toInt_inj.mp c16
    exact hQ _ hσ2 (⟨k5, k6, k7, k8, k9, k10, k11⟩)
set_option maxHeartbeats 4000000 in
theorem sX2_followBranch {N : Nat} (hN : 4294967400 ≤ N) {k1 : Nat} {x2 : Int32} (hk1 : jobK k1) {Q : St → Prop} {σ0 σ : St} (hσ : K1 σ0 σ) (hQ : ∀ τ : St, K1 σ0 τ → (τ.1 3 7 = σ.1 3 7 ∧ τ.1 3 6 = σ.1 3 6 ∧ τ.1 9 9 = σ.1 9 9 ∧ τ.1 9 10 = σ.1 9 10 ∧ τ.1 6 5 = σ.1 6 5 ∧ τ.1 7 4 = σ.1 7 4 ∧ τ.1 2 4 = σ.1 2 4 ∧ τ.1 2 5 = σ.1 2 5 ∧ τ.1 2 6 = σ.1 2 6 ∧ τ.1 3 8 = σ.1 3 8) → Q τ) : fX2_followBranch N k1 x2 Q σ := by
  unfold fX2_followBranch
  have kbhk1 := jobK_b hk1
  have f1 := tB (σ.1 k1 2)
  refine sX2_readByte hN hσ (fun r14 σ2 hσ2 kk13 p15 => ?_)
  obtain ⟨k3, k4, k5, k6, k7, k8, k9, k10, k11, k12⟩ := kk13
  intro v16 ev16
  have f17 := tB x2
  have f18 : (1 : Int32).toInt = 1 := by decide
  have f19 := tA x2 (1 : Int32)
  have f20 := tB (x2 + 1)
  have f21 := tB (4 * v16)
  have f22 := tA (x2 + 1) (4 * v16)
  have f23 := tB ((x2 + 1) + (4 * v16))
  refine sX2_readFour hN hσ2 (fun r36 σ24 hσ24 kk35 p37 => ?_)
  obtain ⟨k25, k26, k27, k28, k29, k30, k31, k32, k33, k34⟩ := kk35
  refine ⟨fun c38 => ?_, fun c38 => ?_⟩
  · have f39 := tB (σ24.1 3 11)
    have f40 : (0 : Int32).toInt = 0 := by decide
    have f41 := congrArg Int32.toInt c38
    intro σ42 eσ42
    have kb43 := jobK_b hk1
    have hσ42 : K1 σ0 σ42 := by rw [eσ42]; exact hσ24.u (rg_jobK hk1) (by omega) (by omega)
    intro σ44 eσ44
    have kb45 := jobK_b hk1
    have hσ44 : K1 σ0 σ44 := by rw [eσ44]; exact hσ42.u (rg_jobK hk1) (by omega) (by omega)
    intro v46 ev46
    intro σ47 eσ47
    have kb48 := jobK_b hk1
    have hσ47 : K1 σ0 σ47 := by rw [eσ47]; exact hσ44.u (rg_jobK hk1) (by omega) (by omega)
    refine ⟨fun c49 => ?_, fun c49 => ?_⟩
    · have f50 := tB (σ47.1 k1 3)
      have q51 : σ47.1 k1 3 = v46 := by rw [eσ47, u1_at]; exact if_pos rfl
      have f52 := congrArg Int32.toInt q51
      have f53 := tB v46
      have f54 := tB (σ44.1 k1 3)
      have q55 : σ44.1 k1 3 = σ42.1 k1 3 := by rw [eσ44, u1_at]; exact if_neg (by decide)
      have f56 := congrArg Int32.toInt q55
      have f57 := tB (σ42.1 k1 3)
      have q58 : σ42.1 k1 3 = σ24.1 k1 3 := by rw [eσ42, u1_at]; exact if_neg (by decide)
      have f59 := congrArg Int32.toInt q58
      have f60 := tB (σ24.1 k1 3)
      have f62 := tA (σ44.1 k1 3) (1 : Int32)
      have f63 := tB ((σ44.1 k1 3) + 1)
      have f64 := congrArg Int32.toInt ev46
      have f65 : (8 : Int32).toInt = 8 := by decide
      have f66 := congrArg Int32.toInt c49
      intro σ67 eσ67
      have kb68 := jobK_b hk1
      have hσ67 : K1 σ0 σ67 := by rw [eσ67]; exact hσ47.u (rg_jobK hk1) (by omega) (by omega)
      intro v69 ev69
      intro σ70 eσ70
      have kb71 := jobK_b hk1
      have hσ70 : K1 σ0 σ70 := by rw [eσ70]; exact hσ67.u (rg_jobK hk1) (by omega) (by omega)
      exact hQ _ hσ70 (⟨(kq (a := 3) (b := 7) eσ70 (by omega)).trans ((kq (a := 3) (b := 7) eσ67 (by omega)).trans ((kq (a := 3) (b := 7) eσ47 (by omega)).trans ((kq (a := 3) (b := 7) eσ44 (by omega)).trans ((kq (a := 3) (b := 7) eσ42 (by omega)).trans (k25.trans (k3)))))), (kq (a := 3) (b := 6) eσ70 (by omega)).trans ((kq (a := 3) (b := 6) eσ67 (by omega)).trans ((kq (a := 3) (b := 6) eσ47 (by omega)).trans ((kq (a := 3) (b := 6) eσ44 (by omega)).trans ((kq (a := 3) (b := 6) eσ42 (by omega)).trans (k26.trans (k4)))))), (kq (a := 9) (b := 9) eσ70 (by omega)).trans ((kq (a := 9) (b := 9) eσ67 (by omega)).trans ((kq (a := 9) (b := 9) eσ47 (by omega)).trans ((kq (a := 9) (b := 9) eσ44 (by omega)).trans ((kq (a := 9) (b := 9) eσ42 (by omega)).trans (k27.trans (k5)))))), (kq (a := 9) (b := 10) eσ70 (by omega)).trans ((kq (a := 9) (b := 10) eσ67 (by omega)).trans ((kq (a := 9) (b := 10) eσ47 (by omega)).trans ((kq (a := 9) (b := 10) eσ44 (by omega)).trans ((kq (a := 9) (b := 10) eσ42 (by omega)).trans (k28.trans (k6)))))), (kq (a := 6) (b := 5) eσ70 (by omega)).trans ((kq (a := 6) (b := 5) eσ67 (by omega)).trans ((kq (a := 6) (b := 5) eσ47 (by omega)).trans ((kq (a := 6) (b := 5) eσ44 (by omega)).trans ((kq (a := 6) (b := 5) eσ42 (by omega)).trans (k29.trans (k7)))))), (kq (a := 7) (b := 4) eσ70 (by omega)).trans ((kq (a := 7) (b := 4) eσ67 (by omega)).trans ((kq (a := 7) (b := 4) eσ47 (by omega)).trans ((kq (a := 7) (b := 4) eσ44 (by omega)).trans ((kq (a := 7) (b := 4) eσ42 (by omega)).trans (k30.trans (k8)))))), (kq (a := 2) (b := 4) eσ70 (by omega)).trans ((kq (a := 2) (b := 4) eσ67 (by omega)).trans ((kq (a := 2) (b := 4) eσ47 (by omega)).trans ((kq (a := 2) (b := 4) eσ44 (by omega)).trans ((kq (a := 2) (b := 4) eσ42 (by omega)).trans (k31.trans (k9)))))), (kq (a := 2) (b := 5) eσ70 (by omega)).trans ((kq (a := 2) (b := 5) eσ67 (by omega)).trans ((kq (a := 2) (b := 5) eσ47 (by omega)).trans ((kq (a := 2) (b := 5) eσ44 (by omega)).trans ((kq (a := 2) (b := 5) eσ42 (by omega)).trans (k32.trans (k10)))))), (kq (a := 2) (b := 6) eσ70 (by omega)).trans ((kq (a := 2) (b := 6) eσ67 (by omega)).trans ((kq (a := 2) (b := 6) eσ47 (by omega)).trans ((kq (a := 2) (b := 6) eσ44 (by omega)).trans ((kq (a := 2) (b := 6) eσ42 (by omega)).trans (k33.trans (k11)))))), (kq (a := 3) (b := 8) eσ70 (by omega)).trans ((kq (a := 3) (b := 8) eσ67 (by omega)).trans ((kq (a := 3) (b := 8) eσ47 (by omega)).trans ((kq (a := 3) (b := 8) eσ44 (by omega)).trans ((kq (a := 3) (b := 8) eσ42 (by omega)).trans (k34.trans (k12))))))⟩)
    · have f72 := tB (σ47.1 k1 3)
      have q73 : σ47.1 k1 3 = v46 := by rw [eσ47, u1_at]; exact if_pos rfl
      have f74 := congrArg Int32.toInt q73
      have f75 := tB v46
      have f76 := tB (σ44.1 k1 3)
      have q77 : σ44.1 k1 3 = σ42.1 k1 3 := by rw [eσ44, u1_at]; exact if_neg (by decide)
      have f78 := congrArg Int32.toInt q77
      have f79 := tB (σ42.1 k1 3)
      have q80 : σ42.1 k1 3 = σ24.1 k1 3 := by rw [eσ42, u1_at]; exact if_neg (by decide)
      have f81 := congrArg Int32.toInt q80
      have f82 := tB (σ24.1 k1 3)
      have f84 := tA (σ44.1 k1 3) (1 : Int32)
      have f85 := tB ((σ44.1 k1 3) + 1)
      have f86 := congrArg Int32.toInt ev46
      have f87 : (8 : Int32).toInt = 8 := by decide
      have f88 := mt Int32.toInt_inj.mp c49
      exact hQ _ hσ47 (⟨(kq (a := 3) (b := 7) eσ47 (by omega)).trans ((kq (a := 3) (b := 7) eσ44 (by omega)).trans ((kq (a := 3) (b := 7) eσ42 (by omega)).trans (k25.trans (k3)))), (kq (a := 3) (b := 6) eσ47 (by omega)).trans ((kq (a := 3) (b := 6) eσ44 (by omega)).trans ((kq (a := 3) (b := 6) eσ42 (by omega)).trans (k26.trans (k4)))), (kq (a := 9) (b := 9) eσ47 (by omega)).trans ((kq (a := 9) (b := 9) eσ44 (by omega)).trans ((kq (a := 9) (b := 9) eσ42 (by omega)).trans (k27.trans (k5)))), (kq (a := 9) (b := 10) eσ47 (by omega)).trans ((kq (a := 9) (b := 10) eσ44 (by omega)).trans ((kq (a := 9) (b := 10) eσ42 (by omega)).trans (k28.trans (k6)))), (kq (a := 6) (b := 5) eσ47 (by omega)).trans ((kq (a := 6) (b := 5) eσ44 (by omega)).trans ((kq (a := 6) (b := 5) eσ42 (by omega)).trans (k29.trans (k7)))), (kq (a := 7) (b := 4) eσ47 (by omega)).trans ((kq (a := 7) (b := 4) eσ44 (by omega)).trans ((kq (a := 7) (b := 4) eσ42 (by omega)).trans (k30.trans (k8)))), (kq (a := 2) (b := 4) eσ47 (by omega)).trans ((kq (a := 2) (b := 4) eσ44 (by omega)).trans ((kq (a := 2) (b := 4) eσ42 (by omega)).trans (k31.trans (k9)))), (kq (a := 2) (b := 5) eσ47 (by omega)).trans ((kq (a := 2) (b := 5) eσ44 (by omega)).trans ((kq (a := 2) (b := 5) eσ42 (by omega)).trans (k32.trans (k10)))), (kq (a := 2) (b := 6) eσ47 (by omega)).trans ((kq (a := 2) (b := 6) eσ44 (by omega)).trans ((kq (a := 2) (b := 6) eσ42 (by omega)).trans (k33.trans (k11)))), (kq (a := 3) (b := 8) eσ47 (by omega)).trans ((kq (a := 3) (b := 8) eσ44 (by omega)).trans ((kq (a := 3) (b := 8) eσ42 (by omega)).trans (k34.trans (k12))))⟩)
  · have f89 := tB (σ24.1 3 11)
    have f90 : (0 : Int32).toInt = 0 := by decide
    have f91 := mt Int32.toInt_inj.mp c38
    exact hQ _ hσ24 (⟨k25.trans (k3), k26.trans (k4), k27.trans (k5), k28.trans (k6), k29.trans (k7), k30.trans (k8), k31.trans (k9), k32.trans (k10), k33.trans (k11), k34.trans (k12)⟩)
set_option maxHeartbeats 4000000 in
theorem sX2_readArguments {N : Nat} (hN : 4294967400 ≤ N) {x1 : Int32} {Q : St → Prop} {σ0 σ : St} (hσ : K1 σ0 σ) (hQ : ∀ τ : St, K1 σ0 τ → (τ.1 3 7 = σ.1 3 7 ∧ τ.1 9 9 = σ.1 9 9 ∧ τ.1 9 10 = σ.1 9 10 ∧ τ.1 6 5 = σ.1 6 5 ∧ τ.1 7 4 = σ.1 7 4 ∧ τ.1 2 4 = σ.1 2 4 ∧ τ.1 2 5 = σ.1 2 5 ∧ τ.1 2 6 = σ.1 2 6 ∧ τ.1 3 8 = σ.1 3 8) → Q τ) : fX2_readArguments N x1 Q σ := by
  unfold fX2_readArguments
  have f1 := tB x1
  refine sX2_readFour hN hσ (fun r14 σ2 hσ2 kk13 p15 => ?_)
  obtain ⟨k3, k4, k5, k6, k7, k8, k9, k10, k11, k12⟩ := kk13
  refine ⟨fun c16 => ?_, fun c16 => ?_⟩
  · have f17 := tB r14
    have f18 : (0 : Int32).toInt = 0 := by decide
    have f19 := Int32.lt_iff_toInt_lt.mp c16
    unfold fX2_readArguments_j15
    unfold fX2_fail
    refine ⟨fun c20 => ?_, fun c20 => ?_⟩
    · have f21 := tB (σ2.1 3 11)
      have f23 := congrArg Int32.toInt c20
      intro σ24 eσ24
      have hσ24 : K1 σ0 σ24 := by rw [eσ24]; exact hσ2.u (Rg1.u_3_11 _) (by omega) (by omega)
      try dsimp only
      exact hQ _ hσ24 (⟨(kq (a := 3) (b := 7) eσ24 (by omega)).trans (k3), (kq (a := 9) (b := 9) eσ24 (by omega)).trans (k5), (kq (a := 9) (b := 10) eσ24 (by omega)).trans (k6), (kq (a := 6) (b := 5) eσ24 (by omega)).trans (k7), (kq (a := 7) (b := 4) eσ24 (by omega)).trans (k8), (kq (a := 2) (b := 4) eσ24 (by omega)).trans (k9), (kq (a := 2) (b := 5) eσ24 (by omega)).trans (k10), (kq (a := 2) (b := 6) eσ24 (by omega)).trans (k11), (kq (a := 3) (b := 8) eσ24 (by omega)).trans (k12)⟩)
    · have f25 := tB (σ2.1 3 11)
      have f27 := mt Int32.toInt_inj.mp c20
      try dsimp only
      exact hQ _ hσ2 (⟨k3, k5, k6, k7, k8, k9, k10, k11, k12⟩)
  · have f28 := tB r14
    have f29 : (0 : Int32).toInt = 0 := by decide
    have f30 := mt Int32.lt_iff_toInt_lt.mpr c16
    refine ⟨fun c31 => ?_, fun c31 => ?_⟩
    · have f33 : (4 : Int32).toInt = 4 := by decide
      have f34 := Int32.le_iff_toInt_le.mp c31
      refine lo1_i (fun (y35 : Int32) (τ : St) => K1 σ0 τ ∧ τ.1 3 7 = σ2.1 3 7 ∧ τ.1 3 6 = σ2.1 3 6 ∧ τ.1 9 9 = σ2.1 9 9 ∧ τ.1 9 10 = σ2.1 9 10 ∧ τ.1 6 5 = σ2.1 6 5 ∧ τ.1 7 4 = σ2.1 7 4 ∧ τ.1 2 4 = σ2.1 2 4 ∧ τ.1 2 5 = σ2.1 2 5 ∧ τ.1 2 6 = σ2.1 2 6 ∧ τ.1 3 8 = σ2.1 3 8 ∧ 0 ≤ y35.toInt) (fun (y35 : Int32) (τ : St) => (2147483648 - y35.toInt).toNat) ?_ N (0 : Int32) σ2 ⟨hσ2, rfl, rfl, rfl, rfl, rfl, rfl, rfl, rfl, rfl, rfl, by omega⟩ (by (try dsimp only); omega)
      intro rr39 y42 σ41 hIσ41 ih40
      obtain ⟨hσ41, k43, k44, k45, k46, k47, k48, k49, k50, k51, k52, i53⟩ := hIσ41
      unfold fX2_readArguments_l23
      have f54 := tB y42
      refine ⟨fun c55 => ?_, fun c55 => ?_⟩
      · have f58 := Int32.le_iff_toInt_le.mp c55
        intro σ59 eσ59
        have hσ59 : K1 σ0 σ59 := by rw [eσ59]; exact hσ41.u (Rg1.r_3_6 (by omega) (by omega)) (by omega) (by omega)
        exact hQ _ hσ59 (⟨(kq (a := 3) (b := 7) eσ59 (by omega)).trans (k43.trans (k3)), (kq (a := 9) (b := 9) eσ59 (by omega)).trans (k45.trans (k5)), (kq (a := 9) (b := 10) eσ59 (by omega)).trans (k46.trans (k6)), (kq (a := 6) (b := 5) eσ59 (by omega)).trans (k47.trans (k7)), (kq (a := 7) (b := 4) eσ59 (by omega)).trans (k48.trans (k8)), (kq (a := 2) (b := 4) eσ59 (by omega)).trans (k49.trans (k9)), (kq (a := 2) (b := 5) eσ59 (by omega)).trans (k50.trans (k10)), (kq (a := 2) (b := 6) eσ59 (by omega)).trans (k51.trans (k11)), (kq (a := 3) (b := 8) eσ59 (by omega)).trans (k52.trans (k12))⟩)
      · have f63 := mt Int32.le_iff_toInt_le.mpr c55
        have f66 := tA x1 (4 : Int32)
        have f67 := tB (x1 + 4)
        have f68 := tB (4 * y42)
        have f69 := tA (x1 + 4) (4 * y42)
        have f70 := tB ((x1 + 4) + (4 * y42))
        refine sX2_readFour hN hσ41 (fun r83 σ71 hσ71 kk82 p84 => ?_)
        obtain ⟨k72, k73, k74, k75, k76, k77, k78, k79, k80, k81⟩ := kk82
        refine ⟨inI (by omega) (by omega), ?_⟩
        intro σ86 eσ86
        have hσ86 : K1 σ0 σ86 := by rw [eσ86]; exact hσ71.u (Rg1.ra_17 _ _) (by omega) (by omega)
        intro v87 ev87
        have f88 := tB v87
        have f90 : (1 : Int32).toInt = 1 := by decide
        have f91 := tA y42 (1 : Int32)
        have f92 := tB (y42 + 1)
        have f93 := congrArg Int32.toInt ev87
        exact ih40 v87 σ86 ⟨hσ86, (kq (a := 3) (b := 7) eσ86 (by omega)).trans (k72.trans (k43)), (kq (a := 3) (b := 6) eσ86 (by omega)).trans (k73.trans (k44)), (kq (a := 9) (b := 9) eσ86 (by omega)).trans (k74.trans (k45)), (kq (a := 9) (b := 10) eσ86 (by omega)).trans (k75.trans (k46)), (kq (a := 6) (b := 5) eσ86 (by omega)).trans (k76.trans (k47)), (kq (a := 7) (b := 4) eσ86 (by omega)).trans (k77.trans (k48)), (kq (a := 2) (b := 4) eσ86 (by omega)).trans (k78.trans (k49)), (kq (a := 2) (b := 5) eσ86 (by omega)).trans (k79.trans (k50)), (kq (a := 2) (b := 6) eσ86 (by omega)).trans (k80.trans (k51)), (kq (a := 3) (b := 8) eσ86 (by omega)).trans (k81.trans (k52)), by omega⟩ (by (try dsimp only); omega)
    · have f95 : (4 : Int32).toInt = 4 := by decide
      have f96 := mt Int32.le_iff_toInt_le.mpr c31
      unfold fX2_readArguments_j15
      unfold fX2_fail
      refine ⟨fun c97 => ?_, fun c97 => ?_⟩
      · have f98 := tB (σ2.1 3 11)
        have f100 := congrArg Int32.toInt c97
        intro σ101 eσ101
        have hσ101 : K1 σ0 σ101 := by rw [eσ101]; exact hσ2.u (Rg1.u_3_11 _) (by omega) (by omega)
        try dsimp only
        exact hQ _ hσ101 (⟨(kq (a := 3) (b := 7) eσ101 (by omega)).trans (k3), (kq (a := 9) (b := 9) eσ101 (by omega)).trans (k5), (kq (a := 9) (b := 10) eσ101 (by omega)).trans (k6), (kq (a := 6) (b := 5) eσ101 (by omega)).trans (k7), (kq (a := 7) (b := 4) eσ101 (by omega)).trans (k8), (kq (a := 2) (b := 4) eσ101 (by omega)).trans (k9), (kq (a := 2) (b := 5) eσ101 (by omega)).trans (k10), (kq (a := 2) (b := 6) eσ101 (by omega)).trans (k11), (kq (a := 3) (b := 8) eσ101 (by omega)).trans (k12)⟩)
      · have f102 := tB (σ2.1 3 11)
        have f104 := mt Int32.toInt_inj.mp c97
        try dsimp only
        exact hQ _ hσ2 (⟨k3, k5, k6, k7, k8, k9, k10, k11, k12⟩)
set_option maxHeartbeats 4000000 in
theorem sX2_enterThing {N : Nat} (hN : 4294967400 ≤ N) {x1 : Int32} {x2 : Int32} {Q : St → Prop} {σ0 σ : St} (hσ : K1 σ0 σ) (hQ : ∀ τ : St, K1 σ0 τ → (τ.1 9 9 = σ.1 9 9 ∧ τ.1 9 10 = σ.1 9 10 ∧ τ.1 6 5 = σ.1 6 5 ∧ τ.1 7 4 = σ.1 7 4 ∧ τ.1 2 4 = σ.1 2 4 ∧ τ.1 2 5 = σ.1 2 5 ∧ τ.1 2 6 = σ.1 2 6 ∧ τ.1 3 8 = σ.1 3 8) → Q τ) : fX2_enterThing N x1 x2 Q σ := by
  unfold fX2_enterThing
  have f1 := tB x1
  have f2 : (1 : Int32).toInt = 1 := by decide
  have f3 := tA x1 (1 : Int32)
  have f4 := tB (x1 + 1)
  refine sX2_readFour hN hσ (fun r17 σ5 hσ5 kk16 p18 => ?_)
  obtain ⟨k6, k7, k8, k9, k10, k11, k12, k13, k14, k15⟩ := kk16
  refine ⟨fun c19 => ?_, fun c19 => ?_⟩
  · have f20 := tB (σ5.1 3 11)
    have f21 : (0 : Int32).toInt = 0 := by decide
    have f22 := congrArg Int32.toInt c19
    refine ⟨fun c23 => ?_, fun c23 => ?_⟩
    · have f24 := tB x2
      have f25 : (9 : Int32).toInt = 9 := by decide
      have f26 := congrArg Int32.toInt c23
      unfold fX2_enterThing_j27
      have f27 := tB r17
      refine sX2_readFour hN hσ5 (fun r40 σ28 hσ28 kk39 p41 => ?_)
      obtain ⟨k29, k30, k31, k32, k33, k34, k35, k36, k37, k38⟩ := kk39
      unfold fX2_enterThing_j33
      intro σ42 eσ42
      have hσ42 : K1 σ0 σ42 := by rw [eσ42]; exact hσ28.u (Rg1.r_3_6 (by omega) (by omega)) (by omega) (by omega)
      refine ⟨fun c44 => ?_, fun c44 => ?_⟩
      · have f46 : (10 : Int32).toInt = 10 := by decide
        have f47 := congrArg Int32.toInt c44
        unfold fX2_enterThing_j50
        have f49 : (5 : Int32).toInt = 5 := by decide
        have f50 := tA x1 (5 : Int32)
        have f51 := tB (x1 + 5)
        refine sX2_readArguments hN hσ42 (fun σ52 hσ52 kk62 => ?_)
        obtain ⟨k53, k54, k55, k56, k57, k58, k59, k60, k61⟩ := kk62
        unfold fX2_enterThing_j57
        refine ⟨fun c63 => ?_, fun c63 => ?_⟩
        · have f64 := tB (σ52.1 3 11)
          have f66 := congrArg Int32.toInt c63
          have f67 := tB r40
          refine sX2_readByte hN hσ52 (fun r80 σ68 hσ68 kk79 p81 => ?_)
          obtain ⟨k69, k70, k71, k72, k73, k74, k75, k76, k77, k78⟩ := kk79
          unfold fX2_enterThing_j73
          refine ⟨fun c82 => ?_, fun c82 => ?_⟩
          · have f83 := tB (σ68.1 3 11)
            have f85 := congrArg Int32.toInt c82
            refine ⟨fun c86 => ?_, fun c86 => ?_⟩
            · have f87 := tB r80
              have f88 : (192 : Int32).toInt = 192 := by decide
              have f89 := congrArg Int32.toInt c86
              unfold fX2_enterThing_j99
              have f91 : (255 : Int32).toInt = 255 := by decide
              refine sX2_callFunction hN hσ68 (fun σ92 hσ92 kk102 => ?_)
              obtain ⟨k93, k94, k95, k96, k97, k98, k99, k100, k101⟩ := kk102
              exact hQ _ hσ92 (⟨k94.trans (k71.trans (k54.trans ((kq (a := 9) (b := 9) eσ42 (by omega)).trans (k31.trans (k8))))), k95.trans (k72.trans (k55.trans ((kq (a := 9) (b := 10) eσ42 (by omega)).trans (k32.trans (k9))))), k96.trans (k73.trans (k56.trans ((kq (a := 6) (b := 5) eσ42 (by omega)).trans (k33.trans (k10))))), k97.trans (k74.trans (k57.trans ((kq (a := 7) (b := 4) eσ42 (by omega)).trans (k34.trans (k11))))), k98.trans (k75.trans (k58.trans ((kq (a := 2) (b := 4) eσ42 (by omega)).trans (k35.trans (k12))))), k99.trans (k76.trans (k59.trans ((kq (a := 2) (b := 5) eσ42 (by omega)).trans (k36.trans (k13))))), k100.trans (k77.trans (k60.trans ((kq (a := 2) (b := 6) eσ42 (by omega)).trans (k37.trans (k14))))), k101.trans (k78.trans (k61.trans ((kq (a := 3) (b := 8) eσ42 (by omega)).trans (k38.trans (k15)))))⟩)
            · have f103 := tB r80
              have f104 : (192 : Int32).toInt = 192 := by decide
              have f105 := mt Int32.toInt_inj.mp c86
              refine ⟨fun c106 => ?_, fun c106 => ?_⟩
              · have f108 : (193 : Int32).toInt = 193 := by decide
                have f109 := congrArg Int32.toInt c106
                unfold fX2_enterThing_j99
                have f111 : (255 : Int32).toInt = 255 := by decide
                refine sX2_callFunction hN hσ68 (fun σ112 hσ112 kk122 => ?_)
                obtain ⟨k113, k114, k115, k116, k117, k118, k119, k120, k121⟩ := kk122
                exact hQ _ hσ112 (⟨k114.trans (k71.trans (k54.trans ((kq (a := 9) (b := 9) eσ42 (by omega)).trans (k31.trans (k8))))), k115.trans (k72.trans (k55.trans ((kq (a := 9) (b := 10) eσ42 (by omega)).trans (k32.trans (k9))))), k116.trans (k73.trans (k56.trans ((kq (a := 6) (b := 5) eσ42 (by omega)).trans (k33.trans (k10))))), k117.trans (k74.trans (k57.trans ((kq (a := 7) (b := 4) eσ42 (by omega)).trans (k34.trans (k11))))), k118.trans (k75.trans (k58.trans ((kq (a := 2) (b := 4) eσ42 (by omega)).trans (k35.trans (k12))))), k119.trans (k76.trans (k59.trans ((kq (a := 2) (b := 5) eσ42 (by omega)).trans (k36.trans (k13))))), k120.trans (k77.trans (k60.trans ((kq (a := 2) (b := 6) eσ42 (by omega)).trans (k37.trans (k14))))), k121.trans (k78.trans (k61.trans ((kq (a := 3) (b := 8) eσ42 (by omega)).trans (k38.trans (k15)))))⟩)
              · have f124 : (193 : Int32).toInt = 193 := by decide
                have f125 := mt Int32.toInt_inj.mp c106
                refine sX2_beginString hN hσ68 (fun σ127 hσ127 kk137 => ?_)
                obtain ⟨k128, k129, k130, k131, k132, k133, k134, k135, k136⟩ := kk137
                exact hQ _ hσ127 (⟨k129.trans (k71.trans (k54.trans ((kq (a := 9) (b := 9) eσ42 (by omega)).trans (k31.trans (k8))))), k130.trans (k72.trans (k55.trans ((kq (a := 9) (b := 10) eσ42 (by omega)).trans (k32.trans (k9))))), k131.trans (k73.trans (k56.trans ((kq (a := 6) (b := 5) eσ42 (by omega)).trans (k33.trans (k10))))), k132.trans (k74.trans (k57.trans ((kq (a := 7) (b := 4) eσ42 (by omega)).trans (k34.trans (k11))))), k133.trans (k75.trans (k58.trans ((kq (a := 2) (b := 4) eσ42 (by omega)).trans (k35.trans (k12))))), k134.trans (k76.trans (k59.trans ((kq (a := 2) (b := 5) eσ42 (by omega)).trans (k36.trans (k13))))), k135.trans (k77.trans (k60.trans ((kq (a := 2) (b := 6) eσ42 (by omega)).trans (k37.trans (k14))))), k136.trans (k78.trans (k61.trans ((kq (a := 3) (b := 8) eσ42 (by omega)).trans (k38.trans (k15)))))⟩)
          · have f138 := tB (σ68.1 3 11)
            have f140 := mt Int32.toInt_inj.mp c82
            exact hQ _ hσ68 (⟨k71.trans (k54.trans ((kq (a := 9) (b := 9) eσ42 (by omega)).trans (k31.trans (k8)))), k72.trans (k55.trans ((kq (a := 9) (b := 10) eσ42 (by omega)).trans (k32.trans (k9)))), k73.trans (k56.trans ((kq (a := 6) (b := 5) eσ42 (by omega)).trans (k33.trans (k10)))), k74.trans (k57.trans ((kq (a := 7) (b := 4) eσ42 (by omega)).trans (k34.trans (k11)))), k75.trans (k58.trans ((kq (a := 2) (b := 4) eσ42 (by omega)).trans (k35.trans (k12)))), k76.trans (k59.trans ((kq (a := 2) (b := 5) eσ42 (by omega)).trans (k36.trans (k13)))), k77.trans (k60.trans ((kq (a := 2) (b := 6) eσ42 (by omega)).trans (k37.trans (k14)))), k78.trans (k61.trans ((kq (a := 3) (b := 8) eσ42 (by omega)).trans (k38.trans (k15))))⟩)
        · have f141 := tB (σ52.1 3 11)
          have f143 := mt Int32.toInt_inj.mp c63
          unfold fX2_enterThing_j73
          refine ⟨fun c144 => ?_, fun c144 => ?_⟩
          · have f147 := congrArg Int32.toInt c144
            refine ⟨fun c148 => ?_, fun c148 => ?_⟩
            · have f150 : (192 : Int32).toInt = 192 := by decide
              have f151 := congrArg Int32.toInt c148
              unfold fX2_enterThing_j99
              have f152 := tB r40
              have f153 : (255 : Int32).toInt = 255 := by decide
              refine sX2_callFunction hN hσ52 (fun σ154 hσ154 kk164 => ?_)
              obtain ⟨k155, k156, k157, k158, k159, k160, k161, k162, k163⟩ := kk164
              exact hQ _ hσ154 (⟨k156.trans (k54.trans ((kq (a := 9) (b := 9) eσ42 (by omega)).trans (k31.trans (k8)))), k157.trans (k55.trans ((kq (a := 9) (b := 10) eσ42 (by omega)).trans (k32.trans (k9)))), k158.trans (k56.trans ((kq (a := 6) (b := 5) eσ42 (by omega)).trans (k33.trans (k10)))), k159.trans (k57.trans ((kq (a := 7) (b := 4) eσ42 (by omega)).trans (k34.trans (k11)))), k160.trans (k58.trans ((kq (a := 2) (b := 4) eσ42 (by omega)).trans (k35.trans (k12)))), k161.trans (k59.trans ((kq (a := 2) (b := 5) eσ42 (by omega)).trans (k36.trans (k13)))), k162.trans (k60.trans ((kq (a := 2) (b := 6) eσ42 (by omega)).trans (k37.trans (k14)))), k163.trans (k61.trans ((kq (a := 3) (b := 8) eσ42 (by omega)).trans (k38.trans (k15))))⟩)
            · have f166 : (192 : Int32).toInt = 192 := by decide
              have f167 := mt Int32.toInt_inj.mp c148
              refine ⟨fun c168 => ?_, fun c168 => ?_⟩
              · have f170 : (193 : Int32).toInt = 193 := by decide
                have f171 := congrArg Int32.toInt c168
                unfold fX2_enterThing_j99
                have f172 := tB r40
                have f173 : (255 : Int32).toInt = 255 := by decide
                refine sX2_callFunction hN hσ52 (fun σ174 hσ174 kk184 => ?_)
                obtain ⟨k175, k176, k177, k178, k179, k180, k181, k182, k183⟩ := kk184
                exact hQ _ hσ174 (⟨k176.trans (k54.trans ((kq (a := 9) (b := 9) eσ42 (by omega)).trans (k31.trans (k8)))), k177.trans (k55.trans ((kq (a := 9) (b := 10) eσ42 (by omega)).trans (k32.trans (k9)))), k178.trans (k56.trans ((kq (a := 6) (b := 5) eσ42 (by omega)).trans (k33.trans (k10)))), k179.trans (k57.trans ((kq (a := 7) (b := 4) eσ42 (by omega)).trans (k34.trans (k11)))), k180.trans (k58.trans ((kq (a := 2) (b := 4) eσ42 (by omega)).trans (k35.trans (k12)))), k181.trans (k59.trans ((kq (a := 2) (b := 5) eσ42 (by omega)).trans (k36.trans (k13)))), k182.trans (k60.trans ((kq (a := 2) (b := 6) eσ42 (by omega)).trans (k37.trans (k14)))), k183.trans (k61.trans ((kq (a := 3) (b := 8) eσ42 (by omega)).trans (k38.trans (k15))))⟩)
              · have f186 : (193 : Int32).toInt = 193 := by decide
                have f187 := mt Int32.toInt_inj.mp c168
                have f188 := tB r40
                refine sX2_beginString hN hσ52 (fun σ189 hσ189 kk199 => ?_)
                obtain ⟨k190, k191, k192, k193, k194, k195, k196, k197, k198⟩ := kk199
                exact hQ _ hσ189 (⟨k191.trans (k54.trans ((kq (a := 9) (b := 9) eσ42 (by omega)).trans (k31.trans (k8)))), k192.trans (k55.trans ((kq (a := 9) (b := 10) eσ42 (by omega)).trans (k32.trans (k9)))), k193.trans (k56.trans ((kq (a := 6) (b := 5) eσ42 (by omega)).trans (k33.trans (k10)))), k194.trans (k57.trans ((kq (a := 7) (b := 4) eσ42 (by omega)).trans (k34.trans (k11)))), k195.trans (k58.trans ((kq (a := 2) (b := 4) eσ42 (by omega)).trans (k35.trans (k12)))), k196.trans (k59.trans ((kq (a := 2) (b := 5) eσ42 (by omega)).trans (k36.trans (k13)))), k197.trans (k60.trans ((kq (a := 2) (b := 6) eσ42 (by omega)).trans (k37.trans (k14)))), k198.trans (k61.trans ((kq (a := 3) (b := 8) eσ42 (by omega)).trans (k38.trans (k15))))⟩)
          · have f202 := mt Int32.toInt_inj.mp c144
            exact hQ _ hσ52 (⟨k54.trans ((kq (a := 9) (b := 9) eσ42 (by omega)).trans (k31.trans (k8))), k55.trans ((kq (a := 9) (b := 10) eσ42 (by omega)).trans (k32.trans (k9))), k56.trans ((kq (a := 6) (b := 5) eσ42 (by omega)).trans (k33.trans (k10))), k57.trans ((kq (a := 7) (b := 4) eσ42 (by omega)).trans (k34.trans (k11))), k58.trans ((kq (a := 2) (b := 4) eσ42 (by omega)).trans (k35.trans (k12))), k59.trans ((kq (a := 2) (b := 5) eσ42 (by omega)).trans (k36.trans (k13))), k60.trans ((kq (a := 2) (b := 6) eσ42 (by omega)).trans (k37.trans (k14))), k61.trans ((kq (a := 3) (b := 8) eσ42 (by omega)).trans (k38.trans (k15)))⟩)
      · have f204 : (10 : Int32).toInt = 10 := by decide
        have f205 := mt Int32.toInt_inj.mp c44
        refine ⟨fun c206 => ?_, fun c206 => ?_⟩
        · have f208 : (11 : Int32).toInt = 11 := by decide
          have f209 := congrArg Int32.toInt c206
          unfold fX2_enterThing_j50
          have f211 : (5 : Int32).toInt = 5 := by decide
          have f212 := tA x1 (5 : Int32)
          have f213 := tB (x1 + 5)
          refine sX2_readArguments hN hσ42 (fun σ214 hσ214 kk224 => ?_)
          obtain ⟨k215, k216, k217, k218, k219, k220, k221, k222, k223⟩ := kk224
          unfold fX2_enterThing_j57
          refine ⟨fun c225 => ?_, fun c225 => ?_⟩
          · have f226 := tB (σ214.1 3 11)
            have f228 := congrArg Int32.toInt c225
            have f229 := tB r40
            refine sX2_readByte hN hσ214 (fun r242 σ230 hσ230 kk241 p243 => ?_)
            obtain ⟨k231, k232, k233, k234, k235, k236, k237, k238, k239, k240⟩ := kk241
            unfold fX2_enterThing_j73
            refine ⟨fun c244 => ?_, fun c244 => ?_⟩
            · have f245 := tB (σ230.1 3 11)
              have f247 := congrArg Int32.toInt c244
              refine ⟨fun c248 => ?_, fun c248 => ?_⟩
              · have f249 := tB r242
                have f250 : (192 : Int32).toInt = 192 := by decide
                have f251 := congrArg Int32.toInt c248
                unfold fX2_enterThing_j99
                have f253 : (255 : Int32).toInt = 255 := by decide
                refine sX2_callFunction hN hσ230 (fun σ254 hσ254 kk264 => ?_)
                obtain ⟨k255, k256, k257, k258, k259, k260, k261, k262, k263⟩ := kk264
                exact hQ _ hσ254 (⟨k256.trans (k233.trans (k216.trans ((kq (a := 9) (b := 9) eσ42 (by omega)).trans (k31.trans (k8))))), k257.trans (k234.trans (k217.trans ((kq (a := 9) (b := 10) eσ42 (by omega)).trans (k32.trans (k9))))), k258.trans (k235.trans (k218.trans ((kq (a := 6) (b := 5) eσ42 (by omega)).trans (k33.trans (k10))))), k259.trans (k236.trans (k219.trans ((kq (a := 7) (b := 4) eσ42 (by omega)).trans (k34.trans (k11))))), k260.trans (k237.trans (k220.trans ((kq (a := 2) (b := 4) eσ42 (by omega)).trans (k35.trans (k12))))), k261.trans (k238.trans (k221.trans ((kq (a := 2) (b := 5) eσ42 (by omega)).trans (k36.trans (k13))))), k262.trans (k239.trans (k222.trans ((kq (a := 2) (b := 6) eσ42 (by omega)).trans (k37.trans (k14))))), k263.trans (k240.trans (k223.trans ((kq (a := 3) (b := 8) eσ42 (by omega)).trans (k38.trans (k15)))))⟩)
              · have f265 := tB r242
                have f266 : (192 : Int32).toInt = 192 := by decide
                have f267 := mt Int32.toInt_inj.mp c248
                refine ⟨fun c268 => ?_, fun c268 => ?_⟩
                · have f270 : (193 : Int32).toInt = 193 := by decide
                  have f271 := congrArg Int32.toInt c268
                  unfold fX2_enterThing_j99
                  have f273 : (255 : Int32).toInt = 255 := by decide
                  refine sX2_callFunction hN hσ230 (fun σ274 hσ274 kk284 => ?_)
                  obtain ⟨k275, k276, k277, k278, k279, k280, k281, k282, k283⟩ := kk284
                  exact hQ _ hσ274 (⟨k276.trans (k233.trans (k216.trans ((kq (a := 9) (b := 9) eσ42 (by omega)).trans (k31.trans (k8))))), k277.trans (k234.trans (k217.trans ((kq (a := 9) (b := 10) eσ42 (by omega)).trans (k32.trans (k9))))), k278.trans (k235.trans (k218.trans ((kq (a := 6) (b := 5) eσ42 (by omega)).trans (k33.trans (k10))))), k279.trans (k236.trans (k219.trans ((kq (a := 7) (b := 4) eσ42 (by omega)).trans (k34.trans (k11))))), k280.trans (k237.trans (k220.trans ((kq (a := 2) (b := 4) eσ42 (by omega)).trans (k35.trans (k12))))), k281.trans (k238.trans (k221.trans ((kq (a := 2) (b := 5) eσ42 (by omega)).trans (k36.trans (k13))))), k282.trans (k239.trans (k222.trans ((kq (a := 2) (b := 6) eσ42 (by omega)).trans (k37.trans (k14))))), k283.trans (k240.trans (k223.trans ((kq (a := 3) (b := 8) eσ42 (by omega)).trans (k38.trans (k15)))))⟩)
                · have f286 : (193 : Int32).toInt = 193 := by decide
                  have f287 := mt Int32.toInt_inj.mp c268
                  refine sX2_beginString hN hσ230 (fun σ289 hσ289 kk299 => ?_)
                  obtain ⟨k290, k291, k292, k293, k294, k295, k296, k297, k298⟩ := kk299
                  exact hQ _ hσ289 (⟨k291.trans (k233.trans (k216.trans ((kq (a := 9) (b := 9) eσ42 (by omega)).trans (k31.trans (k8))))), k292.trans (k234.trans (k217.trans ((kq (a := 9) (b := 10) eσ42 (by omega)).trans (k32.trans (k9))))), k293.trans (k235.trans (k218.trans ((kq (a := 6) (b := 5) eσ42 (by omega)).trans (k33.trans (k10))))), k294.trans (k236.trans (k219.trans ((kq (a := 7) (b := 4) eσ42 (by omega)).trans (k34.trans (k11))))), k295.trans (k237.trans (k220.trans ((kq (a := 2) (b := 4) eσ42 (by omega)).trans (k35.trans (k12))))), k296.trans (k238.trans (k221.trans ((kq (a := 2) (b := 5) eσ42 (by omega)).trans (k36.trans (k13))))), k297.trans (k239.trans (k222.trans ((kq (a := 2) (b := 6) eσ42 (by omega)).trans (k37.trans (k14))))), k298.trans (k240.trans (k223.trans ((kq (a := 3) (b := 8) eσ42 (by omega)).trans (k38.trans (k15)))))⟩)
            · have f300 := tB (σ230.1 3 11)
              have f302 := mt Int32.toInt_inj.mp c244
              exact hQ _ hσ230 (⟨k233.trans (k216.trans ((kq (a := 9) (b := 9) eσ42 (by omega)).trans (k31.trans (k8)))), k234.trans (k217.trans ((kq (a := 9) (b := 10) eσ42 (by omega)).trans (k32.trans (k9)))), k235.trans (k218.trans ((kq (a := 6) (b := 5) eσ42 (by omega)).trans (k33.trans (k10)))), k236.trans (k219.trans ((kq (a := 7) (b := 4) eσ42 (by omega)).trans (k34.trans (k11)))), k237.trans (k220.trans ((kq (a := 2) (b := 4) eσ42 (by omega)).trans (k35.trans (k12)))), k238.trans (k221.trans ((kq (a := 2) (b := 5) eσ42 (by omega)).trans (k36.trans (k13)))), k239.trans (k222.trans ((kq (a := 2) (b := 6) eσ42 (by omega)).trans (k37.trans (k14)))), k240.trans (k223.trans ((kq (a := 3) (b := 8) eσ42 (by omega)).trans (k38.trans (k15))))⟩)
          · have f303 := tB (σ214.1 3 11)
            have f305 := mt Int32.toInt_inj.mp c225
            unfold fX2_enterThing_j73
            refine ⟨fun c306 => ?_, fun c306 => ?_⟩
            · have f309 := congrArg Int32.toInt c306
              refine ⟨fun c310 => ?_, fun c310 => ?_⟩
              · have f312 : (192 : Int32).toInt = 192 := by decide
                have f313 := congrArg Int32.toInt c310
                unfold fX2_enterThing_j99
                have f314 := tB r40
                have f315 : (255 : Int32).toInt = 255 := by decide
                refine sX2_callFunction hN hσ214 (fun σ316 hσ316 kk326 => ?_)
                obtain ⟨k317, k318, k319, k320, k321, k322, k323, k324, k325⟩ := kk326
                exact hQ _ hσ316 (⟨k318.trans (k216.trans ((kq (a := 9) (b := 9) eσ42 (by omega)).trans (k31.trans (k8)))), k319.trans (k217.trans ((kq (a := 9) (b := 10) eσ42 (by omega)).trans (k32.trans (k9)))), k320.trans (k218.trans ((kq (a := 6) (b := 5) eσ42 (by omega)).trans (k33.trans (k10)))), k321.trans (k219.trans ((kq (a := 7) (b := 4) eσ42 (by omega)).trans (k34.trans (k11)))), k322.trans (k220.trans ((kq (a := 2) (b := 4) eσ42 (by omega)).trans (k35.trans (k12)))), k323.trans (k221.trans ((kq (a := 2) (b := 5) eσ42 (by omega)).trans (k36.trans (k13)))), k324.trans (k222.trans ((kq (a := 2) (b := 6) eσ42 (by omega)).trans (k37.trans (k14)))), k325.trans (k223.trans ((kq (a := 3) (b := 8) eσ42 (by omega)).trans (k38.trans (k15))))⟩)
              · have f328 : (192 : Int32).toInt = 192 := by decide
                have f329 := mt Int32.toInt_inj.mp c310
                refine ⟨fun c330 => ?_, fun c330 => ?_⟩
                · have f332 : (193 : Int32).toInt = 193 := by decide
                  have f333 := congrArg Int32.toInt c330
                  unfold fX2_enterThing_j99
                  have f334 := tB r40
                  have f335 : (255 : Int32).toInt = 255 := by decide
                  refine sX2_callFunction hN hσ214 (fun σ336 hσ336 kk346 => ?_)
                  obtain ⟨k337, k338, k339, k340, k341, k342, k343, k344, k345⟩ := kk346
                  exact hQ _ hσ336 (⟨k338.trans (k216.trans ((kq (a := 9) (b := 9) eσ42 (by omega)).trans (k31.trans (k8)))), k339.trans (k217.trans ((kq (a := 9) (b := 10) eσ42 (by omega)).trans (k32.trans (k9)))), k340.trans (k218.trans ((kq (a := 6) (b := 5) eσ42 (by omega)).trans (k33.trans (k10)))), k341.trans (k219.trans ((kq (a := 7) (b := 4) eσ42 (by omega)).trans (k34.trans (k11)))), k342.trans (k220.trans ((kq (a := 2) (b := 4) eσ42 (by omega)).trans (k35.trans (k12)))), k343.trans (k221.trans ((kq (a := 2) (b := 5) eσ42 (by omega)).trans (k36.trans (k13)))), k344.trans (k222.trans ((kq (a := 2) (b := 6) eσ42 (by omega)).trans (k37.trans (k14)))), k345.trans (k223.trans ((kq (a := 3) (b := 8) eσ42 (by omega)).trans (k38.trans (k15))))⟩)
                · have f348 : (193 : Int32).toInt = 193 := by decide
                  have f349 := mt Int32.toInt_inj.mp c330
                  have f350 := tB r40
                  refine sX2_beginString hN hσ214 (fun σ351 hσ351 kk361 => ?_)
                  obtain ⟨k352, k353, k354, k355, k356, k357, k358, k359, k360⟩ := kk361
                  exact hQ _ hσ351 (⟨k353.trans (k216.trans ((kq (a := 9) (b := 9) eσ42 (by omega)).trans (k31.trans (k8)))), k354.trans (k217.trans ((kq (a := 9) (b := 10) eσ42 (by omega)).trans (k32.trans (k9)))), k355.trans (k218.trans ((kq (a := 6) (b := 5) eσ42 (by omega)).trans (k33.trans (k10)))), k356.trans (k219.trans ((kq (a := 7) (b := 4) eσ42 (by omega)).trans (k34.trans (k11)))), k357.trans (k220.trans ((kq (a := 2) (b := 4) eσ42 (by omega)).trans (k35.trans (k12)))), k358.trans (k221.trans ((kq (a := 2) (b := 5) eσ42 (by omega)).trans (k36.trans (k13)))), k359.trans (k222.trans ((kq (a := 2) (b := 6) eσ42 (by omega)).trans (k37.trans (k14)))), k360.trans (k223.trans ((kq (a := 3) (b := 8) eσ42 (by omega)).trans (k38.trans (k15))))⟩)
            · have f364 := mt Int32.toInt_inj.mp c306
              exact hQ _ hσ214 (⟨k216.trans ((kq (a := 9) (b := 9) eσ42 (by omega)).trans (k31.trans (k8))), k217.trans ((kq (a := 9) (b := 10) eσ42 (by omega)).trans (k32.trans (k9))), k218.trans ((kq (a := 6) (b := 5) eσ42 (by omega)).trans (k33.trans (k10))), k219.trans ((kq (a := 7) (b := 4) eσ42 (by omega)).trans (k34.trans (k11))), k220.trans ((kq (a := 2) (b := 4) eσ42 (by omega)).trans (k35.trans (k12))), k221.trans ((kq (a := 2) (b := 5) eσ42 (by omega)).trans (k36.trans (k13))), k222.trans ((kq (a := 2) (b := 6) eσ42 (by omega)).trans (k37.trans (k14))), k223.trans ((kq (a := 3) (b := 8) eσ42 (by omega)).trans (k38.trans (k15)))⟩)
        · have f366 : (11 : Int32).toInt = 11 := by decide
          have f367 := mt Int32.toInt_inj.mp c206
          unfold fX2_enterThing_j57
          refine ⟨fun c368 => ?_, fun c368 => ?_⟩
          · have f369 := tB (σ42.1 3 11)
            have q370 : σ42.1 3 11 = σ28.1 3 11 := by rw [eσ42, u1_at]; exact if_neg (by decide)
            have f371 := congrArg Int32.toInt q370
            have f372 := tB (σ28.1 3 11)
            have f374 := congrArg Int32.toInt c368
            have f375 := tB r40
            refine sX2_readByte hN hσ42 (fun r388 σ376 hσ376 kk387 p389 => ?_)
            obtain ⟨k377, k378, k379, k380, k381, k382, k383, k384, k385, k386⟩ := kk387
            unfold fX2_enterThing_j73
            refine ⟨fun c390 => ?_, fun c390 => ?_⟩
            · have f391 := tB (σ376.1 3 11)
              have f393 := congrArg Int32.toInt c390
              refine ⟨fun c394 => ?_, fun c394 => ?_⟩
              · have f395 := tB r388
                have f396 : (192 : Int32).toInt = 192 := by decide
                have f397 := congrArg Int32.toInt c394
                unfold fX2_enterThing_j99
                have f399 : (255 : Int32).toInt = 255 := by decide
                refine sX2_callFunction hN hσ376 (fun σ400 hσ400 kk410 => ?_)
                obtain ⟨k401, k402, k403, k404, k405, k406, k407, k408, k409⟩ := kk410
                exact hQ _ hσ400 (⟨k402.trans (k379.trans ((kq (a := 9) (b := 9) eσ42 (by omega)).trans (k31.trans (k8)))), k403.trans (k380.trans ((kq (a := 9) (b := 10) eσ42 (by omega)).trans (k32.trans (k9)))), k404.trans (k381.trans ((kq (a := 6) (b := 5) eσ42 (by omega)).trans (k33.trans (k10)))), k405.trans (k382.trans ((kq (a := 7) (b := 4) eσ42 (by omega)).trans (k34.trans (k11)))), k406.trans (k383.trans ((kq (a := 2) (b := 4) eσ42 (by omega)).trans (k35.trans (k12)))), k407.trans (k384.trans ((kq (a := 2) (b := 5) eσ42 (by omega)).trans (k36.trans (k13)))), k408.trans (k385.trans ((kq (a := 2) (b := 6) eσ42 (by omega)).trans (k37.trans (k14)))), k409.trans (k386.trans ((kq (a := 3) (b := 8) eσ42 (by omega)).trans (k38.trans (k15))))⟩)
              · have f411 := tB r388
                have f412 : (192 : Int32).toInt = 192 := by decide
                have f413 := mt Int32.toInt_inj.mp c394
                refine ⟨fun c414 => ?_, fun c414 => ?_⟩
                · have f416 : (193 : Int32).toInt = 193 := by decide
                  have f417 := congrArg Int32.toInt c414
                  unfold fX2_enterThing_j99
                  have f419 : (255 : Int32).toInt = 255 := by decide
                  refine sX2_callFunction hN hσ376 (fun σ420 hσ420 kk430 => ?_)
                  obtain ⟨k421, k422, k423, k424, k425, k426, k427, k428, k429⟩ := kk430
                  exact hQ _ hσ420 (⟨k422.trans (k379.trans ((kq (a := 9) (b := 9) eσ42 (by omega)).trans (k31.trans (k8)))), k423.trans (k380.trans ((kq (a := 9) (b := 10) eσ42 (by omega)).trans (k32.trans (k9)))), k424.trans (k381.trans ((kq (a := 6) (b := 5) eσ42 (by omega)).trans (k33.trans (k10)))), k425.trans (k382.trans ((kq (a := 7) (b := 4) eσ42 (by omega)).trans (k34.trans (k11)))), k426.trans (k383.trans ((kq (a := 2) (b := 4) eσ42 (by omega)).trans (k35.trans (k12)))), k427.trans (k384.trans ((kq (a := 2) (b := 5) eσ42 (by omega)).trans (k36.trans (k13)))), k428.trans (k385.trans ((kq (a := 2) (b := 6) eσ42 (by omega)).trans (k37.trans (k14)))), k429.trans (k386.trans ((kq (a := 3) (b := 8) eσ42 (by omega)).trans (k38.trans (k15))))⟩)
                · have f432 : (193 : Int32).toInt = 193 := by decide
                  have f433 := mt Int32.toInt_inj.mp c414
                  refine sX2_beginString hN hσ376 (fun σ435 hσ435 kk445 => ?_)
                  obtain ⟨k436, k437, k438, k439, k440, k441, k442, k443, k444⟩ := kk445
                  exact hQ _ hσ435 (⟨k437.trans (k379.trans ((kq (a := 9) (b := 9) eσ42 (by omega)).trans (k31.trans (k8)))), k438.trans (k380.trans ((kq (a := 9) (b := 10) eσ42 (by omega)).trans (k32.trans (k9)))), k439.trans (k381.trans ((kq (a := 6) (b := 5) eσ42 (by omega)).trans (k33.trans (k10)))), k440.trans (k382.trans ((kq (a := 7) (b := 4) eσ42 (by omega)).trans (k34.trans (k11)))), k441.trans (k383.trans ((kq (a := 2) (b := 4) eσ42 (by omega)).trans (k35.trans (k12)))), k442.trans (k384.trans ((kq (a := 2) (b := 5) eσ42 (by omega)).trans (k36.trans (k13)))), k443.trans (k385.trans ((kq (a := 2) (b := 6) eσ42 (by omega)).trans (k37.trans (k14)))), k444.trans (k386.trans ((kq (a := 3) (b := 8) eσ42 (by omega)).trans (k38.trans (k15))))⟩)
            · have f446 := tB (σ376.1 3 11)
              have f448 := mt Int32.toInt_inj.mp c390
              exact hQ _ hσ376 (⟨k379.trans ((kq (a := 9) (b := 9) eσ42 (by omega)).trans (k31.trans (k8))), k380.trans ((kq (a := 9) (b := 10) eσ42 (by omega)).trans (k32.trans (k9))), k381.trans ((kq (a := 6) (b := 5) eσ42 (by omega)).trans (k33.trans (k10))), k382.trans ((kq (a := 7) (b := 4) eσ42 (by omega)).trans (k34.trans (k11))), k383.trans ((kq (a := 2) (b := 4) eσ42 (by omega)).trans (k35.trans (k12))), k384.trans ((kq (a := 2) (b := 5) eσ42 (by omega)).trans (k36.trans (k13))), k385.trans ((kq (a := 2) (b := 6) eσ42 (by omega)).trans (k37.trans (k14))), k386.trans ((kq (a := 3) (b := 8) eσ42 (by omega)).trans (k38.trans (k15)))⟩)
          · have f449 := tB (σ42.1 3 11)
            have q450 : σ42.1 3 11 = σ28.1 3 11 := by rw [eσ42, u1_at]; exact if_neg (by decide)
            have f451 := congrArg Int32.toInt q450
            have f452 := tB (σ28.1 3 11)
            have f454 := mt Int32.toInt_inj.mp c368
            unfold fX2_enterThing_j73
            refine ⟨fun c455 => ?_, fun c455 => ?_⟩
            · have f458 := congrArg Int32.toInt c455
              refine ⟨fun c459 => ?_, fun c459 => ?_⟩
              · have f461 : (192 : Int32).toInt = 192 := by decide
                have f462 := congrArg Int32.toInt c459
                unfold fX2_enterThing_j99
                have f463 := tB r40
                have f464 : (255 : Int32).toInt = 255 := by decide
                refine sX2_callFunction hN hσ42 (fun σ465 hσ465 kk475 => ?_)
                obtain ⟨k466, k467, k468, k469, k470, k471, k472, k473, k474⟩ := kk475
                exact hQ _ hσ465 (⟨k467.trans ((kq (a := 9) (b := 9) eσ42 (by omega)).trans (k31.trans (k8))), k468.trans ((kq (a := 9) (b := 10) eσ42 (by omega)).trans (k32.trans (k9))), k469.trans ((kq (a := 6) (b := 5) eσ42 (by omega)).trans (k33.trans (k10))), k470.trans ((kq (a := 7) (b := 4) eσ42 (by omega)).trans (k34.trans (k11))), k471.trans ((kq (a := 2) (b := 4) eσ42 (by omega)).trans (k35.trans (k12))), k472.trans ((kq (a := 2) (b := 5) eσ42 (by omega)).trans (k36.trans (k13))), k473.trans ((kq (a := 2) (b := 6) eσ42 (by omega)).trans (k37.trans (k14))), k474.trans ((kq (a := 3) (b := 8) eσ42 (by omega)).trans (k38.trans (k15)))⟩)
              · have f477 : (192 : Int32).toInt = 192 := by decide
                have f478 := mt Int32.toInt_inj.mp c459
                refine ⟨fun c479 => ?_, fun c479 => ?_⟩
                · have f481 : (193 : Int32).toInt = 193 := by decide
                  have f482 := congrArg Int32.toInt c479
                  unfold fX2_enterThing_j99
                  have f483 := tB r40
                  have f484 : (255 : Int32).toInt = 255 := by decide
                  refine sX2_callFunction hN hσ42 (fun σ485 hσ485 kk495 => ?_)
                  obtain ⟨k486, k487, k488, k489, k490, k491, k492, k493, k494⟩ := kk495
                  exact hQ _ hσ485 (⟨k487.trans ((kq (a := 9) (b := 9) eσ42 (by omega)).trans (k31.trans (k8))), k488.trans ((kq (a := 9) (b := 10) eσ42 (by omega)).trans (k32.trans (k9))), k489.trans ((kq (a := 6) (b := 5) eσ42 (by omega)).trans (k33.trans (k10))), k490.trans ((kq (a := 7) (b := 4) eσ42 (by omega)).trans (k34.trans (k11))), k491.trans ((kq (a := 2) (b := 4) eσ42 (by omega)).trans (k35.trans (k12))), k492.trans ((kq (a := 2) (b := 5) eσ42 (by omega)).trans (k36.trans (k13))), k493.trans ((kq (a := 2) (b := 6) eσ42 (by omega)).trans (k37.trans (k14))), k494.trans ((kq (a := 3) (b := 8) eσ42 (by omega)).trans (k38.trans (k15)))⟩)
                · have f497 : (193 : Int32).toInt = 193 := by decide
                  have f498 := mt Int32.toInt_inj.mp c479
                  have f499 := tB r40
                  refine sX2_beginString hN hσ42 (fun σ500 hσ500 kk510 => ?_)
                  obtain ⟨k501, k502, k503, k504, k505, k506, k507, k508, k509⟩ := kk510
                  exact hQ _ hσ500 (⟨k502.trans ((kq (a := 9) (b := 9) eσ42 (by omega)).trans (k31.trans (k8))), k503.trans ((kq (a := 9) (b := 10) eσ42 (by omega)).trans (k32.trans (k9))), k504.trans ((kq (a := 6) (b := 5) eσ42 (by omega)).trans (k33.trans (k10))), k505.trans ((kq (a := 7) (b := 4) eσ42 (by omega)).trans (k34.trans (k11))), k506.trans ((kq (a := 2) (b := 4) eσ42 (by omega)).trans (k35.trans (k12))), k507.trans ((kq (a := 2) (b := 5) eσ42 (by omega)).trans (k36.trans (k13))), k508.trans ((kq (a := 2) (b := 6) eσ42 (by omega)).trans (k37.trans (k14))), k509.trans ((kq (a := 3) (b := 8) eσ42 (by omega)).trans (k38.trans (k15)))⟩)
            · have f513 := mt Int32.toInt_inj.mp c455
              exact hQ _ hσ42 (⟨(kq (a := 9) (b := 9) eσ42 (by omega)).trans (k31.trans (k8)), (kq (a := 9) (b := 10) eσ42 (by omega)).trans (k32.trans (k9)), (kq (a := 6) (b := 5) eσ42 (by omega)).trans (k33.trans (k10)), (kq (a := 7) (b := 4) eσ42 (by omega)).trans (k34.trans (k11)), (kq (a := 2) (b := 4) eσ42 (by omega)).trans (k35.trans (k12)), (kq (a := 2) (b := 5) eσ42 (by omega)).trans (k36.trans (k13)), (kq (a := 2) (b := 6) eσ42 (by omega)).trans (k37.trans (k14)), (kq (a := 3) (b := 8) eσ42 (by omega)).trans (k38.trans (k15))⟩)
    · have f514 := tB x2
      have f515 : (9 : Int32).toInt = 9 := by decide
      have f516 := mt Int32.toInt_inj.mp c23
      refine ⟨fun c517 => ?_, fun c517 => ?_⟩
      · have f519 : (11 : Int32).toInt = 11 := by decide
        have f520 := congrArg Int32.toInt c517
        unfold fX2_enterThing_j27
        have f521 := tB r17
        refine sX2_readFour hN hσ5 (fun r534 σ522 hσ522 kk533 p535 => ?_)
        obtain ⟨k523, k524, k525, k526, k527, k528, k529, k530, k531, k532⟩ := kk533
        unfold fX2_enterThing_j33
        intro σ536 eσ536
        have hσ536 : K1 σ0 σ536 := by rw [eσ536]; exact hσ522.u (Rg1.r_3_6 (by omega) (by omega)) (by omega) (by omega)
        refine ⟨fun c538 => ?_, fun c538 => ?_⟩
        · have f540 : (10 : Int32).toInt = 10 := by decide
          have f541 := congrArg Int32.toInt c538
          unfold fX2_enterThing_j50
          have f543 : (5 : Int32).toInt = 5 := by decide
          have f544 := tA x1 (5 : Int32)
          have f545 := tB (x1 + 5)
          refine sX2_readArguments hN hσ536 (fun σ546 hσ546 kk556 => ?_)
          obtain ⟨k547, k548, k549, k550, k551, k552, k553, k554, k555⟩ := kk556
          unfold fX2_enterThing_j57
          refine ⟨fun c557 => ?_, fun c557 => ?_⟩
          · have f558 := tB (σ546.1 3 11)
            have f560 := congrArg Int32.toInt c557
            have f561 := tB r534
            refine sX2_readByte hN hσ546 (fun r574 σ562 hσ562 kk573 p575 => ?_)
            obtain ⟨k563, k564, k565, k566, k567, k568, k569, k570, k571, k572⟩ := kk573
            unfold fX2_enterThing_j73
            refine ⟨fun c576 => ?_, fun c576 => ?_⟩
            · have f577 := tB (σ562.1 3 11)
              have f579 := congrArg Int32.toInt c576
              refine ⟨fun c580 => ?_, fun c580 => ?_⟩
              · have f581 := tB r574
                have f582 : (192 : Int32).toInt = 192 := by decide
                have f583 := congrArg Int32.toInt c580
                unfold fX2_enterThing_j99
                have f585 : (255 : Int32).toInt = 255 := by decide
                refine sX2_callFunction hN hσ562 (fun σ586 hσ586 kk596 => ?_)
                obtain ⟨k587, k588, k589, k590, k591, k592, k593, k594, k595⟩ := kk596
                exact hQ _ hσ586 (⟨k588.trans (k565.trans (k548.trans ((kq (a := 9) (b := 9) eσ536 (by omega)).trans (k525.trans (k8))))), k589.trans (k566.trans (k549.trans ((kq (a := 9) (b := 10) eσ536 (by omega)).trans (k526.trans (k9))))), k590.trans (k567.trans (k550.trans ((kq (a := 6) (b := 5) eσ536 (by omega)).trans (k527.trans (k10))))), k591.trans (k568.trans (k551.trans ((kq (a := 7) (b := 4) eσ536 (by omega)).trans (k528.trans (k11))))), k592.trans (k569.trans (k552.trans ((kq (a := 2) (b := 4) eσ536 (by omega)).trans (k529.trans (k12))))), k593.trans (k570.trans (k553.trans ((kq (a := 2) (b := 5) eσ536 (by omega)).trans (k530.trans (k13))))), k594.trans (k571.trans (k554.trans ((kq (a := 2) (b := 6) eσ536 (by omega)).trans (k531.trans (k14))))), k595.trans (k572.trans (k555.trans ((kq (a := 3) (b := 8) eσ536 (by omega)).trans (k532.trans (k15)))))⟩)
              · have f597 := tB r574
                have f598 : (192 : Int32).toInt = 192 := by decide
                have f599 := mt Int32.toInt_inj.mp c580
                refine ⟨fun c600 => ?_, fun c600 => ?_⟩
                · have f602 : (193 : Int32).toInt = 193 := by decide
                  have f603 := congrArg Int32.toInt c600
                  unfold fX2_enterThing_j99
                  have f605 : (255 : Int32).toInt = 255 := by decide
                  refine sX2_callFunction hN hσ562 (fun σ606 hσ606 kk616 => ?_)
                  obtain ⟨k607, k608, k609, k610, k611, k612, k613, k614, k615⟩ := kk616
                  exact hQ _ hσ606 (⟨k608.trans (k565.trans (k548.trans ((kq (a := 9) (b := 9) eσ536 (by omega)).trans (k525.trans (k8))))), k609.trans (k566.trans (k549.trans ((kq (a := 9) (b := 10) eσ536 (by omega)).trans (k526.trans (k9))))), k610.trans (k567.trans (k550.trans ((kq (a := 6) (b := 5) eσ536 (by omega)).trans (k527.trans (k10))))), k611.trans (k568.trans (k551.trans ((kq (a := 7) (b := 4) eσ536 (by omega)).trans (k528.trans (k11))))), k612.trans (k569.trans (k552.trans ((kq (a := 2) (b := 4) eσ536 (by omega)).trans (k529.trans (k12))))), k613.trans (k570.trans (k553.trans ((kq (a := 2) (b := 5) eσ536 (by omega)).trans (k530.trans (k13))))), k614.trans (k571.trans (k554.trans ((kq (a := 2) (b := 6) eσ536 (by omega)).trans (k531.trans (k14))))), k615.trans (k572.trans (k555.trans ((kq (a := 3) (b := 8) eσ536 (by omega)).trans (k532.trans (k15)))))⟩)
                · have f618 : (193 : Int32).toInt = 193 := by decide
                  have f619 := mt Int32.toInt_inj.mp c600
                  refine sX2_beginString hN hσ562 (fun σ621 hσ621 kk631 => ?_)
                  obtain ⟨k622, k623, k624, k625, k626, k627, k628, k629, k630⟩ := kk631
                  exact hQ _ hσ621 (⟨k623.trans (k565.trans (k548.trans ((kq (a := 9) (b := 9) eσ536 (by omega)).trans (k525.trans (k8))))), k624.trans (k566.trans (k549.trans ((kq (a := 9) (b := 10) eσ536 (by omega)).trans (k526.trans (k9))))), k625.trans (k567.trans (k550.trans ((kq (a := 6) (b := 5) eσ536 (by omega)).trans (k527.trans (k10))))), k626.trans (k568.trans (k551.trans ((kq (a := 7) (b := 4) eσ536 (by omega)).trans (k528.trans (k11))))), k627.trans (k569.trans (k552.trans ((kq (a := 2) (b := 4) eσ536 (by omega)).trans (k529.trans (k12))))), k628.trans (k570.trans (k553.trans ((kq (a := 2) (b := 5) eσ536 (by omega)).trans (k530.trans (k13))))), k629.trans (k571.trans (k554.trans ((kq (a := 2) (b := 6) eσ536 (by omega)).trans (k531.trans (k14))))), k630.trans (k572.trans (k555.trans ((kq (a := 3) (b := 8) eσ536 (by omega)).trans (k532.trans (k15)))))⟩)
            · have f632 := tB (σ562.1 3 11)
              have f634 := mt Int32.toInt_inj.mp c576
              exact hQ _ hσ562 (⟨k565.trans (k548.trans ((kq (a := 9) (b := 9) eσ536 (by omega)).trans (k525.trans (k8)))), k566.trans (k549.trans ((kq (a := 9) (b := 10) eσ536 (by omega)).trans (k526.trans (k9)))), k567.trans (k550.trans ((kq (a := 6) (b := 5) eσ536 (by omega)).trans (k527.trans (k10)))), k568.trans (k551.trans ((kq (a := 7) (b := 4) eσ536 (by omega)).trans (k528.trans (k11)))), k569.trans (k552.trans ((kq (a := 2) (b := 4) eσ536 (by omega)).trans (k529.trans (k12)))), k570.trans (k553.trans ((kq (a := 2) (b := 5) eσ536 (by omega)).trans (k530.trans (k13)))), k571.trans (k554.trans ((kq (a := 2) (b := 6) eσ536 (by omega)).trans (k531.trans (k14)))), k572.trans (k555.trans ((kq (a := 3) (b := 8) eσ536 (by omega)).trans (k532.trans (k15))))⟩)
          · have f635 := tB (σ546.1 3 11)
            have f637 := mt Int32.toInt_inj.mp c557
            unfold fX2_enterThing_j73
            refine ⟨fun c638 => ?_, fun c638 => ?_⟩
            · have f641 := congrArg Int32.toInt c638
              refine ⟨fun c642 => ?_, fun c642 => ?_⟩
              · have f644 : (192 : Int32).toInt = 192 := by decide
                have f645 := congrArg Int32.toInt c642
                unfold fX2_enterThing_j99
                have f646 := tB r534
                have f647 : (255 : Int32).toInt = 255 := by decide
                refine sX2_callFunction hN hσ546 (fun σ648 hσ648 kk658 => ?_)
                obtain ⟨k649, k650, k651, k652, k653, k654, k655, k656, k657⟩ := kk658
                exact hQ _ hσ648 (⟨k650.trans (k548.trans ((kq (a := 9) (b := 9) eσ536 (by omega)).trans (k525.trans (k8)))), k651.trans (k549.trans ((kq (a := 9) (b := 10) eσ536 (by omega)).trans (k526.trans (k9)))), k652.trans (k550.trans ((kq (a := 6) (b := 5) eσ536 (by omega)).trans (k527.trans (k10)))), k653.trans (k551.trans ((kq (a := 7) (b := 4) eσ536 (by omega)).trans (k528.trans (k11)))), k654.trans (k552.trans ((kq (a := 2) (b := 4) eσ536 (by omega)).trans (k529.trans (k12)))), k655.trans (k553.trans ((kq (a := 2) (b := 5) eσ536 (by omega)).trans (k530.trans (k13)))), k656.trans (k554.trans ((kq (a := 2) (b := 6) eσ536 (by omega)).trans (k531.trans (k14)))), k657.trans (k555.trans ((kq (a := 3) (b := 8) eσ536 (by omega)).trans (k532.trans (k15))))⟩)
              · have f660 : (192 : Int32).toInt = 192 := by decide
                have f661 := mt Int32.toInt_inj.mp c642
                refine ⟨fun c662 => ?_, fun c662 => ?_⟩
                · have f664 : (193 : Int32).toInt = 193 := by decide
                  have f665 := congrArg Int32.toInt c662
                  unfold fX2_enterThing_j99
                  have f666 := tB r534
                  have f667 : (255 : Int32).toInt = 255 := by decide
                  refine sX2_callFunction hN hσ546 (fun σ668 hσ668 kk678 => ?_)
                  obtain ⟨k669, k670, k671, k672, k673, k674, k675, k676, k677⟩ := kk678
                  exact hQ _ hσ668 (⟨k670.trans (k548.trans ((kq (a := 9) (b := 9) eσ536 (by omega)).trans (k525.trans (k8)))), k671.trans (k549.trans ((kq (a := 9) (b := 10) eσ536 (by omega)).trans (k526.trans (k9)))), k672.trans (k550.trans ((kq (a := 6) (b := 5) eσ536 (by omega)).trans (k527.trans (k10)))), k673.trans (k551.trans ((kq (a := 7) (b := 4) eσ536 (by omega)).trans (k528.trans (k11)))), k674.trans (k552.trans ((kq (a := 2) (b := 4) eσ536 (by omega)).trans (k529.trans (k12)))), k675.trans (k553.trans ((kq (a := 2) (b := 5) eσ536 (by omega)).trans (k530.trans (k13)))), k676.trans (k554.trans ((kq (a := 2) (b := 6) eσ536 (by omega)).trans (k531.trans (k14)))), k677.trans (k555.trans ((kq (a := 3) (b := 8) eσ536 (by omega)).trans (k532.trans (k15))))⟩)
                · have f680 : (193 : Int32).toInt = 193 := by decide
                  have f681 := mt Int32.toInt_inj.mp c662
                  have f682 := tB r534
                  refine sX2_beginString hN hσ546 (fun σ683 hσ683 kk693 => ?_)
                  obtain ⟨k684, k685, k686, k687, k688, k689, k690, k691, k692⟩ := kk693
                  exact hQ _ hσ683 (⟨k685.trans (k548.trans ((kq (a := 9) (b := 9) eσ536 (by omega)).trans (k525.trans (k8)))), k686.trans (k549.trans ((kq (a := 9) (b := 10) eσ536 (by omega)).trans (k526.trans (k9)))), k687.trans (k550.trans ((kq (a := 6) (b := 5) eσ536 (by omega)).trans (k527.trans (k10)))), k688.trans (k551.trans ((kq (a := 7) (b := 4) eσ536 (by omega)).trans (k528.trans (k11)))), k689.trans (k552.trans ((kq (a := 2) (b := 4) eσ536 (by omega)).trans (k529.trans (k12)))), k690.trans (k553.trans ((kq (a := 2) (b := 5) eσ536 (by omega)).trans (k530.trans (k13)))), k691.trans (k554.trans ((kq (a := 2) (b := 6) eσ536 (by omega)).trans (k531.trans (k14)))), k692.trans (k555.trans ((kq (a := 3) (b := 8) eσ536 (by omega)).trans (k532.trans (k15))))⟩)
            · have f696 := mt Int32.toInt_inj.mp c638
              exact hQ _ hσ546 (⟨k548.trans ((kq (a := 9) (b := 9) eσ536 (by omega)).trans (k525.trans (k8))), k549.trans ((kq (a := 9) (b := 10) eσ536 (by omega)).trans (k526.trans (k9))), k550.trans ((kq (a := 6) (b := 5) eσ536 (by omega)).trans (k527.trans (k10))), k551.trans ((kq (a := 7) (b := 4) eσ536 (by omega)).trans (k528.trans (k11))), k552.trans ((kq (a := 2) (b := 4) eσ536 (by omega)).trans (k529.trans (k12))), k553.trans ((kq (a := 2) (b := 5) eσ536 (by omega)).trans (k530.trans (k13))), k554.trans ((kq (a := 2) (b := 6) eσ536 (by omega)).trans (k531.trans (k14))), k555.trans ((kq (a := 3) (b := 8) eσ536 (by omega)).trans (k532.trans (k15)))⟩)
        · have f698 : (10 : Int32).toInt = 10 := by decide
          have f699 := mt Int32.toInt_inj.mp c538
          refine ⟨fun c700 => ?_, fun c700 => ?_⟩
          · have f703 := congrArg Int32.toInt c700
            unfold fX2_enterThing_j50
            have f705 : (5 : Int32).toInt = 5 := by decide
            have f706 := tA x1 (5 : Int32)
            have f707 := tB (x1 + 5)
            refine sX2_readArguments hN hσ536 (fun σ708 hσ708 kk718 => ?_)
            obtain ⟨k709, k710, k711, k712, k713, k714, k715, k716, k717⟩ := kk718
            unfold fX2_enterThing_j57
            refine ⟨fun c719 => ?_, fun c719 => ?_⟩
            · have f720 := tB (σ708.1 3 11)
              have f722 := congrArg Int32.toInt c719
              have f723 := tB r534
              refine sX2_readByte hN hσ708 (fun r736 σ724 hσ724 kk735 p737 => ?_)
              obtain ⟨k725, k726, k727, k728, k729, k730, k731, k732, k733, k734⟩ := kk735
              unfold fX2_enterThing_j73
              refine ⟨fun c738 => ?_, fun c738 => ?_⟩
              · have f739 := tB (σ724.1 3 11)
                have f741 := congrArg Int32.toInt c738
                refine ⟨fun c742 => ?_, fun c742 => ?_⟩
                · have f743 := tB r736
                  have f744 : (192 : Int32).toInt = 192 := by decide
                  have f745 := congrArg Int32.toInt c742
                  unfold fX2_enterThing_j99
                  have f747 : (255 : Int32).toInt = 255 := by decide
                  refine sX2_callFunction hN hσ724 (fun σ748 hσ748 kk758 => ?_)
                  obtain ⟨k749, k750, k751, k752, k753, k754, k755, k756, k757⟩ := kk758
                  exact hQ _ hσ748 (⟨k750.trans (k727.trans (k710.trans ((kq (a := 9) (b := 9) eσ536 (by omega)).trans (k525.trans (k8))))), k751.trans (k728.trans (k711.trans ((kq (a := 9) (b := 10) eσ536 (by omega)).trans (k526.trans (k9))))), k752.trans (k729.trans (k712.trans ((kq (a := 6) (b := 5) eσ536 (by omega)).trans (k527.trans (k10))))), k753.trans (k730.trans (k713.trans ((kq (a := 7) (b := 4) eσ536 (by omega)).trans (k528.trans (k11))))), k754.trans (k731.trans (k714.trans ((kq (a := 2) (b := 4) eσ536 (by omega)).trans (k529.trans (k12))))), k755.trans (k732.trans (k715.trans ((kq (a := 2) (b := 5) eσ536 (by omega)).trans (k530.trans (k13))))), k756.trans (k733.trans (k716.trans ((kq (a := 2) (b := 6) eσ536 (by omega)).trans (k531.trans (k14))))), k757.trans (k734.trans (k717.trans ((kq (a := 3) (b := 8) eσ536 (by omega)).trans (k532.trans (k15)))))⟩)
                · have f759 := tB r736
                  have f760 : (192 : Int32).toInt = 192 := by decide
                  have f761 := mt Int32.toInt_inj.mp c742
                  refine ⟨fun c762 => ?_, fun c762 => ?_⟩
                  · have f764 : (193 : Int32).toInt = 193 := by decide
                    have f765 := congrArg Int32.toInt c762
                    unfold fX2_enterThing_j99
                    have f767 : (255 : Int32).toInt = 255 := by decide
                    refine sX2_callFunction hN hσ724 (fun σ768 hσ768 kk778 => ?_)
                    obtain ⟨k769, k770, k771, k772, k773, k774, k775, k776, k777⟩ := kk778
                    exact hQ _ hσ768 (⟨k770.trans (k727.trans (k710.trans ((kq (a := 9) (b := 9) eσ536 (by omega)).trans (k525.trans (k8))))), k771.trans (k728.trans (k711.trans ((kq (a := 9) (b := 10) eσ536 (by omega)).trans (k526.trans (k9))))), k772.trans (k729.trans (k712.trans ((kq (a := 6) (b := 5) eσ536 (by omega)).trans (k527.trans (k10))))), k773.trans (k730.trans (k713.trans ((kq (a := 7) (b := 4) eσ536 (by omega)).trans (k528.trans (k11))))), k774.trans (k731.trans (k714.trans ((kq (a := 2) (b := 4) eσ536 (by omega)).trans (k529.trans (k12))))), k775.trans (k732.trans (k715.trans ((kq (a := 2) (b := 5) eσ536 (by omega)).trans (k530.trans (k13))))), k776.trans (k733.trans (k716.trans ((kq (a := 2) (b := 6) eσ536 (by omega)).trans (k531.trans (k14))))), k777.trans (k734.trans (k717.trans ((kq (a := 3) (b := 8) eσ536 (by omega)).trans (k532.trans (k15)))))⟩)
                  · have f780 : (193 : Int32).toInt = 193 := by decide
                    have f781 := mt Int32.toInt_inj.mp c762
                    refine sX2_beginString hN hσ724 (fun σ783 hσ783 kk793 => ?_)
                    obtain ⟨k784, k785, k786, k787, k788, k789, k790, k791, k792⟩ := kk793
                    exact hQ _ hσ783 (⟨k785.trans (k727.trans (k710.trans ((kq (a := 9) (b := 9) eσ536 (by omega)).trans (k525.trans (k8))))), k786.trans (k728.trans (k711.trans ((kq (a := 9) (b := 10) eσ536 (by omega)).trans (k526.trans (k9))))), k787.trans (k729.trans (k712.trans ((kq (a := 6) (b := 5) eσ536 (by omega)).trans (k527.trans (k10))))), k788.trans (k730.trans (k713.trans ((kq (a := 7) (b := 4) eσ536 (by omega)).trans (k528.trans (k11))))), k789.trans (k731.trans (k714.trans ((kq (a := 2) (b := 4) eσ536 (by omega)).trans (k529.trans (k12))))), k790.trans (k732.trans (k715.trans ((kq (a := 2) (b := 5) eσ536 (by omega)).trans (k530.trans (k13))))), k791.trans (k733.trans (k716.trans ((kq (a := 2) (b := 6) eσ536 (by omega)).trans (k531.trans (k14))))), k792.trans (k734.trans (k717.trans ((kq (a := 3) (b := 8) eσ536 (by omega)).trans (k532.trans (k15)))))⟩)
              · have f794 := tB (σ724.1 3 11)
                have f796 := mt Int32.toInt_inj.mp c738
                exact hQ _ hσ724 (⟨k727.trans (k710.trans ((kq (a := 9) (b := 9) eσ536 (by omega)).trans (k525.trans (k8)))), k728.trans (k711.trans ((kq (a := 9) (b := 10) eσ536 (by omega)).trans (k526.trans (k9)))), k729.trans (k712.trans ((kq (a := 6) (b := 5) eσ536 (by omega)).trans (k527.trans (k10)))), k730.trans (k713.trans ((kq (a := 7) (b := 4) eσ536 (by omega)).trans (k528.trans (k11)))), k731.trans (k714.trans ((kq (a := 2) (b := 4) eσ536 (by omega)).trans (k529.trans (k12)))), k732.trans (k715.trans ((kq (a := 2) (b := 5) eσ536 (by omega)).trans (k530.trans (k13)))), k733.trans (k716.trans ((kq (a := 2) (b := 6) eσ536 (by omega)).trans (k531.trans (k14)))), k734.trans (k717.trans ((kq (a := 3) (b := 8) eσ536 (by omega)).trans (k532.trans (k15))))⟩)
            · have f797 := tB (σ708.1 3 11)
              have f799 := mt Int32.toInt_inj.mp c719
              unfold fX2_enterThing_j73
              refine ⟨fun c800 => ?_, fun c800 => ?_⟩
              · have f803 := congrArg Int32.toInt c800
                refine ⟨fun c804 => ?_, fun c804 => ?_⟩
                · have f806 : (192 : Int32).toInt = 192 := by decide
                  have f807 := congrArg Int32.toInt c804
                  unfold fX2_enterThing_j99
                  have f808 := tB r534
                  have f809 : (255 : Int32).toInt = 255 := by decide
                  refine sX2_callFunction hN hσ708 (fun σ810 hσ810 kk820 => ?_)
                  obtain ⟨k811, k812, k813, k814, k815, k816, k817, k818, k819⟩ := kk820
                  exact hQ _ hσ810 (⟨k812.trans (k710.trans ((kq (a := 9) (b := 9) eσ536 (by omega)).trans (k525.trans (k8)))), k813.trans (k711.trans ((kq (a := 9) (b := 10) eσ536 (by omega)).trans (k526.trans (k9)))), k814.trans (k712.trans ((kq (a := 6) (b := 5) eσ536 (by omega)).trans (k527.trans (k10)))), k815.trans (k713.trans ((kq (a := 7) (b := 4) eσ536 (by omega)).trans (k528.trans (k11)))), k816.trans (k714.trans ((kq (a := 2) (b := 4) eσ536 (by omega)).trans (k529.trans (k12)))), k817.trans (k715.trans ((kq (a := 2) (b := 5) eσ536 (by omega)).trans (k530.trans (k13)))), k818.trans (k716.trans ((kq (a := 2) (b := 6) eσ536 (by omega)).trans (k531.trans (k14)))), k819.trans (k717.trans ((kq (a := 3) (b := 8) eσ536 (by omega)).trans (k532.trans (k15))))⟩)
                · have f822 : (192 : Int32).toInt = 192 := by decide
                  have f823 := mt Int32.toInt_inj.mp c804
                  refine ⟨fun c824 => ?_, fun c824 => ?_⟩
                  · have f826 : (193 : Int32).toInt = 193 := by decide
                    have f827 := congrArg Int32.toInt c824
                    unfold fX2_enterThing_j99
                    have f828 := tB r534
                    have f829 : (255 : Int32).toInt = 255 := by decide
                    refine sX2_callFunction hN hσ708 (fun σ830 hσ830 kk840 => ?_)
                    obtain ⟨k831, k832, k833, k834, k835, k836, k837, k838, k839⟩ := kk840
                    exact hQ _ hσ830 (⟨k832.trans (k710.trans ((kq (a := 9) (b := 9) eσ536 (by omega)).trans (k525.trans (k8)))), k833.trans (k711.trans ((kq (a := 9) (b := 10) eσ536 (by omega)).trans (k526.trans (k9)))), k834.trans (k712.trans ((kq (a := 6) (b := 5) eσ536 (by omega)).trans (k527.trans (k10)))), k835.trans (k713.trans ((kq (a := 7) (b := 4) eσ536 (by omega)).trans (k528.trans (k11)))), k836.trans (k714.trans ((kq (a := 2) (b := 4) eσ536 (by omega)).trans (k529.trans (k12)))), k837.trans (k715.trans ((kq (a := 2) (b := 5) eσ536 (by omega)).trans (k530.trans (k13)))), k838.trans (k716.trans ((kq (a := 2) (b := 6) eσ536 (by omega)).trans (k531.trans (k14)))), k839.trans (k717.trans ((kq (a := 3) (b := 8) eσ536 (by omega)).trans (k532.trans (k15))))⟩)
                  · have f842 : (193 : Int32).toInt = 193 := by decide
                    have f843 := mt Int32.toInt_inj.mp c824
                    have f844 := tB r534
                    refine sX2_beginString hN hσ708 (fun σ845 hσ845 kk855 => ?_)
                    obtain ⟨k846, k847, k848, k849, k850, k851, k852, k853, k854⟩ := kk855
                    exact hQ _ hσ845 (⟨k847.trans (k710.trans ((kq (a := 9) (b := 9) eσ536 (by omega)).trans (k525.trans (k8)))), k848.trans (k711.trans ((kq (a := 9) (b := 10) eσ536 (by omega)).trans (k526.trans (k9)))), k849.trans (k712.trans ((kq (a := 6) (b := 5) eσ536 (by omega)).trans (k527.trans (k10)))), k850.trans (k713.trans ((kq (a := 7) (b := 4) eσ536 (by omega)).trans (k528.trans (k11)))), k851.trans (k714.trans ((kq (a := 2) (b := 4) eσ536 (by omega)).trans (k529.trans (k12)))), k852.trans (k715.trans ((kq (a := 2) (b := 5) eσ536 (by omega)).trans (k530.trans (k13)))), k853.trans (k716.trans ((kq (a := 2) (b := 6) eσ536 (by omega)).trans (k531.trans (k14)))), k854.trans (k717.trans ((kq (a := 3) (b := 8) eσ536 (by omega)).trans (k532.trans (k15))))⟩)
              · have f858 := mt Int32.toInt_inj.mp c800
                exact hQ _ hσ708 (⟨k710.trans ((kq (a := 9) (b := 9) eσ536 (by omega)).trans (k525.trans (k8))), k711.trans ((kq (a := 9) (b := 10) eσ536 (by omega)).trans (k526.trans (k9))), k712.trans ((kq (a := 6) (b := 5) eσ536 (by omega)).trans (k527.trans (k10))), k713.trans ((kq (a := 7) (b := 4) eσ536 (by omega)).trans (k528.trans (k11))), k714.trans ((kq (a := 2) (b := 4) eσ536 (by omega)).trans (k529.trans (k12))), k715.trans ((kq (a := 2) (b := 5) eσ536 (by omega)).trans (k530.trans (k13))), k716.trans ((kq (a := 2) (b := 6) eσ536 (by omega)).trans (k531.trans (k14))), k717.trans ((kq (a := 3) (b := 8) eσ536 (by omega)).trans (k532.trans (k15)))⟩)
          · have f861 := mt Int32.toInt_inj.mp c700
            unfold fX2_enterThing_j57
            refine ⟨fun c862 => ?_, fun c862 => ?_⟩
            · have f863 := tB (σ536.1 3 11)
              have q864 : σ536.1 3 11 = σ522.1 3 11 := by rw [eσ536, u1_at]; exact if_neg (by decide)
              have f865 := congrArg Int32.toInt q864
              have f866 := tB (σ522.1 3 11)
              have f868 := congrArg Int32.toInt c862
              have f869 := tB r534
              refine sX2_readByte hN hσ536 (fun r882 σ870 hσ870 kk881 p883 => ?_)
              obtain ⟨k871, k872, k873, k874, k875, k876, k877, k878, k879, k880⟩ := kk881
              unfold fX2_enterThing_j73
              refine ⟨fun c884 => ?_, fun c884 => ?_⟩
              · have f885 := tB (σ870.1 3 11)
                have f887 := congrArg Int32.toInt c884
                refine ⟨fun c888 => ?_, fun c888 => ?_⟩
                · have f889 := tB r882
                  have f890 : (192 : Int32).toInt = 192 := by decide
                  have f891 := congrArg Int32.toInt c888
                  unfold fX2_enterThing_j99
                  have f893 : (255 : Int32).toInt = 255 := by decide
                  refine sX2_callFunction hN hσ870 (fun σ894 hσ894 kk904 => ?_)
                  obtain ⟨k895, k896, k897, k898, k899, k900, k901, k902, k903⟩ := kk904
                  exact hQ _ hσ894 (⟨k896.trans (k873.trans ((kq (a := 9) (b := 9) eσ536 (by omega)).trans (k525.trans (k8)))), k897.trans (k874.trans ((kq (a := 9) (b := 10) eσ536 (by omega)).trans (k526.trans (k9)))), k898.trans (k875.trans ((kq (a := 6) (b := 5) eσ536 (by omega)).trans (k527.trans (k10)))), k899.trans (k876.trans ((kq (a := 7) (b := 4) eσ536 (by omega)).trans (k528.trans (k11)))), k900.trans (k877.trans ((kq (a := 2) (b := 4) eσ536 (by omega)).trans (k529.trans (k12)))), k901.trans (k878.trans ((kq (a := 2) (b := 5) eσ536 (by omega)).trans (k530.trans (k13)))), k902.trans (k879.trans ((kq (a := 2) (b := 6) eσ536 (by omega)).trans (k531.trans (k14)))), k903.trans (k880.trans ((kq (a := 3) (b := 8) eσ536 (by omega)).trans (k532.trans (k15))))⟩)
                · have f905 := tB r882
                  have f906 : (192 : Int32).toInt = 192 := by decide
                  have f907 := mt Int32.toInt_inj.mp c888
                  refine ⟨fun c908 => ?_, fun c908 => ?_⟩
                  · have f910 : (193 : Int32).toInt = 193 := by decide
                    have f911 := congrArg Int32.toInt c908
                    unfold fX2_enterThing_j99
                    have f913 : (255 : Int32).toInt = 255 := by decide
                    refine sX2_callFunction hN hσ870 (fun σ914 hσ914 kk924 => ?_)
                    obtain ⟨k915, k916, k917, k918, k919, k920, k921, k922, k923⟩ := kk924
                    exact hQ _ hσ914 (⟨k916.trans (k873.trans ((kq (a := 9) (b := 9) eσ536 (by omega)).trans (k525.trans (k8)))), k917.trans (k874.trans ((kq (a := 9) (b := 10) eσ536 (by omega)).trans (k526.trans (k9)))), k918.trans (k875.trans ((kq (a := 6) (b := 5) eσ536 (by omega)).trans (k527.trans (k10)))), k919.trans (k876.trans ((kq (a := 7) (b := 4) eσ536 (by omega)).trans (k528.trans (k11)))), k920.trans (k877.trans ((kq (a := 2) (b := 4) eσ536 (by omega)).trans (k529.trans (k12)))), k921.trans (k878.trans ((kq (a := 2) (b := 5) eσ536 (by omega)).trans (k530.trans (k13)))), k922.trans (k879.trans ((kq (a := 2) (b := 6) eσ536 (by omega)).trans (k531.trans (k14)))), k923.trans (k880.trans ((kq (a := 3) (b := 8) eσ536 (by omega)).trans (k532.trans (k15))))⟩)
                  · have f926 : (193 : Int32).toInt = 193 := by decide
                    have f927 := mt Int32.toInt_inj.mp c908
                    refine sX2_beginString hN hσ870 (fun σ929 hσ929 kk939 => ?_)
                    obtain ⟨k930, k931, k932, k933, k934, k935, k936, k937, k938⟩ := kk939
                    exact hQ _ hσ929 (⟨k931.trans (k873.trans ((kq (a := 9) (b := 9) eσ536 (by omega)).trans (k525.trans (k8)))), k932.trans (k874.trans ((kq (a := 9) (b := 10) eσ536 (by omega)).trans (k526.trans (k9)))), k933.trans (k875.trans ((kq (a := 6) (b := 5) eσ536 (by omega)).trans (k527.trans (k10)))), k934.trans (k876.trans ((kq (a := 7) (b := 4) eσ536 (by omega)).trans (k528.trans (k11)))), k935.trans (k877.trans ((kq (a := 2) (b := 4) eσ536 (by omega)).trans (k529.trans (k12)))), k936.trans (k878.trans ((kq (a := 2) (b := 5) eσ536 (by omega)).trans (k530.trans (k13)))), k937.trans (k879.trans ((kq (a := 2) (b := 6) eσ536 (by omega)).trans (k531.trans (k14)))), k938.trans (k880.trans ((kq (a := 3) (b := 8) eσ536 (by omega)).trans (k532.trans (k15))))⟩)
              · have f940 := tB (σ870.1 3 11)
                have f942 := mt Int32.toInt_inj.mp c884
                exact hQ _ hσ870 (⟨k873.trans ((kq (a := 9) (b := 9) eσ536 (by omega)).trans (k525.trans (k8))), k874.trans ((kq (a := 9) (b := 10) eσ536 (by omega)).trans (k526.trans (k9))), k875.trans ((kq (a := 6) (b := 5) eσ536 (by omega)).trans (k527.trans (k10))), k876.trans ((kq (a := 7) (b := 4) eσ536 (by omega)).trans (k528.trans (k11))), k877.trans ((kq (a := 2) (b := 4) eσ536 (by omega)).trans (k529.trans (k12))), k878.trans ((kq (a := 2) (b := 5) eσ536 (by omega)).trans (k530.trans (k13))), k879.trans ((kq (a := 2) (b := 6) eσ536 (by omega)).trans (k531.trans (k14))), k880.trans ((kq (a := 3) (b := 8) eσ536 (by omega)).trans (k532.trans (k15)))⟩)
            · have f943 := tB (σ536.1 3 11)
              have q944 : σ536.1 3 11 = σ522.1 3 11 := by rw [eσ536, u1_at]; exact if_neg (by decide)
              have f945 := congrArg Int32.toInt q944
              have f946 := tB (σ522.1 3 11)
              have f948 := mt Int32.toInt_inj.mp c862
              unfold fX2_enterThing_j73
              refine ⟨fun c949 => ?_, fun c949 => ?_⟩
              · have f952 := congrArg Int32.toInt c949
                refine ⟨fun c953 => ?_, fun c953 => ?_⟩
                · have f955 : (192 : Int32).toInt = 192 := by decide
                  have f956 := congrArg Int32.toInt c953
                  unfold fX2_enterThing_j99
                  have f957 := tB r534
                  have f958 : (255 : Int32).toInt = 255 := by decide
                  refine sX2_callFunction hN hσ536 (fun σ959 hσ959 kk969 => ?_)
                  obtain ⟨k960, k961, k962, k963, k964, k965, k966, k967, k968⟩ := kk969
                  exact hQ _ hσ959 (⟨k961.trans ((kq (a := 9) (b := 9) eσ536 (by omega)).trans (k525.trans (k8))), k962.trans ((kq (a := 9) (b := 10) eσ536 (by omega)).trans (k526.trans (k9))), k963.trans ((kq (a := 6) (b := 5) eσ536 (by omega)).trans (k527.trans (k10))), k964.trans ((kq (a := 7) (b := 4) eσ536 (by omega)).trans (k528.trans (k11))), k965.trans ((kq (a := 2) (b := 4) eσ536 (by omega)).trans (k529.trans (k12))), k966.trans ((kq (a := 2) (b := 5) eσ536 (by omega)).trans (k530.trans (k13))), k967.trans ((kq (a := 2) (b := 6) eσ536 (by omega)).trans (k531.trans (k14))), k968.trans ((kq (a := 3) (b := 8) eσ536 (by omega)).trans (k532.trans (k15)))⟩)
                · have f971 : (192 : Int32).toInt = 192 := by decide
                  have f972 := mt Int32.toInt_inj.mp c953
                  refine ⟨fun c973 => ?_, fun c973 => ?_⟩
                  · have f975 : (193 : Int32).toInt = 193 := by decide
                    have f976 := congrArg Int32.toInt c973
                    unfold fX2_enterThing_j99
                    have f977 := tB r534
                    have f978 : (255 : Int32).toInt = 255 := by decide
                    refine sX2_callFunction hN hσ536 (fun σ979 hσ979 kk989 => ?_)
                    obtain ⟨k980, k981, k982, k983, k984, k985, k986, k987, k988⟩ := kk989
                    exact hQ _ hσ979 (⟨k981.trans ((kq (a := 9) (b := 9) eσ536 (by omega)).trans (k525.trans (k8))), k982.trans ((kq (a := 9) (b := 10) eσ536 (by omega)).trans (k526.trans (k9))), k983.trans ((kq (a := 6) (b := 5) eσ536 (by omega)).trans (k527.trans (k10))), k984.trans ((kq (a := 7) (b := 4) eσ536 (by omega)).trans (k528.trans (k11))), k985.trans ((kq (a := 2) (b := 4) eσ536 (by omega)).trans (k529.trans (k12))), k986.trans ((kq (a := 2) (b := 5) eσ536 (by omega)).trans (k530.trans (k13))), k987.trans ((kq (a := 2) (b := 6) eσ536 (by omega)).trans (k531.trans (k14))), k988.trans ((kq (a := 3) (b := 8) eσ536 (by omega)).trans (k532.trans (k15)))⟩)
                  · have f991 : (193 : Int32).toInt = 193 := by decide
                    have f992 := mt Int32.toInt_inj.mp c973
                    have f993 := tB r534
                    refine sX2_beginString hN hσ536 (fun σ994 hσ994 kk1004 => ?_)
                    obtain ⟨k995, k996, k997, k998, k999, k1000, k1001, k1002, k1003⟩ := kk1004
                    exact hQ _ hσ994 (⟨k996.trans ((kq (a := 9) (b := 9) eσ536 (by omega)).trans (k525.trans (k8))), k997.trans ((kq (a := 9) (b := 10) eσ536 (by omega)).trans (k526.trans (k9))), k998.trans ((kq (a := 6) (b := 5) eσ536 (by omega)).trans (k527.trans (k10))), k999.trans ((kq (a := 7) (b := 4) eσ536 (by omega)).trans (k528.trans (k11))), k1000.trans ((kq (a := 2) (b := 4) eσ536 (by omega)).trans (k529.trans (k12))), k1001.trans ((kq (a := 2) (b := 5) eσ536 (by omega)).trans (k530.trans (k13))), k1002.trans ((kq (a := 2) (b := 6) eσ536 (by omega)).trans (k531.trans (k14))), k1003.trans ((kq (a := 3) (b := 8) eσ536 (by omega)).trans (k532.trans (k15)))⟩)
              · have f1007 := mt Int32.toInt_inj.mp c949
                exact hQ _ hσ536 (⟨(kq (a := 9) (b := 9) eσ536 (by omega)).trans (k525.trans (k8)), (kq (a := 9) (b := 10) eσ536 (by omega)).trans (k526.trans (k9)), (kq (a := 6) (b := 5) eσ536 (by omega)).trans (k527.trans (k10)), (kq (a := 7) (b := 4) eσ536 (by omega)).trans (k528.trans (k11)), (kq (a := 2) (b := 4) eσ536 (by omega)).trans (k529.trans (k12)), (kq (a := 2) (b := 5) eσ536 (by omega)).trans (k530.trans (k13)), (kq (a := 2) (b := 6) eσ536 (by omega)).trans (k531.trans (k14)), (kq (a := 3) (b := 8) eσ536 (by omega)).trans (k532.trans (k15))⟩)
      · have f1009 : (11 : Int32).toInt = 11 := by decide
        have f1010 := mt Int32.toInt_inj.mp c517
        unfold fX2_enterThing_j33
        intro σ1011 eσ1011
        have hσ1011 : K1 σ0 σ1011 := by rw [eσ1011]; exact hσ5.u (Rg1.r_3_6 (by omega) (by omega)) (by omega) (by omega)
        refine ⟨fun c1013 => ?_, fun c1013 => ?_⟩
        · have f1015 : (10 : Int32).toInt = 10 := by decide
          have f1016 := congrArg Int32.toInt c1013
          unfold fX2_enterThing_j50
          have f1018 : (5 : Int32).toInt = 5 := by decide
          have f1019 := tA x1 (5 : Int32)
          have f1020 := tB (x1 + 5)
          refine sX2_readArguments hN hσ1011 (fun σ1021 hσ1021 kk1031 => ?_)
          obtain ⟨k1022, k1023, k1024, k1025, k1026, k1027, k1028, k1029, k1030⟩ := kk1031
          unfold fX2_enterThing_j57
          refine ⟨fun c1032 => ?_, fun c1032 => ?_⟩
          · have f1033 := tB (σ1021.1 3 11)
            have f1035 := congrArg Int32.toInt c1032
            have f1036 := tB r17
            refine sX2_readByte hN hσ1021 (fun r1049 σ1037 hσ1037 kk1048 p1050 => ?_)
            obtain ⟨k1038, k1039, k1040, k1041, k1042, k1043, k1044, k1045, k1046, k1047⟩ := kk1048
            unfold fX2_enterThing_j73
            refine ⟨fun c1051 => ?_, fun c1051 => ?_⟩
            · have f1052 := tB (σ1037.1 3 11)
              have f1054 := congrArg Int32.toInt c1051
              refine ⟨fun c1055 => ?_, fun c1055 => ?_⟩
              · have f1056 := tB r1049
                have f1057 : (192 : Int32).toInt = 192 := by decide
                have f1058 := congrArg Int32.toInt c1055
                unfold fX2_enterThing_j99
                have f1060 : (255 : Int32).toInt = 255 := by decide
                refine sX2_callFunction hN hσ1037 (fun σ1061 hσ1061 kk1071 => ?_)
                obtain ⟨k1062, k1063, k1064, k1065, k1066, k1067, k1068, k1069, k1070⟩ := kk1071
                exact hQ _ hσ1061 (⟨k1063.trans (k1040.trans (k1023.trans ((kq (a := 9) (b := 9) eσ1011 (by omega)).trans (k8)))), k1064.trans (k1041.trans (k1024.trans ((kq (a := 9) (b := 10) eσ1011 (by omega)).trans (k9)))), k1065.trans (k1042.trans (k1025.trans ((kq (a := 6) (b := 5) eσ1011 (by omega)).trans (k10)))), k1066.trans (k1043.trans (k1026.trans ((kq (a := 7) (b := 4) eσ1011 (by omega)).trans (k11)))), k1067.trans (k1044.trans (k1027.trans ((kq (a := 2) (b := 4) eσ1011 (by omega)).trans (k12)))), k1068.trans (k1045.trans (k1028.trans ((kq (a := 2) (b := 5) eσ1011 (by omega)).trans (k13)))), k1069.trans (k1046.trans (k1029.trans ((kq (a := 2) (b := 6) eσ1011 (by omega)).trans (k14)))), k1070.trans (k1047.trans (k1030.trans ((kq (a := 3) (b := 8) eσ1011 (by omega)).trans (k15))))⟩)
              · have f1072 := tB r1049
                have f1073 : (192 : Int32).toInt = 192 := by decide
                have f1074 := mt Int32.toInt_inj.mp c1055
                refine ⟨fun c1075 => ?_, fun c1075 => ?_⟩
                · have f1077 : (193 : Int32).toInt = 193 := by decide
                  have f1078 := congrArg Int32.toInt c1075
                  unfold fX2_enterThing_j99
                  have f1080 : (255 : Int32).toInt = 255 := by decide
                  refine sX2_callFunction hN hσ1037 (fun σ1081 hσ1081 kk1091 => ?_)
                  obtain ⟨k1082, k1083, k1084, k1085, k1086, k1087, k1088, k1089, k1090⟩ := kk1091
                  exact hQ _ hσ1081 (⟨k1083.trans (k1040.trans (k1023.trans ((kq (a := 9) (b := 9) eσ1011 (by omega)).trans (k8)))), k1084.trans (k1041.trans (k1024.trans ((kq (a := 9) (b := 10) eσ1011 (by omega)).trans (k9)))), k1085.trans (k1042.trans (k1025.trans ((kq (a := 6) (b := 5) eσ1011 (by omega)).trans (k10)))), k1086.trans (k1043.trans (k1026.trans ((kq (a := 7) (b := 4) eσ1011 (by omega)).trans (k11)))), k1087.trans (k1044.trans (k1027.trans ((kq (a := 2) (b := 4) eσ1011 (by omega)).trans (k12)))), k1088.trans (k1045.trans (k1028.trans ((kq (a := 2) (b := 5) eσ1011 (by omega)).trans (k13)))), k1089.trans (k1046.trans (k1029.trans ((kq (a := 2) (b := 6) eσ1011 (by omega)).trans (k14)))), k1090.trans (k1047.trans (k1030.trans ((kq (a := 3) (b := 8) eσ1011 (by omega)).trans (k15))))⟩)
                · have f1093 : (193 : Int32).toInt = 193 := by decide
                  have f1094 := mt Int32.toInt_inj.mp c1075
                  refine sX2_beginString hN hσ1037 (fun σ1096 hσ1096 kk1106 => ?_)
                  obtain ⟨k1097, k1098, k1099, k1100, k1101, k1102, k1103, k1104, k1105⟩ := kk1106
                  exact hQ _ hσ1096 (⟨k1098.trans (k1040.trans (k1023.trans ((kq (a := 9) (b := 9) eσ1011 (by omega)).trans (k8)))), k1099.trans (k1041.trans (k1024.trans ((kq (a := 9) (b := 10) eσ1011 (by omega)).trans (k9)))), k1100.trans (k1042.trans (k1025.trans ((kq (a := 6) (b := 5) eσ1011 (by omega)).trans (k10)))), k1101.trans (k1043.trans (k1026.trans ((kq (a := 7) (b := 4) eσ1011 (by omega)).trans (k11)))), k1102.trans (k1044.trans (k1027.trans ((kq (a := 2) (b := 4) eσ1011 (by omega)).trans (k12)))), k1103.trans (k1045.trans (k1028.trans ((kq (a := 2) (b := 5) eσ1011 (by omega)).trans (k13)))), k1104.trans (k1046.trans (k1029.trans ((kq (a := 2) (b := 6) eσ1011 (by omega)).trans (k14)))), k1105.trans (k1047.trans (k1030.trans ((kq (a := 3) (b := 8) eσ1011 (by omega)).trans (k15))))⟩)
            · have f1107 := tB (σ1037.1 3 11)
              have f1109 := mt Int32.toInt_inj.mp c1051
              exact hQ _ hσ1037 (⟨k1040.trans (k1023.trans ((kq (a := 9) (b := 9) eσ1011 (by omega)).trans (k8))), k1041.trans (k1024.trans ((kq (a := 9) (b := 10) eσ1011 (by omega)).trans (k9))), k1042.trans (k1025.trans ((kq (a := 6) (b := 5) eσ1011 (by omega)).trans (k10))), k1043.trans (k1026.trans ((kq (a := 7) (b := 4) eσ1011 (by omega)).trans (k11))), k1044.trans (k1027.trans ((kq (a := 2) (b := 4) eσ1011 (by omega)).trans (k12))), k1045.trans (k1028.trans ((kq (a := 2) (b := 5) eσ1011 (by omega)).trans (k13))), k1046.trans (k1029.trans ((kq (a := 2) (b := 6) eσ1011 (by omega)).trans (k14))), k1047.trans (k1030.trans ((kq (a := 3) (b := 8) eσ1011 (by omega)).trans (k15)))⟩)
          · have f1110 := tB (σ1021.1 3 11)
            have f1112 := mt Int32.toInt_inj.mp c1032
            unfold fX2_enterThing_j73
            refine ⟨fun c1113 => ?_, fun c1113 => ?_⟩
            · have f1116 := congrArg Int32.toInt c1113
              refine ⟨fun c1117 => ?_, fun c1117 => ?_⟩
              · have f1119 : (192 : Int32).toInt = 192 := by decide
                have f1120 := congrArg Int32.toInt c1117
                unfold fX2_enterThing_j99
                have f1121 := tB r17
                have f1122 : (255 : Int32).toInt = 255 := by decide
                refine sX2_callFunction hN hσ1021 (fun σ1123 hσ1123 kk1133 => ?_)
                obtain ⟨k1124, k1125, k1126, k1127, k1128, k1129, k1130, k1131, k1132⟩ := kk1133
                exact hQ _ hσ1123 (⟨k1125.trans (k1023.trans ((kq (a := 9) (b := 9) eσ1011 (by omega)).trans (k8))), k1126.trans (k1024.trans ((kq (a := 9) (b := 10) eσ1011 (by omega)).trans (k9))), k1127.trans (k1025.trans ((kq (a := 6) (b := 5) eσ1011 (by omega)).trans (k10))), k1128.trans (k1026.trans ((kq (a := 7) (b := 4) eσ1011 (by omega)).trans (k11))), k1129.trans (k1027.trans ((kq (a := 2) (b := 4) eσ1011 (by omega)).trans (k12))), k1130.trans (k1028.trans ((kq (a := 2) (b := 5) eσ1011 (by omega)).trans (k13))), k1131.trans (k1029.trans ((kq (a := 2) (b := 6) eσ1011 (by omega)).trans (k14))), k1132.trans (k1030.trans ((kq (a := 3) (b := 8) eσ1011 (by omega)).trans (k15)))⟩)
              · have f1135 : (192 : Int32).toInt = 192 := by decide
                have f1136 := mt Int32.toInt_inj.mp c1117
                refine ⟨fun c1137 => ?_, fun c1137 => ?_⟩
                · have f1139 : (193 : Int32).toInt = 193 := by decide
                  have f1140 := congrArg Int32.toInt c1137
                  unfold fX2_enterThing_j99
                  have f1141 := tB r17
                  have f1142 : (255 : Int32).toInt = 255 := by decide
                  refine sX2_callFunction hN hσ1021 (fun σ1143 hσ1143 kk1153 => ?_)
                  obtain ⟨k1144, k1145, k1146, k1147, k1148, k1149, k1150, k1151, k1152⟩ := kk1153
                  exact hQ _ hσ1143 (⟨k1145.trans (k1023.trans ((kq (a := 9) (b := 9) eσ1011 (by omega)).trans (k8))), k1146.trans (k1024.trans ((kq (a := 9) (b := 10) eσ1011 (by omega)).trans (k9))), k1147.trans (k1025.trans ((kq (a := 6) (b := 5) eσ1011 (by omega)).trans (k10))), k1148.trans (k1026.trans ((kq (a := 7) (b := 4) eσ1011 (by omega)).trans (k11))), k1149.trans (k1027.trans ((kq (a := 2) (b := 4) eσ1011 (by omega)).trans (k12))), k1150.trans (k1028.trans ((kq (a := 2) (b := 5) eσ1011 (by omega)).trans (k13))), k1151.trans (k1029.trans ((kq (a := 2) (b := 6) eσ1011 (by omega)).trans (k14))), k1152.trans (k1030.trans ((kq (a := 3) (b := 8) eσ1011 (by omega)).trans (k15)))⟩)
                · have f1155 : (193 : Int32).toInt = 193 := by decide
                  have f1156 := mt Int32.toInt_inj.mp c1137
                  have f1157 := tB r17
                  refine sX2_beginString hN hσ1021 (fun σ1158 hσ1158 kk1168 => ?_)
                  obtain ⟨k1159, k1160, k1161, k1162, k1163, k1164, k1165, k1166, k1167⟩ := kk1168
                  exact hQ _ hσ1158 (⟨k1160.trans (k1023.trans ((kq (a := 9) (b := 9) eσ1011 (by omega)).trans (k8))), k1161.trans (k1024.trans ((kq (a := 9) (b := 10) eσ1011 (by omega)).trans (k9))), k1162.trans (k1025.trans ((kq (a := 6) (b := 5) eσ1011 (by omega)).trans (k10))), k1163.trans (k1026.trans ((kq (a := 7) (b := 4) eσ1011 (by omega)).trans (k11))), k1164.trans (k1027.trans ((kq (a := 2) (b := 4) eσ1011 (by omega)).trans (k12))), k1165.trans (k1028.trans ((kq (a := 2) (b := 5) eσ1011 (by omega)).trans (k13))), k1166.trans (k1029.trans ((kq (a := 2) (b := 6) eσ1011 (by omega)).trans (k14))), k1167.trans (k1030.trans ((kq (a := 3) (b := 8) eσ1011 (by omega)).trans (k15)))⟩)
            · have f1171 := mt Int32.toInt_inj.mp c1113
              exact hQ _ hσ1021 (⟨k1023.trans ((kq (a := 9) (b := 9) eσ1011 (by omega)).trans (k8)), k1024.trans ((kq (a := 9) (b := 10) eσ1011 (by omega)).trans (k9)), k1025.trans ((kq (a := 6) (b := 5) eσ1011 (by omega)).trans (k10)), k1026.trans ((kq (a := 7) (b := 4) eσ1011 (by omega)).trans (k11)), k1027.trans ((kq (a := 2) (b := 4) eσ1011 (by omega)).trans (k12)), k1028.trans ((kq (a := 2) (b := 5) eσ1011 (by omega)).trans (k13)), k1029.trans ((kq (a := 2) (b := 6) eσ1011 (by omega)).trans (k14)), k1030.trans ((kq (a := 3) (b := 8) eσ1011 (by omega)).trans (k15))⟩)
        · have f1173 : (10 : Int32).toInt = 10 := by decide
          have f1174 := mt Int32.toInt_inj.mp c1013
          refine ⟨fun c1175 => ?_, fun c1175 => ?_⟩
          · have f1178 := congrArg Int32.toInt c1175
            unfold fX2_enterThing_j50
            have f1180 : (5 : Int32).toInt = 5 := by decide
            have f1181 := tA x1 (5 : Int32)
            have f1182 := tB (x1 + 5)
            refine sX2_readArguments hN hσ1011 (fun σ1183 hσ1183 kk1193 => ?_)
            obtain ⟨k1184, k1185, k1186, k1187, k1188, k1189, k1190, k1191, k1192⟩ := kk1193
            unfold fX2_enterThing_j57
            refine ⟨fun c1194 => ?_, fun c1194 => ?_⟩
            · have f1195 := tB (σ1183.1 3 11)
              have f1197 := congrArg Int32.toInt c1194
              have f1198 := tB r17
              refine sX2_readByte hN hσ1183 (fun r1211 σ1199 hσ1199 kk1210 p1212 => ?_)
              obtain ⟨k1200, k1201, k1202, k1203, k1204, k1205, k1206, k1207, k1208, k1209⟩ := kk1210
              unfold fX2_enterThing_j73
              refine ⟨fun c1213 => ?_, fun c1213 => ?_⟩
              · have f1214 := tB (σ1199.1 3 11)
                have f1216 := congrArg Int32.toInt c1213
                refine ⟨fun c1217 => ?_, fun c1217 => ?_⟩
                · have f1218 := tB r1211
                  have f1219 : (192 : Int32).toInt = 192 := by decide
                  have f1220 := congrArg Int32.toInt c1217
                  unfold fX2_enterThing_j99
                  have f1222 : (255 : Int32).toInt = 255 := by decide
                  refine sX2_callFunction hN hσ1199 (fun σ1223 hσ1223 kk1233 => ?_)
                  obtain ⟨k1224, k1225, k1226, k1227, k1228, k1229, k1230, k1231, k1232⟩ := kk1233
                  exact hQ _ hσ1223 (⟨k1225.trans (k1202.trans (k1185.trans ((kq (a := 9) (b := 9) eσ1011 (by omega)).trans (k8)))), k1226.trans (k1203.trans (k1186.trans ((kq (a := 9) (b := 10) eσ1011 (by omega)).trans (k9)))), k1227.trans (k1204.trans (k1187.trans ((kq (a := 6) (b := 5) eσ1011 (by omega)).trans (k10)))), k1228.trans (k1205.trans (k1188.trans ((kq (a := 7) (b := 4) eσ1011 (by omega)).trans (k11)))), k1229.trans (k1206.trans (k1189.trans ((kq (a := 2) (b := 4) eσ1011 (by omega)).trans (k12)))), k1230.trans (k1207.trans (k1190.trans ((kq (a := 2) (b := 5) eσ1011 (by omega)).trans (k13)))), k1231.trans (k1208.trans (k1191.trans ((kq (a := 2) (b := 6) eσ1011 (by omega)).trans (k14)))), k1232.trans (k1209.trans (k1192.trans ((kq (a := 3) (b := 8) eσ1011 (by omega)).trans (k15))))⟩)
                · have f1234 := tB r1211
                  have f1235 : (192 : Int32).toInt = 192 := by decide
                  have f1236 := mt Int32.toInt_inj.mp c1217
                  refine ⟨fun c1237 => ?_, fun c1237 => ?_⟩
                  · have f1239 : (193 : Int32).toInt = 193 := by decide
                    have f1240 := congrArg Int32.toInt c1237
                    unfold fX2_enterThing_j99
                    have f1242 : (255 : Int32).toInt = 255 := by decide
                    refine sX2_callFunction hN hσ1199 (fun σ1243 hσ1243 kk1253 => ?_)
                    obtain ⟨k1244, k1245, k1246, k1247, k1248, k1249, k1250, k1251, k1252⟩ := kk1253
                    exact hQ _ hσ1243 (⟨k1245.trans (k1202.trans (k1185.trans ((kq (a := 9) (b := 9) eσ1011 (by omega)).trans (k8)))), k1246.trans (k1203.trans (k1186.trans ((kq (a := 9) (b := 10) eσ1011 (by omega)).trans (k9)))), k1247.trans (k1204.trans (k1187.trans ((kq (a := 6) (b := 5) eσ1011 (by omega)).trans (k10)))), k1248.trans (k1205.trans (k1188.trans ((kq (a := 7) (b := 4) eσ1011 (by omega)).trans (k11)))), k1249.trans (k1206.trans (k1189.trans ((kq (a := 2) (b := 4) eσ1011 (by omega)).trans (k12)))), k1250.trans (k1207.trans (k1190.trans ((kq (a := 2) (b := 5) eσ1011 (by omega)).trans (k13)))), k1251.trans (k1208.trans (k1191.trans ((kq (a := 2) (b := 6) eσ1011 (by omega)).trans (k14)))), k1252.trans (k1209.trans (k1192.trans ((kq (a := 3) (b := 8) eσ1011 (by omega)).trans (k15))))⟩)
                  · have f1255 : (193 : Int32).toInt = 193 := by decide
                    have f1256 := mt Int32.toInt_inj.mp c1237
                    refine sX2_beginString hN hσ1199 (fun σ1258 hσ1258 kk1268 => ?_)
                    obtain ⟨k1259, k1260, k1261, k1262, k1263, k1264, k1265, k1266, k1267⟩ := kk1268
                    exact hQ _ hσ1258 (⟨k1260.trans (k1202.trans (k1185.trans ((kq (a := 9) (b := 9) eσ1011 (by omega)).trans (k8)))), k1261.trans (k1203.trans (k1186.trans ((kq (a := 9) (b := 10) eσ1011 (by omega)).trans (k9)))), k1262.trans (k1204.trans (k1187.trans ((kq (a := 6) (b := 5) eσ1011 (by omega)).trans (k10)))), k1263.trans (k1205.trans (k1188.trans ((kq (a := 7) (b := 4) eσ1011 (by omega)).trans (k11)))), k1264.trans (k1206.trans (k1189.trans ((kq (a := 2) (b := 4) eσ1011 (by omega)).trans (k12)))), k1265.trans (k1207.trans (k1190.trans ((kq (a := 2) (b := 5) eσ1011 (by omega)).trans (k13)))), k1266.trans (k1208.trans (k1191.trans ((kq (a := 2) (b := 6) eσ1011 (by omega)).trans (k14)))), k1267.trans (k1209.trans (k1192.trans ((kq (a := 3) (b := 8) eσ1011 (by omega)).trans (k15))))⟩)
              · have f1269 := tB (σ1199.1 3 11)
                have f1271 := mt Int32.toInt_inj.mp c1213
                exact hQ _ hσ1199 (⟨k1202.trans (k1185.trans ((kq (a := 9) (b := 9) eσ1011 (by omega)).trans (k8))), k1203.trans (k1186.trans ((kq (a := 9) (b := 10) eσ1011 (by omega)).trans (k9))), k1204.trans (k1187.trans ((kq (a := 6) (b := 5) eσ1011 (by omega)).trans (k10))), k1205.trans (k1188.trans ((kq (a := 7) (b := 4) eσ1011 (by omega)).trans (k11))), k1206.trans (k1189.trans ((kq (a := 2) (b := 4) eσ1011 (by omega)).trans (k12))), k1207.trans (k1190.trans ((kq (a := 2) (b := 5) eσ1011 (by omega)).trans (k13))), k1208.trans (k1191.trans ((kq (a := 2) (b := 6) eσ1011 (by omega)).trans (k14))), k1209.trans (k1192.trans ((kq (a := 3) (b := 8) eσ1011 (by omega)).trans (k15)))⟩)
            · have f1272 := tB (σ1183.1 3 11)
              have f1274 := mt Int32.toInt_inj.mp c1194
              unfold fX2_enterThing_j73
              refine ⟨fun c1275 => ?_, fun c1275 => ?_⟩
              · have f1278 := congrArg Int32.toInt c1275
                refine ⟨fun c1279 => ?_, fun c1279 => ?_⟩
                · have f1281 : (192 : Int32).toInt = 192 := by decide
                  have f1282 := congrArg Int32.toInt c1279
                  unfold fX2_enterThing_j99
                  have f1283 := tB r17
                  have f1284 : (255 : Int32).toInt = 255 := by decide
                  refine sX2_callFunction hN hσ1183 (fun σ1285 hσ1285 kk1295 => ?_)
                  obtain ⟨k1286, k1287, k1288, k1289, k1290, k1291, k1292, k1293, k1294⟩ := kk1295
                  exact hQ _ hσ1285 (⟨k1287.trans (k1185.trans ((kq (a := 9) (b := 9) eσ1011 (by omega)).trans (k8))), k1288.trans (k1186.trans ((kq (a := 9) (b := 10) eσ1011 (by omega)).trans (k9))), k1289.trans (k1187.trans ((kq (a := 6) (b := 5) eσ1011 (by omega)).trans (k10))), k1290.trans (k1188.trans ((kq (a := 7) (b := 4) eσ1011 (by omega)).trans (k11))), k1291.trans (k1189.trans ((kq (a := 2) (b := 4) eσ1011 (by omega)).trans (k12))), k1292.trans (k1190.trans ((kq (a := 2) (b := 5) eσ1011 (by omega)).trans (k13))), k1293.trans (k1191.trans ((kq (a := 2) (b := 6) eσ1011 (by omega)).trans (k14))), k1294.trans (k1192.trans ((kq (a := 3) (b := 8) eσ1011 (by omega)).trans (k15)))⟩)
                · have f1297 : (192 : Int32).toInt = 192 := by decide
                  have f1298 := mt Int32.toInt_inj.mp c1279
                  refine ⟨fun c1299 => ?_, fun c1299 => ?_⟩
                  · have f1301 : (193 : Int32).toInt = 193 := by decide
                    have f1302 := congrArg Int32.toInt c1299
                    unfold fX2_enterThing_j99
                    have f1303 := tB r17
                    have f1304 : (255 : Int32).toInt = 255 := by decide
                    refine sX2_callFunction hN hσ1183 (fun σ1305 hσ1305 kk1315 => ?_)
                    obtain ⟨k1306, k1307, k1308, k1309, k1310, k1311, k1312, k1313, k1314⟩ := kk1315
                    exact hQ _ hσ1305 (⟨k1307.trans (k1185.trans ((kq (a := 9) (b := 9) eσ1011 (by omega)).trans (k8))), k1308.trans (k1186.trans ((kq (a := 9) (b := 10) eσ1011 (by omega)).trans (k9))), k1309.trans (k1187.trans ((kq (a := 6) (b := 5) eσ1011 (by omega)).trans (k10))), k1310.trans (k1188.trans ((kq (a := 7) (b := 4) eσ1011 (by omega)).trans (k11))), k1311.trans (k1189.trans ((kq (a := 2) (b := 4) eσ1011 (by omega)).trans (k12))), k1312.trans (k1190.trans ((kq (a := 2) (b := 5) eσ1011 (by omega)).trans (k13))), k1313.trans (k1191.trans ((kq (a := 2) (b := 6) eσ1011 (by omega)).trans (k14))), k1314.trans (k1192.trans ((kq (a := 3) (b := 8) eσ1011 (by omega)).trans (k15)))⟩)
                  · have f1317 : (193 : Int32).toInt = 193 := by decide
                    have f1318 := mt Int32.toInt_inj.mp c1299
                    have f1319 := tB r17
                    refine sX2_beginString hN hσ1183 (fun σ1320 hσ1320 kk1330 => ?_)
                    obtain ⟨k1321, k1322, k1323, k1324, k1325, k1326, k1327, k1328, k1329⟩ := kk1330
                    exact hQ _ hσ1320 (⟨k1322.trans (k1185.trans ((kq (a := 9) (b := 9) eσ1011 (by omega)).trans (k8))), k1323.trans (k1186.trans ((kq (a := 9) (b := 10) eσ1011 (by omega)).trans (k9))), k1324.trans (k1187.trans ((kq (a := 6) (b := 5) eσ1011 (by omega)).trans (k10))), k1325.trans (k1188.trans ((kq (a := 7) (b := 4) eσ1011 (by omega)).trans (k11))), k1326.trans (k1189.trans ((kq (a := 2) (b := 4) eσ1011 (by omega)).trans (k12))), k1327.trans (k1190.trans ((kq (a := 2) (b := 5) eσ1011 (by omega)).trans (k13))), k1328.trans (k1191.trans ((kq (a := 2) (b := 6) eσ1011 (by omega)).trans (k14))), k1329.trans (k1192.trans ((kq (a := 3) (b := 8) eσ1011 (by omega)).trans (k15)))⟩)
              · have f1333 := mt Int32.toInt_inj.mp c1275
                exact hQ _ hσ1183 (⟨k1185.trans ((kq (a := 9) (b := 9) eσ1011 (by omega)).trans (k8)), k1186.trans ((kq (a := 9) (b := 10) eσ1011 (by omega)).trans (k9)), k1187.trans ((kq (a := 6) (b := 5) eσ1011 (by omega)).trans (k10)), k1188.trans ((kq (a := 7) (b := 4) eσ1011 (by omega)).trans (k11)), k1189.trans ((kq (a := 2) (b := 4) eσ1011 (by omega)).trans (k12)), k1190.trans ((kq (a := 2) (b := 5) eσ1011 (by omega)).trans (k13)), k1191.trans ((kq (a := 2) (b := 6) eσ1011 (by omega)).trans (k14)), k1192.trans ((kq (a := 3) (b := 8) eσ1011 (by omega)).trans (k15))⟩)
          · have f1336 := mt Int32.toInt_inj.mp c1175
            unfold fX2_enterThing_j57
            refine ⟨fun c1337 => ?_, fun c1337 => ?_⟩
            · have f1338 := tB (σ1011.1 3 11)
              have q1339 : σ1011.1 3 11 = σ5.1 3 11 := by rw [eσ1011, u1_at]; exact if_neg (by decide)
              have f1340 := congrArg Int32.toInt q1339
              have f1343 := congrArg Int32.toInt c1337
              have f1344 := tB r17
              refine sX2_readByte hN hσ1011 (fun r1357 σ1345 hσ1345 kk1356 p1358 => ?_)
              obtain ⟨k1346, k1347, k1348, k1349, k1350, k1351, k1352, k1353, k1354, k1355⟩ := kk1356
              unfold fX2_enterThing_j73
              refine ⟨fun c1359 => ?_, fun c1359 => ?_⟩
              · have f1360 := tB (σ1345.1 3 11)
                have f1362 := congrArg Int32.toInt c1359
                refine ⟨fun c1363 => ?_, fun c1363 => ?_⟩
                · have f1364 := tB r1357
                  have f1365 : (192 : Int32).toInt = 192 := by decide
                  have f1366 := congrArg Int32.toInt c1363
                  unfold fX2_enterThing_j99
                  have f1368 : (255 : Int32).toInt = 255 := by decide
                  refine sX2_callFunction hN hσ1345 (fun σ1369 hσ1369 kk1379 => ?_)
                  obtain ⟨k1370, k1371, k1372, k1373, k1374, k1375, k1376, k1377, k1378⟩ := kk1379
                  exact hQ _ hσ1369 (⟨k1371.trans (k1348.trans ((kq (a := 9) (b := 9) eσ1011 (by omega)).trans (k8))), k1372.trans (k1349.trans ((kq (a := 9) (b := 10) eσ1011 (by omega)).trans (k9))), k1373.trans (k1350.trans ((kq (a := 6) (b := 5) eσ1011 (by omega)).trans (k10))), k1374.trans (k1351.trans ((kq (a := 7) (b := 4) eσ1011 (by omega)).trans (k11))), k1375.trans (k1352.trans ((kq (a := 2) (b := 4) eσ1011 (by omega)).trans (k12))), k1376.trans (k1353.trans ((kq (a := 2) (b := 5) eσ1011 (by omega)).trans (k13))), k1377.trans (k1354.trans ((kq (a := 2) (b := 6) eσ1011 (by omega)).trans (k14))), k1378.trans (k1355.trans ((kq (a := 3) (b := 8) eσ1011 (by omega)).trans (k15)))⟩)
                · have f1380 := tB r1357
                  have f1381 : (192 : Int32).toInt = 192 := by decide
                  have f1382 := mt Int32.toInt_inj.mp c1363
                  refine ⟨fun c1383 => ?_, fun c1383 => ?_⟩
                  · have f1385 : (193 : Int32).toInt = 193 := by decide
                    have f1386 := congrArg Int32.toInt c1383
                    unfold fX2_enterThing_j99
                    have f1388 : (255 : Int32).toInt = 255 := by decide
                    refine sX2_callFunction hN hσ1345 (fun σ1389 hσ1389 kk1399 => ?_)
                    obtain ⟨k1390, k1391, k1392, k1393, k1394, k1395, k1396, k1397, k1398⟩ := kk1399
                    exact hQ _ hσ1389 (⟨k1391.trans (k1348.trans ((kq (a := 9) (b := 9) eσ1011 (by omega)).trans (k8))), k1392.trans (k1349.trans ((kq (a := 9) (b := 10) eσ1011 (by omega)).trans (k9))), k1393.trans (k1350.trans ((kq (a := 6) (b := 5) eσ1011 (by omega)).trans (k10))), k1394.trans (k1351.trans ((kq (a := 7) (b := 4) eσ1011 (by omega)).trans (k11))), k1395.trans (k1352.trans ((kq (a := 2) (b := 4) eσ1011 (by omega)).trans (k12))), k1396.trans (k1353.trans ((kq (a := 2) (b := 5) eσ1011 (by omega)).trans (k13))), k1397.trans (k1354.trans ((kq (a := 2) (b := 6) eσ1011 (by omega)).trans (k14))), k1398.trans (k1355.trans ((kq (a := 3) (b := 8) eσ1011 (by omega)).trans (k15)))⟩)
                  · have f1401 : (193 : Int32).toInt = 193 := by decide
                    have f1402 := mt Int32.toInt_inj.mp c1383
                    refine sX2_beginString hN hσ1345 (fun σ1404 hσ1404 kk1414 => ?_)
                    obtain ⟨k1405, k1406, k1407, k1408, k1409, k1410, k1411, k1412, k1413⟩ := kk1414
                    exact hQ _ hσ1404 (⟨k1406.trans (k1348.trans ((kq (a := 9) (b := 9) eσ1011 (by omega)).trans (k8))), k1407.trans (k1349.trans ((kq (a := 9) (b := 10) eσ1011 (by omega)).trans (k9))), k1408.trans (k1350.trans ((kq (a := 6) (b := 5) eσ1011 (by omega)).trans (k10))), k1409.trans (k1351.trans ((kq (a := 7) (b := 4) eσ1011 (by omega)).trans (k11))), k1410.trans (k1352.trans ((kq (a := 2) (b := 4) eσ1011 (by omega)).trans (k12))), k1411.trans (k1353.trans ((kq (a := 2) (b := 5) eσ1011 (by omega)).trans (k13))), k1412.trans (k1354.trans ((kq (a := 2) (b := 6) eσ1011 (by omega)).trans (k14))), k1413.trans (k1355.trans ((kq (a := 3) (b := 8) eσ1011 (by omega)).trans (k15)))⟩)
              · have f1415 := tB (σ1345.1 3 11)
                have f1417 := mt Int32.toInt_inj.mp c1359
                exact hQ _ hσ1345 (⟨k1348.trans ((kq (a := 9) (b := 9) eσ1011 (by omega)).trans (k8)), k1349.trans ((kq (a := 9) (b := 10) eσ1011 (by omega)).trans (k9)), k1350.trans ((kq (a := 6) (b := 5) eσ1011 (by omega)).trans (k10)), k1351.trans ((kq (a := 7) (b := 4) eσ1011 (by omega)).trans (k11)), k1352.trans ((kq (a := 2) (b := 4) eσ1011 (by omega)).trans (k12)), k1353.trans ((kq (a := 2) (b := 5) eσ1011 (by omega)).trans (k13)), k1354.trans ((kq (a := 2) (b := 6) eσ1011 (by omega)).trans (k14)), k1355.trans ((kq (a := 3) (b := 8) eσ1011 (by omega)).trans (k15))⟩)
            · have f1418 := tB (σ1011.1 3 11)
              have q1419 : σ1011.1 3 11 = σ5.1 3 11 := by rw [eσ1011, u1_at]; exact if_neg (by decide)
              have f1420 := congrArg Int32.toInt q1419
              have f1423 := mt Int32.toInt_inj.mp c1337
              unfold fX2_enterThing_j73
              refine ⟨fun c1424 => ?_, fun c1424 => ?_⟩
              · have f1427 := congrArg Int32.toInt c1424
                refine ⟨fun c1428 => ?_, fun c1428 => ?_⟩
                · have f1430 : (192 : Int32).toInt = 192 := by decide
                  have f1431 := congrArg Int32.toInt c1428
                  unfold fX2_enterThing_j99
                  have f1432 := tB r17
                  have f1433 : (255 : Int32).toInt = 255 := by decide
                  refine sX2_callFunction hN hσ1011 (fun σ1434 hσ1434 kk1444 => ?_)
                  obtain ⟨k1435, k1436, k1437, k1438, k1439, k1440, k1441, k1442, k1443⟩ := kk1444
                  exact hQ _ hσ1434 (⟨k1436.trans ((kq (a := 9) (b := 9) eσ1011 (by omega)).trans (k8)), k1437.trans ((kq (a := 9) (b := 10) eσ1011 (by omega)).trans (k9)), k1438.trans ((kq (a := 6) (b := 5) eσ1011 (by omega)).trans (k10)), k1439.trans ((kq (a := 7) (b := 4) eσ1011 (by omega)).trans (k11)), k1440.trans ((kq (a := 2) (b := 4) eσ1011 (by omega)).trans (k12)), k1441.trans ((kq (a := 2) (b := 5) eσ1011 (by omega)).trans (k13)), k1442.trans ((kq (a := 2) (b := 6) eσ1011 (by omega)).trans (k14)), k1443.trans ((kq (a := 3) (b := 8) eσ1011 (by omega)).trans (k15))⟩)
                · have f1446 : (192 : Int32).toInt = 192 := by decide
                  have f1447 := mt Int32.toInt_inj.mp c1428
                  refine ⟨fun c1448 => ?_, fun c1448 => ?_⟩
                  · have f1450 : (193 : Int32).toInt = 193 := by decide
                    have f1451 := congrArg Int32.toInt c1448
                    unfold fX2_enterThing_j99
                    have f1452 := tB r17
                    have f1453 : (255 : Int32).toInt = 255 := by decide
                    refine sX2_callFunction hN hσ1011 (fun σ1454 hσ1454 kk1464 => ?_)
                    obtain ⟨k1455, k1456, k1457, k1458, k1459, k1460, k1461, k1462, k1463⟩ := kk1464
                    exact hQ _ hσ1454 (⟨k1456.trans ((kq (a := 9) (b := 9) eσ1011 (by omega)).trans (k8)), k1457.trans ((kq (a := 9) (b := 10) eσ1011 (by omega)).trans (k9)), k1458.trans ((kq (a := 6) (b := 5) eσ1011 (by omega)).trans (k10)), k1459.trans ((kq (a := 7) (b := 4) eσ1011 (by omega)).trans (k11)), k1460.trans ((kq (a := 2) (b := 4) eσ1011 (by omega)).trans (k12)), k1461.trans ((kq (a := 2) (b := 5) eσ1011 (by omega)).trans (k13)), k1462.trans ((kq (a := 2) (b := 6) eσ1011 (by omega)).trans (k14)), k1463.trans ((kq (a := 3) (b := 8) eσ1011 (by omega)).trans (k15))⟩)
                  · have f1466 : (193 : Int32).toInt = 193 := by decide
                    have f1467 := mt Int32.toInt_inj.mp c1448
                    have f1468 := tB r17
                    refine sX2_beginString hN hσ1011 (fun σ1469 hσ1469 kk1479 => ?_)
                    obtain ⟨k1470, k1471, k1472, k1473, k1474, k1475, k1476, k1477, k1478⟩ := kk1479
                    exact hQ _ hσ1469 (⟨k1471.trans ((kq (a := 9) (b := 9) eσ1011 (by omega)).trans (k8)), k1472.trans ((kq (a := 9) (b := 10) eσ1011 (by omega)).trans (k9)), k1473.trans ((kq (a := 6) (b := 5) eσ1011 (by omega)).trans (k10)), k1474.trans ((kq (a := 7) (b := 4) eσ1011 (by omega)).trans (k11)), k1475.trans ((kq (a := 2) (b := 4) eσ1011 (by omega)).trans (k12)), k1476.trans ((kq (a := 2) (b := 5) eσ1011 (by omega)).trans (k13)), k1477.trans ((kq (a := 2) (b := 6) eσ1011 (by omega)).trans (k14)), k1478.trans ((kq (a := 3) (b := 8) eσ1011 (by omega)).trans (k15))⟩)
              · have f1482 := mt Int32.toInt_inj.mp c1424
                exact hQ _ hσ1011 (⟨(kq (a := 9) (b := 9) eσ1011 (by omega)).trans (k8), (kq (a := 9) (b := 10) eσ1011 (by omega)).trans (k9), (kq (a := 6) (b := 5) eσ1011 (by omega)).trans (k10), (kq (a := 7) (b := 4) eσ1011 (by omega)).trans (k11), (kq (a := 2) (b := 4) eσ1011 (by omega)).trans (k12), (kq (a := 2) (b := 5) eσ1011 (by omega)).trans (k13), (kq (a := 2) (b := 6) eσ1011 (by omega)).trans (k14), (kq (a := 3) (b := 8) eσ1011 (by omega)).trans (k15)⟩)
  · have f1483 := tB (σ5.1 3 11)
    have f1484 : (0 : Int32).toInt = 0 := by decide
    have f1485 := mt Int32.toInt_inj.mp c19
    unfold fX2_enterThing_j33
    intro σ1486 eσ1486
    have hσ1486 : K1 σ0 σ1486 := by rw [eσ1486]; exact hσ5.u (Rg1.r_3_6 (by omega) (by omega)) (by omega) (by omega)
    refine ⟨fun c1488 => ?_, fun c1488 => ?_⟩
    · have f1489 := tB x2
      have f1490 : (10 : Int32).toInt = 10 := by decide
      have f1491 := congrArg Int32.toInt c1488
      unfold fX2_enterThing_j50
      have f1493 : (5 : Int32).toInt = 5 := by decide
      have f1494 := tA x1 (5 : Int32)
      have f1495 := tB (x1 + 5)
      refine sX2_readArguments hN hσ1486 (fun σ1496 hσ1496 kk1506 => ?_)
      obtain ⟨k1497, k1498, k1499, k1500, k1501, k1502, k1503, k1504, k1505⟩ := kk1506
      unfold fX2_enterThing_j57
      refine ⟨fun c1507 => ?_, fun c1507 => ?_⟩
      · have f1508 := tB (σ1496.1 3 11)
        have f1510 := congrArg Int32.toInt c1507
        have f1511 := tB r17
        refine sX2_readByte hN hσ1496 (fun r1524 σ1512 hσ1512 kk1523 p1525 => ?_)
        obtain ⟨k1513, k1514, k1515, k1516, k1517, k1518, k1519, k1520, k1521, k1522⟩ := kk1523
        unfold fX2_enterThing_j73
        refine ⟨fun c1526 => ?_, fun c1526 => ?_⟩
        · have f1527 := tB (σ1512.1 3 11)
          have f1529 := congrArg Int32.toInt c1526
          refine ⟨fun c1530 => ?_, fun c1530 => ?_⟩
          · have f1531 := tB r1524
            have f1532 : (192 : Int32).toInt = 192 := by decide
            have f1533 := congrArg Int32.toInt c1530
            unfold fX2_enterThing_j99
            have f1535 : (255 : Int32).toInt = 255 := by decide
            refine sX2_callFunction hN hσ1512 (fun σ1536 hσ1536 kk1546 => ?_)
            obtain ⟨k1537, k1538, k1539, k1540, k1541, k1542, k1543, k1544, k1545⟩ := kk1546
            exact hQ _ hσ1536 (⟨k1538.trans (k1515.trans (k1498.trans ((kq (a := 9) (b := 9) eσ1486 (by omega)).trans (k8)))), k1539.trans (k1516.trans (k1499.trans ((kq (a := 9) (b := 10) eσ1486 (by omega)).trans (k9)))), k1540.trans (k1517.trans (k1500.trans ((kq (a := 6) (b := 5) eσ1486 (by omega)).trans (k10)))), k1541.trans (k1518.trans (k1501.trans ((kq (a := 7) (b := 4) eσ1486 (by omega)).trans (k11)))), k1542.trans (k1519.trans (k1502.trans ((kq (a := 2) (b := 4) eσ1486 (by omega)).trans (k12)))), k1543.trans (k1520.trans (k1503.trans ((kq (a := 2) (b := 5) eσ1486 (by omega)).trans (k13)))), k1544.trans (k1521.trans (k1504.trans ((kq (a := 2) (b := 6) eσ1486 (by omega)).trans (k14)))), k1545.trans (k1522.trans (k1505.trans ((kq (a := 3) (b := 8) eσ1486 (by omega)).trans (k15))))⟩)
          · have f1547 := tB r1524
            have f1548 : (192 : Int32).toInt = 192 := by decide
            have f1549 := mt Int32.toInt_inj.mp c1530
            refine ⟨fun c1550 => ?_, fun c1550 => ?_⟩
            · have f1552 : (193 : Int32).toInt = 193 := by decide
              have f1553 := congrArg Int32.toInt c1550
              unfold fX2_enterThing_j99
              have f1555 : (255 : Int32).toInt = 255 := by decide
              refine sX2_callFunction hN hσ1512 (fun σ1556 hσ1556 kk1566 => ?_)
              obtain ⟨k1557, k1558, k1559, k1560, k1561, k1562, k1563, k1564, k1565⟩ := kk1566
              exact hQ _ hσ1556 (⟨k1558.trans (k1515.trans (k1498.trans ((kq (a := 9) (b := 9) eσ1486 (by omega)).trans (k8)))), k1559.trans (k1516.trans (k1499.trans ((kq (a := 9) (b := 10) eσ1486 (by omega)).trans (k9)))), k1560.trans (k1517.trans (k1500.trans ((kq (a := 6) (b := 5) eσ1486 (by omega)).trans (k10)))), k1561.trans (k1518.trans (k1501.trans ((kq (a := 7) (b := 4) eσ1486 (by omega)).trans (k11)))), k1562.trans (k1519.trans (k1502.trans ((kq (a := 2) (b := 4) eσ1486 (by omega)).trans (k12)))), k1563.trans (k1520.trans (k1503.trans ((kq (a := 2) (b := 5) eσ1486 (by omega)).trans (k13)))), k1564.trans (k1521.trans (k1504.trans ((kq (a := 2) (b := 6) eσ1486 (by omega)).trans (k14)))), k1565.trans (k1522.trans (k1505.trans ((kq (a := 3) (b := 8) eσ1486 (by omega)).trans (k15))))⟩)
            · have f1568 : (193 : Int32).toInt = 193 := by decide
              have f1569 := mt Int32.toInt_inj.mp c1550
              refine sX2_beginString hN hσ1512 (fun σ1571 hσ1571 kk1581 => ?_)
              obtain ⟨k1572, k1573, k1574, k1575, k1576, k1577, k1578, k1579, k1580⟩ := kk1581
              exact hQ _ hσ1571 (⟨k1573.trans (k1515.trans (k1498.trans ((kq (a := 9) (b := 9) eσ1486 (by omega)).trans (k8)))), k1574.trans (k1516.trans (k1499.trans ((kq (a := 9) (b := 10) eσ1486 (by omega)).trans (k9)))), k1575.trans (k1517.trans (k1500.trans ((kq (a := 6) (b := 5) eσ1486 (by omega)).trans (k10)))), k1576.trans (k1518.trans (k1501.trans ((kq (a := 7) (b := 4) eσ1486 (by omega)).trans (k11)))), k1577.trans (k1519.trans (k1502.trans ((kq (a := 2) (b := 4) eσ1486 (by omega)).trans (k12)))), k1578.trans (k1520.trans (k1503.trans ((kq (a := 2) (b := 5) eσ1486 (by omega)).trans (k13)))), k1579.trans (k1521.trans (k1504.trans ((kq (a := 2) (b := 6) eσ1486 (by omega)).trans (k14)))), k1580.trans (k1522.trans (k1505.trans ((kq (a := 3) (b := 8) eσ1486 (by omega)).trans (k15))))⟩)
        · have f1582 := tB (σ1512.1 3 11)
          have f1584 := mt Int32.toInt_inj.mp c1526
          exact hQ _ hσ1512 (⟨k1515.trans (k1498.trans ((kq (a := 9) (b := 9) eσ1486 (by omega)).trans (k8))), k1516.trans (k1499.trans ((kq (a := 9) (b := 10) eσ1486 (by omega)).trans (k9))), k1517.trans (k1500.trans ((kq (a := 6) (b := 5) eσ1486 (by omega)).trans (k10))), k1518.trans (k1501.trans ((kq (a := 7) (b := 4) eσ1486 (by omega)).trans (k11))), k1519.trans (k1502.trans ((kq (a := 2) (b := 4) eσ1486 (by omega)).trans (k12))), k1520.trans (k1503.trans ((kq (a := 2) (b := 5) eσ1486 (by omega)).trans (k13))), k1521.trans (k1504.trans ((kq (a := 2) (b := 6) eσ1486 (by omega)).trans (k14))), k1522.trans (k1505.trans ((kq (a := 3) (b := 8) eσ1486 (by omega)).trans (k15)))⟩)
      · have f1585 := tB (σ1496.1 3 11)
        have f1587 := mt Int32.toInt_inj.mp c1507
        unfold fX2_enterThing_j73
        refine ⟨fun c1588 => ?_, fun c1588 => ?_⟩
        · have f1591 := congrArg Int32.toInt c1588
          refine ⟨fun c1592 => ?_, fun c1592 => ?_⟩
          · have f1594 : (192 : Int32).toInt = 192 := by decide
            have f1595 := congrArg Int32.toInt c1592
            unfold fX2_enterThing_j99
            have f1596 := tB r17
            have f1597 : (255 : Int32).toInt = 255 := by decide
            refine sX2_callFunction hN hσ1496 (fun σ1598 hσ1598 kk1608 => ?_)
            obtain ⟨k1599, k1600, k1601, k1602, k1603, k1604, k1605, k1606, k1607⟩ := kk1608
            exact hQ _ hσ1598 (⟨k1600.trans (k1498.trans ((kq (a := 9) (b := 9) eσ1486 (by omega)).trans (k8))), k1601.trans (k1499.trans ((kq (a := 9) (b := 10) eσ1486 (by omega)).trans (k9))), k1602.trans (k1500.trans ((kq (a := 6) (b := 5) eσ1486 (by omega)).trans (k10))), k1603.trans (k1501.trans ((kq (a := 7) (b := 4) eσ1486 (by omega)).trans (k11))), k1604.trans (k1502.trans ((kq (a := 2) (b := 4) eσ1486 (by omega)).trans (k12))), k1605.trans (k1503.trans ((kq (a := 2) (b := 5) eσ1486 (by omega)).trans (k13))), k1606.trans (k1504.trans ((kq (a := 2) (b := 6) eσ1486 (by omega)).trans (k14))), k1607.trans (k1505.trans ((kq (a := 3) (b := 8) eσ1486 (by omega)).trans (k15)))⟩)
          · have f1610 : (192 : Int32).toInt = 192 := by decide
            have f1611 := mt Int32.toInt_inj.mp c1592
            refine ⟨fun c1612 => ?_, fun c1612 => ?_⟩
            · have f1614 : (193 : Int32).toInt = 193 := by decide
              have f1615 := congrArg Int32.toInt c1612
              unfold fX2_enterThing_j99
              have f1616 := tB r17
              have f1617 : (255 : Int32).toInt = 255 := by decide
              refine sX2_callFunction hN hσ1496 (fun σ1618 hσ1618 kk1628 => ?_)
              obtain ⟨k1619, k1620, k1621, k1622, k1623, k1624, k1625, k1626, k1627⟩ := kk1628
              exact hQ _ hσ1618 (⟨k1620.trans (k1498.trans ((kq (a := 9) (b := 9) eσ1486 (by omega)).trans (k8))), k1621.trans (k1499.trans ((kq (a := 9) (b := 10) eσ1486 (by omega)).trans (k9))), k1622.trans (k1500.trans ((kq (a := 6) (b := 5) eσ1486 (by omega)).trans (k10))), k1623.trans (k1501.trans ((kq (a := 7) (b := 4) eσ1486 (by omega)).trans (k11))), k1624.trans (k1502.trans ((kq (a := 2) (b := 4) eσ1486 (by omega)).trans (k12))), k1625.trans (k1503.trans ((kq (a := 2) (b := 5) eσ1486 (by omega)).trans (k13))), k1626.trans (k1504.trans ((kq (a := 2) (b := 6) eσ1486 (by omega)).trans (k14))), k1627.trans (k1505.trans ((kq (a := 3) (b := 8) eσ1486 (by omega)).trans (k15)))⟩)
            · have f1630 : (193 : Int32).toInt = 193 := by decide
              have f1631 := mt Int32.toInt_inj.mp c1612
              have f1632 := tB r17
              refine sX2_beginString hN hσ1496 (fun σ1633 hσ1633 kk1643 => ?_)
              obtain ⟨k1634, k1635, k1636, k1637, k1638, k1639, k1640, k1641, k1642⟩ := kk1643
              exact hQ _ hσ1633 (⟨k1635.trans (k1498.trans ((kq (a := 9) (b := 9) eσ1486 (by omega)).trans (k8))), k1636.trans (k1499.trans ((kq (a := 9) (b := 10) eσ1486 (by omega)).trans (k9))), k1637.trans (k1500.trans ((kq (a := 6) (b := 5) eσ1486 (by omega)).trans (k10))), k1638.trans (k1501.trans ((kq (a := 7) (b := 4) eσ1486 (by omega)).trans (k11))), k1639.trans (k1502.trans ((kq (a := 2) (b := 4) eσ1486 (by omega)).trans (k12))), k1640.trans (k1503.trans ((kq (a := 2) (b := 5) eσ1486 (by omega)).trans (k13))), k1641.trans (k1504.trans ((kq (a := 2) (b := 6) eσ1486 (by omega)).trans (k14))), k1642.trans (k1505.trans ((kq (a := 3) (b := 8) eσ1486 (by omega)).trans (k15)))⟩)
        · have f1646 := mt Int32.toInt_inj.mp c1588
          exact hQ _ hσ1496 (⟨k1498.trans ((kq (a := 9) (b := 9) eσ1486 (by omega)).trans (k8)), k1499.trans ((kq (a := 9) (b := 10) eσ1486 (by omega)).trans (k9)), k1500.trans ((kq (a := 6) (b := 5) eσ1486 (by omega)).trans (k10)), k1501.trans ((kq (a := 7) (b := 4) eσ1486 (by omega)).trans (k11)), k1502.trans ((kq (a := 2) (b := 4) eσ1486 (by omega)).trans (k12)), k1503.trans ((kq (a := 2) (b := 5) eσ1486 (by omega)).trans (k13)), k1504.trans ((kq (a := 2) (b := 6) eσ1486 (by omega)).trans (k14)), k1505.trans ((kq (a := 3) (b := 8) eσ1486 (by omega)).trans (k15))⟩)
    · have f1647 := tB x2
      have f1648 : (10 : Int32).toInt = 10 := by decide
      have f1649 := mt Int32.toInt_inj.mp c1488
      refine ⟨fun c1650 => ?_, fun c1650 => ?_⟩
      · have f1652 : (11 : Int32).toInt = 11 := by decide
        have f1653 := congrArg Int32.toInt c1650
        unfold fX2_enterThing_j50
        have f1655 : (5 : Int32).toInt = 5 := by decide
        have f1656 := tA x1 (5 : Int32)
        have f1657 := tB (x1 + 5)
        refine sX2_readArguments hN hσ1486 (fun σ1658 hσ1658 kk1668 => ?_)
        obtain ⟨k1659, k1660, k1661, k1662, k1663, k1664, k1665, k1666, k1667⟩ := kk1668
        unfold fX2_enterThing_j57
        refine ⟨fun c1669 => ?_, fun c1669 => ?_⟩
        · have f1670 := tB (σ1658.1 3 11)
          have f1672 := congrArg Int32.toInt c1669
          have f1673 := tB r17
          refine sX2_readByte hN hσ1658 (fun r1686 σ1674 hσ1674 kk1685 p1687 => ?_)
          obtain ⟨k1675, k1676, k1677, k1678, k1679, k1680, k1681, k1682, k1683, k1684⟩ := kk1685
          unfold fX2_enterThing_j73
          refine ⟨fun c1688 => ?_, fun c1688 => ?_⟩
          · have f1689 := tB (σ1674.1 3 11)
            have f1691 := congrArg Int32.toInt c1688
            refine ⟨fun c1692 => ?_, fun c1692 => ?_⟩
            · have f1693 := tB r1686
              have f1694 : (192 : Int32).toInt = 192 := by decide
              have f1695 := congrArg Int32.toInt c1692
              unfold fX2_enterThing_j99
              have f1697 : (255 : Int32).toInt = 255 := by decide
              refine sX2_callFunction hN hσ1674 (fun σ1698 hσ1698 kk1708 => ?_)
              obtain ⟨k1699, k1700, k1701, k1702, k1703, k1704, k1705, k1706, k1707⟩ := kk1708
              exact hQ _ hσ1698 (⟨k1700.trans (k1677.trans (k1660.trans ((kq (a := 9) (b := 9) eσ1486 (by omega)).trans (k8)))), k1701.trans (k1678.trans (k1661.trans ((kq (a := 9) (b := 10) eσ1486 (by omega)).trans (k9)))), k1702.trans (k1679.trans (k1662.trans ((kq (a := 6) (b := 5) eσ1486 (by omega)).trans (k10)))), k1703.trans (k1680.trans (k1663.trans ((kq (a := 7) (b := 4) eσ1486 (by omega)).trans (k11)))), k1704.trans (k1681.trans (k1664.trans ((kq (a := 2) (b := 4) eσ1486 (by omega)).trans (k12)))), k1705.trans (k1682.trans (k1665.trans ((kq (a := 2) (b := 5) eσ1486 (by omega)).trans (k13)))), k1706.trans (k1683.trans (k1666.trans ((kq (a := 2) (b := 6) eσ1486 (by omega)).trans (k14)))), k1707.trans (k1684.trans (k1667.trans ((kq (a := 3) (b := 8) eσ1486 (by omega)).trans (k15))))⟩)
            · have f1709 := tB r1686
              have f1710 : (192 : Int32).toInt = 192 := by decide
              have f1711 := mt Int32.toInt_inj.mp c1692
              refine ⟨fun c1712 => ?_, fun c1712 => ?_⟩
              · have f1714 : (193 : Int32).toInt = 193 := by decide
                have f1715 := congrArg Int32.toInt c1712
                unfold fX2_enterThing_j99
                have f1717 : (255 : Int32).toInt = 255 := by decide
                refine sX2_callFunction hN hσ1674 (fun σ1718 hσ1718 kk1728 => ?_)
                obtain ⟨k1719, k1720, k1721, k1722, k1723, k1724, k1725, k1726, k1727⟩ := kk1728
                exact hQ _ hσ1718 (⟨k1720.trans (k1677.trans (k1660.trans ((kq (a := 9) (b := 9) eσ1486 (by omega)).trans (k8)))), k1721.trans (k1678.trans (k1661.trans ((kq (a := 9) (b := 10) eσ1486 (by omega)).trans (k9)))), k1722.trans (k1679.trans (k1662.trans ((kq (a := 6) (b := 5) eσ1486 (by omega)).trans (k10)))), k1723.trans (k1680.trans (k1663.trans ((kq (a := 7) (b := 4) eσ1486 (by omega)).trans (k11)))), k1724.trans (k1681.trans (k1664.trans ((kq (a := 2) (b := 4) eσ1486 (by omega)).trans (k12)))), k1725.trans (k1682.trans (k1665.trans ((kq (a := 2) (b := 5) eσ1486 (by omega)).trans (k13)))), k1726.trans (k1683.trans (k1666.trans ((kq (a := 2) (b := 6) eσ1486 (by omega)).trans (k14)))), k1727.trans (k1684.trans (k1667.trans ((kq (a := 3) (b := 8) eσ1486 (by omega)).trans (k15))))⟩)
              · have f1730 : (193 : Int32).toInt = 193 := by decide
                have f1731 := mt Int32.toInt_inj.mp c1712
                refine sX2_beginString hN hσ1674 (fun σ1733 hσ1733 kk1743 => ?_)
                obtain ⟨k1734, k1735, k1736, k1737, k1738, k1739, k1740, k1741, k1742⟩ := kk1743
                exact hQ _ hσ1733 (⟨k1735.trans (k1677.trans (k1660.trans ((kq (a := 9) (b := 9) eσ1486 (by omega)).trans (k8)))), k1736.trans (k1678.trans (k1661.trans ((kq (a := 9) (b := 10) eσ1486 (by omega)).trans (k9)))), k1737.trans (k1679.trans (k1662.trans ((kq (a := 6) (b := 5) eσ1486 (by omega)).trans (k10)))), k1738.trans (k1680.trans (k1663.trans ((kq (a := 7) (b := 4) eσ1486 (by omega)).trans (k11)))), k1739.trans (k1681.trans (k1664.trans ((kq (a := 2) (b := 4) eσ1486 (by omega)).trans (k12)))), k1740.trans (k1682.trans (k1665.trans ((kq (a := 2) (b := 5) eσ1486 (by omega)).trans (k13)))), k1741.trans (k1683.trans (k1666.trans ((kq (a := 2) (b := 6) eσ1486 (by omega)).trans (k14)))), k1742.trans (k1684.trans (k1667.trans ((kq (a := 3) (b := 8) eσ1486 (by omega)).trans (k15))))⟩)
          · have f1744 := tB (σ1674.1 3 11)
            have f1746 := mt Int32.toInt_inj.mp c1688
            exact hQ _ hσ1674 (⟨k1677.trans (k1660.trans ((kq (a := 9) (b := 9) eσ1486 (by omega)).trans (k8))), k1678.trans (k1661.trans ((kq (a := 9) (b := 10) eσ1486 (by omega)).trans (k9))), k1679.trans (k1662.trans ((kq (a := 6) (b := 5) eσ1486 (by omega)).trans (k10))), k1680.trans (k1663.trans ((kq (a := 7) (b := 4) eσ1486 (by omega)).trans (k11))), k1681.trans (k1664.trans ((kq (a := 2) (b := 4) eσ1486 (by omega)).trans (k12))), k1682.trans (k1665.trans ((kq (a := 2) (b := 5) eσ1486 (by omega)).trans (k13))), k1683.trans (k1666.trans ((kq (a := 2) (b := 6) eσ1486 (by omega)).trans (k14))), k1684.trans (k1667.trans ((kq (a := 3) (b := 8) eσ1486 (by omega)).trans (k15)))⟩)
        · have f1747 := tB (σ1658.1 3 11)
          have f1749 := mt Int32.toInt_inj.mp c1669
          unfold fX2_enterThing_j73
          refine ⟨fun c1750 => ?_, fun c1750 => ?_⟩
          · have f1753 := congrArg Int32.toInt c1750
            refine ⟨fun c1754 => ?_, fun c1754 => ?_⟩
            · have f1756 : (192 : Int32).toInt = 192 := by decide
              have f1757 := congrArg Int32.toInt c1754
              unfold fX2_enterThing_j99
              have f1758 := tB r17
              have f1759 : (255 : Int32).toInt = 255 := by decide
              refine sX2_callFunction hN hσ1658 (fun σ1760 hσ1760 kk1770 => ?_)
              obtain ⟨k1761, k1762, k1763, k1764, k1765, k1766, k1767, k1768, k1769⟩ := kk1770
              exact hQ _ hσ1760 (⟨k1762.trans (k1660.trans ((kq (a := 9) (b := 9) eσ1486 (by omega)).trans (k8))), k1763.trans (k1661.trans ((kq (a := 9) (b := 10) eσ1486 (by omega)).trans (k9))), k1764.trans (k1662.trans ((kq (a := 6) (b := 5) eσ1486 (by omega)).trans (k10))), k1765.trans (k1663.trans ((kq (a := 7) (b := 4) eσ1486 (by omega)).trans (k11))), k1766.trans (k1664.trans ((kq (a := 2) (b := 4) eσ1486 (by omega)).trans (k12))), k1767.trans (k1665.trans ((kq (a := 2) (b := 5) eσ1486 (by omega)).trans (k13))), k1768.trans (k1666.trans ((kq (a := 2) (b := 6) eσ1486 (by omega)).trans (k14))), k1769.trans (k1667.trans ((kq (a := 3) (b := 8) eσ1486 (by omega)).trans (k15)))⟩)
            · have f1772 : (192 : Int32).toInt = 192 := by decide
              have f1773 := mt Int32.toInt_inj.mp c1754
              refine ⟨fun c1774 => ?_, fun c1774 => ?_⟩
              · have f1776 : (193 : Int32).toInt = 193 := by decide
                have f1777 := congrArg Int32.toInt c1774
                unfold fX2_enterThing_j99
                have f1778 := tB r17
                have f1779 : (255 : Int32).toInt = 255 := by decide
                refine sX2_callFunction hN hσ1658 (fun σ1780 hσ1780 kk1790 => ?_)
                obtain ⟨k1781, k1782, k1783, k1784, k1785, k1786, k1787, k1788, k1789⟩ := kk1790
                exact hQ _ hσ1780 (⟨k1782.trans (k1660.trans ((kq (a := 9) (b := 9) eσ1486 (by omega)).trans (k8))), k1783.trans (k1661.trans ((kq (a := 9) (b := 10) eσ1486 (by omega)).trans (k9))), k1784.trans (k1662.trans ((kq (a := 6) (b := 5) eσ1486 (by omega)).trans (k10))), k1785.trans (k1663.trans ((kq (a := 7) (b := 4) eσ1486 (by omega)).trans (k11))), k1786.trans (k1664.trans ((kq (a := 2) (b := 4) eσ1486 (by omega)).trans (k12))), k1787.trans (k1665.trans ((kq (a := 2) (b := 5) eσ1486 (by omega)).trans (k13))), k1788.trans (k1666.trans ((kq (a := 2) (b := 6) eσ1486 (by omega)).trans (k14))), k1789.trans (k1667.trans ((kq (a := 3) (b := 8) eσ1486 (by omega)).trans (k15)))⟩)
              · have f1792 : (193 : Int32).toInt = 193 := by decide
                have f1793 := mt Int32.toInt_inj.mp c1774
                have f1794 := tB r17
                refine sX2_beginString hN hσ1658 (fun σ1795 hσ1795 kk1805 => ?_)
                obtain ⟨k1796, k1797, k1798, k1799, k1800, k1801, k1802, k1803, k1804⟩ := kk1805
                exact hQ _ hσ1795 (⟨k1797.trans (k1660.trans ((kq (a := 9) (b := 9) eσ1486 (by omega)).trans (k8))), k1798.trans (k1661.trans ((kq (a := 9) (b := 10) eσ1486 (by omega)).trans (k9))), k1799.trans (k1662.trans ((kq (a := 6) (b := 5) eσ1486 (by omega)).trans (k10))), k1800.trans (k1663.trans ((kq (a := 7) (b := 4) eσ1486 (by omega)).trans (k11))), k1801.trans (k1664.trans ((kq (a := 2) (b := 4) eσ1486 (by omega)).trans (k12))), k1802.trans (k1665.trans ((kq (a := 2) (b := 5) eσ1486 (by omega)).trans (k13))), k1803.trans (k1666.trans ((kq (a := 2) (b := 6) eσ1486 (by omega)).trans (k14))), k1804.trans (k1667.trans ((kq (a := 3) (b := 8) eσ1486 (by omega)).trans (k15)))⟩)
          · have f1808 := mt Int32.toInt_inj.mp c1750
            exact hQ _ hσ1658 (⟨k1660.trans ((kq (a := 9) (b := 9) eσ1486 (by omega)).trans (k8)), k1661.trans ((kq (a := 9) (b := 10) eσ1486 (by omega)).trans (k9)), k1662.trans ((kq (a := 6) (b := 5) eσ1486 (by omega)).trans (k10)), k1663.trans ((kq (a := 7) (b := 4) eσ1486 (by omega)).trans (k11)), k1664.trans ((kq (a := 2) (b := 4) eσ1486 (by omega)).trans (k12)), k1665.trans ((kq (a := 2) (b := 5) eσ1486 (by omega)).trans (k13)), k1666.trans ((kq (a := 2) (b := 6) eσ1486 (by omega)).trans (k14)), k1667.trans ((kq (a := 3) (b := 8) eσ1486 (by omega)).trans (k15))⟩)
      · have f1810 : (11 : Int32).toInt = 11 := by decide
        have f1811 := mt Int32.toInt_inj.mp c1650
        unfold fX2_enterThing_j57
        refine ⟨fun c1812 => ?_, fun c1812 => ?_⟩
        · have f1813 := tB (σ1486.1 3 11)
          have q1814 : σ1486.1 3 11 = σ5.1 3 11 := by rw [eσ1486, u1_at]; exact if_neg (by decide)
          have f1815 := congrArg Int32.toInt q1814
          have f1818 := congrArg Int32.toInt c1812
          have f1819 := tB r17
          refine sX2_readByte hN hσ1486 (fun r1832 σ1820 hσ1820 kk1831 p1833 => ?_)
          obtain ⟨k1821, k1822, k1823, k1824, k1825, k1826, k1827, k1828, k1829, k1830⟩ := kk1831
          unfold fX2_enterThing_j73
          refine ⟨fun c1834 => ?_, fun c1834 => ?_⟩
          · have f1835 := tB (σ1820.1 3 11)
            have f1837 := congrArg Int32.toInt c1834
            refine ⟨fun c1838 => ?_, fun c1838 => ?_⟩
            · have f1839 := tB r1832
              have f1840 : (192 : Int32).toInt = 192 := by decide
              have f1841 := congrArg Int32.toInt c1838
              unfold fX2_enterThing_j99
              have f1843 : (255 : Int32).toInt = 255 := by decide
              refine sX2_callFunction hN hσ1820 (fun σ1844 hσ1844 kk1854 => ?_)
              obtain ⟨k1845, k1846, k1847, k1848, k1849, k1850, k1851, k1852, k1853⟩ := kk1854
              exact hQ _ hσ1844 (⟨k1846.trans (k1823.trans ((kq (a := 9) (b := 9) eσ1486 (by omega)).trans (k8))), k1847.trans (k1824.trans ((kq (a := 9) (b := 10) eσ1486 (by omega)).trans (k9))), k1848.trans (k1825.trans ((kq (a := 6) (b := 5) eσ1486 (by omega)).trans (k10))), k1849.trans (k1826.trans ((kq (a := 7) (b := 4) eσ1486 (by omega)).trans (k11))), k1850.trans (k1827.trans ((kq (a := 2) (b := 4) eσ1486 (by omega)).trans (k12))), k1851.trans (k1828.trans ((kq (a := 2) (b := 5) eσ1486 (by omega)).trans (k13))), k1852.trans (k1829.trans ((kq (a := 2) (b := 6) eσ1486 (by omega)).trans (k14))), k1853.trans (k1830.trans ((kq (a := 3) (b := 8) eσ1486 (by omega)).trans (k15)))⟩)
            · have f1855 := tB r1832
              have f1856 : (192 : Int32).toInt = 192 := by decide
              have f1857 := mt Int32.toInt_inj.mp c1838
              refine ⟨fun c1858 => ?_, fun c1858 => ?_⟩
              · have f1860 : (193 : Int32).toInt = 193 := by decide
                have f1861 := congrArg Int32.toInt c1858
                unfold fX2_enterThing_j99
                have f1863 : (255 : Int32).toInt = 255 := by decide
                refine sX2_callFunction hN hσ1820 (fun σ1864 hσ1864 kk1874 => ?_)
                obtain ⟨k1865, k1866, k1867, k1868, k1869, k1870, k1871, k1872, k1873⟩ := kk1874
                exact hQ _ hσ1864 (⟨k1866.trans (k1823.trans ((kq (a := 9) (b := 9) eσ1486 (by omega)).trans (k8))), k1867.trans (k1824.trans ((kq (a := 9) (b := 10) eσ1486 (by omega)).trans (k9))), k1868.trans (k1825.trans ((kq (a := 6) (b := 5) eσ1486 (by omega)).trans (k10))), k1869.trans (k1826.trans ((kq (a := 7) (b := 4) eσ1486 (by omega)).trans (k11))), k1870.trans (k1827.trans ((kq (a := 2) (b := 4) eσ1486 (by omega)).trans (k12))), k1871.trans (k1828.trans ((kq (a := 2) (b := 5) eσ1486 (by omega)).trans (k13))), k1872.trans (k1829.trans ((kq (a := 2) (b := 6) eσ1486 (by omega)).trans (k14))), k1873.trans (k1830.trans ((kq (a := 3) (b := 8) eσ1486 (by omega)).trans (k15)))⟩)
              · have f1876 : (193 : Int32).toInt = 193 := by decide
                have f1877 := mt Int32.toInt_inj.mp c1858
                refine sX2_beginString hN hσ1820 (fun σ1879 hσ1879 kk1889 => ?_)
                obtain ⟨k1880, k1881, k1882, k1883, k1884, k1885, k1886, k1887, k1888⟩ := kk1889
                exact hQ _ hσ1879 (⟨k1881.trans (k1823.trans ((kq (a := 9) (b := 9) eσ1486 (by omega)).trans (k8))), k1882.trans (k1824.trans ((kq (a := 9) (b := 10) eσ1486 (by omega)).trans (k9))), k1883.trans (k1825.trans ((kq (a := 6) (b := 5) eσ1486 (by omega)).trans (k10))), k1884.trans (k1826.trans ((kq (a := 7) (b := 4) eσ1486 (by omega)).trans (k11))), k1885.trans (k1827.trans ((kq (a := 2) (b := 4) eσ1486 (by omega)).trans (k12))), k1886.trans (k1828.trans ((kq (a := 2) (b := 5) eσ1486 (by omega)).trans (k13))), k1887.trans (k1829.trans ((kq (a := 2) (b := 6) eσ1486 (by omega)).trans (k14))), k1888.trans (k1830.trans ((kq (a := 3) (b := 8) eσ1486 (by omega)).trans (k15)))⟩)
          · have f1890 := tB (σ1820.1 3 11)
            have f1892 := mt Int32.toInt_inj.mp c1834
            exact hQ _ hσ1820 (⟨k1823.trans ((kq (a := 9) (b := 9) eσ1486 (by omega)).trans (k8)), k1824.trans ((kq (a := 9) (b := 10) eσ1486 (by omega)).trans (k9)), k1825.trans ((kq (a := 6) (b := 5) eσ1486 (by omega)).trans (k10)), k1826.trans ((kq (a := 7) (b := 4) eσ1486 (by omega)).trans (k11)), k1827.trans ((kq (a := 2) (b := 4) eσ1486 (by omega)).trans (k12)), k1828.trans ((kq (a := 2) (b := 5) eσ1486 (by omega)).trans (k13)), k1829.trans ((kq (a := 2) (b := 6) eσ1486 (by omega)).trans (k14)), k1830.trans ((kq (a := 3) (b := 8) eσ1486 (by omega)).trans (k15))⟩)
        · have f1893 := tB (σ1486.1 3 11)
          have q1894 : σ1486.1 3 11 = σ5.1 3 11 := by rw [eσ1486, u1_at]; exact if_neg (by decide)
          have f1895 := congrArg Int32.toInt q1894
          have f1898 := mt Int32.toInt_inj.mp c1812
          unfold fX2_enterThing_j73
          refine ⟨fun c1899 => ?_, fun c1899 => ?_⟩
          · have f1902 := congrArg Int32.toInt c1899
            refine ⟨fun c1903 => ?_, fun c1903 => ?_⟩
            · have f1905 : (192 : Int32).toInt = 192 := by decide
              have f1906 := congrArg Int32.toInt c1903
              unfold fX2_enterThing_j99
              have f1907 := tB r17
              have f1908 : (255 : Int32).toInt = 255 := by decide
              refine sX2_callFunction hN hσ1486 (fun σ1909 hσ1909 kk1919 => ?_)
              obtain ⟨k1910, k1911, k1912, k1913, k1914, k1915, k1916, k1917, k1918⟩ := kk1919
              exact hQ _ hσ1909 (⟨k1911.trans ((kq (a := 9) (b := 9) eσ1486 (by omega)).trans (k8)), k1912.trans ((kq (a := 9) (b := 10) eσ1486 (by omega)).trans (k9)), k1913.trans ((kq (a := 6) (b := 5) eσ1486 (by omega)).trans (k10)), k1914.trans ((kq (a := 7) (b := 4) eσ1486 (by omega)).trans (k11)), k1915.trans ((kq (a := 2) (b := 4) eσ1486 (by omega)).trans (k12)), k1916.trans ((kq (a := 2) (b := 5) eσ1486 (by omega)).trans (k13)), k1917.trans ((kq (a := 2) (b := 6) eσ1486 (by omega)).trans (k14)), k1918.trans ((kq (a := 3) (b := 8) eσ1486 (by omega)).trans (k15))⟩)
            · have f1921 : (192 : Int32).toInt = 192 := by decide
              have f1922 := mt Int32.toInt_inj.mp c1903
              refine ⟨fun c1923 => ?_, fun c1923 => ?_⟩
              · have f1925 : (193 : Int32).toInt = 193 := by decide
                have f1926 := congrArg Int32.toInt c1923
                unfold fX2_enterThing_j99
                have f1927 := tB r17
                have f1928 : (255 : Int32).toInt = 255 := by decide
                refine sX2_callFunction hN hσ1486 (fun σ1929 hσ1929 kk1939 => ?_)
                obtain ⟨k1930, k1931, k1932, k1933, k1934, k1935, k1936, k1937, k1938⟩ := kk1939
                exact hQ _ hσ1929 (⟨k1931.trans ((kq (a := 9) (b := 9) eσ1486 (by omega)).trans (k8)), k1932.trans ((kq (a := 9) (b := 10) eσ1486 (by omega)).trans (k9)), k1933.trans ((kq (a := 6) (b := 5) eσ1486 (by omega)).trans (k10)), k1934.trans ((kq (a := 7) (b := 4) eσ1486 (by omega)).trans (k11)), k1935.trans ((kq (a := 2) (b := 4) eσ1486 (by omega)).trans (k12)), k1936.trans ((kq (a := 2) (b := 5) eσ1486 (by omega)).trans (k13)), k1937.trans ((kq (a := 2) (b := 6) eσ1486 (by omega)).trans (k14)), k1938.trans ((kq (a := 3) (b := 8) eσ1486 (by omega)).trans (k15))⟩)
              · have f1941 : (193 : Int32).toInt = 193 := by decide
                have f1942 := mt Int32.toInt_inj.mp c1923
                have f1943 := tB r17
                refine sX2_beginString hN hσ1486 (fun σ1944 hσ1944 kk1954 => ?_)
                obtain ⟨k1945, k1946, k1947, k1948, k1949, k1950, k1951, k1952, k1953⟩ := kk1954
                exact hQ _ hσ1944 (⟨k1946.trans ((kq (a := 9) (b := 9) eσ1486 (by omega)).trans (k8)), k1947.trans ((kq (a := 9) (b := 10) eσ1486 (by omega)).trans (k9)), k1948.trans ((kq (a := 6) (b := 5) eσ1486 (by omega)).trans (k10)), k1949.trans ((kq (a := 7) (b := 4) eσ1486 (by omega)).trans (k11)), k1950.trans ((kq (a := 2) (b := 4) eσ1486 (by omega)).trans (k12)), k1951.trans ((kq (a := 2) (b := 5) eσ1486 (by omega)).trans (k13)), k1952.trans ((kq (a := 2) (b := 6) eσ1486 (by omega)).trans (k14)), k1953.trans ((kq (a := 3) (b := 8) eσ1486 (by omega)).trans (k15))⟩)
          · have f1957 := mt Int32.toInt_inj.mp c1899
            exact hQ _ hσ1486 (⟨(kq (a := 9) (b := 9) eσ1486 (by omega)).trans (k8), (kq (a := 9) (b := 10) eσ1486 (by omega)).trans (k9), (kq (a := 6) (b := 5) eσ1486 (by omega)).trans (k10), (kq (a := 7) (b := 4) eσ1486 (by omega)).trans (k11), (kq (a := 2) (b := 4) eσ1486 (by omega)).trans (k12), (kq (a := 2) (b := 5) eσ1486 (by omega)).trans (k13), (kq (a := 2) (b := 6) eσ1486 (by omega)).trans (k14), (kq (a := 3) (b := 8) eσ1486 (by omega)).trans (k15)⟩)
set_option maxHeartbeats 4000000 in
theorem sX2_doLeaf {N : Nat} (hN : 4294967400 ≤ N) {x1 : Int32} {x2 : Int32} {Q : St → Prop} {σ0 σ : St} (hσ : K1 σ0 σ) (hQ : ∀ τ : St, K1 σ0 τ → (τ.1 9 9 = σ.1 9 9 ∧ τ.1 9 10 = σ.1 9 10 ∧ τ.1 6 5 = σ.1 6 5 ∧ τ.1 7 4 = σ.1 7 4 ∧ τ.1 2 4 = σ.1 2 4 ∧ τ.1 2 5 = σ.1 2 5 ∧ τ.1 2 6 = σ.1 2 6) → Q τ) : fX2_doLeaf N x1 x2 Q σ := by
  unfold fX2_doLeaf
  refine ⟨fun c1 => ?_, fun c1 => ?_⟩
  · have f2 := tB x2
    have f3 : (2 : Int32).toInt = 2 := by decide
    have f4 := congrArg Int32.toInt c1
    have f5 := tB x1
    have f6 : (1 : Int32).toInt = 1 := by decide
    have f7 := tA x1 (1 : Int32)
    have f8 := tB (x1 + 1)
    refine sX2_readByte hN hσ (fun r21 σ9 hσ9 kk20 p22 => ?_)
    obtain ⟨k10, k11, k12, k13, k14, k15, k16, k17, k18, k19⟩ := kk20
    have f23 := tB r21
    refine sX2_give hN hσ9 (fun σ24 hσ24 kk32 => ?_)
    obtain ⟨k25, k26, k27, k28, k29, k30, k31⟩ := kk32
    exact hQ _ hσ24 (⟨k25.trans (k12), k26.trans (k13), k27.trans (k14), k28.trans (k15), k29.trans (k16), k30.trans (k17), k31.trans (k18)⟩)
  · have f33 := tB x2
    have f34 : (2 : Int32).toInt = 2 := by decide
    have f35 := mt Int32.toInt_inj.mp c1
    refine ⟨fun c36 => ?_, fun c36 => ?_⟩
    · have f38 : (3 : Int32).toInt = 3 := by decide
      have f39 := congrArg Int32.toInt c36
      have f40 : (1 : Int32).toInt = 1 := by decide
      have f41 := tB x1
      have f43 := tA x1 (1 : Int32)
      have f44 := tB (x1 + 1)
      refine sX2_begin hN hσ (fun σ45 hσ45 kk55 => ?_)
      obtain ⟨k46, k47, k48, k49, k50, k51, k52, k53, k54⟩ := kk55
      exact hQ _ hσ45 (⟨k47, k48, k49, k50, k51, k52, k53⟩)
    · have f57 : (3 : Int32).toInt = 3 := by decide
      have f58 := mt Int32.toInt_inj.mp c36
      refine ⟨fun c59 => ?_, fun c59 => ?_⟩
      · have f61 : (4 : Int32).toInt = 4 := by decide
        have f62 := congrArg Int32.toInt c59
        have f63 := tB x1
        have f64 : (1 : Int32).toInt = 1 := by decide
        have f65 := tA x1 (1 : Int32)
        have f66 := tB (x1 + 1)
        refine sX2_readFour hN hσ (fun r79 σ67 hσ67 kk78 p80 => ?_)
        obtain ⟨k68, k69, k70, k71, k72, k73, k74, k75, k76, k77⟩ := kk78
        have f81 := tB r79
        refine sX2_give hN hσ67 (fun σ82 hσ82 kk90 => ?_)
        obtain ⟨k83, k84, k85, k86, k87, k88, k89⟩ := kk90
        exact hQ _ hσ82 (⟨k83.trans (k70), k84.trans (k71), k85.trans (k72), k86.trans (k73), k87.trans (k74), k88.trans (k75), k89.trans (k76)⟩)
      · have f92 : (4 : Int32).toInt = 4 := by decide
        have f93 := mt Int32.toInt_inj.mp c59
        refine ⟨fun c94 => ?_, fun c94 => ?_⟩
        · have f96 : (5 : Int32).toInt = 5 := by decide
          have f97 := congrArg Int32.toInt c94
          have f99 := tB x1
          have f100 : (1 : Int32).toInt = 1 := by decide
          have f101 := tA x1 (1 : Int32)
          have f102 := tB (x1 + 1)
          refine sX2_begin hN hσ (fun σ103 hσ103 kk113 => ?_)
          obtain ⟨k104, k105, k106, k107, k108, k109, k110, k111, k112⟩ := kk113
          exact hQ _ hσ103 (⟨k105, k106, k107, k108, k109, k110, k111⟩)
        · have f115 : (5 : Int32).toInt = 5 := by decide
          have f116 := mt Int32.toInt_inj.mp c94
          refine ⟨fun c117 => ?_, fun c117 => ?_⟩
          · have f119 : (8 : Int32).toInt = 8 := by decide
            have f120 := congrArg Int32.toInt c117
            unfold fX2_doLeaf_j106
            have f121 := tB x1
            refine sX2_enterThing hN hσ (fun σ123 hσ123 kk132 => ?_)
            obtain ⟨k124, k125, k126, k127, k128, k129, k130, k131⟩ := kk132
            exact hQ _ hσ123 (⟨k124, k125, k126, k127, k128, k129, k130⟩)
          · have f134 : (8 : Int32).toInt = 8 := by decide
            have f135 := mt Int32.toInt_inj.mp c117
            refine ⟨fun c136 => ?_, fun c136 => ?_⟩
            · have f138 : (9 : Int32).toInt = 9 := by decide
              have f139 := congrArg Int32.toInt c136
              unfold fX2_doLeaf_j106
              have f140 := tB x1
              refine sX2_enterThing hN hσ (fun σ142 hσ142 kk151 => ?_)
              obtain ⟨k143, k144, k145, k146, k147, k148, k149, k150⟩ := kk151
              exact hQ _ hσ142 (⟨k143, k144, k145, k146, k147, k148, k149⟩)
            · have f153 : (9 : Int32).toInt = 9 := by decide
              have f154 := mt Int32.toInt_inj.mp c136
              refine ⟨fun c155 => ?_, fun c155 => ?_⟩
              · have f157 : (10 : Int32).toInt = 10 := by decide
                have f158 := congrArg Int32.toInt c155
                unfold fX2_doLeaf_j106
                have f159 := tB x1
                refine sX2_enterThing hN hσ (fun σ161 hσ161 kk170 => ?_)
                obtain ⟨k162, k163, k164, k165, k166, k167, k168, k169⟩ := kk170
                exact hQ _ hσ161 (⟨k162, k163, k164, k165, k166, k167, k168⟩)
              · have f172 : (10 : Int32).toInt = 10 := by decide
                have f173 := mt Int32.toInt_inj.mp c155
                refine ⟨fun c174 => ?_, fun c174 => ?_⟩
                · have f176 : (11 : Int32).toInt = 11 := by decide
                  have f177 := congrArg Int32.toInt c174
                  unfold fX2_doLeaf_j106
                  have f178 := tB x1
                  refine sX2_enterThing hN hσ (fun σ180 hσ180 kk189 => ?_)
                  obtain ⟨k181, k182, k183, k184, k185, k186, k187, k188⟩ := kk189
                  exact hQ _ hσ180 (⟨k181, k182, k183, k184, k185, k186, k187⟩)
                · have f191 : (11 : Int32).toInt = 11 := by decide
                  have f192 := mt Int32.toInt_inj.mp c174
                  unfold fX2_doLeaf_j115
                  unfold fX2_fail
                  refine ⟨fun c193 => ?_, fun c193 => ?_⟩
                  · have f194 := tB (σ.1 3 11)
                    have f195 : (0 : Int32).toInt = 0 := by decide
                    have f196 := congrArg Int32.toInt c193
                    intro σ197 eσ197
                    have hσ197 : K1 σ0 σ197 := by rw [eσ197]; exact hσ.u (Rg1.u_3_11 _) (by omega) (by omega)
                    try dsimp only
                    exact hQ _ hσ197 (⟨(kq (a := 9) (b := 9) eσ197 (by omega)), (kq (a := 9) (b := 10) eσ197 (by omega)), (kq (a := 6) (b := 5) eσ197 (by omega)), (kq (a := 7) (b := 4) eσ197 (by omega)), (kq (a := 2) (b := 4) eσ197 (by omega)), (kq (a := 2) (b := 5) eσ197 (by omega)), (kq (a := 2) (b := 6) eσ197 (by omega))⟩)
                  · have f198 := tB (σ.1 3 11)
                    have f199 : (0 : Int32).toInt = 0 := by decide
                    have f200 := mt Int32.toInt_inj.mp c193
                    try dsimp only
                    exact hQ _ hσ (⟨rfl, rfl, rfl, rfl, rfl, rfl, rfl⟩)
set_option maxHeartbeats 4000000 in
theorem sX2_stepPacked {N : Nat} (hN : 4294967400 ≤ N) {k1 : Nat} (hk1 : jobK k1) {Q : St → Prop} {σ0 σ : St} (hs3_7 : 1 ≤ (σ.1 3 7).toInt) (hσ : K1 σ0 σ) (hQ : ∀ τ : St, K1 σ0 τ → (τ.1 9 9 = σ.1 9 9 ∧ τ.1 9 10 = σ.1 9 10 ∧ τ.1 6 5 = σ.1 6 5 ∧ τ.1 7 4 = σ.1 7 4 ∧ τ.1 2 4 = σ.1 2 4 ∧ τ.1 2 5 = σ.1 2 5 ∧ τ.1 2 6 = σ.1 2 6) → Q τ) : fX2_stepPacked N k1 Q σ := by
  unfold fX2_stepPacked
  have kbhk1 := jobK_b hk1
  refine ⟨fun c1 => ?_, fun c1 => ?_⟩
  · have f2 := tB (σ.1 2 8)
    have f3 : (0 : Int32).toInt = 0 := by decide
    have f4 := congrArg Int32.toInt c1
    unfold fX2_fail
    refine ⟨fun c5 => ?_, fun c5 => ?_⟩
    · have f6 := tB (σ.1 3 11)
      have f8 := congrArg Int32.toInt c5
      intro σ9 eσ9
      have hσ9 : K1 σ0 σ9 := by rw [eσ9]; exact hσ.u (Rg1.u_3_11 _) (by omega) (by omega)
      try dsimp only
      exact hQ _ hσ9 (⟨(kq (a := 9) (b := 9) eσ9 (by omega)), (kq (a := 9) (b := 10) eσ9 (by omega)), (kq (a := 6) (b := 5) eσ9 (by omega)), (kq (a := 7) (b := 4) eσ9 (by omega)), (kq (a := 2) (b := 4) eσ9 (by omega)), (kq (a := 2) (b := 5) eσ9 (by omega)), (kq (a := 2) (b := 6) eσ9 (by omega))⟩)
    · have f10 := tB (σ.1 3 11)
      have f12 := mt Int32.toInt_inj.mp c5
      try dsimp only
      exact hQ _ hσ (⟨rfl, rfl, rfl, rfl, rfl, rfl, rfl⟩)
  · have f13 := tB (σ.1 2 8)
    have f14 : (0 : Int32).toInt = 0 := by decide
    have f15 := mt Int32.toInt_inj.mp c1
    refine ⟨fun c16 => ?_, fun c16 => ?_⟩
    · have f17 := tB (σ.1 k1 5)
      have f19 := congrArg Int32.toInt c16
      unfold fX2_stepPacked_j44
      refine ⟨fun c20 => ?_, fun c20 => ?_⟩
      · have f21 := tB (σ.1 3 11)
        have f23 := congrArg Int32.toInt c20
        have f24 := tB (σ.1 k1 6)
        refine sX2_readByte hN hσ (fun r37 σ25 hσ25 kk36 p38 => ?_)
        obtain ⟨k26, k27, k28, k29, k30, k31, k32, k33, k34, k35⟩ := kk36
        refine ⟨fun c39 => ?_, fun c39 => ?_⟩
        · have f40 := tB (σ25.1 3 11)
          have f42 := congrArg Int32.toInt c39
          refine ⟨fun c43 => ?_, fun c43 => ?_⟩
          · have f44 := tB r37
            have f46 := congrArg Int32.toInt c43
            refine sX2_followBranch hN hk1 hσ25 (fun σ48 hσ48 kk59 => ?_)
            obtain ⟨k49, k50, k51, k52, k53, k54, k55, k56, k57, k58⟩ := kk59
            exact hQ _ hσ48 (⟨k51.trans (k28), k52.trans (k29), k53.trans (k30), k54.trans (k31), k55.trans (k32), k56.trans (k33), k57.trans (k34)⟩)
          · have f60 := tB r37
            have f62 := mt Int32.toInt_inj.mp c43
            refine ⟨fun c63 => ?_, fun c63 => ?_⟩
            · have f65 : (1 : Int32).toInt = 1 := by decide
              have f66 := congrArg Int32.toInt c63
              intro v67 ev67
              intro σ68 eσ68
              have f69 := tB v67
              have f70 := K1.g_3_7 hσ25
              have f71 := congrArg Int32.toInt k26
              have f72 := K1.g_3_7 hσ
              have f74 := tS (σ25.1 3 7) (1 : Int32)
              have f75 := tB ((σ25.1 3 7) - 1)
              have f76 := congrArg Int32.toInt ev67
              have hσ68 : K1 σ0 σ68 := by rw [eσ68]; exact hσ25.u (Rg1.r_3_7 (by omega) (by omega)) (by omega) (by omega)
              exact hQ _ hσ68 (⟨(kq (a := 9) (b := 9) eσ68 (by omega)).trans (k28), (kq (a := 9) (b := 10) eσ68 (by omega)).trans (k29), (kq (a := 6) (b := 5) eσ68 (by omega)).trans (k30), (kq (a := 7) (b := 4) eσ68 (by omega)).trans (k31), (kq (a := 2) (b := 4) eσ68 (by omega)).trans (k32), (kq (a := 2) (b := 5) eσ68 (by omega)).trans (k33), (kq (a := 2) (b := 6) eσ68 (by omega)).trans (k34)⟩)
            · have f78 : (1 : Int32).toInt = 1 := by decide
              have f79 := mt Int32.toInt_inj.mp c63
              intro σ80 eσ80
              have kb81 := jobK_b hk1
              have hσ80 : K1 σ0 σ80 := by rw [eσ80]; exact hσ25.u (rg_jobK hk1) (by omega) (by omega)
              refine sX2_doLeaf hN hσ80 (fun σ84 hσ84 kk92 => ?_)
              obtain ⟨k85, k86, k87, k88, k89, k90, k91⟩ := kk92
              exact hQ _ hσ84 (⟨k85.trans ((kq (a := 9) (b := 9) eσ80 (by omega)).trans (k28)), k86.trans ((kq (a := 9) (b := 10) eσ80 (by omega)).trans (k29)), k87.trans ((kq (a := 6) (b := 5) eσ80 (by omega)).trans (k30)), k88.trans ((kq (a := 7) (b := 4) eσ80 (by omega)).trans (k31)), k89.trans ((kq (a := 2) (b := 4) eσ80 (by omega)).trans (k32)), k90.trans ((kq (a := 2) (b := 5) eσ80 (by omega)).trans (k33)), k91.trans ((kq (a := 2) (b := 6) eσ80 (by omega)).trans (k34))⟩)
        · have f93 := tB (σ25.1 3 11)
          have f95 := mt Int32.toInt_inj.mp c39
          exact hQ _ hσ25 (⟨k28, k29, k30, k31, k32, k33, k34⟩)
      · have f96 := tB (σ.1 3 11)
        have f98 := mt Int32.toInt_inj.mp c20
        exact hQ _ hσ (⟨rfl, rfl, rfl, rfl, rfl, rfl, rfl⟩)
    · have f99 := tB (σ.1 k1 5)
      have f101 := mt Int32.toInt_inj.mp c16
      have f103 : (8 : Int32).toInt = 8 := by decide
      have f104 := tA (σ.1 2 8) (8 : Int32)
      have f105 := tB ((σ.1 2 8) + 8)
      refine sX2_readFour hN hσ (fun r118 σ106 hσ106 kk117 p119 => ?_)
      obtain ⟨k107, k108, k109, k110, k111, k112, k113, k114, k115, k116⟩ := kk117
      unfold fX2_stepPacked_j44
      refine ⟨fun c120 => ?_, fun c120 => ?_⟩
      · have f121 := tB (σ106.1 3 11)
        have f123 := congrArg Int32.toInt c120
        have f124 := tB r118
        refine sX2_readByte hN hσ106 (fun r137 σ125 hσ125 kk136 p138 => ?_)
        obtain ⟨k126, k127, k128, k129, k130, k131, k132, k133, k134, k135⟩ := kk136
        refine ⟨fun c139 => ?_, fun c139 => ?_⟩
        · have f140 := tB (σ125.1 3 11)
          have f142 := congrArg Int32.toInt c139
          refine ⟨fun c143 => ?_, fun c143 => ?_⟩
          · have f144 := tB r137
            have f146 := congrArg Int32.toInt c143
            refine sX2_followBranch hN hk1 hσ125 (fun σ148 hσ148 kk159 => ?_)
            obtain ⟨k149, k150, k151, k152, k153, k154, k155, k156, k157, k158⟩ := kk159
            exact hQ _ hσ148 (⟨k151.trans (k128.trans (k109)), k152.trans (k129.trans (k110)), k153.trans (k130.trans (k111)), k154.trans (k131.trans (k112)), k155.trans (k132.trans (k113)), k156.trans (k133.trans (k114)), k157.trans (k134.trans (k115))⟩)
          · have f160 := tB r137
            have f162 := mt Int32.toInt_inj.mp c143
            refine ⟨fun c163 => ?_, fun c163 => ?_⟩
            · have f165 : (1 : Int32).toInt = 1 := by decide
              have f166 := congrArg Int32.toInt c163
              intro v167 ev167
              intro σ168 eσ168
              have f169 := tB v167
              have f170 := K1.g_3_7 hσ125
              have f171 := congrArg Int32.toInt k126
              have f172 := K1.g_3_7 hσ106
              have f173 := congrArg Int32.toInt k107
              have f174 := K1.g_3_7 hσ
              have f176 := tS (σ125.1 3 7) (1 : Int32)
              have f177 := tB ((σ125.1 3 7) - 1)
              have f178 := congrArg Int32.toInt ev167
              have hσ168 : K1 σ0 σ168 := by rw [eσ168]; exact hσ125.u (Rg1.r_3_7 (by omega) (by omega)) (by omega) (by omega)
              exact hQ _ hσ168 (⟨(kq (a := 9) (b := 9) eσ168 (by omega)).trans (k128.trans (k109)), (kq (a := 9) (b := 10) eσ168 (by omega)).trans (k129.trans (k110)), (kq (a := 6) (b := 5) eσ168 (by omega)).trans (k130.trans (k111)), (kq (a := 7) (b := 4) eσ168 (by omega)).trans (k131.trans (k112)), (kq (a := 2) (b := 4) eσ168 (by omega)).trans (k132.trans (k113)), (kq (a := 2) (b := 5) eσ168 (by omega)).trans (k133.trans (k114)), (kq (a := 2) (b := 6) eσ168 (by omega)).trans (k134.trans (k115))⟩)
            · have f180 : (1 : Int32).toInt = 1 := by decide
              have f181 := mt Int32.toInt_inj.mp c163
              intro σ182 eσ182
              have kb183 := jobK_b hk1
              have hσ182 : K1 σ0 σ182 := by rw [eσ182]; exact hσ125.u (rg_jobK hk1) (by omega) (by omega)
              refine sX2_doLeaf hN hσ182 (fun σ186 hσ186 kk194 => ?_)
              obtain ⟨k187, k188, k189, k190, k191, k192, k193⟩ := kk194
              exact hQ _ hσ186 (⟨k187.trans ((kq (a := 9) (b := 9) eσ182 (by omega)).trans (k128.trans (k109))), k188.trans ((kq (a := 9) (b := 10) eσ182 (by omega)).trans (k129.trans (k110))), k189.trans ((kq (a := 6) (b := 5) eσ182 (by omega)).trans (k130.trans (k111))), k190.trans ((kq (a := 7) (b := 4) eσ182 (by omega)).trans (k131.trans (k112))), k191.trans ((kq (a := 2) (b := 4) eσ182 (by omega)).trans (k132.trans (k113))), k192.trans ((kq (a := 2) (b := 5) eσ182 (by omega)).trans (k133.trans (k114))), k193.trans ((kq (a := 2) (b := 6) eσ182 (by omega)).trans (k134.trans (k115)))⟩)
        · have f195 := tB (σ125.1 3 11)
          have f197 := mt Int32.toInt_inj.mp c139
          exact hQ _ hσ125 (⟨k128.trans (k109), k129.trans (k110), k130.trans (k111), k131.trans (k112), k132.trans (k113), k133.trans (k114), k134.trans (k115)⟩)
      · have f198 := tB (σ106.1 3 11)
        have f200 := mt Int32.toInt_inj.mp c120
        exact hQ _ hσ106 (⟨k109, k110, k111, k112, k113, k114, k115⟩)
set_option maxHeartbeats 4000000 in
theorem sX2_digitCount {N : Nat} (hN : 4294967400 ≤ N) {x0 : Int64} {Q : Int32 → St → Prop} {σ0 σ : St} (hσ : K1 σ0 σ) (hQ : ∀ r : Int32, True → Q r σ) : fX2_digitCount N x0 Q σ := by
  unfold fX2_digitCount
  intro v1 ev1
  have f4 : (1 : Int32).toInt = 1 := by decide
  refine lo2_i (fun (y2 : Int32) (y3 : Int64) (τ : St) => σ = τ ∧ 0 ≤ y2.toInt) (fun (y2 : Int32) (y3 : Int64) (τ : St) => (2147483648 - y2.toInt).toNat) ?_ N (1 : Int32) v1 σ ⟨rfl, by omega⟩ (by (try dsimp only); omega)
  intro rr5 y8 y9 σ7 hIσ7 ih6
  obtain ⟨hσ7, i10⟩ := hIσ7
  subst hσ7
  unfold fX2_digitCount_l8
  have f11 := tB y8
  refine ⟨fun c12 => ?_, fun c12 => ?_⟩
  · exact hQ _ trivial
  · refine ⟨fun c13 => ?_, fun c13 => ?_⟩
    · have f14 : (20 : Int32).toInt = 20 := by decide
      have f16 := Int32.le_iff_toInt_le.mp c13
      exact hQ _ trivial
    · have f17 : (20 : Int32).toInt = 20 := by decide
      have f19 := mt Int32.le_iff_toInt_le.mpr c13
      intro v20 ev20
      intro v21 ev21
      have f22 := tB v21
      have f25 := tA y8 (1 : Int32)
      have f26 := tB (y8 + 1)
      have f27 := congrArg Int32.toInt ev21
      exact ih6 v21 v20 σ ⟨rfl, by omega⟩ (by (try dsimp only); omega)
set_option maxHeartbeats 4000000 in
theorem sX2_stepNumber {N : Nat} (hN : 4294967400 ≤ N) {k1 : Nat} (hk1 : jobK k1) {Q : St → Prop} {σ0 σ : St} (hs3_7 : 1 ≤ (σ.1 3 7).toInt) (hσ : K1 σ0 σ) (hQ : ∀ τ : St, K1 σ0 τ → (τ.1 9 9 = σ.1 9 9 ∧ τ.1 9 10 = σ.1 9 10 ∧ τ.1 6 5 = σ.1 6 5 ∧ τ.1 7 4 = σ.1 7 4 ∧ τ.1 2 4 = σ.1 2 4 ∧ τ.1 2 5 = σ.1 2 5 ∧ τ.1 2 6 = σ.1 2 6) → Q τ) : fX2_stepNumber N k1 Q σ := by
  unfold fX2_stepNumber
  have kbhk1 := jobK_b hk1
  intro v1 ev1
  refine ⟨fun c2 => ?_, fun c2 => ?_⟩
  · have f3 : (0 : Int32).toInt = 0 := by decide
    have f4 := tB (σ.1 k1 2)
    have f5 := Int32.le_iff_toInt_le.mp c2
    unfold fX2_stepNumber_j21
    refine sX2_digitCount hN hσ (fun r19 p20 => ?_)
    intro v21 ev21
    refine ⟨fun c22 => ?_, fun c22 => ?_⟩
    · have f24 := tB v21
      have f26 := tB r19
      have f27 := tA (0 : Int32) r19
      have f28 := tB (0 + r19)
      have f29 : (1 : Int32).toInt = 1 := by decide
      have f30 := tS (0 + r19) (1 : Int32)
      have f31 := tB ((0 + r19) - 1)
      have f32 := tB (σ.1 k1 3)
      have f33 := tS ((0 + r19) - 1) (σ.1 k1 3)
      have f34 := tB (((0 + r19) - 1) - (σ.1 k1 3))
      have f35 := congrArg Int32.toInt ev21
      have f36 := Int32.le_iff_toInt_le.mp c22
      refine ⟨fun c37 => ?_, fun c37 => ?_⟩
      · have f40 := congrArg Int32.toInt c37
        refine ⟨fun c41 => ?_, fun c41 => ?_⟩
        · have f44 := congrArg Int32.toInt c41
          unfold fX2_stepNumber_j73
          intro v45 ev45
          intro σ46 eσ46
          have kb47 := jobK_b hk1
          have hσ46 : K1 σ0 σ46 := by rw [eσ46]; exact hσ.u (rg_jobK hk1) (by omega) (by omega)
          refine ⟨fun c48 => ?_, fun c48 => ?_⟩
          · have f51 := congrArg Int32.toInt c48
            refine lo2_i (fun (y52 : Int64) (y53 : Int32) (τ : St) => K1 σ0 τ ∧ τ.1 3 7 = σ46.1 3 7 ∧ τ.1 3 11 = σ46.1 3 11 ∧ τ.1 3 6 = σ46.1 3 6 ∧ τ.1 9 9 = σ46.1 9 9 ∧ τ.1 9 10 = σ46.1 9 10 ∧ τ.1 6 5 = σ46.1 6 5 ∧ τ.1 7 4 = σ46.1 7 4 ∧ τ.1 2 4 = σ46.1 2 4 ∧ τ.1 2 5 = σ46.1 2 5 ∧ τ.1 2 6 = σ46.1 2 6 ∧ τ.1 3 8 = σ46.1 3 8 ∧ 0 ≤ y53.toInt) (fun (y52 : Int64) (y53 : Int32) (τ : St) => (2147483648 - y53.toInt).toNat) ?_ N v1 (0 : Int32) σ46 ⟨hσ46, rfl, rfl, rfl, rfl, rfl, rfl, rfl, rfl, rfl, rfl, rfl, by omega⟩ (by (try dsimp only); omega)
            intro rr67 y70 y71 σ69 hIσ69 ih68
            obtain ⟨hσ69, k72, k73, k74, k75, k76, k77, k78, k79, k80, k81, k82, i83⟩ := hIσ69
            unfold fX2_stepNumber_l100
            have f84 := tB y71
            refine ⟨fun c85 => ?_, fun c85 => ?_⟩
            · have f99 := Int32.le_iff_toInt_le.mp c85
              refine sX2_give hN hσ69 (fun σ100 hσ100 kk108 => ?_)
              obtain ⟨k101, k102, k103, k104, k105, k106, k107⟩ := kk108
              exact hQ _ hσ100 (⟨k101.trans (k75.trans ((kq (a := 9) (b := 9) eσ46 (by omega)))), k102.trans (k76.trans ((kq (a := 9) (b := 10) eσ46 (by omega)))), k103.trans (k77.trans ((kq (a := 6) (b := 5) eσ46 (by omega)))), k104.trans (k78.trans ((kq (a := 7) (b := 4) eσ46 (by omega)))), k105.trans (k79.trans ((kq (a := 2) (b := 4) eσ46 (by omega)))), k106.trans (k80.trans ((kq (a := 2) (b := 5) eσ46 (by omega)))), k107.trans (k81.trans ((kq (a := 2) (b := 6) eσ46 (by omega))))⟩)
            · have f122 := mt Int32.le_iff_toInt_le.mpr c85
              intro v123 ev123
              intro v124 ev124
              have f125 := tB v124
              have f128 := tA y71 (1 : Int32)
              have f129 := tB (y71 + 1)
              have f130 := congrArg Int32.toInt ev124
              exact ih68 v123 v124 σ69 ⟨hσ69, k72, k73, k74, k75, k76, k77, k78, k79, k80, k81, k82, by omega⟩ (by (try dsimp only); omega)
          · have f133 := mt Int32.toInt_inj.mp c48
            have f134 : (45 : Int32).toInt = 45 := by decide
            refine sX2_give hN hσ46 (fun σ135 hσ135 kk143 => ?_)
            obtain ⟨k136, k137, k138, k139, k140, k141, k142⟩ := kk143
            exact hQ _ hσ135 (⟨k136.trans ((kq (a := 9) (b := 9) eσ46 (by omega))), k137.trans ((kq (a := 9) (b := 10) eσ46 (by omega))), k138.trans ((kq (a := 6) (b := 5) eσ46 (by omega))), k139.trans ((kq (a := 7) (b := 4) eσ46 (by omega))), k140.trans ((kq (a := 2) (b := 4) eσ46 (by omega))), k141.trans ((kq (a := 2) (b := 5) eσ46 (by omega))), k142.trans ((kq (a := 2) (b := 6) eσ46 (by omega)))⟩)
        · have f146 := mt Int32.toInt_inj.mp c41
          unfold fX2_stepNumber_j72
          unfold fX2_stepNumber_j73
          intro v147 ev147
          intro σ148 eσ148
          have kb149 := jobK_b hk1
          have hσ148 : K1 σ0 σ148 := by rw [eσ148]; exact hσ.u (rg_jobK hk1) (by omega) (by omega)
          refine ⟨fun c150 => ?_, fun c150 => ?_⟩
          · have f153 := congrArg Int32.toInt c150
            refine lo2_i (fun (y154 : Int64) (y155 : Int32) (τ : St) => K1 σ0 τ ∧ τ.1 3 7 = σ148.1 3 7 ∧ τ.1 3 11 = σ148.1 3 11 ∧ τ.1 3 6 = σ148.1 3 6 ∧ τ.1 9 9 = σ148.1 9 9 ∧ τ.1 9 10 = σ148.1 9 10 ∧ τ.1 6 5 = σ148.1 6 5 ∧ τ.1 7 4 = σ148.1 7 4 ∧ τ.1 2 4 = σ148.1 2 4 ∧ τ.1 2 5 = σ148.1 2 5 ∧ τ.1 2 6 = σ148.1 2 6 ∧ τ.1 3 8 = σ148.1 3 8 ∧ 0 ≤ y155.toInt) (fun (y154 : Int64) (y155 : Int32) (τ : St) => (2147483648 - y155.toInt).toNat) ?_ N v1 (0 : Int32) σ148 ⟨hσ148, rfl, rfl, rfl, rfl, rfl, rfl, rfl, rfl, rfl, rfl, rfl, by omega⟩ (by (try dsimp only); omega)
            intro rr169 y172 y173 σ171 hIσ171 ih170
            obtain ⟨hσ171, k174, k175, k176, k177, k178, k179, k180, k181, k182, k183, k184, i185⟩ := hIσ171
            unfold fX2_stepNumber_l100
            have f186 := tB y173
            refine ⟨fun c187 => ?_, fun c187 => ?_⟩
            · have f201 := Int32.le_iff_toInt_le.mp c187
              refine sX2_give hN hσ171 (fun σ202 hσ202 kk210 => ?_)
              obtain ⟨k203, k204, k205, k206, k207, k208, k209⟩ := kk210
              exact hQ _ hσ202 (⟨k203.trans (k177.trans ((kq (a := 9) (b := 9) eσ148 (by omega)))), k204.trans (k178.trans ((kq (a := 9) (b := 10) eσ148 (by omega)))), k205.trans (k179.trans ((kq (a := 6) (b := 5) eσ148 (by omega)))), k206.trans (k180.trans ((kq (a := 7) (b := 4) eσ148 (by omega)))), k207.trans (k181.trans ((kq (a := 2) (b := 4) eσ148 (by omega)))), k208.trans (k182.trans ((kq (a := 2) (b := 5) eσ148 (by omega)))), k209.trans (k183.trans ((kq (a := 2) (b := 6) eσ148 (by omega))))⟩)
            · have f224 := mt Int32.le_iff_toInt_le.mpr c187
              intro v225 ev225
              intro v226 ev226
              have f227 := tB v226
              have f230 := tA y173 (1 : Int32)
              have f231 := tB (y173 + 1)
              have f232 := congrArg Int32.toInt ev226
              exact ih170 v225 v226 σ171 ⟨hσ171, k174, k175, k176, k177, k178, k179, k180, k181, k182, k183, k184, by omega⟩ (by (try dsimp only); omega)
          · have f235 := mt Int32.toInt_inj.mp c150
            have f236 : (45 : Int32).toInt = 45 := by decide
            refine sX2_give hN hσ148 (fun σ237 hσ237 kk245 => ?_)
            obtain ⟨k238, k239, k240, k241, k242, k243, k244⟩ := kk245
            exact hQ _ hσ237 (⟨k238.trans ((kq (a := 9) (b := 9) eσ148 (by omega))), k239.trans ((kq (a := 9) (b := 10) eσ148 (by omega))), k240.trans ((kq (a := 6) (b := 5) eσ148 (by omega))), k241.trans ((kq (a := 7) (b := 4) eσ148 (by omega))), k242.trans ((kq (a := 2) (b := 4) eσ148 (by omega))), k243.trans ((kq (a := 2) (b := 5) eσ148 (by omega))), k244.trans ((kq (a := 2) (b := 6) eσ148 (by omega)))⟩)
      · have f248 := mt Int32.toInt_inj.mp c37
        unfold fX2_stepNumber_j72
        unfold fX2_stepNumber_j73
        intro v249 ev249
        intro σ250 eσ250
        have kb251 := jobK_b hk1
        have hσ250 : K1 σ0 σ250 := by rw [eσ250]; exact hσ.u (rg_jobK hk1) (by omega) (by omega)
        refine ⟨fun c252 => ?_, fun c252 => ?_⟩
        · have f255 := congrArg Int32.toInt c252
          refine lo2_i (fun (y256 : Int64) (y257 : Int32) (τ : St) => K1 σ0 τ ∧ τ.1 3 7 = σ250.1 3 7 ∧ τ.1 3 11 = σ250.1 3 11 ∧ τ.1 3 6 = σ250.1 3 6 ∧ τ.1 9 9 = σ250.1 9 9 ∧ τ.1 9 10 = σ250.1 9 10 ∧ τ.1 6 5 = σ250.1 6 5 ∧ τ.1 7 4 = σ250.1 7 4 ∧ τ.1 2 4 = σ250.1 2 4 ∧ τ.1 2 5 = σ250.1 2 5 ∧ τ.1 2 6 = σ250.1 2 6 ∧ τ.1 3 8 = σ250.1 3 8 ∧ 0 ≤ y257.toInt) (fun (y256 : Int64) (y257 : Int32) (τ : St) => (2147483648 - y257.toInt).toNat) ?_ N v1 (0 : Int32) σ250 ⟨hσ250, rfl, rfl, rfl, rfl, rfl, rfl, rfl, rfl, rfl, rfl, rfl, by omega⟩ (by (try dsimp only); omega)
          intro rr271 y274 y275 σ273 hIσ273 ih272
          obtain ⟨hσ273, k276, k277, k278, k279, k280, k281, k282, k283, k284, k285, k286, i287⟩ := hIσ273
          unfold fX2_stepNumber_l100
          have f288 := tB y275
          refine ⟨fun c289 => ?_, fun c289 => ?_⟩
          · have f303 := Int32.le_iff_toInt_le.mp c289
            refine sX2_give hN hσ273 (fun σ304 hσ304 kk312 => ?_)
            obtain ⟨k305, k306, k307, k308, k309, k310, k311⟩ := kk312
            exact hQ _ hσ304 (⟨k305.trans (k279.trans ((kq (a := 9) (b := 9) eσ250 (by omega)))), k306.trans (k280.trans ((kq (a := 9) (b := 10) eσ250 (by omega)))), k307.trans (k281.trans ((kq (a := 6) (b := 5) eσ250 (by omega)))), k308.trans (k282.trans ((kq (a := 7) (b := 4) eσ250 (by omega)))), k309.trans (k283.trans ((kq (a := 2) (b := 4) eσ250 (by omega)))), k310.trans (k284.trans ((kq (a := 2) (b := 5) eσ250 (by omega)))), k311.trans (k285.trans ((kq (a := 2) (b := 6) eσ250 (by omega))))⟩)
          · have f326 := mt Int32.le_iff_toInt_le.mpr c289
            intro v327 ev327
            intro v328 ev328
            have f329 := tB v328
            have f332 := tA y275 (1 : Int32)
            have f333 := tB (y275 + 1)
            have f334 := congrArg Int32.toInt ev328
            exact ih272 v327 v328 σ273 ⟨hσ273, k276, k277, k278, k279, k280, k281, k282, k283, k284, k285, k286, by omega⟩ (by (try dsimp only); omega)
        · have f337 := mt Int32.toInt_inj.mp c252
          have f338 : (45 : Int32).toInt = 45 := by decide
          refine sX2_give hN hσ250 (fun σ339 hσ339 kk347 => ?_)
          obtain ⟨k340, k341, k342, k343, k344, k345, k346⟩ := kk347
          exact hQ _ hσ339 (⟨k340.trans ((kq (a := 9) (b := 9) eσ250 (by omega))), k341.trans ((kq (a := 9) (b := 10) eσ250 (by omega))), k342.trans ((kq (a := 6) (b := 5) eσ250 (by omega))), k343.trans ((kq (a := 7) (b := 4) eσ250 (by omega))), k344.trans ((kq (a := 2) (b := 4) eσ250 (by omega))), k345.trans ((kq (a := 2) (b := 5) eσ250 (by omega))), k346.trans ((kq (a := 2) (b := 6) eσ250 (by omega)))⟩)
    · have f349 := tB v21
      have f351 := tB r19
      have f352 := tA (0 : Int32) r19
      have f353 := tB (0 + r19)
      have f354 : (1 : Int32).toInt = 1 := by decide
      have f355 := tS (0 + r19) (1 : Int32)
      have f356 := tB ((0 + r19) - 1)
      have f357 := tB (σ.1 k1 3)
      have f358 := tS ((0 + r19) - 1) (σ.1 k1 3)
      have f359 := tB (((0 + r19) - 1) - (σ.1 k1 3))
      have f360 := congrArg Int32.toInt ev21
      have f361 := mt Int32.le_iff_toInt_le.mpr c22
      intro v362 ev362
      intro σ363 eσ363
      have f364 := tB v362
      have f365 := K1.g_3_7 hσ
      have f367 := tS (σ.1 3 7) (1 : Int32)
      have f368 := tB ((σ.1 3 7) - 1)
      have f369 := congrArg Int32.toInt ev362
      have hσ363 : K1 σ0 σ363 := by rw [eσ363]; exact hσ.u (Rg1.r_3_7 (by omega) (by omega)) (by omega) (by omega)
      exact hQ _ hσ363 (⟨(kq (a := 9) (b := 9) eσ363 (by omega)), (kq (a := 9) (b := 10) eσ363 (by omega)), (kq (a := 6) (b := 5) eσ363 (by omega)), (kq (a := 7) (b := 4) eσ363 (by omega)), (kq (a := 2) (b := 4) eσ363 (by omega)), (kq (a := 2) (b := 5) eσ363 (by omega)), (kq (a := 2) (b := 6) eσ363 (by omega))⟩)
  · have f370 : (0 : Int32).toInt = 0 := by decide
    have f371 := tB (σ.1 k1 2)
    have f372 := mt Int32.le_iff_toInt_le.mpr c2
    unfold fX2_stepNumber_j21
    refine sX2_digitCount hN hσ (fun r386 p387 => ?_)
    intro v388 ev388
    refine ⟨fun c389 => ?_, fun c389 => ?_⟩
    · have f391 := tB v388
      have f392 : (1 : Int32).toInt = 1 := by decide
      have f393 := tB r386
      have f394 := tA (1 : Int32) r386
      have f395 := tB (1 + r386)
      have f397 := tS (1 + r386) (1 : Int32)
      have f398 := tB ((1 + r386) - 1)
      have f399 := tB (σ.1 k1 3)
      have f400 := tS ((1 + r386) - 1) (σ.1 k1 3)
      have f401 := tB (((1 + r386) - 1) - (σ.1 k1 3))
      have f402 := congrArg Int32.toInt ev388
      have f403 := Int32.le_iff_toInt_le.mp c389
      refine ⟨fun c404 => ?_, fun c404 => ?_⟩
      · have f407 := congrArg Int32.toInt c404
        refine ⟨fun c408 => ?_, fun c408 => ?_⟩
        · have f411 := congrArg Int32.toInt c408
          unfold fX2_stepNumber_j73
          intro v412 ev412
          intro σ413 eσ413
          have kb414 := jobK_b hk1
          have hσ413 : K1 σ0 σ413 := by rw [eσ413]; exact hσ.u (rg_jobK hk1) (by omega) (by omega)
          refine ⟨fun c415 => ?_, fun c415 => ?_⟩
          · have f418 := congrArg Int32.toInt c415
            refine lo2_i (fun (y419 : Int64) (y420 : Int32) (τ : St) => K1 σ0 τ ∧ τ.1 3 7 = σ413.1 3 7 ∧ τ.1 3 11 = σ413.1 3 11 ∧ τ.1 3 6 = σ413.1 3 6 ∧ τ.1 9 9 = σ413.1 9 9 ∧ τ.1 9 10 = σ413.1 9 10 ∧ τ.1 6 5 = σ413.1 6 5 ∧ τ.1 7 4 = σ413.1 7 4 ∧ τ.1 2 4 = σ413.1 2 4 ∧ τ.1 2 5 = σ413.1 2 5 ∧ τ.1 2 6 = σ413.1 2 6 ∧ τ.1 3 8 = σ413.1 3 8 ∧ 0 ≤ y420.toInt) (fun (y419 : Int64) (y420 : Int32) (τ : St) => (2147483648 - y420.toInt).toNat) ?_ N v1 (0 : Int32) σ413 ⟨hσ413, rfl, rfl, rfl, rfl, rfl, rfl, rfl, rfl, rfl, rfl, rfl, by omega⟩ (by (try dsimp only); omega)
            intro rr434 y437 y438 σ436 hIσ436 ih435
            obtain ⟨hσ436, k439, k440, k441, k442, k443, k444, k445, k446, k447, k448, k449, i450⟩ := hIσ436
            unfold fX2_stepNumber_l100
            have f451 := tB y438
            refine ⟨fun c452 => ?_, fun c452 => ?_⟩
            · have f466 := Int32.le_iff_toInt_le.mp c452
              refine sX2_give hN hσ436 (fun σ467 hσ467 kk475 => ?_)
              obtain ⟨k468, k469, k470, k471, k472, k473, k474⟩ := kk475
              exact hQ _ hσ467 (⟨k468.trans (k442.trans ((kq (a := 9) (b := 9) eσ413 (by omega)))), k469.trans (k443.trans ((kq (a := 9) (b := 10) eσ413 (by omega)))), k470.trans (k444.trans ((kq (a := 6) (b := 5) eσ413 (by omega)))), k471.trans (k445.trans ((kq (a := 7) (b := 4) eσ413 (by omega)))), k472.trans (k446.trans ((kq (a := 2) (b := 4) eσ413 (by omega)))), k473.trans (k447.trans ((kq (a := 2) (b := 5) eσ413 (by omega)))), k474.trans (k448.trans ((kq (a := 2) (b := 6) eσ413 (by omega))))⟩)
            · have f489 := mt Int32.le_iff_toInt_le.mpr c452
              intro v490 ev490
              intro v491 ev491
              have f492 := tB v491
              have f495 := tA y438 (1 : Int32)
              have f496 := tB (y438 + 1)
              have f497 := congrArg Int32.toInt ev491
              exact ih435 v490 v491 σ436 ⟨hσ436, k439, k440, k441, k442, k443, k444, k445, k446, k447, k448, k449, by omega⟩ (by (try dsimp only); omega)
          · have f500 := mt Int32.toInt_inj.mp c415
            have f501 : (45 : Int32).toInt = 45 := by decide
            refine sX2_give hN hσ413 (fun σ502 hσ502 kk510 => ?_)
            obtain ⟨k503, k504, k505, k506, k507, k508, k509⟩ := kk510
            exact hQ _ hσ502 (⟨k503.trans ((kq (a := 9) (b := 9) eσ413 (by omega))), k504.trans ((kq (a := 9) (b := 10) eσ413 (by omega))), k505.trans ((kq (a := 6) (b := 5) eσ413 (by omega))), k506.trans ((kq (a := 7) (b := 4) eσ413 (by omega))), k507.trans ((kq (a := 2) (b := 4) eσ413 (by omega))), k508.trans ((kq (a := 2) (b := 5) eσ413 (by omega))), k509.trans ((kq (a := 2) (b := 6) eσ413 (by omega)))⟩)
        · have f513 := mt Int32.toInt_inj.mp c408
          unfold fX2_stepNumber_j72
          unfold fX2_stepNumber_j73
          intro v514 ev514
          intro σ515 eσ515
          have kb516 := jobK_b hk1
          have hσ515 : K1 σ0 σ515 := by rw [eσ515]; exact hσ.u (rg_jobK hk1) (by omega) (by omega)
          refine ⟨fun c517 => ?_, fun c517 => ?_⟩
          · have f520 := congrArg Int32.toInt c517
            refine lo2_i (fun (y521 : Int64) (y522 : Int32) (τ : St) => K1 σ0 τ ∧ τ.1 3 7 = σ515.1 3 7 ∧ τ.1 3 11 = σ515.1 3 11 ∧ τ.1 3 6 = σ515.1 3 6 ∧ τ.1 9 9 = σ515.1 9 9 ∧ τ.1 9 10 = σ515.1 9 10 ∧ τ.1 6 5 = σ515.1 6 5 ∧ τ.1 7 4 = σ515.1 7 4 ∧ τ.1 2 4 = σ515.1 2 4 ∧ τ.1 2 5 = σ515.1 2 5 ∧ τ.1 2 6 = σ515.1 2 6 ∧ τ.1 3 8 = σ515.1 3 8 ∧ 0 ≤ y522.toInt) (fun (y521 : Int64) (y522 : Int32) (τ : St) => (2147483648 - y522.toInt).toNat) ?_ N v1 (0 : Int32) σ515 ⟨hσ515, rfl, rfl, rfl, rfl, rfl, rfl, rfl, rfl, rfl, rfl, rfl, by omega⟩ (by (try dsimp only); omega)
            intro rr536 y539 y540 σ538 hIσ538 ih537
            obtain ⟨hσ538, k541, k542, k543, k544, k545, k546, k547, k548, k549, k550, k551, i552⟩ := hIσ538
            unfold fX2_stepNumber_l100
            have f553 := tB y540
            refine ⟨fun c554 => ?_, fun c554 => ?_⟩
            · have f568 := Int32.le_iff_toInt_le.mp c554
              refine sX2_give hN hσ538 (fun σ569 hσ569 kk577 => ?_)
              obtain ⟨k570, k571, k572, k573, k574, k575, k576⟩ := kk577
              exact hQ _ hσ569 (⟨k570.trans (k544.trans ((kq (a := 9) (b := 9) eσ515 (by omega)))), k571.trans (k545.trans ((kq (a := 9) (b := 10) eσ515 (by omega)))), k572.trans (k546.trans ((kq (a := 6) (b := 5) eσ515 (by omega)))), k573.trans (k547.trans ((kq (a := 7) (b := 4) eσ515 (by omega)))), k574.trans (k548.trans ((kq (a := 2) (b := 4) eσ515 (by omega)))), k575.trans (k549.trans ((kq (a := 2) (b := 5) eσ515 (by omega)))), k576.trans (k550.trans ((kq (a := 2) (b := 6) eσ515 (by omega))))⟩)
            · have f591 := mt Int32.le_iff_toInt_le.mpr c554
              intro v592 ev592
              intro v593 ev593
              have f594 := tB v593
              have f597 := tA y540 (1 : Int32)
              have f598 := tB (y540 + 1)
              have f599 := congrArg Int32.toInt ev593
              exact ih537 v592 v593 σ538 ⟨hσ538, k541, k542, k543, k544, k545, k546, k547, k548, k549, k550, k551, by omega⟩ (by (try dsimp only); omega)
          · have f602 := mt Int32.toInt_inj.mp c517
            have f603 : (45 : Int32).toInt = 45 := by decide
            refine sX2_give hN hσ515 (fun σ604 hσ604 kk612 => ?_)
            obtain ⟨k605, k606, k607, k608, k609, k610, k611⟩ := kk612
            exact hQ _ hσ604 (⟨k605.trans ((kq (a := 9) (b := 9) eσ515 (by omega))), k606.trans ((kq (a := 9) (b := 10) eσ515 (by omega))), k607.trans ((kq (a := 6) (b := 5) eσ515 (by omega))), k608.trans ((kq (a := 7) (b := 4) eσ515 (by omega))), k609.trans ((kq (a := 2) (b := 4) eσ515 (by omega))), k610.trans ((kq (a := 2) (b := 5) eσ515 (by omega))), k611.trans ((kq (a := 2) (b := 6) eσ515 (by omega)))⟩)
      · have f615 := mt Int32.toInt_inj.mp c404
        unfold fX2_stepNumber_j72
        unfold fX2_stepNumber_j73
        intro v616 ev616
        intro σ617 eσ617
        have kb618 := jobK_b hk1
        have hσ617 : K1 σ0 σ617 := by rw [eσ617]; exact hσ.u (rg_jobK hk1) (by omega) (by omega)
        refine ⟨fun c619 => ?_, fun c619 => ?_⟩
        · have f622 := congrArg Int32.toInt c619
          refine lo2_i (fun (y623 : Int64) (y624 : Int32) (τ : St) => K1 σ0 τ ∧ τ.1 3 7 = σ617.1 3 7 ∧ τ.1 3 11 = σ617.1 3 11 ∧ τ.1 3 6 = σ617.1 3 6 ∧ τ.1 9 9 = σ617.1 9 9 ∧ τ.1 9 10 = σ617.1 9 10 ∧ τ.1 6 5 = σ617.1 6 5 ∧ τ.1 7 4 = σ617.1 7 4 ∧ τ.1 2 4 = σ617.1 2 4 ∧ τ.1 2 5 = σ617.1 2 5 ∧ τ.1 2 6 = σ617.1 2 6 ∧ τ.1 3 8 = σ617.1 3 8 ∧ 0 ≤ y624.toInt) (fun (y623 : Int64) (y624 : Int32) (τ : St) => (2147483648 - y624.toInt).toNat) ?_ N v1 (0 : Int32) σ617 ⟨hσ617, rfl, rfl, rfl, rfl, rfl, rfl, rfl, rfl, rfl, rfl, rfl, by omega⟩ (by (try dsimp only); omega)
          intro rr638 y641 y642 σ640 hIσ640 ih639
          obtain ⟨hσ640, k643, k644, k645, k646, k647, k648, k649, k650, k651, k652, k653, i654⟩ := hIσ640
          unfold fX2_stepNumber_l100
          have f655 := tB y642
          refine ⟨fun c656 => ?_, fun c656 => ?_⟩
          · have f670 := Int32.le_iff_toInt_le.mp c656
            refine sX2_give hN hσ640 (fun σ671 hσ671 kk679 => ?_)
            obtain ⟨k672, k673, k674, k675, k676, k677, k678⟩ := kk679
            exact hQ _ hσ671 (⟨k672.trans (k646.trans ((kq (a := 9) (b := 9) eσ617 (by omega)))), k673.trans (k647.trans ((kq (a := 9) (b := 10) eσ617 (by omega)))), k674.trans (k648.trans ((kq (a := 6) (b := 5) eσ617 (by omega)))), k675.trans (k649.trans ((kq (a := 7) (b := 4) eσ617 (by omega)))), k676.trans (k650.trans ((kq (a := 2) (b := 4) eσ617 (by omega)))), k677.trans (k651.trans ((kq (a := 2) (b := 5) eσ617 (by omega)))), k678.trans (k652.trans ((kq (a := 2) (b := 6) eσ617 (by omega))))⟩)
          · have f693 := mt Int32.le_iff_toInt_le.mpr c656
            intro v694 ev694
            intro v695 ev695
            have f696 := tB v695
            have f699 := tA y642 (1 : Int32)
            have f700 := tB (y642 + 1)
            have f701 := congrArg Int32.toInt ev695
            exact ih639 v694 v695 σ640 ⟨hσ640, k643, k644, k645, k646, k647, k648, k649, k650, k651, k652, k653, by omega⟩ (by (try dsimp only); omega)
        · have f704 := mt Int32.toInt_inj.mp c619
          have f705 : (45 : Int32).toInt = 45 := by decide
          refine sX2_give hN hσ617 (fun σ706 hσ706 kk714 => ?_)
          obtain ⟨k707, k708, k709, k710, k711, k712, k713⟩ := kk714
          exact hQ _ hσ706 (⟨k707.trans ((kq (a := 9) (b := 9) eσ617 (by omega))), k708.trans ((kq (a := 9) (b := 10) eσ617 (by omega))), k709.trans ((kq (a := 6) (b := 5) eσ617 (by omega))), k710.trans ((kq (a := 7) (b := 4) eσ617 (by omega))), k711.trans ((kq (a := 2) (b := 4) eσ617 (by omega))), k712.trans ((kq (a := 2) (b := 5) eσ617 (by omega))), k713.trans ((kq (a := 2) (b := 6) eσ617 (by omega)))⟩)
    · have f716 := tB v388
      have f717 : (1 : Int32).toInt = 1 := by decide
      have f718 := tB r386
      have f719 := tA (1 : Int32) r386
      have f720 := tB (1 + r386)
      have f722 := tS (1 + r386) (1 : Int32)
      have f723 := tB ((1 + r386) - 1)
      have f724 := tB (σ.1 k1 3)
      have f725 := tS ((1 + r386) - 1) (σ.1 k1 3)
      have f726 := tB (((1 + r386) - 1) - (σ.1 k1 3))
      have f727 := congrArg Int32.toInt ev388
      have f728 := mt Int32.le_iff_toInt_le.mpr c389
      intro v729 ev729
      intro σ730 eσ730
      have f731 := tB v729
      have f732 := K1.g_3_7 hσ
      have f734 := tS (σ.1 3 7) (1 : Int32)
      have f735 := tB ((σ.1 3 7) - 1)
      have f736 := congrArg Int32.toInt ev729
      have hσ730 : K1 σ0 σ730 := by rw [eσ730]; exact hσ.u (Rg1.r_3_7 (by omega) (by omega)) (by omega) (by omega)
      exact hQ _ hσ730 (⟨(kq (a := 9) (b := 9) eσ730 (by omega)), (kq (a := 9) (b := 10) eσ730 (by omega)), (kq (a := 6) (b := 5) eσ730 (by omega)), (kq (a := 7) (b := 4) eσ730 (by omega)), (kq (a := 2) (b := 4) eσ730 (by omega)), (kq (a := 2) (b := 5) eσ730 (by omega)), (kq (a := 2) (b := 6) eσ730 (by omega))⟩)
set_option maxHeartbeats 4000000 in
theorem sX2_endInFault {N : Nat} (hN : 4294967400 ≤ N) {Q : Int32 → St → Prop} {σ0 σ : St} (hσ : K1 σ0 σ) (hQ : ∀ (r : Int32) (τ : St), K1 σ0 τ → (τ.1 3 6 = σ.1 3 6 ∧ τ.1 9 9 = σ.1 9 9 ∧ τ.1 9 10 = σ.1 9 10 ∧ τ.1 6 5 = σ.1 6 5 ∧ τ.1 7 4 = σ.1 7 4 ∧ τ.1 2 4 = σ.1 2 4 ∧ τ.1 2 5 = σ.1 2 5 ∧ τ.1 2 6 = σ.1 2 6 ∧ τ.1 3 8 = σ.1 3 8) → True → Q r τ) : fX2_endInFault N  Q σ := by
  unfold fX2_endInFault
  intro v1 ev1
  intro σ2 eσ2
  have hσ2 : K1 σ0 σ2 := by rw [eσ2]; exact hσ.u (Rg1.u_3_11 _) (by omega) (by omega)
  intro σ3 eσ3
  have f4 : (0 : Int32).toInt = 0 := by decide
  have hσ3 : K1 σ0 σ3 := by rw [eσ3]; exact hσ2.u (Rg1.r_3_7 (by omega) (by omega)) (by omega) (by omega)
  intro v5 ev5
  intro σ6 eσ6
  have hσ6 : K1 σ0 σ6 := by rw [eσ6]; exact hσ3.u (Rg1.u_5_4 _) (by omega) (by omega)
  intro σ7 eσ7
  have hσ7 : K1 σ0 σ7 := by rw [eσ7]; exact hσ6.u (Rg1.u_5_5 _) (by omega) (by omega)
  exact hQ _ _ hσ7 (⟨(kq (a := 3) (b := 6) eσ7 (by omega)).trans ((kq (a := 3) (b := 6) eσ6 (by omega)).trans ((kq (a := 3) (b := 6) eσ3 (by omega)).trans ((kq (a := 3) (b := 6) eσ2 (by omega))))), (kq (a := 9) (b := 9) eσ7 (by omega)).trans ((kq (a := 9) (b := 9) eσ6 (by omega)).trans ((kq (a := 9) (b := 9) eσ3 (by omega)).trans ((kq (a := 9) (b := 9) eσ2 (by omega))))), (kq (a := 9) (b := 10) eσ7 (by omega)).trans ((kq (a := 9) (b := 10) eσ6 (by omega)).trans ((kq (a := 9) (b := 10) eσ3 (by omega)).trans ((kq (a := 9) (b := 10) eσ2 (by omega))))), (kq (a := 6) (b := 5) eσ7 (by omega)).trans ((kq (a := 6) (b := 5) eσ6 (by omega)).trans ((kq (a := 6) (b := 5) eσ3 (by omega)).trans ((kq (a := 6) (b := 5) eσ2 (by omega))))), (kq (a := 7) (b := 4) eσ7 (by omega)).trans ((kq (a := 7) (b := 4) eσ6 (by omega)).trans ((kq (a := 7) (b := 4) eσ3 (by omega)).trans ((kq (a := 7) (b := 4) eσ2 (by omega))))), (kq (a := 2) (b := 4) eσ7 (by omega)).trans ((kq (a := 2) (b := 4) eσ6 (by omega)).trans ((kq (a := 2) (b := 4) eσ3 (by omega)).trans ((kq (a := 2) (b := 4) eσ2 (by omega))))), (kq (a := 2) (b := 5) eσ7 (by omega)).trans ((kq (a := 2) (b := 5) eσ6 (by omega)).trans ((kq (a := 2) (b := 5) eσ3 (by omega)).trans ((kq (a := 2) (b := 5) eσ2 (by omega))))), (kq (a := 2) (b := 6) eσ7 (by omega)).trans ((kq (a := 2) (b := 6) eσ6 (by omega)).trans ((kq (a := 2) (b := 6) eσ3 (by omega)).trans ((kq (a := 2) (b := 6) eσ2 (by omega))))), (kq (a := 3) (b := 8) eσ7 (by omega)).trans ((kq (a := 3) (b := 8) eσ6 (by omega)).trans ((kq (a := 3) (b := 8) eσ3 (by omega)).trans ((kq (a := 3) (b := 8) eσ2 (by omega)))))⟩) trivial
set_option maxHeartbeats 4000000 in
theorem sX2_run {N : Nat} (hN : 4294967400 ≤ N) {x1 : Int32} {Q : Int32 → St → Prop} {σ0 σ : St} (hσ : K1 σ0 σ) (hQ : ∀ (r : Int32) (τ : St), K1 σ0 τ → (τ.1 9 9 = σ.1 9 9 ∧ τ.1 9 10 = σ.1 9 10 ∧ τ.1 6 5 = σ.1 6 5 ∧ τ.1 7 4 = σ.1 7 4 ∧ τ.1 2 4 = σ.1 2 4) → True → Q r τ) : fX2_run N x1 Q σ := by
  unfold fX2_run
  intro v1 ev1
  have f3 := tB x1
  have f4 := tB v1
  have f5 := tB (σ.1 5 1)
  have f6 := congrArg Int32.toInt ev1
  have f7 : (0 : Int32).toInt = 0 := by decide
  refine lo1_i (fun (y2 : Int32) (τ : St) => K1 σ0 τ ∧ τ.1 9 9 = σ.1 9 9 ∧ τ.1 9 10 = σ.1 9 10 ∧ τ.1 6 5 = σ.1 6 5 ∧ τ.1 7 4 = σ.1 7 4 ∧ τ.1 2 4 = σ.1 2 4 ∧ 0 ≤ y2.toInt) (fun (y2 : Int32) (τ : St) => (2147483648 - y2.toInt).toNat) ?_ N (0 : Int32) σ ⟨hσ, rfl, rfl, rfl, rfl, rfl, by omega⟩ (by (try dsimp only); omega)
  intro rr8 y11 σ10 hIσ10 ih9
  obtain ⟨hσ10, k12, k13, k14, k15, k16, i17⟩ := hIσ10
  unfold fX2_run_l10
  have f18 := tB y11
  refine ⟨fun c19 => ?_, fun c19 => ?_⟩
  · have f22 := Int32.le_iff_toInt_le.mp c19
    unfold fX2_run_j140
    refine ⟨fun c23 => ?_, fun c23 => ?_⟩
    · have f24 := tB (σ10.1 3 11)
      have f26 := congrArg Int32.toInt c23
      refine ⟨fun c27 => ?_, fun c27 => ?_⟩
      · have f28 := K1.g_3_7 hσ10
        have f30 := Int32.le_iff_toInt_le.mp c27
        exact hQ _ _ hσ10 (⟨k12, k13, k14, k15, k16⟩) trivial
      · have f31 := K1.g_3_7 hσ10
        have f33 := mt Int32.le_iff_toInt_le.mpr c27
        exact hQ _ _ hσ10 (⟨k12, k13, k14, k15, k16⟩) trivial
    · have f34 := tB (σ10.1 3 11)
      have f36 := mt Int32.toInt_inj.mp c23
      refine sX2_endInFault hN hσ10 (fun r48 σ37 hσ37 kk47 p49 => ?_)
      obtain ⟨k38, k39, k40, k41, k42, k43, k44, k45, k46⟩ := kk47
      exact hQ _ _ hσ37 (⟨k39.trans (k12), k40.trans (k13), k41.trans (k14), k42.trans (k15), k43.trans (k16)⟩) trivial
  · have f52 := mt Int32.le_iff_toInt_le.mpr c19
    refine ⟨fun c53 => ?_, fun c53 => ?_⟩
    · have f54 := K1.g_3_7 hσ10
      have f56 := Int32.le_iff_toInt_le.mp c53
      unfold fX2_run_j140
      refine ⟨fun c57 => ?_, fun c57 => ?_⟩
      · have f58 := tB (σ10.1 3 11)
        have f60 := congrArg Int32.toInt c57
        refine ⟨fun c61 => ?_, fun c61 => ?_⟩
        · have f64 := Int32.le_iff_toInt_le.mp c61
          exact hQ _ _ hσ10 (⟨k12, k13, k14, k15, k16⟩) trivial
        · have f67 := mt Int32.le_iff_toInt_le.mpr c61
          exact hQ _ _ hσ10 (⟨k12, k13, k14, k15, k16⟩) trivial
      · have f68 := tB (σ10.1 3 11)
        have f70 := mt Int32.toInt_inj.mp c57
        refine sX2_endInFault hN hσ10 (fun r82 σ71 hσ71 kk81 p83 => ?_)
        obtain ⟨k72, k73, k74, k75, k76, k77, k78, k79, k80⟩ := kk81
        exact hQ _ _ hσ71 (⟨k73.trans (k12), k74.trans (k13), k75.trans (k14), k76.trans (k15), k77.trans (k16)⟩) trivial
    · have f84 := K1.g_3_7 hσ10
      have f86 := mt Int32.le_iff_toInt_le.mpr c53
      refine ⟨fun c87 => ?_, fun c87 => ?_⟩
      · have f88 := tB (σ10.1 3 11)
        have f90 := congrArg Int32.toInt c87
        intro v91 ev91
        intro σ92 eσ92
        have hσ92 : K1 σ0 σ92 := by rw [eσ92]; exact hσ10.u (Rg1.u_5_0 _) (by omega) (by omega)
        have f93 := K1.g_3_7 hσ92
        have q94 : σ92.1 3 7 = σ10.1 3 7 := by rw [eσ92]; exact congrFun (u1_ne (by decide)) 7
        have f95 := congrArg Int32.toInt q94
        have f97 : (1 : Int32).toInt = 1 := by decide
        have f98 := tS (σ92.1 3 7) (1 : Int32)
        have f99 := tB ((σ92.1 3 7) - 1)
        have g100 : vp_in ((σ92.1 3 7) - 1) 40 := inI (by omega) (by omega)
        refine ⟨g100, ?_⟩
        have hk101 : jobK (43 + ((σ92.1 3 7) - 1).toNatClampNeg) := (jobK_in g100)
        have hk101x := vp_lt g100
        have hk101b := jobK_b hk101
        intro v102 ev102
        refine ⟨fun c103 => ?_, fun c103 => ?_⟩
        · have f104 := tB v102
          have f105 := tB (σ92.1 (43 + ((σ92.1 3 7) - 1).toNatClampNeg) 1)
          have q106 : σ92.1 (43 + ((σ92.1 3 7) - 1).toNatClampNeg) 1 = σ10.1 (43 + ((σ92.1 3 7) - 1).toNatClampNeg) 1 := by rw [eσ92]; exact congrFun (u1_ne (by omega)) 1
          have f107 := congrArg Int32.toInt q106
          have f108 := tB (σ10.1 (43 + ((σ92.1 3 7) - 1).toNatClampNeg) 1)
          have f109 := congrArg Int32.toInt ev102
          have f111 := congrArg Int32.toInt c103
          refine sX2_doOrder hN hk101 (by omega) hσ92 (fun σ112 hσ112 kk119 => ?_)
          obtain ⟨k114, k115, k116, k117, k118⟩ := kk119
          unfold fX2_run_j134
          intro v120 ev120
          have f121 := tB v120
          have f124 := tA y11 (1 : Int32)
          have f125 := tB (y11 + 1)
          have f126 := congrArg Int32.toInt ev120
          exact ih9 v120 σ112 ⟨hσ112, k114.trans ((kq (a := 9) (b := 9) eσ92 (by omega)).trans (k12)), k115.trans ((kq (a := 9) (b := 10) eσ92 (by omega)).trans (k13)), k116.trans ((kq (a := 6) (b := 5) eσ92 (by omega)).trans (k14)), k117.trans ((kq (a := 7) (b := 4) eσ92 (by omega)).trans (k15)), k118.trans ((kq (a := 2) (b := 4) eσ92 (by omega)).trans (k16)), by omega⟩ (by (try dsimp only); omega)
        · have f127 := tB v102
          have f128 := tB (σ92.1 (43 + ((σ92.1 3 7) - 1).toNatClampNeg) 1)
          have q129 : σ92.1 (43 + ((σ92.1 3 7) - 1).toNatClampNeg) 1 = σ10.1 (43 + ((σ92.1 3 7) - 1).toNatClampNeg) 1 := by rw [eσ92]; exact congrFun (u1_ne (by omega)) 1
          have f130 := congrArg Int32.toInt q129
          have f131 := tB (σ10.1 (43 + ((σ92.1 3 7) - 1).toNatClampNeg) 1)
          have f132 := congrArg Int32.toInt ev102
          have f134 := mt Int32.toInt_inj.mp c103
          refine ⟨fun c135 => ?_, fun c135 => ?_⟩
          · have f140 := congrArg Int32.toInt c135
            refine sX2_stepPlain hN hk101 (by omega) hσ92 (fun σ141 hσ141 kk150 => ?_)
            obtain ⟨k143, k144, k145, k146, k147, k148, k149⟩ := kk150
            unfold fX2_run_j134
            intro v151 ev151
            have f152 := tB v151
            have f155 := tA y11 (1 : Int32)
            have f156 := tB (y11 + 1)
            have f157 := congrArg Int32.toInt ev151
            exact ih9 v151 σ141 ⟨hσ141, k143.trans ((kq (a := 9) (b := 9) eσ92 (by omega)).trans (k12)), k144.trans ((kq (a := 9) (b := 10) eσ92 (by omega)).trans (k13)), k145.trans ((kq (a := 6) (b := 5) eσ92 (by omega)).trans (k14)), k146.trans ((kq (a := 7) (b := 4) eσ92 (by omega)).trans (k15)), k147.trans ((kq (a := 2) (b := 4) eσ92 (by omega)).trans (k16)), by omega⟩ (by (try dsimp only); omega)
          · have f162 := mt Int32.toInt_inj.mp c135
            refine ⟨fun c163 => ?_, fun c163 => ?_⟩
            · have f167 : (2 : Int32).toInt = 2 := by decide
              have f168 := congrArg Int32.toInt c163
              refine sX2_stepWide hN hk101 (by omega) hσ92 (fun σ169 hσ169 kk178 => ?_)
              obtain ⟨k171, k172, k173, k174, k175, k176, k177⟩ := kk178
              unfold fX2_run_j134
              intro v179 ev179
              have f180 := tB v179
              have f183 := tA y11 (1 : Int32)
              have f184 := tB (y11 + 1)
              have f185 := congrArg Int32.toInt ev179
              exact ih9 v179 σ169 ⟨hσ169, k171.trans ((kq (a := 9) (b := 9) eσ92 (by omega)).trans (k12)), k172.trans ((kq (a := 9) (b := 10) eσ92 (by omega)).trans (k13)), k173.trans ((kq (a := 6) (b := 5) eσ92 (by omega)).trans (k14)), k174.trans ((kq (a := 7) (b := 4) eσ92 (by omega)).trans (k15)), k175.trans ((kq (a := 2) (b := 4) eσ92 (by omega)).trans (k16)), by omega⟩ (by (try dsimp only); omega)
            · have f189 : (2 : Int32).toInt = 2 := by decide
              have f190 := mt Int32.toInt_inj.mp c163
              refine ⟨fun c191 => ?_, fun c191 => ?_⟩
              · have f195 : (3 : Int32).toInt = 3 := by decide
                have f196 := congrArg Int32.toInt c191
                refine sX2_stepPacked hN hk101 (by omega) hσ92 (fun σ197 hσ197 kk206 => ?_)
                obtain ⟨k199, k200, k201, k202, k203, k204, k205⟩ := kk206
                unfold fX2_run_j134
                intro v207 ev207
                have f208 := tB v207
                have f211 := tA y11 (1 : Int32)
                have f212 := tB (y11 + 1)
                have f213 := congrArg Int32.toInt ev207
                exact ih9 v207 σ197 ⟨hσ197, k199.trans ((kq (a := 9) (b := 9) eσ92 (by omega)).trans (k12)), k200.trans ((kq (a := 9) (b := 10) eσ92 (by omega)).trans (k13)), k201.trans ((kq (a := 6) (b := 5) eσ92 (by omega)).trans (k14)), k202.trans ((kq (a := 7) (b := 4) eσ92 (by omega)).trans (k15)), k203.trans ((kq (a := 2) (b := 4) eσ92 (by omega)).trans (k16)), by omega⟩ (by (try dsimp only); omega)
              · have f217 : (3 : Int32).toInt = 3 := by decide
                have f218 := mt Int32.toInt_inj.mp c191
                refine sX2_stepNumber hN hk101 (by omega) hσ92 (fun σ219 hσ219 kk228 => ?_)
                obtain ⟨k221, k222, k223, k224, k225, k226, k227⟩ := kk228
                unfold fX2_run_j134
                intro v229 ev229
                have f230 := tB v229
                have f233 := tA y11 (1 : Int32)
                have f234 := tB (y11 + 1)
                have f235 := congrArg Int32.toInt ev229
                exact ih9 v229 σ219 ⟨hσ219, k221.trans ((kq (a := 9) (b := 9) eσ92 (by omega)).trans (k12)), k222.trans ((kq (a := 9) (b := 10) eσ92 (by omega)).trans (k13)), k223.trans ((kq (a := 6) (b := 5) eσ92 (by omega)).trans (k14)), k224.trans ((kq (a := 7) (b := 4) eσ92 (by omega)).trans (k15)), k225.trans ((kq (a := 2) (b := 4) eσ92 (by omega)).trans (k16)), by omega⟩ (by (try dsimp only); omega)
      · have f236 := tB (σ10.1 3 11)
        have f238 := mt Int32.toInt_inj.mp c87
        unfold fX2_run_j140
        refine ⟨fun c239 => ?_, fun c239 => ?_⟩
        · have f242 := congrArg Int32.toInt c239
          refine ⟨fun c243 => ?_, fun c243 => ?_⟩
          · have f246 := Int32.le_iff_toInt_le.mp c243
            exact hQ _ _ hσ10 (⟨k12, k13, k14, k15, k16⟩) trivial
          · have f249 := mt Int32.le_iff_toInt_le.mpr c243
            exact hQ _ _ hσ10 (⟨k12, k13, k14, k15, k16⟩) trivial
        · have f252 := mt Int32.toInt_inj.mp c239
          refine sX2_endInFault hN hσ10 (fun r264 σ253 hσ253 kk263 p265 => ?_)
          obtain ⟨k254, k255, k256, k257, k258, k259, k260, k261, k262⟩ := kk263
          exact hQ _ _ hσ253 (⟨k255.trans (k12), k256.trans (k13), k257.trans (k14), k258.trans (k15), k259.trans (k16)⟩) trivial
set_option maxHeartbeats 4000000 in
theorem sX11_print {N : Nat} (hN : 4294967400 ≤ N) {x1 : Int32} {x2 : Int32} {Q : Int32 → St → Prop} {σ0 σ : St} (hσ : K1 σ0 σ) (hQ : ∀ (r : Int32) (τ : St), K1 σ0 τ → (τ.1 9 9 = σ.1 9 9 ∧ τ.1 9 10 = σ.1 9 10 ∧ τ.1 6 5 = σ.1 6 5 ∧ τ.1 7 4 = σ.1 7 4 ∧ τ.1 2 4 = σ.1 2 4) → True → Q r τ) : fX11_print N x1 x2 Q σ := by
  unfold fX11_print
  unfold fX11_isStepCount
  refine ⟨fun c1 => ?_, fun c1 => ?_⟩
  · have f2 := tB x2
    have f3 : (0 : Int32).toInt = 0 := by decide
    have f4 := Int32.lt_iff_toInt_lt.mp c1
    try dsimp only
    refine ⟨fun c5 => ?_, fun c5 => ?_⟩
    · have f8 := congrArg Int32.toInt c5
      exact hQ _ _ hσ (⟨rfl, rfl, rfl, rfl, rfl⟩) trivial
    · have f11 := mt Int32.toInt_inj.mp c5
      refine ⟨fun c12 => ?_, fun c12 => ?_⟩
      · have f13 := K1.g_3_7 hσ
        have f15 := Int32.le_iff_toInt_le.mp c12
        have f16 := tB x1
        refine sX2_beginString hN hσ (fun σ17 hσ17 kk27 => ?_)
        obtain ⟨k18, k19, k20, k21, k22, k23, k24, k25, k26⟩ := kk27
        refine sX2_run hN hσ17 (fun r36 σ29 hσ29 kk35 p37 => ?_)
        obtain ⟨k30, k31, k32, k33, k34⟩ := kk35
        exact hQ _ _ hσ29 (⟨k30.trans (k19), k31.trans (k20), k32.trans (k21), k33.trans (k22), k34.trans (k23)⟩) trivial
      · have f38 := K1.g_3_7 hσ
        have f40 := mt Int32.le_iff_toInt_le.mpr c12
        exact hQ _ _ hσ (⟨rfl, rfl, rfl, rfl, rfl⟩) trivial
  · have f41 := tB x2
    have f42 : (0 : Int32).toInt = 0 := by decide
    have f43 := mt Int32.lt_iff_toInt_lt.mpr c1
    refine ⟨fun c44 => ?_, fun c44 => ?_⟩
    · have f45 : (100000 : Int32).toInt = 100000 := by decide
      have f47 := Int32.lt_iff_toInt_lt.mp c44
      try dsimp only
      refine ⟨fun c48 => ?_, fun c48 => ?_⟩
      · have f51 := congrArg Int32.toInt c48
        exact hQ _ _ hσ (⟨rfl, rfl, rfl, rfl, rfl⟩) trivial
      · have f54 := mt Int32.toInt_inj.mp c48
        refine ⟨fun c55 => ?_, fun c55 => ?_⟩
        · have f56 := K1.g_3_7 hσ
          have f58 := Int32.le_iff_toInt_le.mp c55
          have f59 := tB x1
          refine sX2_beginString hN hσ (fun σ60 hσ60 kk70 => ?_)
          obtain ⟨k61, k62, k63, k64, k65, k66, k67, k68, k69⟩ := kk70
          refine sX2_run hN hσ60 (fun r79 σ72 hσ72 kk78 p80 => ?_)
          obtain ⟨k73, k74, k75, k76, k77⟩ := kk78
          exact hQ _ _ hσ72 (⟨k73.trans (k62), k74.trans (k63), k75.trans (k64), k76.trans (k65), k77.trans (k66)⟩) trivial
        · have f81 := K1.g_3_7 hσ
          have f83 := mt Int32.le_iff_toInt_le.mpr c55
          exact hQ _ _ hσ (⟨rfl, rfl, rfl, rfl, rfl⟩) trivial
    · have f84 : (100000 : Int32).toInt = 100000 := by decide
      have f86 := mt Int32.lt_iff_toInt_lt.mpr c44
      try dsimp only
      refine ⟨fun c87 => ?_, fun c87 => ?_⟩
      · have f88 : (1 : Int32).toInt = 1 := by decide
        have f90 := congrArg Int32.toInt c87
        exact hQ _ _ hσ (⟨rfl, rfl, rfl, rfl, rfl⟩) trivial
      · have f91 : (1 : Int32).toInt = 1 := by decide
        have f93 := mt Int32.toInt_inj.mp c87
        refine ⟨fun c94 => ?_, fun c94 => ?_⟩
        · have f95 := K1.g_3_7 hσ
          have f97 := Int32.le_iff_toInt_le.mp c94
          have f98 := tB x1
          refine sX2_beginString hN hσ (fun σ99 hσ99 kk109 => ?_)
          obtain ⟨k100, k101, k102, k103, k104, k105, k106, k107, k108⟩ := kk109
          refine sX2_run hN hσ99 (fun r118 σ111 hσ111 kk117 p119 => ?_)
          obtain ⟨k112, k113, k114, k115, k116⟩ := kk117
          exact hQ _ _ hσ111 (⟨k112.trans (k101), k113.trans (k102), k114.trans (k103), k115.trans (k104), k116.trans (k105)⟩) trivial
        · have f120 := K1.g_3_7 hσ
          have f122 := mt Int32.le_iff_toInt_le.mpr c94
          exact hQ _ _ hσ (⟨rfl, rfl, rfl, rfl, rfl⟩) trivial
set_option maxHeartbeats 4000000 in
theorem sX11_number {N : Nat} (hN : 4294967400 ≤ N) {x1 : Int32} {x2 : Int32} {Q : Int32 → St → Prop} {σ0 σ : St} (hσ : K1 σ0 σ) (hQ : ∀ (r : Int32) (τ : St), K1 σ0 τ → (τ.1 9 9 = σ.1 9 9 ∧ τ.1 9 10 = σ.1 9 10 ∧ τ.1 6 5 = σ.1 6 5 ∧ τ.1 7 4 = σ.1 7 4 ∧ τ.1 2 4 = σ.1 2 4) → True → Q r τ) : fX11_number N x1 x2 Q σ := by
  unfold fX11_number
  unfold fX11_isStepCount
  refine ⟨fun c1 => ?_, fun c1 => ?_⟩
  · have f2 := tB x2
    have f3 : (0 : Int32).toInt = 0 := by decide
    have f4 := Int32.lt_iff_toInt_lt.mp c1
    try dsimp only
    refine ⟨fun c5 => ?_, fun c5 => ?_⟩
    · have f8 := congrArg Int32.toInt c5
      exact hQ _ _ hσ (⟨rfl, rfl, rfl, rfl, rfl⟩) trivial
    · have f11 := mt Int32.toInt_inj.mp c5
      refine ⟨fun c12 => ?_, fun c12 => ?_⟩
      · have f13 := K1.g_3_7 hσ
        have f15 := Int32.le_iff_toInt_le.mp c12
        have f16 : (4 : Int32).toInt = 4 := by decide
        have f17 := tB x1
        refine sX2_begin hN hσ (fun σ18 hσ18 kk28 => ?_)
        obtain ⟨k19, k20, k21, k22, k23, k24, k25, k26, k27⟩ := kk28
        refine sX2_run hN hσ18 (fun r37 σ30 hσ30 kk36 p38 => ?_)
        obtain ⟨k31, k32, k33, k34, k35⟩ := kk36
        exact hQ _ _ hσ30 (⟨k31.trans (k20), k32.trans (k21), k33.trans (k22), k34.trans (k23), k35.trans (k24)⟩) trivial
      · have f39 := K1.g_3_7 hσ
        have f41 := mt Int32.le_iff_toInt_le.mpr c12
        exact hQ _ _ hσ (⟨rfl, rfl, rfl, rfl, rfl⟩) trivial
  · have f42 := tB x2
    have f43 : (0 : Int32).toInt = 0 := by decide
    have f44 := mt Int32.lt_iff_toInt_lt.mpr c1
    refine ⟨fun c45 => ?_, fun c45 => ?_⟩
    · have f46 : (100000 : Int32).toInt = 100000 := by decide
      have f48 := Int32.lt_iff_toInt_lt.mp c45
      try dsimp only
      refine ⟨fun c49 => ?_, fun c49 => ?_⟩
      · have f52 := congrArg Int32.toInt c49
        exact hQ _ _ hσ (⟨rfl, rfl, rfl, rfl, rfl⟩) trivial
      · have f55 := mt Int32.toInt_inj.mp c49
        refine ⟨fun c56 => ?_, fun c56 => ?_⟩
        · have f57 := K1.g_3_7 hσ
          have f59 := Int32.le_iff_toInt_le.mp c56
          have f60 : (4 : Int32).toInt = 4 := by decide
          have f61 := tB x1
          refine sX2_begin hN hσ (fun σ62 hσ62 kk72 => ?_)
          obtain ⟨k63, k64, k65, k66, k67, k68, k69, k70, k71⟩ := kk72
          refine sX2_run hN hσ62 (fun r81 σ74 hσ74 kk80 p82 => ?_)
          obtain ⟨k75, k76, k77, k78, k79⟩ := kk80
          exact hQ _ _ hσ74 (⟨k75.trans (k64), k76.trans (k65), k77.trans (k66), k78.trans (k67), k79.trans (k68)⟩) trivial
        · have f83 := K1.g_3_7 hσ
          have f85 := mt Int32.le_iff_toInt_le.mpr c56
          exact hQ _ _ hσ (⟨rfl, rfl, rfl, rfl, rfl⟩) trivial
    · have f86 : (100000 : Int32).toInt = 100000 := by decide
      have f88 := mt Int32.lt_iff_toInt_lt.mpr c45
      try dsimp only
      refine ⟨fun c89 => ?_, fun c89 => ?_⟩
      · have f90 : (1 : Int32).toInt = 1 := by decide
        have f92 := congrArg Int32.toInt c89
        exact hQ _ _ hσ (⟨rfl, rfl, rfl, rfl, rfl⟩) trivial
      · have f93 : (1 : Int32).toInt = 1 := by decide
        have f95 := mt Int32.toInt_inj.mp c89
        refine ⟨fun c96 => ?_, fun c96 => ?_⟩
        · have f97 := K1.g_3_7 hσ
          have f99 := Int32.le_iff_toInt_le.mp c96
          have f100 : (4 : Int32).toInt = 4 := by decide
          have f101 := tB x1
          refine sX2_begin hN hσ (fun σ102 hσ102 kk112 => ?_)
          obtain ⟨k103, k104, k105, k106, k107, k108, k109, k110, k111⟩ := kk112
          refine sX2_run hN hσ102 (fun r121 σ114 hσ114 kk120 p122 => ?_)
          obtain ⟨k115, k116, k117, k118, k119⟩ := kk120
          exact hQ _ _ hσ114 (⟨k115.trans (k104), k116.trans (k105), k117.trans (k106), k118.trans (k107), k119.trans (k108)⟩) trivial
        · have f123 := K1.g_3_7 hσ
          have f125 := mt Int32.le_iff_toInt_le.mpr c96
          exact hQ _ _ hσ (⟨rfl, rfl, rfl, rfl, rfl⟩) trivial
set_option maxHeartbeats 4000000 in
theorem sX2_setArguments {N : Nat} (hN : 4294967400 ≤ N) {k1 : Nat} {x2 : Int32} (hk1 : r120 k1) {Q : St → Prop} {σ0 σ : St} (hσ : K1 σ0 σ) (hQ : ∀ τ : St, K1 σ0 τ → (τ.1 3 7 = σ.1 3 7 ∧ τ.1 3 11 = σ.1 3 11 ∧ τ.1 9 9 = σ.1 9 9 ∧ τ.1 9 10 = σ.1 9 10 ∧ τ.1 6 5 = σ.1 6 5 ∧ τ.1 7 4 = σ.1 7 4 ∧ τ.1 2 4 = σ.1 2 4 ∧ τ.1 2 5 = σ.1 2 5 ∧ τ.1 2 6 = σ.1 2 6 ∧ τ.1 3 8 = σ.1 3 8) → Q τ) : fX2_setArguments N k1 x2 Q σ := by
  unfold fX2_setArguments
  have kbhk1 := r120_b hk1
  intro σ1 eσ1
  have f2 : (0 : Int32).toInt = 0 := by decide
  have hσ1 : K1 σ0 σ1 := by rw [eσ1]; exact hσ.u (Rg1.r_3_6 (by omega) (by omega)) (by omega) (by omega)
  have f4 := tB x2
  have f6 := K1.g_3_6 hσ1
  have q7 : σ1.1 3 6 = 0 := by rw [eσ1, u1_at]; exact if_pos rfl
  have f8 := congrArg Int32.toInt q7
  refine lo1_i (fun (y3 : Int32) (τ : St) => K1 σ0 τ ∧ τ.1 3 7 = σ1.1 3 7 ∧ τ.1 3 11 = σ1.1 3 11 ∧ τ.1 9 9 = σ1.1 9 9 ∧ τ.1 9 10 = σ1.1 9 10 ∧ τ.1 6 5 = σ1.1 6 5 ∧ τ.1 7 4 = σ1.1 7 4 ∧ τ.1 2 4 = σ1.1 2 4 ∧ τ.1 2 5 = σ1.1 2 5 ∧ τ.1 2 6 = σ1.1 2 6 ∧ τ.1 3 8 = σ1.1 3 8 ∧ 0 ≤ y3.toInt ∧ (τ.1 3 6).toInt = y3.toInt) (fun (y3 : Int32) (τ : St) => (2147483648 - y3.toInt).toNat) ?_ N (0 : Int32) σ1 ⟨hσ1, rfl, rfl, rfl, rfl, rfl, rfl, rfl, rfl, rfl, rfl, by omega, by omega⟩ (by (try dsimp only); omega)
  intro rr10 y13 σ12 hIσ12 ih11
  obtain ⟨hσ12, k14, k15, k16, k17, k18, k19, k20, k21, k22, k23, i24, i25⟩ := hIσ12
  unfold fX2_setArguments_l7
  have f26 := tB y13
  refine ⟨fun c27 => ?_, fun c27 => ?_⟩
  · have f30 := Int32.le_iff_toInt_le.mp c27
    exact hQ _ hσ12 (⟨k14.trans ((kq (a := 3) (b := 7) eσ1 (by omega))), k15.trans ((kq (a := 3) (b := 11) eσ1 (by omega))), k16.trans ((kq (a := 9) (b := 9) eσ1 (by omega))), k17.trans ((kq (a := 9) (b := 10) eσ1 (by omega))), k18.trans ((kq (a := 6) (b := 5) eσ1 (by omega))), k19.trans ((kq (a := 7) (b := 4) eσ1 (by omega))), k20.trans ((kq (a := 2) (b := 4) eσ1 (by omega))), k21.trans ((kq (a := 2) (b := 5) eσ1 (by omega))), k22.trans ((kq (a := 2) (b := 6) eσ1 (by omega))), k23.trans ((kq (a := 3) (b := 8) eσ1 (by omega)))⟩)
  · have f33 := mt Int32.le_iff_toInt_le.mpr c27
    refine ⟨fun c34 => ?_, fun c34 => ?_⟩
    · have f35 : (120 : Int32).toInt = 120 := by decide
      have f37 := Int32.le_iff_toInt_le.mp c34
      exact hQ _ hσ12 (⟨k14.trans ((kq (a := 3) (b := 7) eσ1 (by omega))), k15.trans ((kq (a := 3) (b := 11) eσ1 (by omega))), k16.trans ((kq (a := 9) (b := 9) eσ1 (by omega))), k17.trans ((kq (a := 9) (b := 10) eσ1 (by omega))), k18.trans ((kq (a := 6) (b := 5) eσ1 (by omega))), k19.trans ((kq (a := 7) (b := 4) eσ1 (by omega))), k20.trans ((kq (a := 2) (b := 4) eσ1 (by omega))), k21.trans ((kq (a := 2) (b := 5) eσ1 (by omega))), k22.trans ((kq (a := 2) (b := 6) eσ1 (by omega))), k23.trans ((kq (a := 3) (b := 8) eσ1 (by omega)))⟩)
    · have f38 : (120 : Int32).toInt = 120 := by decide
      have f40 := mt Int32.le_iff_toInt_le.mpr c34
      refine ⟨fun c41 => ?_, fun c41 => ?_⟩
      · have f42 : (4 : Int32).toInt = 4 := by decide
        have f44 := Int32.le_iff_toInt_le.mp c41
        exact hQ _ hσ12 (⟨k14.trans ((kq (a := 3) (b := 7) eσ1 (by omega))), k15.trans ((kq (a := 3) (b := 11) eσ1 (by omega))), k16.trans ((kq (a := 9) (b := 9) eσ1 (by omega))), k17.trans ((kq (a := 9) (b := 10) eσ1 (by omega))), k18.trans ((kq (a := 6) (b := 5) eσ1 (by omega))), k19.trans ((kq (a := 7) (b := 4) eσ1 (by omega))), k20.trans ((kq (a := 2) (b := 4) eσ1 (by omega))), k21.trans ((kq (a := 2) (b := 5) eσ1 (by omega))), k22.trans ((kq (a := 2) (b := 6) eσ1 (by omega))), k23.trans ((kq (a := 3) (b := 8) eσ1 (by omega)))⟩)
      · have f45 : (4 : Int32).toInt = 4 := by decide
        have f47 := mt Int32.le_iff_toInt_le.mpr c41
        have g49 : vp_in y13 120 := inI (by omega) (by omega)
        refine ⟨g49, ?_⟩
        intro v50 ev50
        refine ⟨inI (by omega) (by omega), ?_⟩
        intro σ52 eσ52
        have hσ52 : K1 σ0 σ52 := by rw [eσ52]; exact hσ12.u (Rg1.ra_17 _ _) (by omega) (by omega)
        intro v53 ev53
        intro σ54 eσ54
        have f55 := tB v53
        have f56 := K1.g_3_6 hσ52
        have q57 : σ52.1 3 6 = σ12.1 3 6 := by rw [eσ52]; exact congrFun (u1_ne (by decide)) 6
        have f58 := congrArg Int32.toInt q57
        have f59 := K1.g_3_6 hσ12
        have f60 : (1 : Int32).toInt = 1 := by decide
        have f61 := tA (σ52.1 3 6) (1 : Int32)
        have f62 := tB ((σ52.1 3 6) + 1)
        have f63 := congrArg Int32.toInt ev53
        have hσ54 : K1 σ0 σ54 := by rw [eσ54]; exact hσ52.u (Rg1.r_3_6 (by omega) (by omega)) (by omega) (by omega)
        intro v64 ev64
        have f65 := tB v64
        have f68 := tA y13 (1 : Int32)
        have f69 := tB (y13 + 1)
        have f70 := congrArg Int32.toInt ev64
        have f71 := K1.g_3_6 hσ54
        have q72 : σ54.1 3 6 = v53 := by rw [eσ54, u1_at]; exact if_pos rfl
        have f73 := congrArg Int32.toInt q72
        exact ih11 v64 σ54 ⟨hσ54, (kq (a := 3) (b := 7) eσ54 (by omega)).trans ((kq (a := 3) (b := 7) eσ52 (by omega)).trans (k14)), (kq (a := 3) (b := 11) eσ54 (by omega)).trans ((kq (a := 3) (b := 11) eσ52 (by omega)).trans (k15)), (kq (a := 9) (b := 9) eσ54 (by omega)).trans ((kq (a := 9) (b := 9) eσ52 (by omega)).trans (k16)), (kq (a := 9) (b := 10) eσ54 (by omega)).trans ((kq (a := 9) (b := 10) eσ52 (by omega)).trans (k17)), (kq (a := 6) (b := 5) eσ54 (by omega)).trans ((kq (a := 6) (b := 5) eσ52 (by omega)).trans (k18)), (kq (a := 7) (b := 4) eσ54 (by omega)).trans ((kq (a := 7) (b := 4) eσ52 (by omega)).trans (k19)), (kq (a := 2) (b := 4) eσ54 (by omega)).trans ((kq (a := 2) (b := 4) eσ52 (by omega)).trans (k20)), (kq (a := 2) (b := 5) eσ54 (by omega)).trans ((kq (a := 2) (b := 5) eσ52 (by omega)).trans (k21)), (kq (a := 2) (b := 6) eσ54 (by omega)).trans ((kq (a := 2) (b := 6) eσ52 (by omega)).trans (k22)), (kq (a := 3) (b := 8) eσ54 (by omega)).trans ((kq (a := 3) (b := 8) eσ52 (by omega)).trans (k23)), by omega, by omega⟩ (by (try dsimp only); omega)
set_option maxHeartbeats 4000000 in
theorem sX11_call {N : Nat} (hN : 4294967400 ≤ N) {x1 : Int32} {x2 : Int32} {Q : Int32 → St → Prop} {σ0 σ : St} (hσ : K1 σ0 σ) (hQ : ∀ (r : Int32) (τ : St), K1 σ0 τ → (τ.1 9 9 = σ.1 9 9 ∧ τ.1 9 10 = σ.1 9 10 ∧ τ.1 6 5 = σ.1 6 5 ∧ τ.1 7 4 = σ.1 7 4 ∧ τ.1 2 4 = σ.1 2 4) → True → Q r τ) : fX11_call N x1 x2 Q σ := by
  unfold fX11_call
  unfold fX11_isStepCount
  refine ⟨fun c1 => ?_, fun c1 => ?_⟩
  · have f2 := tB x2
    have f3 : (0 : Int32).toInt = 0 := by decide
    have f4 := Int32.lt_iff_toInt_lt.mp c1
    try dsimp only
    refine ⟨fun c5 => ?_, fun c5 => ?_⟩
    · have f8 := congrArg Int32.toInt c5
      exact hQ _ _ hσ (⟨rfl, rfl, rfl, rfl, rfl⟩) trivial
    · have f11 := mt Int32.toInt_inj.mp c5
      refine ⟨fun c12 => ?_, fun c12 => ?_⟩
      · have f13 := K1.g_0_7 hσ
        have f14 : (4 : Int32).toInt = 4 := by decide
        have f15 := Int32.le_iff_toInt_le.mp c12
        refine ⟨fun c16 => ?_, fun c16 => ?_⟩
        · have f17 := K1.g_3_7 hσ
          have f19 := Int32.le_iff_toInt_le.mp c16
          refine sX2_setArguments hN r120_11 hσ (fun σ21 hσ21 kk32 => ?_)
          obtain ⟨k22, k23, k24, k25, k26, k27, k28, k29, k30, k31⟩ := kk32
          intro σ33 eσ33
          have hσ33 : K1 σ0 σ33 := by rw [eσ33]; exact hσ21.u (Rg1.r_0_7 (by omega) (by omega)) (by omega) (by omega)
          have f35 := tB x1
          have f36 : (255 : Int32).toInt = 255 := by decide
          refine sX2_callFunction hN hσ33 (fun σ37 hσ37 kk47 => ?_)
          obtain ⟨k38, k39, k40, k41, k42, k43, k44, k45, k46⟩ := kk47
          refine sX2_run hN hσ37 (fun r56 σ49 hσ49 kk55 p57 => ?_)
          obtain ⟨k50, k51, k52, k53, k54⟩ := kk55
          exact hQ _ _ hσ49 (⟨k50.trans (k39.trans ((kq (a := 9) (b := 9) eσ33 (by omega)).trans (k24))), k51.trans (k40.trans ((kq (a := 9) (b := 10) eσ33 (by omega)).trans (k25))), k52.trans (k41.trans ((kq (a := 6) (b := 5) eσ33 (by omega)).trans (k26))), k53.trans (k42.trans ((kq (a := 7) (b := 4) eσ33 (by omega)).trans (k27))), k54.trans (k43.trans ((kq (a := 2) (b := 4) eσ33 (by omega)).trans (k28)))⟩) trivial
        · have f58 := K1.g_3_7 hσ
          have f60 := mt Int32.le_iff_toInt_le.mpr c16
          exact hQ _ _ hσ (⟨rfl, rfl, rfl, rfl, rfl⟩) trivial
      · have f61 := K1.g_0_7 hσ
        have f62 : (4 : Int32).toInt = 4 := by decide
        have f63 := mt Int32.le_iff_toInt_le.mpr c12
        exact hQ _ _ hσ (⟨rfl, rfl, rfl, rfl, rfl⟩) trivial
  · have f64 := tB x2
    have f65 : (0 : Int32).toInt = 0 := by decide
    have f66 := mt Int32.lt_iff_toInt_lt.mpr c1
    refine ⟨fun c67 => ?_, fun c67 => ?_⟩
    · have f68 : (100000 : Int32).toInt = 100000 := by decide
      have f70 := Int32.lt_iff_toInt_lt.mp c67
      try dsimp only
      refine ⟨fun c71 => ?_, fun c71 => ?_⟩
      · have f74 := congrArg Int32.toInt c71
        exact hQ _ _ hσ (⟨rfl, rfl, rfl, rfl, rfl⟩) trivial
      · have f77 := mt Int32.toInt_inj.mp c71
        refine ⟨fun c78 => ?_, fun c78 => ?_⟩
        · have f79 := K1.g_0_7 hσ
          have f80 : (4 : Int32).toInt = 4 := by decide
          have f81 := Int32.le_iff_toInt_le.mp c78
          refine ⟨fun c82 => ?_, fun c82 => ?_⟩
          · have f83 := K1.g_3_7 hσ
            have f85 := Int32.le_iff_toInt_le.mp c82
            refine sX2_setArguments hN r120_11 hσ (fun σ87 hσ87 kk98 => ?_)
            obtain ⟨k88, k89, k90, k91, k92, k93, k94, k95, k96, k97⟩ := kk98
            intro σ99 eσ99
            have hσ99 : K1 σ0 σ99 := by rw [eσ99]; exact hσ87.u (Rg1.r_0_7 (by omega) (by omega)) (by omega) (by omega)
            have f101 := tB x1
            have f102 : (255 : Int32).toInt = 255 := by decide
            refine sX2_callFunction hN hσ99 (fun σ103 hσ103 kk113 => ?_)
            obtain ⟨k104, k105, k106, k107, k108, k109, k110, k111, k112⟩ := kk113
            refine sX2_run hN hσ103 (fun r122 σ115 hσ115 kk121 p123 => ?_)
            obtain ⟨k116, k117, k118, k119, k120⟩ := kk121
            exact hQ _ _ hσ115 (⟨k116.trans (k105.trans ((kq (a := 9) (b := 9) eσ99 (by omega)).trans (k90))), k117.trans (k106.trans ((kq (a := 9) (b := 10) eσ99 (by omega)).trans (k91))), k118.trans (k107.trans ((kq (a := 6) (b := 5) eσ99 (by omega)).trans (k92))), k119.trans (k108.trans ((kq (a := 7) (b := 4) eσ99 (by omega)).trans (k93))), k120.trans (k109.trans ((kq (a := 2) (b := 4) eσ99 (by omega)).trans (k94)))⟩) trivial
          · have f124 := K1.g_3_7 hσ
            have f126 := mt Int32.le_iff_toInt_le.mpr c82
            exact hQ _ _ hσ (⟨rfl, rfl, rfl, rfl, rfl⟩) trivial
        · have f127 := K1.g_0_7 hσ
          have f128 : (4 : Int32).toInt = 4 := by decide
          have f129 := mt Int32.le_iff_toInt_le.mpr c78
          exact hQ _ _ hσ (⟨rfl, rfl, rfl, rfl, rfl⟩) trivial
    · have f130 : (100000 : Int32).toInt = 100000 := by decide
      have f132 := mt Int32.lt_iff_toInt_lt.mpr c67
      try dsimp only
      refine ⟨fun c133 => ?_, fun c133 => ?_⟩
      · have f134 : (1 : Int32).toInt = 1 := by decide
        have f136 := congrArg Int32.toInt c133
        exact hQ _ _ hσ (⟨rfl, rfl, rfl, rfl, rfl⟩) trivial
      · have f137 : (1 : Int32).toInt = 1 := by decide
        have f139 := mt Int32.toInt_inj.mp c133
        refine ⟨fun c140 => ?_, fun c140 => ?_⟩
        · have f141 := K1.g_0_7 hσ
          have f142 : (4 : Int32).toInt = 4 := by decide
          have f143 := Int32.le_iff_toInt_le.mp c140
          refine ⟨fun c144 => ?_, fun c144 => ?_⟩
          · have f145 := K1.g_3_7 hσ
            have f147 := Int32.le_iff_toInt_le.mp c144
            refine sX2_setArguments hN r120_11 hσ (fun σ149 hσ149 kk160 => ?_)
            obtain ⟨k150, k151, k152, k153, k154, k155, k156, k157, k158, k159⟩ := kk160
            intro σ161 eσ161
            have hσ161 : K1 σ0 σ161 := by rw [eσ161]; exact hσ149.u (Rg1.r_0_7 (by omega) (by omega)) (by omega) (by omega)
            have f163 := tB x1
            have f164 : (255 : Int32).toInt = 255 := by decide
            refine sX2_callFunction hN hσ161 (fun σ165 hσ165 kk175 => ?_)
            obtain ⟨k166, k167, k168, k169, k170, k171, k172, k173, k174⟩ := kk175
            refine sX2_run hN hσ165 (fun r184 σ177 hσ177 kk183 p185 => ?_)
            obtain ⟨k178, k179, k180, k181, k182⟩ := kk183
            exact hQ _ _ hσ177 (⟨k178.trans (k167.trans ((kq (a := 9) (b := 9) eσ161 (by omega)).trans (k152))), k179.trans (k168.trans ((kq (a := 9) (b := 10) eσ161 (by omega)).trans (k153))), k180.trans (k169.trans ((kq (a := 6) (b := 5) eσ161 (by omega)).trans (k154))), k181.trans (k170.trans ((kq (a := 7) (b := 4) eσ161 (by omega)).trans (k155))), k182.trans (k171.trans ((kq (a := 2) (b := 4) eσ161 (by omega)).trans (k156)))⟩) trivial
          · have f186 := K1.g_3_7 hσ
            have f188 := mt Int32.le_iff_toInt_le.mpr c144
            exact hQ _ _ hσ (⟨rfl, rfl, rfl, rfl, rfl⟩) trivial
        · have f189 := K1.g_0_7 hσ
          have f190 : (4 : Int32).toInt = 4 := by decide
          have f191 := mt Int32.le_iff_toInt_le.mpr c140
          exact hQ _ _ hσ (⟨rfl, rfl, rfl, rfl, rfl⟩) trivial
set_option maxHeartbeats 4000000 in
theorem sX11_resume {N : Nat} (hN : 4294967400 ≤ N) {x1 : Int32} {Q : Int32 → St → Prop} {σ0 σ : St} (hσ : K1 σ0 σ) (hQ : ∀ (r : Int32) (τ : St), K1 σ0 τ → (τ.1 9 9 = σ.1 9 9 ∧ τ.1 9 10 = σ.1 9 10 ∧ τ.1 6 5 = σ.1 6 5 ∧ τ.1 7 4 = σ.1 7 4 ∧ τ.1 2 4 = σ.1 2 4) → True → Q r τ) : fX11_resume N x1 Q σ := by
  unfold fX11_resume
  unfold fX11_isStepCount
  refine ⟨fun c1 => ?_, fun c1 => ?_⟩
  · have f2 := tB x1
    have f3 : (0 : Int32).toInt = 0 := by decide
    have f4 := Int32.lt_iff_toInt_lt.mp c1
    try dsimp only
    refine ⟨fun c5 => ?_, fun c5 => ?_⟩
    · have f8 := congrArg Int32.toInt c5
      exact hQ _ _ hσ (⟨rfl, rfl, rfl, rfl, rfl⟩) trivial
    · have f11 := mt Int32.toInt_inj.mp c5
      refine ⟨fun c12 => ?_, fun c12 => ?_⟩
      · have f13 := K1.g_3_7 hσ
        have f15 := congrArg Int32.toInt c12
        exact hQ _ _ hσ (⟨rfl, rfl, rfl, rfl, rfl⟩) trivial
      · have f16 := K1.g_3_7 hσ
        have f18 := mt Int32.toInt_inj.mp c12
        refine sX2_run hN hσ (fun r27 σ20 hσ20 kk26 p28 => ?_)
        obtain ⟨k21, k22, k23, k24, k25⟩ := kk26
        exact hQ _ _ hσ20 (⟨k21, k22, k23, k24, k25⟩) trivial
  · have f29 := tB x1
    have f30 : (0 : Int32).toInt = 0 := by decide
    have f31 := mt Int32.lt_iff_toInt_lt.mpr c1
    refine ⟨fun c32 => ?_, fun c32 => ?_⟩
    · have f33 : (100000 : Int32).toInt = 100000 := by decide
      have f35 := Int32.lt_iff_toInt_lt.mp c32
      try dsimp only
      refine ⟨fun c36 => ?_, fun c36 => ?_⟩
      · have f39 := congrArg Int32.toInt c36
        exact hQ _ _ hσ (⟨rfl, rfl, rfl, rfl, rfl⟩) trivial
      · have f42 := mt Int32.toInt_inj.mp c36
        refine ⟨fun c43 => ?_, fun c43 => ?_⟩
        · have f44 := K1.g_3_7 hσ
          have f46 := congrArg Int32.toInt c43
          exact hQ _ _ hσ (⟨rfl, rfl, rfl, rfl, rfl⟩) trivial
        · have f47 := K1.g_3_7 hσ
          have f49 := mt Int32.toInt_inj.mp c43
          refine sX2_run hN hσ (fun r58 σ51 hσ51 kk57 p59 => ?_)
          obtain ⟨k52, k53, k54, k55, k56⟩ := kk57
          exact hQ _ _ hσ51 (⟨k52, k53, k54, k55, k56⟩) trivial
    · have f60 : (100000 : Int32).toInt = 100000 := by decide
      have f62 := mt Int32.lt_iff_toInt_lt.mpr c32
      try dsimp only
      refine ⟨fun c63 => ?_, fun c63 => ?_⟩
      · have f64 : (1 : Int32).toInt = 1 := by decide
        have f66 := congrArg Int32.toInt c63
        exact hQ _ _ hσ (⟨rfl, rfl, rfl, rfl, rfl⟩) trivial
      · have f67 : (1 : Int32).toInt = 1 := by decide
        have f69 := mt Int32.toInt_inj.mp c63
        refine ⟨fun c70 => ?_, fun c70 => ?_⟩
        · have f71 := K1.g_3_7 hσ
          have f73 := congrArg Int32.toInt c70
          exact hQ _ _ hσ (⟨rfl, rfl, rfl, rfl, rfl⟩) trivial
        · have f74 := K1.g_3_7 hσ
          have f76 := mt Int32.toInt_inj.mp c70
          refine sX2_run hN hσ (fun r85 σ78 hσ78 kk84 p86 => ?_)
          obtain ⟨k79, k80, k81, k82, k83⟩ := kk84
          exact hQ _ _ hσ78 (⟨k79, k80, k81, k82, k83⟩) trivial
set_option maxHeartbeats 4000000 in
theorem sX11_stop {N : Nat} (hN : 4294967400 ≤ N) {Q : Int32 → St → Prop} {σ0 σ : St} (hσ : K1 σ0 σ) (hQ : ∀ (r : Int32) (τ : St), K1 σ0 τ → (τ.1 3 11 = σ.1 3 11 ∧ τ.1 3 6 = σ.1 3 6 ∧ τ.1 9 9 = σ.1 9 9 ∧ τ.1 9 10 = σ.1 9 10 ∧ τ.1 6 5 = σ.1 6 5 ∧ τ.1 7 4 = σ.1 7 4 ∧ τ.1 2 4 = σ.1 2 4 ∧ τ.1 2 5 = σ.1 2 5 ∧ τ.1 2 6 = σ.1 2 6 ∧ τ.1 3 8 = σ.1 3 8) → True → Q r τ) : fX11_stop N  Q σ := by
  unfold fX11_stop
  intro v1 ev1
  intro σ2 eσ2
  have f3 : (0 : Int32).toInt = 0 := by decide
  have hσ2 : K1 σ0 σ2 := by rw [eσ2]; exact hσ.u (Rg1.r_3_7 (by omega) (by omega)) (by omega) (by omega)
  exact hQ _ _ hσ2 (⟨(kq (a := 3) (b := 11) eσ2 (by omega)), (kq (a := 3) (b := 6) eσ2 (by omega)), (kq (a := 9) (b := 9) eσ2 (by omega)), (kq (a := 9) (b := 10) eσ2 (by omega)), (kq (a := 6) (b := 5) eσ2 (by omega)), (kq (a := 7) (b := 4) eσ2 (by omega)), (kq (a := 2) (b := 4) eσ2 (by omega)), (kq (a := 2) (b := 5) eσ2 (by omega)), (kq (a := 2) (b := 6) eσ2 (by omega)), (kq (a := 3) (b := 8) eσ2 (by omega))⟩) trivial
set_option maxHeartbeats 4000000 in
theorem sX11_jobs {N : Nat} (hN : 4294967400 ≤ N) {Q : Int32 → St → Prop} {σ0 σ : St} (hσ : K1 σ0 σ) (hQ : ∀ r : Int32, True → Q r σ) : fX11_jobs N  Q σ := by
  unfold fX11_jobs
  exact hQ _ trivial
set_option maxHeartbeats 4000000 in
theorem sX1_tellNode {N : Nat} (hN : 4294967400 ≤ N) {k0 : Nat} (hk0 : jobK k0) {Q : Int32 → St → Prop} {σ0 σ : St} (hσ : K1 σ0 σ) (hQ : ∀ r : Int32, True → Q r σ) : fX1_tellNode N k0 Q σ := by
  unfold fX1_tellNode
  have kbhk0 := jobK_b hk0
  refine ⟨fun c1 => ?_, fun c1 => ?_⟩
  · have f2 := tB (σ.1 k0 1)
    have f3 : (3 : Int32).toInt = 3 := by decide
    have f4 := congrArg Int32.toInt c1
    refine ⟨fun c5 => ?_, fun c5 => ?_⟩
    · have f6 := tB (σ.1 k0 5)
      have f7 : (0 : Int32).toInt = 0 := by decide
      have f8 := congrArg Int32.toInt c5
      exact hQ _ trivial
    · have f9 := tB (σ.1 k0 5)
      have f10 : (0 : Int32).toInt = 0 := by decide
      have f11 := mt Int32.toInt_inj.mp c5
      exact hQ _ trivial
  · have f12 := tB (σ.1 k0 1)
    have f13 : (3 : Int32).toInt = 3 := by decide
    have f14 := mt Int32.toInt_inj.mp c1
    exact hQ _ trivial
set_option maxHeartbeats 4000000 in
theorem sX1_tell {N : Nat} (hN : 4294967400 ≤ N) {k0 : Nat} {x1 : Int32} (hk0 : jobK k0) {Q : Int32 → St → Prop} {σ0 σ : St} (hσ : K1 σ0 σ) (hQ : ∀ r : Int32, True → Q r σ) : fX1_tell N k0 x1 Q σ := by
  unfold fX1_tell
  have kbhk0 := jobK_b hk0
  refine ⟨fun c1 => ?_, fun c1 => ?_⟩
  · have f2 := tB x1
    have f3 : (0 : Int32).toInt = 0 := by decide
    have f4 := congrArg Int32.toInt c1
    exact hQ _ trivial
  · have f5 := tB x1
    have f6 : (0 : Int32).toInt = 0 := by decide
    have f7 := mt Int32.toInt_inj.mp c1
    refine ⟨fun c8 => ?_, fun c8 => ?_⟩
    · have f10 : (1 : Int32).toInt = 1 := by decide
      have f11 := congrArg Int32.toInt c8
      exact hQ _ trivial
    · have f13 : (1 : Int32).toInt = 1 := by decide
      have f14 := mt Int32.toInt_inj.mp c8
      refine ⟨fun c15 => ?_, fun c15 => ?_⟩
      · have f17 : (2 : Int32).toInt = 2 := by decide
        have f18 := congrArg Int32.toInt c15
        exact hQ _ trivial
      · have f20 : (2 : Int32).toInt = 2 := by decide
        have f21 := mt Int32.toInt_inj.mp c15
        refine ⟨fun c22 => ?_, fun c22 => ?_⟩
        · have f24 : (3 : Int32).toInt = 3 := by decide
          have f25 := congrArg Int32.toInt c22
          exact hQ _ trivial
        · have f27 : (3 : Int32).toInt = 3 := by decide
          have f28 := mt Int32.toInt_inj.mp c22
          refine ⟨fun c29 => ?_, fun c29 => ?_⟩
          · have f31 : (4 : Int32).toInt = 4 := by decide
            have f32 := congrArg Int32.toInt c29
            refine sX1_tellNode hN hk0 hσ (fun r46 p47 => ?_)
            exact hQ _ trivial
          · have f49 : (4 : Int32).toInt = 4 := by decide
            have f50 := mt Int32.toInt_inj.mp c29
            refine ⟨fun c51 => ?_, fun c51 => ?_⟩
            · have f53 : (10 : Int32).toInt = 10 := by decide
              have f54 := Int32.lt_iff_toInt_lt.mp c51
              exact hQ _ trivial
            · have f56 : (10 : Int32).toInt = 10 := by decide
              have f57 := mt Int32.lt_iff_toInt_lt.mpr c51
              unfold fX1_hasLocal
              refine ⟨fun c58 => ?_, fun c58 => ?_⟩
              · have f61 := tS x1 (10 : Int32)
                have f62 := tB (x1 - 10)
                have f64 := Int32.lt_iff_toInt_lt.mp c58
                try dsimp only
                refine ⟨fun c65 => ?_, fun c65 => ?_⟩
                · have f68 := congrArg Int32.toInt c65
                  exact hQ _ trivial
                · have f71 := mt Int32.toInt_inj.mp c65
                  have g76 : vp_in (x1 - 10) 8 := inI (by omega) (by omega)
                  refine ⟨g76, ?_⟩
                  exact hQ _ trivial
              · have f79 := tS x1 (10 : Int32)
                have f80 := tB (x1 - 10)
                have f82 := mt Int32.lt_iff_toInt_lt.mpr c58
                refine ⟨fun c83 => ?_, fun c83 => ?_⟩
                · have f84 := tB (σ.1 k0 4)
                  have f89 := Int32.le_iff_toInt_le.mp c83
                  try dsimp only
                  refine ⟨fun c90 => ?_, fun c90 => ?_⟩
                  · have f93 := congrArg Int32.toInt c90
                    exact hQ _ trivial
                  · have f96 := mt Int32.toInt_inj.mp c90
                    have g101 : vp_in (x1 - 10) 8 := inI (by omega) (by omega)
                    refine ⟨g101, ?_⟩
                    exact hQ _ trivial
                · have f102 := tB (σ.1 k0 4)
                  have f107 := mt Int32.le_iff_toInt_le.mpr c83
                  refine ⟨fun c108 => ?_, fun c108 => ?_⟩
                  · have f109 : (8 : Int32).toInt = 8 := by decide
                    have f114 := Int32.le_iff_toInt_le.mp c108
                    try dsimp only
                    refine ⟨fun c115 => ?_, fun c115 => ?_⟩
                    · have f118 := congrArg Int32.toInt c115
                      exact hQ _ trivial
                    · have f121 := mt Int32.toInt_inj.mp c115
                      have g126 : vp_in (x1 - 10) 8 := inI (by omega) (by omega)
                      refine ⟨g126, ?_⟩
                      exact hQ _ trivial
                  · have f127 : (8 : Int32).toInt = 8 := by decide
                    have f132 := mt Int32.le_iff_toInt_le.mpr c108
                    try dsimp only
                    refine ⟨fun c133 => ?_, fun c133 => ?_⟩
                    · have f136 := congrArg Int32.toInt c133
                      exact hQ _ trivial
                    · have f139 := mt Int32.toInt_inj.mp c133
                      have g144 : vp_in (x1 - 10) 8 := inI (by omega) (by omega)
                      refine ⟨g144, ?_⟩
                      exact hQ _ trivial
set_option maxHeartbeats 4000000 in
theorem sX11_job {N : Nat} (hN : 4294967400 ≤ N) {x1 : Int32} {x2 : Int32} {Q : Int32 → St → Prop} {σ0 σ : St} (hσ : K1 σ0 σ) (hQ : ∀ r : Int32, True → Q r σ) : fX11_job N x1 x2 Q σ := by
  unfold fX11_job
  refine ⟨fun c1 => ?_, fun c1 => ?_⟩
  · have f2 := tB x1
    have f3 : (0 : Int32).toInt = 0 := by decide
    have f4 := Int32.lt_iff_toInt_lt.mp c1
    exact hQ _ trivial
  · have f5 := tB x1
    have f6 : (0 : Int32).toInt = 0 := by decide
    have f7 := mt Int32.lt_iff_toInt_lt.mpr c1
    refine ⟨fun c8 => ?_, fun c8 => ?_⟩
    · have f10 := K1.g_3_7 hσ
      have f11 := Int32.lt_iff_toInt_lt.mp c8
      have g13 : vp_in x1 40 := inI (by omega) (by omega)
      refine ⟨g13, ?_⟩
      have hk14 : jobK (43 + x1.toNatClampNeg) := (jobK_in g13)
      have hk14x := vp_lt g13
      have hk14b := jobK_b hk14
      have f15 := tB x2
      refine sX1_tell hN hk14 hσ (fun r29 p30 => ?_)
      exact hQ _ trivial
    · have f32 := K1.g_3_7 hσ
      have f33 := mt Int32.lt_iff_toInt_lt.mpr c8
      exact hQ _ trivial
set_option maxHeartbeats 4000000 in
theorem sX11_at {N : Nat} (hN : 4294967400 ≤ N) {x1 : Int32} {Q : Int32 → St → Prop} {σ0 σ : St} (hσ : K1 σ0 σ) (hQ : ∀ r : Int32, True → Q r σ) : fX11_at N x1 Q σ := by
  unfold fX11_at
  refine ⟨fun c1 => ?_, fun c1 => ?_⟩
  · have f2 := tB x1
    have f3 : (0 : Int32).toInt = 0 := by decide
    have f4 := Int32.lt_iff_toInt_lt.mp c1
    exact hQ _ trivial
  · have f5 := tB x1
    have f6 : (0 : Int32).toInt = 0 := by decide
    have f7 := mt Int32.lt_iff_toInt_lt.mpr c1
    refine ⟨fun c8 => ?_, fun c8 => ?_⟩
    · have f9 := K1.g_3_8 hσ
      have f11 := Int32.le_iff_toInt_le.mp c8
      exact hQ _ trivial
    · have f12 := K1.g_3_8 hσ
      have f14 := mt Int32.le_iff_toInt_le.mpr c8
      have g16 : vp_in x1 1000 := inI (by omega) (by omega)
      refine ⟨g16, ?_⟩
      exact hQ _ trivial
set_option maxHeartbeats 4000000 in
theorem sX11_clear {N : Nat} (hN : 4294967400 ≤ N) {Q : Int32 → St → Prop} {σ0 σ : St} (hσ : K1 σ0 σ) (hQ : ∀ (r : Int32) (τ : St), K1 σ0 τ → (τ.1 3 7 = σ.1 3 7 ∧ τ.1 3 11 = σ.1 3 11 ∧ τ.1 3 6 = σ.1 3 6 ∧ τ.1 9 9 = σ.1 9 9 ∧ τ.1 9 10 = σ.1 9 10 ∧ τ.1 6 5 = σ.1 6 5 ∧ τ.1 7 4 = σ.1 7 4 ∧ τ.1 2 4 = σ.1 2 4 ∧ τ.1 2 5 = σ.1 2 5 ∧ τ.1 2 6 = σ.1 2 6) → True → Q r τ) : fX11_clear N  Q σ := by
  unfold fX11_clear
  intro v1 ev1
  intro σ2 eσ2
  have f3 : (0 : Int32).toInt = 0 := by decide
  have hσ2 : K1 σ0 σ2 := by rw [eσ2]; exact hσ.u (Rg1.r_3_8 (by omega) (by omega)) (by omega) (by omega)
  exact hQ _ _ hσ2 (⟨(kq (a := 3) (b := 7) eσ2 (by omega)), (kq (a := 3) (b := 11) eσ2 (by omega)), (kq (a := 3) (b := 6) eσ2 (by omega)), (kq (a := 9) (b := 9) eσ2 (by omega)), (kq (a := 9) (b := 10) eσ2 (by omega)), (kq (a := 6) (b := 5) eσ2 (by omega)), (kq (a := 7) (b := 4) eσ2 (by omega)), (kq (a := 2) (b := 4) eσ2 (by omega)), (kq (a := 2) (b := 5) eσ2 (by omega)), (kq (a := 2) (b := 6) eσ2 (by omega))⟩) trivial
set_option maxHeartbeats 4000000 in
theorem sX9_tell {N : Nat} (hN : 4294967400 ≤ N) {x1 : Int32} {Q : Int32 → St → Prop} {σ0 σ : St} (hσ : K1 σ0 σ) (hQ : ∀ r : Int32, True → Q r σ) : fX9_tell N x1 Q σ := by
  unfold fX9_tell
  refine ⟨fun c1 => ?_, fun c1 => ?_⟩
  · have f2 := tB x1
    have f3 : (0 : Int32).toInt = 0 := by decide
    have f4 := congrArg Int32.toInt c1
    exact hQ _ trivial
  · have f5 := tB x1
    have f6 : (0 : Int32).toInt = 0 := by decide
    have f7 := mt Int32.toInt_inj.mp c1
    refine ⟨fun c8 => ?_, fun c8 => ?_⟩
    · have f10 : (1 : Int32).toInt = 1 := by decide
      have f11 := congrArg Int32.toInt c8
      exact hQ _ trivial
    · have f13 : (1 : Int32).toInt = 1 := by decide
      have f14 := mt Int32.toInt_inj.mp c8
      refine ⟨fun c15 => ?_, fun c15 => ?_⟩
      · have f17 : (2 : Int32).toInt = 2 := by decide
        have f18 := congrArg Int32.toInt c15
        exact hQ _ trivial
      · have f20 : (2 : Int32).toInt = 2 := by decide
        have f21 := mt Int32.toInt_inj.mp c15
        refine ⟨fun c22 => ?_, fun c22 => ?_⟩
        · have f24 : (3 : Int32).toInt = 3 := by decide
          have f25 := congrArg Int32.toInt c22
          exact hQ _ trivial
        · have f27 : (3 : Int32).toInt = 3 := by decide
          have f28 := mt Int32.toInt_inj.mp c22
          refine ⟨fun c29 => ?_, fun c29 => ?_⟩
          · have f31 : (4 : Int32).toInt = 4 := by decide
            have f32 := congrArg Int32.toInt c29
            exact hQ _ trivial
          · have f34 : (4 : Int32).toInt = 4 := by decide
            have f35 := mt Int32.toInt_inj.mp c29
            refine ⟨fun c36 => ?_, fun c36 => ?_⟩
            · have f38 : (5 : Int32).toInt = 5 := by decide
              have f39 := congrArg Int32.toInt c36
              exact hQ _ trivial
            · have f41 : (5 : Int32).toInt = 5 := by decide
              have f42 := mt Int32.toInt_inj.mp c36
              refine ⟨fun c43 => ?_, fun c43 => ?_⟩
              · have f45 : (6 : Int32).toInt = 6 := by decide
                have f46 := congrArg Int32.toInt c43
                exact hQ _ trivial
              · have f48 : (6 : Int32).toInt = 6 := by decide
                have f49 := mt Int32.toInt_inj.mp c43
                refine ⟨fun c50 => ?_, fun c50 => ?_⟩
                · have f52 : (7 : Int32).toInt = 7 := by decide
                  have f53 := congrArg Int32.toInt c50
                  exact hQ _ trivial
                · have f55 : (7 : Int32).toInt = 7 := by decide
                  have f56 := mt Int32.toInt_inj.mp c50
                  exact hQ _ trivial
set_option maxHeartbeats 4000000 in
theorem sX11_told {N : Nat} (hN : 4294967400 ≤ N) {x1 : Int32} {Q : Int32 → St → Prop} {σ0 σ : St} (hσ : K1 σ0 σ) (hQ : ∀ (r : Int32) (τ : St), K1 σ0 τ → (τ.1 3 7 = σ.1 3 7 ∧ τ.1 3 11 = σ.1 3 11 ∧ τ.1 3 6 = σ.1 3 6 ∧ τ.1 9 9 = σ.1 9 9 ∧ τ.1 9 10 = σ.1 9 10 ∧ τ.1 6 5 = σ.1 6 5 ∧ τ.1 7 4 = σ.1 7 4 ∧ τ.1 2 5 = σ.1 2 5 ∧ τ.1 2 6 = σ.1 2 6 ∧ τ.1 3 8 = σ.1 3 8) → True → Q r τ) : fX11_told N x1 Q σ := by
  unfold fX11_told
  refine ⟨fun c1 => ?_, fun c1 => ?_⟩
  · have f2 := tB x1
    have f3 : (8 : Int32).toInt = 8 := by decide
    have f4 := congrArg Int32.toInt c1
    exact hQ _ _ hσ (⟨rfl, rfl, rfl, rfl, rfl, rfl, rfl, rfl, rfl, rfl⟩) trivial
  · have f5 := tB x1
    have f6 : (8 : Int32).toInt = 8 := by decide
    have f7 := mt Int32.toInt_inj.mp c1
    refine ⟨fun c8 => ?_, fun c8 => ?_⟩
    · have f10 : (9 : Int32).toInt = 9 := by decide
      have f11 := congrArg Int32.toInt c8
      exact hQ _ _ hσ (⟨rfl, rfl, rfl, rfl, rfl, rfl, rfl, rfl, rfl, rfl⟩) trivial
    · have f13 : (9 : Int32).toInt = 9 := by decide
      have f14 := mt Int32.toInt_inj.mp c8
      refine ⟨fun c15 => ?_, fun c15 => ?_⟩
      · have f17 : (10 : Int32).toInt = 10 := by decide
        have f18 := congrArg Int32.toInt c15
        exact hQ _ _ hσ (⟨rfl, rfl, rfl, rfl, rfl, rfl, rfl, rfl, rfl, rfl⟩) trivial
      · have f20 : (10 : Int32).toInt = 10 := by decide
        have f21 := mt Int32.toInt_inj.mp c15
        refine ⟨fun c22 => ?_, fun c22 => ?_⟩
        · have f24 : (11 : Int32).toInt = 11 := by decide
          have f25 := congrArg Int32.toInt c22
          exact hQ _ _ hσ (⟨rfl, rfl, rfl, rfl, rfl, rfl, rfl, rfl, rfl, rfl⟩) trivial
        · have f27 : (11 : Int32).toInt = 11 := by decide
          have f28 := mt Int32.toInt_inj.mp c22
          refine ⟨fun c29 => ?_, fun c29 => ?_⟩
          · have f31 : (12 : Int32).toInt = 12 := by decide
            have f32 := congrArg Int32.toInt c29
            exact hQ _ _ hσ (⟨rfl, rfl, rfl, rfl, rfl, rfl, rfl, rfl, rfl, rfl⟩) trivial
          · have f34 : (12 : Int32).toInt = 12 := by decide
            have f35 := mt Int32.toInt_inj.mp c29
            refine ⟨fun c36 => ?_, fun c36 => ?_⟩
            · have f38 : (13 : Int32).toInt = 13 := by decide
              have f39 := congrArg Int32.toInt c36
              exact hQ _ _ hσ (⟨rfl, rfl, rfl, rfl, rfl, rfl, rfl, rfl, rfl, rfl⟩) trivial
            · have f41 : (13 : Int32).toInt = 13 := by decide
              have f42 := mt Int32.toInt_inj.mp c36
              refine ⟨fun c43 => ?_, fun c43 => ?_⟩
              · have f45 : (14 : Int32).toInt = 14 := by decide
                have f46 := congrArg Int32.toInt c43
                exact hQ _ _ hσ (⟨rfl, rfl, rfl, rfl, rfl, rfl, rfl, rfl, rfl, rfl⟩) trivial
              · have f48 : (14 : Int32).toInt = 14 := by decide
                have f49 := mt Int32.toInt_inj.mp c43
                refine ⟨fun c50 => ?_, fun c50 => ?_⟩
                · have f52 : (15 : Int32).toInt = 15 := by decide
                  have f53 := congrArg Int32.toInt c50
                  refine sX8_cachedNodes hN hσ (fun r66 σ54 hσ54 kk65 p67 => ?_)
                  obtain ⟨k55, k56, k57, k58, k59, k60, k61, k62, k63, k64⟩ := kk65
                  exact hQ _ _ hσ54 (⟨k55, k56, k57, k58, k59, k60, k61, k62, k63, k64⟩) trivial
                · have f69 : (15 : Int32).toInt = 15 := by decide
                  have f70 := mt Int32.toInt_inj.mp c50
                  refine ⟨fun c71 => ?_, fun c71 => ?_⟩
                  · have f73 : (16 : Int32).toInt = 16 := by decide
                    have f74 := congrArg Int32.toInt c71
                    exact hQ _ _ hσ (⟨rfl, rfl, rfl, rfl, rfl, rfl, rfl, rfl, rfl, rfl⟩) trivial
                  · have f76 : (16 : Int32).toInt = 16 := by decide
                    have f77 := mt Int32.toInt_inj.mp c71
                    refine ⟨fun c78 => ?_, fun c78 => ?_⟩
                    · have f80 : (17 : Int32).toInt = 17 := by decide
                      have f81 := congrArg Int32.toInt c78
                      exact hQ _ _ hσ (⟨rfl, rfl, rfl, rfl, rfl, rfl, rfl, rfl, rfl, rfl⟩) trivial
                    · have f83 : (17 : Int32).toInt = 17 := by decide
                      have f84 := mt Int32.toInt_inj.mp c78
                      refine sX9_tell hN hσ (fun r99 p100 => ?_)
                      exact hQ _ _ hσ (⟨rfl, rfl, rfl, rfl, rfl, rfl, rfl, rfl, rfl, rfl⟩) trivial
set_option maxHeartbeats 4000000 in
theorem sX11_sign {N : Nat} (hN : 4294967400 ≤ N) {x1 : Int32} {Q : Int32 → St → Prop} {σ0 σ : St} (hσ : K1 σ0 σ) (hQ : ∀ (r : Int32) (τ : St), K1 σ0 τ → (τ.1 3 7 = σ.1 3 7 ∧ τ.1 3 11 = σ.1 3 11 ∧ τ.1 3 6 = σ.1 3 6 ∧ τ.1 9 9 = σ.1 9 9 ∧ τ.1 9 10 = σ.1 9 10 ∧ τ.1 6 5 = σ.1 6 5 ∧ τ.1 7 4 = σ.1 7 4 ∧ τ.1 2 4 = σ.1 2 4 ∧ τ.1 2 5 = σ.1 2 5 ∧ τ.1 2 6 = σ.1 2 6 ∧ τ.1 3 8 = σ.1 3 8) → True → Q r τ) : fX11_sign N x1 Q σ := by
  unfold fX11_sign
  refine ⟨fun c1 => ?_, fun c1 => ?_⟩
  · have f2 := K1.g_0_7 hσ
    have f3 : (120 : Int32).toInt = 120 := by decide
    have f4 := Int32.lt_iff_toInt_lt.mp c1
    refine ⟨inI (by omega) (by omega), ?_⟩
    intro σ6 eσ6
    have hσ6 : K1 σ0 σ6 := by rw [eσ6]; exact hσ.u (Rg1.ra_11 _ _) (by omega) (by omega)
    intro v7 ev7
    intro σ8 eσ8
    have f9 := tB v7
    have f10 := K1.g_0_7 hσ6
    have q11 : σ6.1 0 7 = σ.1 0 7 := by rw [eσ6]; exact congrFun (u1_ne (by decide)) 7
    have f12 := congrArg Int32.toInt q11
    have f14 : (1 : Int32).toInt = 1 := by decide
    have f15 := tA (σ6.1 0 7) (1 : Int32)
    have f16 := tB ((σ6.1 0 7) + 1)
    have f17 := congrArg Int32.toInt ev7
    have hσ8 : K1 σ0 σ8 := by rw [eσ8]; exact hσ6.u (Rg1.r_0_7 (by omega) (by omega)) (by omega) (by omega)
    exact hQ _ _ hσ8 (⟨(kq (a := 3) (b := 7) eσ8 (by omega)).trans ((kq (a := 3) (b := 7) eσ6 (by omega))), (kq (a := 3) (b := 11) eσ8 (by omega)).trans ((kq (a := 3) (b := 11) eσ6 (by omega))), (kq (a := 3) (b := 6) eσ8 (by omega)).trans ((kq (a := 3) (b := 6) eσ6 (by omega))), (kq (a := 9) (b := 9) eσ8 (by omega)).trans ((kq (a := 9) (b := 9) eσ6 (by omega))), (kq (a := 9) (b := 10) eσ8 (by omega)).trans ((kq (a := 9) (b := 10) eσ6 (by omega))), (kq (a := 6) (b := 5) eσ8 (by omega)).trans ((kq (a := 6) (b := 5) eσ6 (by omega))), (kq (a := 7) (b := 4) eσ8 (by omega)).trans ((kq (a := 7) (b := 4) eσ6 (by omega))), (kq (a := 2) (b := 4) eσ8 (by omega)).trans ((kq (a := 2) (b := 4) eσ6 (by omega))), (kq (a := 2) (b := 5) eσ8 (by omega)).trans ((kq (a := 2) (b := 5) eσ6 (by omega))), (kq (a := 2) (b := 6) eσ8 (by omega)).trans ((kq (a := 2) (b := 6) eσ6 (by omega))), (kq (a := 3) (b := 8) eσ8 (by omega)).trans ((kq (a := 3) (b := 8) eσ6 (by omega)))⟩) trivial
  · have f18 := K1.g_0_7 hσ
    have f19 : (120 : Int32).toInt = 120 := by decide
    have f20 := mt Int32.lt_iff_toInt_lt.mpr c1
    exact hQ _ _ hσ (⟨rfl, rfl, rfl, rfl, rfl, rfl, rfl, rfl, rfl, rfl, rfl⟩) trivial
set_option maxHeartbeats 4000000 in
theorem sX7_areSigns {N : Nat} (hN : 4294967400 ≤ N) {k0 : Nat} {x1 : Int32} {x2 : Int32} (hk0 : r120 k0) {Q : Int32 → St → Prop} {σ0 σ : St} (hσ : K1 σ0 σ) (hQ : ∀ r : Int32, True → Q r σ) : fX7_areSigns N k0 x1 x2 Q σ := by
  unfold fX7_areSigns
  have kbhk0 := r120_b hk0
  have f2 := tB x1
  have f3 := tB x2
  have f4 : (0 : Int32).toInt = 0 := by decide
  refine lo1_i (fun (y1 : Int32) (τ : St) => σ = τ ∧ 0 ≤ y1.toInt) (fun (y1 : Int32) (τ : St) => (2147483648 - y1.toInt).toNat) ?_ N (0 : Int32) σ ⟨rfl, by omega⟩ (by (try dsimp only); omega)
  intro rr5 y8 σ7 hIσ7 ih6
  obtain ⟨hσ7, i9⟩ := hIσ7
  subst hσ7
  unfold fX7_areSigns_l2
  have f10 := tB y8
  refine ⟨fun c11 => ?_, fun c11 => ?_⟩
  · have f14 := Int32.le_iff_toInt_le.mp c11
    exact hQ _ trivial
  · have f17 := mt Int32.le_iff_toInt_le.mpr c11
    refine ⟨fun c18 => ?_, fun c18 => ?_⟩
    · have f19 : (120 : Int32).toInt = 120 := by decide
      have f21 := Int32.le_iff_toInt_le.mp c18
      exact hQ _ trivial
    · have f22 : (120 : Int32).toInt = 120 := by decide
      have f24 := mt Int32.le_iff_toInt_le.mpr c18
      have g26 : vp_in y8 120 := inI (by omega) (by omega)
      refine ⟨g26, ?_⟩
      refine ⟨fun c27 => ?_, fun c27 => ?_⟩
      · have f28 := tB (σ.1 k0 y8.toNatClampNeg)
        have f30 := congrArg Int32.toInt c27
        exact hQ _ trivial
      · have f31 := tB (σ.1 k0 y8.toNatClampNeg)
        have f33 := mt Int32.toInt_inj.mp c27
        refine ⟨fun c34 => ?_, fun c34 => ?_⟩
        · have f37 := congrArg Int32.toInt c34
          unfold fX7_areSigns_j40
          intro v38 ev38
          have f39 := tB v38
          have f41 : (1 : Int32).toInt = 1 := by decide
          have f42 := tA y8 (1 : Int32)
          have f43 := tB (y8 + 1)
          have f44 := congrArg Int32.toInt ev38
          exact ih6 v38 σ ⟨rfl, by omega⟩ (by (try dsimp only); omega)
        · have f47 := mt Int32.toInt_inj.mp c34
          have g49 : vp_in y8 120 := inI (by omega) (by omega)
          refine ⟨g49, ?_⟩
          refine ⟨fun c50 => ?_, fun c50 => ?_⟩
          · have f53 := Int32.lt_iff_toInt_lt.mp c50
            exact hQ _ trivial
          · have f56 := mt Int32.lt_iff_toInt_lt.mpr c50
            have g58 : vp_in y8 120 := inI (by omega) (by omega)
            refine ⟨g58, ?_⟩
            refine ⟨fun c59 => ?_, fun c59 => ?_⟩
            · have f61 : (255 : Int32).toInt = 255 := by decide
              have f62 := Int32.le_iff_toInt_le.mp c59
              unfold fX7_areSigns_j40
              intro v63 ev63
              have f64 := tB v63
              have f66 : (1 : Int32).toInt = 1 := by decide
              have f67 := tA y8 (1 : Int32)
              have f68 := tB (y8 + 1)
              have f69 := congrArg Int32.toInt ev63
              exact ih6 v63 σ ⟨rfl, by omega⟩ (by (try dsimp only); omega)
            · have f71 : (255 : Int32).toInt = 255 := by decide
              have f72 := mt Int32.le_iff_toInt_le.mpr c59
              exact hQ _ trivial
set_option maxHeartbeats 4000000 in
theorem sX7_isPiece {N : Nat} (hN : 4294967400 ≤ N) {x0 : Int32} {k1 : Nat} {x2 : Int32} (hk1 : r120 k1) {Q : Int32 → St → Prop} {σ0 σ : St} (hσ : K1 σ0 σ) (hQ : ∀ r : Int32, (r.toInt = 0 ∨ (1 ≤ x2.toInt ∧ x2.toInt ≤ 20)) → Q r σ) : fX7_isPiece N x0 k1 x2 Q σ := by
  unfold fX7_isPiece
  have kbhk1 := r120_b hk1
  refine ⟨fun c1 => ?_, fun c1 => ?_⟩
  · have f2 := tB x0
    have f3 : (2 : Int32).toInt = 2 := by decide
    have f4 := congrArg Int32.toInt c1
    refine ⟨fun c5 => ?_, fun c5 => ?_⟩
    · have f6 := tB x2
      have f7 : (1 : Int32).toInt = 1 := by decide
      have f8 := congrArg Int32.toInt c5
      refine sX7_areSigns hN hk1 hσ (fun r24 p25 => ?_)
      refine ⟨fun c26 => ?_, fun c26 => ?_⟩
      · have f27 := tB r24
        have f28 : (0 : Int32).toInt = 0 := by decide
        have f29 := congrArg Int32.toInt c26
        exact hQ _ (by omega)
      · have f31 := tB r24
        have f32 : (0 : Int32).toInt = 0 := by decide
        have f33 := mt Int32.toInt_inj.mp c26
        exact hQ _ (by omega)
    · have f35 := tB x2
      have f36 : (1 : Int32).toInt = 1 := by decide
      have f37 := mt Int32.toInt_inj.mp c5
      have f38 : (0 : Int32).toInt = 0 := by decide
      exact hQ _ (by omega)
  · have f39 := tB x0
    have f40 : (2 : Int32).toInt = 2 := by decide
    have f41 := mt Int32.toInt_inj.mp c1
    refine ⟨fun c42 => ?_, fun c42 => ?_⟩
    · have f44 : (3 : Int32).toInt = 3 := by decide
      have f45 := congrArg Int32.toInt c42
      refine ⟨fun c46 => ?_, fun c46 => ?_⟩
      · have f47 := tB x2
        have f49 := Int32.lt_iff_toInt_lt.mp c46
        have f50 : (0 : Int32).toInt = 0 := by decide
        exact hQ _ (by omega)
      · have f51 := tB x2
        have f53 := mt Int32.lt_iff_toInt_lt.mpr c46
        refine ⟨fun c54 => ?_, fun c54 => ?_⟩
        · have f55 : (20 : Int32).toInt = 20 := by decide
          have f57 := Int32.lt_iff_toInt_lt.mp c54
          have f58 : (0 : Int32).toInt = 0 := by decide
          exact hQ _ (by omega)
        · have f59 : (20 : Int32).toInt = 20 := by decide
          have f61 := mt Int32.lt_iff_toInt_lt.mpr c54
          have f63 : (1 : Int32).toInt = 1 := by decide
          refine sX7_areSigns hN hk1 hσ (fun r77 p78 => ?_)
          refine ⟨fun c79 => ?_, fun c79 => ?_⟩
          · have f80 := tB r77
            have f81 : (0 : Int32).toInt = 0 := by decide
            have f82 := congrArg Int32.toInt c79
            exact hQ _ (by omega)
          · have f84 := tB r77
            have f85 : (0 : Int32).toInt = 0 := by decide
            have f86 := mt Int32.toInt_inj.mp c79
            exact hQ _ (by omega)
    · have f89 : (3 : Int32).toInt = 3 := by decide
      have f90 := mt Int32.toInt_inj.mp c42
      refine ⟨fun c91 => ?_, fun c91 => ?_⟩
      · have f93 : (4 : Int32).toInt = 4 := by decide
        have f94 := congrArg Int32.toInt c91
        refine ⟨fun c95 => ?_, fun c95 => ?_⟩
        · have f96 := tB x2
          have f97 : (1 : Int32).toInt = 1 := by decide
          have f98 := congrArg Int32.toInt c95
          have f100 : (0 : Int32).toInt = 0 := by decide
          refine sX7_areSigns hN hk1 hσ (fun r114 p115 => ?_)
          refine ⟨fun c116 => ?_, fun c116 => ?_⟩
          · have f117 := tB r114
            have f119 := congrArg Int32.toInt c116
            exact hQ _ (by omega)
          · have f121 := tB r114
            have f123 := mt Int32.toInt_inj.mp c116
            exact hQ _ (by omega)
        · have f125 := tB x2
          have f126 : (1 : Int32).toInt = 1 := by decide
          have f127 := mt Int32.toInt_inj.mp c95
          have f128 : (0 : Int32).toInt = 0 := by decide
          exact hQ _ (by omega)
      · have f130 : (4 : Int32).toInt = 4 := by decide
        have f131 := mt Int32.toInt_inj.mp c91
        refine ⟨fun c132 => ?_, fun c132 => ?_⟩
        · have f134 : (5 : Int32).toInt = 5 := by decide
          have f135 := congrArg Int32.toInt c132
          refine ⟨fun c136 => ?_, fun c136 => ?_⟩
          · have f137 := tB x2
            have f139 := Int32.lt_iff_toInt_lt.mp c136
            have f140 : (0 : Int32).toInt = 0 := by decide
            exact hQ _ (by omega)
          · have f141 := tB x2
            have f143 := mt Int32.lt_iff_toInt_lt.mpr c136
            refine ⟨fun c144 => ?_, fun c144 => ?_⟩
            · have f145 : (20 : Int32).toInt = 20 := by decide
              have f147 := Int32.lt_iff_toInt_lt.mp c144
              have f148 : (0 : Int32).toInt = 0 := by decide
              exact hQ _ (by omega)
            · have f149 : (20 : Int32).toInt = 20 := by decide
              have f151 := mt Int32.lt_iff_toInt_lt.mpr c144
              have f153 : (0 : Int32).toInt = 0 := by decide
              refine sX7_areSigns hN hk1 hσ (fun r167 p168 => ?_)
              refine ⟨fun c169 => ?_, fun c169 => ?_⟩
              · have f170 := tB r167
                have f172 := congrArg Int32.toInt c169
                exact hQ _ (by omega)
              · have f174 := tB r167
                have f176 := mt Int32.toInt_inj.mp c169
                have f177 : (1 : Int32).toInt = 1 := by decide
                exact hQ _ (by omega)
        · have f179 : (5 : Int32).toInt = 5 := by decide
          have f180 := mt Int32.toInt_inj.mp c132
          refine ⟨fun c181 => ?_, fun c181 => ?_⟩
          · have f183 : (8 : Int32).toInt = 8 := by decide
            have f184 := congrArg Int32.toInt c181
            unfold fX7_isPiece_j140
            refine ⟨fun c185 => ?_, fun c185 => ?_⟩
            · have f186 := tB x2
              have f187 : (1 : Int32).toInt = 1 := by decide
              have f188 := congrArg Int32.toInt c185
              exact hQ _ (by omega)
            · have f190 := tB x2
              have f191 : (1 : Int32).toInt = 1 := by decide
              have f192 := mt Int32.toInt_inj.mp c185
              have f193 : (0 : Int32).toInt = 0 := by decide
              exact hQ _ (by omega)
          · have f195 : (8 : Int32).toInt = 8 := by decide
            have f196 := mt Int32.toInt_inj.mp c181
            refine ⟨fun c197 => ?_, fun c197 => ?_⟩
            · have f199 : (9 : Int32).toInt = 9 := by decide
              have f200 := congrArg Int32.toInt c197
              unfold fX7_isPiece_j140
              refine ⟨fun c201 => ?_, fun c201 => ?_⟩
              · have f202 := tB x2
                have f203 : (1 : Int32).toInt = 1 := by decide
                have f204 := congrArg Int32.toInt c201
                exact hQ _ (by omega)
              · have f206 := tB x2
                have f207 : (1 : Int32).toInt = 1 := by decide
                have f208 := mt Int32.toInt_inj.mp c201
                have f209 : (0 : Int32).toInt = 0 := by decide
                exact hQ _ (by omega)
            · have f211 : (9 : Int32).toInt = 9 := by decide
              have f212 := mt Int32.toInt_inj.mp c197
              have f213 : (0 : Int32).toInt = 0 := by decide
              exact hQ _ (by omega)
set_option maxHeartbeats 4000000 in
theorem sX7_add {N : Nat} (hN : 4294967400 ≤ N) {x1 : Int32} {k2 : Nat} {x3 : Int32} (hk2 : r120 k2) {Q : Int32 → St → Prop} {σ0 σ : St} (hp3 : 0 ≤ x3.toInt ∧ x3.toInt ≤ 20) (hσ : K1 σ0 σ) (hQ : ∀ (r : Int32) (τ : St), K1 σ0 τ → (τ.1 3 7 = σ.1 3 7 ∧ τ.1 3 11 = σ.1 3 11 ∧ τ.1 3 6 = σ.1 3 6 ∧ τ.1 9 9 = σ.1 9 9 ∧ τ.1 9 10 = σ.1 9 10 ∧ τ.1 7 4 = σ.1 7 4 ∧ τ.1 2 4 = σ.1 2 4 ∧ τ.1 2 5 = σ.1 2 5 ∧ τ.1 2 6 = σ.1 2 6 ∧ τ.1 3 8 = σ.1 3 8) → True → Q r τ) : fX7_add N x1 k2 x3 Q σ := by
  unfold fX7_add
  have kbhk2 := r120_b hk2
  refine ⟨fun c1 => ?_, fun c1 => ?_⟩
  · have f2 := K1.g_6_5 hσ
    have f3 : (60 : Int32).toInt = 60 := by decide
    have f4 := Int32.lt_iff_toInt_lt.mp c1
    intro v5 ev5
    have f6 := tB v5
    have f8 := congrArg Int32.toInt ev5
    refine ⟨inI (by omega) (by omega), ?_⟩
    intro σ9 eσ9
    have hσ9 : K1 σ0 σ9 := by rw [eσ9]; exact hσ.u (Rg1.ra_18 _ _) (by omega) (by omega)
    refine ⟨inI (by omega) (by omega), ?_⟩
    intro σ13 eσ13
    have f14 := tB x3
    have hσ13 : K1 σ0 σ13 := by rw [eσ13]; exact hσ9.u (Rg1.ra_21 (by omega) (by omega)) (by omega) (by omega)
    refine ⟨inI (by omega) (by omega), ?_⟩
    intro σ18 eσ18
    have hσ18 : K1 σ0 σ18 := by rw [eσ18]; exact hσ13.u (Rg1.ra_22 _ _) (by omega) (by omega)
    have f20 := tB x1
    have f25 : (0 : Int32).toInt = 0 := by decide
    refine lo1_i (fun (y19 : Int32) (τ : St) => K1 σ0 τ ∧ τ.1 3 7 = σ18.1 3 7 ∧ τ.1 3 11 = σ18.1 3 11 ∧ τ.1 3 6 = σ18.1 3 6 ∧ τ.1 9 9 = σ18.1 9 9 ∧ τ.1 9 10 = σ18.1 9 10 ∧ τ.1 6 5 = σ18.1 6 5 ∧ τ.1 7 4 = σ18.1 7 4 ∧ τ.1 2 4 = σ18.1 2 4 ∧ τ.1 2 5 = σ18.1 2 5 ∧ τ.1 2 6 = σ18.1 2 6 ∧ τ.1 3 8 = σ18.1 3 8 ∧ 0 ≤ y19.toInt) (fun (y19 : Int32) (τ : St) => (2147483648 - y19.toInt).toNat) ?_ N (0 : Int32) σ18 ⟨hσ18, rfl, rfl, rfl, rfl, rfl, rfl, rfl, rfl, rfl, rfl, rfl, by omega⟩ (by (try dsimp only); omega)
    intro rr26 y29 σ28 hIσ28 ih27
    obtain ⟨hσ28, k30, k31, k32, k33, k34, k35, k36, k37, k38, k39, k40, i41⟩ := hIσ28
    unfold fX7_add_l45
    have f42 := tB y29
    refine ⟨fun c43 => ?_, fun c43 => ?_⟩
    · have f46 := Int32.le_iff_toInt_le.mp c43
      unfold fX7_add_j85
      refine ⟨fun c47 => ?_, fun c47 => ?_⟩
      · have f49 : (8 : Int32).toInt = 8 := by decide
        have f50 := congrArg Int32.toInt c47
        unfold fX7_add_j97
        have g54 : vp_in v5 60 := inI (by omega) (by omega)
        refine ⟨g54, ?_⟩
        have hk55 : r20 (123 + v5.toNatClampNeg) := (r20_in g54)
        have hk55x := vp_lt g54
        have hk55b := r20_b hk55
        have g57 : vp_in (0 : Int32) 20 := inI (by omega) (by omega)
        refine ⟨g57, ?_⟩
        intro v58 ev58
        refine ⟨inI (by omega) (by omega), ?_⟩
        intro σ62 eσ62
        have hσ62 : K1 σ0 σ62 := by rw [eσ62]; exact hσ28.u (Rg1.ra_19 _ _) (by omega) (by omega)
        have g66 : vp_in v5 60 := inI (by omega) (by omega)
        refine ⟨g66, ?_⟩
        have hk67 : r20 (123 + v5.toNatClampNeg) := (r20_in g66)
        have hk67x := vp_lt g66
        have hk67b := r20_b hk67
        intro v68 ev68
        refine ⟨inI (by omega) (by omega), ?_⟩
        intro σ70 eσ70
        have kb71 := r20_b hk67
        have hσ70 : K1 σ0 σ70 := by rw [eσ70]; exact hσ62.u (rg_r20 hk67) (by omega) (by omega)
        unfold fX7_add_j128
        intro v72 ev72
        intro σ73 eσ73
        have f74 := tB v72
        have f75 := K1.g_6_5 hσ70
        have q76 : σ70.1 6 5 = σ62.1 6 5 := by rw [eσ70]; exact congrFun (u1_ne (by omega)) 5
        have f77 := congrArg Int32.toInt q76
        have f78 := K1.g_6_5 hσ62
        have q79 : σ62.1 6 5 = σ28.1 6 5 := by rw [eσ62]; exact congrFun (u1_ne (by decide)) 5
        have f80 := congrArg Int32.toInt q79
        have f81 := K1.g_6_5 hσ28
        have f82 := congrArg Int32.toInt k35
        have f83 := K1.g_6_5 hσ18
        have q84 : σ18.1 6 5 = σ13.1 6 5 := by rw [eσ18]; exact congrFun (u1_ne (by decide)) 5
        have f85 := congrArg Int32.toInt q84
        have f86 := K1.g_6_5 hσ13
        have q87 : σ13.1 6 5 = σ9.1 6 5 := by rw [eσ13]; exact congrFun (u1_ne (by decide)) 5
        have f88 := congrArg Int32.toInt q87
        have f89 := K1.g_6_5 hσ9
        have q90 : σ9.1 6 5 = σ.1 6 5 := by rw [eσ9]; exact congrFun (u1_ne (by decide)) 5
        have f91 := congrArg Int32.toInt q90
        have f93 : (1 : Int32).toInt = 1 := by decide
        have f94 := tA (σ70.1 6 5) (1 : Int32)
        have f95 := tB ((σ70.1 6 5) + 1)
        have f96 := congrArg Int32.toInt ev72
        have hσ73 : K1 σ0 σ73 := by rw [eσ73]; exact hσ70.u (Rg1.r_6_5 (by omega) (by omega)) (by omega) (by omega)
        exact hQ _ _ hσ73 (⟨(kq (a := 3) (b := 7) eσ73 (by omega)).trans ((kq (a := 3) (b := 7) eσ70 (by omega)).trans ((kq (a := 3) (b := 7) eσ62 (by omega)).trans (k30.trans ((kq (a := 3) (b := 7) eσ18 (by omega)).trans ((kq (a := 3) (b := 7) eσ13 (by omega)).trans ((kq (a := 3) (b := 7) eσ9 (by omega)))))))), (kq (a := 3) (b := 11) eσ73 (by omega)).trans ((kq (a := 3) (b := 11) eσ70 (by omega)).trans ((kq (a := 3) (b := 11) eσ62 (by omega)).trans (k31.trans ((kq (a := 3) (b := 11) eσ18 (by omega)).trans ((kq (a := 3) (b := 11) eσ13 (by omega)).trans ((kq (a := 3) (b := 11) eσ9 (by omega)))))))), (kq (a := 3) (b := 6) eσ73 (by omega)).trans ((kq (a := 3) (b := 6) eσ70 (by omega)).trans ((kq (a := 3) (b := 6) eσ62 (by omega)).trans (k32.trans ((kq (a := 3) (b := 6) eσ18 (by omega)).trans ((kq (a := 3) (b := 6) eσ13 (by omega)).trans ((kq (a := 3) (b := 6) eσ9 (by omega)))))))), (kq (a := 9) (b := 9) eσ73 (by omega)).trans ((kq (a := 9) (b := 9) eσ70 (by omega)).trans ((kq (a := 9) (b := 9) eσ62 (by omega)).trans (k33.trans ((kq (a := 9) (b := 9) eσ18 (by omega)).trans ((kq (a := 9) (b := 9) eσ13 (by omega)).trans ((kq (a := 9) (b := 9) eσ9 (by omega)))))))), (kq (a := 9) (b := 10) eσ73 (by omega)).trans ((kq (a := 9) (b := 10) eσ70 (by omega)).trans ((kq (a := 9) (b := 10) eσ62 (by omega)).trans (k34.trans ((kq (a := 9) (b := 10) eσ18 (by omega)).trans ((kq (a := 9) (b := 10) eσ13 (by omega)).trans ((kq (a := 9) (b := 10) eσ9 (by omega)))))))), (kq (a := 7) (b := 4) eσ73 (by omega)).trans ((kq (a := 7) (b := 4) eσ70 (by omega)).trans ((kq (a := 7) (b := 4) eσ62 (by omega)).trans (k36.trans ((kq (a := 7) (b := 4) eσ18 (by omega)).trans ((kq (a := 7) (b := 4) eσ13 (by omega)).trans ((kq (a := 7) (b := 4) eσ9 (by omega)))))))), (kq (a := 2) (b := 4) eσ73 (by omega)).trans ((kq (a := 2) (b := 4) eσ70 (by omega)).trans ((kq (a := 2) (b := 4) eσ62 (by omega)).trans (k37.trans ((kq (a := 2) (b := 4) eσ18 (by omega)).trans ((kq (a := 2) (b := 4) eσ13 (by omega)).trans ((kq (a := 2) (b := 4) eσ9 (by omega)))))))), (kq (a := 2) (b := 5) eσ73 (by omega)).trans ((kq (a := 2) (b := 5) eσ70 (by omega)).trans ((kq (a := 2) (b := 5) eσ62 (by omega)).trans (k38.trans ((kq (a := 2) (b := 5) eσ18 (by omega)).trans ((kq (a := 2) (b := 5) eσ13 (by omega)).trans ((kq (a := 2) (b := 5) eσ9 (by omega)))))))), (kq (a := 2) (b := 6) eσ73 (by omega)).trans ((kq (a := 2) (b := 6) eσ70 (by omega)).trans ((kq (a := 2) (b := 6) eσ62 (by omega)).trans (k39.trans ((kq (a := 2) (b := 6) eσ18 (by omega)).trans ((kq (a := 2) (b := 6) eσ13 (by omega)).trans ((kq (a := 2) (b := 6) eσ9 (by omega)))))))), (kq (a := 3) (b := 8) eσ73 (by omega)).trans ((kq (a := 3) (b := 8) eσ70 (by omega)).trans ((kq (a := 3) (b := 8) eσ62 (by omega)).trans (k40.trans ((kq (a := 3) (b := 8) eσ18 (by omega)).trans ((kq (a := 3) (b := 8) eσ13 (by omega)).trans ((kq (a := 3) (b := 8) eσ9 (by omega))))))))⟩) trivial
      · have f98 : (8 : Int32).toInt = 8 := by decide
        have f99 := mt Int32.toInt_inj.mp c47
        refine ⟨fun c100 => ?_, fun c100 => ?_⟩
        · have f102 : (9 : Int32).toInt = 9 := by decide
          have f103 := congrArg Int32.toInt c100
          unfold fX7_add_j97
          have g107 : vp_in v5 60 := inI (by omega) (by omega)
          refine ⟨g107, ?_⟩
          have hk108 : r20 (123 + v5.toNatClampNeg) := (r20_in g107)
          have hk108x := vp_lt g107
          have hk108b := r20_b hk108
          have g110 : vp_in (0 : Int32) 20 := inI (by omega) (by omega)
          refine ⟨g110, ?_⟩
          intro v111 ev111
          refine ⟨inI (by omega) (by omega), ?_⟩
          intro σ115 eσ115
          have hσ115 : K1 σ0 σ115 := by rw [eσ115]; exact hσ28.u (Rg1.ra_19 _ _) (by omega) (by omega)
          have g119 : vp_in v5 60 := inI (by omega) (by omega)
          refine ⟨g119, ?_⟩
          have hk120 : r20 (123 + v5.toNatClampNeg) := (r20_in g119)
          have hk120x := vp_lt g119
          have hk120b := r20_b hk120
          intro v121 ev121
          refine ⟨inI (by omega) (by omega), ?_⟩
          intro σ123 eσ123
          have kb124 := r20_b hk120
          have hσ123 : K1 σ0 σ123 := by rw [eσ123]; exact hσ115.u (rg_r20 hk120) (by omega) (by omega)
          unfold fX7_add_j128
          intro v125 ev125
          intro σ126 eσ126
          have f127 := tB v125
          have f128 := K1.g_6_5 hσ123
          have q129 : σ123.1 6 5 = σ115.1 6 5 := by rw [eσ123]; exact congrFun (u1_ne (by omega)) 5
          have f130 := congrArg Int32.toInt q129
          have f131 := K1.g_6_5 hσ115
          have q132 : σ115.1 6 5 = σ28.1 6 5 := by rw [eσ115]; exact congrFun (u1_ne (by decide)) 5
          have f133 := congrArg Int32.toInt q132
          have f134 := K1.g_6_5 hσ28
          have f135 := congrArg Int32.toInt k35
          have f136 := K1.g_6_5 hσ18
          have q137 : σ18.1 6 5 = σ13.1 6 5 := by rw [eσ18]; exact congrFun (u1_ne (by decide)) 5
          have f138 := congrArg Int32.toInt q137
          have f139 := K1.g_6_5 hσ13
          have q140 : σ13.1 6 5 = σ9.1 6 5 := by rw [eσ13]; exact congrFun (u1_ne (by decide)) 5
          have f141 := congrArg Int32.toInt q140
          have f142 := K1.g_6_5 hσ9
          have q143 : σ9.1 6 5 = σ.1 6 5 := by rw [eσ9]; exact congrFun (u1_ne (by decide)) 5
          have f144 := congrArg Int32.toInt q143
          have f146 : (1 : Int32).toInt = 1 := by decide
          have f147 := tA (σ123.1 6 5) (1 : Int32)
          have f148 := tB ((σ123.1 6 5) + 1)
          have f149 := congrArg Int32.toInt ev125
          have hσ126 : K1 σ0 σ126 := by rw [eσ126]; exact hσ123.u (Rg1.r_6_5 (by omega) (by omega)) (by omega) (by omega)
          exact hQ _ _ hσ126 (⟨(kq (a := 3) (b := 7) eσ126 (by omega)).trans ((kq (a := 3) (b := 7) eσ123 (by omega)).trans ((kq (a := 3) (b := 7) eσ115 (by omega)).trans (k30.trans ((kq (a := 3) (b := 7) eσ18 (by omega)).trans ((kq (a := 3) (b := 7) eσ13 (by omega)).trans ((kq (a := 3) (b := 7) eσ9 (by omega)))))))), (kq (a := 3) (b := 11) eσ126 (by omega)).trans ((kq (a := 3) (b := 11) eσ123 (by omega)).trans ((kq (a := 3) (b := 11) eσ115 (by omega)).trans (k31.trans ((kq (a := 3) (b := 11) eσ18 (by omega)).trans ((kq (a := 3) (b := 11) eσ13 (by omega)).trans ((kq (a := 3) (b := 11) eσ9 (by omega)))))))), (kq (a := 3) (b := 6) eσ126 (by omega)).trans ((kq (a := 3) (b := 6) eσ123 (by omega)).trans ((kq (a := 3) (b := 6) eσ115 (by omega)).trans (k32.trans ((kq (a := 3) (b := 6) eσ18 (by omega)).trans ((kq (a := 3) (b := 6) eσ13 (by omega)).trans ((kq (a := 3) (b := 6) eσ9 (by omega)))))))), (kq (a := 9) (b := 9) eσ126 (by omega)).trans ((kq (a := 9) (b := 9) eσ123 (by omega)).trans ((kq (a := 9) (b := 9) eσ115 (by omega)).trans (k33.trans ((kq (a := 9) (b := 9) eσ18 (by omega)).trans ((kq (a := 9) (b := 9) eσ13 (by omega)).trans ((kq (a := 9) (b := 9) eσ9 (by omega)))))))), (kq (a := 9) (b := 10) eσ126 (by omega)).trans ((kq (a := 9) (b := 10) eσ123 (by omega)).trans ((kq (a := 9) (b := 10) eσ115 (by omega)).trans (k34.trans ((kq (a := 9) (b := 10) eσ18 (by omega)).trans ((kq (a := 9) (b := 10) eσ13 (by omega)).trans ((kq (a := 9) (b := 10) eσ9 (by omega)))))))), (kq (a := 7) (b := 4) eσ126 (by omega)).trans ((kq (a := 7) (b := 4) eσ123 (by omega)).trans ((kq (a := 7) (b := 4) eσ115 (by omega)).trans (k36.trans ((kq (a := 7) (b := 4) eσ18 (by omega)).trans ((kq (a := 7) (b := 4) eσ13 (by omega)).trans ((kq (a := 7) (b := 4) eσ9 (by omega)))))))), (kq (a := 2) (b := 4) eσ126 (by omega)).trans ((kq (a := 2) (b := 4) eσ123 (by omega)).trans ((kq (a := 2) (b := 4) eσ115 (by omega)).trans (k37.trans ((kq (a := 2) (b := 4) eσ18 (by omega)).trans ((kq (a := 2) (b := 4) eσ13 (by omega)).trans ((kq (a := 2) (b := 4) eσ9 (by omega)))))))), (kq (a := 2) (b := 5) eσ126 (by omega)).trans ((kq (a := 2) (b := 5) eσ123 (by omega)).trans ((kq (a := 2) (b := 5) eσ115 (by omega)).trans (k38.trans ((kq (a := 2) (b := 5) eσ18 (by omega)).trans ((kq (a := 2) (b := 5) eσ13 (by omega)).trans ((kq (a := 2) (b := 5) eσ9 (by omega)))))))), (kq (a := 2) (b := 6) eσ126 (by omega)).trans ((kq (a := 2) (b := 6) eσ123 (by omega)).trans ((kq (a := 2) (b := 6) eσ115 (by omega)).trans (k39.trans ((kq (a := 2) (b := 6) eσ18 (by omega)).trans ((kq (a := 2) (b := 6) eσ13 (by omega)).trans ((kq (a := 2) (b := 6) eσ9 (by omega)))))))), (kq (a := 3) (b := 8) eσ126 (by omega)).trans ((kq (a := 3) (b := 8) eσ123 (by omega)).trans ((kq (a := 3) (b := 8) eσ115 (by omega)).trans (k40.trans ((kq (a := 3) (b := 8) eσ18 (by omega)).trans ((kq (a := 3) (b := 8) eσ13 (by omega)).trans ((kq (a := 3) (b := 8) eσ9 (by omega))))))))⟩) trivial
        · have f151 : (9 : Int32).toInt = 9 := by decide
          have f152 := mt Int32.toInt_inj.mp c100
          unfold fX7_add_j128
          intro v153 ev153
          intro σ154 eσ154
          have f155 := tB v153
          have f156 := K1.g_6_5 hσ28
          have f157 := congrArg Int32.toInt k35
          have f158 := K1.g_6_5 hσ18
          have q159 : σ18.1 6 5 = σ13.1 6 5 := by rw [eσ18]; exact congrFun (u1_ne (by decide)) 5
          have f160 := congrArg Int32.toInt q159
          have f161 := K1.g_6_5 hσ13
          have q162 : σ13.1 6 5 = σ9.1 6 5 := by rw [eσ13]; exact congrFun (u1_ne (by decide)) 5
          have f163 := congrArg Int32.toInt q162
          have f164 := K1.g_6_5 hσ9
          have q165 : σ9.1 6 5 = σ.1 6 5 := by rw [eσ9]; exact congrFun (u1_ne (by decide)) 5
          have f166 := congrArg Int32.toInt q165
          have f168 : (1 : Int32).toInt = 1 := by decide
          have f169 := tA (σ28.1 6 5) (1 : Int32)
          have f170 := tB ((σ28.1 6 5) + 1)
          have f171 := congrArg Int32.toInt ev153
          have hσ154 : K1 σ0 σ154 := by rw [eσ154]; exact hσ28.u (Rg1.r_6_5 (by omega) (by omega)) (by omega) (by omega)
          exact hQ _ _ hσ154 (⟨(kq (a := 3) (b := 7) eσ154 (by omega)).trans (k30.trans ((kq (a := 3) (b := 7) eσ18 (by omega)).trans ((kq (a := 3) (b := 7) eσ13 (by omega)).trans ((kq (a := 3) (b := 7) eσ9 (by omega)))))), (kq (a := 3) (b := 11) eσ154 (by omega)).trans (k31.trans ((kq (a := 3) (b := 11) eσ18 (by omega)).trans ((kq (a := 3) (b := 11) eσ13 (by omega)).trans ((kq (a := 3) (b := 11) eσ9 (by omega)))))), (kq (a := 3) (b := 6) eσ154 (by omega)).trans (k32.trans ((kq (a := 3) (b := 6) eσ18 (by omega)).trans ((kq (a := 3) (b := 6) eσ13 (by omega)).trans ((kq (a := 3) (b := 6) eσ9 (by omega)))))), (kq (a := 9) (b := 9) eσ154 (by omega)).trans (k33.trans ((kq (a := 9) (b := 9) eσ18 (by omega)).trans ((kq (a := 9) (b := 9) eσ13 (by omega)).trans ((kq (a := 9) (b := 9) eσ9 (by omega)))))), (kq (a := 9) (b := 10) eσ154 (by omega)).trans (k34.trans ((kq (a := 9) (b := 10) eσ18 (by omega)).trans ((kq (a := 9) (b := 10) eσ13 (by omega)).trans ((kq (a := 9) (b := 10) eσ9 (by omega)))))), (kq (a := 7) (b := 4) eσ154 (by omega)).trans (k36.trans ((kq (a := 7) (b := 4) eσ18 (by omega)).trans ((kq (a := 7) (b := 4) eσ13 (by omega)).trans ((kq (a := 7) (b := 4) eσ9 (by omega)))))), (kq (a := 2) (b := 4) eσ154 (by omega)).trans (k37.trans ((kq (a := 2) (b := 4) eσ18 (by omega)).trans ((kq (a := 2) (b := 4) eσ13 (by omega)).trans ((kq (a := 2) (b := 4) eσ9 (by omega)))))), (kq (a := 2) (b := 5) eσ154 (by omega)).trans (k38.trans ((kq (a := 2) (b := 5) eσ18 (by omega)).trans ((kq (a := 2) (b := 5) eσ13 (by omega)).trans ((kq (a := 2) (b := 5) eσ9 (by omega)))))), (kq (a := 2) (b := 6) eσ154 (by omega)).trans (k39.trans ((kq (a := 2) (b := 6) eσ18 (by omega)).trans ((kq (a := 2) (b := 6) eσ13 (by omega)).trans ((kq (a := 2) (b := 6) eσ9 (by omega)))))), (kq (a := 3) (b := 8) eσ154 (by omega)).trans (k40.trans ((kq (a := 3) (b := 8) eσ18 (by omega)).trans ((kq (a := 3) (b := 8) eσ13 (by omega)).trans ((kq (a := 3) (b := 8) eσ9 (by omega))))))⟩) trivial
    · have f174 := mt Int32.le_iff_toInt_le.mpr c43
      refine ⟨fun c175 => ?_, fun c175 => ?_⟩
      · have f176 : (20 : Int32).toInt = 20 := by decide
        have f178 := Int32.le_iff_toInt_le.mp c175
        unfold fX7_add_j85
        refine ⟨fun c179 => ?_, fun c179 => ?_⟩
        · have f181 : (8 : Int32).toInt = 8 := by decide
          have f182 := congrArg Int32.toInt c179
          unfold fX7_add_j97
          have g186 : vp_in v5 60 := inI (by omega) (by omega)
          refine ⟨g186, ?_⟩
          have hk187 : r20 (123 + v5.toNatClampNeg) := (r20_in g186)
          have hk187x := vp_lt g186
          have hk187b := r20_b hk187
          have g189 : vp_in (0 : Int32) 20 := inI (by omega) (by omega)
          refine ⟨g189, ?_⟩
          intro v190 ev190
          refine ⟨inI (by omega) (by omega), ?_⟩
          intro σ194 eσ194
          have hσ194 : K1 σ0 σ194 := by rw [eσ194]; exact hσ28.u (Rg1.ra_19 _ _) (by omega) (by omega)
          have g198 : vp_in v5 60 := inI (by omega) (by omega)
          refine ⟨g198, ?_⟩
          have hk199 : r20 (123 + v5.toNatClampNeg) := (r20_in g198)
          have hk199x := vp_lt g198
          have hk199b := r20_b hk199
          intro v200 ev200
          refine ⟨inI (by omega) (by omega), ?_⟩
          intro σ202 eσ202
          have kb203 := r20_b hk199
          have hσ202 : K1 σ0 σ202 := by rw [eσ202]; exact hσ194.u (rg_r20 hk199) (by omega) (by omega)
          unfold fX7_add_j128
          intro v204 ev204
          intro σ205 eσ205
          have f206 := tB v204
          have f207 := K1.g_6_5 hσ202
          have q208 : σ202.1 6 5 = σ194.1 6 5 := by rw [eσ202]; exact congrFun (u1_ne (by omega)) 5
          have f209 := congrArg Int32.toInt q208
          have f210 := K1.g_6_5 hσ194
          have q211 : σ194.1 6 5 = σ28.1 6 5 := by rw [eσ194]; exact congrFun (u1_ne (by decide)) 5
          have f212 := congrArg Int32.toInt q211
          have f213 := K1.g_6_5 hσ28
          have f214 := congrArg Int32.toInt k35
          have f215 := K1.g_6_5 hσ18
          have q216 : σ18.1 6 5 = σ13.1 6 5 := by rw [eσ18]; exact congrFun (u1_ne (by decide)) 5
          have f217 := congrArg Int32.toInt q216
          have f218 := K1.g_6_5 hσ13
          have q219 : σ13.1 6 5 = σ9.1 6 5 := by rw [eσ13]; exact congrFun (u1_ne (by decide)) 5
          have f220 := congrArg Int32.toInt q219
          have f221 := K1.g_6_5 hσ9
          have q222 : σ9.1 6 5 = σ.1 6 5 := by rw [eσ9]; exact congrFun (u1_ne (by decide)) 5
          have f223 := congrArg Int32.toInt q222
          have f225 : (1 : Int32).toInt = 1 := by decide
          have f226 := tA (σ202.1 6 5) (1 : Int32)
          have f227 := tB ((σ202.1 6 5) + 1)
          have f228 := congrArg Int32.toInt ev204
          have hσ205 : K1 σ0 σ205 := by rw [eσ205]; exact hσ202.u (Rg1.r_6_5 (by omega) (by omega)) (by omega) (by omega)
          exact hQ _ _ hσ205 (⟨(kq (a := 3) (b := 7) eσ205 (by omega)).trans ((kq (a := 3) (b := 7) eσ202 (by omega)).trans ((kq (a := 3) (b := 7) eσ194 (by omega)).trans (k30.trans ((kq (a := 3) (b := 7) eσ18 (by omega)).trans ((kq (a := 3) (b := 7) eσ13 (by omega)).trans ((kq (a := 3) (b := 7) eσ9 (by omega)))))))), (kq (a := 3) (b := 11) eσ205 (by omega)).trans ((kq (a := 3) (b := 11) eσ202 (by omega)).trans ((kq (a := 3) (b := 11) eσ194 (by omega)).trans (k31.trans ((kq (a := 3) (b := 11) eσ18 (by omega)).trans ((kq (a := 3) (b := 11) eσ13 (by omega)).trans ((kq (a := 3) (b := 11) eσ9 (by omega)))))))), (kq (a := 3) (b := 6) eσ205 (by omega)).trans ((kq (a := 3) (b := 6) eσ202 (by omega)).trans ((kq (a := 3) (b := 6) eσ194 (by omega)).trans (k32.trans ((kq (a := 3) (b := 6) eσ18 (by omega)).trans ((kq (a := 3) (b := 6) eσ13 (by omega)).trans ((kq (a := 3) (b := 6) eσ9 (by omega)))))))), (kq (a := 9) (b := 9) eσ205 (by omega)).trans ((kq (a := 9) (b := 9) eσ202 (by omega)).trans ((kq (a := 9) (b := 9) eσ194 (by omega)).trans (k33.trans ((kq (a := 9) (b := 9) eσ18 (by omega)).trans ((kq (a := 9) (b := 9) eσ13 (by omega)).trans ((kq (a := 9) (b := 9) eσ9 (by omega)))))))), (kq (a := 9) (b := 10) eσ205 (by omega)).trans ((kq (a := 9) (b := 10) eσ202 (by omega)).trans ((kq (a := 9) (b := 10) eσ194 (by omega)).trans (k34.trans ((kq (a := 9) (b := 10) eσ18 (by omega)).trans ((kq (a := 9) (b := 10) eσ13 (by omega)).trans ((kq (a := 9) (b := 10) eσ9 (by omega)))))))), (kq (a := 7) (b := 4) eσ205 (by omega)).trans ((kq (a := 7) (b := 4) eσ202 (by omega)).trans ((kq (a := 7) (b := 4) eσ194 (by omega)).trans (k36.trans ((kq (a := 7) (b := 4) eσ18 (by omega)).trans ((kq (a := 7) (b := 4) eσ13 (by omega)).trans ((kq (a := 7) (b := 4) eσ9 (by omega)))))))), (kq (a := 2) (b := 4) eσ205 (by omega)).trans ((kq (a := 2) (b := 4) eσ202 (by omega)).trans ((kq (a := 2) (b := 4) eσ194 (by omega)).trans (k37.trans ((kq (a := 2) (b := 4) eσ18 (by omega)).trans ((kq (a := 2) (b := 4) eσ13 (by omega)).trans ((kq (a := 2) (b := 4) eσ9 (by omega)))))))), (kq (a := 2) (b := 5) eσ205 (by omega)).trans ((kq (a := 2) (b := 5) eσ202 (by omega)).trans ((kq (a := 2) (b := 5) eσ194 (by omega)).trans (k38.trans ((kq (a := 2) (b := 5) eσ18 (by omega)).trans ((kq (a := 2) (b := 5) eσ13 (by omega)).trans ((kq (a := 2) (b := 5) eσ9 (by omega)))))))), (kq (a := 2) (b := 6) eσ205 (by omega)).trans ((kq (a := 2) (b := 6) eσ202 (by omega)).trans ((kq (a := 2) (b := 6) eσ194 (by omega)).trans (k39.trans ((kq (a := 2) (b := 6) eσ18 (by omega)).trans ((kq (a := 2) (b := 6) eσ13 (by omega)).trans ((kq (a := 2) (b := 6) eσ9 (by omega)))))))), (kq (a := 3) (b := 8) eσ205 (by omega)).trans ((kq (a := 3) (b := 8) eσ202 (by omega)).trans ((kq (a := 3) (b := 8) eσ194 (by omega)).trans (k40.trans ((kq (a := 3) (b := 8) eσ18 (by omega)).trans ((kq (a := 3) (b := 8) eσ13 (by omega)).trans ((kq (a := 3) (b := 8) eσ9 (by omega))))))))⟩) trivial
        · have f230 : (8 : Int32).toInt = 8 := by decide
          have f231 := mt Int32.toInt_inj.mp c179
          refine ⟨fun c232 => ?_, fun c232 => ?_⟩
          · have f234 : (9 : Int32).toInt = 9 := by decide
            have f235 := congrArg Int32.toInt c232
            unfold fX7_add_j97
            have g239 : vp_in v5 60 := inI (by omega) (by omega)
            refine ⟨g239, ?_⟩
            have hk240 : r20 (123 + v5.toNatClampNeg) := (r20_in g239)
            have hk240x := vp_lt g239
            have hk240b := r20_b hk240
            have g242 : vp_in (0 : Int32) 20 := inI (by omega) (by omega)
            refine ⟨g242, ?_⟩
            intro v243 ev243
            refine ⟨inI (by omega) (by omega), ?_⟩
            intro σ247 eσ247
            have hσ247 : K1 σ0 σ247 := by rw [eσ247]; exact hσ28.u (Rg1.ra_19 _ _) (by omega) (by omega)
            have g251 : vp_in v5 60 := inI (by omega) (by omega)
            refine ⟨g251, ?_⟩
            have hk252 : r20 (123 + v5.toNatClampNeg) := (r20_in g251)
            have hk252x := vp_lt g251
            have hk252b := r20_b hk252
            intro v253 ev253
            refine ⟨inI (by omega) (by omega), ?_⟩
            intro σ255 eσ255
            have kb256 := r20_b hk252
            have hσ255 : K1 σ0 σ255 := by rw [eσ255]; exact hσ247.u (rg_r20 hk252) (by omega) (by omega)
            unfold fX7_add_j128
            intro v257 ev257
            intro σ258 eσ258
            have f259 := tB v257
            have f260 := K1.g_6_5 hσ255
            have q261 : σ255.1 6 5 = σ247.1 6 5 := by rw [eσ255]; exact congrFun (u1_ne (by omega)) 5
            have f262 := congrArg Int32.toInt q261
            have f263 := K1.g_6_5 hσ247
            have q264 : σ247.1 6 5 = σ28.1 6 5 := by rw [eσ247]; exact congrFun (u1_ne (by decide)) 5
            have f265 := congrArg Int32.toInt q264
            have f266 := K1.g_6_5 hσ28
            have f267 := congrArg Int32.toInt k35
            have f268 := K1.g_6_5 hσ18
            have q269 : σ18.1 6 5 = σ13.1 6 5 := by rw [eσ18]; exact congrFun (u1_ne (by decide)) 5
            have f270 := congrArg Int32.toInt q269
            have f271 := K1.g_6_5 hσ13
            have q272 : σ13.1 6 5 = σ9.1 6 5 := by rw [eσ13]; exact congrFun (u1_ne (by decide)) 5
            have f273 := congrArg Int32.toInt q272
            have f274 := K1.g_6_5 hσ9
            have q275 : σ9.1 6 5 = σ.1 6 5 := by rw [eσ9]; exact congrFun (u1_ne (by decide)) 5
            have f276 := congrArg Int32.toInt q275
            have f278 : (1 : Int32).toInt = 1 := by decide
            have f279 := tA (σ255.1 6 5) (1 : Int32)
            have f280 := tB ((σ255.1 6 5) + 1)
            have f281 := congrArg Int32.toInt ev257
            have hσ258 : K1 σ0 σ258 := by rw [eσ258]; exact hσ255.u (Rg1.r_6_5 (by omega) (by omega)) (by omega) (by omega)
            exact hQ _ _ hσ258 (⟨(kq (a := 3) (b := 7) eσ258 (by omega)).trans ((kq (a := 3) (b := 7) eσ255 (by omega)).trans ((kq (a := 3) (b := 7) eσ247 (by omega)).trans (k30.trans ((kq (a := 3) (b := 7) eσ18 (by omega)).trans ((kq (a := 3) (b := 7) eσ13 (by omega)).trans ((kq (a := 3) (b := 7) eσ9 (by omega)))))))), (kq (a := 3) (b := 11) eσ258 (by omega)).trans ((kq (a := 3) (b := 11) eσ255 (by omega)).trans ((kq (a := 3) (b := 11) eσ247 (by omega)).trans (k31.trans ((kq (a := 3) (b := 11) eσ18 (by omega)).trans ((kq (a := 3) (b := 11) eσ13 (by omega)).trans ((kq (a := 3) (b := 11) eσ9 (by omega)))))))), (kq (a := 3) (b := 6) eσ258 (by omega)).trans ((kq (a := 3) (b := 6) eσ255 (by omega)).trans ((kq (a := 3) (b := 6) eσ247 (by omega)).trans (k32.trans ((kq (a := 3) (b := 6) eσ18 (by omega)).trans ((kq (a := 3) (b := 6) eσ13 (by omega)).trans ((kq (a := 3) (b := 6) eσ9 (by omega)))))))), (kq (a := 9) (b := 9) eσ258 (by omega)).trans ((kq (a := 9) (b := 9) eσ255 (by omega)).trans ((kq (a := 9) (b := 9) eσ247 (by omega)).trans (k33.trans ((kq (a := 9) (b := 9) eσ18 (by omega)).trans ((kq (a := 9) (b := 9) eσ13 (by omega)).trans ((kq (a := 9) (b := 9) eσ9 (by omega)))))))), (kq (a := 9) (b := 10) eσ258 (by omega)).trans ((kq (a := 9) (b := 10) eσ255 (by omega)).trans ((kq (a := 9) (b := 10) eσ247 (by omega)).trans (k34.trans ((kq (a := 9) (b := 10) eσ18 (by omega)).trans ((kq (a := 9) (b := 10) eσ13 (by omega)).trans ((kq (a := 9) (b := 10) eσ9 (by omega)))))))), (kq (a := 7) (b := 4) eσ258 (by omega)).trans ((kq (a := 7) (b := 4) eσ255 (by omega)).trans ((kq (a := 7) (b := 4) eσ247 (by omega)).trans (k36.trans ((kq (a := 7) (b := 4) eσ18 (by omega)).trans ((kq (a := 7) (b := 4) eσ13 (by omega)).trans ((kq (a := 7) (b := 4) eσ9 (by omega)))))))), (kq (a := 2) (b := 4) eσ258 (by omega)).trans ((kq (a := 2) (b := 4) eσ255 (by omega)).trans ((kq (a := 2) (b := 4) eσ247 (by omega)).trans (k37.trans ((kq (a := 2) (b := 4) eσ18 (by omega)).trans ((kq (a := 2) (b := 4) eσ13 (by omega)).trans ((kq (a := 2) (b := 4) eσ9 (by omega)))))))), (kq (a := 2) (b := 5) eσ258 (by omega)).trans ((kq (a := 2) (b := 5) eσ255 (by omega)).trans ((kq (a := 2) (b := 5) eσ247 (by omega)).trans (k38.trans ((kq (a := 2) (b := 5) eσ18 (by omega)).trans ((kq (a := 2) (b := 5) eσ13 (by omega)).trans ((kq (a := 2) (b := 5) eσ9 (by omega)))))))), (kq (a := 2) (b := 6) eσ258 (by omega)).trans ((kq (a := 2) (b := 6) eσ255 (by omega)).trans ((kq (a := 2) (b := 6) eσ247 (by omega)).trans (k39.trans ((kq (a := 2) (b := 6) eσ18 (by omega)).trans ((kq (a := 2) (b := 6) eσ13 (by omega)).trans ((kq (a := 2) (b := 6) eσ9 (by omega)))))))), (kq (a := 3) (b := 8) eσ258 (by omega)).trans ((kq (a := 3) (b := 8) eσ255 (by omega)).trans ((kq (a := 3) (b := 8) eσ247 (by omega)).trans (k40.trans ((kq (a := 3) (b := 8) eσ18 (by omega)).trans ((kq (a := 3) (b := 8) eσ13 (by omega)).trans ((kq (a := 3) (b := 8) eσ9 (by omega))))))))⟩) trivial
          · have f283 : (9 : Int32).toInt = 9 := by decide
            have f284 := mt Int32.toInt_inj.mp c232
            unfold fX7_add_j128
            intro v285 ev285
            intro σ286 eσ286
            have f287 := tB v285
            have f288 := K1.g_6_5 hσ28
            have f289 := congrArg Int32.toInt k35
            have f290 := K1.g_6_5 hσ18
            have q291 : σ18.1 6 5 = σ13.1 6 5 := by rw [eσ18]; exact congrFun (u1_ne (by decide)) 5
            have f292 := congrArg Int32.toInt q291
            have f293 := K1.g_6_5 hσ13
            have q294 : σ13.1 6 5 = σ9.1 6 5 := by rw [eσ13]; exact congrFun (u1_ne (by decide)) 5
            have f295 := congrArg Int32.toInt q294
            have f296 := K1.g_6_5 hσ9
            have q297 : σ9.1 6 5 = σ.1 6 5 := by rw [eσ9]; exact congrFun (u1_ne (by decide)) 5
            have f298 := congrArg Int32.toInt q297
            have f300 : (1 : Int32).toInt = 1 := by decide
            have f301 := tA (σ28.1 6 5) (1 : Int32)
            have f302 := tB ((σ28.1 6 5) + 1)
            have f303 := congrArg Int32.toInt ev285
            have hσ286 : K1 σ0 σ286 := by rw [eσ286]; exact hσ28.u (Rg1.r_6_5 (by omega) (by omega)) (by omega) (by omega)
            exact hQ _ _ hσ286 (⟨(kq (a := 3) (b := 7) eσ286 (by omega)).trans (k30.trans ((kq (a := 3) (b := 7) eσ18 (by omega)).trans ((kq (a := 3) (b := 7) eσ13 (by omega)).trans ((kq (a := 3) (b := 7) eσ9 (by omega)))))), (kq (a := 3) (b := 11) eσ286 (by omega)).trans (k31.trans ((kq (a := 3) (b := 11) eσ18 (by omega)).trans ((kq (a := 3) (b := 11) eσ13 (by omega)).trans ((kq (a := 3) (b := 11) eσ9 (by omega)))))), (kq (a := 3) (b := 6) eσ286 (by omega)).trans (k32.trans ((kq (a := 3) (b := 6) eσ18 (by omega)).trans ((kq (a := 3) (b := 6) eσ13 (by omega)).trans ((kq (a := 3) (b := 6) eσ9 (by omega)))))), (kq (a := 9) (b := 9) eσ286 (by omega)).trans (k33.trans ((kq (a := 9) (b := 9) eσ18 (by omega)).trans ((kq (a := 9) (b := 9) eσ13 (by omega)).trans ((kq (a := 9) (b := 9) eσ9 (by omega)))))), (kq (a := 9) (b := 10) eσ286 (by omega)).trans (k34.trans ((kq (a := 9) (b := 10) eσ18 (by omega)).trans ((kq (a := 9) (b := 10) eσ13 (by omega)).trans ((kq (a := 9) (b := 10) eσ9 (by omega)))))), (kq (a := 7) (b := 4) eσ286 (by omega)).trans (k36.trans ((kq (a := 7) (b := 4) eσ18 (by omega)).trans ((kq (a := 7) (b := 4) eσ13 (by omega)).trans ((kq (a := 7) (b := 4) eσ9 (by omega)))))), (kq (a := 2) (b := 4) eσ286 (by omega)).trans (k37.trans ((kq (a := 2) (b := 4) eσ18 (by omega)).trans ((kq (a := 2) (b := 4) eσ13 (by omega)).trans ((kq (a := 2) (b := 4) eσ9 (by omega)))))), (kq (a := 2) (b := 5) eσ286 (by omega)).trans (k38.trans ((kq (a := 2) (b := 5) eσ18 (by omega)).trans ((kq (a := 2) (b := 5) eσ13 (by omega)).trans ((kq (a := 2) (b := 5) eσ9 (by omega)))))), (kq (a := 2) (b := 6) eσ286 (by omega)).trans (k39.trans ((kq (a := 2) (b := 6) eσ18 (by omega)).trans ((kq (a := 2) (b := 6) eσ13 (by omega)).trans ((kq (a := 2) (b := 6) eσ9 (by omega)))))), (kq (a := 3) (b := 8) eσ286 (by omega)).trans (k40.trans ((kq (a := 3) (b := 8) eσ18 (by omega)).trans ((kq (a := 3) (b := 8) eσ13 (by omega)).trans ((kq (a := 3) (b := 8) eσ9 (by omega))))))⟩) trivial
      · have f304 : (20 : Int32).toInt = 20 := by decide
        have f306 := mt Int32.le_iff_toInt_le.mpr c175
        refine ⟨fun c307 => ?_, fun c307 => ?_⟩
        · have f308 : (120 : Int32).toInt = 120 := by decide
          have f310 := Int32.le_iff_toInt_le.mp c307
          unfold fX7_add_j85
          refine ⟨fun c311 => ?_, fun c311 => ?_⟩
          · have f313 : (8 : Int32).toInt = 8 := by decide
            have f314 := congrArg Int32.toInt c311
            unfold fX7_add_j97
            have g318 : vp_in v5 60 := inI (by omega) (by omega)
            refine ⟨g318, ?_⟩
            have hk319 : r20 (123 + v5.toNatClampNeg) := (r20_in g318)
            have hk319x := vp_lt g318
            have hk319b := r20_b hk319
            have g321 : vp_in (0 : Int32) 20 := inI (by omega) (by omega)
            refine ⟨g321, ?_⟩
            intro v322 ev322
            refine ⟨inI (by omega) (by omega), ?_⟩
            intro σ326 eσ326
            have hσ326 : K1 σ0 σ326 := by rw [eσ326]; exact hσ28.u (Rg1.ra_19 _ _) (by omega) (by omega)
            have g330 : vp_in v5 60 := inI (by omega) (by omega)
            refine ⟨g330, ?_⟩
            have hk331 : r20 (123 + v5.toNatClampNeg) := (r20_in g330)
            have hk331x := vp_lt g330
            have hk331b := r20_b hk331
            intro v332 ev332
            refine ⟨inI (by omega) (by omega), ?_⟩
            intro σ334 eσ334
            have kb335 := r20_b hk331
            have hσ334 : K1 σ0 σ334 := by rw [eσ334]; exact hσ326.u (rg_r20 hk331) (by omega) (by omega)
            unfold fX7_add_j128
            intro v336 ev336
            intro σ337 eσ337
            have f338 := tB v336
            have f339 := K1.g_6_5 hσ334
            have q340 : σ334.1 6 5 = σ326.1 6 5 := by rw [eσ334]; exact congrFun (u1_ne (by omega)) 5
            have f341 := congrArg Int32.toInt q340
            have f342 := K1.g_6_5 hσ326
            have q343 : σ326.1 6 5 = σ28.1 6 5 := by rw [eσ326]; exact congrFun (u1_ne (by decide)) 5
            have f344 := congrArg Int32.toInt q343
            have f345 := K1.g_6_5 hσ28
            have f346 := congrArg Int32.toInt k35
            have f347 := K1.g_6_5 hσ18
            have q348 : σ18.1 6 5 = σ13.1 6 5 := by rw [eσ18]; exact congrFun (u1_ne (by decide)) 5
            have f349 := congrArg Int32.toInt q348
            have f350 := K1.g_6_5 hσ13
            have q351 : σ13.1 6 5 = σ9.1 6 5 := by rw [eσ13]; exact congrFun (u1_ne (by decide)) 5
            have f352 := congrArg Int32.toInt q351
            have f353 := K1.g_6_5 hσ9
            have q354 : σ9.1 6 5 = σ.1 6 5 := by rw [eσ9]; exact congrFun (u1_ne (by decide)) 5
            have f355 := congrArg Int32.toInt q354
            have f357 : (1 : Int32).toInt = 1 := by decide
            have f358 := tA (σ334.1 6 5) (1 : Int32)
            have f359 := tB ((σ334.1 6 5) + 1)
            have f360 := congrArg Int32.toInt ev336
            have hσ337 : K1 σ0 σ337 := by rw [eσ337]; exact hσ334.u (Rg1.r_6_5 (by omega) (by omega)) (by omega) (by omega)
            exact hQ _ _ hσ337 (⟨(kq (a := 3) (b := 7) eσ337 (by omega)).trans ((kq (a := 3) (b := 7) eσ334 (by omega)).trans ((kq (a := 3) (b := 7) eσ326 (by omega)).trans (k30.trans ((kq (a := 3) (b := 7) eσ18 (by omega)).trans ((kq (a := 3) (b := 7) eσ13 (by omega)).trans ((kq (a := 3) (b := 7) eσ9 (by omega)))))))), (kq (a := 3) (b := 11) eσ337 (by omega)).trans ((kq (a := 3) (b := 11) eσ334 (by omega)).trans ((kq (a := 3) (b := 11) eσ326 (by omega)).trans (k31.trans ((kq (a := 3) (b := 11) eσ18 (by omega)).trans ((kq (a := 3) (b := 11) eσ13 (by omega)).trans ((kq (a := 3) (b := 11) eσ9 (by omega)))))))), (kq (a := 3) (b := 6) eσ337 (by omega)).trans ((kq (a := 3) (b := 6) eσ334 (by omega)).trans ((kq (a := 3) (b := 6) eσ326 (by omega)).trans (k32.trans ((kq (a := 3) (b := 6) eσ18 (by omega)).trans ((kq (a := 3) (b := 6) eσ13 (by omega)).trans ((kq (a := 3) (b := 6) eσ9 (by omega)))))))), (kq (a := 9) (b := 9) eσ337 (by omega)).trans ((kq (a := 9) (b := 9) eσ334 (by omega)).trans ((kq (a := 9) (b := 9) eσ326 (by omega)).trans (k33.trans ((kq (a := 9) (b := 9) eσ18 (by omega)).trans ((kq (a := 9) (b := 9) eσ13 (by omega)).trans ((kq (a := 9) (b := 9) eσ9 (by omega)))))))), (kq (a := 9) (b := 10) eσ337 (by omega)).trans ((kq (a := 9) (b := 10) eσ334 (by omega)).trans ((kq (a := 9) (b := 10) eσ326 (by omega)).trans (k34.trans ((kq (a := 9) (b := 10) eσ18 (by omega)).trans ((kq (a := 9) (b := 10) eσ13 (by omega)).trans ((kq (a := 9) (b := 10) eσ9 (by omega)))))))), (kq (a := 7) (b := 4) eσ337 (by omega)).trans ((kq (a := 7) (b := 4) eσ334 (by omega)).trans ((kq (a := 7) (b := 4) eσ326 (by omega)).trans (k36.trans ((kq (a := 7) (b := 4) eσ18 (by omega)).trans ((kq (a := 7) (b := 4) eσ13 (by omega)).trans ((kq (a := 7) (b := 4) eσ9 (by omega)))))))), (kq (a := 2) (b := 4) eσ337 (by omega)).trans ((kq (a := 2) (b := 4) eσ334 (by omega)).trans ((kq (a := 2) (b := 4) eσ326 (by omega)).trans (k37.trans ((kq (a := 2) (b := 4) eσ18 (by omega)).trans ((kq (a := 2) (b := 4) eσ13 (by omega)).trans ((kq (a := 2) (b := 4) eσ9 (by omega)))))))), (kq (a := 2) (b := 5) eσ337 (by omega)).trans ((kq (a := 2) (b := 5) eσ334 (by omega)).trans ((kq (a := 2) (b := 5) eσ326 (by omega)).trans (k38.trans ((kq (a := 2) (b := 5) eσ18 (by omega)).trans ((kq (a := 2) (b := 5) eσ13 (by omega)).trans ((kq (a := 2) (b := 5) eσ9 (by omega)))))))), (kq (a := 2) (b := 6) eσ337 (by omega)).trans ((kq (a := 2) (b := 6) eσ334 (by omega)).trans ((kq (a := 2) (b := 6) eσ326 (by omega)).trans (k39.trans ((kq (a := 2) (b := 6) eσ18 (by omega)).trans ((kq (a := 2) (b := 6) eσ13 (by omega)).trans ((kq (a := 2) (b := 6) eσ9 (by omega)))))))), (kq (a := 3) (b := 8) eσ337 (by omega)).trans ((kq (a := 3) (b := 8) eσ334 (by omega)).trans ((kq (a := 3) (b := 8) eσ326 (by omega)).trans (k40.trans ((kq (a := 3) (b := 8) eσ18 (by omega)).trans ((kq (a := 3) (b := 8) eσ13 (by omega)).trans ((kq (a := 3) (b := 8) eσ9 (by omega))))))))⟩) trivial
          · have f362 : (8 : Int32).toInt = 8 := by decide
            have f363 := mt Int32.toInt_inj.mp c311
            refine ⟨fun c364 => ?_, fun c364 => ?_⟩
            · have f366 : (9 : Int32).toInt = 9 := by decide
              have f367 := congrArg Int32.toInt c364
              unfold fX7_add_j97
              have g371 : vp_in v5 60 := inI (by omega) (by omega)
              refine ⟨g371, ?_⟩
              have hk372 : r20 (123 + v5.toNatClampNeg) := (r20_in g371)
              have hk372x := vp_lt g371
              have hk372b := r20_b hk372
              have g374 : vp_in (0 : Int32) 20 := inI (by omega) (by omega)
              refine ⟨g374, ?_⟩
              intro v375 ev375
              refine ⟨inI (by omega) (by omega), ?_⟩
              intro σ379 eσ379
              have hσ379 : K1 σ0 σ379 := by rw [eσ379]; exact hσ28.u (Rg1.ra_19 _ _) (by omega) (by omega)
              have g383 : vp_in v5 60 := inI (by omega) (by omega)
              refine ⟨g383, ?_⟩
              have hk384 : r20 (123 + v5.toNatClampNeg) := (r20_in g383)
              have hk384x := vp_lt g383
              have hk384b := r20_b hk384
              intro v385 ev385
              refine ⟨inI (by omega) (by omega), ?_⟩
              intro σ387 eσ387
              have kb388 := r20_b hk384
              have hσ387 : K1 σ0 σ387 := by rw [eσ387]; exact hσ379.u (rg_r20 hk384) (by omega) (by omega)
              unfold fX7_add_j128
              intro v389 ev389
              intro σ390 eσ390
              have f391 := tB v389
              have f392 := K1.g_6_5 hσ387
              have q393 : σ387.1 6 5 = σ379.1 6 5 := by rw [eσ387]; exact congrFun (u1_ne (by omega)) 5
              have f394 := congrArg Int32.toInt q393
              have f395 := K1.g_6_5 hσ379
              have q396 : σ379.1 6 5 = σ28.1 6 5 := by rw [eσ379]; exact congrFun (u1_ne (by decide)) 5
              have f397 := congrArg Int32.toInt q396
              have f398 := K1.g_6_5 hσ28
              have f399 := congrArg Int32.toInt k35
              have f400 := K1.g_6_5 hσ18
              have q401 : σ18.1 6 5 = σ13.1 6 5 := by rw [eσ18]; exact congrFun (u1_ne (by decide)) 5
              have f402 := congrArg Int32.toInt q401
              have f403 := K1.g_6_5 hσ13
              have q404 : σ13.1 6 5 = σ9.1 6 5 := by rw [eσ13]; exact congrFun (u1_ne (by decide)) 5
              have f405 := congrArg Int32.toInt q404
              have f406 := K1.g_6_5 hσ9
              have q407 : σ9.1 6 5 = σ.1 6 5 := by rw [eσ9]; exact congrFun (u1_ne (by decide)) 5
              have f408 := congrArg Int32.toInt q407
              have f410 : (1 : Int32).toInt = 1 := by decide
              have f411 := tA (σ387.1 6 5) (1 : Int32)
              have f412 := tB ((σ387.1 6 5) + 1)
              have f413 := congrArg Int32.toInt ev389
              have hσ390 : K1 σ0 σ390 := by rw [eσ390]; exact hσ387.u (Rg1.r_6_5 (by omega) (by omega)) (by omega) (by omega)
              exact hQ _ _ hσ390 (⟨(kq (a := 3) (b := 7) eσ390 (by omega)).trans ((kq (a := 3) (b := 7) eσ387 (by omega)).trans ((kq (a := 3) (b := 7) eσ379 (by omega)).trans (k30.trans ((kq (a := 3) (b := 7) eσ18 (by omega)).trans ((kq (a := 3) (b := 7) eσ13 (by omega)).trans ((kq (a := 3) (b := 7) eσ9 (by omega)))))))), (kq (a := 3) (b := 11) eσ390 (by omega)).trans ((kq (a := 3) (b := 11) eσ387 (by omega)).trans ((kq (a := 3) (b := 11) eσ379 (by omega)).trans (k31.trans ((kq (a := 3) (b := 11) eσ18 (by omega)).trans ((kq (a := 3) (b := 11) eσ13 (by omega)).trans ((kq (a := 3) (b := 11) eσ9 (by omega)))))))), (kq (a := 3) (b := 6) eσ390 (by omega)).trans ((kq (a := 3) (b := 6) eσ387 (by omega)).trans ((kq (a := 3) (b := 6) eσ379 (by omega)).trans (k32.trans ((kq (a := 3) (b := 6) eσ18 (by omega)).trans ((kq (a := 3) (b := 6) eσ13 (by omega)).trans ((kq (a := 3) (b := 6) eσ9 (by omega)))))))), (kq (a := 9) (b := 9) eσ390 (by omega)).trans ((kq (a := 9) (b := 9) eσ387 (by omega)).trans ((kq (a := 9) (b := 9) eσ379 (by omega)).trans (k33.trans ((kq (a := 9) (b := 9) eσ18 (by omega)).trans ((kq (a := 9) (b := 9) eσ13 (by omega)).trans ((kq (a := 9) (b := 9) eσ9 (by omega)))))))), (kq (a := 9) (b := 10) eσ390 (by omega)).trans ((kq (a := 9) (b := 10) eσ387 (by omega)).trans ((kq (a := 9) (b := 10) eσ379 (by omega)).trans (k34.trans ((kq (a := 9) (b := 10) eσ18 (by omega)).trans ((kq (a := 9) (b := 10) eσ13 (by omega)).trans ((kq (a := 9) (b := 10) eσ9 (by omega)))))))), (kq (a := 7) (b := 4) eσ390 (by omega)).trans ((kq (a := 7) (b := 4) eσ387 (by omega)).trans ((kq (a := 7) (b := 4) eσ379 (by omega)).trans (k36.trans ((kq (a := 7) (b := 4) eσ18 (by omega)).trans ((kq (a := 7) (b := 4) eσ13 (by omega)).trans ((kq (a := 7) (b := 4) eσ9 (by omega)))))))), (kq (a := 2) (b := 4) eσ390 (by omega)).trans ((kq (a := 2) (b := 4) eσ387 (by omega)).trans ((kq (a := 2) (b := 4) eσ379 (by omega)).trans (k37.trans ((kq (a := 2) (b := 4) eσ18 (by omega)).trans ((kq (a := 2) (b := 4) eσ13 (by omega)).trans ((kq (a := 2) (b := 4) eσ9 (by omega)))))))), (kq (a := 2) (b := 5) eσ390 (by omega)).trans ((kq (a := 2) (b := 5) eσ387 (by omega)).trans ((kq (a := 2) (b := 5) eσ379 (by omega)).trans (k38.trans ((kq (a := 2) (b := 5) eσ18 (by omega)).trans ((kq (a := 2) (b := 5) eσ13 (by omega)).trans ((kq (a := 2) (b := 5) eσ9 (by omega)))))))), (kq (a := 2) (b := 6) eσ390 (by omega)).trans ((kq (a := 2) (b := 6) eσ387 (by omega)).trans ((kq (a := 2) (b := 6) eσ379 (by omega)).trans (k39.trans ((kq (a := 2) (b := 6) eσ18 (by omega)).trans ((kq (a := 2) (b := 6) eσ13 (by omega)).trans ((kq (a := 2) (b := 6) eσ9 (by omega)))))))), (kq (a := 3) (b := 8) eσ390 (by omega)).trans ((kq (a := 3) (b := 8) eσ387 (by omega)).trans ((kq (a := 3) (b := 8) eσ379 (by omega)).trans (k40.trans ((kq (a := 3) (b := 8) eσ18 (by omega)).trans ((kq (a := 3) (b := 8) eσ13 (by omega)).trans ((kq (a := 3) (b := 8) eσ9 (by omega))))))))⟩) trivial
            · have f415 : (9 : Int32).toInt = 9 := by decide
              have f416 := mt Int32.toInt_inj.mp c364
              unfold fX7_add_j128
              intro v417 ev417
              intro σ418 eσ418
              have f419 := tB v417
              have f420 := K1.g_6_5 hσ28
              have f421 := congrArg Int32.toInt k35
              have f422 := K1.g_6_5 hσ18
              have q423 : σ18.1 6 5 = σ13.1 6 5 := by rw [eσ18]; exact congrFun (u1_ne (by decide)) 5
              have f424 := congrArg Int32.toInt q423
              have f425 := K1.g_6_5 hσ13
              have q426 : σ13.1 6 5 = σ9.1 6 5 := by rw [eσ13]; exact congrFun (u1_ne (by decide)) 5
              have f427 := congrArg Int32.toInt q426
              have f428 := K1.g_6_5 hσ9
              have q429 : σ9.1 6 5 = σ.1 6 5 := by rw [eσ9]; exact congrFun (u1_ne (by decide)) 5
              have f430 := congrArg Int32.toInt q429
              have f432 : (1 : Int32).toInt = 1 := by decide
              have f433 := tA (σ28.1 6 5) (1 : Int32)
              have f434 := tB ((σ28.1 6 5) + 1)
              have f435 := congrArg Int32.toInt ev417
              have hσ418 : K1 σ0 σ418 := by rw [eσ418]; exact hσ28.u (Rg1.r_6_5 (by omega) (by omega)) (by omega) (by omega)
              exact hQ _ _ hσ418 (⟨(kq (a := 3) (b := 7) eσ418 (by omega)).trans (k30.trans ((kq (a := 3) (b := 7) eσ18 (by omega)).trans ((kq (a := 3) (b := 7) eσ13 (by omega)).trans ((kq (a := 3) (b := 7) eσ9 (by omega)))))), (kq (a := 3) (b := 11) eσ418 (by omega)).trans (k31.trans ((kq (a := 3) (b := 11) eσ18 (by omega)).trans ((kq (a := 3) (b := 11) eσ13 (by omega)).trans ((kq (a := 3) (b := 11) eσ9 (by omega)))))), (kq (a := 3) (b := 6) eσ418 (by omega)).trans (k32.trans ((kq (a := 3) (b := 6) eσ18 (by omega)).trans ((kq (a := 3) (b := 6) eσ13 (by omega)).trans ((kq (a := 3) (b := 6) eσ9 (by omega)))))), (kq (a := 9) (b := 9) eσ418 (by omega)).trans (k33.trans ((kq (a := 9) (b := 9) eσ18 (by omega)).trans ((kq (a := 9) (b := 9) eσ13 (by omega)).trans ((kq (a := 9) (b := 9) eσ9 (by omega)))))), (kq (a := 9) (b := 10) eσ418 (by omega)).trans (k34.trans ((kq (a := 9) (b := 10) eσ18 (by omega)).trans ((kq (a := 9) (b := 10) eσ13 (by omega)).trans ((kq (a := 9) (b := 10) eσ9 (by omega)))))), (kq (a := 7) (b := 4) eσ418 (by omega)).trans (k36.trans ((kq (a := 7) (b := 4) eσ18 (by omega)).trans ((kq (a := 7) (b := 4) eσ13 (by omega)).trans ((kq (a := 7) (b := 4) eσ9 (by omega)))))), (kq (a := 2) (b := 4) eσ418 (by omega)).trans (k37.trans ((kq (a := 2) (b := 4) eσ18 (by omega)).trans ((kq (a := 2) (b := 4) eσ13 (by omega)).trans ((kq (a := 2) (b := 4) eσ9 (by omega)))))), (kq (a := 2) (b := 5) eσ418 (by omega)).trans (k38.trans ((kq (a := 2) (b := 5) eσ18 (by omega)).trans ((kq (a := 2) (b := 5) eσ13 (by omega)).trans ((kq (a := 2) (b := 5) eσ9 (by omega)))))), (kq (a := 2) (b := 6) eσ418 (by omega)).trans (k39.trans ((kq (a := 2) (b := 6) eσ18 (by omega)).trans ((kq (a := 2) (b := 6) eσ13 (by omega)).trans ((kq (a := 2) (b := 6) eσ9 (by omega)))))), (kq (a := 3) (b := 8) eσ418 (by omega)).trans (k40.trans ((kq (a := 3) (b := 8) eσ18 (by omega)).trans ((kq (a := 3) (b := 8) eσ13 (by omega)).trans ((kq (a := 3) (b := 8) eσ9 (by omega))))))⟩) trivial
        · have f436 : (120 : Int32).toInt = 120 := by decide
          have f438 := mt Int32.le_iff_toInt_le.mpr c307
          have g442 : vp_in v5 60 := inI (by omega) (by omega)
          refine ⟨g442, ?_⟩
          have hk443 : r20 (123 + v5.toNatClampNeg) := (r20_in g442)
          have hk443x := vp_lt g442
          have hk443b := r20_b hk443
          have g445 : vp_in y29 120 := inI (by omega) (by omega)
          refine ⟨g445, ?_⟩
          intro v446 ev446
          refine ⟨inI (by omega) (by omega), ?_⟩
          intro σ448 eσ448
          have kb449 := r20_b hk443
          have hσ448 : K1 σ0 σ448 := by rw [eσ448]; exact hσ28.u (rg_r20 hk443) (by omega) (by omega)
          intro v450 ev450
          have f451 := tB v450
          have f453 : (1 : Int32).toInt = 1 := by decide
          have f454 := tA y29 (1 : Int32)
          have f455 := tB (y29 + 1)
          have f456 := congrArg Int32.toInt ev450
          exact ih27 v450 σ448 ⟨hσ448, (kq (a := 3) (b := 7) eσ448 (by omega)).trans (k30), (kq (a := 3) (b := 11) eσ448 (by omega)).trans (k31), (kq (a := 3) (b := 6) eσ448 (by omega)).trans (k32), (kq (a := 9) (b := 9) eσ448 (by omega)).trans (k33), (kq (a := 9) (b := 10) eσ448 (by omega)).trans (k34), (kq (a := 6) (b := 5) eσ448 (by omega)).trans (k35), (kq (a := 7) (b := 4) eσ448 (by omega)).trans (k36), (kq (a := 2) (b := 4) eσ448 (by omega)).trans (k37), (kq (a := 2) (b := 5) eσ448 (by omega)).trans (k38), (kq (a := 2) (b := 6) eσ448 (by omega)).trans (k39), (kq (a := 3) (b := 8) eσ448 (by omega)).trans (k40), by omega⟩ (by (try dsimp only); omega)
  · have f457 := K1.g_6_5 hσ
    have f458 : (60 : Int32).toInt = 60 := by decide
    have f459 := mt Int32.lt_iff_toInt_lt.mpr c1
    exact hQ _ _ hσ (⟨rfl, rfl, rfl, rfl, rfl, rfl, rfl, rfl, rfl, rfl⟩) trivial
