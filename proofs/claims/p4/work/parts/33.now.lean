set_option maxHeartbeats 4000000 in
theorem sX0_addLeaf {N : Nat} (hN : 4294967400 ≤ N) {x1 : Int32} {x2 : Int32} {x3 : Int32} {Q : St → Prop} {σ0 σ : St} (hp1 : -1 ≤ x1.toInt ∧ x1.toInt ≤ 59) (hs9_9 : 0 ≤ (σ.1 9 9).toInt ∧ (σ.1 9 9).toInt ≤ 61) (hσ : K1 σ0 σ) (hQ : ∀ τ : St, K1 σ0 τ → (τ.1 3 7 = σ.1 3 7 ∧ τ.1 3 11 = σ.1 3 11 ∧ τ.1 3 6 = σ.1 3 6 ∧ τ.1 6 5 = σ.1 6 5 ∧ τ.1 7 4 = σ.1 7 4 ∧ τ.1 2 4 = σ.1 2 4 ∧ τ.1 2 5 = σ.1 2 5 ∧ τ.1 2 6 = σ.1 2 6 ∧ τ.1 3 8 = σ.1 3 8 ∧ (0 ≤ (τ.1 9 9).toInt ∧ (τ.1 9 9).toInt ≤ 61)) → Q τ) : fX0_addLeaf N x1 x2 x3 Q σ := by
  unfold fX0_addLeaf
  refine ⟨fun c1 => ?_, fun c1 => ?_⟩
  · have f2 := K1.g_9_9 hσ
    first | have f3 := (ltE (rfl : (σ.1 9 9).toInt = (σ.1 9 9).toInt) (show (61 : Int32).toInt = 61 from by decide)).mp c1 | skip
    refine ⟨inE (rfl : (σ.1 9 9).toInt = (σ.1 9 9).toInt) (by omega) (by omega), ?_⟩
    intro σ5 eσ5
    have f6 := tB x1
    have hσ5 : K1 σ0 σ5 := by rw [eσ5]; exact hσ.u (Rg1.ra_34 (leP (rfl : x1.toInt = x1.toInt) (by omega)) (geP (rfl : x1.toInt = x1.toInt) (by omega))) (fun q => absurd q.1 (by decide)) (fun q => absurd q.1 (by decide))
    unfold fX0_addKnot
    have f7 := K1.g_9_9 hσ5
    have q8 : σ5.1 9 9 = σ.1 9 9 := by rw [eσ5]; exact congrFun (u1_ne (by decide)) 9
    have f9 := congrArg Int32.toInt q8
    refine ⟨inE (rfl : (σ5.1 9 9).toInt = (σ5.1 9 9).toInt) (by omega) (by omega), ?_⟩
    intro σ11 eσ11
    have hσ11 : K1 σ0 σ11 := by rw [eσ11]; exact hσ5.u (Rg1.ra_29 _ _) (fun q => absurd q.1 (by decide)) (fun q => absurd q.1 (by decide))
    have f12 := K1.g_9_9 hσ11
    have q13 : σ11.1 9 9 = σ5.1 9 9 := by rw [eσ11]; exact congrFun (u1_ne (by decide)) 9
    have f14 := congrArg Int32.toInt q13
    refine ⟨inE (rfl : (σ11.1 9 9).toInt = (σ11.1 9 9).toInt) (by omega) (by omega), ?_⟩
    intro σ16 eσ16
    have hσ16 : K1 σ0 σ16 := by rw [eσ16]; exact hσ11.u (Rg1.ra_33 _ _) (fun q => absurd q.1 (by decide)) (fun q => absurd q.1 (by decide))
    have f17 := K1.g_9_9 hσ16
    have q18 : σ16.1 9 9 = σ11.1 9 9 := by rw [eσ16]; exact congrFun (u1_ne (by decide)) 9
    have f19 := congrArg Int32.toInt q18
    refine ⟨inE (rfl : (σ16.1 9 9).toInt = (σ16.1 9 9).toInt) (by omega) (by omega), ?_⟩
    intro σ21 eσ21
    have hσ21 : K1 σ0 σ21 := by rw [eσ21]; exact hσ16.u (Rg1.ra_30 _ _) (fun q => absurd q.1 (by decide)) (fun q => absurd q.1 (by decide))
    intro v22 ev22
    intro σ23 eσ23
    have f24 := tB v22
    have f25 := K1.g_9_9 hσ21
    have q26 : σ21.1 9 9 = σ16.1 9 9 := by rw [eσ21]; exact congrFun (u1_ne (by decide)) 9
    have f27 := congrArg Int32.toInt q26
    first | have f29 : v22.toInt = ((σ21.1 9 9).toInt + (1)) := (congrArg Int32.toInt ev22).trans (aOkE (rfl : (σ21.1 9 9).toInt = (σ21.1 9 9).toInt) (show (1 : Int32).toInt = 1 from by decide) (by omega) (by omega)) | skip
    have hσ23 : K1 σ0 σ23 := by rw [eσ23]; exact hσ21.u (Rg1.r_9_9 (leP (rfl : v22.toInt = v22.toInt) (by omega)) (geP (rfl : v22.toInt = v22.toInt) (by omega))) (fun q => absurd q.1 (by decide)) (fun q => absurd q.1 (by decide))
    try dsimp only
    intro v30 ev30
    intro σ31 eσ31
    have f32 := tB v30
    have f33 := K1.g_9_9 hσ23
    have q34 : σ23.1 9 9 = v22 := by rw [eσ23, u1_at]; exact if_pos rfl
    first | have f36 : (σ23.1 9 9).toInt = v22.toInt := (congrArg Int32.toInt q34).trans (rfl : v22.toInt = v22.toInt) | skip
    first | have f37 : v30.toInt = (σ23.1 9 9).toInt := (congrArg Int32.toInt ev30).trans (rfl : (σ23.1 9 9).toInt = (σ23.1 9 9).toInt) | skip
    have hσ31 : K1 σ0 σ31 := by rw [eσ31]; exact hσ23.u (Rg1.r_9_10 (leP (rfl : v30.toInt = v30.toInt) (by omega)) (geP (rfl : v30.toInt = v30.toInt) (by omega))) (fun q => absurd q.1 (by decide)) (fun q => absurd q.1 (by decide))
    have f38 := K1.g_9_9 hσ31
    have q39 : σ31.1 9 9 = σ23.1 9 9 := by rw [eσ31, u1_at]; exact if_neg (by decide)
    have f40 := congrArg Int32.toInt q39
    exact hQ _ hσ31 (⟨(kq (a := 3) (b := 7) eσ31 (fun q => absurd q.1 (by decide))).trans ((kq (a := 3) (b := 7) eσ23 (fun q => absurd q.1 (by decide))).trans ((kq (a := 3) (b := 7) eσ21 (fun q => absurd q.1 (by decide))).trans ((kq (a := 3) (b := 7) eσ16 (fun q => absurd q.1 (by decide))).trans ((kq (a := 3) (b := 7) eσ11 (fun q => absurd q.1 (by decide))).trans ((kq (a := 3) (b := 7) eσ5 (fun q => absurd q.1 (by decide)))))))), (kq (a := 3) (b := 11) eσ31 (fun q => absurd q.1 (by decide))).trans ((kq (a := 3) (b := 11) eσ23 (fun q => absurd q.1 (by decide))).trans ((kq (a := 3) (b := 11) eσ21 (fun q => absurd q.1 (by decide))).trans ((kq (a := 3) (b := 11) eσ16 (fun q => absurd q.1 (by decide))).trans ((kq (a := 3) (b := 11) eσ11 (fun q => absurd q.1 (by decide))).trans ((kq (a := 3) (b := 11) eσ5 (fun q => absurd q.1 (by decide)))))))), (kq (a := 3) (b := 6) eσ31 (fun q => absurd q.1 (by decide))).trans ((kq (a := 3) (b := 6) eσ23 (fun q => absurd q.1 (by decide))).trans ((kq (a := 3) (b := 6) eσ21 (fun q => absurd q.1 (by decide))).trans ((kq (a := 3) (b := 6) eσ16 (fun q => absurd q.1 (by decide))).trans ((kq (a := 3) (b := 6) eσ11 (fun q => absurd q.1 (by decide))).trans ((kq (a := 3) (b := 6) eσ5 (fun q => absurd q.1 (by decide)))))))), (kq (a := 6) (b := 5) eσ31 (fun q => absurd q.1 (by decide))).trans ((kq (a := 6) (b := 5) eσ23 (fun q => absurd q.1 (by decide))).trans ((kq (a := 6) (b := 5) eσ21 (fun q => absurd q.1 (by decide))).trans ((kq (a := 6) (b := 5) eσ16 (fun q => absurd q.1 (by decide))).trans ((kq (a := 6) (b := 5) eσ11 (fun q => absurd q.1 (by decide))).trans ((kq (a := 6) (b := 5) eσ5 (fun q => absurd q.1 (by decide)))))))), (kq (a := 7) (b := 4) eσ31 (fun q => absurd q.1 (by decide))).trans ((kq (a := 7) (b := 4) eσ23 (fun q => absurd q.1 (by decide))).trans ((kq (a := 7) (b := 4) eσ21 (fun q => absurd q.1 (by decide))).trans ((kq (a := 7) (b := 4) eσ16 (fun q => absurd q.1 (by decide))).trans ((kq (a := 7) (b := 4) eσ11 (fun q => absurd q.1 (by decide))).trans ((kq (a := 7) (b := 4) eσ5 (fun q => absurd q.1 (by decide)))))))), (kq (a := 2) (b := 4) eσ31 (fun q => absurd q.1 (by decide))).trans ((kq (a := 2) (b := 4) eσ23 (fun q => absurd q.1 (by decide))).trans ((kq (a := 2) (b := 4) eσ21 (fun q => absurd q.1 (by decide))).trans ((kq (a := 2) (b := 4) eσ16 (fun q => absurd q.1 (by decide))).trans ((kq (a := 2) (b := 4) eσ11 (fun q => absurd q.1 (by decide))).trans ((kq (a := 2) (b := 4) eσ5 (fun q => absurd q.1 (by decide)))))))), (kq (a := 2) (b := 5) eσ31 (fun q => absurd q.1 (by decide))).trans ((kq (a := 2) (b := 5) eσ23 (fun q => absurd q.1 (by decide))).trans ((kq (a := 2) (b := 5) eσ21 (fun q => absurd q.1 (by decide))).trans ((kq (a := 2) (b := 5) eσ16 (fun q => absurd q.1 (by decide))).trans ((kq (a := 2) (b := 5) eσ11 (fun q => absurd q.1 (by decide))).trans ((kq (a := 2) (b := 5) eσ5 (fun q => absurd q.1 (by decide)))))))), (kq (a := 2) (b := 6) eσ31 (fun q => absurd q.1 (by decide))).trans ((kq (a := 2) (b := 6) eσ23 (fun q => absurd q.1 (by decide))).trans ((kq (a := 2) (b := 6) eσ21 (fun q => absurd q.1 (by decide))).trans ((kq (a := 2) (b := 6) eσ16 (fun q => absurd q.1 (by decide))).trans ((kq (a := 2) (b := 6) eσ11 (fun q => absurd q.1 (by decide))).trans ((kq (a := 2) (b := 6) eσ5 (fun q => absurd q.1 (by decide)))))))), (kq (a := 3) (b := 8) eσ31 (fun q => absurd q.1 (by decide))).trans ((kq (a := 3) (b := 8) eσ23 (fun q => absurd q.1 (by decide))).trans ((kq (a := 3) (b := 8) eσ21 (fun q => absurd q.1 (by decide))).trans ((kq (a := 3) (b := 8) eσ16 (fun q => absurd q.1 (by decide))).trans ((kq (a := 3) (b := 8) eσ11 (fun q => absurd q.1 (by decide))).trans ((kq (a := 3) (b := 8) eσ5 (fun q => absurd q.1 (by decide)))))))), ⟨by omega, by omega⟩⟩)
  · have f42 := K1.g_9_9 hσ
    first | have f43 := (notltE (rfl : (σ.1 9 9).toInt = (σ.1 9 9).toInt) (show (61 : Int32).toInt = 61 from by decide)).mp c1 | skip
    exact hQ _ hσ (⟨rfl, rfl, rfl, rfl, rfl, rfl, rfl, rfl, rfl, ⟨by omega, by omega⟩⟩)
set_option maxHeartbeats 4000000 in
theorem sX7_nodeSize {N : Nat} (hN : 4294967400 ≤ N) {x1 : Int32} {Q : Int32 → St → Prop} {σ0 σ : St} (hp1 : 0 ≤ x1.toInt ∧ x1.toInt ≤ 59) (hσ : K1 σ0 σ) (hQ : ∀ r : Int32, True → Q r σ) : fX7_nodeSize N x1 Q σ := by
  unfold fX7_nodeSize
  have f1 := tB x1
  have g2 : vp_in x1 60 := inE (rfl : x1.toInt = x1.toInt) (by omega) (by omega)
  refine ⟨g2, ?_⟩
  intro v3 ev3
  refine ⟨fun c4 => ?_, fun c4 => ?_⟩
  · have f5 := tB v3
    have f6 := tB (σ.1 18 x1.toNatClampNeg)
    first | have f7 : v3.toInt = (σ.1 18 x1.toNatClampNeg).toInt := (congrArg Int32.toInt ev3).trans (rfl : (σ.1 18 x1.toNatClampNeg).toInt = (σ.1 18 x1.toNatClampNeg).toInt) | skip
    first | have f8 := (eqE (rfl : v3.toInt = v3.toInt) (show (2 : Int32).toInt = 2 from by decide)).mp c4 | skip
    exact hQ _ trivial
  · have f9 := tB v3
    have f10 := tB (σ.1 18 x1.toNatClampNeg)
    first | have f11 : v3.toInt = (σ.1 18 x1.toNatClampNeg).toInt := (congrArg Int32.toInt ev3).trans (rfl : (σ.1 18 x1.toNatClampNeg).toInt = (σ.1 18 x1.toNatClampNeg).toInt) | skip
    first | have f12 := (noteqE (rfl : v3.toInt = v3.toInt) (show (2 : Int32).toInt = 2 from by decide)).mp c4 | skip
    refine ⟨fun c13 => ?_, fun c13 => ?_⟩
    · first | have f15 := (eqE (rfl : v3.toInt = v3.toInt) (show (3 : Int32).toInt = 3 from by decide)).mp c13 | skip
      have g17 : vp_in x1 60 := inE (rfl : x1.toInt = x1.toInt) (by omega) (by omega)
      refine ⟨g17, ?_⟩
      exact hQ _ trivial
    · first | have f19 := (noteqE (rfl : v3.toInt = v3.toInt) (show (3 : Int32).toInt = 3 from by decide)).mp c13 | skip
      refine ⟨fun c20 => ?_, fun c20 => ?_⟩
      · first | have f22 := (eqE (rfl : v3.toInt = v3.toInt) (show (5 : Int32).toInt = 5 from by decide)).mp c20 | skip
        have g24 : vp_in x1 60 := inE (rfl : x1.toInt = x1.toInt) (by omega) (by omega)
        refine ⟨g24, ?_⟩
        exact hQ _ trivial
      · first | have f26 := (noteqE (rfl : v3.toInt = v3.toInt) (show (5 : Int32).toInt = 5 from by decide)).mp c20 | skip
        unfold fX7_nodeSize_j62
        exact hQ _ trivial
set_option maxHeartbeats 4000000 in
theorem sX0_takeLeast {N : Nat} (hN : 4294967400 ≤ N) {Q : Int32 → St → Prop} {σ0 σ : St} (hσ : K1 σ0 σ) (hQ : ∀ (r : Int32) (τ : St), K1 σ0 τ → (τ.1 3 7 = σ.1 3 7 ∧ τ.1 3 11 = σ.1 3 11 ∧ τ.1 3 6 = σ.1 3 6 ∧ τ.1 9 9 = σ.1 9 9 ∧ τ.1 9 10 = σ.1 9 10 ∧ τ.1 6 5 = σ.1 6 5 ∧ τ.1 7 4 = σ.1 7 4 ∧ τ.1 2 4 = σ.1 2 4 ∧ τ.1 2 5 = σ.1 2 5 ∧ τ.1 2 6 = σ.1 2 6 ∧ τ.1 3 8 = σ.1 3 8) → (-1) ≤ r.toInt ∧ r.toInt ≤ 120 → Q r τ) : fX0_takeLeast N  Q σ := by
  unfold fX0_takeLeast
  refine lo2_i (fun (y1 : Int32) (y2 : Int32) (τ : St) => K1 σ0 τ ∧ τ.1 3 7 = σ.1 3 7 ∧ τ.1 3 11 = σ.1 3 11 ∧ τ.1 3 6 = σ.1 3 6 ∧ τ.1 9 9 = σ.1 9 9 ∧ τ.1 9 10 = σ.1 9 10 ∧ τ.1 6 5 = σ.1 6 5 ∧ τ.1 7 4 = σ.1 7 4 ∧ τ.1 2 4 = σ.1 2 4 ∧ τ.1 2 5 = σ.1 2 5 ∧ τ.1 2 6 = σ.1 2 6 ∧ τ.1 3 8 = σ.1 3 8 ∧ 0 ≤ y2.toInt ∧ -1 ≤ y1.toInt ∧ y1.toInt ≤ 120) (fun (y1 : Int32) (y2 : Int32) (τ : St) => (2147483648 - y2.toInt).toNat) ?_ N ((-1) : Int32) (0 : Int32) σ ⟨hσ, rfl, rfl, rfl, rfl, rfl, rfl, rfl, rfl, rfl, rfl, rfl, by first | decide | omega, by first | decide | omega, by first | decide | omega⟩ (by have z0 : (0 : Int32).toInt = 0 := (by decide); (try dsimp only); omega)
  intro rr3 y6 y7 σ5 hIσ5 ih4
  obtain ⟨hσ5, k8, k9, k10, k11, k12, k13, k14, k15, k16, k17, k18, i19, i20, i21⟩ := hIσ5
  unfold fX0_takeLeast_l4
  have f22 := tB y6
  have f23 := tB y7
  refine ⟨fun c24 => ?_, fun c24 => ?_⟩
  · have f25 := K1.g_9_9 hσ5
    have f26 := congrArg Int32.toInt k11
    have f27 := K1.g_9_9 hσ
    first | have f29 := (leE (rfl : (σ5.1 9 9).toInt = (σ5.1 9 9).toInt) (rfl : y7.toInt = y7.toInt)).mp c24 | skip
    refine ⟨fun c30 => ?_, fun c30 => ?_⟩
    · first | have f32 := (ltE (rfl : y6.toInt = y6.toInt) (show (0 : Int32).toInt = 0 from by decide)).mp c30 | skip
      exact hQ _ _ hσ5 (⟨k8, k9, k10, k11, k12, k13, k14, k15, k16, k17, k18⟩) ⟨leP (rfl : y6.toInt = y6.toInt) (by omega), geP (rfl : y6.toInt = y6.toInt) (by omega)⟩
    · first | have f35 := (notltE (rfl : y6.toInt = y6.toInt) (show (0 : Int32).toInt = 0 from by decide)).mp c30 | skip
      refine ⟨inE (rfl : y6.toInt = y6.toInt) (by omega) (by omega), ?_⟩
      intro σ37 eσ37
      have hσ37 : K1 σ0 σ37 := by rw [eσ37]; exact hσ5.u (Rg1.ra_30 _ _) (fun q => absurd q.1 (by decide)) (fun q => absurd q.1 (by decide))
      exact hQ _ _ hσ37 (⟨(kq (a := 3) (b := 7) eσ37 (fun q => absurd q.1 (by decide))).trans (k8), (kq (a := 3) (b := 11) eσ37 (fun q => absurd q.1 (by decide))).trans (k9), (kq (a := 3) (b := 6) eσ37 (fun q => absurd q.1 (by decide))).trans (k10), (kq (a := 9) (b := 9) eσ37 (fun q => absurd q.1 (by decide))).trans (k11), (kq (a := 9) (b := 10) eσ37 (fun q => absurd q.1 (by decide))).trans (k12), (kq (a := 6) (b := 5) eσ37 (fun q => absurd q.1 (by decide))).trans (k13), (kq (a := 7) (b := 4) eσ37 (fun q => absurd q.1 (by decide))).trans (k14), (kq (a := 2) (b := 4) eσ37 (fun q => absurd q.1 (by decide))).trans (k15), (kq (a := 2) (b := 5) eσ37 (fun q => absurd q.1 (by decide))).trans (k16), (kq (a := 2) (b := 6) eσ37 (fun q => absurd q.1 (by decide))).trans (k17), (kq (a := 3) (b := 8) eσ37 (fun q => absurd q.1 (by decide))).trans (k18)⟩) ⟨leP (rfl : y6.toInt = y6.toInt) (by omega), geP (rfl : y6.toInt = y6.toInt) (by omega)⟩
  · have f39 := K1.g_9_9 hσ5
    have f40 := congrArg Int32.toInt k11
    have f41 := K1.g_9_9 hσ
    first | have f43 := (notleE (rfl : (σ5.1 9 9).toInt = (σ5.1 9 9).toInt) (rfl : y7.toInt = y7.toInt)).mp c24 | skip
    have g45 : vp_in y7 121 := inE (rfl : y7.toInt = y7.toInt) (by omega) (by omega)
    refine ⟨g45, ?_⟩
    refine ⟨fun c46 => ?_, fun c46 => ?_⟩
    · have f47 := tB (σ5.1 30 y7.toNatClampNeg)
      first | have f48 := (eqE (rfl : (σ5.1 30 y7.toNatClampNeg).toInt = (σ5.1 30 y7.toNatClampNeg).toInt) (show (0 : Int32).toInt = 0 from by decide)).mp c46 | skip
      refine ⟨fun c49 => ?_, fun c49 => ?_⟩
      · first | have f51 := (ltE (rfl : y6.toInt = y6.toInt) (show (0 : Int32).toInt = 0 from by decide)).mp c49 | skip
        unfold fX0_takeLeast_j40
        unfold fX0_takeLeast_j42
        intro v52 ev52
        have f54 := tB v52
        first | have f56 : v52.toInt = (y7.toInt + (1)) := (congrArg Int32.toInt ev52).trans (aOkE (rfl : y7.toInt = y7.toInt) (show (1 : Int32).toInt = 1 from by decide) (by omega) (by omega)) | skip
        exact ih4 y7 v52 σ5 ⟨hσ5, k8, k9, k10, k11, k12, k13, k14, k15, k16, k17, k18, by omega, by omega, by omega⟩ (by (try dsimp only); omega)
      · first | have f58 := (notltE (rfl : y6.toInt = y6.toInt) (show (0 : Int32).toInt = 0 from by decide)).mp c49 | skip
        have g60 : vp_in y7 121 := inE (rfl : y7.toInt = y7.toInt) (by omega) (by omega)
        refine ⟨g60, ?_⟩
        have g62 : vp_in y6 121 := inE (rfl : y6.toInt = y6.toInt) (by omega) (by omega)
        refine ⟨g62, ?_⟩
        refine ⟨fun c63 => ?_, fun c63 => ?_⟩
        · have f64 := tB (σ5.1 29 y6.toNatClampNeg)
          have f65 := tB (σ5.1 29 y7.toNatClampNeg)
          first | have f66 := (leE (rfl : (σ5.1 29 y6.toNatClampNeg).toInt = (σ5.1 29 y6.toNatClampNeg).toInt) (rfl : (σ5.1 29 y7.toNatClampNeg).toInt = (σ5.1 29 y7.toNatClampNeg).toInt)).mp c63 | skip
          unfold fX0_takeLeast_j42
          intro v67 ev67
          have f69 := tB v67
          first | have f71 : v67.toInt = (y7.toInt + (1)) := (congrArg Int32.toInt ev67).trans (aOkE (rfl : y7.toInt = y7.toInt) (show (1 : Int32).toInt = 1 from by decide) (by omega) (by omega)) | skip
          exact ih4 y6 v67 σ5 ⟨hσ5, k8, k9, k10, k11, k12, k13, k14, k15, k16, k17, k18, by omega, by omega, by omega⟩ (by (try dsimp only); omega)
        · have f72 := tB (σ5.1 29 y6.toNatClampNeg)
          have f73 := tB (σ5.1 29 y7.toNatClampNeg)
          first | have f74 := (notleE (rfl : (σ5.1 29 y6.toNatClampNeg).toInt = (σ5.1 29 y6.toNatClampNeg).toInt) (rfl : (σ5.1 29 y7.toNatClampNeg).toInt = (σ5.1 29 y7.toNatClampNeg).toInt)).mp c63 | skip
          unfold fX0_takeLeast_j40
          unfold fX0_takeLeast_j42
          intro v75 ev75
          have f77 := tB v75
          first | have f79 : v75.toInt = (y7.toInt + (1)) := (congrArg Int32.toInt ev75).trans (aOkE (rfl : y7.toInt = y7.toInt) (show (1 : Int32).toInt = 1 from by decide) (by omega) (by omega)) | skip
          exact ih4 y7 v75 σ5 ⟨hσ5, k8, k9, k10, k11, k12, k13, k14, k15, k16, k17, k18, by omega, by omega, by omega⟩ (by (try dsimp only); omega)
    · have f80 := tB (σ5.1 30 y7.toNatClampNeg)
      first | have f81 := (noteqE (rfl : (σ5.1 30 y7.toNatClampNeg).toInt = (σ5.1 30 y7.toNatClampNeg).toInt) (show (0 : Int32).toInt = 0 from by decide)).mp c46 | skip
      unfold fX0_takeLeast_j42
      intro v82 ev82
      have f84 := tB v82
      first | have f86 : v82.toInt = (y7.toInt + (1)) := (congrArg Int32.toInt ev82).trans (aOkE (rfl : y7.toInt = y7.toInt) (show (1 : Int32).toInt = 1 from by decide) (by omega) (by omega)) | skip
      exact ih4 y6 v82 σ5 ⟨hσ5, k8, k9, k10, k11, k12, k13, k14, k15, k16, k17, k18, by omega, by omega, by omega⟩ (by (try dsimp only); omega)
set_option maxHeartbeats 4000000 in
theorem sX0_joinAll {N : Nat} (hN : 4294967400 ≤ N) {Q : St → Prop} {σ0 σ : St} (hσ : K1 σ0 σ) (hQ : ∀ τ : St, K1 σ0 τ → (τ.1 3 7 = σ.1 3 7 ∧ τ.1 3 11 = σ.1 3 11 ∧ τ.1 3 6 = σ.1 3 6 ∧ τ.1 9 10 = σ.1 9 10 ∧ τ.1 6 5 = σ.1 6 5 ∧ τ.1 7 4 = σ.1 7 4 ∧ τ.1 2 4 = σ.1 2 4 ∧ τ.1 2 5 = σ.1 2 5 ∧ τ.1 2 6 = σ.1 2 6 ∧ τ.1 3 8 = σ.1 3 8) → Q τ) : fX0_joinAll N  Q σ := by
  unfold fX0_joinAll
  intro v1 ev1
  have f3 := tB v1
  have f4 := K1.g_9_10 hσ
  first | have f5 : v1.toInt = (σ.1 9 10).toInt := (congrArg Int32.toInt ev1).trans (rfl : (σ.1 9 10).toInt = (σ.1 9 10).toInt) | skip
  refine lo1_i (fun (y2 : Int32) (τ : St) => K1 σ0 τ ∧ τ.1 3 7 = σ.1 3 7 ∧ τ.1 3 11 = σ.1 3 11 ∧ τ.1 3 6 = σ.1 3 6 ∧ τ.1 9 10 = σ.1 9 10 ∧ τ.1 6 5 = σ.1 6 5 ∧ τ.1 7 4 = σ.1 7 4 ∧ τ.1 2 4 = σ.1 2 4 ∧ τ.1 2 5 = σ.1 2 5 ∧ τ.1 2 6 = σ.1 2 6 ∧ τ.1 3 8 = σ.1 3 8 ∧ 0 ≤ y2.toInt) (fun (y2 : Int32) (τ : St) => (y2.toInt + 2147483649).toNat) ?_ N v1 σ ⟨hσ, rfl, rfl, rfl, rfl, rfl, rfl, rfl, rfl, rfl, rfl, by first | decide | omega⟩ (by (try dsimp only); omega)
  intro rr6 y9 σ8 hIσ8 ih7
  obtain ⟨hσ8, k10, k11, k12, k13, k14, k15, k16, k17, k18, k19, i20⟩ := hIσ8
  unfold fX0_joinAll_l5
  have f21 := tB y9
  refine ⟨fun c22 => ?_, fun c22 => ?_⟩
  · first | have f24 := (ltE (rfl : y9.toInt = y9.toInt) (show (2 : Int32).toInt = 2 from by decide)).mp c22 | skip
    exact hQ _ hσ8 (⟨k10, k11, k12, k13, k14, k15, k16, k17, k18, k19⟩)
  · first | have f26 := (notltE (rfl : y9.toInt = y9.toInt) (show (2 : Int32).toInt = 2 from by decide)).mp c22 | skip
    refine ⟨fun c27 => ?_, fun c27 => ?_⟩
    · have f28 := K1.g_9_9 hσ8
      first | have f29 := (leE (show (121 : Int32).toInt = 121 from by decide) (rfl : (σ8.1 9 9).toInt = (σ8.1 9 9).toInt)).mp c27 | skip
      exact hQ _ hσ8 (⟨k10, k11, k12, k13, k14, k15, k16, k17, k18, k19⟩)
    · have f30 := K1.g_9_9 hσ8
      first | have f31 := (notleE (show (121 : Int32).toInt = 121 from by decide) (rfl : (σ8.1 9 9).toInt = (σ8.1 9 9).toInt)).mp c27 | skip
      refine sX0_takeLeast hN hσ8 (fun r45 σ32 hσ32 kk44 p46 => ?_)
      obtain ⟨k33, k34, k35, k36, k37, k38, k39, k40, k41, k42, k43⟩ := kk44
      refine sX0_takeLeast hN hσ32 (fun r60 σ47 hσ47 kk59 p61 => ?_)
      obtain ⟨k48, k49, k50, k51, k52, k53, k54, k55, k56, k57, k58⟩ := kk59
      refine ⟨fun c62 => ?_, fun c62 => ?_⟩
      · have f63 := tB r45
        first | have f64 := (ltE (rfl : r45.toInt = r45.toInt) (show (0 : Int32).toInt = 0 from by decide)).mp c62 | skip
        exact hQ _ hσ47 (⟨k48.trans (k33.trans (k10)), k49.trans (k34.trans (k11)), k50.trans (k35.trans (k12)), k52.trans (k37.trans (k13)), k53.trans (k38.trans (k14)), k54.trans (k39.trans (k15)), k55.trans (k40.trans (k16)), k56.trans (k41.trans (k17)), k57.trans (k42.trans (k18)), k58.trans (k43.trans (k19))⟩)
      · have f65 := tB r45
        first | have f66 := (notltE (rfl : r45.toInt = r45.toInt) (show (0 : Int32).toInt = 0 from by decide)).mp c62 | skip
        refine ⟨fun c67 => ?_, fun c67 => ?_⟩
        · have f68 := tB r60
          first | have f69 := (leE (show (0 : Int32).toInt = 0 from by decide) (rfl : r60.toInt = r60.toInt)).mp c67 | skip
          have f70 := K1.g_9_9 hσ47
          have f71 := congrArg Int32.toInt k51
          have f72 := K1.g_9_9 hσ32
          have f73 := congrArg Int32.toInt k36
          refine ⟨inE (rfl : (σ47.1 9 9).toInt = (σ47.1 9 9).toInt) (by omega) (by omega), ?_⟩
          intro σ75 eσ75
          have hσ75 : K1 σ0 σ75 := by rw [eσ75]; exact hσ47.u (Rg1.ra_31 (leP (rfl : r45.toInt = r45.toInt) (by omega)) (geP (rfl : r45.toInt = r45.toInt) (by omega))) (fun q => absurd q.1 (by decide)) (fun q => absurd q.1 (by decide))
          have f77 := K1.g_9_9 hσ75
          have q78 : σ75.1 9 9 = σ47.1 9 9 := by rw [eσ75]; exact congrFun (u1_ne (by decide)) 9
          have f79 := congrArg Int32.toInt q78
          refine ⟨inE (rfl : (σ75.1 9 9).toInt = (σ75.1 9 9).toInt) (by omega) (by omega), ?_⟩
          intro σ81 eσ81
          have hσ81 : K1 σ0 σ81 := by rw [eσ81]; exact hσ75.u (Rg1.ra_32 (leP (rfl : r60.toInt = r60.toInt) (by omega)) (geP (rfl : r60.toInt = r60.toInt) (by omega))) (fun q => absurd q.1 (by decide)) (fun q => absurd q.1 (by decide))
          have g84 : vp_in r45 121 := inE (rfl : r45.toInt = r45.toInt) (by omega) (by omega)
          refine ⟨g84, ?_⟩
          have g86 : vp_in r60 121 := inE (rfl : r60.toInt = r60.toInt) (by omega) (by omega)
          refine ⟨g86, ?_⟩
          have g88 : vp_in r45 121 := inE (rfl : r45.toInt = r45.toInt) (by omega) (by omega)
          refine ⟨g88, ?_⟩
          have g90 : vp_in r60 121 := inE (rfl : r60.toInt = r60.toInt) (by omega) (by omega)
          refine ⟨g90, ?_⟩
          unfold fX0_addKnot
          have f91 := K1.g_9_9 hσ81
          have q92 : σ81.1 9 9 = σ75.1 9 9 := by rw [eσ81]; exact congrFun (u1_ne (by decide)) 9
          have f93 := congrArg Int32.toInt q92
          refine ⟨inE (rfl : (σ81.1 9 9).toInt = (σ81.1 9 9).toInt) (by omega) (by omega), ?_⟩
          intro σ95 eσ95
          have hσ95 : K1 σ0 σ95 := by rw [eσ95]; exact hσ81.u (Rg1.ra_29 _ _) (fun q => absurd q.1 (by decide)) (fun q => absurd q.1 (by decide))
          have f96 := K1.g_9_9 hσ95
          have q97 : σ95.1 9 9 = σ81.1 9 9 := by rw [eσ95]; exact congrFun (u1_ne (by decide)) 9
          have f98 := congrArg Int32.toInt q97
          refine ⟨inE (rfl : (σ95.1 9 9).toInt = (σ95.1 9 9).toInt) (by omega) (by omega), ?_⟩
          intro σ100 eσ100
          have hσ100 : K1 σ0 σ100 := by rw [eσ100]; exact hσ95.u (Rg1.ra_33 _ _) (fun q => absurd q.1 (by decide)) (fun q => absurd q.1 (by decide))
          have f101 := K1.g_9_9 hσ100
          have q102 : σ100.1 9 9 = σ95.1 9 9 := by rw [eσ100]; exact congrFun (u1_ne (by decide)) 9
          have f103 := congrArg Int32.toInt q102
          refine ⟨inE (rfl : (σ100.1 9 9).toInt = (σ100.1 9 9).toInt) (by omega) (by omega), ?_⟩
          intro σ105 eσ105
          have hσ105 : K1 σ0 σ105 := by rw [eσ105]; exact hσ100.u (Rg1.ra_30 _ _) (fun q => absurd q.1 (by decide)) (fun q => absurd q.1 (by decide))
          intro v106 ev106
          intro σ107 eσ107
          have f108 := tB v106
          have f109 := K1.g_9_9 hσ105
          have q110 : σ105.1 9 9 = σ100.1 9 9 := by rw [eσ105]; exact congrFun (u1_ne (by decide)) 9
          have f111 := congrArg Int32.toInt q110
          first | have f113 : v106.toInt = ((σ105.1 9 9).toInt + (1)) := (congrArg Int32.toInt ev106).trans (aOkE (rfl : (σ105.1 9 9).toInt = (σ105.1 9 9).toInt) (show (1 : Int32).toInt = 1 from by decide) (by omega) (by omega)) | skip
          have hσ107 : K1 σ0 σ107 := by rw [eσ107]; exact hσ105.u (Rg1.r_9_9 (leP (rfl : v106.toInt = v106.toInt) (by omega)) (geP (rfl : v106.toInt = v106.toInt) (by omega))) (fun q => absurd q.1 (by decide)) (fun q => absurd q.1 (by decide))
          try dsimp only
          intro v114 ev114
          have f115 := tB v114
          first | have f117 : v114.toInt = (y9.toInt + (-1)) := (congrArg Int32.toInt ev114).trans (aOkE (rfl : y9.toInt = y9.toInt) (show ((-1) : Int32).toInt = -1 from by decide) (by omega) (by omega)) | skip
          exact ih7 v114 σ107 ⟨hσ107, (kq (a := 3) (b := 7) eσ107 (fun q => absurd q.1 (by decide))).trans ((kq (a := 3) (b := 7) eσ105 (fun q => absurd q.1 (by decide))).trans ((kq (a := 3) (b := 7) eσ100 (fun q => absurd q.1 (by decide))).trans ((kq (a := 3) (b := 7) eσ95 (fun q => absurd q.1 (by decide))).trans ((kq (a := 3) (b := 7) eσ81 (fun q => absurd q.1 (by decide))).trans ((kq (a := 3) (b := 7) eσ75 (fun q => absurd q.1 (by decide))).trans (k48.trans (k33.trans (k10)))))))), (kq (a := 3) (b := 11) eσ107 (fun q => absurd q.1 (by decide))).trans ((kq (a := 3) (b := 11) eσ105 (fun q => absurd q.1 (by decide))).trans ((kq (a := 3) (b := 11) eσ100 (fun q => absurd q.1 (by decide))).trans ((kq (a := 3) (b := 11) eσ95 (fun q => absurd q.1 (by decide))).trans ((kq (a := 3) (b := 11) eσ81 (fun q => absurd q.1 (by decide))).trans ((kq (a := 3) (b := 11) eσ75 (fun q => absurd q.1 (by decide))).trans (k49.trans (k34.trans (k11)))))))), (kq (a := 3) (b := 6) eσ107 (fun q => absurd q.1 (by decide))).trans ((kq (a := 3) (b := 6) eσ105 (fun q => absurd q.1 (by decide))).trans ((kq (a := 3) (b := 6) eσ100 (fun q => absurd q.1 (by decide))).trans ((kq (a := 3) (b := 6) eσ95 (fun q => absurd q.1 (by decide))).trans ((kq (a := 3) (b := 6) eσ81 (fun q => absurd q.1 (by decide))).trans ((kq (a := 3) (b := 6) eσ75 (fun q => absurd q.1 (by decide))).trans (k50.trans (k35.trans (k12)))))))), (kq (a := 9) (b := 10) eσ107 (fun q => absurd q.2 (by decide))).trans ((kq (a := 9) (b := 10) eσ105 (fun q => absurd q.1 (by decide))).trans ((kq (a := 9) (b := 10) eσ100 (fun q => absurd q.1 (by decide))).trans ((kq (a := 9) (b := 10) eσ95 (fun q => absurd q.1 (by decide))).trans ((kq (a := 9) (b := 10) eσ81 (fun q => absurd q.1 (by decide))).trans ((kq (a := 9) (b := 10) eσ75 (fun q => absurd q.1 (by decide))).trans (k52.trans (k37.trans (k13)))))))), (kq (a := 6) (b := 5) eσ107 (fun q => absurd q.1 (by decide))).trans ((kq (a := 6) (b := 5) eσ105 (fun q => absurd q.1 (by decide))).trans ((kq (a := 6) (b := 5) eσ100 (fun q => absurd q.1 (by decide))).trans ((kq (a := 6) (b := 5) eσ95 (fun q => absurd q.1 (by decide))).trans ((kq (a := 6) (b := 5) eσ81 (fun q => absurd q.1 (by decide))).trans ((kq (a := 6) (b := 5) eσ75 (fun q => absurd q.1 (by decide))).trans (k53.trans (k38.trans (k14)))))))), (kq (a := 7) (b := 4) eσ107 (fun q => absurd q.1 (by decide))).trans ((kq (a := 7) (b := 4) eσ105 (fun q => absurd q.1 (by decide))).trans ((kq (a := 7) (b := 4) eσ100 (fun q => absurd q.1 (by decide))).trans ((kq (a := 7) (b := 4) eσ95 (fun q => absurd q.1 (by decide))).trans ((kq (a := 7) (b := 4) eσ81 (fun q => absurd q.1 (by decide))).trans ((kq (a := 7) (b := 4) eσ75 (fun q => absurd q.1 (by decide))).trans (k54.trans (k39.trans (k15)))))))), (kq (a := 2) (b := 4) eσ107 (fun q => absurd q.1 (by decide))).trans ((kq (a := 2) (b := 4) eσ105 (fun q => absurd q.1 (by decide))).trans ((kq (a := 2) (b := 4) eσ100 (fun q => absurd q.1 (by decide))).trans ((kq (a := 2) (b := 4) eσ95 (fun q => absurd q.1 (by decide))).trans ((kq (a := 2) (b := 4) eσ81 (fun q => absurd q.1 (by decide))).trans ((kq (a := 2) (b := 4) eσ75 (fun q => absurd q.1 (by decide))).trans (k55.trans (k40.trans (k16)))))))), (kq (a := 2) (b := 5) eσ107 (fun q => absurd q.1 (by decide))).trans ((kq (a := 2) (b := 5) eσ105 (fun q => absurd q.1 (by decide))).trans ((kq (a := 2) (b := 5) eσ100 (fun q => absurd q.1 (by decide))).trans ((kq (a := 2) (b := 5) eσ95 (fun q => absurd q.1 (by decide))).trans ((kq (a := 2) (b := 5) eσ81 (fun q => absurd q.1 (by decide))).trans ((kq (a := 2) (b := 5) eσ75 (fun q => absurd q.1 (by decide))).trans (k56.trans (k41.trans (k17)))))))), (kq (a := 2) (b := 6) eσ107 (fun q => absurd q.1 (by decide))).trans ((kq (a := 2) (b := 6) eσ105 (fun q => absurd q.1 (by decide))).trans ((kq (a := 2) (b := 6) eσ100 (fun q => absurd q.1 (by decide))).trans ((kq (a := 2) (b := 6) eσ95 (fun q => absurd q.1 (by decide))).trans ((kq (a := 2) (b := 6) eσ81 (fun q => absurd q.1 (by decide))).trans ((kq (a := 2) (b := 6) eσ75 (fun q => absurd q.1 (by decide))).trans (k57.trans (k42.trans (k18)))))))), (kq (a := 3) (b := 8) eσ107 (fun q => absurd q.1 (by decide))).trans ((kq (a := 3) (b := 8) eσ105 (fun q => absurd q.1 (by decide))).trans ((kq (a := 3) (b := 8) eσ100 (fun q => absurd q.1 (by decide))).trans ((kq (a := 3) (b := 8) eσ95 (fun q => absurd q.1 (by decide))).trans ((kq (a := 3) (b := 8) eσ81 (fun q => absurd q.1 (by decide))).trans ((kq (a := 3) (b := 8) eσ75 (fun q => absurd q.1 (by decide))).trans (k58.trans (k43.trans (k19)))))))), by omega⟩ (by (try dsimp only); omega)
        · have f118 := tB r60
          first | have f119 := (notleE (show (0 : Int32).toInt = 0 from by decide) (rfl : r60.toInt = r60.toInt)).mp c67 | skip
          exact hQ _ hσ47 (⟨k48.trans (k33.trans (k10)), k49.trans (k34.trans (k11)), k50.trans (k35.trans (k12)), k52.trans (k37.trans (k13)), k53.trans (k38.trans (k14)), k54.trans (k39.trans (k15)), k55.trans (k40.trans (k16)), k56.trans (k41.trans (k17)), k57.trans (k42.trans (k18)), k58.trans (k43.trans (k19))⟩)
set_option maxHeartbeats 4000000 in
theorem sX5_growTree {N : Nat} (hN : 4294967400 ≤ N) {Q : St → Prop} {σ0 σ : St} (hσ : K1 σ0 σ) (hQ : ∀ τ : St, K1 σ0 τ → (τ.1 3 7 = σ.1 3 7 ∧ τ.1 3 11 = σ.1 3 11 ∧ τ.1 3 6 = σ.1 3 6 ∧ τ.1 6 5 = σ.1 6 5 ∧ τ.1 7 4 = σ.1 7 4 ∧ τ.1 2 4 = σ.1 2 4 ∧ τ.1 2 5 = σ.1 2 5 ∧ τ.1 2 6 = σ.1 2 6 ∧ τ.1 3 8 = σ.1 3 8) → Q τ) : fX5_growTree N  Q σ := by
  unfold fX5_growTree
  unfold fX0_clearLeaves
  intro σ1 eσ1
  have hσ1 : K1 σ0 σ1 := by rw [eσ1]; exact hσ.u (Rg1.r_9_9 (leP (show (0 : Int32).toInt = 0 from by decide) (by omega)) (geP (show (0 : Int32).toInt = 0 from by decide) (by omega))) (fun q => absurd q.1 (by decide)) (fun q => absurd q.1 (by decide))
  intro σ2 eσ2
  have hσ2 : K1 σ0 σ2 := by rw [eσ2]; exact hσ1.u (Rg1.r_9_10 (leP (show (0 : Int32).toInt = 0 from by decide) (by omega)) (geP (show (0 : Int32).toInt = 0 from by decide) (by omega))) (fun q => absurd q.1 (by decide)) (fun q => absurd q.1 (by decide))
  try dsimp only
  have f3 := K1.g_7_4 hσ2
  have q4 : σ2.1 7 4 = σ1.1 7 4 := by rw [eσ2]; exact congrFun (u1_ne (by decide)) 4
  have f5 := congrArg Int32.toInt q4
  have f6 := K1.g_7_4 hσ1
  have q7 : σ1.1 7 4 = σ.1 7 4 := by rw [eσ1]; exact congrFun (u1_ne (by decide)) 4
  have f8 := congrArg Int32.toInt q7
  have f9 := K1.g_7_4 hσ
  have f11 := K1.g_9_9 hσ2
  have q12 : σ2.1 9 9 = σ1.1 9 9 := by rw [eσ2, u1_at]; exact if_neg (by decide)
  have f13 := congrArg Int32.toInt q12
  have f14 := K1.g_9_9 hσ1
  have q15 : σ1.1 9 9 = 0 := by rw [eσ1, u1_at]; exact if_pos rfl
  first | have f16 : (σ1.1 9 9).toInt = (0) := (congrArg Int32.toInt q15).trans (show (0 : Int32).toInt = 0 from by decide) | skip
  refine sX0_addLeaf hN ⟨leP (show ((-1) : Int32).toInt = -1 from by decide) (by omega), geP (show ((-1) : Int32).toInt = -1 from by decide) (by omega)⟩ ⟨by omega, by omega⟩ hσ2 (fun σ10 hσ10 kk26 => ?_)
  obtain ⟨k17, k18, k19, k20, k21, k22, k23, k24, k25, sp27⟩ := kk26
  have f29 := K1.g_9_9 hσ10
  refine lo1_i (fun (y28 : Int32) (τ : St) => K1 σ0 τ ∧ τ.1 3 7 = σ10.1 3 7 ∧ τ.1 3 11 = σ10.1 3 11 ∧ τ.1 3 6 = σ10.1 3 6 ∧ τ.1 6 5 = σ10.1 6 5 ∧ τ.1 7 4 = σ10.1 7 4 ∧ τ.1 2 4 = σ10.1 2 4 ∧ τ.1 2 5 = σ10.1 2 5 ∧ τ.1 2 6 = σ10.1 2 6 ∧ τ.1 3 8 = σ10.1 3 8 ∧ 0 ≤ y28.toInt ∧ (τ.1 9 9).toInt ≤ 61) (fun (y28 : Int32) (τ : St) => (2147483648 - y28.toInt).toNat) ?_ N (0 : Int32) σ10 ⟨hσ10, rfl, rfl, rfl, rfl, rfl, rfl, rfl, rfl, rfl, by first | decide | omega, by first | decide | omega⟩ (by have z0 : (0 : Int32).toInt = 0 := (by decide); (try dsimp only); omega)
  intro rr30 y33 σ32 hIσ32 ih31
  obtain ⟨hσ32, k34, k35, k36, k37, k38, k39, k40, k41, k42, i43, i44⟩ := hIσ32
  unfold fX5_growTree_l25
  have f45 := tB y33
  refine ⟨fun c46 => ?_, fun c46 => ?_⟩
  · have f47 := K1.g_6_5 hσ32
    have f48 := congrArg Int32.toInt k37
    have f49 := K1.g_6_5 hσ10
    have f50 := congrArg Int32.toInt k20
    have f51 := K1.g_6_5 hσ2
    have q52 : σ2.1 6 5 = σ1.1 6 5 := by rw [eσ2]; exact congrFun (u1_ne (by decide)) 5
    have f53 := congrArg Int32.toInt q52
    have f54 := K1.g_6_5 hσ1
    have q55 : σ1.1 6 5 = σ.1 6 5 := by rw [eσ1]; exact congrFun (u1_ne (by decide)) 5
    have f56 := congrArg Int32.toInt q55
    have f57 := K1.g_6_5 hσ
    first | have f59 := (leE (rfl : (σ32.1 6 5).toInt = (σ32.1 6 5).toInt) (rfl : y33.toInt = y33.toInt)).mp c46 | skip
    refine sX0_joinAll hN hσ32 (fun σ60 hσ60 kk71 => ?_)
    obtain ⟨k61, k62, k63, k64, k65, k66, k67, k68, k69, k70⟩ := kk71
    exact hQ _ hσ60 (⟨k61.trans (k34.trans (k17.trans ((kq (a := 3) (b := 7) eσ2 (fun q => absurd q.1 (by decide))).trans ((kq (a := 3) (b := 7) eσ1 (fun q => absurd q.1 (by decide))))))), k62.trans (k35.trans (k18.trans ((kq (a := 3) (b := 11) eσ2 (fun q => absurd q.1 (by decide))).trans ((kq (a := 3) (b := 11) eσ1 (fun q => absurd q.1 (by decide))))))), k63.trans (k36.trans (k19.trans ((kq (a := 3) (b := 6) eσ2 (fun q => absurd q.1 (by decide))).trans ((kq (a := 3) (b := 6) eσ1 (fun q => absurd q.1 (by decide))))))), k65.trans (k37.trans (k20.trans ((kq (a := 6) (b := 5) eσ2 (fun q => absurd q.1 (by decide))).trans ((kq (a := 6) (b := 5) eσ1 (fun q => absurd q.1 (by decide))))))), k66.trans (k38.trans (k21.trans ((kq (a := 7) (b := 4) eσ2 (fun q => absurd q.1 (by decide))).trans ((kq (a := 7) (b := 4) eσ1 (fun q => absurd q.1 (by decide))))))), k67.trans (k39.trans (k22.trans ((kq (a := 2) (b := 4) eσ2 (fun q => absurd q.1 (by decide))).trans ((kq (a := 2) (b := 4) eσ1 (fun q => absurd q.1 (by decide))))))), k68.trans (k40.trans (k23.trans ((kq (a := 2) (b := 5) eσ2 (fun q => absurd q.1 (by decide))).trans ((kq (a := 2) (b := 5) eσ1 (fun q => absurd q.1 (by decide))))))), k69.trans (k41.trans (k24.trans ((kq (a := 2) (b := 6) eσ2 (fun q => absurd q.1 (by decide))).trans ((kq (a := 2) (b := 6) eσ1 (fun q => absurd q.1 (by decide))))))), k70.trans (k42.trans (k25.trans ((kq (a := 3) (b := 8) eσ2 (fun q => absurd q.1 (by decide))).trans ((kq (a := 3) (b := 8) eσ1 (fun q => absurd q.1 (by decide)))))))⟩)
  · have f72 := K1.g_6_5 hσ32
    have f73 := congrArg Int32.toInt k37
    have f74 := K1.g_6_5 hσ10
    have f75 := congrArg Int32.toInt k20
    have f76 := K1.g_6_5 hσ2
    have q77 : σ2.1 6 5 = σ1.1 6 5 := by rw [eσ2]; exact congrFun (u1_ne (by decide)) 5
    have f78 := congrArg Int32.toInt q77
    have f79 := K1.g_6_5 hσ1
    have q80 : σ1.1 6 5 = σ.1 6 5 := by rw [eσ1]; exact congrFun (u1_ne (by decide)) 5
    have f81 := congrArg Int32.toInt q80
    have f82 := K1.g_6_5 hσ
    first | have f84 := (notleE (rfl : (σ32.1 6 5).toInt = (σ32.1 6 5).toInt) (rfl : y33.toInt = y33.toInt)).mp c46 | skip
    have g86 : vp_in y33 60 := inE (rfl : y33.toInt = y33.toInt) (by omega) (by omega)
    refine ⟨g86, ?_⟩
    refine ⟨fun c87 => ?_, fun c87 => ?_⟩
    · have f88 := tB (σ32.1 41 y33.toNatClampNeg)
      first | have f89 := (leE (rfl : (σ32.1 41 y33.toNatClampNeg).toInt = (σ32.1 41 y33.toNatClampNeg).toInt) (show (0 : Int32).toInt = 0 from by decide)).mp c87 | skip
      unfold fX5_growTree_j80
      intro v90 ev90
      have f91 := tB v90
      first | have f93 : v90.toInt = (y33.toInt + (1)) := (congrArg Int32.toInt ev90).trans (aOkE (rfl : y33.toInt = y33.toInt) (show (1 : Int32).toInt = 1 from by decide) (by omega) (by omega)) | skip
      have f94 := K1.g_9_9 hσ32
      exact ih31 v90 σ32 ⟨hσ32, k34, k35, k36, k37, k38, k39, k40, k41, k42, by omega, by omega⟩ (by (try dsimp only); omega)
    · have f95 := tB (σ32.1 41 y33.toNatClampNeg)
      first | have f96 := (notleE (rfl : (σ32.1 41 y33.toNatClampNeg).toInt = (σ32.1 41 y33.toNatClampNeg).toInt) (show (0 : Int32).toInt = 0 from by decide)).mp c87 | skip
      intro v97 ev97
      refine ⟨inE (rfl : y33.toInt = y33.toInt) (by omega) (by omega), ?_⟩
      intro σ99 eσ99
      have f100 := tB v97
      have f101 := K1.g_9_9 hσ32
      first | have f102 : v97.toInt = (σ32.1 9 9).toInt := (congrArg Int32.toInt ev97).trans (rfl : (σ32.1 9 9).toInt = (σ32.1 9 9).toInt) | skip
      have hσ99 : K1 σ0 σ99 := by rw [eσ99]; exact hσ32.u (Rg1.ra_42 (leP (rfl : v97.toInt = v97.toInt) (by omega)) (geP (rfl : v97.toInt = v97.toInt) (by omega))) (fun q => absurd q.1 (by decide)) (fun q => absurd q.1 (by decide))
      have g104 : vp_in y33 60 := inE (rfl : y33.toInt = y33.toInt) (by omega) (by omega)
      refine ⟨g104, ?_⟩
      refine sX7_nodeSize hN ⟨leP (rfl : y33.toInt = y33.toInt) (by omega), geP (rfl : y33.toInt = y33.toInt) (by omega)⟩ hσ99 (fun r119 p120 => ?_)
      have f122 := tB (σ99.1 41 y33.toNatClampNeg)
      have q123 : σ99.1 41 y33.toNatClampNeg = σ32.1 41 y33.toNatClampNeg := by rw [eσ99]; exact congrFun (u1_ne (by decide)) _
      have f124 := congrArg Int32.toInt q123
      have f126 := tB r119
      have f128 := K1.g_9_9 hσ99
      have q129 : σ99.1 9 9 = σ32.1 9 9 := by rw [eσ99]; exact congrFun (u1_ne (by decide)) 9
      have f130 := congrArg Int32.toInt q129
      refine sX0_addLeaf hN ⟨leP (rfl : y33.toInt = y33.toInt) (by omega), geP (rfl : y33.toInt = y33.toInt) (by omega)⟩ ⟨by omega, by omega⟩ hσ99 (fun σ127 hσ127 kk141 => ?_)
      obtain ⟨k132, k133, k134, k135, k136, k137, k138, k139, k140, sp142⟩ := kk141
      unfold fX5_growTree_j80
      intro v143 ev143
      have f144 := tB v143
      first | have f146 : v143.toInt = (y33.toInt + (1)) := (congrArg Int32.toInt ev143).trans (aOkE (rfl : y33.toInt = y33.toInt) (show (1 : Int32).toInt = 1 from by decide) (by omega) (by omega)) | skip
      have f147 := K1.g_9_9 hσ127
      exact ih31 v143 σ127 ⟨hσ127, k132.trans ((kq (a := 3) (b := 7) eσ99 (fun q => absurd q.1 (by decide))).trans (k34)), k133.trans ((kq (a := 3) (b := 11) eσ99 (fun q => absurd q.1 (by decide))).trans (k35)), k134.trans ((kq (a := 3) (b := 6) eσ99 (fun q => absurd q.1 (by decide))).trans (k36)), k135.trans ((kq (a := 6) (b := 5) eσ99 (fun q => absurd q.1 (by decide))).trans (k37)), k136.trans ((kq (a := 7) (b := 4) eσ99 (fun q => absurd q.1 (by decide))).trans (k38)), k137.trans ((kq (a := 2) (b := 4) eσ99 (fun q => absurd q.1 (by decide))).trans (k39)), k138.trans ((kq (a := 2) (b := 5) eσ99 (fun q => absurd q.1 (by decide))).trans (k40)), k139.trans ((kq (a := 2) (b := 6) eσ99 (fun q => absurd q.1 (by decide))).trans (k41)), k140.trans ((kq (a := 3) (b := 8) eσ99 (fun q => absurd q.1 (by decide))).trans (k42)), by omega, by omega⟩ (by (try dsimp only); omega)
set_option maxHeartbeats 4000000 in
theorem sX0_spread {N : Nat} (hN : 4294967400 ≤ N) {x1 : Int32} {Q : St → Prop} {σ0 σ : St} (hσ : K1 σ0 σ) (hQ : ∀ τ : St, K1 σ0 τ → (τ.1 3 7 = σ.1 3 7 ∧ τ.1 3 11 = σ.1 3 11 ∧ τ.1 3 6 = σ.1 3 6 ∧ τ.1 9 9 = σ.1 9 9 ∧ τ.1 9 10 = σ.1 9 10 ∧ τ.1 6 5 = σ.1 6 5 ∧ τ.1 7 4 = σ.1 7 4 ∧ τ.1 2 4 = σ.1 2 4 ∧ τ.1 2 5 = σ.1 2 5 ∧ τ.1 2 6 = σ.1 2 6 ∧ τ.1 3 8 = σ.1 3 8) → Q τ) : fX0_spread N x1 Q σ := by
  unfold fX0_spread
  refine ⟨fun c1 => ?_, fun c1 => ?_⟩
  · have f2 := K1.g_9_9 hσ
    first | have f3 := (eqE (rfl : (σ.1 9 9).toInt = (σ.1 9 9).toInt) (show (0 : Int32).toInt = 0 from by decide)).mp c1 | skip
    exact hQ _ hσ (⟨rfl, rfl, rfl, rfl, rfl, rfl, rfl, rfl, rfl, rfl, rfl⟩)
  · have f4 := K1.g_9_9 hσ
    first | have f5 := (noteqE (rfl : (σ.1 9 9).toInt = (σ.1 9 9).toInt) (show (0 : Int32).toInt = 0 from by decide)).mp c1 | skip
    intro v6 ev6
    intro v7 ev7
    have f8 := tB v6
    first | have f10 : v6.toInt = ((σ.1 9 9).toInt - (1)) := (congrArg Int32.toInt ev6).trans (sOkE (rfl : (σ.1 9 9).toInt = (σ.1 9 9).toInt) (show (1 : Int32).toInt = 1 from by decide) (by omega) (by omega)) | skip
    refine ⟨inE (rfl : v6.toInt = v6.toInt) (by omega) (by omega), ?_⟩
    intro σ11 eσ11
    have hσ11 : K1 σ0 σ11 := by rw [eσ11]; exact hσ.u (Rg1.ra_35 _ _) (fun q => absurd q.1 (by decide)) (fun q => absurd q.1 (by decide))
    refine ⟨inE (rfl : v6.toInt = v6.toInt) (by omega) (by omega), ?_⟩
    intro σ13 eσ13
    have hσ13 : K1 σ0 σ13 := by rw [eσ13]; exact hσ11.u (Rg1.ra_36 _ _) (fun q => absurd q.1 (by decide)) (fun q => absurd q.1 (by decide))
    refine ⟨inE (rfl : v6.toInt = v6.toInt) (by omega) (by omega), ?_⟩
    intro σ15 eσ15
    have hσ15 : K1 σ0 σ15 := by rw [eσ15]; exact hσ13.l
    refine lo1_i (fun (y16 : Int32) (τ : St) => K1 σ0 τ ∧ τ.1 3 7 = σ15.1 3 7 ∧ τ.1 3 11 = σ15.1 3 11 ∧ τ.1 3 6 = σ15.1 3 6 ∧ τ.1 9 9 = σ15.1 9 9 ∧ τ.1 9 10 = σ15.1 9 10 ∧ τ.1 6 5 = σ15.1 6 5 ∧ τ.1 7 4 = σ15.1 7 4 ∧ τ.1 2 4 = σ15.1 2 4 ∧ τ.1 2 5 = σ15.1 2 5 ∧ τ.1 2 6 = σ15.1 2 6 ∧ τ.1 3 8 = σ15.1 3 8 ∧ -1 ≤ y16.toInt ∧ y16.toInt ≤ 120) (fun (y16 : Int32) (τ : St) => (y16.toInt + 2147483649).toNat) ?_ N v6 σ15 ⟨hσ15, rfl, rfl, rfl, rfl, rfl, rfl, rfl, rfl, rfl, rfl, rfl, by first | decide | omega, by first | decide | omega⟩ (by (try dsimp only); omega)
    intro rr18 y21 σ20 hIσ20 ih19
    obtain ⟨hσ20, k22, k23, k24, k25, k26, k27, k28, k29, k30, k31, k32, i33, i34⟩ := hIσ20
    unfold fX0_spread_l41
    have f35 := tB y21
    refine ⟨fun c36 => ?_, fun c36 => ?_⟩
    · have f38 := K1.g_9_10 hσ20
      have f39 := congrArg Int32.toInt k26
      have f40 := K1.g_9_10 hσ15
      first | have f41 := (ltE (rfl : y21.toInt = y21.toInt) (rfl : (σ20.1 9 10).toInt = (σ20.1 9 10).toInt)).mp c36 | skip
      exact hQ _ hσ20 (⟨k22.trans ((kq2 (a := 3) (b := 7) eσ15).trans ((kq (a := 3) (b := 7) eσ13 (fun q => absurd q.1 (by decide))).trans ((kq (a := 3) (b := 7) eσ11 (fun q => absurd q.1 (by decide)))))), k23.trans ((kq2 (a := 3) (b := 11) eσ15).trans ((kq (a := 3) (b := 11) eσ13 (fun q => absurd q.1 (by decide))).trans ((kq (a := 3) (b := 11) eσ11 (fun q => absurd q.1 (by decide)))))), k24.trans ((kq2 (a := 3) (b := 6) eσ15).trans ((kq (a := 3) (b := 6) eσ13 (fun q => absurd q.1 (by decide))).trans ((kq (a := 3) (b := 6) eσ11 (fun q => absurd q.1 (by decide)))))), k25.trans ((kq2 (a := 9) (b := 9) eσ15).trans ((kq (a := 9) (b := 9) eσ13 (fun q => absurd q.1 (by decide))).trans ((kq (a := 9) (b := 9) eσ11 (fun q => absurd q.1 (by decide)))))), k26.trans ((kq2 (a := 9) (b := 10) eσ15).trans ((kq (a := 9) (b := 10) eσ13 (fun q => absurd q.1 (by decide))).trans ((kq (a := 9) (b := 10) eσ11 (fun q => absurd q.1 (by decide)))))), k27.trans ((kq2 (a := 6) (b := 5) eσ15).trans ((kq (a := 6) (b := 5) eσ13 (fun q => absurd q.1 (by decide))).trans ((kq (a := 6) (b := 5) eσ11 (fun q => absurd q.1 (by decide)))))), k28.trans ((kq2 (a := 7) (b := 4) eσ15).trans ((kq (a := 7) (b := 4) eσ13 (fun q => absurd q.1 (by decide))).trans ((kq (a := 7) (b := 4) eσ11 (fun q => absurd q.1 (by decide)))))), k29.trans ((kq2 (a := 2) (b := 4) eσ15).trans ((kq (a := 2) (b := 4) eσ13 (fun q => absurd q.1 (by decide))).trans ((kq (a := 2) (b := 4) eσ11 (fun q => absurd q.1 (by decide)))))), k30.trans ((kq2 (a := 2) (b := 5) eσ15).trans ((kq (a := 2) (b := 5) eσ13 (fun q => absurd q.1 (by decide))).trans ((kq (a := 2) (b := 5) eσ11 (fun q => absurd q.1 (by decide)))))), k31.trans ((kq2 (a := 2) (b := 6) eσ15).trans ((kq (a := 2) (b := 6) eσ13 (fun q => absurd q.1 (by decide))).trans ((kq (a := 2) (b := 6) eσ11 (fun q => absurd q.1 (by decide)))))), k32.trans ((kq2 (a := 3) (b := 8) eσ15).trans ((kq (a := 3) (b := 8) eσ13 (fun q => absurd q.1 (by decide))).trans ((kq (a := 3) (b := 8) eσ11 (fun q => absurd q.1 (by decide))))))⟩)
    · have f43 := K1.g_9_10 hσ20
      have f44 := congrArg Int32.toInt k26
      have f45 := K1.g_9_10 hσ15
      first | have f46 := (notltE (rfl : y21.toInt = y21.toInt) (rfl : (σ20.1 9 10).toInt = (σ20.1 9 10).toInt)).mp c36 | skip
      have g48 : vp_in y21 121 := inE (rfl : y21.toInt = y21.toInt) (by omega) (by omega)
      refine ⟨g48, ?_⟩
      intro v49 ev49
      have g51 : vp_in y21 121 := inE (rfl : y21.toInt = y21.toInt) (by omega) (by omega)
      refine ⟨g51, ?_⟩
      intro v52 ev52
      have g54 : vp_in y21 121 := inE (rfl : y21.toInt = y21.toInt) (by omega) (by omega)
      refine ⟨g54, ?_⟩
      intro v55 ev55
      have f56 := tB v49
      have f57 := K1.ga_31 hσ20 y21.toNatClampNeg
      first | have f58 : v49.toInt = (σ20.1 31 y21.toNatClampNeg).toInt := (congrArg Int32.toInt ev49).trans (rfl : (σ20.1 31 y21.toNatClampNeg).toInt = (σ20.1 31 y21.toNatClampNeg).toInt) | skip
      refine ⟨inE (rfl : v49.toInt = v49.toInt) (by omega) (by omega), ?_⟩
      intro σ59 eσ59
      have hσ59 : K1 σ0 σ59 := by rw [eσ59]; exact hσ20.u (Rg1.ra_35 _ _) (fun q => absurd q.1 (by decide)) (fun q => absurd q.1 (by decide))
      have g61 : vp_in v49 121 := inE (rfl : v49.toInt = v49.toInt) (by omega) (by omega)
      refine ⟨g61, ?_⟩
      have g63 : vp_in v49 121 := inE (rfl : v49.toInt = v49.toInt) (by omega) (by omega)
      refine ⟨g63, ?_⟩
      intro v64 ev64
      have f65 := tB v52
      have f66 := K1.ga_32 hσ20 y21.toNatClampNeg
      first | have f67 : v52.toInt = (σ20.1 32 y21.toNatClampNeg).toInt := (congrArg Int32.toInt ev52).trans (rfl : (σ20.1 32 y21.toNatClampNeg).toInt = (σ20.1 32 y21.toNatClampNeg).toInt) | skip
      refine ⟨inE (rfl : v52.toInt = v52.toInt) (by omega) (by omega), ?_⟩
      intro σ68 eσ68
      have hσ68 : K1 σ0 σ68 := by rw [eσ68]; exact hσ59.u (Rg1.ra_35 _ _) (fun q => absurd q.1 (by decide)) (fun q => absurd q.1 (by decide))
      have g70 : vp_in y21 121 := inE (rfl : y21.toInt = y21.toInt) (by omega) (by omega)
      refine ⟨g70, ?_⟩
      intro v71 ev71
      refine ⟨inE (rfl : v49.toInt = v49.toInt) (by omega) (by omega), ?_⟩
      intro σ73 eσ73
      have hσ73 : K1 σ0 σ73 := by rw [eσ73]; exact hσ68.u (Rg1.ra_36 _ _) (fun q => absurd q.1 (by decide)) (fun q => absurd q.1 (by decide))
      have g75 : vp_in y21 121 := inE (rfl : y21.toInt = y21.toInt) (by omega) (by omega)
      refine ⟨g75, ?_⟩
      intro v76 ev76
      refine ⟨inE (rfl : v52.toInt = v52.toInt) (by omega) (by omega), ?_⟩
      intro σ78 eσ78
      have hσ78 : K1 σ0 σ78 := by rw [eσ78]; exact hσ73.u (Rg1.ra_36 _ _) (fun q => absurd q.1 (by decide)) (fun q => absurd q.1 (by decide))
      have g80 : vp_in y21 121 := inE (rfl : y21.toInt = y21.toInt) (by omega) (by omega)
      refine ⟨g80, ?_⟩
      intro v81 ev81
      refine ⟨inE (rfl : v49.toInt = v49.toInt) (by omega) (by omega), ?_⟩
      intro σ83 eσ83
      have hσ83 : K1 σ0 σ83 := by rw [eσ83]; exact hσ78.l
      have g85 : vp_in y21 121 := inE (rfl : y21.toInt = y21.toInt) (by omega) (by omega)
      refine ⟨g85, ?_⟩
      have g87 : vp_in y21 121 := inE (rfl : y21.toInt = y21.toInt) (by omega) (by omega)
      refine ⟨g87, ?_⟩
      intro v88 ev88
      refine ⟨inE (rfl : v52.toInt = v52.toInt) (by omega) (by omega), ?_⟩
      intro σ90 eσ90
      have hσ90 : K1 σ0 σ90 := by rw [eσ90]; exact hσ83.l
      intro v91 ev91
      have f92 := tB v91
      first | have f94 : v91.toInt = (y21.toInt + (-1)) := (congrArg Int32.toInt ev91).trans (aOkE (rfl : y21.toInt = y21.toInt) (show ((-1) : Int32).toInt = -1 from by decide) (by omega) (by omega)) | skip
      exact ih19 v91 σ90 ⟨hσ90, (kq2 (a := 3) (b := 7) eσ90).trans ((kq2 (a := 3) (b := 7) eσ83).trans ((kq (a := 3) (b := 7) eσ78 (fun q => absurd q.1 (by decide))).trans ((kq (a := 3) (b := 7) eσ73 (fun q => absurd q.1 (by decide))).trans ((kq (a := 3) (b := 7) eσ68 (fun q => absurd q.1 (by decide))).trans ((kq (a := 3) (b := 7) eσ59 (fun q => absurd q.1 (by decide))).trans (k22)))))), (kq2 (a := 3) (b := 11) eσ90).trans ((kq2 (a := 3) (b := 11) eσ83).trans ((kq (a := 3) (b := 11) eσ78 (fun q => absurd q.1 (by decide))).trans ((kq (a := 3) (b := 11) eσ73 (fun q => absurd q.1 (by decide))).trans ((kq (a := 3) (b := 11) eσ68 (fun q => absurd q.1 (by decide))).trans ((kq (a := 3) (b := 11) eσ59 (fun q => absurd q.1 (by decide))).trans (k23)))))), (kq2 (a := 3) (b := 6) eσ90).trans ((kq2 (a := 3) (b := 6) eσ83).trans ((kq (a := 3) (b := 6) eσ78 (fun q => absurd q.1 (by decide))).trans ((kq (a := 3) (b := 6) eσ73 (fun q => absurd q.1 (by decide))).trans ((kq (a := 3) (b := 6) eσ68 (fun q => absurd q.1 (by decide))).trans ((kq (a := 3) (b := 6) eσ59 (fun q => absurd q.1 (by decide))).trans (k24)))))), (kq2 (a := 9) (b := 9) eσ90).trans ((kq2 (a := 9) (b := 9) eσ83).trans ((kq (a := 9) (b := 9) eσ78 (fun q => absurd q.1 (by decide))).trans ((kq (a := 9) (b := 9) eσ73 (fun q => absurd q.1 (by decide))).trans ((kq (a := 9) (b := 9) eσ68 (fun q => absurd q.1 (by decide))).trans ((kq (a := 9) (b := 9) eσ59 (fun q => absurd q.1 (by decide))).trans (k25)))))), (kq2 (a := 9) (b := 10) eσ90).trans ((kq2 (a := 9) (b := 10) eσ83).trans ((kq (a := 9) (b := 10) eσ78 (fun q => absurd q.1 (by decide))).trans ((kq (a := 9) (b := 10) eσ73 (fun q => absurd q.1 (by decide))).trans ((kq (a := 9) (b := 10) eσ68 (fun q => absurd q.1 (by decide))).trans ((kq (a := 9) (b := 10) eσ59 (fun q => absurd q.1 (by decide))).trans (k26)))))), (kq2 (a := 6) (b := 5) eσ90).trans ((kq2 (a := 6) (b := 5) eσ83).trans ((kq (a := 6) (b := 5) eσ78 (fun q => absurd q.1 (by decide))).trans ((kq (a := 6) (b := 5) eσ73 (fun q => absurd q.1 (by decide))).trans ((kq (a := 6) (b := 5) eσ68 (fun q => absurd q.1 (by decide))).trans ((kq (a := 6) (b := 5) eσ59 (fun q => absurd q.1 (by decide))).trans (k27)))))), (kq2 (a := 7) (b := 4) eσ90).trans ((kq2 (a := 7) (b := 4) eσ83).trans ((kq (a := 7) (b := 4) eσ78 (fun q => absurd q.1 (by decide))).trans ((kq (a := 7) (b := 4) eσ73 (fun q => absurd q.1 (by decide))).trans ((kq (a := 7) (b := 4) eσ68 (fun q => absurd q.1 (by decide))).trans ((kq (a := 7) (b := 4) eσ59 (fun q => absurd q.1 (by decide))).trans (k28)))))), (kq2 (a := 2) (b := 4) eσ90).trans ((kq2 (a := 2) (b := 4) eσ83).trans ((kq (a := 2) (b := 4) eσ78 (fun q => absurd q.1 (by decide))).trans ((kq (a := 2) (b := 4) eσ73 (fun q => absurd q.1 (by decide))).trans ((kq (a := 2) (b := 4) eσ68 (fun q => absurd q.1 (by decide))).trans ((kq (a := 2) (b := 4) eσ59 (fun q => absurd q.1 (by decide))).trans (k29)))))), (kq2 (a := 2) (b := 5) eσ90).trans ((kq2 (a := 2) (b := 5) eσ83).trans ((kq (a := 2) (b := 5) eσ78 (fun q => absurd q.1 (by decide))).trans ((kq (a := 2) (b := 5) eσ73 (fun q => absurd q.1 (by decide))).trans ((kq (a := 2) (b := 5) eσ68 (fun q => absurd q.1 (by decide))).trans ((kq (a := 2) (b := 5) eσ59 (fun q => absurd q.1 (by decide))).trans (k30)))))), (kq2 (a := 2) (b := 6) eσ90).trans ((kq2 (a := 2) (b := 6) eσ83).trans ((kq (a := 2) (b := 6) eσ78 (fun q => absurd q.1 (by decide))).trans ((kq (a := 2) (b := 6) eσ73 (fun q => absurd q.1 (by decide))).trans ((kq (a := 2) (b := 6) eσ68 (fun q => absurd q.1 (by decide))).trans ((kq (a := 2) (b := 6) eσ59 (fun q => absurd q.1 (by decide))).trans (k31)))))), (kq2 (a := 3) (b := 8) eσ90).trans ((kq2 (a := 3) (b := 8) eσ83).trans ((kq (a := 3) (b := 8) eσ78 (fun q => absurd q.1 (by decide))).trans ((kq (a := 3) (b := 8) eσ73 (fun q => absurd q.1 (by decide))).trans ((kq (a := 3) (b := 8) eσ68 (fun q => absurd q.1 (by decide))).trans ((kq (a := 3) (b := 8) eσ59 (fun q => absurd q.1 (by decide))).trans (k32)))))), by omega, by omega⟩ (by (try dsimp only); omega)
set_option maxHeartbeats 4000000 in
theorem sX0_size {N : Nat} (hN : 4294967400 ≤ N) {Q : Int32 → St → Prop} {σ0 σ : St} (hσ : K1 σ0 σ) (hQ : ∀ r : Int32, True → Q r σ) : fX0_size N  Q σ := by
  unfold fX0_size
  refine ⟨fun c1 => ?_, fun c1 => ?_⟩
  · have f2 := K1.g_9_9 hσ
    first | have f3 := (leE (rfl : (σ.1 9 9).toInt = (σ.1 9 9).toInt) (show (0 : Int32).toInt = 0 from by decide)).mp c1 | skip
    exact hQ _ trivial
  · have f4 := K1.g_9_9 hσ
    first | have f5 := (notleE (rfl : (σ.1 9 9).toInt = (σ.1 9 9).toInt) (show (0 : Int32).toInt = 0 from by decide)).mp c1 | skip
    have g7 : vp_in ((σ.1 9 9) - 1) 121 := inE (sOkE (rfl : (σ.1 9 9).toInt = (σ.1 9 9).toInt) (show (1 : Int32).toInt = 1 from by decide) (by omega) (by omega)) (by omega) (by omega)
    refine ⟨g7, ?_⟩
    exact hQ _ trivial
set_option maxHeartbeats 4000000 in
theorem sX5_countBits {N : Nat} (hN : 4294967400 ≤ N) {x1 : Int32} {Q : Int32 → St → Prop} {σ0 σ : St} (hp1 : 0 ≤ x1.toInt ∧ x1.toInt ≤ 19) (hσ : K1 σ0 σ) (hQ : ∀ r : Int32, True → Q r σ) : fX5_countBits N x1 Q σ := by
  unfold fX5_countBits
  have g1 : vp_in (0 : Int32) 121 := inE (show (0 : Int32).toInt = 0 from by decide) (by omega) (by omega)
  refine ⟨g1, ?_⟩
  intro v2 ev2
  have f5 := tB x1
  have f6 := tB v2
  have f7 := tB (σ.1 36 (0 : Int32).toNatClampNeg)
  first | have f8 : v2.toInt = (σ.1 36 (0 : Int32).toNatClampNeg).toInt := (congrArg Int32.toInt ev2).trans (rfl : (σ.1 36 (0 : Int32).toNatClampNeg).toInt = (σ.1 36 (0 : Int32).toNatClampNeg).toInt) | skip
  refine lo2_i (fun (y3 : Int32) (y4 : Int32) (τ : St) => σ = τ ∧ 0 ≤ y4.toInt) (fun (y3 : Int32) (y4 : Int32) (τ : St) => (2147483648 - y4.toInt).toNat) ?_ N v2 (0 : Int32) σ ⟨rfl, by first | decide | omega⟩ (by have z0 : (0 : Int32).toInt = 0 := (by decide); (try dsimp only); omega)
  intro rr9 y12 y13 σ11 hIσ11 ih10
  obtain ⟨hσ11, i14⟩ := hIσ11
  subst hσ11
  unfold fX5_countBits_l12
  have f15 := tB y12
  have f16 := tB y13
  have g18 : vp_in x1 20 := inE (rfl : x1.toInt = x1.toInt) (by omega) (by omega)
  refine ⟨g18, ?_⟩
  refine ⟨fun c19 => ?_, fun c19 => ?_⟩
  · have f20 := K1.ga_39 hσ x1.toNatClampNeg
    first | have f22 := (leE (rfl : (σ.1 39 x1.toNatClampNeg).toInt = (σ.1 39 x1.toNatClampNeg).toInt) (rfl : y13.toInt = y13.toInt)).mp c19 | skip
    exact hQ _ trivial
  · have f23 := K1.ga_39 hσ x1.toNatClampNeg
    first | have f25 := (notleE (rfl : (σ.1 39 x1.toNatClampNeg).toInt = (σ.1 39 x1.toNatClampNeg).toInt) (rfl : y13.toInt = y13.toInt)).mp c19 | skip
    have g27 : vp_in x1 20 := inE (rfl : x1.toInt = x1.toInt) (by omega) (by omega)
    refine ⟨g27, ?_⟩
    have hk28 : r120 (203 + x1.toNatClampNeg) := (r120_in8 g27)
    have hk28x := vp_lt g27
    have hk28b := r120_b hk28
    have g30 : vp_in y13 120 := inE (rfl : y13.toInt = y13.toInt) (by omega) (by omega)
    refine ⟨g30, ?_⟩
    have f31 := K1.gp hσ x1.toNatClampNeg y13.toNatClampNeg
    have g32 : vp_in (σ.1 (203 + x1.toNatClampNeg) y13.toNatClampNeg) 60 := inE (rfl : (σ.1 (203 + x1.toNatClampNeg) y13.toNatClampNeg).toInt = (σ.1 (203 + x1.toNatClampNeg) y13.toNatClampNeg).toInt) (by omega) (by omega)
    refine ⟨g32, ?_⟩
    have f33 := K1.ga_42 hσ (σ.1 (203 + x1.toNatClampNeg) y13.toNatClampNeg).toNatClampNeg
    have g34 : vp_in (σ.1 42 (σ.1 (203 + x1.toNatClampNeg) y13.toNatClampNeg).toNatClampNeg) 121 := inE (rfl : (σ.1 42 (σ.1 (203 + x1.toNatClampNeg) y13.toNatClampNeg).toNatClampNeg).toInt = (σ.1 42 (σ.1 (203 + x1.toNatClampNeg) y13.toNatClampNeg).toNatClampNeg).toInt) (by omega) (by omega)
    refine ⟨g34, ?_⟩
    intro v35 ev35
    intro v36 ev36
    have f37 := tB v35
    have f39 := tB (σ.1 36 (σ.1 42 (σ.1 (203 + x1.toNatClampNeg) y13.toNatClampNeg).toNatClampNeg).toNatClampNeg)
    first | have f40 : v35.toInt = (y12.toInt + (σ.1 36 (σ.1 42 (σ.1 (203 + x1.toNatClampNeg) y13.toNatClampNeg).toNatClampNeg).toNatClampNeg).toInt) := (congrArg Int32.toInt ev35).trans (aOkE (rfl : y12.toInt = y12.toInt) (rfl : (σ.1 36 (σ.1 42 (σ.1 (203 + x1.toNatClampNeg) y13.toNatClampNeg).toNatClampNeg).toNatClampNeg).toInt = (σ.1 36 (σ.1 42 (σ.1 (203 + x1.toNatClampNeg) y13.toNatClampNeg).toNatClampNeg).toNatClampNeg).toInt) (by omega) (by omega)) | skip
    have f41 := tB v36
    first | have f43 : v36.toInt = (y13.toInt + (1)) := (congrArg Int32.toInt ev36).trans (aOkE (rfl : y13.toInt = y13.toInt) (show (1 : Int32).toInt = 1 from by decide) (by omega) (by omega)) | skip
    exact ih10 v35 v36 σ ⟨rfl, by omega⟩ (by (try dsimp only); omega)
set_option maxHeartbeats 4000000 in
theorem sX3_putFour {N : Nat} (hN : 4294967400 ≤ N) {x1 : Int32} {x2 : Int32} {Q : St → Prop} {σ0 σ : St} (hσ : K1 σ0 σ) (hQ : ∀ τ : St, K1 σ0 τ → (τ.1 3 7 = σ.1 3 7 ∧ τ.1 3 11 = σ.1 3 11 ∧ τ.1 3 6 = σ.1 3 6 ∧ τ.1 9 9 = σ.1 9 9 ∧ τ.1 9 10 = σ.1 9 10 ∧ τ.1 6 5 = σ.1 6 5 ∧ τ.1 7 4 = σ.1 7 4 ∧ τ.1 2 4 = σ.1 2 4 ∧ τ.1 2 5 = σ.1 2 5 ∧ τ.1 2 6 = σ.1 2 6 ∧ τ.1 3 8 = σ.1 3 8) → Q τ) : fX3_putFour N x1 x2 Q σ := by
  unfold fX3_putFour
  have f1 := tB x1
  have f2 := tB (x2 >>> (24 &&& 31))
  refine sX3_putByte hN hσ (fun σ3 hσ3 kk15 => ?_)
  obtain ⟨k4, k5, k6, k7, k8, k9, k10, k11, k12, k13, k14⟩ := kk15
  have f17 := tB (x2 >>> (16 &&& 31))
  refine sX3_putByte hN hσ3 (fun σ18 hσ18 kk30 => ?_)
  obtain ⟨k19, k20, k21, k22, k23, k24, k25, k26, k27, k28, k29⟩ := kk30
  have f32 := tB (x2 >>> (8 &&& 31))
  refine sX3_putByte hN hσ18 (fun σ33 hσ33 kk45 => ?_)
  obtain ⟨k34, k35, k36, k37, k38, k39, k40, k41, k42, k43, k44⟩ := kk45
  have f47 := tB x2
  refine sX3_putByte hN hσ33 (fun σ48 hσ48 kk60 => ?_)
  obtain ⟨k49, k50, k51, k52, k53, k54, k55, k56, k57, k58, k59⟩ := kk60
  exact hQ _ hσ48 (⟨k49.trans (k34.trans (k19.trans (k4))), k50.trans (k35.trans (k20.trans (k5))), k51.trans (k36.trans (k21.trans (k6))), k52.trans (k37.trans (k22.trans (k7))), k53.trans (k38.trans (k23.trans (k8))), k54.trans (k39.trans (k24.trans (k9))), k55.trans (k40.trans (k25.trans (k10))), k56.trans (k41.trans (k26.trans (k11))), k57.trans (k42.trans (k27.trans (k12))), k58.trans (k43.trans (k28.trans (k13))), k59.trans (k44.trans (k29.trans (k14)))⟩)
set_option maxHeartbeats 4000000 in
theorem sX0_putBranch {N : Nat} (hN : 4294967400 ≤ N) {x2 : Int32} {Q : St → Prop} {σ0 σ : St} (hp2 : 0 ≤ x2.toInt ∧ x2.toInt ≤ 120) (hσ : K1 σ0 σ) (hQ : ∀ τ : St, K1 σ0 τ → (τ.1 3 7 = σ.1 3 7 ∧ τ.1 3 11 = σ.1 3 11 ∧ τ.1 3 6 = σ.1 3 6 ∧ τ.1 9 9 = σ.1 9 9 ∧ τ.1 9 10 = σ.1 9 10 ∧ τ.1 6 5 = σ.1 6 5 ∧ τ.1 7 4 = σ.1 7 4 ∧ τ.1 2 4 = σ.1 2 4 ∧ τ.1 2 5 = σ.1 2 5 ∧ τ.1 2 6 = σ.1 2 6 ∧ τ.1 3 8 = σ.1 3 8) → Q τ) : fX0_putBranch N x2 Q σ := by
  unfold fX0_putBranch
  have f1 := tB x2
  have g2 : vp_in x2 121 := inE (rfl : x2.toInt = x2.toInt) (by omega) (by omega)
  refine ⟨g2, ?_⟩
  have f3 := tB (σ.1 35 x2.toNatClampNeg)
  refine sX3_putByte hN hσ (fun σ4 hσ4 kk16 => ?_)
  obtain ⟨k5, k6, k7, k8, k9, k10, k11, k12, k13, k14, k15⟩ := kk16
  have g18 : vp_in x2 121 := inE (rfl : x2.toInt = x2.toInt) (by omega) (by omega)
  refine ⟨g18, ?_⟩
  have g20 : vp_in x2 121 := inE (rfl : x2.toInt = x2.toInt) (by omega) (by omega)
  refine ⟨g20, ?_⟩
  have f21 := K1.ga_31 hσ4 x2.toNatClampNeg
  have g22 : vp_in (σ4.1 31 x2.toNatClampNeg) 121 := inE (rfl : (σ4.1 31 x2.toNatClampNeg).toInt = (σ4.1 31 x2.toNatClampNeg).toInt) (by omega) (by omega)
  refine ⟨g22, ?_⟩
  have f23 := tB (σ4.1 35 x2.toNatClampNeg)
  have f24 := tB (σ4.1 35 (σ4.1 31 x2.toNatClampNeg).toNatClampNeg)
  refine sX3_putFour hN hσ4 (fun σ25 hσ25 kk37 => ?_)
  obtain ⟨k26, k27, k28, k29, k30, k31, k32, k33, k34, k35, k36⟩ := kk37
  have g39 : vp_in x2 121 := inE (rfl : x2.toInt = x2.toInt) (by omega) (by omega)
  refine ⟨g39, ?_⟩
  have g41 : vp_in x2 121 := inE (rfl : x2.toInt = x2.toInt) (by omega) (by omega)
  refine ⟨g41, ?_⟩
  have f42 := K1.ga_32 hσ25 x2.toNatClampNeg
  have g43 : vp_in (σ25.1 32 x2.toNatClampNeg) 121 := inE (rfl : (σ25.1 32 x2.toNatClampNeg).toInt = (σ25.1 32 x2.toNatClampNeg).toInt) (by omega) (by omega)
  refine ⟨g43, ?_⟩
  have f44 := tB (σ25.1 35 x2.toNatClampNeg)
  have f45 := tB (σ25.1 35 (σ25.1 32 x2.toNatClampNeg).toNatClampNeg)
  refine sX3_putFour hN hσ25 (fun σ46 hσ46 kk58 => ?_)
  obtain ⟨k47, k48, k49, k50, k51, k52, k53, k54, k55, k56, k57⟩ := kk58
  exact hQ _ hσ46 (⟨k47.trans (k26.trans (k5)), k48.trans (k27.trans (k6)), k49.trans (k28.trans (k7)), k50.trans (k29.trans (k8)), k51.trans (k30.trans (k9)), k52.trans (k31.trans (k10)), k53.trans (k32.trans (k11)), k54.trans (k33.trans (k12)), k55.trans (k34.trans (k13)), k56.trans (k35.trans (k14)), k57.trans (k36.trans (k15))⟩)
set_option maxHeartbeats 4000000 in
theorem sX7_putBytes {N : Nat} (hN : 4294967400 ≤ N) {x2 : Int32} {x3 : Int32} {Q : St → Prop} {σ0 σ : St} (hp2 : 0 ≤ x2.toInt ∧ x2.toInt ≤ 59) (hσ : K1 σ0 σ) (hQ : ∀ τ : St, K1 σ0 τ → (τ.1 3 7 = σ.1 3 7 ∧ τ.1 3 11 = σ.1 3 11 ∧ τ.1 3 6 = σ.1 3 6 ∧ τ.1 9 9 = σ.1 9 9 ∧ τ.1 9 10 = σ.1 9 10 ∧ τ.1 6 5 = σ.1 6 5 ∧ τ.1 7 4 = σ.1 7 4 ∧ τ.1 2 4 = σ.1 2 4 ∧ τ.1 2 5 = σ.1 2 5 ∧ τ.1 2 6 = σ.1 2 6 ∧ τ.1 3 8 = σ.1 3 8) → Q τ) : fX7_putBytes N x2 x3 Q σ := by
  unfold fX7_putBytes
  have f2 := tB x2
  have f3 := tB x3
  refine lo1_i (fun (y1 : Int32) (τ : St) => K1 σ0 τ ∧ τ.1 3 7 = σ.1 3 7 ∧ τ.1 3 11 = σ.1 3 11 ∧ τ.1 3 6 = σ.1 3 6 ∧ τ.1 9 9 = σ.1 9 9 ∧ τ.1 9 10 = σ.1 9 10 ∧ τ.1 6 5 = σ.1 6 5 ∧ τ.1 7 4 = σ.1 7 4 ∧ τ.1 2 4 = σ.1 2 4 ∧ τ.1 2 5 = σ.1 2 5 ∧ τ.1 2 6 = σ.1 2 6 ∧ τ.1 3 8 = σ.1 3 8 ∧ 0 ≤ y1.toInt) (fun (y1 : Int32) (τ : St) => (2147483648 - y1.toInt).toNat) ?_ N (0 : Int32) σ ⟨hσ, rfl, rfl, rfl, rfl, rfl, rfl, rfl, rfl, rfl, rfl, rfl, by first | decide | omega⟩ (by have z0 : (0 : Int32).toInt = 0 := (by decide); (try dsimp only); omega)
  intro rr4 y7 σ6 hIσ6 ih5
  obtain ⟨hσ6, k8, k9, k10, k11, k12, k13, k14, k15, k16, k17, k18, i19⟩ := hIσ6
  unfold fX7_putBytes_l3
  have f20 := tB y7
  have g22 : vp_in x2 60 := inE (rfl : x2.toInt = x2.toInt) (by omega) (by omega)
  refine ⟨g22, ?_⟩
  refine ⟨fun c23 => ?_, fun c23 => ?_⟩
  · have f24 := K1.ga_21 hσ6 x2.toNatClampNeg
    first | have f26 := (leE (rfl : (σ6.1 21 x2.toNatClampNeg).toInt = (σ6.1 21 x2.toNatClampNeg).toInt) (rfl : y7.toInt = y7.toInt)).mp c23 | skip
    unfold fX7_putBytes_j44
    have g28 : vp_in x2 60 := inE (rfl : x2.toInt = x2.toInt) (by omega) (by omega)
    refine ⟨g28, ?_⟩
    refine sX3_putByte hN hσ6 (fun σ31 hσ31 kk43 => ?_)
    obtain ⟨k32, k33, k34, k35, k36, k37, k38, k39, k40, k41, k42⟩ := kk43
    exact hQ _ hσ31 (⟨k32.trans (k8), k33.trans (k9), k34.trans (k10), k35.trans (k11), k36.trans (k12), k37.trans (k13), k38.trans (k14), k39.trans (k15), k40.trans (k16), k41.trans (k17), k42.trans (k18)⟩)
  · have f44 := K1.ga_21 hσ6 x2.toNatClampNeg
    first | have f46 := (notleE (rfl : (σ6.1 21 x2.toNatClampNeg).toInt = (σ6.1 21 x2.toNatClampNeg).toInt) (rfl : y7.toInt = y7.toInt)).mp c23 | skip
    refine ⟨fun c47 => ?_, fun c47 => ?_⟩
    · first | have f49 := (leE (show (20 : Int32).toInt = 20 from by decide) (rfl : y7.toInt = y7.toInt)).mp c47 | skip
      unfold fX7_putBytes_j44
      have g51 : vp_in x2 60 := inE (rfl : x2.toInt = x2.toInt) (by omega) (by omega)
      refine ⟨g51, ?_⟩
      refine sX3_putByte hN hσ6 (fun σ54 hσ54 kk66 => ?_)
      obtain ⟨k55, k56, k57, k58, k59, k60, k61, k62, k63, k64, k65⟩ := kk66
      exact hQ _ hσ54 (⟨k55.trans (k8), k56.trans (k9), k57.trans (k10), k58.trans (k11), k59.trans (k12), k60.trans (k13), k61.trans (k14), k62.trans (k15), k63.trans (k16), k64.trans (k17), k65.trans (k18)⟩)
    · first | have f68 := (notleE (show (20 : Int32).toInt = 20 from by decide) (rfl : y7.toInt = y7.toInt)).mp c47 | skip
      have g70 : vp_in x2 60 := inE (rfl : x2.toInt = x2.toInt) (by omega) (by omega)
      refine ⟨g70, ?_⟩
      have hk71 : r20 (123 + x2.toNatClampNeg) := (r20_in g70)
      have hk71x := vp_lt g70
      have hk71b := r20_b hk71
      have g73 : vp_in y7 20 := inE (rfl : y7.toInt = y7.toInt) (by omega) (by omega)
      refine ⟨g73, ?_⟩
      have f76 := tB (σ6.1 (123 + x2.toNatClampNeg) y7.toNatClampNeg)
      refine sX3_putByte hN hσ6 (fun σ77 hσ77 kk89 => ?_)
      obtain ⟨k78, k79, k80, k81, k82, k83, k84, k85, k86, k87, k88⟩ := kk89
      intro v90 ev90
      have f91 := tB v90
      first | have f93 : v90.toInt = (y7.toInt + (1)) := (congrArg Int32.toInt ev90).trans (aOkE (rfl : y7.toInt = y7.toInt) (show (1 : Int32).toInt = 1 from by decide) (by omega) (by omega)) | skip
      exact ih5 v90 σ77 ⟨hσ77, k78.trans (k8), k79.trans (k9), k80.trans (k10), k81.trans (k11), k82.trans (k12), k83.trans (k13), k84.trans (k14), k85.trans (k15), k86.trans (k16), k87.trans (k17), k88.trans (k18), by omega⟩ (by (try dsimp only); omega)
set_option maxHeartbeats 4000000 in
theorem sX7_putFours {N : Nat} (hN : 4294967400 ≤ N) {x2 : Int32} {x3 : Int32} {Q : St → Prop} {σ0 σ : St} (hp2 : 0 ≤ x2.toInt ∧ x2.toInt ≤ 59) (hσ : K1 σ0 σ) (hQ : ∀ τ : St, K1 σ0 τ → (τ.1 3 7 = σ.1 3 7 ∧ τ.1 3 11 = σ.1 3 11 ∧ τ.1 3 6 = σ.1 3 6 ∧ τ.1 9 9 = σ.1 9 9 ∧ τ.1 9 10 = σ.1 9 10 ∧ τ.1 6 5 = σ.1 6 5 ∧ τ.1 7 4 = σ.1 7 4 ∧ τ.1 2 4 = σ.1 2 4 ∧ τ.1 2 5 = σ.1 2 5 ∧ τ.1 2 6 = σ.1 2 6 ∧ τ.1 3 8 = σ.1 3 8) → Q τ) : fX7_putFours N x2 x3 Q σ := by
  unfold fX7_putFours
  have f2 := tB x2
  have f3 := tB x3
  refine lo1_i (fun (y1 : Int32) (τ : St) => K1 σ0 τ ∧ τ.1 3 7 = σ.1 3 7 ∧ τ.1 3 11 = σ.1 3 11 ∧ τ.1 3 6 = σ.1 3 6 ∧ τ.1 9 9 = σ.1 9 9 ∧ τ.1 9 10 = σ.1 9 10 ∧ τ.1 6 5 = σ.1 6 5 ∧ τ.1 7 4 = σ.1 7 4 ∧ τ.1 2 4 = σ.1 2 4 ∧ τ.1 2 5 = σ.1 2 5 ∧ τ.1 2 6 = σ.1 2 6 ∧ τ.1 3 8 = σ.1 3 8 ∧ 0 ≤ y1.toInt) (fun (y1 : Int32) (τ : St) => (2147483648 - y1.toInt).toNat) ?_ N (0 : Int32) σ ⟨hσ, rfl, rfl, rfl, rfl, rfl, rfl, rfl, rfl, rfl, rfl, rfl, by first | decide | omega⟩ (by have z0 : (0 : Int32).toInt = 0 := (by decide); (try dsimp only); omega)
  intro rr4 y7 σ6 hIσ6 ih5
  obtain ⟨hσ6, k8, k9, k10, k11, k12, k13, k14, k15, k16, k17, k18, i19⟩ := hIσ6
  unfold fX7_putFours_l3
  have f20 := tB y7
  have g22 : vp_in x2 60 := inE (rfl : x2.toInt = x2.toInt) (by omega) (by omega)
  refine ⟨g22, ?_⟩
  refine ⟨fun c23 => ?_, fun c23 => ?_⟩
  · have f24 := K1.ga_21 hσ6 x2.toNatClampNeg
    first | have f26 := (leE (rfl : (σ6.1 21 x2.toNatClampNeg).toInt = (σ6.1 21 x2.toNatClampNeg).toInt) (rfl : y7.toInt = y7.toInt)).mp c23 | skip
    unfold fX7_putFours_j46
    have g28 : vp_in x2 60 := inE (rfl : x2.toInt = x2.toInt) (by omega) (by omega)
    refine ⟨g28, ?_⟩
    refine sX3_putFour hN hσ6 (fun σ31 hσ31 kk43 => ?_)
    obtain ⟨k32, k33, k34, k35, k36, k37, k38, k39, k40, k41, k42⟩ := kk43
    exact hQ _ hσ31 (⟨k32.trans (k8), k33.trans (k9), k34.trans (k10), k35.trans (k11), k36.trans (k12), k37.trans (k13), k38.trans (k14), k39.trans (k15), k40.trans (k16), k41.trans (k17), k42.trans (k18)⟩)
  · have f44 := K1.ga_21 hσ6 x2.toNatClampNeg
    first | have f46 := (notleE (rfl : (σ6.1 21 x2.toNatClampNeg).toInt = (σ6.1 21 x2.toNatClampNeg).toInt) (rfl : y7.toInt = y7.toInt)).mp c23 | skip
    refine ⟨fun c47 => ?_, fun c47 => ?_⟩
    · first | have f49 := (leE (show (20 : Int32).toInt = 20 from by decide) (rfl : y7.toInt = y7.toInt)).mp c47 | skip
      unfold fX7_putFours_j46
      have g51 : vp_in x2 60 := inE (rfl : x2.toInt = x2.toInt) (by omega) (by omega)
      refine ⟨g51, ?_⟩
      refine sX3_putFour hN hσ6 (fun σ54 hσ54 kk66 => ?_)
      obtain ⟨k55, k56, k57, k58, k59, k60, k61, k62, k63, k64, k65⟩ := kk66
      exact hQ _ hσ54 (⟨k55.trans (k8), k56.trans (k9), k57.trans (k10), k58.trans (k11), k59.trans (k12), k60.trans (k13), k61.trans (k14), k62.trans (k15), k63.trans (k16), k64.trans (k17), k65.trans (k18)⟩)
    · first | have f68 := (notleE (show (20 : Int32).toInt = 20 from by decide) (rfl : y7.toInt = y7.toInt)).mp c47 | skip
      have g70 : vp_in x2 60 := inE (rfl : x2.toInt = x2.toInt) (by omega) (by omega)
      refine ⟨g70, ?_⟩
      have hk71 : r20 (123 + x2.toNatClampNeg) := (r20_in g70)
      have hk71x := vp_lt g70
      have hk71b := r20_b hk71
      have g73 : vp_in y7 20 := inE (rfl : y7.toInt = y7.toInt) (by omega) (by omega)
      refine ⟨g73, ?_⟩
      have f76 := tB (σ6.1 (123 + x2.toNatClampNeg) y7.toNatClampNeg)
      refine sX3_putFour hN hσ6 (fun σ77 hσ77 kk89 => ?_)
      obtain ⟨k78, k79, k80, k81, k82, k83, k84, k85, k86, k87, k88⟩ := kk89
      intro v90 ev90
      have f91 := tB v90
      first | have f93 : v90.toInt = (y7.toInt + (1)) := (congrArg Int32.toInt ev90).trans (aOkE (rfl : y7.toInt = y7.toInt) (show (1 : Int32).toInt = 1 from by decide) (by omega) (by omega)) | skip
      exact ih5 v90 σ77 ⟨hσ77, k78.trans (k8), k79.trans (k9), k80.trans (k10), k81.trans (k11), k82.trans (k12), k83.trans (k13), k84.trans (k14), k85.trans (k15), k86.trans (k16), k87.trans (k17), k88.trans (k18), by omega⟩ (by (try dsimp only); omega)
set_option maxHeartbeats 4000000 in
theorem sX7_putNode {N : Nat} (hN : 4294967400 ≤ N) {x2 : Int32} {x3 : Int32} {Q : St → Prop} {σ0 σ : St} (hp2 : 0 ≤ x2.toInt ∧ x2.toInt ≤ 59) (hσ : K1 σ0 σ) (hQ : ∀ τ : St, K1 σ0 τ → (τ.1 3 7 = σ.1 3 7 ∧ τ.1 3 11 = σ.1 3 11 ∧ τ.1 3 6 = σ.1 3 6 ∧ τ.1 9 9 = σ.1 9 9 ∧ τ.1 9 10 = σ.1 9 10 ∧ τ.1 6 5 = σ.1 6 5 ∧ τ.1 7 4 = σ.1 7 4 ∧ τ.1 2 4 = σ.1 2 4 ∧ τ.1 2 5 = σ.1 2 5 ∧ τ.1 2 6 = σ.1 2 6 ∧ τ.1 3 8 = σ.1 3 8) → Q τ) : fX7_putNode N x2 x3 Q σ := by
  unfold fX7_putNode
  have f1 := tB x2
  have g2 : vp_in x2 60 := inE (rfl : x2.toInt = x2.toInt) (by omega) (by omega)
  refine ⟨g2, ?_⟩
  have f3 := tB x3
  have f4 := tB (σ.1 18 x2.toNatClampNeg)
  refine sX3_putByte hN hσ (fun σ5 hσ5 kk17 => ?_)
  obtain ⟨k6, k7, k8, k9, k10, k11, k12, k13, k14, k15, k16⟩ := kk17
  have g19 : vp_in x2 60 := inE (rfl : x2.toInt = x2.toInt) (by omega) (by omega)
  refine ⟨g19, ?_⟩
  intro v20 ev20
  refine ⟨fun c21 => ?_, fun c21 => ?_⟩
  · have f22 := tB v20
    have f23 := tB (σ5.1 18 x2.toNatClampNeg)
    first | have f24 : v20.toInt = (σ5.1 18 x2.toNatClampNeg).toInt := (congrArg Int32.toInt ev20).trans (rfl : (σ5.1 18 x2.toNatClampNeg).toInt = (σ5.1 18 x2.toNatClampNeg).toInt) | skip
    first | have f25 := (eqE (rfl : v20.toInt = v20.toInt) (show (2 : Int32).toInt = 2 from by decide)).mp c21 | skip
    have g27 : vp_in x2 60 := inE (rfl : x2.toInt = x2.toInt) (by omega) (by omega)
    refine ⟨g27, ?_⟩
    have hk28 : r20 (123 + x2.toNatClampNeg) := (r20_in g27)
    have hk28x := vp_lt g27
    have hk28b := r20_b hk28
    have g29 : vp_in (0 : Int32) 20 := inE (show (0 : Int32).toInt = 0 from by decide) (by omega) (by omega)
    refine ⟨g29, ?_⟩
    have f31 := tB (σ5.1 (123 + x2.toNatClampNeg) (0 : Int32).toNatClampNeg)
    refine sX3_putByte hN hσ5 (fun σ32 hσ32 kk44 => ?_)
    obtain ⟨k33, k34, k35, k36, k37, k38, k39, k40, k41, k42, k43⟩ := kk44
    exact hQ _ hσ32 (⟨k33.trans (k6), k34.trans (k7), k35.trans (k8), k36.trans (k9), k37.trans (k10), k38.trans (k11), k39.trans (k12), k40.trans (k13), k41.trans (k14), k42.trans (k15), k43.trans (k16)⟩)
  · have f45 := tB v20
    have f46 := tB (σ5.1 18 x2.toNatClampNeg)
    first | have f47 : v20.toInt = (σ5.1 18 x2.toNatClampNeg).toInt := (congrArg Int32.toInt ev20).trans (rfl : (σ5.1 18 x2.toNatClampNeg).toInt = (σ5.1 18 x2.toNatClampNeg).toInt) | skip
    first | have f48 := (noteqE (rfl : v20.toInt = v20.toInt) (show (2 : Int32).toInt = 2 from by decide)).mp c21 | skip
    refine ⟨fun c49 => ?_, fun c49 => ?_⟩
    · first | have f51 := (eqE (rfl : v20.toInt = v20.toInt) (show (3 : Int32).toInt = 3 from by decide)).mp c49 | skip
      refine sX7_putBytes hN ⟨leP (rfl : x2.toInt = x2.toInt) (by omega), geP (rfl : x2.toInt = x2.toInt) (by omega)⟩ hσ5 (fun σ54 hσ54 kk66 => ?_)
      obtain ⟨k55, k56, k57, k58, k59, k60, k61, k62, k63, k64, k65⟩ := kk66
      exact hQ _ hσ54 (⟨k55.trans (k6), k56.trans (k7), k57.trans (k8), k58.trans (k9), k59.trans (k10), k60.trans (k11), k61.trans (k12), k62.trans (k13), k63.trans (k14), k64.trans (k15), k65.trans (k16)⟩)
    · first | have f68 := (noteqE (rfl : v20.toInt = v20.toInt) (show (3 : Int32).toInt = 3 from by decide)).mp c49 | skip
      refine ⟨fun c69 => ?_, fun c69 => ?_⟩
      · first | have f71 := (eqE (rfl : v20.toInt = v20.toInt) (show (4 : Int32).toInt = 4 from by decide)).mp c69 | skip
        have g73 : vp_in x2 60 := inE (rfl : x2.toInt = x2.toInt) (by omega) (by omega)
        refine ⟨g73, ?_⟩
        have hk74 : r20 (123 + x2.toNatClampNeg) := (r20_in g73)
        have hk74x := vp_lt g73
        have hk74b := r20_b hk74
        have g75 : vp_in (0 : Int32) 20 := inE (show (0 : Int32).toInt = 0 from by decide) (by omega) (by omega)
        refine ⟨g75, ?_⟩
        have f77 := tB (σ5.1 (123 + x2.toNatClampNeg) (0 : Int32).toNatClampNeg)
        refine sX3_putFour hN hσ5 (fun σ78 hσ78 kk90 => ?_)
        obtain ⟨k79, k80, k81, k82, k83, k84, k85, k86, k87, k88, k89⟩ := kk90
        exact hQ _ hσ78 (⟨k79.trans (k6), k80.trans (k7), k81.trans (k8), k82.trans (k9), k83.trans (k10), k84.trans (k11), k85.trans (k12), k86.trans (k13), k87.trans (k14), k88.trans (k15), k89.trans (k16)⟩)
      · first | have f92 := (noteqE (rfl : v20.toInt = v20.toInt) (show (4 : Int32).toInt = 4 from by decide)).mp c69 | skip
        refine ⟨fun c93 => ?_, fun c93 => ?_⟩
        · first | have f95 := (eqE (rfl : v20.toInt = v20.toInt) (show (5 : Int32).toInt = 5 from by decide)).mp c93 | skip
          refine sX7_putFours hN ⟨leP (rfl : x2.toInt = x2.toInt) (by omega), geP (rfl : x2.toInt = x2.toInt) (by omega)⟩ hσ5 (fun σ98 hσ98 kk110 => ?_)
          obtain ⟨k99, k100, k101, k102, k103, k104, k105, k106, k107, k108, k109⟩ := kk110
          exact hQ _ hσ98 (⟨k99.trans (k6), k100.trans (k7), k101.trans (k8), k102.trans (k9), k103.trans (k10), k104.trans (k11), k105.trans (k12), k106.trans (k13), k107.trans (k14), k108.trans (k15), k109.trans (k16)⟩)
        · first | have f112 := (noteqE (rfl : v20.toInt = v20.toInt) (show (5 : Int32).toInt = 5 from by decide)).mp c93 | skip
          have g114 : vp_in x2 60 := inE (rfl : x2.toInt = x2.toInt) (by omega) (by omega)
          refine ⟨g114, ?_⟩
          have f116 := tB (σ5.1 19 x2.toNatClampNeg)
          refine sX3_putFour hN hσ5 (fun σ117 hσ117 kk129 => ?_)
          obtain ⟨k118, k119, k120, k121, k122, k123, k124, k125, k126, k127, k128⟩ := kk129
          exact hQ _ hσ117 (⟨k118.trans (k6), k119.trans (k7), k120.trans (k8), k121.trans (k9), k122.trans (k10), k123.trans (k11), k124.trans (k12), k125.trans (k13), k126.trans (k14), k127.trans (k15), k128.trans (k16)⟩)
