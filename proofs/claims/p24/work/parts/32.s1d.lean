set_option maxHeartbeats 4000000 in
theorem sX11_piece {N : Nat} (hN : 4294967400 ≤ N) {x1 : Int32} {Q : Int32 → St → Prop} {σ0 σ : St} (hσ : K1 σ0 σ) (hQ : ∀ (r : Int32) (τ : St), K1 σ0 τ → (τ.1 3 7 = σ.1 3 7 ∧ τ.1 3 11 = σ.1 3 11 ∧ τ.1 3 6 = σ.1 3 6 ∧ τ.1 9 9 = σ.1 9 9 ∧ τ.1 9 10 = σ.1 9 10 ∧ τ.1 7 4 = σ.1 7 4 ∧ τ.1 2 4 = σ.1 2 4 ∧ τ.1 2 5 = σ.1 2 5 ∧ τ.1 2 6 = σ.1 2 6 ∧ τ.1 3 8 = σ.1 3 8) → True → Q r τ) : fX11_piece N x1 Q σ := by
  unfold fX11_piece
  intro v1 ev1
  intro σ2 eσ2
  have hσ2 : K1 σ0 σ2 := by rw [eσ2]; exact hσ.u (Rg1.r_0_7 (leP (show (0 : Int32).toInt = 0 from by decide) (by omega)) (geP (show (0 : Int32).toInt = 0 from by decide) (by omega))) (fun q => absurd q.1 (by decide)) (fun q => absurd q.2 (by decide))
  have f3 := tB x1
  have f4 := tB v1
  have f5 := K1.g_0_7 hσ
  first | have f6 : v1.toInt = (σ.1 0 7).toInt := (congrArg Int32.toInt ev1).trans (rfl : (σ.1 0 7).toInt = (σ.1 0 7).toInt) | skip
  refine sX7_isPiece hN r120_11 hσ2 (fun r20 p21 => ?_)
  refine ⟨fun c22 => ?_, fun c22 => ?_⟩
  · have f23 := tB r20
    first | have f24 := (eqE (rfl : r20.toInt = r20.toInt) (show (0 : Int32).toInt = 0 from by decide)).mp c22 | skip
    exact hQ _ _ hσ2 (⟨(kq (a := 3) (b := 7) eσ2 (fun q => absurd q.1 (by decide))), (kq (a := 3) (b := 11) eσ2 (fun q => absurd q.1 (by decide))), (kq (a := 3) (b := 6) eσ2 (fun q => absurd q.1 (by decide))), (kq (a := 9) (b := 9) eσ2 (fun q => absurd q.1 (by decide))), (kq (a := 9) (b := 10) eσ2 (fun q => absurd q.1 (by decide))), (kq (a := 7) (b := 4) eσ2 (fun q => absurd q.1 (by decide))), (kq (a := 2) (b := 4) eσ2 (fun q => absurd q.1 (by decide))), (kq (a := 2) (b := 5) eσ2 (fun q => absurd q.1 (by decide))), (kq (a := 2) (b := 6) eσ2 (fun q => absurd q.1 (by decide))), (kq (a := 3) (b := 8) eσ2 (fun q => absurd q.1 (by decide)))⟩) trivial
  · have f25 := tB r20
    first | have f26 := (noteqE (rfl : r20.toInt = r20.toInt) (show (0 : Int32).toInt = 0 from by decide)).mp c22 | skip
    refine sX7_add hN r120_11 ⟨leP (rfl : v1.toInt = v1.toInt) (by omega), geP (rfl : v1.toInt = v1.toInt) (by omega)⟩ hσ2 (fun r41 σ29 hσ29 kk40 p42 => ?_)
    obtain ⟨k30, k31, k32, k33, k34, k35, k36, k37, k38, k39⟩ := kk40
    exact hQ _ _ hσ29 (⟨k30.trans ((kq (a := 3) (b := 7) eσ2 (fun q => absurd q.1 (by decide)))), k31.trans ((kq (a := 3) (b := 11) eσ2 (fun q => absurd q.1 (by decide)))), k32.trans ((kq (a := 3) (b := 6) eσ2 (fun q => absurd q.1 (by decide)))), k33.trans ((kq (a := 9) (b := 9) eσ2 (fun q => absurd q.1 (by decide)))), k34.trans ((kq (a := 9) (b := 10) eσ2 (fun q => absurd q.1 (by decide)))), k35.trans ((kq (a := 7) (b := 4) eσ2 (fun q => absurd q.1 (by decide)))), k36.trans ((kq (a := 2) (b := 4) eσ2 (fun q => absurd q.1 (by decide)))), k37.trans ((kq (a := 2) (b := 5) eσ2 (fun q => absurd q.1 (by decide)))), k38.trans ((kq (a := 2) (b := 6) eσ2 (fun q => absurd q.1 (by decide)))), k39.trans ((kq (a := 3) (b := 8) eσ2 (fun q => absurd q.1 (by decide))))⟩) trivial
set_option maxHeartbeats 4000000 in
theorem sX7_standsAt {N : Nat} (hN : 4294967400 ≤ N) {x1 : Int32} {k2 : Nat} {x3 : Int32} {x4 : Int32} (hk2 : r120 k2) {Q : Int32 → St → Prop} {σ0 σ : St} (hp1 : 0 ≤ x1.toInt ∧ x1.toInt ≤ 59) (hp4 : 0 ≤ x4.toInt ∧ x4.toInt ≤ 120) (hσ : K1 σ0 σ) (hQ : ∀ r : Int32, (r.toInt = 0 ∨ (0 ≤ x3.toInt ∧ x4.toInt ≤ 120 ∧ (σ.1 21 x1.toNatClampNeg).toInt ≤ x4.toInt - x3.toInt)) → Q r σ) : fX7_standsAt N x1 k2 x3 x4 Q σ := by
  unfold fX7_standsAt
  have kbhk2 := r120_b hk2
  refine ⟨fun c1 => ?_, fun c1 => ?_⟩
  · have f2 := tB x3
    first | have f3 := (ltE (rfl : x3.toInt = x3.toInt) (show (0 : Int32).toInt = 0 from by decide)).mp c1 | skip
    have f4 := K1.ga_21 hσ x1.toNatClampNeg
    have f6 := tB x4
    have hrv := (show (0 : Int32).toInt = 0 from by decide)
    exact hQ _ (by omega)
  · have f9 := tB x3
    first | have f10 := (notltE (rfl : x3.toInt = x3.toInt) (show (0 : Int32).toInt = 0 from by decide)).mp c1 | skip
    refine ⟨fun c11 => ?_, fun c11 => ?_⟩
    · have f12 := tB x4
      first | have f13 := (ltE (show (120 : Int32).toInt = 120 from by decide) (rfl : x4.toInt = x4.toInt)).mp c11 | skip
      have f14 := K1.ga_21 hσ x1.toNatClampNeg
      have hrv := (show (0 : Int32).toInt = 0 from by decide)
      exact hQ _ (by omega)
    · have f19 := tB x4
      first | have f20 := (notltE (show (120 : Int32).toInt = 120 from by decide) (rfl : x4.toInt = x4.toInt)).mp c11 | skip
      have f21 := tB x1
      have g22 : vp_in x1 60 := inE (rfl : x1.toInt = x1.toInt) (by omega) (by omega)
      refine ⟨g22, ?_⟩
      refine ⟨fun c23 => ?_, fun c23 => ?_⟩
      · have f24 := K1.ga_21 hσ x1.toNatClampNeg
        first | have f27 := (leE (rfl : (σ.1 21 x1.toNatClampNeg).toInt = (σ.1 21 x1.toNatClampNeg).toInt) (sOkE (rfl : x4.toInt = x4.toInt) (rfl : x3.toInt = x3.toInt) (by omega) (by omega))).mp c23 | skip
        refine lo1_i (fun (y28 : Int32) (τ : St) => σ = τ ∧ 0 ≤ y28.toInt) (fun (y28 : Int32) (τ : St) => (2147483648 - y28.toInt).toNat) ?_ N (0 : Int32) σ ⟨rfl, by first | decide | (have z0 : (0 : Int32).toInt = 0 := (by decide); omega)⟩ (by have z0 : (0 : Int32).toInt = 0 := (by decide); (try dsimp only); omega)
        intro rr31 y34 σ33 hIσ33 ih32
        obtain ⟨hσ33, i35⟩ := hIσ33
        subst hσ33
        unfold fX7_standsAt_l29
        have f36 := tB y34
        have g38 : vp_in x1 60 := inE (rfl : x1.toInt = x1.toInt) (by omega) (by omega)
        refine ⟨g38, ?_⟩
        refine ⟨fun c39 => ?_, fun c39 => ?_⟩
        · first | have f42 := (leE (rfl : (σ.1 21 x1.toNatClampNeg).toInt = (σ.1 21 x1.toNatClampNeg).toInt) (rfl : y34.toInt = y34.toInt)).mp c39 | skip
          have hrv := (show (1 : Int32).toInt = 1 from by decide)
          exact hQ _ (by omega)
        · first | have f50 := (notleE (rfl : (σ.1 21 x1.toNatClampNeg).toInt = (σ.1 21 x1.toNatClampNeg).toInt) (rfl : y34.toInt = y34.toInt)).mp c39 | skip
          refine ⟨fun c51 => ?_, fun c51 => ?_⟩
          · first | have f53 := (leE (show (20 : Int32).toInt = 20 from by decide) (rfl : y34.toInt = y34.toInt)).mp c51 | skip
            have hrv := (show (1 : Int32).toInt = 1 from by decide)
            exact hQ _ (by omega)
          · first | have f60 := (notleE (show (20 : Int32).toInt = 20 from by decide) (rfl : y34.toInt = y34.toInt)).mp c51 | skip
            have g63 : vp_in (x3 + y34) 120 := inE (aOkE (rfl : x3.toInt = x3.toInt) (rfl : y34.toInt = y34.toInt) (by omega) (by omega)) (by omega) (by omega)
            refine ⟨g63, ?_⟩
            have g65 : vp_in x1 60 := inE (rfl : x1.toInt = x1.toInt) (by omega) (by omega)
            refine ⟨g65, ?_⟩
            have hk66 : r20 (123 + x1.toNatClampNeg) := (r20_in g65)
            have hk66x := vp_lt g65
            have hk66b := r20_b hk66
            have g68 : vp_in y34 20 := inE (rfl : y34.toInt = y34.toInt) (by omega) (by omega)
            refine ⟨g68, ?_⟩
            refine ⟨fun c69 => ?_, fun c69 => ?_⟩
            · have f70 := tB (σ.1 k2 (x3 + y34).toNatClampNeg)
              have f71 := tB (σ.1 (123 + x1.toNatClampNeg) y34.toNatClampNeg)
              first | have f72 := (eqE (rfl : (σ.1 k2 (x3 + y34).toNatClampNeg).toInt = (σ.1 k2 (x3 + y34).toNatClampNeg).toInt) (rfl : (σ.1 (123 + x1.toNatClampNeg) y34.toNatClampNeg).toInt = (σ.1 (123 + x1.toNatClampNeg) y34.toNatClampNeg).toInt)).mp c69 | skip
              intro v73 ev73
              have f74 := tB v73
              first | have f76 : v73.toInt = (y34.toInt + (1)) := (congrArg Int32.toInt ev73).trans (aOkE (rfl : y34.toInt = y34.toInt) (show (1 : Int32).toInt = 1 from by decide) (by omega) (by omega)) | skip
              exact ih32 v73 σ ⟨rfl, by omega⟩ (by (try dsimp only); omega)
            · have f77 := tB (σ.1 k2 (x3 + y34).toNatClampNeg)
              have f78 := tB (σ.1 (123 + x1.toNatClampNeg) y34.toNatClampNeg)
              first | have f79 := (noteqE (rfl : (σ.1 k2 (x3 + y34).toNatClampNeg).toInt = (σ.1 k2 (x3 + y34).toNatClampNeg).toInt) (rfl : (σ.1 (123 + x1.toNatClampNeg) y34.toNatClampNeg).toInt = (σ.1 (123 + x1.toNatClampNeg) y34.toNatClampNeg).toInt)).mp c69 | skip
              have hrv := (show (0 : Int32).toInt = 0 from by decide)
              exact hQ _ (by omega)
      · have f85 := K1.ga_21 hσ x1.toNatClampNeg
        first | have f88 := (notleE (rfl : (σ.1 21 x1.toNatClampNeg).toInt = (σ.1 21 x1.toNatClampNeg).toInt) (sOkE (rfl : x4.toInt = x4.toInt) (rfl : x3.toInt = x3.toInt) (by omega) (by omega))).mp c23 | skip
        have hrv := (show (0 : Int32).toInt = 0 from by decide)
        exact hQ _ (by omega)
set_option maxHeartbeats 4000000 in
theorem sX6_choose {N : Nat} (hN : 4294967400 ≤ N) {k1 : Nat} {x2 : Int32} {x3 : Int32} (hk1 : r120 k1) {Q : St → Prop} {σ0 σ : St} (hp2 : 0 ≤ x2.toInt ∧ x2.toInt ≤ 119) (hp3 : 0 ≤ x3.toInt ∧ x3.toInt ≤ 120) (hσ : K1 σ0 σ) (hQ : ∀ τ : St, K1 σ0 τ → (τ.1 3 7 = σ.1 3 7 ∧ τ.1 3 11 = σ.1 3 11 ∧ τ.1 3 6 = σ.1 3 6 ∧ τ.1 9 9 = σ.1 9 9 ∧ τ.1 9 10 = σ.1 9 10 ∧ τ.1 6 5 = σ.1 6 5 ∧ τ.1 7 4 = σ.1 7 4 ∧ τ.1 2 4 = σ.1 2 4 ∧ τ.1 2 5 = σ.1 2 5 ∧ τ.1 2 6 = σ.1 2 6 ∧ τ.1 3 8 = σ.1 3 8) → Q τ) : fX6_choose N k1 x2 x3 Q σ := by
  unfold fX6_choose
  have kbhk1 := r120_b hk1
  have f1 := tB x2
  refine ⟨inE (rfl : x2.toInt = x2.toInt) (by omega) (by omega), ?_⟩
  intro σ2 eσ2
  have hσ2 : K1 σ0 σ2 := by rw [eσ2]; exact hσ.u (Rg1.ra_27 _ _) (fun q => absurd q.1 (by decide)) (fun q => absurd q.1 (by decide))
  refine ⟨inE (rfl : x2.toInt = x2.toInt) (by omega) (by omega), ?_⟩
  intro σ4 eσ4
  have hσ4 : K1 σ0 σ4 := by rw [eσ4]; exact hσ2.u (Rg1.ra_28 (leP (show ((-1) : Int32).toInt = -1 from by decide) (by omega)) (geP (show ((-1) : Int32).toInt = -1 from by decide) (by omega))) (fun q => absurd q.1 (by decide)) (fun q => absurd q.1 (by decide))
  have f8 := tB x3
  refine lo2_i (fun (y5 : Int32) (y6 : Int32) (τ : St) => K1 σ0 τ ∧ τ.1 3 7 = σ4.1 3 7 ∧ τ.1 3 11 = σ4.1 3 11 ∧ τ.1 3 6 = σ4.1 3 6 ∧ τ.1 9 9 = σ4.1 9 9 ∧ τ.1 9 10 = σ4.1 9 10 ∧ τ.1 6 5 = σ4.1 6 5 ∧ τ.1 7 4 = σ4.1 7 4 ∧ τ.1 2 4 = σ4.1 2 4 ∧ τ.1 2 5 = σ4.1 2 5 ∧ τ.1 2 6 = σ4.1 2 6 ∧ τ.1 3 8 = σ4.1 3 8 ∧ 0 ≤ y6.toInt) (fun (y5 : Int32) (y6 : Int32) (τ : St) => (2147483648 - y6.toInt).toNat) ?_ N (0 : Int32) (0 : Int32) σ4 ⟨hσ4, rfl, rfl, rfl, rfl, rfl, rfl, rfl, rfl, rfl, rfl, rfl, by first | decide | (have z0 : (0 : Int32).toInt = 0 := (by decide); omega)⟩ (by have z0 : (0 : Int32).toInt = 0 := (by decide); (try dsimp only); omega)
  intro rr9 y12 y13 σ11 hIσ11 ih10
  obtain ⟨hσ11, k14, k15, k16, k17, k18, k19, k20, k21, k22, k23, k24, i25⟩ := hIσ11
  unfold fX6_choose_l21
  have f26 := tB y12
  have f27 := tB y13
  refine ⟨fun c28 => ?_, fun c28 => ?_⟩
  · have f29 := K1.g_6_5 hσ11
    have f30 := congrArg Int32.toInt k19
    have f31 := K1.g_6_5 hσ4
    have q32 : σ4.1 6 5 = σ2.1 6 5 := by rw [eσ4]; exact congrFun (u1_ne (by decide)) 5
    have f33 := congrArg Int32.toInt q32
    have f34 := K1.g_6_5 hσ2
    have q35 : σ2.1 6 5 = σ.1 6 5 := by rw [eσ2]; exact congrFun (u1_ne (by decide)) 5
    have f36 := congrArg Int32.toInt q35
    have f37 := K1.g_6_5 hσ
    first | have f39 := (leE (rfl : (σ11.1 6 5).toInt = (σ11.1 6 5).toInt) (rfl : y13.toInt = y13.toInt)).mp c28 | skip
    exact hQ _ hσ11 (⟨k14.trans ((kq (a := 3) (b := 7) eσ4 (fun q => absurd q.1 (by decide))).trans ((kq (a := 3) (b := 7) eσ2 (fun q => absurd q.1 (by decide))))), k15.trans ((kq (a := 3) (b := 11) eσ4 (fun q => absurd q.1 (by decide))).trans ((kq (a := 3) (b := 11) eσ2 (fun q => absurd q.1 (by decide))))), k16.trans ((kq (a := 3) (b := 6) eσ4 (fun q => absurd q.1 (by decide))).trans ((kq (a := 3) (b := 6) eσ2 (fun q => absurd q.1 (by decide))))), k17.trans ((kq (a := 9) (b := 9) eσ4 (fun q => absurd q.1 (by decide))).trans ((kq (a := 9) (b := 9) eσ2 (fun q => absurd q.1 (by decide))))), k18.trans ((kq (a := 9) (b := 10) eσ4 (fun q => absurd q.1 (by decide))).trans ((kq (a := 9) (b := 10) eσ2 (fun q => absurd q.1 (by decide))))), k19.trans ((kq (a := 6) (b := 5) eσ4 (fun q => absurd q.1 (by decide))).trans ((kq (a := 6) (b := 5) eσ2 (fun q => absurd q.1 (by decide))))), k20.trans ((kq (a := 7) (b := 4) eσ4 (fun q => absurd q.1 (by decide))).trans ((kq (a := 7) (b := 4) eσ2 (fun q => absurd q.1 (by decide))))), k21.trans ((kq (a := 2) (b := 4) eσ4 (fun q => absurd q.1 (by decide))).trans ((kq (a := 2) (b := 4) eσ2 (fun q => absurd q.1 (by decide))))), k22.trans ((kq (a := 2) (b := 5) eσ4 (fun q => absurd q.1 (by decide))).trans ((kq (a := 2) (b := 5) eσ2 (fun q => absurd q.1 (by decide))))), k23.trans ((kq (a := 2) (b := 6) eσ4 (fun q => absurd q.1 (by decide))).trans ((kq (a := 2) (b := 6) eσ2 (fun q => absurd q.1 (by decide))))), k24.trans ((kq (a := 3) (b := 8) eσ4 (fun q => absurd q.1 (by decide))).trans ((kq (a := 3) (b := 8) eσ2 (fun q => absurd q.1 (by decide)))))⟩)
  · have f40 := K1.g_6_5 hσ11
    have f41 := congrArg Int32.toInt k19
    have f42 := K1.g_6_5 hσ4
    have q43 : σ4.1 6 5 = σ2.1 6 5 := by rw [eσ4]; exact congrFun (u1_ne (by decide)) 5
    have f44 := congrArg Int32.toInt q43
    have f45 := K1.g_6_5 hσ2
    have q46 : σ2.1 6 5 = σ.1 6 5 := by rw [eσ2]; exact congrFun (u1_ne (by decide)) 5
    have f47 := congrArg Int32.toInt q46
    have f48 := K1.g_6_5 hσ
    first | have f50 := (notleE (rfl : (σ11.1 6 5).toInt = (σ11.1 6 5).toInt) (rfl : y13.toInt = y13.toInt)).mp c28 | skip
    refine sX7_standsAt hN hk1 ⟨leP (rfl : y13.toInt = y13.toInt) (by omega), geP (rfl : y13.toInt = y13.toInt) (by omega)⟩ ⟨leP (rfl : x3.toInt = x3.toInt) (by omega), geP (rfl : x3.toInt = x3.toInt) (by omega)⟩ hσ11 (fun r67 p68 => ?_)
    have f69 := K1.ga_21 hσ11 y13.toNatClampNeg
    refine ⟨fun c74 => ?_, fun c74 => ?_⟩
    · have f75 := tB r67
      first | have f76 := (eqE (rfl : r67.toInt = r67.toInt) (show (0 : Int32).toInt = 0 from by decide)).mp c74 | skip
      unfold fX6_choose_j144
      intro v77 ev77
      have f79 := tB v77
      first | have f81 : v77.toInt = (y13.toInt + (1)) := (congrArg Int32.toInt ev77).trans (aOkE (rfl : y13.toInt = y13.toInt) (show (1 : Int32).toInt = 1 from by decide) (by omega) (by omega)) | skip
      exact ih10 y12 v77 σ11 ⟨hσ11, k14, k15, k16, k17, k18, k19, k20, k21, k22, k23, k24, by omega⟩ (by (try dsimp only); omega)
    · have f82 := tB r67
      first | have f83 := (noteqE (rfl : r67.toInt = r67.toInt) (show (0 : Int32).toInt = 0 from by decide)).mp c74 | skip
      have g85 : vp_in y13 60 := inE (rfl : y13.toInt = y13.toInt) (by omega) (by omega)
      refine ⟨g85, ?_⟩
      intro v86 ev86
      have f88 := tB v86
      first | have f90 : v86.toInt = (σ11.1 21 y13.toNatClampNeg).toInt := (congrArg Int32.toInt ev86).trans (rfl : (σ11.1 21 y13.toNatClampNeg).toInt = (σ11.1 21 y13.toNatClampNeg).toInt) | skip
      have g91 : vp_in (x2 + v86) 121 := inE (aOkE (rfl : x2.toInt = x2.toInt) (rfl : v86.toInt = v86.toInt) (by omega) (by omega)) (by omega) (by omega)
      refine ⟨g91, ?_⟩
      intro v92 ev92
      have g94 : vp_in x2 121 := inE (rfl : x2.toInt = x2.toInt) (by omega) (by omega)
      refine ⟨g94, ?_⟩
      refine ⟨fun c95 => ?_, fun c95 => ?_⟩
      · have f96 := tB v92
        have f97 := tB (σ11.1 27 (x2 + v86).toNatClampNeg)
        first | have f98 : v92.toInt = ((σ11.1 27 (x2 + v86).toNatClampNeg).toInt + (1)) := (congrArg Int32.toInt ev92).trans (aOkE (rfl : (σ11.1 27 (x2 + v86).toNatClampNeg).toInt = (σ11.1 27 (x2 + v86).toNatClampNeg).toInt) (show (1 : Int32).toInt = 1 from by decide) (by omega) (by omega)) | skip
        have f99 := tB (σ11.1 27 x2.toNatClampNeg)
        first | have f100 := (ltE (rfl : v92.toInt = v92.toInt) (rfl : (σ11.1 27 x2.toNatClampNeg).toInt = (σ11.1 27 x2.toNatClampNeg).toInt)).mp c95 | skip
        unfold fX6_choose_j105
        unfold fX6_choose_j110
        refine ⟨fun c101 => ?_, fun c101 => ?_⟩
        · first | have f103 := (leE (show (121 : Int32).toInt = 121 from by decide) (rfl : v92.toInt = v92.toInt)).mp c101 | skip
          unfold fX6_choose_j144
          intro v104 ev104
          have f106 := tB v104
          first | have f108 : v104.toInt = (y13.toInt + (1)) := (congrArg Int32.toInt ev104).trans (aOkE (rfl : y13.toInt = y13.toInt) (show (1 : Int32).toInt = 1 from by decide) (by omega) (by omega)) | skip
          exact ih10 y12 v104 σ11 ⟨hσ11, k14, k15, k16, k17, k18, k19, k20, k21, k22, k23, k24, by omega⟩ (by (try dsimp only); omega)
        · first | have f110 := (notleE (show (121 : Int32).toInt = 121 from by decide) (rfl : v92.toInt = v92.toInt)).mp c101 | skip
          refine ⟨fun c111 => ?_, fun c111 => ?_⟩
          · first | have f112 := (eqE (show (1 : Int32).toInt = 1 from by decide) (show (0 : Int32).toInt = 0 from by decide)).mp c111 | skip
            unfold fX6_choose_j144
            intro v113 ev113
            have f115 := tB v113
            first | have f117 : v113.toInt = (y13.toInt + (1)) := (congrArg Int32.toInt ev113).trans (aOkE (rfl : y13.toInt = y13.toInt) (show (1 : Int32).toInt = 1 from by decide) (by omega) (by omega)) | skip
            exact ih10 y12 v113 σ11 ⟨hσ11, k14, k15, k16, k17, k18, k19, k20, k21, k22, k23, k24, by omega⟩ (by (try dsimp only); omega)
          · first | have f118 := (noteqE (show (1 : Int32).toInt = 1 from by decide) (show (0 : Int32).toInt = 0 from by decide)).mp c111 | skip
            refine ⟨inE (rfl : x2.toInt = x2.toInt) (by omega) (by omega), ?_⟩
            intro σ120 eσ120
            have hσ120 : K1 σ0 σ120 := by rw [eσ120]; exact hσ11.u (Rg1.ra_27 _ _) (fun q => absurd q.1 (by decide)) (fun q => absurd q.1 (by decide))
            refine ⟨inE (rfl : x2.toInt = x2.toInt) (by omega) (by omega), ?_⟩
            intro σ122 eσ122
            have hσ122 : K1 σ0 σ122 := by rw [eσ122]; exact hσ120.u (Rg1.ra_28 (leP (rfl : y13.toInt = y13.toInt) (by omega)) (geP (rfl : y13.toInt = y13.toInt) (by omega))) (fun q => absurd q.1 (by decide)) (fun q => absurd q.1 (by decide))
            unfold fX6_choose_j144
            intro v124 ev124
            have f126 := tB v124
            first | have f128 : v124.toInt = (y13.toInt + (1)) := (congrArg Int32.toInt ev124).trans (aOkE (rfl : y13.toInt = y13.toInt) (show (1 : Int32).toInt = 1 from by decide) (by omega) (by omega)) | skip
            exact ih10 v86 v124 σ122 ⟨hσ122, (kq (a := 3) (b := 7) eσ122 (fun q => absurd q.1 (by decide))).trans ((kq (a := 3) (b := 7) eσ120 (fun q => absurd q.1 (by decide))).trans (k14)), (kq (a := 3) (b := 11) eσ122 (fun q => absurd q.1 (by decide))).trans ((kq (a := 3) (b := 11) eσ120 (fun q => absurd q.1 (by decide))).trans (k15)), (kq (a := 3) (b := 6) eσ122 (fun q => absurd q.1 (by decide))).trans ((kq (a := 3) (b := 6) eσ120 (fun q => absurd q.1 (by decide))).trans (k16)), (kq (a := 9) (b := 9) eσ122 (fun q => absurd q.1 (by decide))).trans ((kq (a := 9) (b := 9) eσ120 (fun q => absurd q.1 (by decide))).trans (k17)), (kq (a := 9) (b := 10) eσ122 (fun q => absurd q.1 (by decide))).trans ((kq (a := 9) (b := 10) eσ120 (fun q => absurd q.1 (by decide))).trans (k18)), (kq (a := 6) (b := 5) eσ122 (fun q => absurd q.1 (by decide))).trans ((kq (a := 6) (b := 5) eσ120 (fun q => absurd q.1 (by decide))).trans (k19)), (kq (a := 7) (b := 4) eσ122 (fun q => absurd q.1 (by decide))).trans ((kq (a := 7) (b := 4) eσ120 (fun q => absurd q.1 (by decide))).trans (k20)), (kq (a := 2) (b := 4) eσ122 (fun q => absurd q.1 (by decide))).trans ((kq (a := 2) (b := 4) eσ120 (fun q => absurd q.1 (by decide))).trans (k21)), (kq (a := 2) (b := 5) eσ122 (fun q => absurd q.1 (by decide))).trans ((kq (a := 2) (b := 5) eσ120 (fun q => absurd q.1 (by decide))).trans (k22)), (kq (a := 2) (b := 6) eσ122 (fun q => absurd q.1 (by decide))).trans ((kq (a := 2) (b := 6) eσ120 (fun q => absurd q.1 (by decide))).trans (k23)), (kq (a := 3) (b := 8) eσ122 (fun q => absurd q.1 (by decide))).trans ((kq (a := 3) (b := 8) eσ120 (fun q => absurd q.1 (by decide))).trans (k24)), by omega⟩ (by (try dsimp only); omega)
      · have f129 := tB v92
        have f130 := tB (σ11.1 27 (x2 + v86).toNatClampNeg)
        first | have f131 : v92.toInt = ((σ11.1 27 (x2 + v86).toNatClampNeg).toInt + (1)) := (congrArg Int32.toInt ev92).trans (aOkE (rfl : (σ11.1 27 (x2 + v86).toNatClampNeg).toInt = (σ11.1 27 (x2 + v86).toNatClampNeg).toInt) (show (1 : Int32).toInt = 1 from by decide) (by omega) (by omega)) | skip
        have f132 := tB (σ11.1 27 x2.toNatClampNeg)
        first | have f133 := (notltE (rfl : v92.toInt = v92.toInt) (rfl : (σ11.1 27 x2.toNatClampNeg).toInt = (σ11.1 27 x2.toNatClampNeg).toInt)).mp c95 | skip
        have g135 : vp_in x2 121 := inE (rfl : x2.toInt = x2.toInt) (by omega) (by omega)
        refine ⟨g135, ?_⟩
        refine ⟨fun c136 => ?_, fun c136 => ?_⟩
        · first | have f139 := (eqE (rfl : v92.toInt = v92.toInt) (rfl : (σ11.1 27 x2.toNatClampNeg).toInt = (σ11.1 27 x2.toNatClampNeg).toInt)).mp c136 | skip
          refine ⟨fun c140 => ?_, fun c140 => ?_⟩
          · first | have f143 := (leE (rfl : v86.toInt = v86.toInt) (rfl : y12.toInt = y12.toInt)).mp c140 | skip
            unfold fX6_choose_j109
            unfold fX6_choose_j110
            refine ⟨fun c144 => ?_, fun c144 => ?_⟩
            · first | have f146 := (leE (show (121 : Int32).toInt = 121 from by decide) (rfl : v92.toInt = v92.toInt)).mp c144 | skip
              unfold fX6_choose_j144
              intro v147 ev147
              have f149 := tB v147
              first | have f151 : v147.toInt = (y13.toInt + (1)) := (congrArg Int32.toInt ev147).trans (aOkE (rfl : y13.toInt = y13.toInt) (show (1 : Int32).toInt = 1 from by decide) (by omega) (by omega)) | skip
              exact ih10 y12 v147 σ11 ⟨hσ11, k14, k15, k16, k17, k18, k19, k20, k21, k22, k23, k24, by omega⟩ (by (try dsimp only); omega)
            · first | have f153 := (notleE (show (121 : Int32).toInt = 121 from by decide) (rfl : v92.toInt = v92.toInt)).mp c144 | skip
              refine ⟨fun c154 => ?_, fun c154 => ?_⟩
              · first | have f155 := (eqE (show (0 : Int32).toInt = 0 from by decide) (show (0 : Int32).toInt = 0 from by decide)).mp c154 | skip
                unfold fX6_choose_j144
                intro v156 ev156
                have f158 := tB v156
                first | have f160 : v156.toInt = (y13.toInt + (1)) := (congrArg Int32.toInt ev156).trans (aOkE (rfl : y13.toInt = y13.toInt) (show (1 : Int32).toInt = 1 from by decide) (by omega) (by omega)) | skip
                exact ih10 y12 v156 σ11 ⟨hσ11, k14, k15, k16, k17, k18, k19, k20, k21, k22, k23, k24, by omega⟩ (by (try dsimp only); omega)
              · first | have f161 := (noteqE (show (0 : Int32).toInt = 0 from by decide) (show (0 : Int32).toInt = 0 from by decide)).mp c154 | skip
                refine ⟨inE (rfl : x2.toInt = x2.toInt) (by omega) (by omega), ?_⟩
                intro σ163 eσ163
                have hσ163 : K1 σ0 σ163 := by rw [eσ163]; exact hσ11.u (Rg1.ra_27 _ _) (fun q => absurd q.1 (by decide)) (fun q => absurd q.1 (by decide))
                refine ⟨inE (rfl : x2.toInt = x2.toInt) (by omega) (by omega), ?_⟩
                intro σ165 eσ165
                have hσ165 : K1 σ0 σ165 := by rw [eσ165]; exact hσ163.u (Rg1.ra_28 (leP (rfl : y13.toInt = y13.toInt) (by omega)) (geP (rfl : y13.toInt = y13.toInt) (by omega))) (fun q => absurd q.1 (by decide)) (fun q => absurd q.1 (by decide))
                unfold fX6_choose_j144
                intro v167 ev167
                have f169 := tB v167
                first | have f171 : v167.toInt = (y13.toInt + (1)) := (congrArg Int32.toInt ev167).trans (aOkE (rfl : y13.toInt = y13.toInt) (show (1 : Int32).toInt = 1 from by decide) (by omega) (by omega)) | skip
                exact ih10 v86 v167 σ165 ⟨hσ165, (kq (a := 3) (b := 7) eσ165 (fun q => absurd q.1 (by decide))).trans ((kq (a := 3) (b := 7) eσ163 (fun q => absurd q.1 (by decide))).trans (k14)), (kq (a := 3) (b := 11) eσ165 (fun q => absurd q.1 (by decide))).trans ((kq (a := 3) (b := 11) eσ163 (fun q => absurd q.1 (by decide))).trans (k15)), (kq (a := 3) (b := 6) eσ165 (fun q => absurd q.1 (by decide))).trans ((kq (a := 3) (b := 6) eσ163 (fun q => absurd q.1 (by decide))).trans (k16)), (kq (a := 9) (b := 9) eσ165 (fun q => absurd q.1 (by decide))).trans ((kq (a := 9) (b := 9) eσ163 (fun q => absurd q.1 (by decide))).trans (k17)), (kq (a := 9) (b := 10) eσ165 (fun q => absurd q.1 (by decide))).trans ((kq (a := 9) (b := 10) eσ163 (fun q => absurd q.1 (by decide))).trans (k18)), (kq (a := 6) (b := 5) eσ165 (fun q => absurd q.1 (by decide))).trans ((kq (a := 6) (b := 5) eσ163 (fun q => absurd q.1 (by decide))).trans (k19)), (kq (a := 7) (b := 4) eσ165 (fun q => absurd q.1 (by decide))).trans ((kq (a := 7) (b := 4) eσ163 (fun q => absurd q.1 (by decide))).trans (k20)), (kq (a := 2) (b := 4) eσ165 (fun q => absurd q.1 (by decide))).trans ((kq (a := 2) (b := 4) eσ163 (fun q => absurd q.1 (by decide))).trans (k21)), (kq (a := 2) (b := 5) eσ165 (fun q => absurd q.1 (by decide))).trans ((kq (a := 2) (b := 5) eσ163 (fun q => absurd q.1 (by decide))).trans (k22)), (kq (a := 2) (b := 6) eσ165 (fun q => absurd q.1 (by decide))).trans ((kq (a := 2) (b := 6) eσ163 (fun q => absurd q.1 (by decide))).trans (k23)), (kq (a := 3) (b := 8) eσ165 (fun q => absurd q.1 (by decide))).trans ((kq (a := 3) (b := 8) eσ163 (fun q => absurd q.1 (by decide))).trans (k24)), by omega⟩ (by (try dsimp only); omega)
          · first | have f174 := (notleE (rfl : v86.toInt = v86.toInt) (rfl : y12.toInt = y12.toInt)).mp c140 | skip
            unfold fX6_choose_j105
            unfold fX6_choose_j110
            refine ⟨fun c175 => ?_, fun c175 => ?_⟩
            · first | have f177 := (leE (show (121 : Int32).toInt = 121 from by decide) (rfl : v92.toInt = v92.toInt)).mp c175 | skip
              unfold fX6_choose_j144
              intro v178 ev178
              have f180 := tB v178
              first | have f182 : v178.toInt = (y13.toInt + (1)) := (congrArg Int32.toInt ev178).trans (aOkE (rfl : y13.toInt = y13.toInt) (show (1 : Int32).toInt = 1 from by decide) (by omega) (by omega)) | skip
              exact ih10 y12 v178 σ11 ⟨hσ11, k14, k15, k16, k17, k18, k19, k20, k21, k22, k23, k24, by omega⟩ (by (try dsimp only); omega)
            · first | have f184 := (notleE (show (121 : Int32).toInt = 121 from by decide) (rfl : v92.toInt = v92.toInt)).mp c175 | skip
              refine ⟨fun c185 => ?_, fun c185 => ?_⟩
              · first | have f186 := (eqE (show (1 : Int32).toInt = 1 from by decide) (show (0 : Int32).toInt = 0 from by decide)).mp c185 | skip
                unfold fX6_choose_j144
                intro v187 ev187
                have f189 := tB v187
                first | have f191 : v187.toInt = (y13.toInt + (1)) := (congrArg Int32.toInt ev187).trans (aOkE (rfl : y13.toInt = y13.toInt) (show (1 : Int32).toInt = 1 from by decide) (by omega) (by omega)) | skip
                exact ih10 y12 v187 σ11 ⟨hσ11, k14, k15, k16, k17, k18, k19, k20, k21, k22, k23, k24, by omega⟩ (by (try dsimp only); omega)
              · first | have f192 := (noteqE (show (1 : Int32).toInt = 1 from by decide) (show (0 : Int32).toInt = 0 from by decide)).mp c185 | skip
                refine ⟨inE (rfl : x2.toInt = x2.toInt) (by omega) (by omega), ?_⟩
                intro σ194 eσ194
                have hσ194 : K1 σ0 σ194 := by rw [eσ194]; exact hσ11.u (Rg1.ra_27 _ _) (fun q => absurd q.1 (by decide)) (fun q => absurd q.1 (by decide))
                refine ⟨inE (rfl : x2.toInt = x2.toInt) (by omega) (by omega), ?_⟩
                intro σ196 eσ196
                have hσ196 : K1 σ0 σ196 := by rw [eσ196]; exact hσ194.u (Rg1.ra_28 (leP (rfl : y13.toInt = y13.toInt) (by omega)) (geP (rfl : y13.toInt = y13.toInt) (by omega))) (fun q => absurd q.1 (by decide)) (fun q => absurd q.1 (by decide))
                unfold fX6_choose_j144
                intro v198 ev198
                have f200 := tB v198
                first | have f202 : v198.toInt = (y13.toInt + (1)) := (congrArg Int32.toInt ev198).trans (aOkE (rfl : y13.toInt = y13.toInt) (show (1 : Int32).toInt = 1 from by decide) (by omega) (by omega)) | skip
                exact ih10 v86 v198 σ196 ⟨hσ196, (kq (a := 3) (b := 7) eσ196 (fun q => absurd q.1 (by decide))).trans ((kq (a := 3) (b := 7) eσ194 (fun q => absurd q.1 (by decide))).trans (k14)), (kq (a := 3) (b := 11) eσ196 (fun q => absurd q.1 (by decide))).trans ((kq (a := 3) (b := 11) eσ194 (fun q => absurd q.1 (by decide))).trans (k15)), (kq (a := 3) (b := 6) eσ196 (fun q => absurd q.1 (by decide))).trans ((kq (a := 3) (b := 6) eσ194 (fun q => absurd q.1 (by decide))).trans (k16)), (kq (a := 9) (b := 9) eσ196 (fun q => absurd q.1 (by decide))).trans ((kq (a := 9) (b := 9) eσ194 (fun q => absurd q.1 (by decide))).trans (k17)), (kq (a := 9) (b := 10) eσ196 (fun q => absurd q.1 (by decide))).trans ((kq (a := 9) (b := 10) eσ194 (fun q => absurd q.1 (by decide))).trans (k18)), (kq (a := 6) (b := 5) eσ196 (fun q => absurd q.1 (by decide))).trans ((kq (a := 6) (b := 5) eσ194 (fun q => absurd q.1 (by decide))).trans (k19)), (kq (a := 7) (b := 4) eσ196 (fun q => absurd q.1 (by decide))).trans ((kq (a := 7) (b := 4) eσ194 (fun q => absurd q.1 (by decide))).trans (k20)), (kq (a := 2) (b := 4) eσ196 (fun q => absurd q.1 (by decide))).trans ((kq (a := 2) (b := 4) eσ194 (fun q => absurd q.1 (by decide))).trans (k21)), (kq (a := 2) (b := 5) eσ196 (fun q => absurd q.1 (by decide))).trans ((kq (a := 2) (b := 5) eσ194 (fun q => absurd q.1 (by decide))).trans (k22)), (kq (a := 2) (b := 6) eσ196 (fun q => absurd q.1 (by decide))).trans ((kq (a := 2) (b := 6) eσ194 (fun q => absurd q.1 (by decide))).trans (k23)), (kq (a := 3) (b := 8) eσ196 (fun q => absurd q.1 (by decide))).trans ((kq (a := 3) (b := 8) eσ194 (fun q => absurd q.1 (by decide))).trans (k24)), by omega⟩ (by (try dsimp only); omega)
        · first | have f205 := (noteqE (rfl : v92.toInt = v92.toInt) (rfl : (σ11.1 27 x2.toNatClampNeg).toInt = (σ11.1 27 x2.toNatClampNeg).toInt)).mp c136 | skip
          unfold fX6_choose_j109
          unfold fX6_choose_j110
          refine ⟨fun c206 => ?_, fun c206 => ?_⟩
          · first | have f208 := (leE (show (121 : Int32).toInt = 121 from by decide) (rfl : v92.toInt = v92.toInt)).mp c206 | skip
            unfold fX6_choose_j144
            intro v209 ev209
            have f211 := tB v209
            first | have f213 : v209.toInt = (y13.toInt + (1)) := (congrArg Int32.toInt ev209).trans (aOkE (rfl : y13.toInt = y13.toInt) (show (1 : Int32).toInt = 1 from by decide) (by omega) (by omega)) | skip
            exact ih10 y12 v209 σ11 ⟨hσ11, k14, k15, k16, k17, k18, k19, k20, k21, k22, k23, k24, by omega⟩ (by (try dsimp only); omega)
          · first | have f215 := (notleE (show (121 : Int32).toInt = 121 from by decide) (rfl : v92.toInt = v92.toInt)).mp c206 | skip
            refine ⟨fun c216 => ?_, fun c216 => ?_⟩
            · first | have f217 := (eqE (show (0 : Int32).toInt = 0 from by decide) (show (0 : Int32).toInt = 0 from by decide)).mp c216 | skip
              unfold fX6_choose_j144
              intro v218 ev218
              have f220 := tB v218
              first | have f222 : v218.toInt = (y13.toInt + (1)) := (congrArg Int32.toInt ev218).trans (aOkE (rfl : y13.toInt = y13.toInt) (show (1 : Int32).toInt = 1 from by decide) (by omega) (by omega)) | skip
              exact ih10 y12 v218 σ11 ⟨hσ11, k14, k15, k16, k17, k18, k19, k20, k21, k22, k23, k24, by omega⟩ (by (try dsimp only); omega)
            · first | have f223 := (noteqE (show (0 : Int32).toInt = 0 from by decide) (show (0 : Int32).toInt = 0 from by decide)).mp c216 | skip
              refine ⟨inE (rfl : x2.toInt = x2.toInt) (by omega) (by omega), ?_⟩
              intro σ225 eσ225
              have hσ225 : K1 σ0 σ225 := by rw [eσ225]; exact hσ11.u (Rg1.ra_27 _ _) (fun q => absurd q.1 (by decide)) (fun q => absurd q.1 (by decide))
              refine ⟨inE (rfl : x2.toInt = x2.toInt) (by omega) (by omega), ?_⟩
              intro σ227 eσ227
              have hσ227 : K1 σ0 σ227 := by rw [eσ227]; exact hσ225.u (Rg1.ra_28 (leP (rfl : y13.toInt = y13.toInt) (by omega)) (geP (rfl : y13.toInt = y13.toInt) (by omega))) (fun q => absurd q.1 (by decide)) (fun q => absurd q.1 (by decide))
              unfold fX6_choose_j144
              intro v229 ev229
              have f231 := tB v229
              first | have f233 : v229.toInt = (y13.toInt + (1)) := (congrArg Int32.toInt ev229).trans (aOkE (rfl : y13.toInt = y13.toInt) (show (1 : Int32).toInt = 1 from by decide) (by omega) (by omega)) | skip
              exact ih10 v86 v229 σ227 ⟨hσ227, (kq (a := 3) (b := 7) eσ227 (fun q => absurd q.1 (by decide))).trans ((kq (a := 3) (b := 7) eσ225 (fun q => absurd q.1 (by decide))).trans (k14)), (kq (a := 3) (b := 11) eσ227 (fun q => absurd q.1 (by decide))).trans ((kq (a := 3) (b := 11) eσ225 (fun q => absurd q.1 (by decide))).trans (k15)), (kq (a := 3) (b := 6) eσ227 (fun q => absurd q.1 (by decide))).trans ((kq (a := 3) (b := 6) eσ225 (fun q => absurd q.1 (by decide))).trans (k16)), (kq (a := 9) (b := 9) eσ227 (fun q => absurd q.1 (by decide))).trans ((kq (a := 9) (b := 9) eσ225 (fun q => absurd q.1 (by decide))).trans (k17)), (kq (a := 9) (b := 10) eσ227 (fun q => absurd q.1 (by decide))).trans ((kq (a := 9) (b := 10) eσ225 (fun q => absurd q.1 (by decide))).trans (k18)), (kq (a := 6) (b := 5) eσ227 (fun q => absurd q.1 (by decide))).trans ((kq (a := 6) (b := 5) eσ225 (fun q => absurd q.1 (by decide))).trans (k19)), (kq (a := 7) (b := 4) eσ227 (fun q => absurd q.1 (by decide))).trans ((kq (a := 7) (b := 4) eσ225 (fun q => absurd q.1 (by decide))).trans (k20)), (kq (a := 2) (b := 4) eσ227 (fun q => absurd q.1 (by decide))).trans ((kq (a := 2) (b := 4) eσ225 (fun q => absurd q.1 (by decide))).trans (k21)), (kq (a := 2) (b := 5) eσ227 (fun q => absurd q.1 (by decide))).trans ((kq (a := 2) (b := 5) eσ225 (fun q => absurd q.1 (by decide))).trans (k22)), (kq (a := 2) (b := 6) eσ227 (fun q => absurd q.1 (by decide))).trans ((kq (a := 2) (b := 6) eσ225 (fun q => absurd q.1 (by decide))).trans (k23)), (kq (a := 3) (b := 8) eσ227 (fun q => absurd q.1 (by decide))).trans ((kq (a := 3) (b := 8) eσ225 (fun q => absurd q.1 (by decide))).trans (k24)), by omega⟩ (by (try dsimp only); omega)
set_option maxHeartbeats 4000000 in
theorem sX6_part {N : Nat} (hN : 4294967400 ≤ N) {k1 : Nat} {x2 : Int32} (hk1 : r120 k1) {Q : Int32 → St → Prop} {σ0 σ : St} (hσ : K1 σ0 σ) (hQ : ∀ (r : Int32) (τ : St), K1 σ0 τ → (τ.1 3 7 = σ.1 3 7 ∧ τ.1 3 11 = σ.1 3 11 ∧ τ.1 3 6 = σ.1 3 6 ∧ τ.1 9 9 = σ.1 9 9 ∧ τ.1 9 10 = σ.1 9 10 ∧ τ.1 6 5 = σ.1 6 5 ∧ τ.1 7 4 = σ.1 7 4 ∧ τ.1 2 4 = σ.1 2 4 ∧ τ.1 2 5 = σ.1 2 5 ∧ τ.1 2 6 = σ.1 2 6 ∧ τ.1 3 8 = σ.1 3 8) → True → Q r τ) : fX6_part N k1 x2 Q σ := by
  unfold fX6_part
  have kbhk1 := r120_b hk1
  refine ⟨fun c1 => ?_, fun c1 => ?_⟩
  · have f2 := tB x2
    first | have f3 := (ltE (rfl : x2.toInt = x2.toInt) (show (0 : Int32).toInt = 0 from by decide)).mp c1 | skip
    exact hQ _ _ hσ (⟨rfl, rfl, rfl, rfl, rfl, rfl, rfl, rfl, rfl, rfl, rfl⟩) trivial
  · have f4 := tB x2
    first | have f5 := (notltE (rfl : x2.toInt = x2.toInt) (show (0 : Int32).toInt = 0 from by decide)).mp c1 | skip
    refine ⟨fun c6 => ?_, fun c6 => ?_⟩
    · first | have f8 := (ltE (show (120 : Int32).toInt = 120 from by decide) (rfl : x2.toInt = x2.toInt)).mp c6 | skip
      exact hQ _ _ hσ (⟨rfl, rfl, rfl, rfl, rfl, rfl, rfl, rfl, rfl, rfl, rfl⟩) trivial
    · first | have f10 := (notltE (show (120 : Int32).toInt = 120 from by decide) (rfl : x2.toInt = x2.toInt)).mp c6 | skip
      refine ⟨fun c11 => ?_, fun c11 => ?_⟩
      · first | have f13 := (leE (rfl : x2.toInt = x2.toInt) (show (120 : Int32).toInt = 120 from by decide)).mp c11 | skip
        refine ⟨inE (rfl : x2.toInt = x2.toInt) (by omega) (by omega), ?_⟩
        intro σ15 eσ15
        have hσ15 : K1 σ0 σ15 := by rw [eσ15]; exact hσ.u (Rg1.ra_27 _ _) (fun q => absurd q.1 (by decide)) (fun q => absurd q.1 (by decide))
        intro v16 ev16
        have f19 := tB v16
        first | have f21 : v16.toInt = (x2.toInt - (1)) := (congrArg Int32.toInt ev16).trans (sOkE (rfl : x2.toInt = x2.toInt) (show (1 : Int32).toInt = 1 from by decide) (by omega) (by omega)) | skip
        refine lo1_i (fun (y17 : Int32) (τ : St) => K1 σ0 τ ∧ τ.1 3 7 = σ15.1 3 7 ∧ τ.1 3 11 = σ15.1 3 11 ∧ τ.1 3 6 = σ15.1 3 6 ∧ τ.1 9 9 = σ15.1 9 9 ∧ τ.1 9 10 = σ15.1 9 10 ∧ τ.1 6 5 = σ15.1 6 5 ∧ τ.1 7 4 = σ15.1 7 4 ∧ τ.1 2 4 = σ15.1 2 4 ∧ τ.1 2 5 = σ15.1 2 5 ∧ τ.1 2 6 = σ15.1 2 6 ∧ τ.1 3 8 = σ15.1 3 8 ∧ -1 ≤ y17.toInt ∧ y17.toInt ≤ 119) (fun (y17 : Int32) (τ : St) => (y17.toInt + 2147483649).toNat) ?_ N v16 σ15 ⟨hσ15, rfl, rfl, rfl, rfl, rfl, rfl, rfl, rfl, rfl, rfl, rfl, by first | decide | (omega), by first | decide | (omega)⟩ (by (try dsimp only); omega)
        intro rr22 y25 σ24 hIσ24 ih23
        obtain ⟨hσ24, k26, k27, k28, k29, k30, k31, k32, k33, k34, k35, k36, i37, i38⟩ := hIσ24
        unfold fX6_part_l29
        have f39 := tB y25
        refine ⟨fun c40 => ?_, fun c40 => ?_⟩
        · first | have f42 := (ltE (rfl : y25.toInt = y25.toInt) (show (0 : Int32).toInt = 0 from by decide)).mp c40 | skip
          have g43 : vp_in (0 : Int32) 121 := inE (show (0 : Int32).toInt = 0 from by decide) (by omega) (by omega)
          refine ⟨g43, ?_⟩
          refine ⟨fun c44 => ?_, fun c44 => ?_⟩
          · have f45 := tB (σ24.1 27 (0 : Int32).toNatClampNeg)
            first | have f46 := (leE (show (121 : Int32).toInt = 121 from by decide) (rfl : (σ24.1 27 (0 : Int32).toNatClampNeg).toInt = (σ24.1 27 (0 : Int32).toNatClampNeg).toInt)).mp c44 | skip
            exact hQ _ _ hσ24 (⟨k26.trans ((kq (a := 3) (b := 7) eσ15 (fun q => absurd q.1 (by decide)))), k27.trans ((kq (a := 3) (b := 11) eσ15 (fun q => absurd q.1 (by decide)))), k28.trans ((kq (a := 3) (b := 6) eσ15 (fun q => absurd q.1 (by decide)))), k29.trans ((kq (a := 9) (b := 9) eσ15 (fun q => absurd q.1 (by decide)))), k30.trans ((kq (a := 9) (b := 10) eσ15 (fun q => absurd q.1 (by decide)))), k31.trans ((kq (a := 6) (b := 5) eσ15 (fun q => absurd q.1 (by decide)))), k32.trans ((kq (a := 7) (b := 4) eσ15 (fun q => absurd q.1 (by decide)))), k33.trans ((kq (a := 2) (b := 4) eσ15 (fun q => absurd q.1 (by decide)))), k34.trans ((kq (a := 2) (b := 5) eσ15 (fun q => absurd q.1 (by decide)))), k35.trans ((kq (a := 2) (b := 6) eσ15 (fun q => absurd q.1 (by decide)))), k36.trans ((kq (a := 3) (b := 8) eσ15 (fun q => absurd q.1 (by decide))))⟩) trivial
          · have f47 := tB (σ24.1 27 (0 : Int32).toNatClampNeg)
            first | have f48 := (notleE (show (121 : Int32).toInt = 121 from by decide) (rfl : (σ24.1 27 (0 : Int32).toNatClampNeg).toInt = (σ24.1 27 (0 : Int32).toNatClampNeg).toInt)).mp c44 | skip
            have g49 : vp_in (0 : Int32) 121 := inE (show (0 : Int32).toInt = 0 from by decide) (by omega) (by omega)
            refine ⟨g49, ?_⟩
            exact hQ _ _ hσ24 (⟨k26.trans ((kq (a := 3) (b := 7) eσ15 (fun q => absurd q.1 (by decide)))), k27.trans ((kq (a := 3) (b := 11) eσ15 (fun q => absurd q.1 (by decide)))), k28.trans ((kq (a := 3) (b := 6) eσ15 (fun q => absurd q.1 (by decide)))), k29.trans ((kq (a := 9) (b := 9) eσ15 (fun q => absurd q.1 (by decide)))), k30.trans ((kq (a := 9) (b := 10) eσ15 (fun q => absurd q.1 (by decide)))), k31.trans ((kq (a := 6) (b := 5) eσ15 (fun q => absurd q.1 (by decide)))), k32.trans ((kq (a := 7) (b := 4) eσ15 (fun q => absurd q.1 (by decide)))), k33.trans ((kq (a := 2) (b := 4) eσ15 (fun q => absurd q.1 (by decide)))), k34.trans ((kq (a := 2) (b := 5) eσ15 (fun q => absurd q.1 (by decide)))), k35.trans ((kq (a := 2) (b := 6) eσ15 (fun q => absurd q.1 (by decide)))), k36.trans ((kq (a := 3) (b := 8) eσ15 (fun q => absurd q.1 (by decide))))⟩) trivial
        · first | have f51 := (notltE (rfl : y25.toInt = y25.toInt) (show (0 : Int32).toInt = 0 from by decide)).mp c40 | skip
          refine sX6_choose hN hk1 ⟨leP (rfl : y25.toInt = y25.toInt) (by omega), geP (rfl : y25.toInt = y25.toInt) (by omega)⟩ ⟨leP (rfl : x2.toInt = x2.toInt) (by omega), geP (rfl : x2.toInt = x2.toInt) (by omega)⟩ hσ24 (fun σ54 hσ54 kk66 => ?_)
          obtain ⟨k55, k56, k57, k58, k59, k60, k61, k62, k63, k64, k65⟩ := kk66
          intro v67 ev67
          have f68 := tB v67
          first | have f70 : v67.toInt = (y25.toInt + (-1)) := (congrArg Int32.toInt ev67).trans (aOkE (rfl : y25.toInt = y25.toInt) (show ((-1) : Int32).toInt = -1 from by decide) (by omega) (by omega)) | skip
          exact ih23 v67 σ54 ⟨hσ54, k55.trans (k26), k56.trans (k27), k57.trans (k28), k58.trans (k29), k59.trans (k30), k60.trans (k31), k61.trans (k32), k62.trans (k33), k63.trans (k34), k64.trans (k35), k65.trans (k36), by omega, by omega⟩ (by (try dsimp only); omega)
      · first | have f72 := (notleE (rfl : x2.toInt = x2.toInt) (show (120 : Int32).toInt = 120 from by decide)).mp c11 | skip
        exact hQ _ _ hσ (⟨rfl, rfl, rfl, rfl, rfl, rfl, rfl, rfl, rfl, rfl, rfl⟩) trivial
set_option maxHeartbeats 4000000 in
theorem sX10_add {N : Nat} (hN : 4294967400 ≤ N) {k1 : Nat} {x2 : Int32} (hk1 : r120 k1) {Q : Int32 → St → Prop} {σ0 σ : St} (hσ : K1 σ0 σ) (hQ : ∀ (r : Int32) (τ : St), K1 σ0 τ → (τ.1 3 7 = σ.1 3 7 ∧ τ.1 3 11 = σ.1 3 11 ∧ τ.1 3 6 = σ.1 3 6 ∧ τ.1 9 9 = σ.1 9 9 ∧ τ.1 9 10 = σ.1 9 10 ∧ τ.1 6 5 = σ.1 6 5 ∧ τ.1 2 4 = σ.1 2 4 ∧ τ.1 2 5 = σ.1 2 5 ∧ τ.1 2 6 = σ.1 2 6 ∧ τ.1 3 8 = σ.1 3 8) → True → Q r τ) : fX10_add N k1 x2 Q σ := by
  unfold fX10_add
  have kbhk1 := r120_b hk1
  refine ⟨fun c1 => ?_, fun c1 => ?_⟩
  · have f2 := K1.g_7_4 hσ
    first | have f3 := (ltE (rfl : (σ.1 7 4).toInt = (σ.1 7 4).toInt) (show (20 : Int32).toInt = 20 from by decide)).mp c1 | skip
    intro v4 ev4
    have f6 := tB x2
    have f7 := tB v4
    first | have f9 : v4.toInt = (σ.1 7 4).toInt := (congrArg Int32.toInt ev4).trans (rfl : (σ.1 7 4).toInt = (σ.1 7 4).toInt) | skip
    refine lo1_i (fun (y5 : Int32) (τ : St) => K1 σ0 τ ∧ τ.1 3 7 = σ.1 3 7 ∧ τ.1 3 11 = σ.1 3 11 ∧ τ.1 3 6 = σ.1 3 6 ∧ τ.1 9 9 = σ.1 9 9 ∧ τ.1 9 10 = σ.1 9 10 ∧ τ.1 6 5 = σ.1 6 5 ∧ τ.1 7 4 = σ.1 7 4 ∧ τ.1 2 4 = σ.1 2 4 ∧ τ.1 2 5 = σ.1 2 5 ∧ τ.1 2 6 = σ.1 2 6 ∧ τ.1 3 8 = σ.1 3 8 ∧ 0 ≤ y5.toInt) (fun (y5 : Int32) (τ : St) => (2147483648 - y5.toInt).toNat) ?_ N (0 : Int32) σ ⟨hσ, rfl, rfl, rfl, rfl, rfl, rfl, rfl, rfl, rfl, rfl, rfl, by first | decide | (have z0 : (0 : Int32).toInt = 0 := (by decide); omega)⟩ (by have z0 : (0 : Int32).toInt = 0 := (by decide); (try dsimp only); omega)
    intro rr10 y13 σ12 hIσ12 ih11
    obtain ⟨hσ12, k14, k15, k16, k17, k18, k19, k20, k21, k22, k23, k24, i25⟩ := hIσ12
    unfold fX10_add_l20
    have f26 := tB y13
    refine ⟨fun c27 => ?_, fun c27 => ?_⟩
    · first | have f30 := (leE (rfl : x2.toInt = x2.toInt) (rfl : y13.toInt = y13.toInt)).mp c27 | skip
      unfold fX10_add_j59
      refine ⟨inE (rfl : v4.toInt = v4.toInt) (by omega) (by omega), ?_⟩
      intro σ32 eσ32
      have hσ32 : K1 σ0 σ32 := by rw [eσ32]; exact hσ12.u (Rg1.ra_24 _ _) (fun q => absurd q.1 (by decide)) (fun q => absurd q.1 (by decide))
      refine ⟨inE (rfl : v4.toInt = v4.toInt) (by omega) (by omega), ?_⟩
      intro σ34 eσ34
      have hσ34 : K1 σ0 σ34 := by rw [eσ34]; exact hσ32.u (Rg1.ra_25 _ _) (fun q => absurd q.1 (by decide)) (fun q => absurd q.1 (by decide))
      refine ⟨inE (rfl : v4.toInt = v4.toInt) (by omega) (by omega), ?_⟩
      intro σ36 eσ36
      have hσ36 : K1 σ0 σ36 := by rw [eσ36]; exact hσ34.u (Rg1.ra_26 _ _) (fun q => absurd q.1 (by decide)) (fun q => absurd q.1 (by decide))
      intro v37 ev37
      intro σ38 eσ38
      have f39 := tB v37
      have f40 := K1.g_7_4 hσ36
      have q41 : σ36.1 7 4 = σ34.1 7 4 := by rw [eσ36]; exact congrFun (u1_ne (by decide)) 4
      have f42 := congrArg Int32.toInt q41
      have f43 := K1.g_7_4 hσ34
      have q44 : σ34.1 7 4 = σ32.1 7 4 := by rw [eσ34]; exact congrFun (u1_ne (by decide)) 4
      have f45 := congrArg Int32.toInt q44
      have f46 := K1.g_7_4 hσ32
      have q47 : σ32.1 7 4 = σ12.1 7 4 := by rw [eσ32]; exact congrFun (u1_ne (by decide)) 4
      have f48 := congrArg Int32.toInt q47
      have f49 := K1.g_7_4 hσ12
      have f50 := congrArg Int32.toInt k20
      first | have f52 : v37.toInt = ((σ36.1 7 4).toInt + (1)) := (congrArg Int32.toInt ev37).trans (aOkE (rfl : (σ36.1 7 4).toInt = (σ36.1 7 4).toInt) (show (1 : Int32).toInt = 1 from by decide) (by omega) (by omega)) | skip
      have hσ38 : K1 σ0 σ38 := by rw [eσ38]; exact hσ36.u (Rg1.r_7_4 (leP (rfl : v37.toInt = v37.toInt) (by omega)) (geP (rfl : v37.toInt = v37.toInt) (by omega))) (fun q => absurd q.1 (by decide)) (fun q => absurd q.1 (by decide))
      exact hQ _ _ hσ38 (⟨(kq (a := 3) (b := 7) eσ38 (fun q => absurd q.1 (by decide))).trans ((kq (a := 3) (b := 7) eσ36 (fun q => absurd q.1 (by decide))).trans ((kq (a := 3) (b := 7) eσ34 (fun q => absurd q.1 (by decide))).trans ((kq (a := 3) (b := 7) eσ32 (fun q => absurd q.1 (by decide))).trans (k14)))), (kq (a := 3) (b := 11) eσ38 (fun q => absurd q.1 (by decide))).trans ((kq (a := 3) (b := 11) eσ36 (fun q => absurd q.1 (by decide))).trans ((kq (a := 3) (b := 11) eσ34 (fun q => absurd q.1 (by decide))).trans ((kq (a := 3) (b := 11) eσ32 (fun q => absurd q.1 (by decide))).trans (k15)))), (kq (a := 3) (b := 6) eσ38 (fun q => absurd q.1 (by decide))).trans ((kq (a := 3) (b := 6) eσ36 (fun q => absurd q.1 (by decide))).trans ((kq (a := 3) (b := 6) eσ34 (fun q => absurd q.1 (by decide))).trans ((kq (a := 3) (b := 6) eσ32 (fun q => absurd q.1 (by decide))).trans (k16)))), (kq (a := 9) (b := 9) eσ38 (fun q => absurd q.1 (by decide))).trans ((kq (a := 9) (b := 9) eσ36 (fun q => absurd q.1 (by decide))).trans ((kq (a := 9) (b := 9) eσ34 (fun q => absurd q.1 (by decide))).trans ((kq (a := 9) (b := 9) eσ32 (fun q => absurd q.1 (by decide))).trans (k17)))), (kq (a := 9) (b := 10) eσ38 (fun q => absurd q.1 (by decide))).trans ((kq (a := 9) (b := 10) eσ36 (fun q => absurd q.1 (by decide))).trans ((kq (a := 9) (b := 10) eσ34 (fun q => absurd q.1 (by decide))).trans ((kq (a := 9) (b := 10) eσ32 (fun q => absurd q.1 (by decide))).trans (k18)))), (kq (a := 6) (b := 5) eσ38 (fun q => absurd q.1 (by decide))).trans ((kq (a := 6) (b := 5) eσ36 (fun q => absurd q.1 (by decide))).trans ((kq (a := 6) (b := 5) eσ34 (fun q => absurd q.1 (by decide))).trans ((kq (a := 6) (b := 5) eσ32 (fun q => absurd q.1 (by decide))).trans (k19)))), (kq (a := 2) (b := 4) eσ38 (fun q => absurd q.1 (by decide))).trans ((kq (a := 2) (b := 4) eσ36 (fun q => absurd q.1 (by decide))).trans ((kq (a := 2) (b := 4) eσ34 (fun q => absurd q.1 (by decide))).trans ((kq (a := 2) (b := 4) eσ32 (fun q => absurd q.1 (by decide))).trans (k21)))), (kq (a := 2) (b := 5) eσ38 (fun q => absurd q.1 (by decide))).trans ((kq (a := 2) (b := 5) eσ36 (fun q => absurd q.1 (by decide))).trans ((kq (a := 2) (b := 5) eσ34 (fun q => absurd q.1 (by decide))).trans ((kq (a := 2) (b := 5) eσ32 (fun q => absurd q.1 (by decide))).trans (k22)))), (kq (a := 2) (b := 6) eσ38 (fun q => absurd q.1 (by decide))).trans ((kq (a := 2) (b := 6) eσ36 (fun q => absurd q.1 (by decide))).trans ((kq (a := 2) (b := 6) eσ34 (fun q => absurd q.1 (by decide))).trans ((kq (a := 2) (b := 6) eσ32 (fun q => absurd q.1 (by decide))).trans (k23)))), (kq (a := 3) (b := 8) eσ38 (fun q => absurd q.1 (by decide))).trans ((kq (a := 3) (b := 8) eσ36 (fun q => absurd q.1 (by decide))).trans ((kq (a := 3) (b := 8) eσ34 (fun q => absurd q.1 (by decide))).trans ((kq (a := 3) (b := 8) eσ32 (fun q => absurd q.1 (by decide))).trans (k24))))⟩) trivial
    · first | have f55 := (notleE (rfl : x2.toInt = x2.toInt) (rfl : y13.toInt = y13.toInt)).mp c27 | skip
      refine ⟨fun c56 => ?_, fun c56 => ?_⟩
      · first | have f58 := (leE (show (120 : Int32).toInt = 120 from by decide) (rfl : y13.toInt = y13.toInt)).mp c56 | skip
        unfold fX10_add_j59
        refine ⟨inE (rfl : v4.toInt = v4.toInt) (by omega) (by omega), ?_⟩
        intro σ60 eσ60
        have hσ60 : K1 σ0 σ60 := by rw [eσ60]; exact hσ12.u (Rg1.ra_24 _ _) (fun q => absurd q.1 (by decide)) (fun q => absurd q.1 (by decide))
        refine ⟨inE (rfl : v4.toInt = v4.toInt) (by omega) (by omega), ?_⟩
        intro σ62 eσ62
        have hσ62 : K1 σ0 σ62 := by rw [eσ62]; exact hσ60.u (Rg1.ra_25 _ _) (fun q => absurd q.1 (by decide)) (fun q => absurd q.1 (by decide))
        refine ⟨inE (rfl : v4.toInt = v4.toInt) (by omega) (by omega), ?_⟩
        intro σ64 eσ64
        have hσ64 : K1 σ0 σ64 := by rw [eσ64]; exact hσ62.u (Rg1.ra_26 _ _) (fun q => absurd q.1 (by decide)) (fun q => absurd q.1 (by decide))
        intro v65 ev65
        intro σ66 eσ66
        have f67 := tB v65
        have f68 := K1.g_7_4 hσ64
        have q69 : σ64.1 7 4 = σ62.1 7 4 := by rw [eσ64]; exact congrFun (u1_ne (by decide)) 4
        have f70 := congrArg Int32.toInt q69
        have f71 := K1.g_7_4 hσ62
        have q72 : σ62.1 7 4 = σ60.1 7 4 := by rw [eσ62]; exact congrFun (u1_ne (by decide)) 4
        have f73 := congrArg Int32.toInt q72
        have f74 := K1.g_7_4 hσ60
        have q75 : σ60.1 7 4 = σ12.1 7 4 := by rw [eσ60]; exact congrFun (u1_ne (by decide)) 4
        have f76 := congrArg Int32.toInt q75
        have f77 := K1.g_7_4 hσ12
        have f78 := congrArg Int32.toInt k20
        first | have f80 : v65.toInt = ((σ64.1 7 4).toInt + (1)) := (congrArg Int32.toInt ev65).trans (aOkE (rfl : (σ64.1 7 4).toInt = (σ64.1 7 4).toInt) (show (1 : Int32).toInt = 1 from by decide) (by omega) (by omega)) | skip
        have hσ66 : K1 σ0 σ66 := by rw [eσ66]; exact hσ64.u (Rg1.r_7_4 (leP (rfl : v65.toInt = v65.toInt) (by omega)) (geP (rfl : v65.toInt = v65.toInt) (by omega))) (fun q => absurd q.1 (by decide)) (fun q => absurd q.1 (by decide))
        exact hQ _ _ hσ66 (⟨(kq (a := 3) (b := 7) eσ66 (fun q => absurd q.1 (by decide))).trans ((kq (a := 3) (b := 7) eσ64 (fun q => absurd q.1 (by decide))).trans ((kq (a := 3) (b := 7) eσ62 (fun q => absurd q.1 (by decide))).trans ((kq (a := 3) (b := 7) eσ60 (fun q => absurd q.1 (by decide))).trans (k14)))), (kq (a := 3) (b := 11) eσ66 (fun q => absurd q.1 (by decide))).trans ((kq (a := 3) (b := 11) eσ64 (fun q => absurd q.1 (by decide))).trans ((kq (a := 3) (b := 11) eσ62 (fun q => absurd q.1 (by decide))).trans ((kq (a := 3) (b := 11) eσ60 (fun q => absurd q.1 (by decide))).trans (k15)))), (kq (a := 3) (b := 6) eσ66 (fun q => absurd q.1 (by decide))).trans ((kq (a := 3) (b := 6) eσ64 (fun q => absurd q.1 (by decide))).trans ((kq (a := 3) (b := 6) eσ62 (fun q => absurd q.1 (by decide))).trans ((kq (a := 3) (b := 6) eσ60 (fun q => absurd q.1 (by decide))).trans (k16)))), (kq (a := 9) (b := 9) eσ66 (fun q => absurd q.1 (by decide))).trans ((kq (a := 9) (b := 9) eσ64 (fun q => absurd q.1 (by decide))).trans ((kq (a := 9) (b := 9) eσ62 (fun q => absurd q.1 (by decide))).trans ((kq (a := 9) (b := 9) eσ60 (fun q => absurd q.1 (by decide))).trans (k17)))), (kq (a := 9) (b := 10) eσ66 (fun q => absurd q.1 (by decide))).trans ((kq (a := 9) (b := 10) eσ64 (fun q => absurd q.1 (by decide))).trans ((kq (a := 9) (b := 10) eσ62 (fun q => absurd q.1 (by decide))).trans ((kq (a := 9) (b := 10) eσ60 (fun q => absurd q.1 (by decide))).trans (k18)))), (kq (a := 6) (b := 5) eσ66 (fun q => absurd q.1 (by decide))).trans ((kq (a := 6) (b := 5) eσ64 (fun q => absurd q.1 (by decide))).trans ((kq (a := 6) (b := 5) eσ62 (fun q => absurd q.1 (by decide))).trans ((kq (a := 6) (b := 5) eσ60 (fun q => absurd q.1 (by decide))).trans (k19)))), (kq (a := 2) (b := 4) eσ66 (fun q => absurd q.1 (by decide))).trans ((kq (a := 2) (b := 4) eσ64 (fun q => absurd q.1 (by decide))).trans ((kq (a := 2) (b := 4) eσ62 (fun q => absurd q.1 (by decide))).trans ((kq (a := 2) (b := 4) eσ60 (fun q => absurd q.1 (by decide))).trans (k21)))), (kq (a := 2) (b := 5) eσ66 (fun q => absurd q.1 (by decide))).trans ((kq (a := 2) (b := 5) eσ64 (fun q => absurd q.1 (by decide))).trans ((kq (a := 2) (b := 5) eσ62 (fun q => absurd q.1 (by decide))).trans ((kq (a := 2) (b := 5) eσ60 (fun q => absurd q.1 (by decide))).trans (k22)))), (kq (a := 2) (b := 6) eσ66 (fun q => absurd q.1 (by decide))).trans ((kq (a := 2) (b := 6) eσ64 (fun q => absurd q.1 (by decide))).trans ((kq (a := 2) (b := 6) eσ62 (fun q => absurd q.1 (by decide))).trans ((kq (a := 2) (b := 6) eσ60 (fun q => absurd q.1 (by decide))).trans (k23)))), (kq (a := 3) (b := 8) eσ66 (fun q => absurd q.1 (by decide))).trans ((kq (a := 3) (b := 8) eσ64 (fun q => absurd q.1 (by decide))).trans ((kq (a := 3) (b := 8) eσ62 (fun q => absurd q.1 (by decide))).trans ((kq (a := 3) (b := 8) eσ60 (fun q => absurd q.1 (by decide))).trans (k24))))⟩) trivial
      · first | have f82 := (notleE (show (120 : Int32).toInt = 120 from by decide) (rfl : y13.toInt = y13.toInt)).mp c56 | skip
        refine ⟨fun c83 => ?_, fun c83 => ?_⟩
        · first | have f85 := (leE (show (120 : Int32).toInt = 120 from by decide) (rfl : y13.toInt = y13.toInt)).mp c83 | skip
          unfold fX10_add_j59
          refine ⟨inE (rfl : v4.toInt = v4.toInt) (by omega) (by omega), ?_⟩
          intro σ87 eσ87
          have hσ87 : K1 σ0 σ87 := by rw [eσ87]; exact hσ12.u (Rg1.ra_24 _ _) (fun q => absurd q.1 (by decide)) (fun q => absurd q.1 (by decide))
          refine ⟨inE (rfl : v4.toInt = v4.toInt) (by omega) (by omega), ?_⟩
          intro σ89 eσ89
          have hσ89 : K1 σ0 σ89 := by rw [eσ89]; exact hσ87.u (Rg1.ra_25 _ _) (fun q => absurd q.1 (by decide)) (fun q => absurd q.1 (by decide))
          refine ⟨inE (rfl : v4.toInt = v4.toInt) (by omega) (by omega), ?_⟩
          intro σ91 eσ91
          have hσ91 : K1 σ0 σ91 := by rw [eσ91]; exact hσ89.u (Rg1.ra_26 _ _) (fun q => absurd q.1 (by decide)) (fun q => absurd q.1 (by decide))
          intro v92 ev92
          intro σ93 eσ93
          have f94 := tB v92
          have f95 := K1.g_7_4 hσ91
          have q96 : σ91.1 7 4 = σ89.1 7 4 := by rw [eσ91]; exact congrFun (u1_ne (by decide)) 4
          have f97 := congrArg Int32.toInt q96
          have f98 := K1.g_7_4 hσ89
          have q99 : σ89.1 7 4 = σ87.1 7 4 := by rw [eσ89]; exact congrFun (u1_ne (by decide)) 4
          have f100 := congrArg Int32.toInt q99
          have f101 := K1.g_7_4 hσ87
          have q102 : σ87.1 7 4 = σ12.1 7 4 := by rw [eσ87]; exact congrFun (u1_ne (by decide)) 4
          have f103 := congrArg Int32.toInt q102
          have f104 := K1.g_7_4 hσ12
          have f105 := congrArg Int32.toInt k20
          first | have f107 : v92.toInt = ((σ91.1 7 4).toInt + (1)) := (congrArg Int32.toInt ev92).trans (aOkE (rfl : (σ91.1 7 4).toInt = (σ91.1 7 4).toInt) (show (1 : Int32).toInt = 1 from by decide) (by omega) (by omega)) | skip
          have hσ93 : K1 σ0 σ93 := by rw [eσ93]; exact hσ91.u (Rg1.r_7_4 (leP (rfl : v92.toInt = v92.toInt) (by omega)) (geP (rfl : v92.toInt = v92.toInt) (by omega))) (fun q => absurd q.1 (by decide)) (fun q => absurd q.1 (by decide))
          exact hQ _ _ hσ93 (⟨(kq (a := 3) (b := 7) eσ93 (fun q => absurd q.1 (by decide))).trans ((kq (a := 3) (b := 7) eσ91 (fun q => absurd q.1 (by decide))).trans ((kq (a := 3) (b := 7) eσ89 (fun q => absurd q.1 (by decide))).trans ((kq (a := 3) (b := 7) eσ87 (fun q => absurd q.1 (by decide))).trans (k14)))), (kq (a := 3) (b := 11) eσ93 (fun q => absurd q.1 (by decide))).trans ((kq (a := 3) (b := 11) eσ91 (fun q => absurd q.1 (by decide))).trans ((kq (a := 3) (b := 11) eσ89 (fun q => absurd q.1 (by decide))).trans ((kq (a := 3) (b := 11) eσ87 (fun q => absurd q.1 (by decide))).trans (k15)))), (kq (a := 3) (b := 6) eσ93 (fun q => absurd q.1 (by decide))).trans ((kq (a := 3) (b := 6) eσ91 (fun q => absurd q.1 (by decide))).trans ((kq (a := 3) (b := 6) eσ89 (fun q => absurd q.1 (by decide))).trans ((kq (a := 3) (b := 6) eσ87 (fun q => absurd q.1 (by decide))).trans (k16)))), (kq (a := 9) (b := 9) eσ93 (fun q => absurd q.1 (by decide))).trans ((kq (a := 9) (b := 9) eσ91 (fun q => absurd q.1 (by decide))).trans ((kq (a := 9) (b := 9) eσ89 (fun q => absurd q.1 (by decide))).trans ((kq (a := 9) (b := 9) eσ87 (fun q => absurd q.1 (by decide))).trans (k17)))), (kq (a := 9) (b := 10) eσ93 (fun q => absurd q.1 (by decide))).trans ((kq (a := 9) (b := 10) eσ91 (fun q => absurd q.1 (by decide))).trans ((kq (a := 9) (b := 10) eσ89 (fun q => absurd q.1 (by decide))).trans ((kq (a := 9) (b := 10) eσ87 (fun q => absurd q.1 (by decide))).trans (k18)))), (kq (a := 6) (b := 5) eσ93 (fun q => absurd q.1 (by decide))).trans ((kq (a := 6) (b := 5) eσ91 (fun q => absurd q.1 (by decide))).trans ((kq (a := 6) (b := 5) eσ89 (fun q => absurd q.1 (by decide))).trans ((kq (a := 6) (b := 5) eσ87 (fun q => absurd q.1 (by decide))).trans (k19)))), (kq (a := 2) (b := 4) eσ93 (fun q => absurd q.1 (by decide))).trans ((kq (a := 2) (b := 4) eσ91 (fun q => absurd q.1 (by decide))).trans ((kq (a := 2) (b := 4) eσ89 (fun q => absurd q.1 (by decide))).trans ((kq (a := 2) (b := 4) eσ87 (fun q => absurd q.1 (by decide))).trans (k21)))), (kq (a := 2) (b := 5) eσ93 (fun q => absurd q.1 (by decide))).trans ((kq (a := 2) (b := 5) eσ91 (fun q => absurd q.1 (by decide))).trans ((kq (a := 2) (b := 5) eσ89 (fun q => absurd q.1 (by decide))).trans ((kq (a := 2) (b := 5) eσ87 (fun q => absurd q.1 (by decide))).trans (k22)))), (kq (a := 2) (b := 6) eσ93 (fun q => absurd q.1 (by decide))).trans ((kq (a := 2) (b := 6) eσ91 (fun q => absurd q.1 (by decide))).trans ((kq (a := 2) (b := 6) eσ89 (fun q => absurd q.1 (by decide))).trans ((kq (a := 2) (b := 6) eσ87 (fun q => absurd q.1 (by decide))).trans (k23)))), (kq (a := 3) (b := 8) eσ93 (fun q => absurd q.1 (by decide))).trans ((kq (a := 3) (b := 8) eσ91 (fun q => absurd q.1 (by decide))).trans ((kq (a := 3) (b := 8) eσ89 (fun q => absurd q.1 (by decide))).trans ((kq (a := 3) (b := 8) eσ87 (fun q => absurd q.1 (by decide))).trans (k24))))⟩) trivial
        · first | have f109 := (notleE (show (120 : Int32).toInt = 120 from by decide) (rfl : y13.toInt = y13.toInt)).mp c83 | skip
          have g111 : vp_in v4 20 := inE (rfl : v4.toInt = v4.toInt) (by omega) (by omega)
          refine ⟨g111, ?_⟩
          have hk112 : r120 (183 + v4.toNatClampNeg) := (r120_in3 g111)
          have hk112x := vp_lt g111
          have hk112b := r120_b hk112
          have g114 : vp_in y13 120 := inE (rfl : y13.toInt = y13.toInt) (by omega) (by omega)
          refine ⟨g114, ?_⟩
          intro v115 ev115
          refine ⟨inE (rfl : y13.toInt = y13.toInt) (by omega) (by omega), ?_⟩
          intro σ117 eσ117
          have kb118 := r120_b hk112
          have hσ117 : K1 σ0 σ117 := by rw [eσ117]; exact hσ12.u (rg_t20 hk112x) (by omega) (by omega)
          intro v119 ev119
          have f120 := tB v119
          first | have f122 : v119.toInt = (y13.toInt + (1)) := (congrArg Int32.toInt ev119).trans (aOkE (rfl : y13.toInt = y13.toInt) (show (1 : Int32).toInt = 1 from by decide) (by omega) (by omega)) | skip
          exact ih11 v119 σ117 ⟨hσ117, (kq (a := 3) (b := 7) eσ117 (by omega)).trans (k14), (kq (a := 3) (b := 11) eσ117 (by omega)).trans (k15), (kq (a := 3) (b := 6) eσ117 (by omega)).trans (k16), (kq (a := 9) (b := 9) eσ117 (by omega)).trans (k17), (kq (a := 9) (b := 10) eσ117 (by omega)).trans (k18), (kq (a := 6) (b := 5) eσ117 (by omega)).trans (k19), (kq (a := 7) (b := 4) eσ117 (by omega)).trans (k20), (kq (a := 2) (b := 4) eσ117 (by omega)).trans (k21), (kq (a := 2) (b := 5) eσ117 (by omega)).trans (k22), (kq (a := 2) (b := 6) eσ117 (by omega)).trans (k23), (kq (a := 3) (b := 8) eσ117 (by omega)).trans (k24), by omega⟩ (by (try dsimp only); omega)
  · have f123 := K1.g_7_4 hσ
    first | have f124 := (notltE (rfl : (σ.1 7 4).toInt = (σ.1 7 4).toInt) (show (20 : Int32).toInt = 20 from by decide)).mp c1 | skip
    exact hQ _ _ hσ (⟨rfl, rfl, rfl, rfl, rfl, rfl, rfl, rfl, rfl, rfl⟩) trivial
set_option maxHeartbeats 4000000 in
theorem sX11_text {N : Nat} (hN : 4294967400 ≤ N) {Q : Int32 → St → Prop} {σ0 σ : St} (hσ : K1 σ0 σ) (hQ : ∀ (r : Int32) (τ : St), K1 σ0 τ → (τ.1 3 7 = σ.1 3 7 ∧ τ.1 3 11 = σ.1 3 11 ∧ τ.1 3 6 = σ.1 3 6 ∧ τ.1 9 9 = σ.1 9 9 ∧ τ.1 9 10 = σ.1 9 10 ∧ τ.1 6 5 = σ.1 6 5 ∧ τ.1 2 4 = σ.1 2 4 ∧ τ.1 2 5 = σ.1 2 5 ∧ τ.1 2 6 = σ.1 2 6 ∧ τ.1 3 8 = σ.1 3 8) → True → Q r τ) : fX11_text N  Q σ := by
  unfold fX11_text
  intro v1 ev1
  intro σ2 eσ2
  have hσ2 : K1 σ0 σ2 := by rw [eσ2]; exact hσ.u (Rg1.r_0_7 (leP (show (0 : Int32).toInt = 0 from by decide) (by omega)) (geP (show (0 : Int32).toInt = 0 from by decide) (by omega))) (fun q => absurd q.1 (by decide)) (fun q => absurd q.2 (by decide))
  have f3 := tB v1
  have f4 := K1.g_0_7 hσ
  first | have f5 : v1.toInt = (σ.1 0 7).toInt := (congrArg Int32.toInt ev1).trans (rfl : (σ.1 0 7).toInt = (σ.1 0 7).toInt) | skip
  refine sX6_part hN r120_11 hσ2 (fun r19 σ6 hσ6 kk18 p20 => ?_)
  obtain ⟨k7, k8, k9, k10, k11, k12, k13, k14, k15, k16, k17⟩ := kk18
  refine ⟨fun c21 => ?_, fun c21 => ?_⟩
  · have f22 := tB r19
    first | have f23 := (eqE (rfl : r19.toInt = r19.toInt) (show ((-1) : Int32).toInt = -1 from by decide)).mp c21 | skip
    exact hQ _ _ hσ6 (⟨k7.trans ((kq (a := 3) (b := 7) eσ2 (fun q => absurd q.1 (by decide)))), k8.trans ((kq (a := 3) (b := 11) eσ2 (fun q => absurd q.1 (by decide)))), k9.trans ((kq (a := 3) (b := 6) eσ2 (fun q => absurd q.1 (by decide)))), k10.trans ((kq (a := 9) (b := 9) eσ2 (fun q => absurd q.1 (by decide)))), k11.trans ((kq (a := 9) (b := 10) eσ2 (fun q => absurd q.1 (by decide)))), k12.trans ((kq (a := 6) (b := 5) eσ2 (fun q => absurd q.1 (by decide)))), k14.trans ((kq (a := 2) (b := 4) eσ2 (fun q => absurd q.1 (by decide)))), k15.trans ((kq (a := 2) (b := 5) eσ2 (fun q => absurd q.1 (by decide)))), k16.trans ((kq (a := 2) (b := 6) eσ2 (fun q => absurd q.1 (by decide)))), k17.trans ((kq (a := 3) (b := 8) eσ2 (fun q => absurd q.1 (by decide))))⟩) trivial
  · have f24 := tB r19
    first | have f25 := (noteqE (rfl : r19.toInt = r19.toInt) (show ((-1) : Int32).toInt = -1 from by decide)).mp c21 | skip
    refine sX10_add hN r120_11 hσ6 (fun r39 σ27 hσ27 kk38 p40 => ?_)
    obtain ⟨k28, k29, k30, k31, k32, k33, k34, k35, k36, k37⟩ := kk38
    exact hQ _ _ hσ27 (⟨k28.trans (k7.trans ((kq (a := 3) (b := 7) eσ2 (fun q => absurd q.1 (by decide))))), k29.trans (k8.trans ((kq (a := 3) (b := 11) eσ2 (fun q => absurd q.1 (by decide))))), k30.trans (k9.trans ((kq (a := 3) (b := 6) eσ2 (fun q => absurd q.1 (by decide))))), k31.trans (k10.trans ((kq (a := 9) (b := 9) eσ2 (fun q => absurd q.1 (by decide))))), k32.trans (k11.trans ((kq (a := 9) (b := 10) eσ2 (fun q => absurd q.1 (by decide))))), k33.trans (k12.trans ((kq (a := 6) (b := 5) eσ2 (fun q => absurd q.1 (by decide))))), k34.trans (k14.trans ((kq (a := 2) (b := 4) eσ2 (fun q => absurd q.1 (by decide))))), k35.trans (k15.trans ((kq (a := 2) (b := 5) eσ2 (fun q => absurd q.1 (by decide))))), k36.trans (k16.trans ((kq (a := 2) (b := 6) eσ2 (fun q => absurd q.1 (by decide))))), k37.trans (k17.trans ((kq (a := 3) (b := 8) eσ2 (fun q => absurd q.1 (by decide)))))⟩) trivial
set_option maxHeartbeats 4000000 in
theorem sX6_copyPieces {N : Nat} (hN : 4294967400 ≤ N) {x1 : Int32} {k2 : Nat} (hk2 : r120 k2) {Q : Int32 → St → Prop} {σ0 σ : St} (hσ : K1 σ0 σ) (hQ : ∀ (r : Int32) (τ : St), K1 σ0 τ → (τ.1 3 7 = σ.1 3 7 ∧ τ.1 3 11 = σ.1 3 11 ∧ τ.1 3 6 = σ.1 3 6 ∧ τ.1 9 9 = σ.1 9 9 ∧ τ.1 9 10 = σ.1 9 10 ∧ τ.1 6 5 = σ.1 6 5 ∧ τ.1 7 4 = σ.1 7 4 ∧ τ.1 2 4 = σ.1 2 4 ∧ τ.1 2 5 = σ.1 2 5 ∧ τ.1 2 6 = σ.1 2 6 ∧ τ.1 3 8 = σ.1 3 8) → (0) ≤ r.toInt ∧ r.toInt ≤ 120 → Q r τ) : fX6_copyPieces N x1 k2 Q σ := by
  unfold fX6_copyPieces
  have kbhk2 := r120_b hk2
  have f3 := tB x1
  refine lo2_i (fun (y1 : Int32) (y2 : Int32) (τ : St) => K1 σ0 τ ∧ τ.1 3 7 = σ.1 3 7 ∧ τ.1 3 11 = σ.1 3 11 ∧ τ.1 3 6 = σ.1 3 6 ∧ τ.1 9 9 = σ.1 9 9 ∧ τ.1 9 10 = σ.1 9 10 ∧ τ.1 6 5 = σ.1 6 5 ∧ τ.1 7 4 = σ.1 7 4 ∧ τ.1 2 4 = σ.1 2 4 ∧ τ.1 2 5 = σ.1 2 5 ∧ τ.1 2 6 = σ.1 2 6 ∧ τ.1 3 8 = σ.1 3 8 ∧ 0 ≤ y1.toInt ∧ y1.toInt ≤ 120 ∧ 0 ≤ y2.toInt ∧ y2.toInt ≤ 1000) (fun (y1 : Int32) (y2 : Int32) (τ : St) => (2147483648 - y1.toInt).toNat) ?_ N (0 : Int32) (0 : Int32) σ ⟨hσ, rfl, rfl, rfl, rfl, rfl, rfl, rfl, rfl, rfl, rfl, rfl, by first | decide | (have z0 : (0 : Int32).toInt = 0 := (by decide); omega), by first | decide | (have z0 : (0 : Int32).toInt = 0 := (by decide); omega), by first | decide | (have z0 : (0 : Int32).toInt = 0 := (by decide); omega), by first | decide | (have z0 : (0 : Int32).toInt = 0 := (by decide); omega)⟩ (by have z0 : (0 : Int32).toInt = 0 := (by decide); (try dsimp only); omega)
  intro rr4 y7 y8 σ6 hIσ6 ih5
  obtain ⟨hσ6, k9, k10, k11, k12, k13, k14, k15, k16, k17, k18, k19, i20, i21, i22, i23⟩ := hIσ6
  unfold fX6_copyPieces_l5
  have f24 := tB y7
  have f25 := tB y8
  refine ⟨fun c26 => ?_, fun c26 => ?_⟩
  · first | have f29 := (leE (rfl : x1.toInt = x1.toInt) (rfl : y8.toInt = y8.toInt)).mp c26 | skip
    exact hQ _ _ hσ6 (⟨k9, k10, k11, k12, k13, k14, k15, k16, k17, k18, k19⟩) ⟨leP (rfl : y7.toInt = y7.toInt) (by omega), geP (rfl : y7.toInt = y7.toInt) (by omega)⟩
  · first | have f33 := (notleE (rfl : x1.toInt = x1.toInt) (rfl : y8.toInt = y8.toInt)).mp c26 | skip
    refine ⟨fun c34 => ?_, fun c34 => ?_⟩
    · first | have f36 := (leE (show (120 : Int32).toInt = 120 from by decide) (rfl : y8.toInt = y8.toInt)).mp c34 | skip
      exact hQ _ _ hσ6 (⟨k9, k10, k11, k12, k13, k14, k15, k16, k17, k18, k19⟩) ⟨leP (rfl : y7.toInt = y7.toInt) (by omega), geP (rfl : y7.toInt = y7.toInt) (by omega)⟩
    · first | have f39 := (notleE (show (120 : Int32).toInt = 120 from by decide) (rfl : y8.toInt = y8.toInt)).mp c34 | skip
      refine ⟨fun c40 => ?_, fun c40 => ?_⟩
      · first | have f42 := (leE (show (120 : Int32).toInt = 120 from by decide) (rfl : y7.toInt = y7.toInt)).mp c40 | skip
        exact hQ _ _ hσ6 (⟨k9, k10, k11, k12, k13, k14, k15, k16, k17, k18, k19⟩) ⟨leP (rfl : y7.toInt = y7.toInt) (by omega), geP (rfl : y7.toInt = y7.toInt) (by omega)⟩
      · first | have f45 := (notleE (show (120 : Int32).toInt = 120 from by decide) (rfl : y7.toInt = y7.toInt)).mp c40 | skip
        have g47 : vp_in y8 121 := inE (rfl : y8.toInt = y8.toInt) (by omega) (by omega)
        refine ⟨g47, ?_⟩
        intro v48 ev48
        refine ⟨fun c49 => ?_, fun c49 => ?_⟩
        · have f50 := tB v48
          have f51 := K1.ga_28 hσ6 y8.toNatClampNeg
          first | have f52 : v48.toInt = (σ6.1 28 y8.toNatClampNeg).toInt := (congrArg Int32.toInt ev48).trans (rfl : (σ6.1 28 y8.toNatClampNeg).toInt = (σ6.1 28 y8.toNatClampNeg).toInt) | skip
          first | have f53 := (ltE (rfl : v48.toInt = v48.toInt) (show (0 : Int32).toInt = 0 from by decide)).mp c49 | skip
          exact hQ _ _ hσ6 (⟨k9, k10, k11, k12, k13, k14, k15, k16, k17, k18, k19⟩) ⟨leP (rfl : y7.toInt = y7.toInt) (by omega), geP (rfl : y7.toInt = y7.toInt) (by omega)⟩
        · have f55 := tB v48
          have f56 := K1.ga_28 hσ6 y8.toNatClampNeg
          first | have f57 : v48.toInt = (σ6.1 28 y8.toNatClampNeg).toInt := (congrArg Int32.toInt ev48).trans (rfl : (σ6.1 28 y8.toNatClampNeg).toInt = (σ6.1 28 y8.toNatClampNeg).toInt) | skip
          first | have f58 := (notltE (rfl : v48.toInt = v48.toInt) (show (0 : Int32).toInt = 0 from by decide)).mp c49 | skip
          have g60 : vp_in v48 60 := inE (rfl : v48.toInt = v48.toInt) (by omega) (by omega)
          refine ⟨g60, ?_⟩
          refine ⟨fun c61 => ?_, fun c61 => ?_⟩
          · have f62 := K1.ga_21 hσ6 v48.toNatClampNeg
            first | have f63 := (leE (show (1 : Int32).toInt = 1 from by decide) (rfl : (σ6.1 21 v48.toNatClampNeg).toInt = (σ6.1 21 v48.toNatClampNeg).toInt)).mp c61 | skip
            refine ⟨inE (rfl : y7.toInt = y7.toInt) (by omega) (by omega), ?_⟩
            intro σ65 eσ65
            have kb66 := r120_b hk2
            have hσ65 : K1 σ0 σ65 := by rw [eσ65]; exact hσ6.u (rg_r120 hk2 (leP (rfl : v48.toInt = v48.toInt) (by omega)) (geP (rfl : v48.toInt = v48.toInt) (by omega))) (by omega) (by omega)
            intro v68 ev68
            have g70 : vp_in v48 60 := inE (rfl : v48.toInt = v48.toInt) (by omega) (by omega)
            refine ⟨g70, ?_⟩
            intro v71 ev71
            have f72 := tB v68
            first | have f74 : v68.toInt = (y7.toInt + (1)) := (congrArg Int32.toInt ev68).trans (aOkE (rfl : y7.toInt = y7.toInt) (show (1 : Int32).toInt = 1 from by decide) (by omega) (by omega)) | skip
            have f75 := tB v71
            have f77 := K1.ga_21 hσ65 v48.toNatClampNeg
            have q78 : σ65.1 21 v48.toNatClampNeg = σ6.1 21 v48.toNatClampNeg := by rw [eσ65]; exact congrFun (u1_ne (by omega)) _
            have f79 := congrArg Int32.toInt q78
            first | have f81 : v71.toInt = (y8.toInt + (σ65.1 21 v48.toNatClampNeg).toInt) := (congrArg Int32.toInt ev71).trans (aOkE (rfl : y8.toInt = y8.toInt) (rfl : (σ65.1 21 v48.toNatClampNeg).toInt = (σ65.1 21 v48.toNatClampNeg).toInt) (by omega) (by omega)) | skip
            exact ih5 v68 v71 σ65 ⟨hσ65, (kq (a := 3) (b := 7) eσ65 (by omega)).trans (k9), (kq (a := 3) (b := 11) eσ65 (by omega)).trans (k10), (kq (a := 3) (b := 6) eσ65 (by omega)).trans (k11), (kq (a := 9) (b := 9) eσ65 (by omega)).trans (k12), (kq (a := 9) (b := 10) eσ65 (by omega)).trans (k13), (kq (a := 6) (b := 5) eσ65 (by omega)).trans (k14), (kq (a := 7) (b := 4) eσ65 (by omega)).trans (k15), (kq (a := 2) (b := 4) eσ65 (by omega)).trans (k16), (kq (a := 2) (b := 5) eσ65 (by omega)).trans (k17), (kq (a := 2) (b := 6) eσ65 (by omega)).trans (k18), (kq (a := 3) (b := 8) eσ65 (by omega)).trans (k19), by omega, by omega, by omega, by omega⟩ (by (try dsimp only); omega)
          · have f82 := K1.ga_21 hσ6 v48.toNatClampNeg
            first | have f83 := (notleE (show (1 : Int32).toInt = 1 from by decide) (rfl : (σ6.1 21 v48.toNatClampNeg).toInt = (σ6.1 21 v48.toNatClampNeg).toInt)).mp c61 | skip
            exact hQ _ _ hσ6 (⟨k9, k10, k11, k12, k13, k14, k15, k16, k17, k18, k19⟩) ⟨leP (rfl : y7.toInt = y7.toInt) (by omega), geP (rfl : y7.toInt = y7.toInt) (by omega)⟩
set_option maxHeartbeats 4000000 in
theorem sX5_partTexts {N : Nat} (hN : 4294967400 ≤ N) {Q : St → Prop} {σ0 σ : St} (hσ : K1 σ0 σ) (hQ : ∀ τ : St, K1 σ0 τ → (τ.1 3 7 = σ.1 3 7 ∧ τ.1 3 11 = σ.1 3 11 ∧ τ.1 3 6 = σ.1 3 6 ∧ τ.1 9 9 = σ.1 9 9 ∧ τ.1 9 10 = σ.1 9 10 ∧ τ.1 6 5 = σ.1 6 5 ∧ τ.1 7 4 = σ.1 7 4 ∧ τ.1 2 4 = σ.1 2 4 ∧ τ.1 2 5 = σ.1 2 5 ∧ τ.1 2 6 = σ.1 2 6 ∧ τ.1 3 8 = σ.1 3 8) → Q τ) : fX5_partTexts N  Q σ := by
  unfold fX5_partTexts
  refine sJ7_fill_53178 hN (by decide) (fun j v => Rg1.ra_41 j v) (by decide) (by decide) hσ (fun σ1 hσ1 kk13 => ?_)
  obtain ⟨k2, k3, k4, k5, k6, k7, k8, k9, k10, k11, k12⟩ := kk13
  refine lo1_i (fun (y14 : Int32) (τ : St) => K1 σ0 τ ∧ τ.1 3 7 = σ1.1 3 7 ∧ τ.1 3 11 = σ1.1 3 11 ∧ τ.1 3 6 = σ1.1 3 6 ∧ τ.1 9 9 = σ1.1 9 9 ∧ τ.1 9 10 = σ1.1 9 10 ∧ τ.1 6 5 = σ1.1 6 5 ∧ τ.1 7 4 = σ1.1 7 4 ∧ τ.1 2 4 = σ1.1 2 4 ∧ τ.1 2 5 = σ1.1 2 5 ∧ τ.1 2 6 = σ1.1 2 6 ∧ τ.1 3 8 = σ1.1 3 8 ∧ 0 ≤ y14.toInt) (fun (y14 : Int32) (τ : St) => (2147483648 - y14.toInt).toNat) ?_ N (0 : Int32) σ1 ⟨hσ1, rfl, rfl, rfl, rfl, rfl, rfl, rfl, rfl, rfl, rfl, rfl, by first | decide | (have z0 : (0 : Int32).toInt = 0 := (by decide); omega)⟩ (by have z0 : (0 : Int32).toInt = 0 := (by decide); (try dsimp only); omega)
  intro rr15 y18 σ17 hIσ17 ih16
  obtain ⟨hσ17, k19, k20, k21, k22, k23, k24, k25, k26, k27, k28, k29, i30⟩ := hIσ17
  unfold fX5_partTexts_l10
  have f31 := tB y18
  refine ⟨fun c32 => ?_, fun c32 => ?_⟩
  · have f33 := K1.g_7_4 hσ17
    have f34 := congrArg Int32.toInt k25
    have f35 := K1.g_7_4 hσ1
    have f36 := congrArg Int32.toInt k8
    have f37 := K1.g_7_4 hσ
    first | have f39 := (leE (rfl : (σ17.1 7 4).toInt = (σ17.1 7 4).toInt) (rfl : y18.toInt = y18.toInt)).mp c32 | skip
    exact hQ _ hσ17 (⟨k19.trans (k2), k20.trans (k3), k21.trans (k4), k22.trans (k5), k23.trans (k6), k24.trans (k7), k25.trans (k8), k26.trans (k9), k27.trans (k10), k28.trans (k11), k29.trans (k12)⟩)
  · have f40 := K1.g_7_4 hσ17
    have f41 := congrArg Int32.toInt k25
    have f42 := K1.g_7_4 hσ1
    have f43 := congrArg Int32.toInt k8
    have f44 := K1.g_7_4 hσ
    first | have f46 := (notleE (rfl : (σ17.1 7 4).toInt = (σ17.1 7 4).toInt) (rfl : y18.toInt = y18.toInt)).mp c32 | skip
    have g48 : vp_in y18 20 := inE (rfl : y18.toInt = y18.toInt) (by omega) (by omega)
    refine ⟨g48, ?_⟩
    have hk49 : r120 (183 + y18.toNatClampNeg) := (r120_in3 g48)
    have hk49x := vp_lt g48
    have hk49b := r120_b hk49
    have g51 : vp_in y18 20 := inE (rfl : y18.toInt = y18.toInt) (by omega) (by omega)
    refine ⟨g51, ?_⟩
    have f52 := tB (σ17.1 24 y18.toNatClampNeg)
    refine sX6_part hN hk49 hσ17 (fun r66 σ53 hσ53 kk65 p67 => ?_)
    obtain ⟨k54, k55, k56, k57, k58, k59, k60, k61, k62, k63, k64⟩ := kk65
    have g69 : vp_in y18 20 := inE (rfl : y18.toInt = y18.toInt) (by omega) (by omega)
    refine ⟨g69, ?_⟩
    have g71 : vp_in y18 20 := inE (rfl : y18.toInt = y18.toInt) (by omega) (by omega)
    refine ⟨g71, ?_⟩
    have hk72 : r120 (203 + y18.toNatClampNeg) := (r120_in8 g71)
    have hk72x := vp_lt g71
    have hk72b := r120_b hk72
    have f73 := tB (σ53.1 24 y18.toNatClampNeg)
    refine sX6_copyPieces hN hk72 hσ53 (fun r87 σ74 hσ74 kk86 p88 => ?_)
    obtain ⟨k75, k76, k77, k78, k79, k80, k81, k82, k83, k84, k85⟩ := kk86
    refine ⟨inE (rfl : y18.toInt = y18.toInt) (by omega) (by omega), ?_⟩
    intro σ90 eσ90
    have f91 := tB r87
    have hσ90 : K1 σ0 σ90 := by rw [eσ90]; exact hσ74.u (Rg1.ra_39 (leP (rfl : r87.toInt = r87.toInt) (by omega)) (geP (rfl : r87.toInt = r87.toInt) (by omega))) (fun q => absurd q.1 (by decide)) (fun q => absurd q.1 (by decide))
    refine lo1_i (fun (y92 : Int32) (τ : St) => K1 σ0 τ ∧ τ.1 3 7 = σ90.1 3 7 ∧ τ.1 3 11 = σ90.1 3 11 ∧ τ.1 3 6 = σ90.1 3 6 ∧ τ.1 9 9 = σ90.1 9 9 ∧ τ.1 9 10 = σ90.1 9 10 ∧ τ.1 6 5 = σ90.1 6 5 ∧ τ.1 7 4 = σ90.1 7 4 ∧ τ.1 2 4 = σ90.1 2 4 ∧ τ.1 2 5 = σ90.1 2 5 ∧ τ.1 2 6 = σ90.1 2 6 ∧ τ.1 3 8 = σ90.1 3 8 ∧ 0 ≤ y92.toInt) (fun (y92 : Int32) (τ : St) => (2147483648 - y92.toInt).toNat) ?_ N (0 : Int32) σ90 ⟨hσ90, rfl, rfl, rfl, rfl, rfl, rfl, rfl, rfl, rfl, rfl, rfl, by first | decide | (have z0 : (0 : Int32).toInt = 0 := (by decide); omega)⟩ (by have z0 : (0 : Int32).toInt = 0 := (by decide); (try dsimp only); omega)
    intro rr94 y97 σ96 hIσ96 ih95
    obtain ⟨hσ96, k98, k99, k100, k101, k102, k103, k104, k105, k106, k107, k108, i109⟩ := hIσ96
    unfold fX5_partTexts_l77
    have f110 := tB y97
    have g112 : vp_in y18 20 := inE (rfl : y18.toInt = y18.toInt) (by omega) (by omega)
    refine ⟨g112, ?_⟩
    refine ⟨fun c113 => ?_, fun c113 => ?_⟩
    · have f114 := K1.ga_39 hσ96 y18.toNatClampNeg
      first | have f116 := (leE (rfl : (σ96.1 39 y18.toNatClampNeg).toInt = (σ96.1 39 y18.toNatClampNeg).toInt) (rfl : y97.toInt = y97.toInt)).mp c113 | skip
      intro v117 ev117
      have f118 := tB v117
      first | have f120 : v117.toInt = (y18.toInt + (1)) := (congrArg Int32.toInt ev117).trans (aOkE (rfl : y18.toInt = y18.toInt) (show (1 : Int32).toInt = 1 from by decide) (by omega) (by omega)) | skip
      exact ih16 v117 σ96 ⟨hσ96, k98.trans ((kq (a := 3) (b := 7) eσ90 (fun q => absurd q.1 (by decide))).trans (k75.trans (k54.trans (k19)))), k99.trans ((kq (a := 3) (b := 11) eσ90 (fun q => absurd q.1 (by decide))).trans (k76.trans (k55.trans (k20)))), k100.trans ((kq (a := 3) (b := 6) eσ90 (fun q => absurd q.1 (by decide))).trans (k77.trans (k56.trans (k21)))), k101.trans ((kq (a := 9) (b := 9) eσ90 (fun q => absurd q.1 (by decide))).trans (k78.trans (k57.trans (k22)))), k102.trans ((kq (a := 9) (b := 10) eσ90 (fun q => absurd q.1 (by decide))).trans (k79.trans (k58.trans (k23)))), k103.trans ((kq (a := 6) (b := 5) eσ90 (fun q => absurd q.1 (by decide))).trans (k80.trans (k59.trans (k24)))), k104.trans ((kq (a := 7) (b := 4) eσ90 (fun q => absurd q.1 (by decide))).trans (k81.trans (k60.trans (k25)))), k105.trans ((kq (a := 2) (b := 4) eσ90 (fun q => absurd q.1 (by decide))).trans (k82.trans (k61.trans (k26)))), k106.trans ((kq (a := 2) (b := 5) eσ90 (fun q => absurd q.1 (by decide))).trans (k83.trans (k62.trans (k27)))), k107.trans ((kq (a := 2) (b := 6) eσ90 (fun q => absurd q.1 (by decide))).trans (k84.trans (k63.trans (k28)))), k108.trans ((kq (a := 3) (b := 8) eσ90 (fun q => absurd q.1 (by decide))).trans (k85.trans (k64.trans (k29)))), by omega⟩ (by (try dsimp only); omega)
    · have f121 := K1.ga_39 hσ96 y18.toNatClampNeg
      first | have f123 := (notleE (rfl : (σ96.1 39 y18.toNatClampNeg).toInt = (σ96.1 39 y18.toNatClampNeg).toInt) (rfl : y97.toInt = y97.toInt)).mp c113 | skip
      have g125 : vp_in y18 20 := inE (rfl : y18.toInt = y18.toInt) (by omega) (by omega)
      refine ⟨g125, ?_⟩
      have hk126 : r120 (203 + y18.toNatClampNeg) := (r120_in8 g125)
      have hk126x := vp_lt g125
      have hk126b := r120_b hk126
      have g128 : vp_in y97 120 := inE (rfl : y97.toInt = y97.toInt) (by omega) (by omega)
      refine ⟨g128, ?_⟩
      have f129 := K1.gp hσ96 y18.toNatClampNeg y97.toNatClampNeg
      have g130 : vp_in (σ96.1 (203 + y18.toNatClampNeg) y97.toNatClampNeg) 60 := inE (rfl : (σ96.1 (203 + y18.toNatClampNeg) y97.toNatClampNeg).toInt = (σ96.1 (203 + y18.toNatClampNeg) y97.toNatClampNeg).toInt) (by omega) (by omega)
      refine ⟨g130, ?_⟩
      intro v131 ev131
      refine ⟨inE (rfl : (σ96.1 (203 + y18.toNatClampNeg) y97.toNatClampNeg).toInt = (σ96.1 (203 + y18.toNatClampNeg) y97.toNatClampNeg).toInt) (by omega) (by omega), ?_⟩
      intro σ133 eσ133
      have hσ133 : K1 σ0 σ133 := by rw [eσ133]; exact hσ96.u (Rg1.ra_41 _ _) (fun q => absurd q.1 (by decide)) (fun q => absurd q.1 (by decide))
      intro v134 ev134
      have f135 := tB v134
      first | have f137 : v134.toInt = (y97.toInt + (1)) := (congrArg Int32.toInt ev134).trans (aOkE (rfl : y97.toInt = y97.toInt) (show (1 : Int32).toInt = 1 from by decide) (by omega) (by omega)) | skip
      exact ih95 v134 σ133 ⟨hσ133, (kq (a := 3) (b := 7) eσ133 (fun q => absurd q.1 (by decide))).trans (k98), (kq (a := 3) (b := 11) eσ133 (fun q => absurd q.1 (by decide))).trans (k99), (kq (a := 3) (b := 6) eσ133 (fun q => absurd q.1 (by decide))).trans (k100), (kq (a := 9) (b := 9) eσ133 (fun q => absurd q.1 (by decide))).trans (k101), (kq (a := 9) (b := 10) eσ133 (fun q => absurd q.1 (by decide))).trans (k102), (kq (a := 6) (b := 5) eσ133 (fun q => absurd q.1 (by decide))).trans (k103), (kq (a := 7) (b := 4) eσ133 (fun q => absurd q.1 (by decide))).trans (k104), (kq (a := 2) (b := 4) eσ133 (fun q => absurd q.1 (by decide))).trans (k105), (kq (a := 2) (b := 5) eσ133 (fun q => absurd q.1 (by decide))).trans (k106), (kq (a := 2) (b := 6) eσ133 (fun q => absurd q.1 (by decide))).trans (k107), (kq (a := 3) (b := 8) eσ133 (fun q => absurd q.1 (by decide))).trans (k108), by omega⟩ (by (try dsimp only); omega)
set_option maxHeartbeats 4000000 in
theorem sX0_clearLeaves {N : Nat} (hN : 4294967400 ≤ N) {Q : St → Prop} {σ0 σ : St} (hσ : K1 σ0 σ) (hQ : ∀ τ : St, K1 σ0 τ → (τ.1 3 7 = σ.1 3 7 ∧ τ.1 3 11 = σ.1 3 11 ∧ τ.1 3 6 = σ.1 3 6 ∧ τ.1 6 5 = σ.1 6 5 ∧ τ.1 7 4 = σ.1 7 4 ∧ τ.1 2 4 = σ.1 2 4 ∧ τ.1 2 5 = σ.1 2 5 ∧ τ.1 2 6 = σ.1 2 6 ∧ τ.1 3 8 = σ.1 3 8) → Q τ) : fX0_clearLeaves N  Q σ := by
  unfold fX0_clearLeaves
  intro σ1 eσ1
  have hσ1 : K1 σ0 σ1 := by rw [eσ1]; exact hσ.u (Rg1.r_9_9 (leP (show (0 : Int32).toInt = 0 from by decide) (by omega)) (geP (show (0 : Int32).toInt = 0 from by decide) (by omega))) (fun q => absurd q.1 (by decide)) (fun q => absurd q.1 (by decide))
  intro σ2 eσ2
  have hσ2 : K1 σ0 σ2 := by rw [eσ2]; exact hσ1.u (Rg1.r_9_10 (leP (show (0 : Int32).toInt = 0 from by decide) (by omega)) (geP (show (0 : Int32).toInt = 0 from by decide) (by omega))) (fun q => absurd q.1 (by decide)) (fun q => absurd q.1 (by decide))
  exact hQ _ hσ2 (⟨(kq (a := 3) (b := 7) eσ2 (fun q => absurd q.1 (by decide))).trans ((kq (a := 3) (b := 7) eσ1 (fun q => absurd q.1 (by decide)))), (kq (a := 3) (b := 11) eσ2 (fun q => absurd q.1 (by decide))).trans ((kq (a := 3) (b := 11) eσ1 (fun q => absurd q.1 (by decide)))), (kq (a := 3) (b := 6) eσ2 (fun q => absurd q.1 (by decide))).trans ((kq (a := 3) (b := 6) eσ1 (fun q => absurd q.1 (by decide)))), (kq (a := 6) (b := 5) eσ2 (fun q => absurd q.1 (by decide))).trans ((kq (a := 6) (b := 5) eσ1 (fun q => absurd q.1 (by decide)))), (kq (a := 7) (b := 4) eσ2 (fun q => absurd q.1 (by decide))).trans ((kq (a := 7) (b := 4) eσ1 (fun q => absurd q.1 (by decide)))), (kq (a := 2) (b := 4) eσ2 (fun q => absurd q.1 (by decide))).trans ((kq (a := 2) (b := 4) eσ1 (fun q => absurd q.1 (by decide)))), (kq (a := 2) (b := 5) eσ2 (fun q => absurd q.1 (by decide))).trans ((kq (a := 2) (b := 5) eσ1 (fun q => absurd q.1 (by decide)))), (kq (a := 2) (b := 6) eσ2 (fun q => absurd q.1 (by decide))).trans ((kq (a := 2) (b := 6) eσ1 (fun q => absurd q.1 (by decide)))), (kq (a := 3) (b := 8) eσ2 (fun q => absurd q.1 (by decide))).trans ((kq (a := 3) (b := 8) eσ1 (fun q => absurd q.1 (by decide))))⟩)
set_option maxHeartbeats 4000000 in
theorem sX0_addLeaf {N : Nat} (hN : 4294967400 ≤ N) {x1 : Int32} {x2 : Int32} {x3 : Int32} {Q : St → Prop} {σ0 σ : St} (hp1 : -1 ≤ x1.toInt ∧ x1.toInt ≤ 59) (hs9_9 : 0 ≤ (σ.1 9 9).toInt ∧ (σ.1 9 9).toInt ≤ 61) (hσ : K1 σ0 σ) (hQ : ∀ τ : St, K1 σ0 τ → (τ.1 3 7 = σ.1 3 7 ∧ τ.1 3 11 = σ.1 3 11 ∧ τ.1 3 6 = σ.1 3 6 ∧ τ.1 6 5 = σ.1 6 5 ∧ τ.1 7 4 = σ.1 7 4 ∧ τ.1 2 4 = σ.1 2 4 ∧ τ.1 2 5 = σ.1 2 5 ∧ τ.1 2 6 = σ.1 2 6 ∧ τ.1 3 8 = σ.1 3 8 ∧ (0 ≤ (τ.1 9 9).toInt ∧ (τ.1 9 9).toInt ≤ 61)) → Q τ) : fX0_addLeaf N x1 x2 x3 Q σ := by
  unfold fX0_addLeaf
  refine ⟨fun c1 => ?_, fun c1 => ?_⟩
  · have f2 := K1.g_9_9 hσ
    first | have f3 := (ltE (rfl : (σ.1 9 9).toInt = (σ.1 9 9).toInt) (show (61 : Int32).toInt = 61 from by decide)).mp c1 | skip
    refine ⟨inE (rfl : (σ.1 9 9).toInt = (σ.1 9 9).toInt) (by omega) (by omega), ?_⟩
    intro σ5 eσ5
    have f6 := tB x1
    have hσ5 : K1 σ0 σ5 := by rw [eσ5]; exact hσ.u (Rg1.ra_34 (leP (rfl : x1.toInt = x1.toInt) (by omega)) (geP (rfl : x1.toInt = x1.toInt) (by omega))) (fun q => absurd q.1 (by decide)) (fun q => absurd q.1 (by decide))
    unfold fX0_addKnot
    have f7 := K1.g_9_9 hσ5
    have q8 : σ5.1 9 9 = σ.1 9 9 := by rw [eσ5]; exact congrFun (u1_ne (by decide)) 9
    have f9 := congrArg Int32.toInt q8
    refine ⟨inE (rfl : (σ5.1 9 9).toInt = (σ5.1 9 9).toInt) (by omega) (by omega), ?_⟩
    intro σ11 eσ11
    have hσ11 : K1 σ0 σ11 := by rw [eσ11]; exact hσ5.u (Rg1.ra_29 _ _) (fun q => absurd q.1 (by decide)) (fun q => absurd q.1 (by decide))
    have f12 := K1.g_9_9 hσ11
    have q13 : σ11.1 9 9 = σ5.1 9 9 := by rw [eσ11]; exact congrFun (u1_ne (by decide)) 9
    have f14 := congrArg Int32.toInt q13
    refine ⟨inE (rfl : (σ11.1 9 9).toInt = (σ11.1 9 9).toInt) (by omega) (by omega), ?_⟩
    intro σ16 eσ16
    have hσ16 : K1 σ0 σ16 := by rw [eσ16]; exact hσ11.u (Rg1.ra_33 _ _) (fun q => absurd q.1 (by decide)) (fun q => absurd q.1 (by decide))
    have f17 := K1.g_9_9 hσ16
    have q18 : σ16.1 9 9 = σ11.1 9 9 := by rw [eσ16]; exact congrFun (u1_ne (by decide)) 9
    have f19 := congrArg Int32.toInt q18
    refine ⟨inE (rfl : (σ16.1 9 9).toInt = (σ16.1 9 9).toInt) (by omega) (by omega), ?_⟩
    intro σ21 eσ21
    have hσ21 : K1 σ0 σ21 := by rw [eσ21]; exact hσ16.u (Rg1.ra_30 _ _) (fun q => absurd q.1 (by decide)) (fun q => absurd q.1 (by decide))
    intro v22 ev22
    intro σ23 eσ23
    have f24 := tB v22
    have f25 := K1.g_9_9 hσ21
    have q26 : σ21.1 9 9 = σ16.1 9 9 := by rw [eσ21]; exact congrFun (u1_ne (by decide)) 9
    have f27 := congrArg Int32.toInt q26
    first | have f29 : v22.toInt = ((σ21.1 9 9).toInt + (1)) := (congrArg Int32.toInt ev22).trans (aOkE (rfl : (σ21.1 9 9).toInt = (σ21.1 9 9).toInt) (show (1 : Int32).toInt = 1 from by decide) (by omega) (by omega)) | skip
    have hσ23 : K1 σ0 σ23 := by rw [eσ23]; exact hσ21.u (Rg1.r_9_9 (leP (rfl : v22.toInt = v22.toInt) (by omega)) (geP (rfl : v22.toInt = v22.toInt) (by omega))) (fun q => absurd q.1 (by decide)) (fun q => absurd q.1 (by decide))
    try dsimp only
    intro v30 ev30
    intro σ31 eσ31
    have f32 := tB v30
    have f33 := K1.g_9_9 hσ23
    have q34 : σ23.1 9 9 = v22 := by rw [eσ23, u1_at]; exact if_pos rfl
    first | have f36 : (σ23.1 9 9).toInt = v22.toInt := (congrArg Int32.toInt q34).trans (rfl : v22.toInt = v22.toInt) | skip
    first | have f37 : v30.toInt = (σ23.1 9 9).toInt := (congrArg Int32.toInt ev30).trans (rfl : (σ23.1 9 9).toInt = (σ23.1 9 9).toInt) | skip
    have hσ31 : K1 σ0 σ31 := by rw [eσ31]; exact hσ23.u (Rg1.r_9_10 (leP (rfl : v30.toInt = v30.toInt) (by omega)) (geP (rfl : v30.toInt = v30.toInt) (by omega))) (fun q => absurd q.1 (by decide)) (fun q => absurd q.1 (by decide))
    have f38 := K1.g_9_9 hσ31
    have q39 : σ31.1 9 9 = σ23.1 9 9 := by rw [eσ31, u1_at]; exact if_neg (by decide)
    have f40 := congrArg Int32.toInt q39
    exact hQ _ hσ31 (⟨(kq (a := 3) (b := 7) eσ31 (fun q => absurd q.1 (by decide))).trans ((kq (a := 3) (b := 7) eσ23 (fun q => absurd q.1 (by decide))).trans ((kq (a := 3) (b := 7) eσ21 (fun q => absurd q.1 (by decide))).trans ((kq (a := 3) (b := 7) eσ16 (fun q => absurd q.1 (by decide))).trans ((kq (a := 3) (b := 7) eσ11 (fun q => absurd q.1 (by decide))).trans ((kq (a := 3) (b := 7) eσ5 (fun q => absurd q.1 (by decide)))))))), (kq (a := 3) (b := 11) eσ31 (fun q => absurd q.1 (by decide))).trans ((kq (a := 3) (b := 11) eσ23 (fun q => absurd q.1 (by decide))).trans ((kq (a := 3) (b := 11) eσ21 (fun q => absurd q.1 (by decide))).trans ((kq (a := 3) (b := 11) eσ16 (fun q => absurd q.1 (by decide))).trans ((kq (a := 3) (b := 11) eσ11 (fun q => absurd q.1 (by decide))).trans ((kq (a := 3) (b := 11) eσ5 (fun q => absurd q.1 (by decide)))))))), (kq (a := 3) (b := 6) eσ31 (fun q => absurd q.1 (by decide))).trans ((kq (a := 3) (b := 6) eσ23 (fun q => absurd q.1 (by decide))).trans ((kq (a := 3) (b := 6) eσ21 (fun q => absurd q.1 (by decide))).trans ((kq (a := 3) (b := 6) eσ16 (fun q => absurd q.1 (by decide))).trans ((kq (a := 3) (b := 6) eσ11 (fun q => absurd q.1 (by decide))).trans ((kq (a := 3) (b := 6) eσ5 (fun q => absurd q.1 (by decide)))))))), (kq (a := 6) (b := 5) eσ31 (fun q => absurd q.1 (by decide))).trans ((kq (a := 6) (b := 5) eσ23 (fun q => absurd q.1 (by decide))).trans ((kq (a := 6) (b := 5) eσ21 (fun q => absurd q.1 (by decide))).trans ((kq (a := 6) (b := 5) eσ16 (fun q => absurd q.1 (by decide))).trans ((kq (a := 6) (b := 5) eσ11 (fun q => absurd q.1 (by decide))).trans ((kq (a := 6) (b := 5) eσ5 (fun q => absurd q.1 (by decide)))))))), (kq (a := 7) (b := 4) eσ31 (fun q => absurd q.1 (by decide))).trans ((kq (a := 7) (b := 4) eσ23 (fun q => absurd q.1 (by decide))).trans ((kq (a := 7) (b := 4) eσ21 (fun q => absurd q.1 (by decide))).trans ((kq (a := 7) (b := 4) eσ16 (fun q => absurd q.1 (by decide))).trans ((kq (a := 7) (b := 4) eσ11 (fun q => absurd q.1 (by decide))).trans ((kq (a := 7) (b := 4) eσ5 (fun q => absurd q.1 (by decide)))))))), (kq (a := 2) (b := 4) eσ31 (fun q => absurd q.1 (by decide))).trans ((kq (a := 2) (b := 4) eσ23 (fun q => absurd q.1 (by decide))).trans ((kq (a := 2) (b := 4) eσ21 (fun q => absurd q.1 (by decide))).trans ((kq (a := 2) (b := 4) eσ16 (fun q => absurd q.1 (by decide))).trans ((kq (a := 2) (b := 4) eσ11 (fun q => absurd q.1 (by decide))).trans ((kq (a := 2) (b := 4) eσ5 (fun q => absurd q.1 (by decide)))))))), (kq (a := 2) (b := 5) eσ31 (fun q => absurd q.1 (by decide))).trans ((kq (a := 2) (b := 5) eσ23 (fun q => absurd q.1 (by decide))).trans ((kq (a := 2) (b := 5) eσ21 (fun q => absurd q.1 (by decide))).trans ((kq (a := 2) (b := 5) eσ16 (fun q => absurd q.1 (by decide))).trans ((kq (a := 2) (b := 5) eσ11 (fun q => absurd q.1 (by decide))).trans ((kq (a := 2) (b := 5) eσ5 (fun q => absurd q.1 (by decide)))))))), (kq (a := 2) (b := 6) eσ31 (fun q => absurd q.1 (by decide))).trans ((kq (a := 2) (b := 6) eσ23 (fun q => absurd q.1 (by decide))).trans ((kq (a := 2) (b := 6) eσ21 (fun q => absurd q.1 (by decide))).trans ((kq (a := 2) (b := 6) eσ16 (fun q => absurd q.1 (by decide))).trans ((kq (a := 2) (b := 6) eσ11 (fun q => absurd q.1 (by decide))).trans ((kq (a := 2) (b := 6) eσ5 (fun q => absurd q.1 (by decide)))))))), (kq (a := 3) (b := 8) eσ31 (fun q => absurd q.1 (by decide))).trans ((kq (a := 3) (b := 8) eσ23 (fun q => absurd q.1 (by decide))).trans ((kq (a := 3) (b := 8) eσ21 (fun q => absurd q.1 (by decide))).trans ((kq (a := 3) (b := 8) eσ16 (fun q => absurd q.1 (by decide))).trans ((kq (a := 3) (b := 8) eσ11 (fun q => absurd q.1 (by decide))).trans ((kq (a := 3) (b := 8) eσ5 (fun q => absurd q.1 (by decide)))))))), ⟨by omega, by omega⟩⟩)
  · have f42 := K1.g_9_9 hσ
    first | have f43 := (notltE (rfl : (σ.1 9 9).toInt = (σ.1 9 9).toInt) (show (61 : Int32).toInt = 61 from by decide)).mp c1 | skip
    exact hQ _ hσ (⟨rfl, rfl, rfl, rfl, rfl, rfl, rfl, rfl, rfl, ⟨by omega, by omega⟩⟩)
set_option maxHeartbeats 4000000 in
theorem sX7_nodeSize {N : Nat} (hN : 4294967400 ≤ N) {x1 : Int32} {Q : Int32 → St → Prop} {σ0 σ : St} (hp1 : 0 ≤ x1.toInt ∧ x1.toInt ≤ 59) (hσ : K1 σ0 σ) (hQ : ∀ r : Int32, True → Q r σ) : fX7_nodeSize N x1 Q σ := by
  unfold fX7_nodeSize
  have f1 := tB x1
  have g2 : vp_in x1 60 := inE (rfl : x1.toInt = x1.toInt) (by omega) (by omega)
  refine ⟨g2, ?_⟩
  intro v3 ev3
  refine ⟨fun c4 => ?_, fun c4 => ?_⟩
  · have f5 := tB v3
    have f6 := tB (σ.1 18 x1.toNatClampNeg)
    first | have f7 : v3.toInt = (σ.1 18 x1.toNatClampNeg).toInt := (congrArg Int32.toInt ev3).trans (rfl : (σ.1 18 x1.toNatClampNeg).toInt = (σ.1 18 x1.toNatClampNeg).toInt) | skip
    first | have f8 := (eqE (rfl : v3.toInt = v3.toInt) (show (2 : Int32).toInt = 2 from by decide)).mp c4 | skip
    exact hQ _ trivial
  · have f9 := tB v3
    have f10 := tB (σ.1 18 x1.toNatClampNeg)
    first | have f11 : v3.toInt = (σ.1 18 x1.toNatClampNeg).toInt := (congrArg Int32.toInt ev3).trans (rfl : (σ.1 18 x1.toNatClampNeg).toInt = (σ.1 18 x1.toNatClampNeg).toInt) | skip
    first | have f12 := (noteqE (rfl : v3.toInt = v3.toInt) (show (2 : Int32).toInt = 2 from by decide)).mp c4 | skip
    refine ⟨fun c13 => ?_, fun c13 => ?_⟩
    · first | have f15 := (eqE (rfl : v3.toInt = v3.toInt) (show (3 : Int32).toInt = 3 from by decide)).mp c13 | skip
      have g17 : vp_in x1 60 := inE (rfl : x1.toInt = x1.toInt) (by omega) (by omega)
      refine ⟨g17, ?_⟩
      exact hQ _ trivial
    · first | have f19 := (noteqE (rfl : v3.toInt = v3.toInt) (show (3 : Int32).toInt = 3 from by decide)).mp c13 | skip
      refine ⟨fun c20 => ?_, fun c20 => ?_⟩
      · first | have f22 := (eqE (rfl : v3.toInt = v3.toInt) (show (5 : Int32).toInt = 5 from by decide)).mp c20 | skip
        have g24 : vp_in x1 60 := inE (rfl : x1.toInt = x1.toInt) (by omega) (by omega)
        refine ⟨g24, ?_⟩
        exact hQ _ trivial
      · first | have f26 := (noteqE (rfl : v3.toInt = v3.toInt) (show (5 : Int32).toInt = 5 from by decide)).mp c20 | skip
        unfold fX7_nodeSize_j62
        exact hQ _ trivial
set_option maxHeartbeats 4000000 in
theorem sX0_takeLeast {N : Nat} (hN : 4294967400 ≤ N) {Q : Int32 → St → Prop} {σ0 σ : St} (hσ : K1 σ0 σ) (hQ : ∀ (r : Int32) (τ : St), K1 σ0 τ → (τ.1 3 7 = σ.1 3 7 ∧ τ.1 3 11 = σ.1 3 11 ∧ τ.1 3 6 = σ.1 3 6 ∧ τ.1 9 9 = σ.1 9 9 ∧ τ.1 9 10 = σ.1 9 10 ∧ τ.1 6 5 = σ.1 6 5 ∧ τ.1 7 4 = σ.1 7 4 ∧ τ.1 2 4 = σ.1 2 4 ∧ τ.1 2 5 = σ.1 2 5 ∧ τ.1 2 6 = σ.1 2 6 ∧ τ.1 3 8 = σ.1 3 8) → (-1) ≤ r.toInt ∧ r.toInt ≤ 120 → Q r τ) : fX0_takeLeast N  Q σ := by
  unfold fX0_takeLeast
  refine lo2_i (fun (y1 : Int32) (y2 : Int32) (τ : St) => K1 σ0 τ ∧ τ.1 3 7 = σ.1 3 7 ∧ τ.1 3 11 = σ.1 3 11 ∧ τ.1 3 6 = σ.1 3 6 ∧ τ.1 9 9 = σ.1 9 9 ∧ τ.1 9 10 = σ.1 9 10 ∧ τ.1 6 5 = σ.1 6 5 ∧ τ.1 7 4 = σ.1 7 4 ∧ τ.1 2 4 = σ.1 2 4 ∧ τ.1 2 5 = σ.1 2 5 ∧ τ.1 2 6 = σ.1 2 6 ∧ τ.1 3 8 = σ.1 3 8 ∧ 0 ≤ y2.toInt ∧ -1 ≤ y1.toInt ∧ y1.toInt ≤ 120) (fun (y1 : Int32) (y2 : Int32) (τ : St) => (2147483648 - y2.toInt).toNat) ?_ N ((-1) : Int32) (0 : Int32) σ ⟨hσ, rfl, rfl, rfl, rfl, rfl, rfl, rfl, rfl, rfl, rfl, rfl, by first | decide | (have z0 : (0 : Int32).toInt = 0 := (by decide); omega), by first | decide | (have z0 : (0 : Int32).toInt = 0 := (by decide); omega), by first | decide | (have z0 : (0 : Int32).toInt = 0 := (by decide); omega)⟩ (by have z0 : (0 : Int32).toInt = 0 := (by decide); (try dsimp only); omega)
  intro rr3 y6 y7 σ5 hIσ5 ih4
  obtain ⟨hσ5, k8, k9, k10, k11, k12, k13, k14, k15, k16, k17, k18, i19, i20, i21⟩ := hIσ5
  unfold fX0_takeLeast_l4
  have f22 := tB y6
  have f23 := tB y7
  refine ⟨fun c24 => ?_, fun c24 => ?_⟩
  · have f25 := K1.g_9_9 hσ5
    have f26 := congrArg Int32.toInt k11
    have f27 := K1.g_9_9 hσ
    first | have f29 := (leE (rfl : (σ5.1 9 9).toInt = (σ5.1 9 9).toInt) (rfl : y7.toInt = y7.toInt)).mp c24 | skip
    refine ⟨fun c30 => ?_, fun c30 => ?_⟩
    · first | have f32 := (ltE (rfl : y6.toInt = y6.toInt) (show (0 : Int32).toInt = 0 from by decide)).mp c30 | skip
      exact hQ _ _ hσ5 (⟨k8, k9, k10, k11, k12, k13, k14, k15, k16, k17, k18⟩) ⟨leP (rfl : y6.toInt = y6.toInt) (by omega), geP (rfl : y6.toInt = y6.toInt) (by omega)⟩
    · first | have f35 := (notltE (rfl : y6.toInt = y6.toInt) (show (0 : Int32).toInt = 0 from by decide)).mp c30 | skip
      refine ⟨inE (rfl : y6.toInt = y6.toInt) (by omega) (by omega), ?_⟩
      intro σ37 eσ37
      have hσ37 : K1 σ0 σ37 := by rw [eσ37]; exact hσ5.u (Rg1.ra_30 _ _) (fun q => absurd q.1 (by decide)) (fun q => absurd q.1 (by decide))
      exact hQ _ _ hσ37 (⟨(kq (a := 3) (b := 7) eσ37 (fun q => absurd q.1 (by decide))).trans (k8), (kq (a := 3) (b := 11) eσ37 (fun q => absurd q.1 (by decide))).trans (k9), (kq (a := 3) (b := 6) eσ37 (fun q => absurd q.1 (by decide))).trans (k10), (kq (a := 9) (b := 9) eσ37 (fun q => absurd q.1 (by decide))).trans (k11), (kq (a := 9) (b := 10) eσ37 (fun q => absurd q.1 (by decide))).trans (k12), (kq (a := 6) (b := 5) eσ37 (fun q => absurd q.1 (by decide))).trans (k13), (kq (a := 7) (b := 4) eσ37 (fun q => absurd q.1 (by decide))).trans (k14), (kq (a := 2) (b := 4) eσ37 (fun q => absurd q.1 (by decide))).trans (k15), (kq (a := 2) (b := 5) eσ37 (fun q => absurd q.1 (by decide))).trans (k16), (kq (a := 2) (b := 6) eσ37 (fun q => absurd q.1 (by decide))).trans (k17), (kq (a := 3) (b := 8) eσ37 (fun q => absurd q.1 (by decide))).trans (k18)⟩) ⟨leP (rfl : y6.toInt = y6.toInt) (by omega), geP (rfl : y6.toInt = y6.toInt) (by omega)⟩
  · have f39 := K1.g_9_9 hσ5
    have f40 := congrArg Int32.toInt k11
    have f41 := K1.g_9_9 hσ
    first | have f43 := (notleE (rfl : (σ5.1 9 9).toInt = (σ5.1 9 9).toInt) (rfl : y7.toInt = y7.toInt)).mp c24 | skip
    have g45 : vp_in y7 121 := inE (rfl : y7.toInt = y7.toInt) (by omega) (by omega)
    refine ⟨g45, ?_⟩
    refine ⟨fun c46 => ?_, fun c46 => ?_⟩
    · have f47 := tB (σ5.1 30 y7.toNatClampNeg)
      first | have f48 := (eqE (rfl : (σ5.1 30 y7.toNatClampNeg).toInt = (σ5.1 30 y7.toNatClampNeg).toInt) (show (0 : Int32).toInt = 0 from by decide)).mp c46 | skip
      refine ⟨fun c49 => ?_, fun c49 => ?_⟩
      · first | have f51 := (ltE (rfl : y6.toInt = y6.toInt) (show (0 : Int32).toInt = 0 from by decide)).mp c49 | skip
        unfold fX0_takeLeast_j40
        unfold fX0_takeLeast_j42
        intro v52 ev52
        have f54 := tB v52
        first | have f56 : v52.toInt = (y7.toInt + (1)) := (congrArg Int32.toInt ev52).trans (aOkE (rfl : y7.toInt = y7.toInt) (show (1 : Int32).toInt = 1 from by decide) (by omega) (by omega)) | skip
        exact ih4 y7 v52 σ5 ⟨hσ5, k8, k9, k10, k11, k12, k13, k14, k15, k16, k17, k18, by omega, by omega, by omega⟩ (by (try dsimp only); omega)
      · first | have f58 := (notltE (rfl : y6.toInt = y6.toInt) (show (0 : Int32).toInt = 0 from by decide)).mp c49 | skip
        have g60 : vp_in y7 121 := inE (rfl : y7.toInt = y7.toInt) (by omega) (by omega)
        refine ⟨g60, ?_⟩
        have g62 : vp_in y6 121 := inE (rfl : y6.toInt = y6.toInt) (by omega) (by omega)
        refine ⟨g62, ?_⟩
        refine ⟨fun c63 => ?_, fun c63 => ?_⟩
        · have f64 := tB (σ5.1 29 y6.toNatClampNeg)
          have f65 := tB (σ5.1 29 y7.toNatClampNeg)
          first | have f66 := (leE (rfl : (σ5.1 29 y6.toNatClampNeg).toInt = (σ5.1 29 y6.toNatClampNeg).toInt) (rfl : (σ5.1 29 y7.toNatClampNeg).toInt = (σ5.1 29 y7.toNatClampNeg).toInt)).mp c63 | skip
          unfold fX0_takeLeast_j42
          intro v67 ev67
          have f69 := tB v67
          first | have f71 : v67.toInt = (y7.toInt + (1)) := (congrArg Int32.toInt ev67).trans (aOkE (rfl : y7.toInt = y7.toInt) (show (1 : Int32).toInt = 1 from by decide) (by omega) (by omega)) | skip
          exact ih4 y6 v67 σ5 ⟨hσ5, k8, k9, k10, k11, k12, k13, k14, k15, k16, k17, k18, by omega, by omega, by omega⟩ (by (try dsimp only); omega)
        · have f72 := tB (σ5.1 29 y6.toNatClampNeg)
          have f73 := tB (σ5.1 29 y7.toNatClampNeg)
          first | have f74 := (notleE (rfl : (σ5.1 29 y6.toNatClampNeg).toInt = (σ5.1 29 y6.toNatClampNeg).toInt) (rfl : (σ5.1 29 y7.toNatClampNeg).toInt = (σ5.1 29 y7.toNatClampNeg).toInt)).mp c63 | skip
          unfold fX0_takeLeast_j40
          unfold fX0_takeLeast_j42
          intro v75 ev75
          have f77 := tB v75
          first | have f79 : v75.toInt = (y7.toInt + (1)) := (congrArg Int32.toInt ev75).trans (aOkE (rfl : y7.toInt = y7.toInt) (show (1 : Int32).toInt = 1 from by decide) (by omega) (by omega)) | skip
          exact ih4 y7 v75 σ5 ⟨hσ5, k8, k9, k10, k11, k12, k13, k14, k15, k16, k17, k18, by omega, by omega, by omega⟩ (by (try dsimp only); omega)
    · have f80 := tB (σ5.1 30 y7.toNatClampNeg)
      first | have f81 := (noteqE (rfl : (σ5.1 30 y7.toNatClampNeg).toInt = (σ5.1 30 y7.toNatClampNeg).toInt) (show (0 : Int32).toInt = 0 from by decide)).mp c46 | skip
      unfold fX0_takeLeast_j42
      intro v82 ev82
      have f84 := tB v82
      first | have f86 : v82.toInt = (y7.toInt + (1)) := (congrArg Int32.toInt ev82).trans (aOkE (rfl : y7.toInt = y7.toInt) (show (1 : Int32).toInt = 1 from by decide) (by omega) (by omega)) | skip
      exact ih4 y6 v82 σ5 ⟨hσ5, k8, k9, k10, k11, k12, k13, k14, k15, k16, k17, k18, by omega, by omega, by omega⟩ (by (try dsimp only); omega)
set_option maxHeartbeats 4000000 in
theorem sX0_joinAll {N : Nat} (hN : 4294967400 ≤ N) {Q : St → Prop} {σ0 σ : St} (hσ : K1 σ0 σ) (hQ : ∀ τ : St, K1 σ0 τ → (τ.1 3 7 = σ.1 3 7 ∧ τ.1 3 11 = σ.1 3 11 ∧ τ.1 3 6 = σ.1 3 6 ∧ τ.1 9 10 = σ.1 9 10 ∧ τ.1 6 5 = σ.1 6 5 ∧ τ.1 7 4 = σ.1 7 4 ∧ τ.1 2 4 = σ.1 2 4 ∧ τ.1 2 5 = σ.1 2 5 ∧ τ.1 2 6 = σ.1 2 6 ∧ τ.1 3 8 = σ.1 3 8) → Q τ) : fX0_joinAll N  Q σ := by
  unfold fX0_joinAll
  intro v1 ev1
  have f3 := tB v1
  have f4 := K1.g_9_10 hσ
  first | have f5 : v1.toInt = (σ.1 9 10).toInt := (congrArg Int32.toInt ev1).trans (rfl : (σ.1 9 10).toInt = (σ.1 9 10).toInt) | skip
  refine lo1_i (fun (y2 : Int32) (τ : St) => K1 σ0 τ ∧ τ.1 3 7 = σ.1 3 7 ∧ τ.1 3 11 = σ.1 3 11 ∧ τ.1 3 6 = σ.1 3 6 ∧ τ.1 9 10 = σ.1 9 10 ∧ τ.1 6 5 = σ.1 6 5 ∧ τ.1 7 4 = σ.1 7 4 ∧ τ.1 2 4 = σ.1 2 4 ∧ τ.1 2 5 = σ.1 2 5 ∧ τ.1 2 6 = σ.1 2 6 ∧ τ.1 3 8 = σ.1 3 8 ∧ 0 ≤ y2.toInt) (fun (y2 : Int32) (τ : St) => (y2.toInt + 2147483649).toNat) ?_ N v1 σ ⟨hσ, rfl, rfl, rfl, rfl, rfl, rfl, rfl, rfl, rfl, rfl, by first | decide | (omega)⟩ (by (try dsimp only); omega)
  intro rr6 y9 σ8 hIσ8 ih7
  obtain ⟨hσ8, k10, k11, k12, k13, k14, k15, k16, k17, k18, k19, i20⟩ := hIσ8
  unfold fX0_joinAll_l5
  have f21 := tB y9
  refine ⟨fun c22 => ?_, fun c22 => ?_⟩
  · first | have f24 := (ltE (rfl : y9.toInt = y9.toInt) (show (2 : Int32).toInt = 2 from by decide)).mp c22 | skip
    exact hQ _ hσ8 (⟨k10, k11, k12, k13, k14, k15, k16, k17, k18, k19⟩)
  · first | have f26 := (notltE (rfl : y9.toInt = y9.toInt) (show (2 : Int32).toInt = 2 from by decide)).mp c22 | skip
    refine ⟨fun c27 => ?_, fun c27 => ?_⟩
    · have f28 := K1.g_9_9 hσ8
      first | have f29 := (leE (show (121 : Int32).toInt = 121 from by decide) (rfl : (σ8.1 9 9).toInt = (σ8.1 9 9).toInt)).mp c27 | skip
      exact hQ _ hσ8 (⟨k10, k11, k12, k13, k14, k15, k16, k17, k18, k19⟩)
    · have f30 := K1.g_9_9 hσ8
      first | have f31 := (notleE (show (121 : Int32).toInt = 121 from by decide) (rfl : (σ8.1 9 9).toInt = (σ8.1 9 9).toInt)).mp c27 | skip
      refine sX0_takeLeast hN hσ8 (fun r45 σ32 hσ32 kk44 p46 => ?_)
      obtain ⟨k33, k34, k35, k36, k37, k38, k39, k40, k41, k42, k43⟩ := kk44
      refine sX0_takeLeast hN hσ32 (fun r60 σ47 hσ47 kk59 p61 => ?_)
      obtain ⟨k48, k49, k50, k51, k52, k53, k54, k55, k56, k57, k58⟩ := kk59
      refine ⟨fun c62 => ?_, fun c62 => ?_⟩
      · have f63 := tB r45
        first | have f64 := (ltE (rfl : r45.toInt = r45.toInt) (show (0 : Int32).toInt = 0 from by decide)).mp c62 | skip
        exact hQ _ hσ47 (⟨k48.trans (k33.trans (k10)), k49.trans (k34.trans (k11)), k50.trans (k35.trans (k12)), k52.trans (k37.trans (k13)), k53.trans (k38.trans (k14)), k54.trans (k39.trans (k15)), k55.trans (k40.trans (k16)), k56.trans (k41.trans (k17)), k57.trans (k42.trans (k18)), k58.trans (k43.trans (k19))⟩)
      · have f65 := tB r45
        first | have f66 := (notltE (rfl : r45.toInt = r45.toInt) (show (0 : Int32).toInt = 0 from by decide)).mp c62 | skip
        refine ⟨fun c67 => ?_, fun c67 => ?_⟩
        · have f68 := tB r60
          first | have f69 := (leE (show (0 : Int32).toInt = 0 from by decide) (rfl : r60.toInt = r60.toInt)).mp c67 | skip
          have f70 := K1.g_9_9 hσ47
          have f71 := congrArg Int32.toInt k51
          have f72 := K1.g_9_9 hσ32
          have f73 := congrArg Int32.toInt k36
          refine ⟨inE (rfl : (σ47.1 9 9).toInt = (σ47.1 9 9).toInt) (by omega) (by omega), ?_⟩
          intro σ75 eσ75
          have hσ75 : K1 σ0 σ75 := by rw [eσ75]; exact hσ47.u (Rg1.ra_31 (leP (rfl : r45.toInt = r45.toInt) (by omega)) (geP (rfl : r45.toInt = r45.toInt) (by omega))) (fun q => absurd q.1 (by decide)) (fun q => absurd q.1 (by decide))
          have f77 := K1.g_9_9 hσ75
          have q78 : σ75.1 9 9 = σ47.1 9 9 := by rw [eσ75]; exact congrFun (u1_ne (by decide)) 9
          have f79 := congrArg Int32.toInt q78
          refine ⟨inE (rfl : (σ75.1 9 9).toInt = (σ75.1 9 9).toInt) (by omega) (by omega), ?_⟩
          intro σ81 eσ81
          have hσ81 : K1 σ0 σ81 := by rw [eσ81]; exact hσ75.u (Rg1.ra_32 (leP (rfl : r60.toInt = r60.toInt) (by omega)) (geP (rfl : r60.toInt = r60.toInt) (by omega))) (fun q => absurd q.1 (by decide)) (fun q => absurd q.1 (by decide))
          have g84 : vp_in r45 121 := inE (rfl : r45.toInt = r45.toInt) (by omega) (by omega)
          refine ⟨g84, ?_⟩
          have g86 : vp_in r60 121 := inE (rfl : r60.toInt = r60.toInt) (by omega) (by omega)
          refine ⟨g86, ?_⟩
          have g88 : vp_in r45 121 := inE (rfl : r45.toInt = r45.toInt) (by omega) (by omega)
          refine ⟨g88, ?_⟩
          have g90 : vp_in r60 121 := inE (rfl : r60.toInt = r60.toInt) (by omega) (by omega)
          refine ⟨g90, ?_⟩
          unfold fX0_addKnot
          have f91 := K1.g_9_9 hσ81
          have q92 : σ81.1 9 9 = σ75.1 9 9 := by rw [eσ81]; exact congrFun (u1_ne (by decide)) 9
          have f93 := congrArg Int32.toInt q92
          refine ⟨inE (rfl : (σ81.1 9 9).toInt = (σ81.1 9 9).toInt) (by omega) (by omega), ?_⟩
          intro σ95 eσ95
          have hσ95 : K1 σ0 σ95 := by rw [eσ95]; exact hσ81.u (Rg1.ra_29 _ _) (fun q => absurd q.1 (by decide)) (fun q => absurd q.1 (by decide))
          have f96 := K1.g_9_9 hσ95
          have q97 : σ95.1 9 9 = σ81.1 9 9 := by rw [eσ95]; exact congrFun (u1_ne (by decide)) 9
          have f98 := congrArg Int32.toInt q97
          refine ⟨inE (rfl : (σ95.1 9 9).toInt = (σ95.1 9 9).toInt) (by omega) (by omega), ?_⟩
          intro σ100 eσ100
          have hσ100 : K1 σ0 σ100 := by rw [eσ100]; exact hσ95.u (Rg1.ra_33 _ _) (fun q => absurd q.1 (by decide)) (fun q => absurd q.1 (by decide))
          have f101 := K1.g_9_9 hσ100
          have q102 : σ100.1 9 9 = σ95.1 9 9 := by rw [eσ100]; exact congrFun (u1_ne (by decide)) 9
          have f103 := congrArg Int32.toInt q102
          refine ⟨inE (rfl : (σ100.1 9 9).toInt = (σ100.1 9 9).toInt) (by omega) (by omega), ?_⟩
          intro σ105 eσ105
          have hσ105 : K1 σ0 σ105 := by rw [eσ105]; exact hσ100.u (Rg1.ra_30 _ _) (fun q => absurd q.1 (by decide)) (fun q => absurd q.1 (by decide))
          intro v106 ev106
          intro σ107 eσ107
          have f108 := tB v106
          have f109 := K1.g_9_9 hσ105
          have q110 : σ105.1 9 9 = σ100.1 9 9 := by rw [eσ105]; exact congrFun (u1_ne (by decide)) 9
          have f111 := congrArg Int32.toInt q110
          first | have f113 : v106.toInt = ((σ105.1 9 9).toInt + (1)) := (congrArg Int32.toInt ev106).trans (aOkE (rfl : (σ105.1 9 9).toInt = (σ105.1 9 9).toInt) (show (1 : Int32).toInt = 1 from by decide) (by omega) (by omega)) | skip
          have hσ107 : K1 σ0 σ107 := by rw [eσ107]; exact hσ105.u (Rg1.r_9_9 (leP (rfl : v106.toInt = v106.toInt) (by omega)) (geP (rfl : v106.toInt = v106.toInt) (by omega))) (fun q => absurd q.1 (by decide)) (fun q => absurd q.1 (by decide))
          try dsimp only
          intro v114 ev114
          have f115 := tB v114
          first | have f117 : v114.toInt = (y9.toInt + (-1)) := (congrArg Int32.toInt ev114).trans (aOkE (rfl : y9.toInt = y9.toInt) (show ((-1) : Int32).toInt = -1 from by decide) (by omega) (by omega)) | skip
          exact ih7 v114 σ107 ⟨hσ107, (kq (a := 3) (b := 7) eσ107 (fun q => absurd q.1 (by decide))).trans ((kq (a := 3) (b := 7) eσ105 (fun q => absurd q.1 (by decide))).trans ((kq (a := 3) (b := 7) eσ100 (fun q => absurd q.1 (by decide))).trans ((kq (a := 3) (b := 7) eσ95 (fun q => absurd q.1 (by decide))).trans ((kq (a := 3) (b := 7) eσ81 (fun q => absurd q.1 (by decide))).trans ((kq (a := 3) (b := 7) eσ75 (fun q => absurd q.1 (by decide))).trans (k48.trans (k33.trans (k10)))))))), (kq (a := 3) (b := 11) eσ107 (fun q => absurd q.1 (by decide))).trans ((kq (a := 3) (b := 11) eσ105 (fun q => absurd q.1 (by decide))).trans ((kq (a := 3) (b := 11) eσ100 (fun q => absurd q.1 (by decide))).trans ((kq (a := 3) (b := 11) eσ95 (fun q => absurd q.1 (by decide))).trans ((kq (a := 3) (b := 11) eσ81 (fun q => absurd q.1 (by decide))).trans ((kq (a := 3) (b := 11) eσ75 (fun q => absurd q.1 (by decide))).trans (k49.trans (k34.trans (k11)))))))), (kq (a := 3) (b := 6) eσ107 (fun q => absurd q.1 (by decide))).trans ((kq (a := 3) (b := 6) eσ105 (fun q => absurd q.1 (by decide))).trans ((kq (a := 3) (b := 6) eσ100 (fun q => absurd q.1 (by decide))).trans ((kq (a := 3) (b := 6) eσ95 (fun q => absurd q.1 (by decide))).trans ((kq (a := 3) (b := 6) eσ81 (fun q => absurd q.1 (by decide))).trans ((kq (a := 3) (b := 6) eσ75 (fun q => absurd q.1 (by decide))).trans (k50.trans (k35.trans (k12)))))))), (kq (a := 9) (b := 10) eσ107 (fun q => absurd q.2 (by decide))).trans ((kq (a := 9) (b := 10) eσ105 (fun q => absurd q.1 (by decide))).trans ((kq (a := 9) (b := 10) eσ100 (fun q => absurd q.1 (by decide))).trans ((kq (a := 9) (b := 10) eσ95 (fun q => absurd q.1 (by decide))).trans ((kq (a := 9) (b := 10) eσ81 (fun q => absurd q.1 (by decide))).trans ((kq (a := 9) (b := 10) eσ75 (fun q => absurd q.1 (by decide))).trans (k52.trans (k37.trans (k13)))))))), (kq (a := 6) (b := 5) eσ107 (fun q => absurd q.1 (by decide))).trans ((kq (a := 6) (b := 5) eσ105 (fun q => absurd q.1 (by decide))).trans ((kq (a := 6) (b := 5) eσ100 (fun q => absurd q.1 (by decide))).trans ((kq (a := 6) (b := 5) eσ95 (fun q => absurd q.1 (by decide))).trans ((kq (a := 6) (b := 5) eσ81 (fun q => absurd q.1 (by decide))).trans ((kq (a := 6) (b := 5) eσ75 (fun q => absurd q.1 (by decide))).trans (k53.trans (k38.trans (k14)))))))), (kq (a := 7) (b := 4) eσ107 (fun q => absurd q.1 (by decide))).trans ((kq (a := 7) (b := 4) eσ105 (fun q => absurd q.1 (by decide))).trans ((kq (a := 7) (b := 4) eσ100 (fun q => absurd q.1 (by decide))).trans ((kq (a := 7) (b := 4) eσ95 (fun q => absurd q.1 (by decide))).trans ((kq (a := 7) (b := 4) eσ81 (fun q => absurd q.1 (by decide))).trans ((kq (a := 7) (b := 4) eσ75 (fun q => absurd q.1 (by decide))).trans (k54.trans (k39.trans (k15)))))))), (kq (a := 2) (b := 4) eσ107 (fun q => absurd q.1 (by decide))).trans ((kq (a := 2) (b := 4) eσ105 (fun q => absurd q.1 (by decide))).trans ((kq (a := 2) (b := 4) eσ100 (fun q => absurd q.1 (by decide))).trans ((kq (a := 2) (b := 4) eσ95 (fun q => absurd q.1 (by decide))).trans ((kq (a := 2) (b := 4) eσ81 (fun q => absurd q.1 (by decide))).trans ((kq (a := 2) (b := 4) eσ75 (fun q => absurd q.1 (by decide))).trans (k55.trans (k40.trans (k16)))))))), (kq (a := 2) (b := 5) eσ107 (fun q => absurd q.1 (by decide))).trans ((kq (a := 2) (b := 5) eσ105 (fun q => absurd q.1 (by decide))).trans ((kq (a := 2) (b := 5) eσ100 (fun q => absurd q.1 (by decide))).trans ((kq (a := 2) (b := 5) eσ95 (fun q => absurd q.1 (by decide))).trans ((kq (a := 2) (b := 5) eσ81 (fun q => absurd q.1 (by decide))).trans ((kq (a := 2) (b := 5) eσ75 (fun q => absurd q.1 (by decide))).trans (k56.trans (k41.trans (k17)))))))), (kq (a := 2) (b := 6) eσ107 (fun q => absurd q.1 (by decide))).trans ((kq (a := 2) (b := 6) eσ105 (fun q => absurd q.1 (by decide))).trans ((kq (a := 2) (b := 6) eσ100 (fun q => absurd q.1 (by decide))).trans ((kq (a := 2) (b := 6) eσ95 (fun q => absurd q.1 (by decide))).trans ((kq (a := 2) (b := 6) eσ81 (fun q => absurd q.1 (by decide))).trans ((kq (a := 2) (b := 6) eσ75 (fun q => absurd q.1 (by decide))).trans (k57.trans (k42.trans (k18)))))))), (kq (a := 3) (b := 8) eσ107 (fun q => absurd q.1 (by decide))).trans ((kq (a := 3) (b := 8) eσ105 (fun q => absurd q.1 (by decide))).trans ((kq (a := 3) (b := 8) eσ100 (fun q => absurd q.1 (by decide))).trans ((kq (a := 3) (b := 8) eσ95 (fun q => absurd q.1 (by decide))).trans ((kq (a := 3) (b := 8) eσ81 (fun q => absurd q.1 (by decide))).trans ((kq (a := 3) (b := 8) eσ75 (fun q => absurd q.1 (by decide))).trans (k58.trans (k43.trans (k19)))))))), by omega⟩ (by (try dsimp only); omega)
        · have f118 := tB r60
          first | have f119 := (notleE (show (0 : Int32).toInt = 0 from by decide) (rfl : r60.toInt = r60.toInt)).mp c67 | skip
          exact hQ _ hσ47 (⟨k48.trans (k33.trans (k10)), k49.trans (k34.trans (k11)), k50.trans (k35.trans (k12)), k52.trans (k37.trans (k13)), k53.trans (k38.trans (k14)), k54.trans (k39.trans (k15)), k55.trans (k40.trans (k16)), k56.trans (k41.trans (k17)), k57.trans (k42.trans (k18)), k58.trans (k43.trans (k19))⟩)
set_option maxHeartbeats 4000000 in
theorem sX5_growTree {N : Nat} (hN : 4294967400 ≤ N) {Q : St → Prop} {σ0 σ : St} (hσ : K1 σ0 σ) (hQ : ∀ τ : St, K1 σ0 τ → (τ.1 3 7 = σ.1 3 7 ∧ τ.1 3 11 = σ.1 3 11 ∧ τ.1 3 6 = σ.1 3 6 ∧ τ.1 6 5 = σ.1 6 5 ∧ τ.1 7 4 = σ.1 7 4 ∧ τ.1 2 4 = σ.1 2 4 ∧ τ.1 2 5 = σ.1 2 5 ∧ τ.1 2 6 = σ.1 2 6 ∧ τ.1 3 8 = σ.1 3 8) → Q τ) : fX5_growTree N  Q σ := by
  unfold fX5_growTree
  unfold fX0_clearLeaves
  intro σ1 eσ1
  have hσ1 : K1 σ0 σ1 := by rw [eσ1]; exact hσ.u (Rg1.r_9_9 (leP (show (0 : Int32).toInt = 0 from by decide) (by omega)) (geP (show (0 : Int32).toInt = 0 from by decide) (by omega))) (fun q => absurd q.1 (by decide)) (fun q => absurd q.1 (by decide))
  intro σ2 eσ2
  have hσ2 : K1 σ0 σ2 := by rw [eσ2]; exact hσ1.u (Rg1.r_9_10 (leP (show (0 : Int32).toInt = 0 from by decide) (by omega)) (geP (show (0 : Int32).toInt = 0 from by decide) (by omega))) (fun q => absurd q.1 (by decide)) (fun q => absurd q.1 (by decide))
  try dsimp only
  have f3 := K1.g_7_4 hσ2
  have q4 : σ2.1 7 4 = σ1.1 7 4 := by rw [eσ2]; exact congrFun (u1_ne (by decide)) 4
  have f5 := congrArg Int32.toInt q4
  have f6 := K1.g_7_4 hσ1
  have q7 : σ1.1 7 4 = σ.1 7 4 := by rw [eσ1]; exact congrFun (u1_ne (by decide)) 4
  have f8 := congrArg Int32.toInt q7
  have f9 := K1.g_7_4 hσ
  have f11 := K1.g_9_9 hσ2
  have q12 : σ2.1 9 9 = σ1.1 9 9 := by rw [eσ2, u1_at]; exact if_neg (by decide)
  have f13 := congrArg Int32.toInt q12
  have f14 := K1.g_9_9 hσ1
  have q15 : σ1.1 9 9 = 0 := by rw [eσ1, u1_at]; exact if_pos rfl
  first | have f16 : (σ1.1 9 9).toInt = (0) := (congrArg Int32.toInt q15).trans (show (0 : Int32).toInt = 0 from by decide) | skip
  refine sX0_addLeaf hN ⟨leP (show ((-1) : Int32).toInt = -1 from by decide) (by omega), geP (show ((-1) : Int32).toInt = -1 from by decide) (by omega)⟩ ⟨by omega, by omega⟩ hσ2 (fun σ10 hσ10 kk26 => ?_)
  obtain ⟨k17, k18, k19, k20, k21, k22, k23, k24, k25, sp27⟩ := kk26
  have f29 := K1.g_9_9 hσ10
  refine lo1_i (fun (y28 : Int32) (τ : St) => K1 σ0 τ ∧ τ.1 3 7 = σ10.1 3 7 ∧ τ.1 3 11 = σ10.1 3 11 ∧ τ.1 3 6 = σ10.1 3 6 ∧ τ.1 6 5 = σ10.1 6 5 ∧ τ.1 7 4 = σ10.1 7 4 ∧ τ.1 2 4 = σ10.1 2 4 ∧ τ.1 2 5 = σ10.1 2 5 ∧ τ.1 2 6 = σ10.1 2 6 ∧ τ.1 3 8 = σ10.1 3 8 ∧ 0 ≤ y28.toInt ∧ (τ.1 9 9).toInt ≤ 61) (fun (y28 : Int32) (τ : St) => (2147483648 - y28.toInt).toNat) ?_ N (0 : Int32) σ10 ⟨hσ10, rfl, rfl, rfl, rfl, rfl, rfl, rfl, rfl, rfl, by first | decide | (have z0 : (0 : Int32).toInt = 0 := (by decide); omega), by first | decide | (have z0 : (0 : Int32).toInt = 0 := (by decide); omega)⟩ (by have z0 : (0 : Int32).toInt = 0 := (by decide); (try dsimp only); omega)
  intro rr30 y33 σ32 hIσ32 ih31
  obtain ⟨hσ32, k34, k35, k36, k37, k38, k39, k40, k41, k42, i43, i44⟩ := hIσ32
  unfold fX5_growTree_l25
  have f45 := tB y33
  refine ⟨fun c46 => ?_, fun c46 => ?_⟩
  · have f47 := K1.g_6_5 hσ32
    have f48 := congrArg Int32.toInt k37
    have f49 := K1.g_6_5 hσ10
    have f50 := congrArg Int32.toInt k20
    have f51 := K1.g_6_5 hσ2
    have q52 : σ2.1 6 5 = σ1.1 6 5 := by rw [eσ2]; exact congrFun (u1_ne (by decide)) 5
    have f53 := congrArg Int32.toInt q52
    have f54 := K1.g_6_5 hσ1
    have q55 : σ1.1 6 5 = σ.1 6 5 := by rw [eσ1]; exact congrFun (u1_ne (by decide)) 5
    have f56 := congrArg Int32.toInt q55
    have f57 := K1.g_6_5 hσ
    first | have f59 := (leE (rfl : (σ32.1 6 5).toInt = (σ32.1 6 5).toInt) (rfl : y33.toInt = y33.toInt)).mp c46 | skip
    refine sX0_joinAll hN hσ32 (fun σ60 hσ60 kk71 => ?_)
    obtain ⟨k61, k62, k63, k64, k65, k66, k67, k68, k69, k70⟩ := kk71
    exact hQ _ hσ60 (⟨k61.trans (k34.trans (k17.trans ((kq (a := 3) (b := 7) eσ2 (fun q => absurd q.1 (by decide))).trans ((kq (a := 3) (b := 7) eσ1 (fun q => absurd q.1 (by decide))))))), k62.trans (k35.trans (k18.trans ((kq (a := 3) (b := 11) eσ2 (fun q => absurd q.1 (by decide))).trans ((kq (a := 3) (b := 11) eσ1 (fun q => absurd q.1 (by decide))))))), k63.trans (k36.trans (k19.trans ((kq (a := 3) (b := 6) eσ2 (fun q => absurd q.1 (by decide))).trans ((kq (a := 3) (b := 6) eσ1 (fun q => absurd q.1 (by decide))))))), k65.trans (k37.trans (k20.trans ((kq (a := 6) (b := 5) eσ2 (fun q => absurd q.1 (by decide))).trans ((kq (a := 6) (b := 5) eσ1 (fun q => absurd q.1 (by decide))))))), k66.trans (k38.trans (k21.trans ((kq (a := 7) (b := 4) eσ2 (fun q => absurd q.1 (by decide))).trans ((kq (a := 7) (b := 4) eσ1 (fun q => absurd q.1 (by decide))))))), k67.trans (k39.trans (k22.trans ((kq (a := 2) (b := 4) eσ2 (fun q => absurd q.1 (by decide))).trans ((kq (a := 2) (b := 4) eσ1 (fun q => absurd q.1 (by decide))))))), k68.trans (k40.trans (k23.trans ((kq (a := 2) (b := 5) eσ2 (fun q => absurd q.1 (by decide))).trans ((kq (a := 2) (b := 5) eσ1 (fun q => absurd q.1 (by decide))))))), k69.trans (k41.trans (k24.trans ((kq (a := 2) (b := 6) eσ2 (fun q => absurd q.1 (by decide))).trans ((kq (a := 2) (b := 6) eσ1 (fun q => absurd q.1 (by decide))))))), k70.trans (k42.trans (k25.trans ((kq (a := 3) (b := 8) eσ2 (fun q => absurd q.1 (by decide))).trans ((kq (a := 3) (b := 8) eσ1 (fun q => absurd q.1 (by decide)))))))⟩)
  · have f72 := K1.g_6_5 hσ32
    have f73 := congrArg Int32.toInt k37
    have f74 := K1.g_6_5 hσ10
    have f75 := congrArg Int32.toInt k20
    have f76 := K1.g_6_5 hσ2
    have q77 : σ2.1 6 5 = σ1.1 6 5 := by rw [eσ2]; exact congrFun (u1_ne (by decide)) 5
    have f78 := congrArg Int32.toInt q77
    have f79 := K1.g_6_5 hσ1
    have q80 : σ1.1 6 5 = σ.1 6 5 := by rw [eσ1]; exact congrFun (u1_ne (by decide)) 5
    have f81 := congrArg Int32.toInt q80
    have f82 := K1.g_6_5 hσ
    first | have f84 := (notleE (rfl : (σ32.1 6 5).toInt = (σ32.1 6 5).toInt) (rfl : y33.toInt = y33.toInt)).mp c46 | skip
    have g86 : vp_in y33 60 := inE (rfl : y33.toInt = y33.toInt) (by omega) (by omega)
    refine ⟨g86, ?_⟩
    refine ⟨fun c87 => ?_, fun c87 => ?_⟩
    · have f88 := tB (σ32.1 41 y33.toNatClampNeg)
      first | have f89 := (leE (rfl : (σ32.1 41 y33.toNatClampNeg).toInt = (σ32.1 41 y33.toNatClampNeg).toInt) (show (0 : Int32).toInt = 0 from by decide)).mp c87 | skip
      unfold fX5_growTree_j80
      intro v90 ev90
      have f91 := tB v90
      first | have f93 : v90.toInt = (y33.toInt + (1)) := (congrArg Int32.toInt ev90).trans (aOkE (rfl : y33.toInt = y33.toInt) (show (1 : Int32).toInt = 1 from by decide) (by omega) (by omega)) | skip
      have f94 := K1.g_9_9 hσ32
      exact ih31 v90 σ32 ⟨hσ32, k34, k35, k36, k37, k38, k39, k40, k41, k42, by omega, by omega⟩ (by (try dsimp only); omega)
    · have f95 := tB (σ32.1 41 y33.toNatClampNeg)
      first | have f96 := (notleE (rfl : (σ32.1 41 y33.toNatClampNeg).toInt = (σ32.1 41 y33.toNatClampNeg).toInt) (show (0 : Int32).toInt = 0 from by decide)).mp c87 | skip
      intro v97 ev97
      refine ⟨inE (rfl : y33.toInt = y33.toInt) (by omega) (by omega), ?_⟩
      intro σ99 eσ99
      have f100 := tB v97
      have f101 := K1.g_9_9 hσ32
      first | have f102 : v97.toInt = (σ32.1 9 9).toInt := (congrArg Int32.toInt ev97).trans (rfl : (σ32.1 9 9).toInt = (σ32.1 9 9).toInt) | skip
      have hσ99 : K1 σ0 σ99 := by rw [eσ99]; exact hσ32.u (Rg1.ra_42 (leP (rfl : v97.toInt = v97.toInt) (by omega)) (geP (rfl : v97.toInt = v97.toInt) (by omega))) (fun q => absurd q.1 (by decide)) (fun q => absurd q.1 (by decide))
      have g104 : vp_in y33 60 := inE (rfl : y33.toInt = y33.toInt) (by omega) (by omega)
      refine ⟨g104, ?_⟩
      refine sX7_nodeSize hN ⟨leP (rfl : y33.toInt = y33.toInt) (by omega), geP (rfl : y33.toInt = y33.toInt) (by omega)⟩ hσ99 (fun r119 p120 => ?_)
      have f122 := tB (σ99.1 41 y33.toNatClampNeg)
      have q123 : σ99.1 41 y33.toNatClampNeg = σ32.1 41 y33.toNatClampNeg := by rw [eσ99]; exact congrFun (u1_ne (by decide)) _
      have f124 := congrArg Int32.toInt q123
      have f126 := tB r119
      have f128 := K1.g_9_9 hσ99
      have q129 : σ99.1 9 9 = σ32.1 9 9 := by rw [eσ99]; exact congrFun (u1_ne (by decide)) 9
      have f130 := congrArg Int32.toInt q129
      refine sX0_addLeaf hN ⟨leP (rfl : y33.toInt = y33.toInt) (by omega), geP (rfl : y33.toInt = y33.toInt) (by omega)⟩ ⟨by omega, by omega⟩ hσ99 (fun σ127 hσ127 kk141 => ?_)
      obtain ⟨k132, k133, k134, k135, k136, k137, k138, k139, k140, sp142⟩ := kk141
      unfold fX5_growTree_j80
      intro v143 ev143
      have f144 := tB v143
      first | have f146 : v143.toInt = (y33.toInt + (1)) := (congrArg Int32.toInt ev143).trans (aOkE (rfl : y33.toInt = y33.toInt) (show (1 : Int32).toInt = 1 from by decide) (by omega) (by omega)) | skip
      have f147 := K1.g_9_9 hσ127
      exact ih31 v143 σ127 ⟨hσ127, k132.trans ((kq (a := 3) (b := 7) eσ99 (fun q => absurd q.1 (by decide))).trans (k34)), k133.trans ((kq (a := 3) (b := 11) eσ99 (fun q => absurd q.1 (by decide))).trans (k35)), k134.trans ((kq (a := 3) (b := 6) eσ99 (fun q => absurd q.1 (by decide))).trans (k36)), k135.trans ((kq (a := 6) (b := 5) eσ99 (fun q => absurd q.1 (by decide))).trans (k37)), k136.trans ((kq (a := 7) (b := 4) eσ99 (fun q => absurd q.1 (by decide))).trans (k38)), k137.trans ((kq (a := 2) (b := 4) eσ99 (fun q => absurd q.1 (by decide))).trans (k39)), k138.trans ((kq (a := 2) (b := 5) eσ99 (fun q => absurd q.1 (by decide))).trans (k40)), k139.trans ((kq (a := 2) (b := 6) eσ99 (fun q => absurd q.1 (by decide))).trans (k41)), k140.trans ((kq (a := 3) (b := 8) eσ99 (fun q => absurd q.1 (by decide))).trans (k42)), by omega, by omega⟩ (by (try dsimp only); omega)
set_option maxHeartbeats 4000000 in
theorem sX0_spread {N : Nat} (hN : 4294967400 ≤ N) {x1 : Int32} {Q : St → Prop} {σ0 σ : St} (hσ : K1 σ0 σ) (hQ : ∀ τ : St, K1 σ0 τ → (τ.1 3 7 = σ.1 3 7 ∧ τ.1 3 11 = σ.1 3 11 ∧ τ.1 3 6 = σ.1 3 6 ∧ τ.1 9 9 = σ.1 9 9 ∧ τ.1 9 10 = σ.1 9 10 ∧ τ.1 6 5 = σ.1 6 5 ∧ τ.1 7 4 = σ.1 7 4 ∧ τ.1 2 4 = σ.1 2 4 ∧ τ.1 2 5 = σ.1 2 5 ∧ τ.1 2 6 = σ.1 2 6 ∧ τ.1 3 8 = σ.1 3 8) → Q τ) : fX0_spread N x1 Q σ := by
  unfold fX0_spread
  refine ⟨fun c1 => ?_, fun c1 => ?_⟩
  · have f2 := K1.g_9_9 hσ
    first | have f3 := (eqE (rfl : (σ.1 9 9).toInt = (σ.1 9 9).toInt) (show (0 : Int32).toInt = 0 from by decide)).mp c1 | skip
    exact hQ _ hσ (⟨rfl, rfl, rfl, rfl, rfl, rfl, rfl, rfl, rfl, rfl, rfl⟩)
  · have f4 := K1.g_9_9 hσ
    first | have f5 := (noteqE (rfl : (σ.1 9 9).toInt = (σ.1 9 9).toInt) (show (0 : Int32).toInt = 0 from by decide)).mp c1 | skip
    intro v6 ev6
    intro v7 ev7
    have f8 := tB v6
    first | have f10 : v6.toInt = ((σ.1 9 9).toInt - (1)) := (congrArg Int32.toInt ev6).trans (sOkE (rfl : (σ.1 9 9).toInt = (σ.1 9 9).toInt) (show (1 : Int32).toInt = 1 from by decide) (by omega) (by omega)) | skip
    refine ⟨inE (rfl : v6.toInt = v6.toInt) (by omega) (by omega), ?_⟩
    intro σ11 eσ11
    have hσ11 : K1 σ0 σ11 := by rw [eσ11]; exact hσ.u (Rg1.ra_35 _ _) (fun q => absurd q.1 (by decide)) (fun q => absurd q.1 (by decide))
    refine ⟨inE (rfl : v6.toInt = v6.toInt) (by omega) (by omega), ?_⟩
    intro σ13 eσ13
    have hσ13 : K1 σ0 σ13 := by rw [eσ13]; exact hσ11.u (Rg1.ra_36 _ _) (fun q => absurd q.1 (by decide)) (fun q => absurd q.1 (by decide))
    refine ⟨inE (rfl : v6.toInt = v6.toInt) (by omega) (by omega), ?_⟩
    intro σ15 eσ15
    have hσ15 : K1 σ0 σ15 := by rw [eσ15]; exact hσ13.l
    refine lo1_i (fun (y16 : Int32) (τ : St) => K1 σ0 τ ∧ τ.1 3 7 = σ15.1 3 7 ∧ τ.1 3 11 = σ15.1 3 11 ∧ τ.1 3 6 = σ15.1 3 6 ∧ τ.1 9 9 = σ15.1 9 9 ∧ τ.1 9 10 = σ15.1 9 10 ∧ τ.1 6 5 = σ15.1 6 5 ∧ τ.1 7 4 = σ15.1 7 4 ∧ τ.1 2 4 = σ15.1 2 4 ∧ τ.1 2 5 = σ15.1 2 5 ∧ τ.1 2 6 = σ15.1 2 6 ∧ τ.1 3 8 = σ15.1 3 8 ∧ -1 ≤ y16.toInt ∧ y16.toInt ≤ 120) (fun (y16 : Int32) (τ : St) => (y16.toInt + 2147483649).toNat) ?_ N v6 σ15 ⟨hσ15, rfl, rfl, rfl, rfl, rfl, rfl, rfl, rfl, rfl, rfl, rfl, by first | decide | (omega), by first | decide | (omega)⟩ (by (try dsimp only); omega)
    intro rr18 y21 σ20 hIσ20 ih19
    obtain ⟨hσ20, k22, k23, k24, k25, k26, k27, k28, k29, k30, k31, k32, i33, i34⟩ := hIσ20
    unfold fX0_spread_l41
    have f35 := tB y21
    refine ⟨fun c36 => ?_, fun c36 => ?_⟩
    · have f38 := K1.g_9_10 hσ20
      have f39 := congrArg Int32.toInt k26
      have f40 := K1.g_9_10 hσ15
      first | have f41 := (ltE (rfl : y21.toInt = y21.toInt) (rfl : (σ20.1 9 10).toInt = (σ20.1 9 10).toInt)).mp c36 | skip
      exact hQ _ hσ20 (⟨k22.trans ((kq2 (a := 3) (b := 7) eσ15).trans ((kq (a := 3) (b := 7) eσ13 (fun q => absurd q.1 (by decide))).trans ((kq (a := 3) (b := 7) eσ11 (fun q => absurd q.1 (by decide)))))), k23.trans ((kq2 (a := 3) (b := 11) eσ15).trans ((kq (a := 3) (b := 11) eσ13 (fun q => absurd q.1 (by decide))).trans ((kq (a := 3) (b := 11) eσ11 (fun q => absurd q.1 (by decide)))))), k24.trans ((kq2 (a := 3) (b := 6) eσ15).trans ((kq (a := 3) (b := 6) eσ13 (fun q => absurd q.1 (by decide))).trans ((kq (a := 3) (b := 6) eσ11 (fun q => absurd q.1 (by decide)))))), k25.trans ((kq2 (a := 9) (b := 9) eσ15).trans ((kq (a := 9) (b := 9) eσ13 (fun q => absurd q.1 (by decide))).trans ((kq (a := 9) (b := 9) eσ11 (fun q => absurd q.1 (by decide)))))), k26.trans ((kq2 (a := 9) (b := 10) eσ15).trans ((kq (a := 9) (b := 10) eσ13 (fun q => absurd q.1 (by decide))).trans ((kq (a := 9) (b := 10) eσ11 (fun q => absurd q.1 (by decide)))))), k27.trans ((kq2 (a := 6) (b := 5) eσ15).trans ((kq (a := 6) (b := 5) eσ13 (fun q => absurd q.1 (by decide))).trans ((kq (a := 6) (b := 5) eσ11 (fun q => absurd q.1 (by decide)))))), k28.trans ((kq2 (a := 7) (b := 4) eσ15).trans ((kq (a := 7) (b := 4) eσ13 (fun q => absurd q.1 (by decide))).trans ((kq (a := 7) (b := 4) eσ11 (fun q => absurd q.1 (by decide)))))), k29.trans ((kq2 (a := 2) (b := 4) eσ15).trans ((kq (a := 2) (b := 4) eσ13 (fun q => absurd q.1 (by decide))).trans ((kq (a := 2) (b := 4) eσ11 (fun q => absurd q.1 (by decide)))))), k30.trans ((kq2 (a := 2) (b := 5) eσ15).trans ((kq (a := 2) (b := 5) eσ13 (fun q => absurd q.1 (by decide))).trans ((kq (a := 2) (b := 5) eσ11 (fun q => absurd q.1 (by decide)))))), k31.trans ((kq2 (a := 2) (b := 6) eσ15).trans ((kq (a := 2) (b := 6) eσ13 (fun q => absurd q.1 (by decide))).trans ((kq (a := 2) (b := 6) eσ11 (fun q => absurd q.1 (by decide)))))), k32.trans ((kq2 (a := 3) (b := 8) eσ15).trans ((kq (a := 3) (b := 8) eσ13 (fun q => absurd q.1 (by decide))).trans ((kq (a := 3) (b := 8) eσ11 (fun q => absurd q.1 (by decide))))))⟩)
    · have f43 := K1.g_9_10 hσ20
      have f44 := congrArg Int32.toInt k26
      have f45 := K1.g_9_10 hσ15
      first | have f46 := (notltE (rfl : y21.toInt = y21.toInt) (rfl : (σ20.1 9 10).toInt = (σ20.1 9 10).toInt)).mp c36 | skip
      have g48 : vp_in y21 121 := inE (rfl : y21.toInt = y21.toInt) (by omega) (by omega)
      refine ⟨g48, ?_⟩
      intro v49 ev49
      have g51 : vp_in y21 121 := inE (rfl : y21.toInt = y21.toInt) (by omega) (by omega)
      refine ⟨g51, ?_⟩
      intro v52 ev52
      have g54 : vp_in y21 121 := inE (rfl : y21.toInt = y21.toInt) (by omega) (by omega)
      refine ⟨g54, ?_⟩
      intro v55 ev55
      have f56 := tB v49
      have f57 := K1.ga_31 hσ20 y21.toNatClampNeg
      first | have f58 : v49.toInt = (σ20.1 31 y21.toNatClampNeg).toInt := (congrArg Int32.toInt ev49).trans (rfl : (σ20.1 31 y21.toNatClampNeg).toInt = (σ20.1 31 y21.toNatClampNeg).toInt) | skip
      refine ⟨inE (rfl : v49.toInt = v49.toInt) (by omega) (by omega), ?_⟩
      intro σ59 eσ59
      have hσ59 : K1 σ0 σ59 := by rw [eσ59]; exact hσ20.u (Rg1.ra_35 _ _) (fun q => absurd q.1 (by decide)) (fun q => absurd q.1 (by decide))
      have g61 : vp_in v49 121 := inE (rfl : v49.toInt = v49.toInt) (by omega) (by omega)
      refine ⟨g61, ?_⟩
      have g63 : vp_in v49 121 := inE (rfl : v49.toInt = v49.toInt) (by omega) (by omega)
      refine ⟨g63, ?_⟩
      intro v64 ev64
      have f65 := tB v52
      have f66 := K1.ga_32 hσ20 y21.toNatClampNeg
      first | have f67 : v52.toInt = (σ20.1 32 y21.toNatClampNeg).toInt := (congrArg Int32.toInt ev52).trans (rfl : (σ20.1 32 y21.toNatClampNeg).toInt = (σ20.1 32 y21.toNatClampNeg).toInt) | skip
      refine ⟨inE (rfl : v52.toInt = v52.toInt) (by omega) (by omega), ?_⟩
      intro σ68 eσ68
      have hσ68 : K1 σ0 σ68 := by rw [eσ68]; exact hσ59.u (Rg1.ra_35 _ _) (fun q => absurd q.1 (by decide)) (fun q => absurd q.1 (by decide))
      have g70 : vp_in y21 121 := inE (rfl : y21.toInt = y21.toInt) (by omega) (by omega)
      refine ⟨g70, ?_⟩
      intro v71 ev71
      refine ⟨inE (rfl : v49.toInt = v49.toInt) (by omega) (by omega), ?_⟩
      intro σ73 eσ73
      have hσ73 : K1 σ0 σ73 := by rw [eσ73]; exact hσ68.u (Rg1.ra_36 _ _) (fun q => absurd q.1 (by decide)) (fun q => absurd q.1 (by decide))
      have g75 : vp_in y21 121 := inE (rfl : y21.toInt = y21.toInt) (by omega) (by omega)
      refine ⟨g75, ?_⟩
      intro v76 ev76
      refine ⟨inE (rfl : v52.toInt = v52.toInt) (by omega) (by omega), ?_⟩
      intro σ78 eσ78
      have hσ78 : K1 σ0 σ78 := by rw [eσ78]; exact hσ73.u (Rg1.ra_36 _ _) (fun q => absurd q.1 (by decide)) (fun q => absurd q.1 (by decide))
      have g80 : vp_in y21 121 := inE (rfl : y21.toInt = y21.toInt) (by omega) (by omega)
      refine ⟨g80, ?_⟩
      intro v81 ev81
      refine ⟨inE (rfl : v49.toInt = v49.toInt) (by omega) (by omega), ?_⟩
      intro σ83 eσ83
      have hσ83 : K1 σ0 σ83 := by rw [eσ83]; exact hσ78.l
      have g85 : vp_in y21 121 := inE (rfl : y21.toInt = y21.toInt) (by omega) (by omega)
      refine ⟨g85, ?_⟩
      have g87 : vp_in y21 121 := inE (rfl : y21.toInt = y21.toInt) (by omega) (by omega)
      refine ⟨g87, ?_⟩
      intro v88 ev88
      refine ⟨inE (rfl : v52.toInt = v52.toInt) (by omega) (by omega), ?_⟩
      intro σ90 eσ90
      have hσ90 : K1 σ0 σ90 := by rw [eσ90]; exact hσ83.l
      intro v91 ev91
      have f92 := tB v91
      first | have f94 : v91.toInt = (y21.toInt + (-1)) := (congrArg Int32.toInt ev91).trans (aOkE (rfl : y21.toInt = y21.toInt) (show ((-1) : Int32).toInt = -1 from by decide) (by omega) (by omega)) | skip
      exact ih19 v91 σ90 ⟨hσ90, (kq2 (a := 3) (b := 7) eσ90).trans ((kq2 (a := 3) (b := 7) eσ83).trans ((kq (a := 3) (b := 7) eσ78 (fun q => absurd q.1 (by decide))).trans ((kq (a := 3) (b := 7) eσ73 (fun q => absurd q.1 (by decide))).trans ((kq (a := 3) (b := 7) eσ68 (fun q => absurd q.1 (by decide))).trans ((kq (a := 3) (b := 7) eσ59 (fun q => absurd q.1 (by decide))).trans (k22)))))), (kq2 (a := 3) (b := 11) eσ90).trans ((kq2 (a := 3) (b := 11) eσ83).trans ((kq (a := 3) (b := 11) eσ78 (fun q => absurd q.1 (by decide))).trans ((kq (a := 3) (b := 11) eσ73 (fun q => absurd q.1 (by decide))).trans ((kq (a := 3) (b := 11) eσ68 (fun q => absurd q.1 (by decide))).trans ((kq (a := 3) (b := 11) eσ59 (fun q => absurd q.1 (by decide))).trans (k23)))))), (kq2 (a := 3) (b := 6) eσ90).trans ((kq2 (a := 3) (b := 6) eσ83).trans ((kq (a := 3) (b := 6) eσ78 (fun q => absurd q.1 (by decide))).trans ((kq (a := 3) (b := 6) eσ73 (fun q => absurd q.1 (by decide))).trans ((kq (a := 3) (b := 6) eσ68 (fun q => absurd q.1 (by decide))).trans ((kq (a := 3) (b := 6) eσ59 (fun q => absurd q.1 (by decide))).trans (k24)))))), (kq2 (a := 9) (b := 9) eσ90).trans ((kq2 (a := 9) (b := 9) eσ83).trans ((kq (a := 9) (b := 9) eσ78 (fun q => absurd q.1 (by decide))).trans ((kq (a := 9) (b := 9) eσ73 (fun q => absurd q.1 (by decide))).trans ((kq (a := 9) (b := 9) eσ68 (fun q => absurd q.1 (by decide))).trans ((kq (a := 9) (b := 9) eσ59 (fun q => absurd q.1 (by decide))).trans (k25)))))), (kq2 (a := 9) (b := 10) eσ90).trans ((kq2 (a := 9) (b := 10) eσ83).trans ((kq (a := 9) (b := 10) eσ78 (fun q => absurd q.1 (by decide))).trans ((kq (a := 9) (b := 10) eσ73 (fun q => absurd q.1 (by decide))).trans ((kq (a := 9) (b := 10) eσ68 (fun q => absurd q.1 (by decide))).trans ((kq (a := 9) (b := 10) eσ59 (fun q => absurd q.1 (by decide))).trans (k26)))))), (kq2 (a := 6) (b := 5) eσ90).trans ((kq2 (a := 6) (b := 5) eσ83).trans ((kq (a := 6) (b := 5) eσ78 (fun q => absurd q.1 (by decide))).trans ((kq (a := 6) (b := 5) eσ73 (fun q => absurd q.1 (by decide))).trans ((kq (a := 6) (b := 5) eσ68 (fun q => absurd q.1 (by decide))).trans ((kq (a := 6) (b := 5) eσ59 (fun q => absurd q.1 (by decide))).trans (k27)))))), (kq2 (a := 7) (b := 4) eσ90).trans ((kq2 (a := 7) (b := 4) eσ83).trans ((kq (a := 7) (b := 4) eσ78 (fun q => absurd q.1 (by decide))).trans ((kq (a := 7) (b := 4) eσ73 (fun q => absurd q.1 (by decide))).trans ((kq (a := 7) (b := 4) eσ68 (fun q => absurd q.1 (by decide))).trans ((kq (a := 7) (b := 4) eσ59 (fun q => absurd q.1 (by decide))).trans (k28)))))), (kq2 (a := 2) (b := 4) eσ90).trans ((kq2 (a := 2) (b := 4) eσ83).trans ((kq (a := 2) (b := 4) eσ78 (fun q => absurd q.1 (by decide))).trans ((kq (a := 2) (b := 4) eσ73 (fun q => absurd q.1 (by decide))).trans ((kq (a := 2) (b := 4) eσ68 (fun q => absurd q.1 (by decide))).trans ((kq (a := 2) (b := 4) eσ59 (fun q => absurd q.1 (by decide))).trans (k29)))))), (kq2 (a := 2) (b := 5) eσ90).trans ((kq2 (a := 2) (b := 5) eσ83).trans ((kq (a := 2) (b := 5) eσ78 (fun q => absurd q.1 (by decide))).trans ((kq (a := 2) (b := 5) eσ73 (fun q => absurd q.1 (by decide))).trans ((kq (a := 2) (b := 5) eσ68 (fun q => absurd q.1 (by decide))).trans ((kq (a := 2) (b := 5) eσ59 (fun q => absurd q.1 (by decide))).trans (k30)))))), (kq2 (a := 2) (b := 6) eσ90).trans ((kq2 (a := 2) (b := 6) eσ83).trans ((kq (a := 2) (b := 6) eσ78 (fun q => absurd q.1 (by decide))).trans ((kq (a := 2) (b := 6) eσ73 (fun q => absurd q.1 (by decide))).trans ((kq (a := 2) (b := 6) eσ68 (fun q => absurd q.1 (by decide))).trans ((kq (a := 2) (b := 6) eσ59 (fun q => absurd q.1 (by decide))).trans (k31)))))), (kq2 (a := 3) (b := 8) eσ90).trans ((kq2 (a := 3) (b := 8) eσ83).trans ((kq (a := 3) (b := 8) eσ78 (fun q => absurd q.1 (by decide))).trans ((kq (a := 3) (b := 8) eσ73 (fun q => absurd q.1 (by decide))).trans ((kq (a := 3) (b := 8) eσ68 (fun q => absurd q.1 (by decide))).trans ((kq (a := 3) (b := 8) eσ59 (fun q => absurd q.1 (by decide))).trans (k32)))))), by omega, by omega⟩ (by (try dsimp only); omega)
set_option maxHeartbeats 4000000 in
theorem sX0_size {N : Nat} (hN : 4294967400 ≤ N) {Q : Int32 → St → Prop} {σ0 σ : St} (hσ : K1 σ0 σ) (hQ : ∀ r : Int32, True → Q r σ) : fX0_size N  Q σ := by
  unfold fX0_size
  refine ⟨fun c1 => ?_, fun c1 => ?_⟩
  · have f2 := K1.g_9_9 hσ
    first | have f3 := (leE (rfl : (σ.1 9 9).toInt = (σ.1 9 9).toInt) (show (0 : Int32).toInt = 0 from by decide)).mp c1 | skip
    exact hQ _ trivial
  · have f4 := K1.g_9_9 hσ
    first | have f5 := (notleE (rfl : (σ.1 9 9).toInt = (σ.1 9 9).toInt) (show (0 : Int32).toInt = 0 from by decide)).mp c1 | skip
    have g7 : vp_in ((σ.1 9 9) - 1) 121 := inE (sOkE (rfl : (σ.1 9 9).toInt = (σ.1 9 9).toInt) (show (1 : Int32).toInt = 1 from by decide) (by omega) (by omega)) (by omega) (by omega)
    refine ⟨g7, ?_⟩
    exact hQ _ trivial
set_option maxHeartbeats 4000000 in
theorem sX5_countBits {N : Nat} (hN : 4294967400 ≤ N) {x1 : Int32} {Q : Int32 → St → Prop} {σ0 σ : St} (hp1 : 0 ≤ x1.toInt ∧ x1.toInt ≤ 19) (hσ : K1 σ0 σ) (hQ : ∀ r : Int32, True → Q r σ) : fX5_countBits N x1 Q σ := by
  unfold fX5_countBits
  have g1 : vp_in (0 : Int32) 121 := inE (show (0 : Int32).toInt = 0 from by decide) (by omega) (by omega)
  refine ⟨g1, ?_⟩
  intro v2 ev2
  have f5 := tB x1
  have f6 := tB v2
  have f7 := tB (σ.1 36 (0 : Int32).toNatClampNeg)
  first | have f8 : v2.toInt = (σ.1 36 (0 : Int32).toNatClampNeg).toInt := (congrArg Int32.toInt ev2).trans (rfl : (σ.1 36 (0 : Int32).toNatClampNeg).toInt = (σ.1 36 (0 : Int32).toNatClampNeg).toInt) | skip
  refine lo2_i (fun (y3 : Int32) (y4 : Int32) (τ : St) => σ = τ ∧ 0 ≤ y4.toInt) (fun (y3 : Int32) (y4 : Int32) (τ : St) => (2147483648 - y4.toInt).toNat) ?_ N v2 (0 : Int32) σ ⟨rfl, by first | decide | (have z0 : (0 : Int32).toInt = 0 := (by decide); omega)⟩ (by have z0 : (0 : Int32).toInt = 0 := (by decide); (try dsimp only); omega)
  intro rr9 y12 y13 σ11 hIσ11 ih10
  obtain ⟨hσ11, i14⟩ := hIσ11
  subst hσ11
  unfold fX5_countBits_l12
  have f15 := tB y12
  have f16 := tB y13
  have g18 : vp_in x1 20 := inE (rfl : x1.toInt = x1.toInt) (by omega) (by omega)
  refine ⟨g18, ?_⟩
  refine ⟨fun c19 => ?_, fun c19 => ?_⟩
  · have f20 := K1.ga_39 hσ x1.toNatClampNeg
    first | have f22 := (leE (rfl : (σ.1 39 x1.toNatClampNeg).toInt = (σ.1 39 x1.toNatClampNeg).toInt) (rfl : y13.toInt = y13.toInt)).mp c19 | skip
    exact hQ _ trivial
  · have f23 := K1.ga_39 hσ x1.toNatClampNeg
    first | have f25 := (notleE (rfl : (σ.1 39 x1.toNatClampNeg).toInt = (σ.1 39 x1.toNatClampNeg).toInt) (rfl : y13.toInt = y13.toInt)).mp c19 | skip
    have g27 : vp_in x1 20 := inE (rfl : x1.toInt = x1.toInt) (by omega) (by omega)
    refine ⟨g27, ?_⟩
    have hk28 : r120 (203 + x1.toNatClampNeg) := (r120_in8 g27)
    have hk28x := vp_lt g27
    have hk28b := r120_b hk28
    have g30 : vp_in y13 120 := inE (rfl : y13.toInt = y13.toInt) (by omega) (by omega)
    refine ⟨g30, ?_⟩
    have f31 := K1.gp hσ x1.toNatClampNeg y13.toNatClampNeg
    have g32 : vp_in (σ.1 (203 + x1.toNatClampNeg) y13.toNatClampNeg) 60 := inE (rfl : (σ.1 (203 + x1.toNatClampNeg) y13.toNatClampNeg).toInt = (σ.1 (203 + x1.toNatClampNeg) y13.toNatClampNeg).toInt) (by omega) (by omega)
    refine ⟨g32, ?_⟩
    have f33 := K1.ga_42 hσ (σ.1 (203 + x1.toNatClampNeg) y13.toNatClampNeg).toNatClampNeg
    have g34 : vp_in (σ.1 42 (σ.1 (203 + x1.toNatClampNeg) y13.toNatClampNeg).toNatClampNeg) 121 := inE (rfl : (σ.1 42 (σ.1 (203 + x1.toNatClampNeg) y13.toNatClampNeg).toNatClampNeg).toInt = (σ.1 42 (σ.1 (203 + x1.toNatClampNeg) y13.toNatClampNeg).toNatClampNeg).toInt) (by omega) (by omega)
    refine ⟨g34, ?_⟩
    intro v35 ev35
    intro v36 ev36
    have f37 := tB v35
    have f39 := tB (σ.1 36 (σ.1 42 (σ.1 (203 + x1.toNatClampNeg) y13.toNatClampNeg).toNatClampNeg).toNatClampNeg)
    first | have f40 : v35.toInt = (y12.toInt + (σ.1 36 (σ.1 42 (σ.1 (203 + x1.toNatClampNeg) y13.toNatClampNeg).toNatClampNeg).toNatClampNeg).toInt) := (congrArg Int32.toInt ev35).trans (aOkE (rfl : y12.toInt = y12.toInt) (rfl : (σ.1 36 (σ.1 42 (σ.1 (203 + x1.toNatClampNeg) y13.toNatClampNeg).toNatClampNeg).toNatClampNeg).toInt = (σ.1 36 (σ.1 42 (σ.1 (203 + x1.toNatClampNeg) y13.toNatClampNeg).toNatClampNeg).toNatClampNeg).toInt) (by omega) (by omega)) | skip
    have f41 := tB v36
    first | have f43 : v36.toInt = (y13.toInt + (1)) := (congrArg Int32.toInt ev36).trans (aOkE (rfl : y13.toInt = y13.toInt) (show (1 : Int32).toInt = 1 from by decide) (by omega) (by omega)) | skip
    exact ih10 v35 v36 σ ⟨rfl, by omega⟩ (by (try dsimp only); omega)
set_option maxHeartbeats 4000000 in
theorem sX3_putFour {N : Nat} (hN : 4294967400 ≤ N) {x1 : Int32} {x2 : Int32} {Q : St → Prop} {σ0 σ : St} (hσ : K1 σ0 σ) (hQ : ∀ τ : St, K1 σ0 τ → (τ.1 3 7 = σ.1 3 7 ∧ τ.1 3 11 = σ.1 3 11 ∧ τ.1 3 6 = σ.1 3 6 ∧ τ.1 9 9 = σ.1 9 9 ∧ τ.1 9 10 = σ.1 9 10 ∧ τ.1 6 5 = σ.1 6 5 ∧ τ.1 7 4 = σ.1 7 4 ∧ τ.1 2 4 = σ.1 2 4 ∧ τ.1 2 5 = σ.1 2 5 ∧ τ.1 2 6 = σ.1 2 6 ∧ τ.1 3 8 = σ.1 3 8) → Q τ) : fX3_putFour N x1 x2 Q σ := by
  unfold fX3_putFour
  have f1 := tB x1
  have f2 := tB (x2 >>> (24 &&& 31))
  refine sX3_putByte hN hσ (fun σ3 hσ3 kk15 => ?_)
  obtain ⟨k4, k5, k6, k7, k8, k9, k10, k11, k12, k13, k14⟩ := kk15
  have f17 := tB (x2 >>> (16 &&& 31))
  refine sX3_putByte hN hσ3 (fun σ18 hσ18 kk30 => ?_)
  obtain ⟨k19, k20, k21, k22, k23, k24, k25, k26, k27, k28, k29⟩ := kk30
  have f32 := tB (x2 >>> (8 &&& 31))
  refine sX3_putByte hN hσ18 (fun σ33 hσ33 kk45 => ?_)
  obtain ⟨k34, k35, k36, k37, k38, k39, k40, k41, k42, k43, k44⟩ := kk45
  have f47 := tB x2
  refine sX3_putByte hN hσ33 (fun σ48 hσ48 kk60 => ?_)
  obtain ⟨k49, k50, k51, k52, k53, k54, k55, k56, k57, k58, k59⟩ := kk60
  exact hQ _ hσ48 (⟨k49.trans (k34.trans (k19.trans (k4))), k50.trans (k35.trans (k20.trans (k5))), k51.trans (k36.trans (k21.trans (k6))), k52.trans (k37.trans (k22.trans (k7))), k53.trans (k38.trans (k23.trans (k8))), k54.trans (k39.trans (k24.trans (k9))), k55.trans (k40.trans (k25.trans (k10))), k56.trans (k41.trans (k26.trans (k11))), k57.trans (k42.trans (k27.trans (k12))), k58.trans (k43.trans (k28.trans (k13))), k59.trans (k44.trans (k29.trans (k14)))⟩)
set_option maxHeartbeats 4000000 in
theorem sX0_putBranch {N : Nat} (hN : 4294967400 ≤ N) {x2 : Int32} {Q : St → Prop} {σ0 σ : St} (hp2 : 0 ≤ x2.toInt ∧ x2.toInt ≤ 120) (hσ : K1 σ0 σ) (hQ : ∀ τ : St, K1 σ0 τ → (τ.1 3 7 = σ.1 3 7 ∧ τ.1 3 11 = σ.1 3 11 ∧ τ.1 3 6 = σ.1 3 6 ∧ τ.1 9 9 = σ.1 9 9 ∧ τ.1 9 10 = σ.1 9 10 ∧ τ.1 6 5 = σ.1 6 5 ∧ τ.1 7 4 = σ.1 7 4 ∧ τ.1 2 4 = σ.1 2 4 ∧ τ.1 2 5 = σ.1 2 5 ∧ τ.1 2 6 = σ.1 2 6 ∧ τ.1 3 8 = σ.1 3 8) → Q τ) : fX0_putBranch N x2 Q σ := by
  unfold fX0_putBranch
  have f1 := tB x2
  have g2 : vp_in x2 121 := inE (rfl : x2.toInt = x2.toInt) (by omega) (by omega)
  refine ⟨g2, ?_⟩
  have f3 := tB (σ.1 35 x2.toNatClampNeg)
  refine sX3_putByte hN hσ (fun σ4 hσ4 kk16 => ?_)
  obtain ⟨k5, k6, k7, k8, k9, k10, k11, k12, k13, k14, k15⟩ := kk16
  have g18 : vp_in x2 121 := inE (rfl : x2.toInt = x2.toInt) (by omega) (by omega)
  refine ⟨g18, ?_⟩
  have g20 : vp_in x2 121 := inE (rfl : x2.toInt = x2.toInt) (by omega) (by omega)
  refine ⟨g20, ?_⟩
  have f21 := K1.ga_31 hσ4 x2.toNatClampNeg
  have g22 : vp_in (σ4.1 31 x2.toNatClampNeg) 121 := inE (rfl : (σ4.1 31 x2.toNatClampNeg).toInt = (σ4.1 31 x2.toNatClampNeg).toInt) (by omega) (by omega)
  refine ⟨g22, ?_⟩
  have f23 := tB (σ4.1 35 x2.toNatClampNeg)
  have f24 := tB (σ4.1 35 (σ4.1 31 x2.toNatClampNeg).toNatClampNeg)
  refine sX3_putFour hN hσ4 (fun σ25 hσ25 kk37 => ?_)
  obtain ⟨k26, k27, k28, k29, k30, k31, k32, k33, k34, k35, k36⟩ := kk37
  have g39 : vp_in x2 121 := inE (rfl : x2.toInt = x2.toInt) (by omega) (by omega)
  refine ⟨g39, ?_⟩
  have g41 : vp_in x2 121 := inE (rfl : x2.toInt = x2.toInt) (by omega) (by omega)
  refine ⟨g41, ?_⟩
  have f42 := K1.ga_32 hσ25 x2.toNatClampNeg
  have g43 : vp_in (σ25.1 32 x2.toNatClampNeg) 121 := inE (rfl : (σ25.1 32 x2.toNatClampNeg).toInt = (σ25.1 32 x2.toNatClampNeg).toInt) (by omega) (by omega)
  refine ⟨g43, ?_⟩
  have f44 := tB (σ25.1 35 x2.toNatClampNeg)
  have f45 := tB (σ25.1 35 (σ25.1 32 x2.toNatClampNeg).toNatClampNeg)
  refine sX3_putFour hN hσ25 (fun σ46 hσ46 kk58 => ?_)
  obtain ⟨k47, k48, k49, k50, k51, k52, k53, k54, k55, k56, k57⟩ := kk58
  exact hQ _ hσ46 (⟨k47.trans (k26.trans (k5)), k48.trans (k27.trans (k6)), k49.trans (k28.trans (k7)), k50.trans (k29.trans (k8)), k51.trans (k30.trans (k9)), k52.trans (k31.trans (k10)), k53.trans (k32.trans (k11)), k54.trans (k33.trans (k12)), k55.trans (k34.trans (k13)), k56.trans (k35.trans (k14)), k57.trans (k36.trans (k15))⟩)
set_option maxHeartbeats 4000000 in
theorem sX7_putBytes {N : Nat} (hN : 4294967400 ≤ N) {x2 : Int32} {x3 : Int32} {Q : St → Prop} {σ0 σ : St} (hp2 : 0 ≤ x2.toInt ∧ x2.toInt ≤ 59) (hσ : K1 σ0 σ) (hQ : ∀ τ : St, K1 σ0 τ → (τ.1 3 7 = σ.1 3 7 ∧ τ.1 3 11 = σ.1 3 11 ∧ τ.1 3 6 = σ.1 3 6 ∧ τ.1 9 9 = σ.1 9 9 ∧ τ.1 9 10 = σ.1 9 10 ∧ τ.1 6 5 = σ.1 6 5 ∧ τ.1 7 4 = σ.1 7 4 ∧ τ.1 2 4 = σ.1 2 4 ∧ τ.1 2 5 = σ.1 2 5 ∧ τ.1 2 6 = σ.1 2 6 ∧ τ.1 3 8 = σ.1 3 8) → Q τ) : fX7_putBytes N x2 x3 Q σ := by
  unfold fX7_putBytes
  have f2 := tB x2
  have f3 := tB x3
  refine lo1_i (fun (y1 : Int32) (τ : St) => K1 σ0 τ ∧ τ.1 3 7 = σ.1 3 7 ∧ τ.1 3 11 = σ.1 3 11 ∧ τ.1 3 6 = σ.1 3 6 ∧ τ.1 9 9 = σ.1 9 9 ∧ τ.1 9 10 = σ.1 9 10 ∧ τ.1 6 5 = σ.1 6 5 ∧ τ.1 7 4 = σ.1 7 4 ∧ τ.1 2 4 = σ.1 2 4 ∧ τ.1 2 5 = σ.1 2 5 ∧ τ.1 2 6 = σ.1 2 6 ∧ τ.1 3 8 = σ.1 3 8 ∧ 0 ≤ y1.toInt) (fun (y1 : Int32) (τ : St) => (2147483648 - y1.toInt).toNat) ?_ N (0 : Int32) σ ⟨hσ, rfl, rfl, rfl, rfl, rfl, rfl, rfl, rfl, rfl, rfl, rfl, by first | decide | (have z0 : (0 : Int32).toInt = 0 := (by decide); omega)⟩ (by have z0 : (0 : Int32).toInt = 0 := (by decide); (try dsimp only); omega)
  intro rr4 y7 σ6 hIσ6 ih5
  obtain ⟨hσ6, k8, k9, k10, k11, k12, k13, k14, k15, k16, k17, k18, i19⟩ := hIσ6
  unfold fX7_putBytes_l3
  have f20 := tB y7
  have g22 : vp_in x2 60 := inE (rfl : x2.toInt = x2.toInt) (by omega) (by omega)
  refine ⟨g22, ?_⟩
  refine ⟨fun c23 => ?_, fun c23 => ?_⟩
  · have f24 := K1.ga_21 hσ6 x2.toNatClampNeg
    first | have f26 := (leE (rfl : (σ6.1 21 x2.toNatClampNeg).toInt = (σ6.1 21 x2.toNatClampNeg).toInt) (rfl : y7.toInt = y7.toInt)).mp c23 | skip
    unfold fX7_putBytes_j44
    have g28 : vp_in x2 60 := inE (rfl : x2.toInt = x2.toInt) (by omega) (by omega)
    refine ⟨g28, ?_⟩
    refine sX3_putByte hN hσ6 (fun σ31 hσ31 kk43 => ?_)
    obtain ⟨k32, k33, k34, k35, k36, k37, k38, k39, k40, k41, k42⟩ := kk43
    exact hQ _ hσ31 (⟨k32.trans (k8), k33.trans (k9), k34.trans (k10), k35.trans (k11), k36.trans (k12), k37.trans (k13), k38.trans (k14), k39.trans (k15), k40.trans (k16), k41.trans (k17), k42.trans (k18)⟩)
  · have f44 := K1.ga_21 hσ6 x2.toNatClampNeg
    first | have f46 := (notleE (rfl : (σ6.1 21 x2.toNatClampNeg).toInt = (σ6.1 21 x2.toNatClampNeg).toInt) (rfl : y7.toInt = y7.toInt)).mp c23 | skip
    refine ⟨fun c47 => ?_, fun c47 => ?_⟩
    · first | have f49 := (leE (show (20 : Int32).toInt = 20 from by decide) (rfl : y7.toInt = y7.toInt)).mp c47 | skip
      unfold fX7_putBytes_j44
      have g51 : vp_in x2 60 := inE (rfl : x2.toInt = x2.toInt) (by omega) (by omega)
      refine ⟨g51, ?_⟩
      refine sX3_putByte hN hσ6 (fun σ54 hσ54 kk66 => ?_)
      obtain ⟨k55, k56, k57, k58, k59, k60, k61, k62, k63, k64, k65⟩ := kk66
      exact hQ _ hσ54 (⟨k55.trans (k8), k56.trans (k9), k57.trans (k10), k58.trans (k11), k59.trans (k12), k60.trans (k13), k61.trans (k14), k62.trans (k15), k63.trans (k16), k64.trans (k17), k65.trans (k18)⟩)
    · first | have f68 := (notleE (show (20 : Int32).toInt = 20 from by decide) (rfl : y7.toInt = y7.toInt)).mp c47 | skip
      have g70 : vp_in x2 60 := inE (rfl : x2.toInt = x2.toInt) (by omega) (by omega)
      refine ⟨g70, ?_⟩
      have hk71 : r20 (123 + x2.toNatClampNeg) := (r20_in g70)
      have hk71x := vp_lt g70
      have hk71b := r20_b hk71
      have g73 : vp_in y7 20 := inE (rfl : y7.toInt = y7.toInt) (by omega) (by omega)
      refine ⟨g73, ?_⟩
      have f76 := tB (σ6.1 (123 + x2.toNatClampNeg) y7.toNatClampNeg)
      refine sX3_putByte hN hσ6 (fun σ77 hσ77 kk89 => ?_)
      obtain ⟨k78, k79, k80, k81, k82, k83, k84, k85, k86, k87, k88⟩ := kk89
      intro v90 ev90
      have f91 := tB v90
      first | have f93 : v90.toInt = (y7.toInt + (1)) := (congrArg Int32.toInt ev90).trans (aOkE (rfl : y7.toInt = y7.toInt) (show (1 : Int32).toInt = 1 from by decide) (by omega) (by omega)) | skip
      exact ih5 v90 σ77 ⟨hσ77, k78.trans (k8), k79.trans (k9), k80.trans (k10), k81.trans (k11), k82.trans (k12), k83.trans (k13), k84.trans (k14), k85.trans (k15), k86.trans (k16), k87.trans (k17), k88.trans (k18), by omega⟩ (by (try dsimp only); omega)
set_option maxHeartbeats 4000000 in
theorem sX7_putFours {N : Nat} (hN : 4294967400 ≤ N) {x2 : Int32} {x3 : Int32} {Q : St → Prop} {σ0 σ : St} (hp2 : 0 ≤ x2.toInt ∧ x2.toInt ≤ 59) (hσ : K1 σ0 σ) (hQ : ∀ τ : St, K1 σ0 τ → (τ.1 3 7 = σ.1 3 7 ∧ τ.1 3 11 = σ.1 3 11 ∧ τ.1 3 6 = σ.1 3 6 ∧ τ.1 9 9 = σ.1 9 9 ∧ τ.1 9 10 = σ.1 9 10 ∧ τ.1 6 5 = σ.1 6 5 ∧ τ.1 7 4 = σ.1 7 4 ∧ τ.1 2 4 = σ.1 2 4 ∧ τ.1 2 5 = σ.1 2 5 ∧ τ.1 2 6 = σ.1 2 6 ∧ τ.1 3 8 = σ.1 3 8) → Q τ) : fX7_putFours N x2 x3 Q σ := by
  unfold fX7_putFours
  have f2 := tB x2
  have f3 := tB x3
  refine lo1_i (fun (y1 : Int32) (τ : St) => K1 σ0 τ ∧ τ.1 3 7 = σ.1 3 7 ∧ τ.1 3 11 = σ.1 3 11 ∧ τ.1 3 6 = σ.1 3 6 ∧ τ.1 9 9 = σ.1 9 9 ∧ τ.1 9 10 = σ.1 9 10 ∧ τ.1 6 5 = σ.1 6 5 ∧ τ.1 7 4 = σ.1 7 4 ∧ τ.1 2 4 = σ.1 2 4 ∧ τ.1 2 5 = σ.1 2 5 ∧ τ.1 2 6 = σ.1 2 6 ∧ τ.1 3 8 = σ.1 3 8 ∧ 0 ≤ y1.toInt) (fun (y1 : Int32) (τ : St) => (2147483648 - y1.toInt).toNat) ?_ N (0 : Int32) σ ⟨hσ, rfl, rfl, rfl, rfl, rfl, rfl, rfl, rfl, rfl, rfl, rfl, by first | decide | (have z0 : (0 : Int32).toInt = 0 := (by decide); omega)⟩ (by have z0 : (0 : Int32).toInt = 0 := (by decide); (try dsimp only); omega)
  intro rr4 y7 σ6 hIσ6 ih5
  obtain ⟨hσ6, k8, k9, k10, k11, k12, k13, k14, k15, k16, k17, k18, i19⟩ := hIσ6
  unfold fX7_putFours_l3
  have f20 := tB y7
  have g22 : vp_in x2 60 := inE (rfl : x2.toInt = x2.toInt) (by omega) (by omega)
  refine ⟨g22, ?_⟩
  refine ⟨fun c23 => ?_, fun c23 => ?_⟩
  · have f24 := K1.ga_21 hσ6 x2.toNatClampNeg
    first | have f26 := (leE (rfl : (σ6.1 21 x2.toNatClampNeg).toInt = (σ6.1 21 x2.toNatClampNeg).toInt) (rfl : y7.toInt = y7.toInt)).mp c23 | skip
    unfold fX7_putFours_j46
    have g28 : vp_in x2 60 := inE (rfl : x2.toInt = x2.toInt) (by omega) (by omega)
    refine ⟨g28, ?_⟩
    refine sX3_putFour hN hσ6 (fun σ31 hσ31 kk43 => ?_)
    obtain ⟨k32, k33, k34, k35, k36, k37, k38, k39, k40, k41, k42⟩ := kk43
    exact hQ _ hσ31 (⟨k32.trans (k8), k33.trans (k9), k34.trans (k10), k35.trans (k11), k36.trans (k12), k37.trans (k13), k38.trans (k14), k39.trans (k15), k40.trans (k16), k41.trans (k17), k42.trans (k18)⟩)
  · have f44 := K1.ga_21 hσ6 x2.toNatClampNeg
    first | have f46 := (notleE (rfl : (σ6.1 21 x2.toNatClampNeg).toInt = (σ6.1 21 x2.toNatClampNeg).toInt) (rfl : y7.toInt = y7.toInt)).mp c23 | skip
    refine ⟨fun c47 => ?_, fun c47 => ?_⟩
    · first | have f49 := (leE (show (20 : Int32).toInt = 20 from by decide) (rfl : y7.toInt = y7.toInt)).mp c47 | skip
      unfold fX7_putFours_j46
      have g51 : vp_in x2 60 := inE (rfl : x2.toInt = x2.toInt) (by omega) (by omega)
      refine ⟨g51, ?_⟩
      refine sX3_putFour hN hσ6 (fun σ54 hσ54 kk66 => ?_)
      obtain ⟨k55, k56, k57, k58, k59, k60, k61, k62, k63, k64, k65⟩ := kk66
      exact hQ _ hσ54 (⟨k55.trans (k8), k56.trans (k9), k57.trans (k10), k58.trans (k11), k59.trans (k12), k60.trans (k13), k61.trans (k14), k62.trans (k15), k63.trans (k16), k64.trans (k17), k65.trans (k18)⟩)
    · first | have f68 := (notleE (show (20 : Int32).toInt = 20 from by decide) (rfl : y7.toInt = y7.toInt)).mp c47 | skip
      have g70 : vp_in x2 60 := inE (rfl : x2.toInt = x2.toInt) (by omega) (by omega)
      refine ⟨g70, ?_⟩
      have hk71 : r20 (123 + x2.toNatClampNeg) := (r20_in g70)
      have hk71x := vp_lt g70
      have hk71b := r20_b hk71
      have g73 : vp_in y7 20 := inE (rfl : y7.toInt = y7.toInt) (by omega) (by omega)
      refine ⟨g73, ?_⟩
      have f76 := tB (σ6.1 (123 + x2.toNatClampNeg) y7.toNatClampNeg)
      refine sX3_putFour hN hσ6 (fun σ77 hσ77 kk89 => ?_)
      obtain ⟨k78, k79, k80, k81, k82, k83, k84, k85, k86, k87, k88⟩ := kk89
      intro v90 ev90
      have f91 := tB v90
      first | have f93 : v90.toInt = (y7.toInt + (1)) := (congrArg Int32.toInt ev90).trans (aOkE (rfl : y7.toInt = y7.toInt) (show (1 : Int32).toInt = 1 from by decide) (by omega) (by omega)) | skip
      exact ih5 v90 σ77 ⟨hσ77, k78.trans (k8), k79.trans (k9), k80.trans (k10), k81.trans (k11), k82.trans (k12), k83.trans (k13), k84.trans (k14), k85.trans (k15), k86.trans (k16), k87.trans (k17), k88.trans (k18), by omega⟩ (by (try dsimp only); omega)
set_option maxHeartbeats 4000000 in
theorem sX7_putNode {N : Nat} (hN : 4294967400 ≤ N) {x2 : Int32} {x3 : Int32} {Q : St → Prop} {σ0 σ : St} (hp2 : 0 ≤ x2.toInt ∧ x2.toInt ≤ 59) (hσ : K1 σ0 σ) (hQ : ∀ τ : St, K1 σ0 τ → (τ.1 3 7 = σ.1 3 7 ∧ τ.1 3 11 = σ.1 3 11 ∧ τ.1 3 6 = σ.1 3 6 ∧ τ.1 9 9 = σ.1 9 9 ∧ τ.1 9 10 = σ.1 9 10 ∧ τ.1 6 5 = σ.1 6 5 ∧ τ.1 7 4 = σ.1 7 4 ∧ τ.1 2 4 = σ.1 2 4 ∧ τ.1 2 5 = σ.1 2 5 ∧ τ.1 2 6 = σ.1 2 6 ∧ τ.1 3 8 = σ.1 3 8) → Q τ) : fX7_putNode N x2 x3 Q σ := by
  unfold fX7_putNode
  have f1 := tB x2
  have g2 : vp_in x2 60 := inE (rfl : x2.toInt = x2.toInt) (by omega) (by omega)
  refine ⟨g2, ?_⟩
  have f3 := tB x3
  have f4 := tB (σ.1 18 x2.toNatClampNeg)
  refine sX3_putByte hN hσ (fun σ5 hσ5 kk17 => ?_)
  obtain ⟨k6, k7, k8, k9, k10, k11, k12, k13, k14, k15, k16⟩ := kk17
  have g19 : vp_in x2 60 := inE (rfl : x2.toInt = x2.toInt) (by omega) (by omega)
  refine ⟨g19, ?_⟩
  intro v20 ev20
  refine ⟨fun c21 => ?_, fun c21 => ?_⟩
  · have f22 := tB v20
    have f23 := tB (σ5.1 18 x2.toNatClampNeg)
    first | have f24 : v20.toInt = (σ5.1 18 x2.toNatClampNeg).toInt := (congrArg Int32.toInt ev20).trans (rfl : (σ5.1 18 x2.toNatClampNeg).toInt = (σ5.1 18 x2.toNatClampNeg).toInt) | skip
    first | have f25 := (eqE (rfl : v20.toInt = v20.toInt) (show (2 : Int32).toInt = 2 from by decide)).mp c21 | skip
    have g27 : vp_in x2 60 := inE (rfl : x2.toInt = x2.toInt) (by omega) (by omega)
    refine ⟨g27, ?_⟩
    have hk28 : r20 (123 + x2.toNatClampNeg) := (r20_in g27)
    have hk28x := vp_lt g27
    have hk28b := r20_b hk28
    have g29 : vp_in (0 : Int32) 20 := inE (show (0 : Int32).toInt = 0 from by decide) (by omega) (by omega)
    refine ⟨g29, ?_⟩
    have f31 := tB (σ5.1 (123 + x2.toNatClampNeg) (0 : Int32).toNatClampNeg)
    refine sX3_putByte hN hσ5 (fun σ32 hσ32 kk44 => ?_)
    obtain ⟨k33, k34, k35, k36, k37, k38, k39, k40, k41, k42, k43⟩ := kk44
    exact hQ _ hσ32 (⟨k33.trans (k6), k34.trans (k7), k35.trans (k8), k36.trans (k9), k37.trans (k10), k38.trans (k11), k39.trans (k12), k40.trans (k13), k41.trans (k14), k42.trans (k15), k43.trans (k16)⟩)
  · have f45 := tB v20
    have f46 := tB (σ5.1 18 x2.toNatClampNeg)
    first | have f47 : v20.toInt = (σ5.1 18 x2.toNatClampNeg).toInt := (congrArg Int32.toInt ev20).trans (rfl : (σ5.1 18 x2.toNatClampNeg).toInt = (σ5.1 18 x2.toNatClampNeg).toInt) | skip
    first | have f48 := (noteqE (rfl : v20.toInt = v20.toInt) (show (2 : Int32).toInt = 2 from by decide)).mp c21 | skip
    refine ⟨fun c49 => ?_, fun c49 => ?_⟩
    · first | have f51 := (eqE (rfl : v20.toInt = v20.toInt) (show (3 : Int32).toInt = 3 from by decide)).mp c49 | skip
      refine sX7_putBytes hN ⟨leP (rfl : x2.toInt = x2.toInt) (by omega), geP (rfl : x2.toInt = x2.toInt) (by omega)⟩ hσ5 (fun σ54 hσ54 kk66 => ?_)
      obtain ⟨k55, k56, k57, k58, k59, k60, k61, k62, k63, k64, k65⟩ := kk66
      exact hQ _ hσ54 (⟨k55.trans (k6), k56.trans (k7), k57.trans (k8), k58.trans (k9), k59.trans (k10), k60.trans (k11), k61.trans (k12), k62.trans (k13), k63.trans (k14), k64.trans (k15), k65.trans (k16)⟩)
    · first | have f68 := (noteqE (rfl : v20.toInt = v20.toInt) (show (3 : Int32).toInt = 3 from by decide)).mp c49 | skip
      refine ⟨fun c69 => ?_, fun c69 => ?_⟩
      · first | have f71 := (eqE (rfl : v20.toInt = v20.toInt) (show (4 : Int32).toInt = 4 from by decide)).mp c69 | skip
        have g73 : vp_in x2 60 := inE (rfl : x2.toInt = x2.toInt) (by omega) (by omega)
        refine ⟨g73, ?_⟩
        have hk74 : r20 (123 + x2.toNatClampNeg) := (r20_in g73)
        have hk74x := vp_lt g73
        have hk74b := r20_b hk74
        have g75 : vp_in (0 : Int32) 20 := inE (show (0 : Int32).toInt = 0 from by decide) (by omega) (by omega)
        refine ⟨g75, ?_⟩
        have f77 := tB (σ5.1 (123 + x2.toNatClampNeg) (0 : Int32).toNatClampNeg)
        refine sX3_putFour hN hσ5 (fun σ78 hσ78 kk90 => ?_)
        obtain ⟨k79, k80, k81, k82, k83, k84, k85, k86, k87, k88, k89⟩ := kk90
        exact hQ _ hσ78 (⟨k79.trans (k6), k80.trans (k7), k81.trans (k8), k82.trans (k9), k83.trans (k10), k84.trans (k11), k85.trans (k12), k86.trans (k13), k87.trans (k14), k88.trans (k15), k89.trans (k16)⟩)
      · first | have f92 := (noteqE (rfl : v20.toInt = v20.toInt) (show (4 : Int32).toInt = 4 from by decide)).mp c69 | skip
        refine ⟨fun c93 => ?_, fun c93 => ?_⟩
        · first | have f95 := (eqE (rfl : v20.toInt = v20.toInt) (show (5 : Int32).toInt = 5 from by decide)).mp c93 | skip
          refine sX7_putFours hN ⟨leP (rfl : x2.toInt = x2.toInt) (by omega), geP (rfl : x2.toInt = x2.toInt) (by omega)⟩ hσ5 (fun σ98 hσ98 kk110 => ?_)
          obtain ⟨k99, k100, k101, k102, k103, k104, k105, k106, k107, k108, k109⟩ := kk110
          exact hQ _ hσ98 (⟨k99.trans (k6), k100.trans (k7), k101.trans (k8), k102.trans (k9), k103.trans (k10), k104.trans (k11), k105.trans (k12), k106.trans (k13), k107.trans (k14), k108.trans (k15), k109.trans (k16)⟩)
        · first | have f112 := (noteqE (rfl : v20.toInt = v20.toInt) (show (5 : Int32).toInt = 5 from by decide)).mp c93 | skip
          have g114 : vp_in x2 60 := inE (rfl : x2.toInt = x2.toInt) (by omega) (by omega)
          refine ⟨g114, ?_⟩
          have f116 := tB (σ5.1 19 x2.toNatClampNeg)
          refine sX3_putFour hN hσ5 (fun σ117 hσ117 kk129 => ?_)
          obtain ⟨k118, k119, k120, k121, k122, k123, k124, k125, k126, k127, k128⟩ := kk129
          exact hQ _ hσ117 (⟨k118.trans (k6), k119.trans (k7), k120.trans (k8), k121.trans (k9), k122.trans (k10), k123.trans (k11), k124.trans (k12), k125.trans (k13), k126.trans (k14), k127.trans (k15), k128.trans (k16)⟩)
set_option maxHeartbeats 4000000 in
theorem sX0_putNodes {N : Nat} (hN : 4294967400 ≤ N) {x3 : Int32} {Q : St → Prop} {σ0 σ : St} (hσ : K1 σ0 σ) (hQ : ∀ τ : St, K1 σ0 τ → (τ.1 3 7 = σ.1 3 7 ∧ τ.1 3 11 = σ.1 3 11 ∧ τ.1 3 6 = σ.1 3 6 ∧ τ.1 9 9 = σ.1 9 9 ∧ τ.1 9 10 = σ.1 9 10 ∧ τ.1 6 5 = σ.1 6 5 ∧ τ.1 7 4 = σ.1 7 4 ∧ τ.1 2 4 = σ.1 2 4 ∧ τ.1 2 5 = σ.1 2 5 ∧ τ.1 2 6 = σ.1 2 6 ∧ τ.1 3 8 = σ.1 3 8) → Q τ) : fX0_putNodes N x3 Q σ := by
  unfold fX0_putNodes
  refine sX0_size hN hσ (fun r14 p15 => ?_)
  have f16 := tB x3
  have f17 := tB r14
  refine sX3_putFour hN hσ (fun σ18 hσ18 kk30 => ?_)
  obtain ⟨k19, k20, k21, k22, k23, k24, k25, k26, k27, k28, k29⟩ := kk30
  have f32 := K1.g_9_9 hσ18
  have f33 := congrArg Int32.toInt k22
  have f34 := K1.g_9_9 hσ
  refine sX3_putFour hN hσ18 (fun σ35 hσ35 kk47 => ?_)
  obtain ⟨k36, k37, k38, k39, k40, k41, k42, k43, k44, k45, k46⟩ := kk47
  refine sX3_putFour hN hσ35 (fun σ50 hσ50 kk62 => ?_)
  obtain ⟨k51, k52, k53, k54, k55, k56, k57, k58, k59, k60, k61⟩ := kk62
  refine lo1_i (fun (y63 : Int32) (τ : St) => K1 σ0 τ ∧ τ.1 3 7 = σ50.1 3 7 ∧ τ.1 3 11 = σ50.1 3 11 ∧ τ.1 3 6 = σ50.1 3 6 ∧ τ.1 9 9 = σ50.1 9 9 ∧ τ.1 9 10 = σ50.1 9 10 ∧ τ.1 6 5 = σ50.1 6 5 ∧ τ.1 7 4 = σ50.1 7 4 ∧ τ.1 2 4 = σ50.1 2 4 ∧ τ.1 2 5 = σ50.1 2 5 ∧ τ.1 2 6 = σ50.1 2 6 ∧ τ.1 3 8 = σ50.1 3 8 ∧ 0 ≤ y63.toInt) (fun (y63 : Int32) (τ : St) => (2147483648 - y63.toInt).toNat) ?_ N (0 : Int32) σ50 ⟨hσ50, rfl, rfl, rfl, rfl, rfl, rfl, rfl, rfl, rfl, rfl, rfl, by first | decide | (have z0 : (0 : Int32).toInt = 0 := (by decide); omega)⟩ (by have z0 : (0 : Int32).toInt = 0 := (by decide); (try dsimp only); omega)
  intro rr64 y67 σ66 hIσ66 ih65
  obtain ⟨hσ66, k68, k69, k70, k71, k72, k73, k74, k75, k76, k77, k78, i79⟩ := hIσ66
  unfold fX0_putNodes_l35
  have f80 := tB y67
  refine ⟨fun c81 => ?_, fun c81 => ?_⟩
  · have f82 := K1.g_9_9 hσ66
    have f83 := congrArg Int32.toInt k71
    have f84 := K1.g_9_9 hσ50
    have f85 := congrArg Int32.toInt k54
    have f86 := K1.g_9_9 hσ35
    have f87 := congrArg Int32.toInt k39
    first | have f90 := (leE (rfl : (σ66.1 9 9).toInt = (σ66.1 9 9).toInt) (rfl : y67.toInt = y67.toInt)).mp c81 | skip
    exact hQ _ hσ66 (⟨k68.trans (k51.trans (k36.trans (k19))), k69.trans (k52.trans (k37.trans (k20))), k70.trans (k53.trans (k38.trans (k21))), k71.trans (k54.trans (k39.trans (k22))), k72.trans (k55.trans (k40.trans (k23))), k73.trans (k56.trans (k41.trans (k24))), k74.trans (k57.trans (k42.trans (k25))), k75.trans (k58.trans (k43.trans (k26))), k76.trans (k59.trans (k44.trans (k27))), k77.trans (k60.trans (k45.trans (k28))), k78.trans (k61.trans (k46.trans (k29)))⟩)
  · have f91 := K1.g_9_9 hσ66
    have f92 := congrArg Int32.toInt k71
    have f93 := K1.g_9_9 hσ50
    have f94 := congrArg Int32.toInt k54
    have f95 := K1.g_9_9 hσ35
    have f96 := congrArg Int32.toInt k39
    first | have f99 := (notleE (rfl : (σ66.1 9 9).toInt = (σ66.1 9 9).toInt) (rfl : y67.toInt = y67.toInt)).mp c81 | skip
    refine ⟨fun c100 => ?_, fun c100 => ?_⟩
    · have f102 := K1.g_9_10 hσ66
      have f103 := congrArg Int32.toInt k72
      have f104 := K1.g_9_10 hσ50
      have f105 := congrArg Int32.toInt k55
      have f106 := K1.g_9_10 hσ35
      have f107 := congrArg Int32.toInt k40
      have f108 := K1.g_9_10 hσ18
      have f109 := congrArg Int32.toInt k23
      have f110 := K1.g_9_10 hσ
      first | have f111 := (ltE (rfl : y67.toInt = y67.toInt) (rfl : (σ66.1 9 10).toInt = (σ66.1 9 10).toInt)).mp c100 | skip
      have g113 : vp_in y67 121 := inE (rfl : y67.toInt = y67.toInt) (by omega) (by omega)
      refine ⟨g113, ?_⟩
      refine ⟨fun c114 => ?_, fun c114 => ?_⟩
      · have f115 := K1.ga_34 hσ66 y67.toNatClampNeg
        first | have f116 := (leE (show (0 : Int32).toInt = 0 from by decide) (rfl : (σ66.1 34 y67.toNatClampNeg).toInt = (σ66.1 34 y67.toNatClampNeg).toInt)).mp c114 | skip
        have g118 : vp_in y67 121 := inE (rfl : y67.toInt = y67.toInt) (by omega) (by omega)
        refine ⟨g118, ?_⟩
        have g120 : vp_in y67 121 := inE (rfl : y67.toInt = y67.toInt) (by omega) (by omega)
        refine ⟨g120, ?_⟩
        have f122 := tB (σ66.1 35 y67.toNatClampNeg)
        refine sX7_putNode hN ⟨leP (rfl : (σ66.1 34 y67.toNatClampNeg).toInt = (σ66.1 34 y67.toNatClampNeg).toInt) (by omega), geP (rfl : (σ66.1 34 y67.toNatClampNeg).toInt = (σ66.1 34 y67.toNatClampNeg).toInt) (by omega)⟩ hσ66 (fun σ123 hσ123 kk135 => ?_)
        obtain ⟨k124, k125, k126, k127, k128, k129, k130, k131, k132, k133, k134⟩ := kk135
        unfold fX0_putNodes_j107
        intro v136 ev136
        have f137 := tB v136
        first | have f139 : v136.toInt = (y67.toInt + (1)) := (congrArg Int32.toInt ev136).trans (aOkE (rfl : y67.toInt = y67.toInt) (show (1 : Int32).toInt = 1 from by decide) (by omega) (by omega)) | skip
        exact ih65 v136 σ123 ⟨hσ123, k124.trans (k68), k125.trans (k69), k126.trans (k70), k127.trans (k71), k128.trans (k72), k129.trans (k73), k130.trans (k74), k131.trans (k75), k132.trans (k76), k133.trans (k77), k134.trans (k78), by omega⟩ (by (try dsimp only); omega)
      · have f140 := K1.ga_34 hσ66 y67.toNatClampNeg
        first | have f141 := (notleE (show (0 : Int32).toInt = 0 from by decide) (rfl : (σ66.1 34 y67.toNatClampNeg).toInt = (σ66.1 34 y67.toNatClampNeg).toInt)).mp c114 | skip
        have g143 : vp_in y67 121 := inE (rfl : y67.toInt = y67.toInt) (by omega) (by omega)
        refine ⟨g143, ?_⟩
        have f144 := tB (σ66.1 35 y67.toNatClampNeg)
        refine sX3_putByte hN hσ66 (fun σ145 hσ145 kk157 => ?_)
        obtain ⟨k146, k147, k148, k149, k150, k151, k152, k153, k154, k155, k156⟩ := kk157
        unfold fX0_putNodes_j107
        intro v158 ev158
        have f159 := tB v158
        first | have f161 : v158.toInt = (y67.toInt + (1)) := (congrArg Int32.toInt ev158).trans (aOkE (rfl : y67.toInt = y67.toInt) (show (1 : Int32).toInt = 1 from by decide) (by omega) (by omega)) | skip
        exact ih65 v158 σ145 ⟨hσ145, k146.trans (k68), k147.trans (k69), k148.trans (k70), k149.trans (k71), k150.trans (k72), k151.trans (k73), k152.trans (k74), k153.trans (k75), k154.trans (k76), k155.trans (k77), k156.trans (k78), by omega⟩ (by (try dsimp only); omega)
    · have f163 := K1.g_9_10 hσ66
      have f164 := congrArg Int32.toInt k72
      have f165 := K1.g_9_10 hσ50
      have f166 := congrArg Int32.toInt k55
      have f167 := K1.g_9_10 hσ35
      have f168 := congrArg Int32.toInt k40
      have f169 := K1.g_9_10 hσ18
      have f170 := congrArg Int32.toInt k23
      have f171 := K1.g_9_10 hσ
      first | have f172 := (notltE (rfl : y67.toInt = y67.toInt) (rfl : (σ66.1 9 10).toInt = (σ66.1 9 10).toInt)).mp c100 | skip
      refine sX0_putBranch hN ⟨leP (rfl : y67.toInt = y67.toInt) (by omega), geP (rfl : y67.toInt = y67.toInt) (by omega)⟩ hσ66 (fun σ174 hσ174 kk186 => ?_)
      obtain ⟨k175, k176, k177, k178, k179, k180, k181, k182, k183, k184, k185⟩ := kk186
      unfold fX0_putNodes_j107
      intro v187 ev187
      have f188 := tB v187
      first | have f190 : v187.toInt = (y67.toInt + (1)) := (congrArg Int32.toInt ev187).trans (aOkE (rfl : y67.toInt = y67.toInt) (show (1 : Int32).toInt = 1 from by decide) (by omega) (by omega)) | skip
      exact ih65 v187 σ174 ⟨hσ174, k175.trans (k68), k176.trans (k69), k177.trans (k70), k178.trans (k71), k179.trans (k72), k180.trans (k73), k181.trans (k74), k182.trans (k75), k183.trans (k76), k184.trans (k77), k185.trans (k78), by omega⟩ (by (try dsimp only); omega)
set_option maxHeartbeats 4000000 in
theorem sX5_putBits {N : Nat} (hN : 4294967400 ≤ N) {x1 : Int32} {x2 : Int32} {x3 : Int32} {Q : Int32 → St → Prop} {σ0 σ : St} (hp1 : 0 ≤ x1.toInt ∧ x1.toInt ≤ 120) (hσ : K1 σ0 σ) (hQ : ∀ (r : Int32) (τ : St), K1 σ0 τ → (τ.1 3 7 = σ.1 3 7 ∧ τ.1 3 11 = σ.1 3 11 ∧ τ.1 3 6 = σ.1 3 6 ∧ τ.1 9 9 = σ.1 9 9 ∧ τ.1 9 10 = σ.1 9 10 ∧ τ.1 6 5 = σ.1 6 5 ∧ τ.1 7 4 = σ.1 7 4 ∧ τ.1 2 4 = σ.1 2 4 ∧ τ.1 2 5 = σ.1 2 5 ∧ τ.1 2 6 = σ.1 2 6 ∧ τ.1 3 8 = σ.1 3 8) → True → Q r τ) : fX5_putBits N x1 x2 x3 Q σ := by
  unfold fX5_putBits
  have f3 := tB x1
  have f4 := tB x2
  have f5 := tB x3
  refine lo2_i (fun (y1 : Int32) (y2 : Int32) (τ : St) => K1 σ0 τ ∧ τ.1 3 7 = σ.1 3 7 ∧ τ.1 3 11 = σ.1 3 11 ∧ τ.1 3 6 = σ.1 3 6 ∧ τ.1 9 9 = σ.1 9 9 ∧ τ.1 9 10 = σ.1 9 10 ∧ τ.1 6 5 = σ.1 6 5 ∧ τ.1 7 4 = σ.1 7 4 ∧ τ.1 2 4 = σ.1 2 4 ∧ τ.1 2 5 = σ.1 2 5 ∧ τ.1 2 6 = σ.1 2 6 ∧ τ.1 3 8 = σ.1 3 8 ∧ 0 ≤ y2.toInt) (fun (y1 : Int32) (y2 : Int32) (τ : St) => (2147483648 - y2.toInt).toNat) ?_ N x3 (0 : Int32) σ ⟨hσ, rfl, rfl, rfl, rfl, rfl, rfl, rfl, rfl, rfl, rfl, rfl, by first | decide | (have z0 : (0 : Int32).toInt = 0 := (by decide); omega)⟩ (by have z0 : (0 : Int32).toInt = 0 := (by decide); (try dsimp only); omega)
  intro rr6 y9 y10 σ8 hIσ8 ih7
  obtain ⟨hσ8, k11, k12, k13, k14, k15, k16, k17, k18, k19, k20, k21, i22⟩ := hIσ8
  unfold fX5_putBits_l6
  have f23 := tB y9
  have f24 := tB y10
  have g26 : vp_in x1 121 := inE (rfl : x1.toInt = x1.toInt) (by omega) (by omega)
  refine ⟨g26, ?_⟩
  refine ⟨fun c27 => ?_, fun c27 => ?_⟩
  · have f28 := tB (σ8.1 36 x1.toNatClampNeg)
    first | have f30 := (leE (rfl : (σ8.1 36 x1.toNatClampNeg).toInt = (σ8.1 36 x1.toNatClampNeg).toInt) (rfl : y10.toInt = y10.toInt)).mp c27 | skip
    exact hQ _ _ hσ8 (⟨k11, k12, k13, k14, k15, k16, k17, k18, k19, k20, k21⟩) trivial
  · have f31 := tB (σ8.1 36 x1.toNatClampNeg)
    first | have f33 := (notleE (rfl : (σ8.1 36 x1.toNatClampNeg).toInt = (σ8.1 36 x1.toNatClampNeg).toInt) (rfl : y10.toInt = y10.toInt)).mp c27 | skip
    have f35 := tB (y9 / 8)
    refine sX3_byteOf hN hσ8 (fun r49 p50 => ?_)
    have g52 : vp_in x1 121 := inE (rfl : x1.toInt = x1.toInt) (by omega) (by omega)
    refine ⟨g52, ?_⟩
    intro v53 ev53
    have f56 := tB (r49 ||| (v53 <<< ((y9 - y9 / 8 * 8) &&& 31)))
    refine sX3_putByte hN hσ8 (fun σ57 hσ57 kk69 => ?_)
    obtain ⟨k58, k59, k60, k61, k62, k63, k64, k65, k66, k67, k68⟩ := kk69
    intro v70 ev70
    intro v71 ev71
    have f72 := tB v70
    first | have f74 : v70.toInt = (y9.toInt + (1)) := (congrArg Int32.toInt ev70).trans (aOkE (rfl : y9.toInt = y9.toInt) (show (1 : Int32).toInt = 1 from by decide) (by omega) (by omega)) | skip
    have f75 := tB v71
    first | have f77 : v71.toInt = (y10.toInt + (1)) := (congrArg Int32.toInt ev71).trans (aOkE (rfl : y10.toInt = y10.toInt) (show (1 : Int32).toInt = 1 from by decide) (by omega) (by omega)) | skip
    exact ih7 v70 v71 σ57 ⟨hσ57, k58.trans (k11), k59.trans (k12), k60.trans (k13), k61.trans (k14), k62.trans (k15), k63.trans (k16), k64.trans (k17), k65.trans (k18), k66.trans (k19), k67.trans (k20), k68.trans (k21), by omega⟩ (by (try dsimp only); omega)
set_option maxHeartbeats 4000000 in
theorem sX5_putText {N : Nat} (hN : 4294967400 ≤ N) {x1 : Int32} {x2 : Int32} {Q : St → Prop} {σ0 σ : St} (hp1 : 0 ≤ x1.toInt ∧ x1.toInt ≤ 19) (hσ : K1 σ0 σ) (hQ : ∀ τ : St, K1 σ0 τ → (τ.1 3 7 = σ.1 3 7 ∧ τ.1 3 11 = σ.1 3 11 ∧ τ.1 3 6 = σ.1 3 6 ∧ τ.1 9 9 = σ.1 9 9 ∧ τ.1 9 10 = σ.1 9 10 ∧ τ.1 6 5 = σ.1 6 5 ∧ τ.1 7 4 = σ.1 7 4 ∧ τ.1 2 4 = σ.1 2 4 ∧ τ.1 2 5 = σ.1 2 5 ∧ τ.1 2 6 = σ.1 2 6 ∧ τ.1 3 8 = σ.1 3 8) → Q τ) : fX5_putText N x1 x2 Q σ := by
  unfold fX5_putText
  have f1 := tB x2
  refine sX3_putByte hN hσ (fun σ2 hσ2 kk14 => ?_)
  obtain ⟨k3, k4, k5, k6, k7, k8, k9, k10, k11, k12, k13⟩ := kk14
  have f16 := tB x1
  refine lo1_i (fun (y15 : Int32) (τ : St) => K1 σ0 τ ∧ τ.1 3 7 = σ2.1 3 7 ∧ τ.1 3 11 = σ2.1 3 11 ∧ τ.1 3 6 = σ2.1 3 6 ∧ τ.1 9 9 = σ2.1 9 9 ∧ τ.1 9 10 = σ2.1 9 10 ∧ τ.1 6 5 = σ2.1 6 5 ∧ τ.1 7 4 = σ2.1 7 4 ∧ τ.1 2 4 = σ2.1 2 4 ∧ τ.1 2 5 = σ2.1 2 5 ∧ τ.1 2 6 = σ2.1 2 6 ∧ τ.1 3 8 = σ2.1 3 8 ∧ 0 ≤ y15.toInt) (fun (y15 : Int32) (τ : St) => (2147483648 - y15.toInt).toNat) ?_ N (0 : Int32) σ2 ⟨hσ2, rfl, rfl, rfl, rfl, rfl, rfl, rfl, rfl, rfl, rfl, rfl, by first | decide | (have z0 : (0 : Int32).toInt = 0 := (by decide); omega)⟩ (by have z0 : (0 : Int32).toInt = 0 := (by decide); (try dsimp only); omega)
  intro rr18 y21 σ20 hIσ20 ih19
  obtain ⟨hσ20, k22, k23, k24, k25, k26, k27, k28, k29, k30, k31, k32, i33⟩ := hIσ20
  unfold fX5_putText_l13
  have f34 := tB y21
  have g36 : vp_in x1 20 := inE (rfl : x1.toInt = x1.toInt) (by omega) (by omega)
  refine ⟨g36, ?_⟩
  refine ⟨fun c37 => ?_, fun c37 => ?_⟩
  · have f38 := tB (((σ20.1 40 x1.toNatClampNeg) + 7) / 8)
    first | have f40 := (leE (rfl : (((σ20.1 40 x1.toNatClampNeg) + 7) / 8).toInt = (((σ20.1 40 x1.toNatClampNeg) + 7) / 8).toInt) (rfl : y21.toInt = y21.toInt)).mp c37 | skip
    refine lo2_i (fun (y41 : Int32) (y42 : Int32) (τ : St) => K1 σ0 τ ∧ τ.1 3 7 = σ20.1 3 7 ∧ τ.1 3 11 = σ20.1 3 11 ∧ τ.1 3 6 = σ20.1 3 6 ∧ τ.1 9 9 = σ20.1 9 9 ∧ τ.1 9 10 = σ20.1 9 10 ∧ τ.1 6 5 = σ20.1 6 5 ∧ τ.1 7 4 = σ20.1 7 4 ∧ τ.1 2 4 = σ20.1 2 4 ∧ τ.1 2 5 = σ20.1 2 5 ∧ τ.1 2 6 = σ20.1 2 6 ∧ τ.1 3 8 = σ20.1 3 8 ∧ 0 ≤ y42.toInt) (fun (y41 : Int32) (y42 : Int32) (τ : St) => (2147483648 - y42.toInt).toNat) ?_ N (0 : Int32) (0 : Int32) σ20 ⟨hσ20, rfl, rfl, rfl, rfl, rfl, rfl, rfl, rfl, rfl, rfl, rfl, by first | decide | (have z0 : (0 : Int32).toInt = 0 := (by decide); omega)⟩ (by have z0 : (0 : Int32).toInt = 0 := (by decide); (try dsimp only); omega)
    intro rr45 y48 y49 σ47 hIσ47 ih46
    obtain ⟨hσ47, k50, k51, k52, k53, k54, k55, k56, k57, k58, k59, k60, i61⟩ := hIσ47
    unfold fX5_putText_l53
    have f62 := tB y48
    have f63 := tB y49
    have g65 : vp_in x1 20 := inE (rfl : x1.toInt = x1.toInt) (by omega) (by omega)
    refine ⟨g65, ?_⟩
    refine ⟨fun c66 => ?_, fun c66 => ?_⟩
    · have f67 := K1.ga_39 hσ47 x1.toNatClampNeg
      first | have f69 := (leE (rfl : (σ47.1 39 x1.toNatClampNeg).toInt = (σ47.1 39 x1.toNatClampNeg).toInt) (rfl : y49.toInt = y49.toInt)).mp c66 | skip
      refine sX5_putBits hN ⟨leP (show (0 : Int32).toInt = 0 from by decide) (by omega), geP (show (0 : Int32).toInt = 0 from by decide) (by omega)⟩ hσ47 (fun r85 σ72 hσ72 kk84 p86 => ?_)
      obtain ⟨k73, k74, k75, k76, k77, k78, k79, k80, k81, k82, k83⟩ := kk84
      exact hQ _ hσ72 (⟨k73.trans (k50.trans (k22.trans (k3))), k74.trans (k51.trans (k23.trans (k4))), k75.trans (k52.trans (k24.trans (k5))), k76.trans (k53.trans (k25.trans (k6))), k77.trans (k54.trans (k26.trans (k7))), k78.trans (k55.trans (k27.trans (k8))), k79.trans (k56.trans (k28.trans (k9))), k80.trans (k57.trans (k29.trans (k10))), k81.trans (k58.trans (k30.trans (k11))), k82.trans (k59.trans (k31.trans (k12))), k83.trans (k60.trans (k32.trans (k13)))⟩)
    · have f87 := K1.ga_39 hσ47 x1.toNatClampNeg
      first | have f89 := (notleE (rfl : (σ47.1 39 x1.toNatClampNeg).toInt = (σ47.1 39 x1.toNatClampNeg).toInt) (rfl : y49.toInt = y49.toInt)).mp c66 | skip
      have g91 : vp_in x1 20 := inE (rfl : x1.toInt = x1.toInt) (by omega) (by omega)
      refine ⟨g91, ?_⟩
      have hk92 : r120 (203 + x1.toNatClampNeg) := (r120_in8 g91)
      have hk92x := vp_lt g91
      have hk92b := r120_b hk92
      have g94 : vp_in y49 120 := inE (rfl : y49.toInt = y49.toInt) (by omega) (by omega)
      refine ⟨g94, ?_⟩
      have f95 := K1.gp hσ47 x1.toNatClampNeg y49.toNatClampNeg
      have g96 : vp_in (σ47.1 (203 + x1.toNatClampNeg) y49.toNatClampNeg) 60 := inE (rfl : (σ47.1 (203 + x1.toNatClampNeg) y49.toNatClampNeg).toInt = (σ47.1 (203 + x1.toNatClampNeg) y49.toNatClampNeg).toInt) (by omega) (by omega)
      refine ⟨g96, ?_⟩
      have f97 := K1.ga_42 hσ47 (σ47.1 (203 + x1.toNatClampNeg) y49.toNatClampNeg).toNatClampNeg
      refine sX5_putBits hN ⟨leP (rfl : (σ47.1 42 (σ47.1 (203 + x1.toNatClampNeg) y49.toNatClampNeg).toNatClampNeg).toInt = (σ47.1 42 (σ47.1 (203 + x1.toNatClampNeg) y49.toNatClampNeg).toNatClampNeg).toInt) (by omega), geP (rfl : (σ47.1 42 (σ47.1 (203 + x1.toNatClampNeg) y49.toNatClampNeg).toNatClampNeg).toInt = (σ47.1 42 (σ47.1 (203 + x1.toNatClampNeg) y49.toNatClampNeg).toNatClampNeg).toInt) (by omega)⟩ hσ47 (fun r113 σ100 hσ100 kk112 p114 => ?_)
      obtain ⟨k101, k102, k103, k104, k105, k106, k107, k108, k109, k110, k111⟩ := kk112
      intro v115 ev115
      have f116 := tB r113
      have f117 := tB v115
      first | have f119 : v115.toInt = (y49.toInt + (1)) := (congrArg Int32.toInt ev115).trans (aOkE (rfl : y49.toInt = y49.toInt) (show (1 : Int32).toInt = 1 from by decide) (by omega) (by omega)) | skip
      exact ih46 r113 v115 σ100 ⟨hσ100, k101.trans (k50), k102.trans (k51), k103.trans (k52), k104.trans (k53), k105.trans (k54), k106.trans (k55), k107.trans (k56), k108.trans (k57), k109.trans (k58), k110.trans (k59), k111.trans (k60), by omega⟩ (by (try dsimp only); omega)
  · have f120 := tB (((σ20.1 40 x1.toNatClampNeg) + 7) / 8)
    first | have f122 := (notleE (rfl : (((σ20.1 40 x1.toNatClampNeg) + 7) / 8).toInt = (((σ20.1 40 x1.toNatClampNeg) + 7) / 8).toInt) (rfl : y21.toInt = y21.toInt)).mp c37 | skip
    refine sX3_putByte hN hσ20 (fun σ125 hσ125 kk137 => ?_)
    obtain ⟨k126, k127, k128, k129, k130, k131, k132, k133, k134, k135, k136⟩ := kk137
    intro v138 ev138
    have f139 := tB v138
    first | have f141 : v138.toInt = (y21.toInt + (1)) := (congrArg Int32.toInt ev138).trans (aOkE (rfl : y21.toInt = y21.toInt) (show (1 : Int32).toInt = 1 from by decide) (by omega) (by omega)) | skip
    exact ih19 v138 σ125 ⟨hσ125, k126.trans (k22), k127.trans (k23), k128.trans (k24), k129.trans (k25), k130.trans (k26), k131.trans (k27), k132.trans (k28), k133.trans (k29), k134.trans (k30), k135.trans (k31), k136.trans (k32), by omega⟩ (by (try dsimp only); omega)
set_option maxHeartbeats 4000000 in
theorem sX5_putTexts {N : Nat} (hN : 4294967400 ≤ N) {x1 : Int32} {Q : St → Prop} {σ0 σ : St} (hσ : K1 σ0 σ) (hQ : ∀ τ : St, K1 σ0 τ → (τ.1 3 7 = σ.1 3 7 ∧ τ.1 3 11 = σ.1 3 11 ∧ τ.1 3 6 = σ.1 3 6 ∧ τ.1 9 9 = σ.1 9 9 ∧ τ.1 9 10 = σ.1 9 10 ∧ τ.1 6 5 = σ.1 6 5 ∧ τ.1 7 4 = σ.1 7 4 ∧ τ.1 2 4 = σ.1 2 4 ∧ τ.1 2 5 = σ.1 2 5 ∧ τ.1 2 6 = σ.1 2 6 ∧ τ.1 3 8 = σ.1 3 8) → Q τ) : fX5_putTexts N x1 Q σ := by
  unfold fX5_putTexts
  have f3 := tB x1
  refine lo2_i (fun (y1 : Int32) (y2 : Int32) (τ : St) => K1 σ0 τ ∧ τ.1 3 7 = σ.1 3 7 ∧ τ.1 3 11 = σ.1 3 11 ∧ τ.1 3 6 = σ.1 3 6 ∧ τ.1 9 9 = σ.1 9 9 ∧ τ.1 9 10 = σ.1 9 10 ∧ τ.1 6 5 = σ.1 6 5 ∧ τ.1 7 4 = σ.1 7 4 ∧ τ.1 2 4 = σ.1 2 4 ∧ τ.1 2 5 = σ.1 2 5 ∧ τ.1 2 6 = σ.1 2 6 ∧ τ.1 3 8 = σ.1 3 8 ∧ 0 ≤ y2.toInt) (fun (y1 : Int32) (y2 : Int32) (τ : St) => (2147483648 - y2.toInt).toNat) ?_ N x1 (0 : Int32) σ ⟨hσ, rfl, rfl, rfl, rfl, rfl, rfl, rfl, rfl, rfl, rfl, rfl, by first | decide | (have z0 : (0 : Int32).toInt = 0 := (by decide); omega)⟩ (by have z0 : (0 : Int32).toInt = 0 := (by decide); (try dsimp only); omega)
  intro rr4 y7 y8 σ6 hIσ6 ih5
  obtain ⟨hσ6, k9, k10, k11, k12, k13, k14, k15, k16, k17, k18, k19, i20⟩ := hIσ6
  unfold fX5_putTexts_l4
  have f21 := tB y7
  have f22 := tB y8
  refine ⟨fun c23 => ?_, fun c23 => ?_⟩
  · have f24 := K1.g_7_4 hσ6
    have f25 := congrArg Int32.toInt k15
    have f26 := K1.g_7_4 hσ
    first | have f28 := (leE (rfl : (σ6.1 7 4).toInt = (σ6.1 7 4).toInt) (rfl : y8.toInt = y8.toInt)).mp c23 | skip
    exact hQ _ hσ6 (⟨k9, k10, k11, k12, k13, k14, k15, k16, k17, k18, k19⟩)
  · have f29 := K1.g_7_4 hσ6
    have f30 := congrArg Int32.toInt k15
    have f31 := K1.g_7_4 hσ
    first | have f33 := (notleE (rfl : (σ6.1 7 4).toInt = (σ6.1 7 4).toInt) (rfl : y8.toInt = y8.toInt)).mp c23 | skip
    refine ⟨inE (rfl : y8.toInt = y8.toInt) (by omega) (by omega), ?_⟩
    intro σ35 eσ35
    have hσ35 : K1 σ0 σ35 := by rw [eσ35]; exact hσ6.u (Rg1.ra_25 _ _) (fun q => absurd q.1 (by decide)) (fun q => absurd q.1 (by decide))
    have g37 : vp_in y8 20 := inE (rfl : y8.toInt = y8.toInt) (by omega) (by omega)
    refine ⟨g37, ?_⟩
    intro v38 ev38
    refine ⟨inE (rfl : y8.toInt = y8.toInt) (by omega) (by omega), ?_⟩
    intro σ40 eσ40
    have hσ40 : K1 σ0 σ40 := by rw [eσ40]; exact hσ35.u (Rg1.ra_26 _ _) (fun q => absurd q.1 (by decide)) (fun q => absurd q.1 (by decide))
    refine sX5_putText hN ⟨leP (rfl : y8.toInt = y8.toInt) (by omega), geP (rfl : y8.toInt = y8.toInt) (by omega)⟩ hσ40 (fun σ43 hσ43 kk55 => ?_)
    obtain ⟨k44, k45, k46, k47, k48, k49, k50, k51, k52, k53, k54⟩ := kk55
    have g57 : vp_in y8 20 := inE (rfl : y8.toInt = y8.toInt) (by omega) (by omega)
    refine ⟨g57, ?_⟩
    intro v58 ev58
    intro v59 ev59
    have f60 := tB v58
    have f62 := tB (((σ43.1 40 y8.toNatClampNeg) + 7) / 8)
    first | have f63 : v58.toInt = (y7.toInt + ((1) + (((σ43.1 40 y8.toNatClampNeg) + 7) / 8).toInt)) := (congrArg Int32.toInt ev58).trans (aOkE (rfl : y7.toInt = y7.toInt) (aOkE (show (1 : Int32).toInt = 1 from by decide) (rfl : (((σ43.1 40 y8.toNatClampNeg) + 7) / 8).toInt = (((σ43.1 40 y8.toNatClampNeg) + 7) / 8).toInt) (by omega) (by omega)) (by omega) (by omega)) | skip
    have f64 := tB v59
    first | have f66 : v59.toInt = (y8.toInt + (1)) := (congrArg Int32.toInt ev59).trans (aOkE (rfl : y8.toInt = y8.toInt) (show (1 : Int32).toInt = 1 from by decide) (by omega) (by omega)) | skip
    exact ih5 v58 v59 σ43 ⟨hσ43, k44.trans ((kq (a := 3) (b := 7) eσ40 (fun q => absurd q.1 (by decide))).trans ((kq (a := 3) (b := 7) eσ35 (fun q => absurd q.1 (by decide))).trans (k9))), k45.trans ((kq (a := 3) (b := 11) eσ40 (fun q => absurd q.1 (by decide))).trans ((kq (a := 3) (b := 11) eσ35 (fun q => absurd q.1 (by decide))).trans (k10))), k46.trans ((kq (a := 3) (b := 6) eσ40 (fun q => absurd q.1 (by decide))).trans ((kq (a := 3) (b := 6) eσ35 (fun q => absurd q.1 (by decide))).trans (k11))), k47.trans ((kq (a := 9) (b := 9) eσ40 (fun q => absurd q.1 (by decide))).trans ((kq (a := 9) (b := 9) eσ35 (fun q => absurd q.1 (by decide))).trans (k12))), k48.trans ((kq (a := 9) (b := 10) eσ40 (fun q => absurd q.1 (by decide))).trans ((kq (a := 9) (b := 10) eσ35 (fun q => absurd q.1 (by decide))).trans (k13))), k49.trans ((kq (a := 6) (b := 5) eσ40 (fun q => absurd q.1 (by decide))).trans ((kq (a := 6) (b := 5) eσ35 (fun q => absurd q.1 (by decide))).trans (k14))), k50.trans ((kq (a := 7) (b := 4) eσ40 (fun q => absurd q.1 (by decide))).trans ((kq (a := 7) (b := 4) eσ35 (fun q => absurd q.1 (by decide))).trans (k15))), k51.trans ((kq (a := 2) (b := 4) eσ40 (fun q => absurd q.1 (by decide))).trans ((kq (a := 2) (b := 4) eσ35 (fun q => absurd q.1 (by decide))).trans (k16))), k52.trans ((kq (a := 2) (b := 5) eσ40 (fun q => absurd q.1 (by decide))).trans ((kq (a := 2) (b := 5) eσ35 (fun q => absurd q.1 (by decide))).trans (k17))), k53.trans ((kq (a := 2) (b := 6) eσ40 (fun q => absurd q.1 (by decide))).trans ((kq (a := 2) (b := 6) eσ35 (fun q => absurd q.1 (by decide))).trans (k18))), k54.trans ((kq (a := 3) (b := 8) eσ40 (fun q => absurd q.1 (by decide))).trans ((kq (a := 3) (b := 8) eσ35 (fun q => absurd q.1 (by decide))).trans (k19))), by omega⟩ (by (try dsimp only); omega)
set_option maxHeartbeats 4000000 in
theorem sX5_keepBits {N : Nat} (hN : 4294967400 ≤ N) {Q : St → Prop} {σ0 σ : St} (hσ : K1 σ0 σ) (hQ : ∀ τ : St, K1 σ0 τ → (τ.1 3 7 = σ.1 3 7 ∧ τ.1 3 11 = σ.1 3 11 ∧ τ.1 3 6 = σ.1 3 6 ∧ τ.1 9 9 = σ.1 9 9 ∧ τ.1 9 10 = σ.1 9 10 ∧ τ.1 6 5 = σ.1 6 5 ∧ τ.1 7 4 = σ.1 7 4 ∧ τ.1 2 4 = σ.1 2 4 ∧ τ.1 2 5 = σ.1 2 5 ∧ τ.1 2 6 = σ.1 2 6 ∧ τ.1 3 8 = σ.1 3 8) → Q τ) : fX5_keepBits N  Q σ := by
  unfold fX5_keepBits
  have g1 : vp_in (0 : Int32) 121 := inE (show (0 : Int32).toInt = 0 from by decide) (by omega) (by omega)
  refine ⟨g1, ?_⟩
  intro v2 ev2
  intro σ3 eσ3
  have hσ3 : K1 σ0 σ3 := by rw [eσ3]; exact hσ.u (Rg1.u_4_11 _) (fun q => absurd q.1 (by decide)) (fun q => absurd q.1 (by decide))
  refine lo1_i (fun (y4 : Int32) (τ : St) => K1 σ0 τ ∧ τ.1 3 7 = σ3.1 3 7 ∧ τ.1 3 11 = σ3.1 3 11 ∧ τ.1 3 6 = σ3.1 3 6 ∧ τ.1 9 9 = σ3.1 9 9 ∧ τ.1 9 10 = σ3.1 9 10 ∧ τ.1 6 5 = σ3.1 6 5 ∧ τ.1 7 4 = σ3.1 7 4 ∧ τ.1 2 4 = σ3.1 2 4 ∧ τ.1 2 5 = σ3.1 2 5 ∧ τ.1 2 6 = σ3.1 2 6 ∧ τ.1 3 8 = σ3.1 3 8 ∧ 0 ≤ y4.toInt) (fun (y4 : Int32) (τ : St) => (2147483648 - y4.toInt).toNat) ?_ N (1 : Int32) σ3 ⟨hσ3, rfl, rfl, rfl, rfl, rfl, rfl, rfl, rfl, rfl, rfl, rfl, by first | decide | (have z1 : (1 : Int32).toInt = 1 := (by decide); omega)⟩ (by have z1 : (1 : Int32).toInt = 1 := (by decide); (try dsimp only); omega)
  intro rr5 y8 σ7 hIσ7 ih6
  obtain ⟨hσ7, k9, k10, k11, k12, k13, k14, k15, k16, k17, k18, k19, i20⟩ := hIσ7
  unfold fX5_keepBits_l15
  have f21 := tB y8
  refine ⟨fun c22 => ?_, fun c22 => ?_⟩
  · have f23 := K1.g_9_10 hσ7
    have f24 := congrArg Int32.toInt k13
    have f25 := K1.g_9_10 hσ3
    have q26 : σ3.1 9 10 = σ.1 9 10 := by rw [eσ3]; exact congrFun (u1_ne (by decide)) 10
    have f27 := congrArg Int32.toInt q26
    have f28 := K1.g_9_10 hσ
    first | have f30 := (leE (rfl : (σ7.1 9 10).toInt = (σ7.1 9 10).toInt) (rfl : y8.toInt = y8.toInt)).mp c22 | skip
    exact hQ _ hσ7 (⟨k9.trans ((kq (a := 3) (b := 7) eσ3 (fun q => absurd q.1 (by decide)))), k10.trans ((kq (a := 3) (b := 11) eσ3 (fun q => absurd q.1 (by decide)))), k11.trans ((kq (a := 3) (b := 6) eσ3 (fun q => absurd q.1 (by decide)))), k12.trans ((kq (a := 9) (b := 9) eσ3 (fun q => absurd q.1 (by decide)))), k13.trans ((kq (a := 9) (b := 10) eσ3 (fun q => absurd q.1 (by decide)))), k14.trans ((kq (a := 6) (b := 5) eσ3 (fun q => absurd q.1 (by decide)))), k15.trans ((kq (a := 7) (b := 4) eσ3 (fun q => absurd q.1 (by decide)))), k16.trans ((kq (a := 2) (b := 4) eσ3 (fun q => absurd q.1 (by decide)))), k17.trans ((kq (a := 2) (b := 5) eσ3 (fun q => absurd q.1 (by decide)))), k18.trans ((kq (a := 2) (b := 6) eσ3 (fun q => absurd q.1 (by decide)))), k19.trans ((kq (a := 3) (b := 8) eσ3 (fun q => absurd q.1 (by decide))))⟩)
  · have f31 := K1.g_9_10 hσ7
    have f32 := congrArg Int32.toInt k13
    have f33 := K1.g_9_10 hσ3
    have q34 : σ3.1 9 10 = σ.1 9 10 := by rw [eσ3]; exact congrFun (u1_ne (by decide)) 10
    have f35 := congrArg Int32.toInt q34
    have f36 := K1.g_9_10 hσ
    first | have f38 := (notleE (rfl : (σ7.1 9 10).toInt = (σ7.1 9 10).toInt) (rfl : y8.toInt = y8.toInt)).mp c22 | skip
    have g40 : vp_in y8 121 := inE (rfl : y8.toInt = y8.toInt) (by omega) (by omega)
    refine ⟨g40, ?_⟩
    intro v41 ev41
    refine ⟨fun c42 => ?_, fun c42 => ?_⟩
    · have f43 := tB v41
      have f44 := K1.ga_34 hσ7 y8.toNatClampNeg
      first | have f45 : v41.toInt = (σ7.1 34 y8.toNatClampNeg).toInt := (congrArg Int32.toInt ev41).trans (rfl : (σ7.1 34 y8.toNatClampNeg).toInt = (σ7.1 34 y8.toNatClampNeg).toInt) | skip
      first | have f46 := (ltE (rfl : v41.toInt = v41.toInt) (show (0 : Int32).toInt = 0 from by decide)).mp c42 | skip
      unfold fX5_keepBits_j69
      intro v47 ev47
      have f48 := tB v47
      first | have f50 : v47.toInt = (y8.toInt + (1)) := (congrArg Int32.toInt ev47).trans (aOkE (rfl : y8.toInt = y8.toInt) (show (1 : Int32).toInt = 1 from by decide) (by omega) (by omega)) | skip
      exact ih6 v47 σ7 ⟨hσ7, k9, k10, k11, k12, k13, k14, k15, k16, k17, k18, k19, by omega⟩ (by (try dsimp only); omega)
    · have f51 := tB v41
      have f52 := K1.ga_34 hσ7 y8.toNatClampNeg
      first | have f53 : v41.toInt = (σ7.1 34 y8.toNatClampNeg).toInt := (congrArg Int32.toInt ev41).trans (rfl : (σ7.1 34 y8.toNatClampNeg).toInt = (σ7.1 34 y8.toNatClampNeg).toInt) | skip
      first | have f54 := (notltE (rfl : v41.toInt = v41.toInt) (show (0 : Int32).toInt = 0 from by decide)).mp c42 | skip
      refine ⟨fun c55 => ?_, fun c55 => ?_⟩
      · have f56 := K1.g_6_5 hσ7
        have f57 := congrArg Int32.toInt k14
        have f58 := K1.g_6_5 hσ3
        have q59 : σ3.1 6 5 = σ.1 6 5 := by rw [eσ3]; exact congrFun (u1_ne (by decide)) 5
        have f60 := congrArg Int32.toInt q59
        have f61 := K1.g_6_5 hσ
        first | have f63 := (leE (rfl : (σ7.1 6 5).toInt = (σ7.1 6 5).toInt) (rfl : v41.toInt = v41.toInt)).mp c55 | skip
        unfold fX5_keepBits_j69
        intro v64 ev64
        have f65 := tB v64
        first | have f67 : v64.toInt = (y8.toInt + (1)) := (congrArg Int32.toInt ev64).trans (aOkE (rfl : y8.toInt = y8.toInt) (show (1 : Int32).toInt = 1 from by decide) (by omega) (by omega)) | skip
        exact ih6 v64 σ7 ⟨hσ7, k9, k10, k11, k12, k13, k14, k15, k16, k17, k18, k19, by omega⟩ (by (try dsimp only); omega)
      · have f68 := K1.g_6_5 hσ7
        have f69 := congrArg Int32.toInt k14
        have f70 := K1.g_6_5 hσ3
        have q71 : σ3.1 6 5 = σ.1 6 5 := by rw [eσ3]; exact congrFun (u1_ne (by decide)) 5
        have f72 := congrArg Int32.toInt q71
        have f73 := K1.g_6_5 hσ
        first | have f75 := (notleE (rfl : (σ7.1 6 5).toInt = (σ7.1 6 5).toInt) (rfl : v41.toInt = v41.toInt)).mp c55 | skip
        have g77 : vp_in y8 121 := inE (rfl : y8.toInt = y8.toInt) (by omega) (by omega)
        refine ⟨g77, ?_⟩
        intro v78 ev78
        refine ⟨inE (rfl : v41.toInt = v41.toInt) (by omega) (by omega), ?_⟩
        intro σ80 eσ80
        have hσ80 : K1 σ0 σ80 := by rw [eσ80]; exact hσ7.u (Rg1.ra_22 _ _) (fun q => absurd q.1 (by decide)) (fun q => absurd q.1 (by decide))
        unfold fX5_keepBits_j69
        intro v81 ev81
        have f82 := tB v81
        first | have f84 : v81.toInt = (y8.toInt + (1)) := (congrArg Int32.toInt ev81).trans (aOkE (rfl : y8.toInt = y8.toInt) (show (1 : Int32).toInt = 1 from by decide) (by omega) (by omega)) | skip
        exact ih6 v81 σ80 ⟨hσ80, (kq (a := 3) (b := 7) eσ80 (fun q => absurd q.1 (by decide))).trans (k9), (kq (a := 3) (b := 11) eσ80 (fun q => absurd q.1 (by decide))).trans (k10), (kq (a := 3) (b := 6) eσ80 (fun q => absurd q.1 (by decide))).trans (k11), (kq (a := 9) (b := 9) eσ80 (fun q => absurd q.1 (by decide))).trans (k12), (kq (a := 9) (b := 10) eσ80 (fun q => absurd q.1 (by decide))).trans (k13), (kq (a := 6) (b := 5) eσ80 (fun q => absurd q.1 (by decide))).trans (k14), (kq (a := 7) (b := 4) eσ80 (fun q => absurd q.1 (by decide))).trans (k15), (kq (a := 2) (b := 4) eσ80 (fun q => absurd q.1 (by decide))).trans (k16), (kq (a := 2) (b := 5) eσ80 (fun q => absurd q.1 (by decide))).trans (k17), (kq (a := 2) (b := 6) eσ80 (fun q => absurd q.1 (by decide))).trans (k18), (kq (a := 3) (b := 8) eσ80 (fun q => absurd q.1 (by decide))).trans (k19), by omega⟩ (by (try dsimp only); omega)
set_option maxHeartbeats 4000000 in
theorem sX5_pack {N : Nat} (hN : 4294967400 ≤ N) {x1 : Int32} {Q : Int32 → St → Prop} {σ0 σ : St} (hσ : K1 σ0 σ) (hQ : ∀ (r : Int32) (τ : St), K1 σ0 τ → (τ.1 3 7 = σ.1 3 7 ∧ τ.1 3 11 = σ.1 3 11 ∧ τ.1 3 6 = σ.1 3 6 ∧ τ.1 6 5 = σ.1 6 5 ∧ τ.1 7 4 = σ.1 7 4 ∧ τ.1 2 4 = σ.1 2 4 ∧ τ.1 3 8 = σ.1 3 8) → True → Q r τ) : fX5_pack N x1 Q σ := by
  unfold fX5_pack
  refine sX5_partTexts hN hσ (fun σ1 hσ1 kk13 => ?_)
  obtain ⟨k2, k3, k4, k5, k6, k7, k8, k9, k10, k11, k12⟩ := kk13
  refine sX5_growTree hN hσ1 (fun σ14 hσ14 kk24 => ?_)
  obtain ⟨k15, k16, k17, k18, k19, k20, k21, k22, k23⟩ := kk24
  have f25 := tB x1
  refine sX0_spread hN hσ14 (fun σ26 hσ26 kk38 => ?_)
  obtain ⟨k27, k28, k29, k30, k31, k32, k33, k34, k35, k36, k37⟩ := kk38
  refine sX0_size hN hσ26 (fun r52 p53 => ?_)
  have f58 := tB r52
  refine lo3_i (fun (y54 : Int32) (y55 : Int32) (y56 : Int32) (τ : St) => K1 σ0 τ ∧ τ.1 3 7 = σ26.1 3 7 ∧ τ.1 3 11 = σ26.1 3 11 ∧ τ.1 3 6 = σ26.1 3 6 ∧ τ.1 9 9 = σ26.1 9 9 ∧ τ.1 9 10 = σ26.1 9 10 ∧ τ.1 6 5 = σ26.1 6 5 ∧ τ.1 7 4 = σ26.1 7 4 ∧ τ.1 2 4 = σ26.1 2 4 ∧ τ.1 2 5 = σ26.1 2 5 ∧ τ.1 2 6 = σ26.1 2 6 ∧ τ.1 3 8 = σ26.1 3 8 ∧ 0 ≤ y56.toInt) (fun (y54 : Int32) (y55 : Int32) (y56 : Int32) (τ : St) => (2147483648 - y56.toInt).toNat) ?_ N r52 (0 : Int32) (0 : Int32) σ26 ⟨hσ26, rfl, rfl, rfl, rfl, rfl, rfl, rfl, rfl, rfl, rfl, rfl, by first | decide | (have z0 : (0 : Int32).toInt = 0 := (by decide); omega)⟩ (by have z0 : (0 : Int32).toInt = 0 := (by decide); (try dsimp only); omega)
  intro rr59 y62 y63 y64 σ61 hIσ61 ih60
  obtain ⟨hσ61, k65, k66, k67, k68, k69, k70, k71, k72, k73, k74, k75, i76⟩ := hIσ61
  unfold fX5_pack_l29
  have f77 := tB y62
  have f78 := tB y63
  have f79 := tB y64
  refine ⟨fun c80 => ?_, fun c80 => ?_⟩
  · have f81 := K1.g_7_4 hσ61
    have f82 := congrArg Int32.toInt k71
    have f83 := K1.g_7_4 hσ26
    have f84 := congrArg Int32.toInt k33
    have f85 := K1.g_7_4 hσ14
    have f86 := congrArg Int32.toInt k19
    have f87 := K1.g_7_4 hσ1
    have f88 := congrArg Int32.toInt k8
    have f89 := K1.g_7_4 hσ
    first | have f91 := (leE (rfl : (σ61.1 7 4).toInt = (σ61.1 7 4).toInt) (rfl : y64.toInt = y64.toInt)).mp c80 | skip
    refine ⟨fun c92 => ?_, fun c92 => ?_⟩
    · first | have f95 := (leE (rfl : x1.toInt = x1.toInt) (sOkE (show (4096 : Int32).toInt = 4096 from by decide) (rfl : y62.toInt = y62.toInt) (by omega) (by omega))).mp c92 | skip
      refine sX0_putNodes hN hσ61 (fun σ97 hσ97 kk109 => ?_)
      obtain ⟨k98, k99, k100, k101, k102, k103, k104, k105, k106, k107, k108⟩ := kk109
      refine sX0_size hN hσ97 (fun r123 p124 => ?_)
      have f126 := tB r123
      refine sX5_putTexts hN hσ97 (fun σ127 hσ127 kk139 => ?_)
      obtain ⟨k128, k129, k130, k131, k132, k133, k134, k135, k136, k137, k138⟩ := kk139
      refine sX5_keepBits hN hσ127 (fun σ140 hσ140 kk152 => ?_)
      obtain ⟨k141, k142, k143, k144, k145, k146, k147, k148, k149, k150, k151⟩ := kk152
      refine sX8_dropIfTouched hN hσ140 (fun σ156 hσ156 kk166 => ?_)
      obtain ⟨k157, k158, k159, k160, k161, k162, k163, k164, k165⟩ := kk166
      exact hQ _ _ hσ156 (⟨k157.trans (k141.trans (k128.trans (k98.trans (k65.trans (k27.trans (k15.trans (k2))))))), k158.trans (k142.trans (k129.trans (k99.trans (k66.trans (k28.trans (k16.trans (k3))))))), k159.trans (k143.trans (k130.trans (k100.trans (k67.trans (k29.trans (k17.trans (k4))))))), k162.trans (k146.trans (k133.trans (k103.trans (k70.trans (k32.trans (k18.trans (k7))))))), k163.trans (k147.trans (k134.trans (k104.trans (k71.trans (k33.trans (k19.trans (k8))))))), k164.trans (k148.trans (k135.trans (k105.trans (k72.trans (k34.trans (k20.trans (k9))))))), k165.trans (k151.trans (k138.trans (k108.trans (k75.trans (k37.trans (k23.trans (k12)))))))⟩) trivial
    · first | have f169 := (notleE (rfl : x1.toInt = x1.toInt) (sOkE (show (4096 : Int32).toInt = 4096 from by decide) (rfl : y62.toInt = y62.toInt) (by omega) (by omega))).mp c92 | skip
      exact hQ _ _ hσ61 (⟨k65.trans (k27.trans (k15.trans (k2))), k66.trans (k28.trans (k16.trans (k3))), k67.trans (k29.trans (k17.trans (k4))), k70.trans (k32.trans (k18.trans (k7))), k71.trans (k33.trans (k19.trans (k8))), k72.trans (k34.trans (k20.trans (k9))), k75.trans (k37.trans (k23.trans (k12)))⟩) trivial
  · have f170 := K1.g_7_4 hσ61
    have f171 := congrArg Int32.toInt k71
    have f172 := K1.g_7_4 hσ26
    have f173 := congrArg Int32.toInt k33
    have f174 := K1.g_7_4 hσ14
    have f175 := congrArg Int32.toInt k19
    have f176 := K1.g_7_4 hσ1
    have f177 := congrArg Int32.toInt k8
    have f178 := K1.g_7_4 hσ
    first | have f180 := (notleE (rfl : (σ61.1 7 4).toInt = (σ61.1 7 4).toInt) (rfl : y64.toInt = y64.toInt)).mp c80 | skip
    refine sX5_countBits hN ⟨leP (rfl : y64.toInt = y64.toInt) (by omega), geP (rfl : y64.toInt = y64.toInt) (by omega)⟩ hσ61 (fun r195 p196 => ?_)
    refine ⟨inE (rfl : y64.toInt = y64.toInt) (by omega) (by omega), ?_⟩
    intro σ198 eσ198
    have hσ198 : K1 σ0 σ198 := by rw [eσ198]; exact hσ61.u (Rg1.ra_40 _ _) (fun q => absurd q.1 (by decide)) (fun q => absurd q.1 (by decide))
    have g200 : vp_in y64 20 := inE (rfl : y64.toInt = y64.toInt) (by omega) (by omega)
    refine ⟨g200, ?_⟩
    intro v201 ev201
    have g203 : vp_in y64 20 := inE (rfl : y64.toInt = y64.toInt) (by omega) (by omega)
    refine ⟨g203, ?_⟩
    intro v204 ev204
    intro v205 ev205
    have f206 := tB v204
    have f208 := tB (((σ198.1 40 y64.toNatClampNeg) + 7) / 8)
    first | have f209 : v204.toInt = (y62.toInt + ((1) + (((σ198.1 40 y64.toNatClampNeg) + 7) / 8).toInt)) := (congrArg Int32.toInt ev204).trans (aOkE (rfl : y62.toInt = y62.toInt) (aOkE (show (1 : Int32).toInt = 1 from by decide) (rfl : (((σ198.1 40 y64.toNatClampNeg) + 7) / 8).toInt = (((σ198.1 40 y64.toNatClampNeg) + 7) / 8).toInt) (by omega) (by omega)) (by omega) (by omega)) | skip
    have f210 := tB v201
    have f212 := tB (σ198.1 40 y64.toNatClampNeg)
    first | have f213 : v201.toInt = (y63.toInt + (σ198.1 40 y64.toNatClampNeg).toInt) := (congrArg Int32.toInt ev201).trans (aOkE (rfl : y63.toInt = y63.toInt) (rfl : (σ198.1 40 y64.toNatClampNeg).toInt = (σ198.1 40 y64.toNatClampNeg).toInt) (by omega) (by omega)) | skip
    have f214 := tB v205
    first | have f216 : v205.toInt = (y64.toInt + (1)) := (congrArg Int32.toInt ev205).trans (aOkE (rfl : y64.toInt = y64.toInt) (show (1 : Int32).toInt = 1 from by decide) (by omega) (by omega)) | skip
    exact ih60 v204 v201 v205 σ198 ⟨hσ198, (kq (a := 3) (b := 7) eσ198 (fun q => absurd q.1 (by decide))).trans (k65), (kq (a := 3) (b := 11) eσ198 (fun q => absurd q.1 (by decide))).trans (k66), (kq (a := 3) (b := 6) eσ198 (fun q => absurd q.1 (by decide))).trans (k67), (kq (a := 9) (b := 9) eσ198 (fun q => absurd q.1 (by decide))).trans (k68), (kq (a := 9) (b := 10) eσ198 (fun q => absurd q.1 (by decide))).trans (k69), (kq (a := 6) (b := 5) eσ198 (fun q => absurd q.1 (by decide))).trans (k70), (kq (a := 7) (b := 4) eσ198 (fun q => absurd q.1 (by decide))).trans (k71), (kq (a := 2) (b := 4) eσ198 (fun q => absurd q.1 (by decide))).trans (k72), (kq (a := 2) (b := 5) eσ198 (fun q => absurd q.1 (by decide))).trans (k73), (kq (a := 2) (b := 6) eσ198 (fun q => absurd q.1 (by decide))).trans (k74), (kq (a := 3) (b := 8) eσ198 (fun q => absurd q.1 (by decide))).trans (k75), by omega⟩ (by (try dsimp only); omega)
set_option maxHeartbeats 4000000 in
theorem sX11_tree {N : Nat} (hN : 4294967400 ≤ N) {x1 : Int32} {Q : Int32 → St → Prop} {σ0 σ : St} (hσ : K1 σ0 σ) (hQ : ∀ (r : Int32) (τ : St), K1 σ0 τ → (τ.1 3 7 = σ.1 3 7 ∧ τ.1 3 11 = σ.1 3 11 ∧ τ.1 3 6 = σ.1 3 6 ∧ τ.1 6 5 = σ.1 6 5 ∧ τ.1 7 4 = σ.1 7 4 ∧ τ.1 2 4 = σ.1 2 4 ∧ τ.1 3 8 = σ.1 3 8) → True → Q r τ) : fX11_tree N x1 Q σ := by
  unfold fX11_tree
  refine ⟨fun c1 => ?_, fun c1 => ?_⟩
  · have f2 := tB x1
    first | have f3 := (leE (show (0 : Int32).toInt = 0 from by decide) (rfl : x1.toInt = x1.toInt)).mp c1 | skip
    refine ⟨fun c4 => ?_, fun c4 => ?_⟩
    · have f5 := K1.g_7_4 hσ
      first | have f6 := (eqE (rfl : (σ.1 7 4).toInt = (σ.1 7 4).toInt) (show (0 : Int32).toInt = 0 from by decide)).mp c4 | skip
      exact hQ _ _ hσ (⟨rfl, rfl, rfl, rfl, rfl, rfl, rfl⟩) trivial
    · have f7 := K1.g_7_4 hσ
      first | have f8 := (noteqE (rfl : (σ.1 7 4).toInt = (σ.1 7 4).toInt) (show (0 : Int32).toInt = 0 from by decide)).mp c4 | skip
      refine sX5_pack hN hσ (fun r19 σ10 hσ10 kk18 p20 => ?_)
      obtain ⟨k11, k12, k13, k14, k15, k16, k17⟩ := kk18
      exact hQ _ _ hσ10 (⟨k11, k12, k13, k14, k15, k16, k17⟩) trivial
  · have f21 := tB x1
    first | have f22 := (notleE (show (0 : Int32).toInt = 0 from by decide) (rfl : x1.toInt = x1.toInt)).mp c1 | skip
    exact hQ _ _ hσ (⟨rfl, rfl, rfl, rfl, rfl, rfl, rfl⟩) trivial
set_option maxHeartbeats 4000000 in
theorem sX11_laid {N : Nat} (hN : 4294967400 ≤ N) {x1 : Int32} {x2 : Int32} {Q : Int32 → St → Prop} {σ0 σ : St} (hσ : K1 σ0 σ) (hQ : ∀ (r : Int32) (τ : St), K1 σ0 τ → (τ.1 3 7 = σ.1 3 7 ∧ τ.1 3 11 = σ.1 3 11 ∧ τ.1 3 6 = σ.1 3 6 ∧ τ.1 9 9 = σ.1 9 9 ∧ τ.1 9 10 = σ.1 9 10 ∧ τ.1 6 5 = σ.1 6 5 ∧ τ.1 7 4 = σ.1 7 4 ∧ τ.1 2 4 = σ.1 2 4 ∧ τ.1 2 5 = σ.1 2 5 ∧ τ.1 2 6 = σ.1 2 6 ∧ τ.1 3 8 = σ.1 3 8) → True → Q r τ) : fX11_laid N x1 x2 Q σ := by
  unfold fX11_laid
  refine ⟨fun c1 => ?_, fun c1 => ?_⟩
  · have f2 := tB x1
    first | have f3 := (ltE (rfl : x1.toInt = x1.toInt) (show (0 : Int32).toInt = 0 from by decide)).mp c1 | skip
    exact hQ _ _ hσ (⟨rfl, rfl, rfl, rfl, rfl, rfl, rfl, rfl, rfl, rfl, rfl⟩) trivial
  · have f4 := tB x1
    first | have f5 := (notltE (rfl : x1.toInt = x1.toInt) (show (0 : Int32).toInt = 0 from by decide)).mp c1 | skip
    refine ⟨fun c6 => ?_, fun c6 => ?_⟩
    · have f8 := K1.g_7_4 hσ
      first | have f9 := (ltE (rfl : x1.toInt = x1.toInt) (rfl : (σ.1 7 4).toInt = (σ.1 7 4).toInt)).mp c6 | skip
      refine ⟨fun c10 => ?_, fun c10 => ?_⟩
      · have f11 := tB x2
        first | have f12 := (eqE (rfl : x2.toInt = x2.toInt) (show (0 : Int32).toInt = 0 from by decide)).mp c10 | skip
        have g14 : vp_in x1 20 := inE (rfl : x1.toInt = x1.toInt) (by omega) (by omega)
        refine ⟨g14, ?_⟩
        exact hQ _ _ hσ (⟨rfl, rfl, rfl, rfl, rfl, rfl, rfl, rfl, rfl, rfl, rfl⟩) trivial
      · have f15 := tB x2
        first | have f16 := (noteqE (rfl : x2.toInt = x2.toInt) (show (0 : Int32).toInt = 0 from by decide)).mp c10 | skip
        refine ⟨fun c17 => ?_, fun c17 => ?_⟩
        · first | have f19 := (eqE (rfl : x2.toInt = x2.toInt) (show (1 : Int32).toInt = 1 from by decide)).mp c17 | skip
          have g21 : vp_in x1 20 := inE (rfl : x1.toInt = x1.toInt) (by omega) (by omega)
          refine ⟨g21, ?_⟩
          exact hQ _ _ hσ (⟨rfl, rfl, rfl, rfl, rfl, rfl, rfl, rfl, rfl, rfl, rfl⟩) trivial
        · first | have f23 := (noteqE (rfl : x2.toInt = x2.toInt) (show (1 : Int32).toInt = 1 from by decide)).mp c17 | skip
          refine ⟨fun c24 => ?_, fun c24 => ?_⟩
          · first | have f26 := (eqE (rfl : x2.toInt = x2.toInt) (show (2 : Int32).toInt = 2 from by decide)).mp c24 | skip
            have g28 : vp_in x1 20 := inE (rfl : x1.toInt = x1.toInt) (by omega) (by omega)
            refine ⟨g28, ?_⟩
            have hk29 : r120 (183 + x1.toNatClampNeg) := (r120_in3 g28)
            have hk29x := vp_lt g28
            have hk29b := r120_b hk29
            have g31 : vp_in x1 20 := inE (rfl : x1.toInt = x1.toInt) (by omega) (by omega)
            refine ⟨g31, ?_⟩
            have f32 := tB (σ.1 24 x1.toNatClampNeg)
            refine sX6_part hN hk29 hσ (fun r46 σ33 hσ33 kk45 p47 => ?_)
            obtain ⟨k34, k35, k36, k37, k38, k39, k40, k41, k42, k43, k44⟩ := kk45
            exact hQ _ _ hσ33 (⟨k34, k35, k36, k37, k38, k39, k40, k41, k42, k43, k44⟩) trivial
          · first | have f49 := (noteqE (rfl : x2.toInt = x2.toInt) (show (2 : Int32).toInt = 2 from by decide)).mp c24 | skip
            exact hQ _ _ hσ (⟨rfl, rfl, rfl, rfl, rfl, rfl, rfl, rfl, rfl, rfl, rfl⟩) trivial
    · have f51 := K1.g_7_4 hσ
      first | have f52 := (notltE (rfl : x1.toInt = x1.toInt) (rfl : (σ.1 7 4).toInt = (σ.1 7 4).toInt)).mp c6 | skip
      exact hQ _ _ hσ (⟨rfl, rfl, rfl, rfl, rfl, rfl, rfl, rfl, rfl, rfl, rfl⟩) trivial
set_option maxHeartbeats 4000000 in
theorem sX11_bits {N : Nat} (hN : 4294967400 ≤ N) {x1 : Int32} {Q : Int32 → St → Prop} {σ0 σ : St} (hσ : K1 σ0 σ) (hQ : ∀ r : Int32, True → Q r σ) : fX11_bits N x1 Q σ := by
  unfold fX11_bits
  refine ⟨fun c1 => ?_, fun c1 => ?_⟩
  · have f2 := tB x1
    first | have f3 := (eqE (rfl : x1.toInt = x1.toInt) (show ((-1) : Int32).toInt = -1 from by decide)).mp c1 | skip
    exact hQ _ trivial
  · have f4 := tB x1
    first | have f5 := (noteqE (rfl : x1.toInt = x1.toInt) (show ((-1) : Int32).toInt = -1 from by decide)).mp c1 | skip
    refine ⟨fun c6 => ?_, fun c6 => ?_⟩
    · first | have f8 := (ltE (rfl : x1.toInt = x1.toInt) (show (0 : Int32).toInt = 0 from by decide)).mp c6 | skip
      exact hQ _ trivial
    · first | have f10 := (notltE (rfl : x1.toInt = x1.toInt) (show (0 : Int32).toInt = 0 from by decide)).mp c6 | skip
      refine ⟨fun c11 => ?_, fun c11 => ?_⟩
      · have f13 := K1.g_6_5 hσ
        first | have f14 := (ltE (rfl : x1.toInt = x1.toInt) (rfl : (σ.1 6 5).toInt = (σ.1 6 5).toInt)).mp c11 | skip
        have g16 : vp_in x1 60 := inE (rfl : x1.toInt = x1.toInt) (by omega) (by omega)
        refine ⟨g16, ?_⟩
        exact hQ _ trivial
      · have f18 := K1.g_6_5 hσ
        first | have f19 := (notltE (rfl : x1.toInt = x1.toInt) (rfl : (σ.1 6 5).toInt = (σ.1 6 5).toInt)).mp c11 | skip
        exact hQ _ trivial
set_option maxHeartbeats 4000000 in
theorem sX11_forget {N : Nat} (hN : 4294967400 ≤ N) {Q : Int32 → St → Prop} {σ0 σ : St} (hσ : K1 σ0 σ) (hQ : ∀ (r : Int32) (τ : St), K1 σ0 τ → (τ.1 3 7 = σ.1 3 7 ∧ τ.1 3 11 = σ.1 3 11 ∧ τ.1 3 6 = σ.1 3 6 ∧ τ.1 9 9 = σ.1 9 9 ∧ τ.1 9 10 = σ.1 9 10 ∧ τ.1 2 4 = σ.1 2 4 ∧ τ.1 2 5 = σ.1 2 5 ∧ τ.1 2 6 = σ.1 2 6 ∧ τ.1 3 8 = σ.1 3 8) → True → Q r τ) : fX11_forget N  Q σ := by
  unfold fX11_forget
  intro v1 ev1
  intro σ2 eσ2
  have hσ2 : K1 σ0 σ2 := by rw [eσ2]; exact hσ.u (Rg1.r_6_5 (leP (show (0 : Int32).toInt = 0 from by decide) (by omega)) (geP (show (0 : Int32).toInt = 0 from by decide) (by omega))) (fun q => absurd q.1 (by decide)) (fun q => absurd q.1 (by decide))
  intro σ3 eσ3
  have hσ3 : K1 σ0 σ3 := by rw [eσ3]; exact hσ2.u (Rg1.r_7_4 (leP (show (0 : Int32).toInt = 0 from by decide) (by omega)) (geP (show (0 : Int32).toInt = 0 from by decide) (by omega))) (fun q => absurd q.1 (by decide)) (fun q => absurd q.1 (by decide))
  exact hQ _ _ hσ3 (⟨(kq (a := 3) (b := 7) eσ3 (fun q => absurd q.1 (by decide))).trans ((kq (a := 3) (b := 7) eσ2 (fun q => absurd q.1 (by decide)))), (kq (a := 3) (b := 11) eσ3 (fun q => absurd q.1 (by decide))).trans ((kq (a := 3) (b := 11) eσ2 (fun q => absurd q.1 (by decide)))), (kq (a := 3) (b := 6) eσ3 (fun q => absurd q.1 (by decide))).trans ((kq (a := 3) (b := 6) eσ2 (fun q => absurd q.1 (by decide)))), (kq (a := 9) (b := 9) eσ3 (fun q => absurd q.1 (by decide))).trans ((kq (a := 9) (b := 9) eσ2 (fun q => absurd q.1 (by decide)))), (kq (a := 9) (b := 10) eσ3 (fun q => absurd q.1 (by decide))).trans ((kq (a := 9) (b := 10) eσ2 (fun q => absurd q.1 (by decide)))), (kq (a := 2) (b := 4) eσ3 (fun q => absurd q.1 (by decide))).trans ((kq (a := 2) (b := 4) eσ2 (fun q => absurd q.1 (by decide)))), (kq (a := 2) (b := 5) eσ3 (fun q => absurd q.1 (by decide))).trans ((kq (a := 2) (b := 5) eσ2 (fun q => absurd q.1 (by decide)))), (kq (a := 2) (b := 6) eσ3 (fun q => absurd q.1 (by decide))).trans ((kq (a := 2) (b := 6) eσ2 (fun q => absurd q.1 (by decide)))), (kq (a := 3) (b := 8) eσ3 (fun q => absurd q.1 (by decide))).trans ((kq (a := 3) (b := 8) eσ2 (fun q => absurd q.1 (by decide))))⟩) trivial
