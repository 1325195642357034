set_option maxHeartbeats 4000000 in
theorem sX6_part {N : Nat} (hN : 4294967400 ≤ N) {k1 : Nat} {x2 : Int32} (hk1 : r120 k1) {Q : Int32 → St → Prop} {σ0 σ : St} (hσ : K1 σ0 σ) (hQ : ∀ (r : Int32) (τ : St), K1 σ0 τ → (τ.1 3 7 = σ.1 3 7 ∧ τ.1 3 11 = σ.1 3 11 ∧ τ.1 3 6 = σ.1 3 6 ∧ τ.1 9 9 = σ.1 9 9 ∧ τ.1 9 10 = σ.1 9 10 ∧ τ.1 6 5 = σ.1 6 5 ∧ τ.1 7 4 = σ.1 7 4 ∧ τ.1 2 4 = σ.1 2 4 ∧ τ.1 2 5 = σ.1 2 5 ∧ τ.1 2 6 = σ.1 2 6 ∧ τ.1 3 8 = σ.1 3 8) → True → Q r τ) : fX6_part N k1 x2 Q σ := by
  unfold fX6_part
  have kbhk1 := r120_b hk1
  refine ⟨fun c1 => ?_, fun c1 => ?_⟩
  · have f2 := tB x2
    have f3 : (0 : Int32).toInt = 0 := by decide
    have f4 := Int32.lt_iff_toInt_lt.mp c1
    exact hQ _ _ hσ (⟨rfl, rfl, rfl, rfl, rfl, rfl, rfl, rfl, rfl, rfl, rfl⟩) trivial
  · have f5 := tB x2
    have f6 : (0 : Int32).toInt = 0 := by decide
    have f7 := mt Int32.lt_iff_toInt_lt.mpr c1
    refine ⟨fun c8 => ?_, fun c8 => ?_⟩
    · have f9 : (120 : Int32).toInt = 120 := by decide
      have f11 := Int32.lt_iff_toInt_lt.mp c8
      exact hQ _ _ hσ (⟨rfl, rfl, rfl, rfl, rfl, rfl, rfl, rfl, rfl, rfl, rfl⟩) trivial
    · have f12 : (120 : Int32).toInt = 120 := by decide
      have f14 := mt Int32.lt_iff_toInt_lt.mpr c8
      refine ⟨fun c15 => ?_, fun c15 => ?_⟩
      · have f18 := Int32.le_iff_toInt_le.mp c15
        refine ⟨inI (by omega) (by omega), ?_⟩
        intro σ20 eσ20
        have hσ20 : K1 σ0 σ20 := by rw [eσ20]; exact hσ.u (Rg1.ra_27 _ _) (by omega) (by omega)
        intro v21 ev21
        have f24 := tB v21
        have f26 : (1 : Int32).toInt = 1 := by decide
        first | have f27 := sOk (a := x2) (b := 1) (by omega) (by omega) | have f27 := tS x2 (1 : Int32)
        have f28 := tB (x2 - 1)
        have f29 := congrArg Int32.toInt ev21
        refine lo1_i (fun (y22 : Int32) (τ : St) => K1 σ0 τ ∧ τ.1 3 7 = σ20.1 3 7 ∧ τ.1 3 11 = σ20.1 3 11 ∧ τ.1 3 6 = σ20.1 3 6 ∧ τ.1 9 9 = σ20.1 9 9 ∧ τ.1 9 10 = σ20.1 9 10 ∧ τ.1 6 5 = σ20.1 6 5 ∧ τ.1 7 4 = σ20.1 7 4 ∧ τ.1 2 4 = σ20.1 2 4 ∧ τ.1 2 5 = σ20.1 2 5 ∧ τ.1 2 6 = σ20.1 2 6 ∧ τ.1 3 8 = σ20.1 3 8 ∧ -1 ≤ y22.toInt ∧ y22.toInt ≤ 119) (fun (y22 : Int32) (τ : St) => (y22.toInt + 2147483649).toNat) ?_ N v21 σ20 ⟨hσ20, rfl, rfl, rfl, rfl, rfl, rfl, rfl, rfl, rfl, rfl, rfl, by omega, by omega⟩ (by (try dsimp only); omega)
        intro rr30 y33 σ32 hIσ32 ih31
        obtain ⟨hσ32, k34, k35, k36, k37, k38, k39, k40, k41, k42, k43, k44, i45, i46⟩ := hIσ32
        unfold fX6_part_l29
        have f47 := tB y33
        refine ⟨fun c48 => ?_, fun c48 => ?_⟩
        · have f51 := Int32.lt_iff_toInt_lt.mp c48
          have g53 : vp_in (0 : Int32) 121 := inI (by omega) (by omega)
          refine ⟨g53, ?_⟩
          refine ⟨fun c54 => ?_, fun c54 => ?_⟩
          · have f55 : (121 : Int32).toInt = 121 := by decide
            have f56 := tB (σ32.1 27 (0 : Int32).toNatClampNeg)
            have f57 := Int32.le_iff_toInt_le.mp c54
            exact hQ _ _ hσ32 (⟨k34.trans ((kq (a := 3) (b := 7) eσ20 (by omega))), k35.trans ((kq (a := 3) (b := 11) eσ20 (by omega))), k36.trans ((kq (a := 3) (b := 6) eσ20 (by omega))), k37.trans ((kq (a := 9) (b := 9) eσ20 (by omega))), k38.trans ((kq (a := 9) (b := 10) eσ20 (by omega))), k39.trans ((kq (a := 6) (b := 5) eσ20 (by omega))), k40.trans ((kq (a := 7) (b := 4) eσ20 (by omega))), k41.trans ((kq (a := 2) (b := 4) eσ20 (by omega))), k42.trans ((kq (a := 2) (b := 5) eσ20 (by omega))), k43.trans ((kq (a := 2) (b := 6) eσ20 (by omega))), k44.trans ((kq (a := 3) (b := 8) eσ20 (by omega)))⟩) trivial
          · have f58 : (121 : Int32).toInt = 121 := by decide
            have f59 := tB (σ32.1 27 (0 : Int32).toNatClampNeg)
            have f60 := mt Int32.le_iff_toInt_le.mpr c54
            have g62 : vp_in (0 : Int32) 121 := inI (by omega) (by omega)
            refine ⟨g62, ?_⟩
            exact hQ _ _ hσ32 (⟨k34.trans ((kq (a := 3) (b := 7) eσ20 (by omega))), k35.trans ((kq (a := 3) (b := 11) eσ20 (by omega))), k36.trans ((kq (a := 3) (b := 6) eσ20 (by omega))), k37.trans ((kq (a := 9) (b := 9) eσ20 (by omega))), k38.trans ((kq (a := 9) (b := 10) eσ20 (by omega))), k39.trans ((kq (a := 6) (b := 5) eσ20 (by omega))), k40.trans ((kq (a := 7) (b := 4) eσ20 (by omega))), k41.trans ((kq (a := 2) (b := 4) eσ20 (by omega))), k42.trans ((kq (a := 2) (b := 5) eσ20 (by omega))), k43.trans ((kq (a := 2) (b := 6) eσ20 (by omega))), k44.trans ((kq (a := 3) (b := 8) eσ20 (by omega)))⟩) trivial
        · have f65 := mt Int32.lt_iff_toInt_lt.mpr c48
          refine sX6_choose hN hk1 ⟨by omega, by omega⟩ ⟨by omega, by omega⟩ hσ32 (fun σ68 hσ68 kk80 => ?_)
          obtain ⟨k69, k70, k71, k72, k73, k74, k75, k76, k77, k78, k79⟩ := kk80
          intro v81 ev81
          have f82 := tB v81
          have f84 := dec1 (y := y33) (by omega)
          have f85 := congrArg Int32.toInt ev81
          exact ih31 v81 σ68 ⟨hσ68, k69.trans (k34), k70.trans (k35), k71.trans (k36), k72.trans (k37), k73.trans (k38), k74.trans (k39), k75.trans (k40), k76.trans (k41), k77.trans (k42), k78.trans (k43), k79.trans (k44), by omega, by omega⟩ (by (try dsimp only); omega)
      · have f88 := mt Int32.le_iff_toInt_le.mpr c15
        exact hQ _ _ hσ (⟨rfl, rfl, rfl, rfl, rfl, rfl, rfl, rfl, rfl, rfl, rfl⟩) trivial
