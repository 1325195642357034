section SIM23
/-- what telling the tree leaves of the rest -/
def Fl (x : Int32) (σ τ : St) : Prop := (∀ c i : Nat, ¬ (c = 4 ∨ c = 5 ∨ (c = 0 ∧ (i = 6 ∨ i = 7))) → τ.1 c i = σ.1 c i) ∧ (∀ c i : Nat, ¬ (c = 0 ∧ i = 8) → τ.2 c i = σ.2 c i) ∧ τ.1 0 6 = x
theorem Fl.u {x : Int32} {σ τ υ : St} (h : Fl x σ τ) {k j : Nat} {v : Int32} (e : υ = u1 τ k j v) (hk : k = 4 ∨ k = 5 ∨ (k = 0 ∧ j = 7)) : Fl x σ υ := by
  refine ⟨fun c i q => ?_, fun c i q => ?_, ?_⟩
  · rw [e, u1e (by omega)]
    exact h.1 c i q
  · rw [e]
    exact h.2.1 c i q
  · rw [e, u1e (by omega)]
    exact h.2.2
set_option maxHeartbeats 1000000 in
theorem s_lies {N : Nat} (hN : 4294967400 ≤ N) {x1 : Int32} {Q : St → Prop} {σ : St} (hσ : G2 σ) (hQ' : ∀ τ : St, G2 τ → Fl x1 σ τ → Q τ) : fX12_lies N x1 Q σ := by
  have z0 : (0 : Int32).toInt = 0 := by decide
  have z12 : (12 : Int64).toInt = 12 := by decide
  have z8L : (8 : Int64).toInt = 8 := by decide
  have z1L : (1 : Int64).toInt = 1 := by decide
  have z5L : (5 : Int64).toInt = 5 := by decide
  have z9L : (9 : Int64).toInt = 9 := by decide
  unfold fX12_lies
  intro σ1 e1 σ2 e2
  have k1 : G2 σ1 := by rw [e1]; exact hσ.uf (Rg2.u_0_6 _) (by decide)
  have k2 : G2 σ2 := by rw [e2]; exact k1.uf (Rg2.u_0_7 _) (by decide)
  have l1 : Fl x1 σ σ1 := ⟨fun c i q => by rw [e1, u1e (by omega)], fun c i q => by rw [e1]; rfl, by rw [e1, u1v]⟩
  have l2 : Fl x1 σ σ2 := l1.u e2 (by omega)
  have b3 := K2.g_0_1 (K2.self k2)
  have b1 := tB x1
  have e64 : x1.toInt64.toInt = x1.toInt := i2lE rfl
  have f12 : (x1.toInt64 + 12).toInt = x1.toInt + 12 := aOkE64 e64 z12 (by omega) (by omega)
  have f8 : (x1.toInt64 + 8).toInt = x1.toInt + 8 := aOkE64 e64 z8L (by omega) (by omega)
  refine ⟨fun _ => hQ' _ k2 l2, fun c1 => ⟨fun cb => ?_, fun _ => hQ' _ k2 l2⟩⟩
  have f1 := (notleE (rfl : x1.toInt = x1.toInt) z0).mp c1
  have fb := (leE64 f12 (i2lE (rfl : (σ2.1 0 1).toInt = (σ2.1 0 1).toInt))).mp cb
  refine r_four hN ?_
  rw [(f4_in (b := σ2) (y := x1.toInt64) (by omega) (by omega)).1]
  intro v ev
  obtain ⟨r, er⟩ : ∃ r : Int32, f4v σ2 x1.toInt64 = r := ⟨_, rfl⟩
  rw [er] at ev
  have fv : v.toInt = r.toInt := (congrArg Int64.toInt ev).trans (i2lE rfl)
  have b2 := tB r
  refine ⟨fun _ => hQ' _ k2 l2, fun c2 => ⟨fun c3 => ?_, fun _ => hQ' _ k2 l2⟩⟩
  have f2 := (notltE64 (rfl : v.toInt = v.toInt) z12).mp c2
  have fs : (x1.toInt64 + v).toInt = x1.toInt + v.toInt := aOkE64 e64 rfl (by omega) (by omega)
  have f3 := (leE64 fs (i2lE (rfl : (σ2.1 0 1).toInt = (σ2.1 0 1).toInt))).mp c3
  intro σ4 e4
  have k4 : G2 σ4 := by rw [e4]; exact k2
  have l4 : Fl x1 σ σ4 := by
    refine ⟨fun c i q => by rw [e4]; exact l2.1 c i q, fun c i q => ?_, by rw [e4]; exact l2.2.2⟩
    have : σ4.2 c i = σ2.2 c i := by
      rw [e4]
      show (if c = 0 then vp_updL (σ2.2 c) 8 v else σ2.2 c) i = σ2.2 c i
      by_cases ec : c = 0
      · rw [if_pos ec]
        exact if_neg (fun z => q ⟨ec, z⟩)
      · rw [if_neg ec]
    exact this.trans (l2.2.1 c i q)
  refine lo1_i (fun (y : Int32) (τ : St) => G2 τ ∧ Fl x1 σ τ ∧ 0 ≤ y.toInt) (fun y _ => (2147483648 - y.toInt).toNat) ?_ N 0 σ4 ⟨k4, l4, by omega⟩ (by (try dsimp only); omega)
  intro rr y τ hI ih
  obtain ⟨kt, lt, i1⟩ := hI
  unfold fX12_lies_l68
  refine ⟨fun _ => ?_, fun c => ⟨?_, ?_⟩⟩
  · refine r_four hN ?_
    rw [(f4_in (b := τ) (y := x1.toInt64 + 8) (by omega) (by omega)).1]
    refine ⟨inE z0 (by omega) (by omega), fun σ6 e6 => ?_⟩
    have k6 : G2 σ6 := by rw [e6]; exact kt.ua (Rg2.ra_5 _ _) (by decide)
    have l6 : Fl x1 σ σ6 := lt.u e6 (by omega)
    refine lo2_i (fun (x _ : Int32) (τ : St) => G2 τ ∧ Fl x1 σ τ ∧ 0 ≤ x.toInt ∧ x.toInt ≤ 1 + (cnt (τ.1 4) 4096 : Int)) (fun x _ τ => (2 * (4096 - (cnt (τ.1 4) 4096 : Int)) + x.toInt).toNat) ?_ N 1 0 σ6 ⟨k6, l6, by decide, ?_⟩ ?_
    · intro rr2 x z τ hI2 ih2
      obtain ⟨kt, lt, i1, i2⟩ := hI2
      have hc := cnt_le (τ.1 4) 4096
      unfold fX12_lies_l112
      refine ⟨fun _ υ e => hQ' υ (by rw [e]; exact kt.uf (Rg2.u_0_7 _) (by decide)) (lt.u e (by omega)), fun c => ?_⟩
      have g1 := (notleE (rfl : x.toInt = x.toInt) z0).mp c
      intro w ew
      have fw : w.toInt = x.toInt - 1 := by rw [ew]; exact dec1 (by omega)
      refine ⟨inE (rfl : w.toInt = w.toInt) (by omega) (by omega), ?_⟩
      intro nd end_
      have bn := tB nd
      have back : ∀ (τ' : St) (z' : Int32), G2 τ' → Fl x1 σ τ' → cnt (τ.1 4) 4096 ≤ cnt (τ'.1 4) 4096 → fX12_lies_j245 N rr2 x1 v w z' Q τ' := by
        intro τ' z' k' l' hc'
        have hc2 := cnt_le (τ'.1 4) 4096
        exact ih2 w z' τ' ⟨k', l', by omega, by omega⟩ (by (try dsimp only); omega)
      have fe : ((x1.toInt64 + v) - 1).toInt = x1.toInt + v.toInt - 1 := sOkE64 fs z1L (by omega) (by omega)
      unfold fX12_in
      refine ⟨fun _ => ⟨fun _ => back τ z kt lt (Nat.le_refl _), fun q => absurd rfl q⟩, fun c4 => ⟨fun _ => ⟨fun _ => back τ z kt lt (Nat.le_refl _), fun q => absurd rfl q⟩, fun c5 => ⟨fun q => absurd q (by decide), fun _ => ?_⟩⟩⟩
      have g4 := (notltE64 (i2lE (rfl : nd.toInt = nd.toInt)) (i2lE (rfl : x1.toInt = x1.toInt))).mp c4
      have g5 := (notltE64 fe (i2lE (rfl : nd.toInt = nd.toInt))).mp c5
      have hin : vp_in nd 4096 := inE (rfl : nd.toInt = nd.toInt) (by omega) (by omega)
      refine ⟨hin, fun c6 => ⟨hin, ?_⟩, fun _ => back τ z kt lt (Nat.le_refl _)⟩
      intro σ7 e7
      have k7 : G2 σ7 := by rw [e7]; exact kt.ua (Rg2.ra_4 _ _) (by decide)
      have l7 : Fl x1 σ σ7 := lt.u e7 (by omega)
      have cl := clE (rfl : nd.toInt = nd.toInt) (by omega)
      have hc7 : cnt (σ7.1 4) 4096 = cnt (τ.1 4) 4096 + 1 := by
        rw [e7, u1_at]
        exact cnt_up c6 (by decide) 4096 (by omega)
      have hcl7 := cnt_le (σ7.1 4) 4096
      refine s_endOf hN (by omega) (by omega) (by rw [fs]; omega) (by rw [fs]; omega) (fun re hre => ?_)
      refine ⟨fun _ => back σ7 z k7 l7 (by omega), fun _ => ⟨fun _ => back σ7 z k7 l7 (by omega), fun cend => ?_⟩⟩
      have gend := (notltE64 fs (rfl : re.toInt = re.toInt)).mp cend
      intro z2 ez2
      refine ⟨hin, fun ck => ?_, fun _ => back σ7 z2 k7 l7 (by omega)⟩
      have h9 := hre ck
      have n1 : (nd.toInt64 + 1).toInt = nd.toInt + 1 := aOkE64 (i2lE rfl) z1L (by omega) (by omega)
      have n5 : (nd.toInt64 + 5).toInt = nd.toInt + 5 := aOkE64 (i2lE rfl) z5L (by omega) (by omega)
      refine r_four hN ?_
      rw [(f4_in (b := σ7) (y := nd.toInt64 + 1) (by omega) (by omega)).1]
      refine ⟨inE (rfl : w.toInt = w.toInt) (by omega) (by omega), fun σA eA => ?_⟩
      have kA : G2 σA := by rw [eA]; exact k7.ua (Rg2.ra_5 _ _) (by decide)
      have lA : Fl x1 σ σA := l7.u eA (by omega)
      have fw1 : (w + 1).toInt = w.toInt + 1 := aOkE rfl (show (1 : Int32).toInt = 1 from by decide) (by omega) (by omega)
      refine r_four hN ?_
      rw [(f4_in (b := σA) (y := nd.toInt64 + 5) (by omega) (by omega)).1]
      refine ⟨inE fw1 (by omega) (by omega), fun σC eC x' ex' => ?_⟩
      have kC : G2 σC := by rw [eC]; exact kA.ua (Rg2.ra_5 _ _) (by decide)
      have lC : Fl x1 σ σC := lA.u eC (by omega)
      have fx' : x'.toInt = w.toInt + 2 := (congrArg Int32.toInt ex').trans (aOkE rfl (show (2 : Int32).toInt = 2 from by decide) (by omega) (by omega))
      have hC : σC.1 4 = σ7.1 4 := by rw [eC, u1_ne (by decide), eA, u1_ne (by decide)]
      unfold fX12_lies_j245
      refine ih2 x' z2 σC ⟨kC, lC, by omega, by rw [hC]; omega⟩ ?_
      show (2 * (4096 - (cnt (σC.1 4) 4096 : Int)) + x'.toInt).toNat < _
      rw [hC]
      omega
    · have z1 : (1 : Int32).toInt = 1 := by decide
      omega
    · have z1 : (1 : Int32).toInt = 1 := by decide
      have := cnt_le (σ6.1 4) 4096
      (try dsimp only)
      omega
  · have g1 := (notleE (show (4096 : Int32).toInt = 4096 from by decide) (rfl : y.toInt = y.toInt)).mp c
    exact inE (rfl : y.toInt = y.toInt) (by omega) (by omega)
  · have g1 := (notleE (show (4096 : Int32).toInt = 4096 from by decide) (rfl : y.toInt = y.toInt)).mp c
    intro σ5 e5 v2 ev2
    have f2 : v2.toInt = y.toInt + 1 := (congrArg Int32.toInt ev2).trans (aOkE rfl (show (1 : Int32).toInt = 1 from by decide) (by omega) (by omega))
    refine ih v2 σ5 ⟨by rw [e5]; exact kt.ua (Rg2.ra_4 _ _) (by decide), lt.u e5 (by omega), by omega⟩ (by (try dsimp only); omega)
end SIM23
