section SIM36
variable {N : Nat} {a b : St} {x1 x2 : Int32}
theorem p_laid (hN : 4294967400 ≤ N) (h : Rbt Xr a b) : fX11_laid N x1 x2 (fun r1 τ1 => fX12_laid N x1 x2 (fun r2 τ2 => r1 = r2 ∧ Rbt Xr τ1 τ2) b) a := by
  have z0 : (0 : Int32).toInt = 0 := by decide
  have z1 : (1 : Int32).toInt = 1 := by decide
  have z2 : (2 : Int32).toInt = 2 := by decide
  have z0L : (0 : Int64).toInt = 0 := by decide
  have z2L : (2 : Int64).toInt = 2 := by decide
  have e64 : x1.toInt64.toInt = x1.toInt := i2lE rfl
  have f64 : x2.toInt64.toInt = x2.toInt := i2lE rfl
  have hX := h.2.2.2.1
  have hG := h.2.2.2.2.1
  have e7 : a.1 7 4 = b.1 0 41 := h.1.at 7 4 0 41 (by decide)
  have d := K2.q_0_41 (K2.self hG)
  have f1 : ((b.1 0 41 - 1).toInt64).toInt = (b.1 0 41).toInt - 1 := i2lE (sOkE rfl z1 (by omega) (by omega))
  have ref : ∀ Q : Int32 → St → Prop, ((x1.toInt < 0 ∨ (b.1 0 41).toInt ≤ x1.toInt) → Q (-2) b) → (0 ≤ x1.toInt → x1.toInt < (b.1 0 41).toInt → (x2.toInt < 0 ∨ 2 < x2.toInt) → Q (-2) b) → (0 ≤ x1.toInt → x1.toInt < (b.1 0 41).toInt → 0 ≤ x2.toInt → x2.toInt ≤ 2 → ((x2 = 0 → vp_in x1 20 ∧ Q (b.1 22 x1.toNatClampNeg) b) ∧ (¬ x2 = 0 → ((x2 = 1 → vp_in x1 20 ∧ Q (b.1 23 x1.toNatClampNeg) b) ∧ (¬ x2 = 1 → vp_in x1 20 ∧ fX12_parted N x1 (b.1 21 x1.toNatClampNeg) (fun r_11 σ_10 => Q r_11 σ_10) b))))) → fX12_laid N x1 x2 Q b := by
    intro Q k1 k2 k3
    unfold fX12_laid fX12_in
    refine ⟨fun w => ⟨fun _ => k1 (Or.inl ?_), fun q => absurd rfl q⟩, fun w1 => ⟨fun w => ⟨fun _ => k1 (Or.inr ?_), fun q => absurd rfl q⟩, fun w2 => ⟨fun q => absurd q (by decide), fun _ => ?_⟩⟩⟩
    · have := (ltE64 e64 z0L).mp w
      omega
    · have := (ltE64 f1 e64).mp w
      omega
    · have g1 := (notltE64 e64 z0L).mp w1
      have g2 := (notltE64 f1 e64).mp w2
      refine ⟨fun w => ⟨fun _ => k2 (by omega) (by omega) (Or.inl ?_), fun q => absurd rfl q⟩, fun w3 => ⟨fun w => ⟨fun _ => k2 (by omega) (by omega) (Or.inr ?_), fun q => absurd rfl q⟩, fun w4 => ⟨fun q => absurd q (by decide), fun _ => k3 (by omega) (by omega) ?_ ?_⟩⟩⟩
      · have := (ltE64 f64 z0L).mp w
        omega
      · have := (ltE64 z2L f64).mp w
        omega
      · have := (notltE64 f64 z0L).mp w3
        omega
      · have := (notltE64 z2L f64).mp w4
        omega
  unfold fX11_laid
  rw [e7]
  have bad : (x1.toInt < 0 ∨ (b.1 0 41).toInt ≤ x1.toInt) → fX12_laid N x1 x2 (fun r2 τ2 => -2 = r2 ∧ Rbt Xr a τ2) b := fun w => ref _ (fun _ => ⟨rfl, h⟩) (fun _ _ _ => ⟨rfl, h⟩) (fun q1 q2 => by omega)
  refine ⟨fun c => bad (Or.inl ?_), fun c => ⟨fun c2 => ?_, fun c2 => bad (Or.inr ?_)⟩⟩
  · have := (ltE (rfl : x1.toInt = x1.toInt) z0).mp c
    omega
  · have c' := (notltE (rfl : x1.toInt = x1.toInt) z0).mp c
    have c2' := (ltE (rfl : x1.toInt = x1.toInt) (rfl : (b.1 0 41).toInt = (b.1 0 41).toInt)).mp c2
    have ex := clE (rfl : x1.toInt = x1.toInt) (by omega)
    have hin : vp_in x1 20 := inE (rfl : x1.toInt = x1.toInt) (by omega) (by omega)
    obtain ⟨t1, t2, t3, t4⟩ := hX.2.2.2 x1.toNatClampNeg (by omega) (by omega)
    refine ⟨fun c3 => ⟨hin, ?_⟩, fun c3 => ⟨fun c4 => ⟨hin, ?_⟩, fun c4 => ⟨fun c5 => ⟨hin, hin, ?_⟩, fun c5 => ?_⟩⟩⟩
    · refine ref _ (fun w => by omega) (fun _ _ w => ?_) (fun _ _ _ _ => ⟨fun _ => ⟨hin, t2, h⟩, fun w => absurd c3 w⟩)
      rw [c3, z0] at w
      omega
    · refine ref _ (fun w => by omega) (fun _ _ w => ?_) (fun _ _ _ _ => ⟨fun w => absurd w c3, fun _ => ⟨fun _ => ⟨hin, t3, h⟩, fun w => absurd c4 w⟩⟩)
      rw [c4, z1] at w
      omega
    · have q21 := K2.q_21 (K2.self hG) x1.toNatClampNeg
      have en := clE (rfl : (b.1 21 x1.toNatClampNeg).toInt = _) q21.1
      refine c_part (t := dt b x1) hN (pca_of (h.1.at 6 5 0 36 (by decide)) hX.2.2.1 hG) (by omega) (n := (b.1 21 x1.toNatClampNeg).toNatClampNeg) (fun j hj => ?_) (by omega) (by rw [t1]; omega) (fun τ f _ => ?_)
      · rw [t4 j (by omega)]
        unfold dt
        rw [if_pos ((leE z0 rfl).mpr (by omega))]
      · refine ref _ (fun w => by omega) (fun _ _ w => ?_) (fun _ _ _ _ => ⟨fun w => absurd w c3, fun _ => ⟨fun w => absurd w c4, fun _ => ⟨hin, ?_⟩⟩⟩)
        · rw [c5, z2] at w
          omega
        · refine sX12_partedX hN (by omega) (by omega) (K2.self hG) (fun r υ kυ fυ er _ => ⟨?_, ?_⟩)
          · rw [er]
            rfl
          · exact h.mv (fun c i q => f c i (by omega)) (fun c i q => fυ c i (by omega)) (h.1.fr (fun q hm => f _ _ (by have := SC_lt q hm; omega)) (fun q hm => fυ _ _ (by have := SC_lt q hm; omega))) (h.2.1.fr (fun i => f _ _ (by omega)) (fun i => fυ _ _ (by omega))) (hX.ext (fun c i q => f c i (by omega)) (fun c i q => fυ c i (by omega))) kυ.1
    · refine ref _ (fun w => by omega) (fun _ _ _ => ⟨rfl, h⟩) (fun _ _ w1 w2 => ?_)
      have n0 : x2.toInt ≠ 0 := fun w => c3 (Int32.toInt_inj.mp (by omega))
      have n1 : x2.toInt ≠ 1 := fun w => c4 (Int32.toInt_inj.mp (by omega))
      have n2 : x2.toInt ≠ 2 := fun w => c5 (Int32.toInt_inj.mp (by omega))
      omega
  · have := (notltE (rfl : x1.toInt = x1.toInt) (rfl : (b.1 0 41).toInt = (b.1 0 41).toInt)).mp c2
    omega
/-- a text more: the class -/
theorem c_addT (hN : 4294967400 ≤ N) {n : Int32} {σ : St} {T : Nat} (n0 : 0 ≤ n.toInt) (n1 : n.toInt ≤ 120) (hT : (σ.1 7 4).toInt = T) (hT2 : T < 20) {Q : Int32 → St → Prop} (hQ : ∀ τ : St, (∀ c i : Nat, ¬ (c = 183 + T ∨ ((c = 24 ∨ c = 25 ∨ c = 26) ∧ i = T) ∨ (c = 7 ∧ i = 4)) → τ.1 c i = σ.1 c i) → (∀ i : Nat, (i : Int) < n.toInt → τ.1 (183 + T) i = σ.1 11 i) → τ.1 24 T = n → τ.1 25 T = -1 → τ.1 26 T = 0 → τ.1 7 4 = σ.1 7 4 + 1 → Q (σ.1 7 4) τ) : fX10_add N 11 n Q σ := by
  have z0 : (0 : Int32).toInt = 0 := by decide
  have z20 : (20 : Int32).toInt = 20 := by decide
  have z120 : (120 : Int32).toInt = 120 := by decide
  unfold fX10_add
  refine ⟨fun _ v2 e2 => ?_, fun c => absurd ((ltE hT z20).mpr (by omega)) c⟩
  have f2 : v2.toInt = T := by rw [e2]; exact hT
  have c2 : v2.toNatClampNeg = T := by have := clE f2 (by omega); omega
  have hin : vp_in v2 20 := inE f2 (by omega) (by omega)
  refine lo1_i (fun (y : Int32) (τ : St) => 0 ≤ y.toInt ∧ y.toInt ≤ n.toInt ∧ (∀ c i : Nat, c ≠ 183 + T → τ.1 c i = σ.1 c i) ∧ ∀ i : Nat, (i : Int) < y.toInt → τ.1 (183 + T) i = σ.1 11 i) (fun y _ => (n.toInt - y.toInt).toNat) ?_ N 0 σ ⟨by omega, by omega, fun _ _ _ => rfl, fun i hi => absurd hi (by omega)⟩ (by (try dsimp only); omega)
  intro rr y τ hI ih
  obtain ⟨i1, i2, i3, i4⟩ := hI
  have ey := clE (rfl : y.toInt = y.toInt) i1
  have fin : n.toInt ≤ y.toInt → fX10_add_j59 N n v2 Q τ := by
    intro hle
    unfold fX10_add_j59
    rw [c2]
    refine ⟨hin, fun s5 e5 => ⟨hin, fun s7 e7 => ⟨hin, fun s9 e9 v10 e10 s11 e11 => ?_⟩⟩⟩
    rw [e2]
    refine hQ s11 (fun c i q => ?_) (fun i hi => ?_) ?_ ?_ ?_ ?_
    · rw [e11, u1e (by omega), e9, u1e (by omega), e7, u1e (by omega), e5, u1e (by omega)]
      exact i3 c i (by omega)
    · rw [e11, u1e (by omega), e9, u1e (by omega), e7, u1e (by omega), e5, u1e (by omega)]
      exact i4 i (by omega)
    · rw [e11, u1e (by omega), e9, u1e (by omega), e7, u1e (by omega), e5, u1v]
    · rw [e11, u1e (by omega), e9, u1e (by omega), e7, u1v]
    · rw [e11, u1e (by omega), e9, u1v]
    · rw [e11, u1v, e10, e9, u1e (by omega), e7, u1e (by omega), e5, u1e (by omega), i3 _ _ (by omega)]
  unfold fX10_add_l20
  refine ⟨fun c => fin ((leE rfl rfl).mp c), fun c => ?_⟩
  have f := (notleE (rfl : n.toInt = n.toInt) (rfl : y.toInt = y.toInt)).mp c
  have no : ¬ 120 ≤ y := (notleE z120 (rfl : y.toInt = y.toInt)).mpr (by omega)
  refine ⟨fun w => absurd w no, fun _ => ⟨fun w => absurd w no, fun _ => ⟨hin, inE rfl (by omega) (by omega), fun v8 e8 => ⟨inE rfl (by omega) (by omega), fun s10 e10 v11 e11 => ?_⟩⟩⟩⟩
  rw [c2] at e10
  have fv : v11.toInt = y.toInt + 1 := (congrArg Int32.toInt e11).trans (aOkE rfl (show (1 : Int32).toInt = 1 from by decide) (by omega) (by omega))
  refine ih v11 s10 ⟨by omega, by omega, fun c i q => by rw [e10, u1e (fun z => q z.1)]; exact i3 c i q, fun i hi => ?_⟩ (by (try dsimp only); omega)
  rw [e10]
  by_cases e : i = y.toNatClampNeg
  · rw [e, u1v, e8, i3 _ _ (by omega)]
  · rw [u1e (by omega)]
    exact i4 i (by omega)
/-- a text more: the reference -/
theorem e_addT (hN : 4294967400 ≤ N) {n : Int32} {σ0 σ : St} {T : Nat} (n0 : 0 ≤ n.toInt) (n1 : n.toInt ≤ 120) (hσ : K2 σ0 σ) (hT : (σ.1 0 41).toInt = T) (hT2 : T < 20) {Q : Int32 → St → Prop} (hQ : ∀ τ : St, K2 σ0 τ → (∀ c i : Nat, ¬ ((c = 20 ∧ 120 * T ≤ i) ∨ ((c = 21 ∨ c = 22 ∨ c = 23) ∧ i = T) ∨ (c = 0 ∧ i = 41)) → τ.1 c i = σ.1 c i) → (∀ i : Nat, (i : Int) < n.toInt → τ.1 20 (120 * T + i) = σ.1 3 i) → τ.1 21 T = n → τ.1 22 T = -1 → τ.1 23 T = 0 → τ.1 0 41 = σ.1 0 41 + 1 → Q (σ.1 0 41) τ) : lo1 (fX12_text_l36 N n Q) N 0 σ := by
  have z0 : (0 : Int32).toInt = 0 := by decide
  have z1 : (1 : Int32).toInt = 1 := by decide
  refine lo1_i (fun (y : Int32) (τ : St) => 0 ≤ y.toInt ∧ y.toInt ≤ n.toInt ∧ K2 σ0 τ ∧ (∀ c i : Nat, ¬ (c = 20 ∧ 120 * T ≤ i) → τ.1 c i = σ.1 c i) ∧ ∀ i : Nat, (i : Int) < y.toInt → τ.1 20 (120 * T + i) = σ.1 3 i) (fun y _ => (n.toInt - y.toInt).toNat) ?_ N 0 σ ⟨by omega, by omega, hσ, fun _ _ _ => rfl, fun i hi => absurd hi (by omega)⟩ (by (try dsimp only); omega)
  intro rr y τ hI ih
  obtain ⟨i1, i2, i3, i4, i5⟩ := hI
  have ey := clE (rfl : y.toInt = y.toInt) i1
  have eT : (τ.1 0 41).toInt = T := by rw [i4 _ _ (by omega)]; exact hT
  have cT : (τ.1 0 41).toNatClampNeg = T := by have := clE eT (by omega); omega
  unfold fX12_text_l36
  refine ⟨fun c => ?_, fun c => ?_⟩
  · have f := (leE (rfl : n.toInt = n.toInt) (rfl : y.toInt = y.toInt)).mp c
    rw [cT]
    refine ⟨inE eT (by omega) (by omega), fun s9 e9 => ?_⟩
    have k9 : K2 σ0 s9 := by rw [e9]; exact i3.u ⟨n0, n1⟩ (by omega) (by omega) (by omega)
    have g9 : s9.1 0 41 = τ.1 0 41 := by rw [e9, u1e (by omega)]
    rw [g9, cT]
    refine ⟨inE eT (by omega) (by omega), fun s11 e11 => ?_⟩
    have k11 : K2 σ0 s11 := by rw [e11]; exact k9.u (Rg2.q_22 _ _) (by omega) (by omega) (by omega)
    have g11 : s11.1 0 41 = τ.1 0 41 := by rw [e11, u1e (by omega), g9]
    rw [g11, cT]
    refine ⟨inE eT (by omega) (by omega), fun s13 e13 v14 e14 s15 e15 => ?_⟩
    have k13 : K2 σ0 s13 := by rw [e13]; exact k11.u (Rg2.q_23 _ _) (by omega) (by omega) (by omega)
    have g13 : s13.1 0 41 = τ.1 0 41 := by rw [e13, u1e (by omega), g11]
    have ev : v14.toInt = T + 1 := (congrArg Int32.toInt e14).trans (by rw [g13]; exact aOkE eT z1 (by omega) (by omega))
    have er : s15.1 0 41 - 1 = σ.1 0 41 := by
      rw [e15, u1v, e14, g13, i4 _ _ (by omega)]
      exact Int32.toInt_inj.mp ((sOkE (aOkE hT z1 (by omega) (by omega)) z1 (by omega) (by omega)).trans (by omega))
    rw [er]
    refine hQ s15 ?_ (fun c i q => ?_) (fun i hi => ?_) ?_ ?_ ?_ ?_
    · rw [e15]
      exact k13.uf (Rg2.r_0_41 (by omega) (by omega)) (by decide)
    · rw [e15, u1e (by omega), e13, u1e (by omega), e11, u1e (by omega), e9, u1e (by omega)]
      exact i4 c i (by omega)
    · rw [e15, u1e (by omega), e13, u1e (by omega), e11, u1e (by omega), e9, u1e (by omega)]
      exact i5 i (by omega)
    · rw [e15, u1e (by omega), e13, u1e (by omega), e11, u1e (by omega), e9, u1v]
    · rw [e15, u1e (by omega), e13, u1e (by omega), e11, u1v]
    · rw [e15, u1e (by omega), e13, u1v]
    · rw [e15, u1v, e14, g13, i4 _ _ (by omega)]
  · have f := (notleE (rfl : n.toInt = n.toInt) (rfl : y.toInt = y.toInt)).mp c
    have em : (120 * τ.1 0 41).toInt = 120 * (T : Int) := mOkE (show (120 : Int32).toInt = 120 from by decide) eT (by omega) (by omega)
    have es : (120 * τ.1 0 41 + y).toInt = 120 * (T : Int) + y.toInt := aOkE em rfl (by omega) (by omega)
    have cs : (120 * τ.1 0 41 + y).toNatClampNeg = 120 * T + y.toNatClampNeg := by have := clE es (by omega); omega
    refine ⟨inE rfl (by omega) (by omega), fun v17 e17 => ⟨inE es (by omega) (by omega), fun s19 e19 v20 e20 => ?_⟩⟩
    rw [cs] at e19
    have fv : v20.toInt = y.toInt + 1 := (congrArg Int32.toInt e20).trans (aOkE rfl z1 (by omega) (by omega))
    refine ih v20 s19 ⟨by omega, by omega, ?_, fun c i q => by rw [e19, u1e (by omega)]; exact i4 c i q, fun i hi => ?_⟩ (by (try dsimp only); omega)
    · rw [e19]
      exact i3.u (by trivial) (by omega) (by omega) (by omega)
    · rw [e19]
      by_cases e : i = y.toNatClampNeg
      · rw [e, u1v, e17, i4 _ _ (by omega)]
      · rw [u1e (by omega)]
        exact i5 i (by omega)
end SIM36
