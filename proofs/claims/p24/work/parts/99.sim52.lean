section SIM52
variable {N : Nat} {a b σ0 : St}
/-- what the laying may change -/
def FE (σ τ : St) : Prop := ∀ c i : Nat, ¬ (c = 1 ∨ c = 19 ∨ (22 ≤ c ∧ c ≤ 26) ∨ (c = 0 ∧ (i = 7 ∨ i = 46 ∨ i = 63 ∨ i = 64))) → τ.1 c i = σ.1 c i
/-- how all stands behind the laying: ψ the state whose knots were laid -/
def LD (b ψ υ : St) (A0 : Nat) (M : Nat → Int32) : Prop := FE ψ υ ∧ MR υ (txM b ψ A0 M (b.1 0 41).toNatClampNeg) ∧ (∀ t : Nat, (t : Int) < (b.1 0 41).toInt → (υ.1 22 t).toInt = txA b ψ A0 t ∧ (υ.1 23 t).toInt = txN b ψ t) ∧ υ.1 0 46 = ψ.1 35 0 ∧ (∀ p : Nat, (p : Int) < (b.1 0 36).toInt → υ.1 19 p = if 1 ≤ (ψ.1 37 p).toInt then ψ.1 35 (ψ.1 36 p).toNatClampNeg else ψ.1 19 p)
set_option maxHeartbeats 2000000 in
/-- all texts: the reference -/
theorem e_texts (hN : 4294967400 ≤ N) {x5 : Int32} {A0 : Nat} {base : Int} {Q : Int32 → St → Prop} {τ υ0 : St} {L n : Nat} {M : Nat → Int32} (hb : K2 σ0 b) (hυ0 : K2 σ0 υ0) (f0 : FrC τ υ0) (pτ : Kp b τ) (hT : TK b τ L n) (hD : PD τ L n L base) (hA2 : (A0 : Int) + Et b τ (b.1 0 41).toNatClampNeg ≤ 4096) (h63 : (υ0.1 0 63).toInt = A0) (hM : MR υ0 M) (hQ : ∀ υ : St, K2 σ0 υ → LD b τ υ A0 M → Q x5 υ) : lo1 (fX12_tree_l249 N x5 Q) N 0 υ0 := by
  have z0 : (0 : Int32).toInt = 0 := by decide
  have zc : (0 : Int32).toNatClampNeg = 0 := by decide
  have o1 : (1 : Int32).toInt = 1 := by decide
  have b41 := K2.q_0_41 hb
  have e41 := clE (rfl : (b.1 0 41).toInt = (b.1 0 41).toInt) b41.1
  have hin0 : vp_in 0 122 := inE z0 (by omega) (by omega)
  refine lo1_i (fun (y : Int32) (υ : St) => K2 σ0 υ ∧ FrC τ υ ∧ 0 ≤ y.toInt ∧ y.toInt ≤ (b.1 0 41).toInt ∧ (υ.1 0 63).toInt = txA b τ A0 y.toNatClampNeg ∧ MR υ (txM b τ A0 M y.toNatClampNeg) ∧ (∀ t : Nat, (t : Int) < y.toInt → (υ.1 22 t).toInt = txA b τ A0 t ∧ (υ.1 23 t).toInt = txN b τ t)) (fun y _ => (2147483648 - y.toInt).toNat) ?_ N 0 υ0 ⟨hυ0, f0, by omega, by omega, h63, hM, fun t ht => absurd ht (by omega)⟩ (by (try dsimp only); omega)
  intro rr y υ hI ih
  obtain ⟨hυ, fυ, i1, i2, i3, i4, i5⟩ := hI
  have pυ : Kp b υ := FrC.kp pτ fυ
  have ey := clE (rfl : y.toInt = y.toInt) i1
  obtain ⟨t, ht⟩ : ∃ t : Nat, y.toNatClampNeg = t := ⟨_, rfl⟩
  have q41 : υ.1 0 41 = b.1 0 41 := pυ 0 41 (by omega)
  unfold fX12_tree_l249
  rw [q41]
  refine ⟨fun c => ⟨hin0, fun v21 ev21 σ22 e22 => ?_⟩, fun c => ?_⟩
  · have c' := (leE (rfl : (b.1 0 41).toInt = (b.1 0 41).toInt) (rfl : y.toInt = y.toInt)).mp c
    have eT : y.toNatClampNeg = (b.1 0 41).toNatClampNeg := by omega
    rw [eT] at i4
    have g : ∀ c i : Nat, ¬ (c = 0 ∧ i = 46) → σ22.1 c i = υ.1 c i := fun c i q => by rw [e22, u1e q]
    refine e_pieceBits hN (by rw [e22]; exact hυ.uf (Rg2.q_0_46 _) (by decide)) (fun ω kω fω pω => hQ ω kω ⟨fun c i q => ?_, MR.fr i4 (fun i => ?_), fun t ht => ?_, ?_, fun p hp => ?_⟩)
    · rw [fω c i (by omega), g c i (by omega), fυ c i (by omega)]
    · rw [fω 1 i (by decide), g 1 i (by omega)]
    · rw [fω 22 t (by decide), fω 23 t (by decide), g 22 t (by omega), g 23 t (by omega)]
      exact i5 t (by omega)
    · rw [fω 0 46 (by decide), e22, u1v, ev21, zc, fυ 35 0 (by omega)]
    · have h36 : σ22.1 0 36 = b.1 0 36 := by rw [g 0 36 (by omega)]; exact pυ 0 36 (by omega)
      rw [pω p (by rw [h36]; exact hp), g 37 p (by omega), g 36 p (by omega), g 35 _ (by omega), g 19 p (by omega), fυ 37 p (by omega), fυ 36 p (by omega), fυ 35 _ (by omega), fυ 19 p (by omega)]
  · have c' := (notleE (rfl : (b.1 0 41).toInt = (b.1 0 41).toInt) (rfl : y.toInt = y.toInt)).mp c
    have hin : vp_in y 20 := inE (rfl : y.toInt = y.toInt) (by omega) (by omega)
    refine ⟨hin, tX12_parted hN i1 (by omega) hυ pυ (fun φ kφ fφ hp => ?_)⟩
    rw [ht] at ey i3 i4 hp
    have bE := Et_mono hb hT hD (t + 1) ((b.1 0 41).toNatClampNeg - (t + 1)) (by omega)
    rw [show t + 1 + ((b.1 0 41).toNatClampNeg - (t + 1)) = (b.1 0 41).toNatClampNeg by omega] at bE
    have bE' : Et b τ t + (1 + (Bt b τ t + 7) / 8) ≤ Et b τ (b.1 0 41).toNatClampNeg := bE
    have nE := (Et_nn hb hT hD t (by omega)).1
    have nB := (Bt_le hb hT hD (t := t) (by omega)).1
    have aE := txA_Et (A0 := A0) hb hT hD t (by omega)
    have nN := txN_Bt hb hT hD (t := t) (by omega)
    have hA : txA b τ A0 t + 1 + txB b τ t ≤ 4096 := by unfold txB; omega
    have t1 := hT.1
    have bd0 := (PD.bd hT hD (i := 0) (by omega)).2.2.1
    have g63 : φ.1 0 63 = υ.1 0 63 := fφ 0 63 (by omega)
    rw [ht]
    intro v26 ev26
    refine ⟨hin, fun σ28 e28 => ⟨hin0, fun v30 ev30 => ⟨hin, fun σ32 e32 => ?_⟩⟩⟩
    have k28 : K2 σ0 σ28 := by rw [e28]; exact kφ.ua (Rg2.q_22 _ _) (by decide)
    have k32 : K2 σ0 σ32 := by rw [e32]; exact k28.ua (Rg2.q_23 _ _) (by decide)
    have f32 : FrC τ σ32 := ((fυ.tr (FrC.ofP fφ)).u e28 (by omega)).u e32 (by omega)
    have s63 : σ32.1 0 63 = υ.1 0 63 := by rw [kq e32 (by omega), kq e28 (by omega)]; exact g63
    have s26 : σ32.1 26 = φ.1 26 := by rw [rwn e32 (by decide), rwn e28 (by decide)]
    have v30E : v30 = τ.1 35 0 := by rw [ev30, zc, kq e28 (by omega), fφ 35 0 (by omega), fυ 35 0 (by omega)]
    rw [s63]
    refine e_put (k := txA b τ A0 t) i3 (by omega) (MR.fr i4 (fun i => by rw [e32, u1e (by omega), e28, u1e (by omega), fφ 1 i (by omega)])) k32 (fun σ33 k33 f33 m33 => ?_)
    intro v34 ev34 σ35 e35 σ36 e36
    have u63 : σ33.1 0 63 = υ.1 0 63 := (f33 0 63 (by omega)).trans s63
    rw [u63] at ev34
    have f34 : v34.toInt = (υ.1 0 63).toInt + 1 := (congrArg Int32.toInt ev34).trans (aOkE rfl o1 (by omega) (by omega))
    have k35 : K2 σ0 σ35 := by rw [e35]; exact k33.uf (Rg2.q_0_63 _) (by decide)
    have k36 : K2 σ0 σ36 := by rw [e36]; exact k35.uf (Rg2.q_0_64 _) (by decide)
    have w63 : σ36.1 0 63 = v34 := by rw [kq e36 (by omega), rw1 e35, up1]
    have w64 : σ36.1 0 64 = 0 := by rw [rw1 e36, up1]
    have w26 : σ36.1 26 = φ.1 26 := by rw [rwn e36 (by decide), rwn e35 (by decide), show σ33.1 26 = σ32.1 26 from funext (fun j => f33 26 j (by omega)), s26]
    have g36 : ∀ c i : Nat, c = 22 ∨ c = 23 → σ36.1 c i = σ32.1 c i := fun c i q => by rw [e36, u1e (by omega), e35, u1e (by omega)]; exact f33 c i (by omega)
    refine e_text1 hN (t := t) (A := txA b τ A0 t) (M := txM b τ A0 M t) ey.symm hb hT hD (by omega) hA k36 (((f32.tr (FrC.ofT f33)).u e35 (by omega)).u e36 (by omega)) (fun k hk => by rw [w26]; exact hp k hk) ?_ ?_ (MR.fr m33 (fun i => by rw [e36, u1e (by omega), e35, u1e (by omega)])) (fun v ψ fv kψ fψ eψ mψ n23 o23 o22 => ?_)
    · unfold BN
      rw [w63, w64, z0]
      omega
    · rw [g36 23 t (by omega), e32, u1v, v30E]
      unfold dpN
      omega
    · have ev : v.toNatClampNeg = t + 1 := by have := clE fv (by omega); omega
      refine ih v ψ ⟨kψ, fψ, by omega, by omega, by rw [ev]; exact eψ, by rw [ev]; exact mψ, fun t' ht' => ?_⟩ (by (try dsimp only); omega)
      by_cases e : t' = t
      · rw [e, o22, n23, g36 22 t (by omega), e32, u1e (by omega), e28, u1v, ev26, g63]
        exact ⟨i3, rfl⟩
      · rw [o22, o23 t' e, g36 22 t' (by omega), g36 23 t' (by omega), e32, u1e (by omega), u1e (by omega), e28, u1e (by omega), u1e (by omega), fφ 22 t' (by omega), fφ 23 t' (by omega)]
        exact i5 t' (by omega)
set_option maxHeartbeats 2000000 in
/-- the knots, then the texts: the reference -/
theorem e_lays (hN : 4294967400 ≤ N) {x1 x2 x5 : Int32} {Q : Int32 → St → Prop} {τ υ0 : St} {L n A : Nat} {M : Nat → Int32} (hb : K2 σ0 b) (hυ0 : K2 σ0 υ0) (f0 : FrC τ υ0) (pτ : Kp b τ) (hT : TK b τ L n) (h1 : x1.toInt = A) (h2 : x2.toInt + 1 = n) (hD : PD τ L n L ((A : Int) + 12)) (hE : (A : Int) + 12 + (τ.1 33 (n - 1)).toInt + Et b τ (b.1 0 41).toNatClampNeg ≤ 4096) (hM : MR υ0 M) (hQ : ∀ υ : St, K2 σ0 υ → LD b τ υ (A + 12 + (τ.1 33 (n - 1)).toNatClampNeg) (nsW b τ L M n) → Q x5 υ) : lo1 (fX12_tree_l210 N x1 x2 x5 Q) N 0 υ0 := by
  have z0 : (0 : Int32).toInt = 0 := by decide
  have o1 : (1 : Int32).toInt = 1 := by decide
  have o12 : (12 : Int32).toInt = 12 := by decide
  have b41 := K2.q_0_41 hb
  have e41 := clE (rfl : (b.1 0 41).toInt = (b.1 0 41).toInt) b41.1
  obtain ⟨⟨t1, t2, t3, t4, t5⟩, tk, ta, ts, tr, tl, _⟩ := id hT
  have nE := (Et_nn hb hT hD (b.1 0 41).toNatClampNeg (by omega)).1
  have sr := ts (n - 1) (by omega)
  have c33 := clE (rfl : (τ.1 33 (n - 1)).toInt = _) (by omega)
  have e2 : x2.toNatClampNeg = n - 1 := by have := clE (rfl : x2.toInt = x2.toInt) (by omega); omega
  refine lo1_i (fun (y : Int32) (υ : St) => K2 σ0 υ ∧ FrC τ υ ∧ 0 ≤ y.toInt ∧ y.toInt ≤ n ∧ MR υ (nsW b τ L M y.toNatClampNeg)) (fun y _ => (2147483648 - y.toInt).toNat) ?_ N 0 υ0 ⟨hυ0, f0, by omega, by omega, hM⟩ (by (try dsimp only); omega)
  intro rr y υ hI ih
  obtain ⟨hυ, fυ, i1, i2, i3⟩ := hI
  have ey := clE (rfl : y.toInt = y.toInt) i1
  have q50 : (υ.1 0 50).toInt = n := by rw [fυ 0 50 (by omega)]; exact t2
  unfold fX12_tree_l210
  refine ⟨fun c => ?_, fun c => ?_⟩
  · have c' := (leE q50 (rfl : y.toInt = y.toInt)).mp c
    rw [show y.toNatClampNeg = n by omega] at i3
    refine ⟨inE (rfl : x2.toInt = x2.toInt) (by omega) (by omega), fun v17 ev17 σ18 e18 => ?_⟩
    rw [e2, fυ 33 _ (by omega)] at ev17
    have f17 : v17.toInt = (A : Int) + 12 + (τ.1 33 (n - 1)).toInt := (congrArg Int32.toInt ev17).trans (aOkE (aOkE h1 o12 (by omega) (by omega)) rfl (by omega) (by omega))
    refine e_texts hN (A0 := A + 12 + (τ.1 33 (n - 1)).toNatClampNeg) (τ := τ) hb (by rw [e18]; exact hυ.uf (Rg2.q_0_63 _) (by decide)) (fυ.u e18 (by omega)) pτ hT hD (by omega) (by rw [rw1 e18, up1, f17]; omega) (MR.fr i3 (fun i => by rw [e18, u1e (by omega)])) hQ
  · have c' := (notleE q50 (rfl : y.toInt = y.toInt)).mp c
    refine e_node hN hb hυ fυ pτ hT hD (by omega) (by omega) ey.symm (by omega) i3 (fun ψ kψ fψ mψ => ?_)
    intro v20 ev20
    have f20 : v20.toInt = y.toInt + 1 := (congrArg Int32.toInt ev20).trans (aOkE rfl o1 (by omega) (by omega))
    have c20 : v20.toNatClampNeg = y.toNatClampNeg + 1 := by have := clE f20 (by omega); omega
    exact ih v20 ψ ⟨kψ, fυ.tr (FrC.ofT fψ), by omega, by omega, by rw [c20]; exact mψ⟩ (by (try dsimp only); omega)
/-- the bits of all texts -/
def sB (b τ : St) : Nat → Int
  | 0 => 0
  | t + 1 => sB b τ t + Bt b τ t
theorem sB_le {τ : St} {L n : Nat} {base : Int} (hb : K2 σ0 b) (hT : TK b τ L n) (hD : PD τ L n L base) : ∀ t : Nat, (t : Int) ≤ (b.1 0 41).toInt → 0 ≤ sB b τ t ∧ sB b τ t ≤ 14641 * (t : Int)
  | 0, _ => by show (0 : Int) ≤ 0 ∧ (0 : Int) ≤ 14641 * ((0 : Nat) : Int); omega
  | t + 1, h => by
    have ih := sB_le hb hT hD t (by omega)
    have := Bt_le hb hT hD (t := t) (by omega)
    show 0 ≤ sB b τ t + Bt b τ t ∧ sB b τ t + Bt b τ t ≤ 14641 * ((t + 1 : Nat) : Int)
    omega
set_option maxHeartbeats 2000000 in
theorem e_tree89 (hN : 4294967400 ≤ N) {r54 : Int64 → Int32 → Int32 → St → Prop} {x1 x2 x5 x6 v19 : Int32} {x3 : Int64} {t : Nat} {base : Int} {Q : Int32 → St → Prop} {ω : St} {L n : Nat} (et : x6.toNatClampNeg = t) (hσ : K2 σ0 b) (hT : TK b ω L n) (hD : PD ω L n L base) (h6 : 0 ≤ x6.toInt) (h6' : x6.toInt < (b.1 0 41).toInt) (h3 : 0 ≤ x3.toInt) (h3' : x3.toInt ≤ 100000000000) (e19 : v19 = ω.1 35 0) (hp : ∀ k : Nat, (k : Int) < (tR b t).toInt → ω.1 26 k = tP b t k)
    (hr : ∀ (v22 : Int64) (v20 v21 v23 : Int32), v22.toInt = x3.toInt + (1 + (Bt b ω t + 7) / 8) → v20.toInt = Bt b ω t → v21 = x5 + v20 → v23.toInt = x6.toInt + 1 → r54 v22 v21 v23 ω) : lo2 (fX12_tree_l89 N r54 x1 x2 x3 x5 x6 (tR b t) Q) N v19 0 ω := by
  have z0 : (0 : Int32).toInt = 0 := by decide
  have zc : (0 : Int32).toNatClampNeg = 0 := by decide
  have o1 : (1 : Int32).toInt = 1 := by decide
  have o7 : (7 : Int32).toInt = 7 := by decide
  have b41 := K2.q_0_41 hσ
  have b36 := K2.g_0_36 hσ
  have bR := tR_le hσ t
  have e6 := clE (rfl : x6.toInt = x6.toInt) h6
  rw [et] at e6
  obtain ⟨t1, t2, t3, t4, t5⟩ := hT.1
  have bB := Bt_le hσ hT hD (t := t) (by omega)
  refine lo2_i (fun (x y : Int32) (υ : St) => υ = ω ∧ 0 ≤ y.toInt ∧ (y.toInt = 0 ∨ y.toInt ≤ (tR b t).toInt) ∧ x.toInt = bsum b ω t y.toNatClampNeg) (fun _ y _ => (2147483648 - y.toInt).toNat) ?_ N v19 0 ω ⟨rfl, by omega, Or.inl z0, by rw [zc, e19]; rfl⟩ (by (try dsimp only); omega)
  intro rr x y υ hI ih
  obtain ⟨rfl, i1, i2, i3⟩ := hI
  have ey := clE (rfl : y.toInt = y.toInt) i1
  obtain ⟨m, hm⟩ : ∃ m : Nat, y.toNatClampNeg = m := ⟨_, rfl⟩
  rw [hm] at ey i3
  unfold fX12_tree_l89
  refine ⟨fun c => ?_, fun c => ?_⟩
  · have c' := (leE (rfl : (tR b t).toInt = (tR b t).toInt) (rfl : y.toInt = y.toInt)).mp c
    have eB : bsum b υ t m = Bt b υ t := by
      unfold Bt
      rw [show (tR b t).toInt.toNat = m by omega]
    rw [eB] at i3
    intro v21 ev21 v22 ev22 v23 ev23
    have f23 : v23.toInt = x6.toInt + 1 := (congrArg Int32.toInt ev23).trans (aOkE rfl o1 (by omega) (by omega))
    have g7 : (x + 7).toInt = Bt b υ t + 7 := aOkE i3 o7 (by omega) (by omega)
    have g8 : ((x + 7) / 8).toInt = (Bt b υ t + 7) / 8 := by rw [id8 (by omega), g7]
    have g9 : (1 + ((x + 7) / 8)).toInt = 1 + (Bt b υ t + 7) / 8 := aOkE o1 g8 (by omega) (by omega)
    have f22 : v22.toInt = x3.toInt + (1 + (Bt b υ t + 7) / 8) := (congrArg Int64.toInt ev22).trans (aOkE64 rfl (i2lE g9) (by omega) (by omega))
    exact hr v22 x v21 v23 f22 i3 ev21 f23
  · have c' := (notleE (rfl : (tR b t).toInt = (tR b t).toInt) (rfl : y.toInt = y.toInt)).mp c
    have e26 : υ.1 26 m = tP b t m := hp m (by omega)
    have bP := tP_lt hσ (t := t) (k := m) (by omega)
    obtain ⟨l, l1, l2⟩ := leaf_ok hσ hT (t := t) (k := m) (by omega) (by omega)
    have el : (υ.1 36 (tP b t m).toNatClampNeg).toNatClampNeg = l := by have := clE l2 (by omega); omega
    have b0 := bsum_le hσ hT hD (t := t) (by omega) m (by omega)
    have bl := PD.bd hT hD (i := l) (by omega)
    rw [hm, e26]
    refine ⟨inE (rfl : y.toInt = y.toInt) (by omega) (by omega), inE (rfl : (tP b t m).toInt = (tP b t m).toInt) (by omega) (by omega), inE l2 (by omega) (by omega), fun v27 ev27 v28 ev28 => ?_⟩
    rw [el] at ev27
    have f27 : v27.toInt = bsum b υ t m + (υ.1 35 l).toInt := (congrArg Int32.toInt ev27).trans (aOkE i3 rfl (by omega) (by omega))
    have f28 : v28.toInt = y.toInt + 1 := (congrArg Int32.toInt ev28).trans (aOkE rfl o1 (by omega) (by omega))
    have e28 : v28.toNatClampNeg = m + 1 := by have := clE f28 (by omega); omega
    refine ih v27 v28 _ ⟨rfl, by omega, by omega, ?_⟩ (by (try dsimp only); omega)
    rw [e28, f27]
    show _ = bsum b υ t m + (υ.1 35 (υ.1 36 (tP b t m).toNatClampNeg).toNatClampNeg).toInt
    rw [el]
end SIM52
