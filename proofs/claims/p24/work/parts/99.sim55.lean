section SIM55
variable {N : Nat} {a b σ0 : St}
/-- what the reference's tree() leaves -/
def TR (b : St) (x1 : Int32) (r : Int32) (υ : St) : Prop :=
  (x1.toInt < 0 ∧ r = -2 ∧ υ = b) ∨ (0 ≤ x1.toInt ∧ b.1 0 41 = 0 ∧ r = -3 ∧ υ = b) ∨
  (0 ≤ x1.toInt ∧ b.1 0 41 ≠ 0 ∧ ∃ (τ : St) (L n : Nat), (∀ c i : Nat, ¬ ((24 ≤ c ∧ c ≤ 37) ∨ (c = 0 ∧ (i = 50 ∨ i = 51))) → τ.1 c i = b.1 c i) ∧ Kp b τ ∧ TK b τ L n ∧ EX b τ L ∧ PD τ L n L 0 ∧ K2 b υ ∧
    ((4096 < x1.toInt + 12 + (τ.1 33 (n - 1)).toInt + Et b τ (b.1 0 41).toNatClampNeg ∧ r = -4 ∧ FrP τ υ) ∨
     (x1.toInt + 12 + (τ.1 33 (n - 1)).toInt + Et b τ (b.1 0 41).toNatClampNeg ≤ 4096 ∧ r.toInt = sB b τ (b.1 0 41).toNatClampNeg ∧ ∃ ψ : St, Kp b ψ ∧ TK b ψ L n ∧ PD ψ L n L (x1.toInt + 12) ∧ (∀ c i : Nat, ¬ ((24 ≤ c ∧ c ≤ 26) ∨ c = 34 ∨ c = 35) → ψ.1 c i = τ.1 c i) ∧ LD b ψ υ (x1.toNatClampNeg + 12 + (ψ.1 33 (n - 1)).toNatClampNeg) (nsW b ψ L (wF (wF (wF (ψ.1 1) x1.toNatClampNeg (12 + ψ.1 33 (n - 1))) (x1.toNatClampNeg + 4) (ψ.1 0 50)) (x1.toNatClampNeg + 8) (x1 + 12)) n))))
set_option maxHeartbeats 2000000 in
theorem e_tree (hN : 4294967400 ≤ N) {x1 : Int32} (hb : K2 b b) : fX12_tree N x1 (TR b x1) b := by
  have z0 : (0 : Int32).toInt = 0 := by decide
  have zc : (0 : Int32).toNatClampNeg = 0 := by decide
  have o1 : (1 : Int32).toInt = 1 := by decide
  have o4 : (4 : Int32).toInt = 4 := by decide
  have o8 : (8 : Int32).toInt = 8 := by decide
  have o12 : (12 : Int32).toInt = 12 := by decide
  have l12 : (12 : Int64).toInt = 12 := by decide
  have l4096 : (4096 : Int64).toInt = 4096 := by decide
  have bx := tB x1
  have b41 := K2.q_0_41 hb
  have e41 := clE (rfl : (b.1 0 41).toInt = (b.1 0 41).toInt) b41.1
  have hin0 : vp_in 0 122 := inE z0 (by omega) (by omega)
  unfold fX12_tree
  refine ⟨fun c => ⟨fun h0 => Or.inr (Or.inl ⟨(leE z0 rfl).mp c, h0, rfl, rfl⟩), fun hT0 => ?_⟩, fun c => Or.inl ⟨by have := (notleE z0 (rfl : x1.toInt = _)).mp c; omega, rfl, rfl⟩⟩
  have c' := (leE z0 (rfl : x1.toInt = x1.toInt)).mp c
  refine mk_join (b := b) (σ := b) (fun _ _ _ => rfl) (fun τ1 => ∃ L n : Nat, K2 b τ1 ∧ Kp b τ1 ∧ TK b τ1 L n ∧ EX b τ1 L) _ (fun τ1 hFj hh => ?_) (e_join hN hb (fun τ1 L n k1 p1 hT1 hE1 => ⟨L, n, k1, p1, hT1, hE1⟩))
  obtain ⟨L, n, k1, p1, hT1, hE1⟩ := hh
  intro v4 ev4
  obtain ⟨⟨t1, t2, t3, t4, t5⟩, tk, ta, ts, tr, tl, _⟩ := id hT1
  have f4 : v4.toInt = (n : Int) - 1 := (congrArg Int32.toInt ev4).trans (sOkE t2 o1 (by omega) (by omega))
  have e4 : v4.toNatClampNeg = n - 1 := by have := clE f4 (by omega); omega
  have hin4 : vp_in v4 122 := inE f4 (by omega) (by omega)
  refine tX12_places hN hT1 (by omega) (by omega) k1 (fun τ k w1 hD => ?_)
  have pτ : Kp b τ := p1.tr (fun a b q => w1 a b (by omega) (by omega))
  have hT : TK b τ L n := hT1.ext (fun a b q => w1 a b (by omega) (by omega))
  have hE : EX b τ L := by
    obtain ⟨x1, x2, x3, x4, x5⟩ := hE1
    refine ⟨x1, fun p hp => by rw [w1 _ _ (by decide) (by decide)]; exact x2 p hp, fun i hi => by rw [w1 _ _ (by decide) (by decide)]; exact x3 i hi, fun p hp hp2 => by rw [w1 _ _ (by decide) (by decide)]; exact x4 p hp hp2, fun i hi => ?_⟩
    rw [w1 28 _ (by decide) (by decide), w1 29 _ (by decide) (by decide), w1 33 _ (by decide) (by decide), w1 30 _ (by decide) (by decide), w1 31 _ (by decide) (by decide)]
    exact x5 i hi
  have fJ : ∀ c i : Nat, ¬ ((24 ≤ c ∧ c ≤ 37) ∨ (c = 0 ∧ (i = 50 ∨ i = 51))) → τ.1 c i = b.1 c i := fun c i q => (w1 c i (by omega) (by omega)).trans (hFj c i (by unfold Wj; omega))
  have sr := hT.2.2.2.1 (n - 1) (by omega)
  have sr2 := hT.2.2.2.2.1
  rw [z0] at hD
  refine ⟨hin4, fun v7 ev7 => ?_⟩
  rw [e4] at ev7
  have f7 : v7.toInt = x1.toInt + 12 + (τ.1 33 (n - 1)).toInt := (congrArg Int64.toInt ev7).trans (aOkE64 (aOkE64 (i2lE rfl) l12 (by omega) (by omega)) (i2lE rfl) (by omega) (by omega))
  refine lo3_i (fun (x3 : Int64) (x5 y : Int32) (ω : St) => K2 b ω ∧ FrP τ ω ∧ 0 ≤ y.toInt ∧ y.toInt ≤ (b.1 0 41).toInt ∧ x3.toInt = x1.toInt + 12 + (τ.1 33 (n - 1)).toInt + Et b τ y.toNatClampNeg ∧ x5.toInt = sB b τ y.toNatClampNeg) (fun _ _ y _ => (2147483648 - y.toInt).toNat) ?_ N v7 0 0 τ ⟨k, fun _ _ _ => rfl, by omega, by omega, by rw [zc, f7]; show _ = _ + (0 : Int); omega, z0⟩ (by (try dsimp only); omega)
  intro r54 x3 x5 y ω hI ih
  obtain ⟨hω, fω, i1, i2, i3, i4⟩ := hI
  have cω : FrC τ ω := FrC.ofP fω
  have pω : Kp b ω := FrC.kp pτ cω
  have hTω : TK b ω L n := cω.tk hT
  have hDω : PD ω L n L 0 := cω.pd hD
  have ey := clE (rfl : y.toInt = y.toInt) i1
  obtain ⟨t, ht⟩ : ∃ t : Nat, y.toNatClampNeg = t := ⟨_, rfl⟩
  rw [ht] at ey i3 i4
  have nE := Et_nn hb hT hD t (by omega)
  have nS := sB_le hb hT hD t (by omega)
  have q41 : ω.1 0 41 = b.1 0 41 := pω 0 41 (by omega)
  unfold fX12_tree_l54
  rw [q41]
  refine ⟨fun d => ⟨fun g => ?_, fun g => ?_⟩, fun d => ?_⟩
  · have d' := (leE (rfl : (b.1 0 41).toInt = (b.1 0 41).toInt) (rfl : y.toInt = y.toInt)).mp d
    have g' := (leE64 i3 l4096).mp g
    have et : t = (b.1 0 41).toNatClampNeg := by omega
    have cA := clE (rfl : x1.toInt = x1.toInt) c'
    have x12 : (x1 + 12).toInt = x1.toInt + 12 := aOkE rfl o12 (by omega) (by omega)
    have x4 : (x1 + 4).toInt = (x1.toNatClampNeg + 4 : Nat) := (aOkE rfl o4 (by omega) (by omega)).trans (by omega)
    have x8 : (x1 + 8).toInt = (x1.toNatClampNeg + 8 : Nat) := (aOkE rfl o8 (by omega) (by omega)).trans (by omega)
    refine tX12_places hN hTω (by omega) (by omega) hω (fun ψ kψ wψ hDψ => ?_)
    rw [x12] at hDψ
    have hTψ : TK b ψ L n := hTω.ext (fun a b q => wψ a b (by omega) (by omega))
    have pψ : Kp b ψ := pω.tr (fun a b q => wψ a b (by omega) (by omega))
    have fψ : ∀ c i : Nat, ¬ ((24 ≤ c ∧ c ≤ 26) ∨ c = 34 ∨ c = 35) → ψ.1 c i = τ.1 c i := fun c i q => (wψ c i (by omega) (by omega)).trans (fω c i (by omega))
    rw [e4]
    refine ⟨hin4, e_putF hN (k := x1.toNatClampNeg) cA.symm (by omega) (fun i hi => rfl) kψ (fun ψ1 kψ1 fψ1 m1 => ?_)⟩
    rw [fψ1 0 50 (by omega)]
    refine e_putF hN x4 (by omega) m1 kψ1 (fun ψ2 kψ2 fψ2 m2 => ?_)
    refine e_putF hN x8 (by omega) m2 kψ2 (fun ψ3 kψ3 fψ3 m3 => ?_)
    have c3 : FrC ψ ψ3 := FrC.ofT ((fψ1.tr fψ2).tr fψ3)
    have r33 : ψ.1 33 (n - 1) = τ.1 33 (n - 1) := fψ 33 _ (by omega)
    have eE : Et b ψ (b.1 0 41).toNatClampNeg = Et b τ (b.1 0 41).toNatClampNeg := Et_ext hb hT (funext (fun j => fψ 36 j (by omega))) (fun i hi => PD.uq hT hTψ (funext (fun j => fψ 32 j (by omega))) hD hDψ (n - 1 - i) i (by omega)) _ (by omega)
    refine e_lays hN (τ := ψ) (A := x1.toNatClampNeg) hb kψ3 c3 pψ hTψ cA.symm (by omega) (by rw [cA]; exact hDψ) (by rw [r33, eE, cA, ← et]; omega) m3 (fun υ kυ ld => ?_)
    refine Or.inr (Or.inr ⟨c', hT0, τ, L, n, fJ, pτ, hT, hE, hD, kυ, Or.inr ⟨by rw [← et]; omega, by rw [← et]; exact i4, ψ, pψ, hTψ, hDψ, fψ, ld⟩⟩)
  · have d' := (leE (rfl : (b.1 0 41).toInt = (b.1 0 41).toInt) (rfl : y.toInt = y.toInt)).mp d
    have g' := (notleE64 i3 l4096).mp g
    have et : t = (b.1 0 41).toNatClampNeg := by omega
    exact Or.inr (Or.inr ⟨c', hT0, τ, L, n, fJ, pτ, hT, hE, hD, hω, Or.inl ⟨by rw [← et]; omega, rfl, fω⟩⟩)
  · have d' := (notleE (rfl : (b.1 0 41).toInt = (b.1 0 41).toInt) (rfl : y.toInt = y.toInt)).mp d
    refine ⟨inE (rfl : y.toInt = y.toInt) (by omega) (by omega), tX12_parted hN i1 (by omega) hω pω (fun φ kφ fφ hp => ?_)⟩
    rw [ht] at hp
    rw [ht, zc]
    refine ⟨hin0, fun v19 ev19 => ?_⟩
    have cφ : FrC τ φ := cω.tr (FrC.ofP fφ)
    have eB : Bt b φ t = Bt b τ t := Bt_ext hb hT (funext (fun j => cφ 36 j (by omega))) (fun i _ => by rw [cφ 35 i (by omega)]) (by omega)
    have bB := Bt_le hb hT hD (t := t) (by omega)
    refine e_tree89 hN ht hb (cφ.tk hT) (cφ.pd hD) i1 (by omega) (by omega) (by omega) ev19 hp (fun v22 v20 v21 v23 f22 f20 f21 f23 => ?_)
    have e23 : v23.toNatClampNeg = t + 1 := by have := clE f23 (by omega); omega
    refine ih v22 v21 v23 φ ⟨kφ, fun a b q => (fφ a b q).trans (fω a b q), by omega, by omega, ?_, ?_⟩ (by (try dsimp only); omega)
    · rw [e23, f22, eB]
      show _ = _ + (Et b τ t + (1 + (Bt b τ t + 7) / 8))
      omega
    · rw [e23, f21]
      rw [eB] at f20
      exact aOkE i4 f20 (by omega) (by omega)
end SIM55
