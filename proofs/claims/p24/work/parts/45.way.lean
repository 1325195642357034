/-- what the laying of bits may change -/
def FrB (σ τ : St) : Prop := ∀ a b : Nat, ¬ (a = 1 ∨ (a = 0 ∧ (b = 7 ∨ b = 63 ∨ b = 64))) → τ.1 a b = σ.1 a b
theorem FrB.tr {σ τ υ : St} (h : FrB σ τ) (h2 : FrB τ υ) : FrB σ υ := fun a b q => (h2 a b q).trans (h a b q)
theorem FrB.t {σ τ υ : St} (h : FrB σ τ) (h2 : FrT τ υ) : FrB σ υ := fun a b q => (h2 a b (by omega)).trans (h a b q)
theorem FrB.u {σ τ υ : St} (h : FrB σ τ) {j : Nat} {v : Int32} (e : υ = u1 τ 0 j v) (hj : j = 63 ∨ j = 64) : FrB σ υ := fun a b q => (kq e (fun w => q (by omega))).trans (h a b q)
/-- where the next bit lies: in a byte of the memory -/
def BN (τ : St) (P : Int) : Prop := 0 ≤ (τ.1 0 63).toInt ∧ 0 ≤ (τ.1 0 64).toInt ∧ (τ.1 0 64).toInt ≤ 7 ∧ 8 * (τ.1 0 63).toInt + (τ.1 0 64).toInt = P
theorem BN.ext {τ υ : St} {P : Int} (h : BN τ P) (h1 : υ.1 0 63 = τ.1 0 63) (h2 : υ.1 0 64 = τ.1 0 64) : BN υ P := by
  unfold BN
  rw [h1, h2]
  exact h
set_option maxHeartbeats 2000000 in
/-- one bit more -/
theorem tX12_way70 {N : Nat} {r2 : Int32 → St → Prop} {x1 x2 t0 : Int32} {P : Int} {Q : St → Prop} {σ0 σ τ : St} (hτ : K2 σ0 τ) (fτ : FrB σ τ) (hP : BN τ P) (hP2 : P < 32768) (hx : 0 ≤ x2.toInt) (hx2 : x2.toInt ≤ 1000) (hr : ∀ (v : Int32) (υ : St), v.toInt = x2.toInt + 1 → K2 σ0 υ → FrB σ υ → BN υ (P + 1) → r2 v υ) : fX12_way__j70 N r2 x1 x2 t0 Q τ := by
  have z0 : (0 : Int32).toInt = 0 := by decide
  have o1 : (1 : Int32).toInt = 1 := by decide
  have o8 : (8 : Int32).toInt = 8 := by decide
  obtain ⟨p1, p2, p3, p4⟩ := hP
  have go : ∀ υ : St, K2 σ0 υ → FrB σ υ → BN υ (P + 1) → fX12_way__j131 N r2 x1 x2 Q υ := by
    intro υ kυ fυ bυ v ev
    exact hr v υ ((congrArg Int32.toInt ev).trans (aOkE rfl o1 (by omega) (by omega))) kυ fυ bυ
  unfold fX12_way__j70
  refine ⟨inE (rfl : (τ.1 0 63).toInt = (τ.1 0 63).toInt) (by omega) (by omega), ?_⟩
  refine tX12_tell (by omega) (by omega) hτ (fun ω kω fω => ?_)
  intro v11 ev11 σ12 e12
  rw [fω 0 64 (by omega)] at ev11
  have f11 : v11.toInt = (τ.1 0 64).toInt + 1 := (congrArg Int32.toInt ev11).trans (aOkE rfl o1 (by omega) (by omega))
  have k12 : K2 σ0 σ12 := by rw [e12]; exact kω.uf (Rg2.q_0_64 _) (by decide)
  have g12 : FrB σ σ12 := (fτ.t fω).u e12 (Or.inr rfl)
  have s64 : σ12.1 0 64 = v11 := by rw [rw1 e12, up1]
  have s63 : σ12.1 0 63 = τ.1 0 63 := by rw [kq e12 (fun w => absurd w.2 (by decide)), fω 0 63 (by omega)]
  rw [s64]
  refine ⟨fun c => ?_, fun c => ?_⟩
  · have c' := (eqE f11 o8).mp c
    intro σ14 e14 v15 ev15 σ16 e16
    have k14 : K2 σ0 σ14 := by rw [e14]; exact k12.uf (Rg2.q_0_64 _) (by decide)
    have k16 : K2 σ0 σ16 := by rw [e16]; exact k14.uf (Rg2.q_0_63 _) (by decide)
    have t63 : σ14.1 0 63 = τ.1 0 63 := (kq e14 (fun w => absurd w.2 (by decide))).trans s63
    rw [t63] at ev15
    have f15 : v15.toInt = (τ.1 0 63).toInt + 1 := (congrArg Int32.toInt ev15).trans (aOkE rfl o1 (by omega) (by omega))
    have u63 : σ16.1 0 63 = v15 := by rw [rw1 e16, up1]
    have u64 : σ16.1 0 64 = 0 := by rw [kq e16 (fun w => absurd w.2 (by decide)), rw1 e14, up1]
    refine go σ16 k16 ((g12.u e14 (Or.inr rfl)).u e16 (Or.inl rfl)) ?_
    unfold BN
    rw [u63, u64, z0]
    omega
  · have c' := (noteqE f11 o8).mp c
    refine go σ12 k12 g12 ?_
    unfold BN
    rw [s63, s64]
    omega
set_option maxHeartbeats 2000000 in
theorem tX12_wayL {N : Nat} (hN : 4294967400 ≤ N) {x1 : Int32} {P : Int} {Q : St → Prop} {σ0 σ τ : St} {L n : Nat} {base : Int} (hτ : K2 σ0 τ) (hT : TK σ τ L n) (hD : PD τ L n L base) (hx : 0 ≤ x1.toInt) (hx2 : x1.toInt < n) (hB : BN τ P) (hP : P + (τ.1 35 x1.toNatClampNeg).toInt ≤ 32768) (hQ : ∀ υ : St, K2 σ0 υ → FrB τ υ → BN υ (P + (τ.1 35 x1.toNatClampNeg).toInt) → Q υ) : fX12_way_ N x1 Q τ := by
  have o1 : (1 : Int32).toInt = 1 := by decide
  have z0 : (0 : Int32).toInt = 0 := by decide
  obtain ⟨⟨t1, t2, t3, t4, t5⟩, tk, ta, ts, tr, tl, _⟩ := id hT
  have el := clE (rfl : x1.toInt = x1.toInt) hx
  obtain ⟨l, hl⟩ : ∃ l : Nat, x1.toNatClampNeg = l := ⟨_, rfl⟩
  rw [hl] at el hP hQ
  have bl := PD.bd hT hD (i := l) (by omega)
  obtain ⟨D, eD⟩ : ∃ D : Int, (τ.1 35 l).toInt = D := ⟨_, rfl⟩
  rw [eD] at hP hQ bl
  have hin1 : vp_in x1 122 := inE (rfl : x1.toInt = x1.toInt) (by omega) (by omega)
  unfold fX12_way_
  refine lo1_i (fun (d : Int32) (υ : St) => K2 σ0 υ ∧ FrB τ υ ∧ 1 ≤ d.toInt ∧ d.toInt ≤ D + 1 ∧ BN υ (P + (d.toInt - 1))) (fun d _ => (2147483648 - d.toInt).toNat) ?_ N 1 τ ⟨hτ, fun _ _ _ => rfl, by omega, by omega, by rw [o1, show P + ((1 : Int) - 1) = P by omega]; exact hB⟩ (by (try dsimp only); omega)
  intro r2 d υ hI ih
  obtain ⟨hυ, fυ, i1, i2, i3⟩ := hI
  have r35 : υ.1 35 = τ.1 35 := funext (fun j => fυ 35 j (by omega))
  unfold fX12_way__l2
  rw [hl, r35]
  refine ⟨hin1, fun c => ?_, fun c => ?_⟩
  · have c' := (ltE eD (rfl : d.toInt = d.toInt)).mp c
    refine hQ υ hυ fυ ?_
    rw [show P + D = P + (d.toInt - 1) by omega]
    exact i3
  · have c' := (notltE eD (rfl : d.toInt = d.toInt)).mp c
    refine lo1_i (fun (x : Int32) (ω : St) => ω = υ ∧ 0 ≤ x.toInt ∧ x.toInt < n ∧ d.toInt ≤ (τ.1 35 x.toNatClampNeg).toInt) (fun x _ => ((τ.1 35 x.toNatClampNeg).toInt).toNat) ?_ N x1 υ ⟨rfl, by omega, by omega, by rw [hl]; omega⟩ (by (try dsimp only); rw [hl]; omega)
    intro r14 x ω hI2 ih2
    obtain ⟨rfl, j1, j2, j3⟩ := hI2
    have ex := clE (rfl : x.toInt = x.toInt) j1
    obtain ⟨i, hi⟩ : ∃ i : Nat, x.toNatClampNeg = i := ⟨_, rfl⟩
    rw [hi] at ex j3
    have bi := PD.bd hT hD (i := i) (by omega)
    have hinx : vp_in x 122 := inE (rfl : x.toInt = x.toInt) (by omega) (by omega)
    have i1n : i + 1 < n := by
      by_cases e : i = n - 1
      · have := hD.2.1
        rw [e] at j3
        omega
      · omega
    obtain ⟨k, d1, d2, d3, d4, d5⟩ := PD.dp hT hD i1n
    unfold fX12_way__l14
    rw [hi, r35]
    refine ⟨hinx, fun g => ?_, fun g => ?_⟩
    · have j50 : ∀ ψ : St, K2 σ0 ψ → FrB τ ψ → BN ψ (P + (d.toInt - 1)) → fX12_way__j50 N r2 x1 d x Q ψ := by
        intro ψ kψ fψ bψ
        have r32 : (ψ.1 32 i).toInt = k := by rw [fψ 32 i (by omega)]; exact d4
        have j70 : ∀ t0 : Int32, fX12_way__j70 N r2 x1 d t0 Q ψ := by
          intro t0
          refine tX12_way70 kψ fψ bψ (by omega) (by omega) (by omega) (fun v φ fv kφ fφ bφ => ?_)
          refine ih v φ ⟨kφ, fφ, by omega, by omega, ?_⟩ (by (try dsimp only); omega)
          rw [show P + (v.toInt - 1) = P + (d.toInt - 1) + 1 by omega]
          exact bφ
        unfold fX12_way__j50
        rw [hi]
        exact ⟨hinx, inE r32 (by omega) (by omega), fun _ => j70 1, fun _ => j70 0⟩
      refine ⟨fun q => ?_, fun q => j50 _ hυ fυ i3⟩
      obtain ⟨p1, p2, p3, p4⟩ := id i3
      refine tX12_tell (by omega) (by omega) hυ (fun ψ kψ fψ => ?_)
      exact j50 ψ kψ (fυ.t fψ) (i3.ext (fψ 0 63 (by omega)) (fψ 0 64 (by omega)))
    · have g' := (notleE (rfl : (τ.1 35 i).toInt = (τ.1 35 i).toInt) (rfl : d.toInt = d.toInt)).mp g
      refine ⟨hinx, fun v8 ev8 => ?_⟩
      rw [fυ 32 i (by omega)] at ev8
      have f8 : v8.toInt = k := by rw [ev8]; exact d4
      have e8 : v8.toNatClampNeg = k := by have := clE f8 (by omega); omega
      exact ih2 v8 _ ⟨rfl, by omega, by omega, by rw [e8]; omega⟩ (by (try dsimp only); rw [e8, hi]; omega)
