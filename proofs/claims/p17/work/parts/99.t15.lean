section CACHE15
variable {a b cc σ0 : St} {N : Nat} {lo hi : Nat}
/-- one bit more: the reference -/
theorem v_way70 {r2 : Int32 → St → Prop} {x1 x2 t0 : Int32} {A m : Nat} {Q : St → Prop} {σ τ : St} {D : Nat → Prop} (hlo : lo ≤ A) (hhi : A + 1 + m / 8 < hi) (h4096 : hi ≤ 4096) (hc : 0 ≤ (cc.1 0 7).toInt) (hz : 0 < (cc.1 0 7).toInt → 0 ≤ (cc.2 0 8).toInt ∧ (cc.2 0 8).toInt ≤ 100000) (hτ : K2 σ0 τ) (fτ : FrB σ τ) (hP : BN τ (8 * ((A : Int) + 1) + m)) (hP2 : 8 * (A + 1) + m < 32768) (hx : 0 ≤ x2.toInt) (hx2 : x2.toInt ≤ 1000) (hV : Vt cc lo hi τ D) (hr : ∀ (v : Int32) (υ : St), v.toInt = x2.toInt + 1 → K2 σ0 υ → FrB σ υ → BN υ (8 * ((A : Int) + 1) + (m + 1 : Nat)) → Vt cc lo hi υ (fun y => D y ∨ y = A + 1 + m / 8) → r2 v υ) : fX12_way__j70 N r2 x1 x2 t0 Q τ := by
  have z0 : (0 : Int32).toInt = 0 := by decide
  have o1 : (1 : Int32).toInt = 1 := by decide
  have o8 : (8 : Int32).toInt = 8 := by decide
  obtain ⟨p1, p2, p3, p4⟩ := hP
  have e63 : (τ.1 0 63).toInt = (A + 1 + m / 8 : Nat) := by omega
  have e64 : τ.1 0 64 = nI (m % 8) := Int32.toInt_inj.mp (by rw [nI_toInt (by omega)]; omega)
  have c63 : (τ.1 0 63).toNatClampNeg = A + 1 + m / 8 := by have := clE e63 (by omega); omega
  have go : ∀ υ : St, K2 σ0 υ → FrB σ υ → BN υ (8 * ((A : Int) + 1) + (m + 1 : Nat)) → Vt cc lo hi υ (fun y => D y ∨ y = A + 1 + m / 8) → fX12_way__j131 N r2 x1 x2 Q υ := by
    intro υ kυ fυ bυ mυ v ev
    exact hr v υ ((congrArg Int32.toInt ev).trans (aOkE rfl o1 (by omega) (by omega))) kυ fυ bυ mυ
  unfold fX12_way__j70
  rw [c63]
  refine ⟨inE e63 (by omega) (by omega), v_put e63 (by omega) (by omega) h4096 hc hz hV hτ (fun ω kω fω mω => ?_)⟩
  intro v11 ev11 σ12 e12
  rw [fω 0 64 (by omega)] at ev11
  have f11 : v11.toInt = (τ.1 0 64).toInt + 1 := (congrArg Int32.toInt ev11).trans (aOkE rfl o1 (by omega) (by omega))
  have k12 : K2 σ0 σ12 := by rw [e12]; exact kω.uf (Rg2.q_0_64 _) (by decide)
  have g12 : FrB σ σ12 := (fτ.t fω).u e12 (Or.inr rfl)
  have s64 : σ12.1 0 64 = v11 := by rw [rw1 e12, up1]
  have s63 : σ12.1 0 63 = τ.1 0 63 := by rw [kq e12 (fun w => absurd w.2 (by decide)), fω 0 63 (by omega)]
  have m12 := mω.ext (υ := σ12) (by rw [e12]; rfl) (fun i q => by rw [e12, u1e (by omega)]) (fun _ d => d) (rwn e12 (by decide))
  rw [s64]
  refine ⟨fun c => ?_, fun c => ?_⟩
  · have c' := (eqE f11 o8).mp c
    intro σ14 e14 v15 ev15 σ16 e16
    have k14 : K2 σ0 σ14 := by rw [e14]; exact k12.uf (Rg2.q_0_64 _) (by decide)
    have k16 : K2 σ0 σ16 := by rw [e16]; exact k14.uf (Rg2.q_0_63 _) (by decide)
    have t63 : σ14.1 0 63 = τ.1 0 63 := (kq e14 (fun w => absurd w.2 (by decide))).trans s63
    rw [t63] at ev15
    have f15 : v15.toInt = (τ.1 0 63).toInt + 1 := (congrArg Int32.toInt ev15).trans (aOkE rfl o1 (by omega) (by omega))
    have u63 : σ16.1 0 63 = v15 := by rw [rw1 e16, up1]
    have u64 : σ16.1 0 64 = 0 := by rw [kq e16 (fun w => absurd w.2 (by decide)), rw1 e14, up1]
    refine go σ16 k16 ((g12.u e14 (Or.inr rfl)).u e16 (Or.inl rfl)) ?_ (m12.ext (by rw [e16, e14]; rfl) (fun i q => by rw [e16, u1e (by omega), e14, u1e (by omega)]) (fun _ d => d) ((rwn e16 (by decide)).trans (rwn e14 (by decide))))
    unfold BN
    rw [u63, u64, z0]
    omega
  · have c' := (noteqE f11 o8).mp c
    refine go σ12 k12 g12 ?_ m12
    unfold BN
    rw [s63, s64]
    omega
set_option maxHeartbeats 2000000 in
/-- the bits of a leaf: the reference -/
theorem v_way (hN : 4294967400 ≤ N) {x1 : Int32} {A m l : Nat} {Q : St → Prop} {τ υ : St} {L n : Nat} {base : Int} {D : Nat → Prop} (hlo : lo ≤ A) (hhi : ∀ e : Nat, e < dpN τ l → A + 1 + (m + e) / 8 < hi) (h4096 : hi ≤ 4096) (hc : 0 ≤ (cc.1 0 7).toInt) (hz : 0 < (cc.1 0 7).toInt → 0 ≤ (cc.2 0 8).toInt ∧ (cc.2 0 8).toInt ≤ 100000) (hυ : K2 σ0 υ) (hf : FrC τ υ) (hT : TK b τ L n) (hD : PD τ L n L base) (el : x1.toInt = l) (hl : l < n) (hB : BN υ (8 * ((A : Int) + 1) + m)) (hP : 8 * (A + 1) + m + dpN τ l ≤ 32768) (hV : Vt cc lo hi υ D) (hQ : ∀ ω : St, K2 σ0 ω → FrB υ ω → BN ω (8 * ((A : Int) + 1) + (m + dpN τ l : Nat)) → Vt cc lo hi ω (fun y => D y ∨ ∃ e : Nat, e < dpN τ l ∧ y = A + 1 + (m + e) / 8) → Q ω) : fX12_way_ N x1 Q υ := by
  have o1 : (1 : Int32).toInt = 1 := by decide
  have z0 : (0 : Int32).toInt = 0 := by decide
  obtain ⟨⟨t1, t2, t3, t4, t5⟩, tk, ta, ts, tr, tl, _⟩ := id hT
  have cl : x1.toNatClampNeg = l := by have := clE el (by omega); omega
  have bl := PD.bd hT hD (i := l) hl
  have eD : (τ.1 35 l).toInt = dpN τ l := by unfold dpN; omega
  obtain ⟨Dn, hDD⟩ : ∃ D : Nat, dpN τ l = D := ⟨_, rfl⟩
  rw [hDD] at eD hP hQ hhi
  have hin1 : vp_in x1 122 := inE el (by omega) (by omega)
  unfold fX12_way_
  refine lo1_i (fun (d : Int32) (ω : St) => K2 σ0 ω ∧ FrB υ ω ∧ 1 ≤ d.toInt ∧ d.toInt ≤ (Dn : Int) + 1 ∧ BN ω (8 * ((A : Int) + 1) + (m + (d.toInt - 1).toNat : Nat)) ∧ Vt cc lo hi ω (fun y => D y ∨ ∃ e : Nat, e < (d.toInt - 1).toNat ∧ y = A + 1 + (m + e) / 8)) (fun d _ => (2147483648 - d.toInt).toNat) ?_ N 1 υ ⟨hυ, fun _ _ _ => rfl, by omega, by omega, by rw [o1]; exact hB, hV.ext rfl (fun _ _ => rfl) (fun y d => by rcases d with d | ⟨e, e1, _⟩; exact d; rw [o1] at e1; omega)⟩ (by (try dsimp only); omega)
  intro r2 d ω hI ih
  obtain ⟨hω, fω, i1, i2, i3, i4⟩ := hI
  have r35 : ω.1 35 = τ.1 35 := funext (fun j => (fω 35 j (by omega)).trans (hf 35 j (by omega)))
  have r32 : ∀ j : Nat, ω.1 32 j = τ.1 32 j := fun j => (fω 32 j (by omega)).trans (hf 32 j (by omega))
  obtain ⟨e, he⟩ : ∃ e : Nat, (d.toInt - 1).toNat = e := ⟨_, rfl⟩
  rw [he] at i3 i4
  unfold fX12_way__l2
  rw [cl, r35]
  refine ⟨hin1, fun c => ?_, fun c => ?_⟩
  · have c' := (ltE eD (rfl : d.toInt = d.toInt)).mp c
    rw [show e = Dn by omega] at i3 i4
    exact hQ ω hω fω i3 i4
  · have c' := (notltE eD (rfl : d.toInt = d.toInt)).mp c
    refine lo1_i (fun (x : Int32) (ψ : St) => ψ = ω ∧ ∃ j : Nat, x.toInt = (anc τ l j : Nat) ∧ anc τ l j < n ∧ d.toInt ≤ (τ.1 35 (anc τ l j)).toInt ∧ (τ.1 35 (anc τ l j)).toInt + j = Dn) (fun x _ => ((τ.1 35 x.toNatClampNeg).toInt).toNat) ?_ N x1 ω ⟨rfl, 0, el, hl, by show d.toInt ≤ (τ.1 35 l).toInt; omega, by show (τ.1 35 l).toInt + ((0 : Nat) : Int) = Dn; omega⟩ (by (try dsimp only); rw [cl]; omega)
    intro r14 x ψ hI2 ih2
    obtain ⟨rfl, j, j1, j2, j3, j4⟩ := hI2
    obtain ⟨i, hiA⟩ : ∃ i : Nat, anc τ l j = i := ⟨_, rfl⟩
    rw [hiA] at j1 j2 j3 j4
    have cx : x.toNatClampNeg = i := by have := clE j1 (by omega); omega
    have bi := PD.bd hT hD (i := i) j2
    have hinx : vp_in x 122 := inE j1 (by omega) (by omega)
    have i1n : i + 1 < n := by
      by_cases w : i = n - 1
      · have := hD.2.1
        rw [w] at j3
        omega
      · omega
    obtain ⟨k, d1, d2, d3, d4, d5⟩ := PD.dp hT hD i1n
    have ck : (τ.1 32 i).toNatClampNeg = k := by have := clE d4 (by omega); omega
    unfold fX12_way__l14
    rw [cx, r35]
    refine ⟨hinx, fun g => ?_, fun g => ?_⟩
    · have g' := (leE (rfl : (τ.1 35 i).toInt = _) (rfl : d.toInt = d.toInt)).mp g
      obtain ⟨p1, p2, p3, p4⟩ := id i3
      have j50 : ∀ (φ : St), K2 σ0 φ → FrB υ φ → BN φ (8 * ((A : Int) + 1) + (m + e : Nat)) → Vt cc lo hi φ (fun y => D y ∨ ∃ i : Nat, i < e ∧ y = A + 1 + (m + i) / 8) → fX12_way__j50 N r2 x1 d x Q φ := by
        intro φ kφ fφ bφ mφ
        have s32 : φ.1 32 i = τ.1 32 i := (fφ 32 i (by omega)).trans (hf 32 i (by omega))
        have j70 : ∀ t0 : Int32, fX12_way__j70 N r2 x1 d t0 Q φ := by
          intro t0
          refine v_way70 (A := A) (m := m + e) hlo (hhi e (by omega)) h4096 hc hz kφ fφ bφ (by omega) (by omega) (by omega) mφ (fun v ρ fv kρ fρ bρ mρ => ?_)
          have ev : (v.toInt - 1).toNat = e + 1 := by omega
          refine ih v ρ ⟨kρ, fρ, by omega, by omega, by rw [ev]; exact bρ, mρ.ext rfl (fun _ _ => rfl) (fun y d => ?_)⟩ (by (try dsimp only); omega)
          rw [ev] at d
          rcases d with d | ⟨e', e1, e2⟩
          · exact Or.inl (Or.inl d)
          · by_cases w : e' = e
            · exact Or.inr (by rw [e2, w])
            · exact Or.inl (Or.inr ⟨e', by omega, e2⟩)
        unfold fX12_way__j50
        rw [cx, s32, ck]
        exact ⟨hinx, inE d4 (by omega) (by omega), fun q => j70 1, fun q => j70 0⟩
      refine ⟨fun q => ?_, fun q => j50 ψ hω fω i3 i4⟩
      rw [q, z0] at p4
      have he' := hhi e (by omega)
      refine v_put (j := A + 1 + (m + e) / 8) (v := 0) (by omega) (by omega) (by omega) h4096 hc hz i4 hω (fun φ kφ fφ mφ => ?_)
      exact j50 φ kφ (fω.t fφ) (i3.ext (fφ 0 63 (by omega)) (fφ 0 64 (by omega))) (mφ.ext rfl (fun _ _ => rfl) (fun _ d => Or.inl d))
    · have g' := (notleE (rfl : (τ.1 35 i).toInt = (τ.1 35 i).toInt) (rfl : d.toInt = d.toInt)).mp g
      refine ⟨hinx, fun v8 ev8 => ?_⟩
      rw [r32] at ev8
      have f8 : v8.toInt = k := by rw [ev8]; exact d4
      have e8 : v8.toNatClampNeg = k := by have := clE f8 (by omega); omega
      have ak : anc τ l (j + 1) = k := by rw [← anc_up, hiA]; exact ck
      exact ih2 v8 _ ⟨rfl, j + 1, by rw [ak]; exact f8, by rw [ak]; exact d2, by rw [ak]; omega, by rw [ak]; omega⟩ (by (try dsimp only); rw [e8, cx]; omega)
set_option maxHeartbeats 2000000 in
/-- one text: the reference -/
theorem v_text1 (hN : 4294967400 ≤ N) {r249 : Int32 → St → Prop} {x5 x6 : Int32} {t A : Nat} {base : Int} {Q : Int32 → St → Prop} {τ ω : St} {L n : Nat} {D : Nat → Prop} (hlo : lo ≤ A) (hhi : A + 1 + txB b τ t ≤ hi) (h4096 : hi ≤ 4096) (hc : 0 ≤ (cc.1 0 7).toInt) (hz : 0 < (cc.1 0 7).toInt → 0 ≤ (cc.2 0 8).toInt ∧ (cc.2 0 8).toInt ≤ 100000) (et : x6.toInt = t) (hb : K2 σ0 b) (hT : TK b τ L n) (hD : PD τ L n L base) (h6 : (t : Int) < (b.1 0 41).toInt) (hA2 : A + 1 + txB b τ t ≤ 4096) (hω : K2 σ0 ω) (fω : FrC τ ω) (hp : ∀ k : Nat, (k : Int) < (tR b t).toInt → ω.1 26 k = tP b t k) (hB : BN ω (8 * ((A : Int) + 1))) (h23 : (ω.1 23 t).toInt = dpN τ 0) (hV : Vt cc lo hi ω (fun y => D y ∨ y = A))
    (hr : ∀ (v : Int32) (υ : St), v.toInt = (t : Int) + 1 → K2 σ0 υ → FrC τ υ → (υ.1 0 63).toInt = (A + (1 + txB b τ t) : Nat) → Vt cc lo hi υ (iv D A ((A : Int) + 1 + txB b τ t)) → (υ.1 23 t).toInt = txN b τ t → (∀ i : Nat, i ≠ t → υ.1 23 i = ω.1 23 i) → (∀ i : Nat, υ.1 22 i = ω.1 22 i) → r249 v υ) : lo1 (fX12_tree_l326 N r249 x5 x6 (tR b t) Q) N 0 ω := by
  have z0 : (0 : Int32).toInt = 0 := by decide
  have zc : (0 : Int32).toNatClampNeg = 0 := by decide
  have o1 : (1 : Int32).toInt = 1 := by decide
  have b41 := K2.q_0_41 hb
  have b36 := K2.g_0_36 hb
  have bR := tR_le hb t
  have c6 : x6.toNatClampNeg = t := by have := clE et (by omega); omega
  obtain ⟨t1, t2, t3, t4, t5⟩ := hT.1
  have bB := Bt_le hb hT hD (t := t) h6
  have eBN := txN_Bt hb hT hD (t := t) h6
  have bz := (PD.bd hT hD (i := 0) (by omega)).2.2.1
  have d0 : (τ.1 35 0).toInt = dpN τ 0 := by unfold dpN; omega
  have hin6 : vp_in x6 20 := inE et (by omega) (by omega)
  have cNe : cN b t = (tR b t).toInt.toNat := rfl
  unfold txB at hA2
  refine lo1_i (fun (y : Int32) (υ : St) => K2 σ0 υ ∧ FrC τ υ ∧ υ.1 26 = ω.1 26 ∧ 0 ≤ y.toInt ∧ (y.toInt = 0 ∨ y.toInt ≤ (tR b t).toInt) ∧ BN υ (8 * ((A : Int) + 1) + ((txS b τ t y.toNatClampNeg).2 : Nat)) ∧ Vt cc lo hi υ (fun x => (D x ∨ x = A) ∨ ∃ e : Nat, e < (txS b τ t y.toNatClampNeg).2 ∧ x = A + 1 + e / 8) ∧ (υ.1 23 t).toInt = ((txS b τ t y.toNatClampNeg).2 + dpN τ 0 : Nat) ∧ (∀ i : Nat, i ≠ t → υ.1 23 i = ω.1 23 i) ∧ (∀ i : Nat, υ.1 22 i = ω.1 22 i)) (fun y _ => (2147483648 - y.toInt).toNat) ?_ N 0 ω ⟨hω, fω, rfl, by omega, Or.inl z0, ?_, ?_, ?_, fun _ _ => rfl, fun _ => rfl⟩ (by (try dsimp only); omega)
  · intro rr y υ hI ih
    obtain ⟨hυ, fυ, u26, i1, i2, i3, i4, i5, i6, i7⟩ := hI
    have ey := clE (rfl : y.toInt = y.toInt) i1
    obtain ⟨m, hm⟩ : ∃ m : Nat, y.toNatClampNeg = m := ⟨_, rfl⟩
    rw [hm] at ey i3 i4 i5
    have r35 : υ.1 35 = τ.1 35 := funext (fun j => fυ 35 j (by omega))
    have r36 : υ.1 36 = τ.1 36 := funext (fun j => fυ 36 j (by omega))
    have sm := txS_bs hb hT hD h6 m (by omega)
    unfold fX12_tree_l326
    refine ⟨fun c => ?_, fun c => ?_⟩
    · have c' := (leE (rfl : (tR b t).toInt = (tR b t).toInt) (rfl : y.toInt = y.toInt)).mp c
      have em : m = cN b t := by omega
      rw [em] at i3 i4 i5
      have eB : (txS b τ t (cN b t)).2 + dpN τ 0 = txN b τ t := rfl
      refine v_way hN (A := A) (l := 0) hlo (fun e he => ?_) h4096 hc hz hυ fυ hT hD (by omega) (by omega) i3 (by omega) i4 (fun ψ kψ fψ bψ mψ => ?_)
      · unfold txB at hhi; omega
      rw [eB] at bψ
      obtain ⟨p1, p2, p3, p4⟩ := bψ
      have fin : ∀ t0 : Int32, (t0.toInt = 0 ∧ (ψ.1 0 64).toInt ≤ 0) ∨ (t0.toInt = 1 ∧ ¬ (ψ.1 0 64).toInt ≤ 0) → fX12_tree_j404 N r249 x5 x6 t0 (ψ.1 0 63) Q ψ := by
        intro t0 ht0
        intro v40 ev40 σ41 e41 v42 ev42
        have f40 : v40.toInt = (ψ.1 0 63).toInt + t0.toInt := (congrArg Int32.toInt ev40).trans (aOkE rfl rfl (by omega) (by omega))
        have f42 : v42.toInt = (t : Int) + 1 := (congrArg Int32.toInt ev42).trans (aOkE et o1 (by omega) (by omega))
        refine hr v42 σ41 f42 (by rw [e41]; exact kψ.uf (Rg2.q_0_63 _) (by decide)) ((fυ.tr (FrC.ofB fψ)).u e41 (by omega)) ?_ ?_ ?_ (fun i hi => ?_) (fun i => ?_)
        · rw [rw1 e41, up1, f40]
          unfold txB
          omega
        · refine mψ.ext (by rw [e41]; rfl) (fun i q => by rw [e41, u1e (by omega)]) (fun x d => ?_) (rwn e41 (by decide))
          rcases d with d | d
          · exact Or.inl (Or.inl (Or.inl d))
          · by_cases w : x = A
            · exact Or.inl (Or.inl (Or.inr w))
            · have eB2 : txB b τ t = (txN b τ t + 7) / 8 := rfl
              have d2 := d.2
              by_cases w2 : 8 * (x - (A + 1)) < (txS b τ t (cN b t)).2
              · exact Or.inl (Or.inr ⟨8 * (x - (A + 1)), w2, by omega⟩)
              · exact Or.inr ⟨8 * (x - (A + 1)) - (txS b τ t (cN b t)).2, by omega, by omega⟩
        · rw [e41, u1e (by omega), fψ 23 t (by omega)]
          exact i5
        · rw [e41, u1e (by omega), fψ 23 i (by omega)]
          exact i6 i hi
        · rw [e41, u1e (by omega), fψ 22 i (by omega)]
          exact i7 i
      exact ⟨fun q => fin 0 (Or.inl ⟨z0, (leE rfl z0).mp q⟩), fun q => fin 1 (Or.inr ⟨o1, (notleE rfl z0).mp q⟩)⟩
    · have c' := (notleE (rfl : (tR b t).toInt = (tR b t).toInt) (rfl : y.toInt = y.toInt)).mp c
      have e26 : υ.1 26 m = tP b t m := by rw [u26]; exact hp m (by omega)
      have bP' := tP_lt hb (t := t) (k := m) (by omega)
      have hinP : vp_in (tP b t m) 60 := inE (rfl : (tP b t m).toInt = (tP b t m).toInt) (by omega) (by omega)
      obtain ⟨l, l1, l2⟩ := leaf_ok hb hT (t := t) (k := m) h6 (by omega)
      have el : (τ.1 36 (tP b t m).toNatClampNeg).toNatClampNeg = l := by have := clE l2 (by omega); omega
      have lT : lfT b τ t m = l := el
      have hiny : vp_in y 120 := inE (rfl : y.toInt = y.toInt) (by omega) (by omega)
      have hinl : vp_in (τ.1 36 (tP b t m).toNatClampNeg) 122 := inE l2 (by omega) (by omega)
      have bm := bsum_mono hb hT hD (t := t) h6 (m + 1) ((tR b t).toInt.toNat - (m + 1)) (by omega)
      rw [show m + 1 + ((tR b t).toInt.toNat - (m + 1)) = (tR b t).toInt.toNat by omega] at bm
      have bm' : bsum b τ t (m + 1) ≤ Bt b τ t := bm
      have sm1 := txS_bs hb hT hD h6 (m + 1) (by omega)
      have s2 : (txS b τ t (m + 1)).2 = (txS b τ t m).2 + dpN τ l := by show (txS b τ t m).2 + dpN τ (lfT b τ t m) = _; rw [lT]
      have dl := (PD.bd hT hD (i := l) (by omega)).2.2
      have eDl : (τ.1 35 l).toInt = dpN τ l := by unfold dpN; omega
      rw [hm, e26, r36, c6, el, r35]
      refine ⟨hin6, hiny, hinP, hinl, fun v44 ev44 => ⟨hin6, fun σ46 e46 => ?_⟩⟩
      have f44 : v44.toInt = ((txS b τ t m).2 + dpN τ 0 : Nat) + (dpN τ l : Int) := (congrArg Int32.toInt ev44).trans (aOkE i5 eDl (by omega) (by omega))
      have k46 : K2 σ0 σ46 := by rw [e46]; exact hυ.ua (Rg2.q_23 _ _) (by decide)
      have f46 : FrC τ σ46 := fυ.u e46 (by omega)
      have s26 : σ46.1 26 = υ.1 26 := rwn e46 (by decide)
      have s36 : σ46.1 36 = τ.1 36 := (rwn e46 (by decide)).trans r36
      rw [s26, e26, s36]
      refine ⟨hiny, hinP, ?_⟩
      refine v_way hN (A := A) (m := (txS b τ t m).2) (l := l) hlo (fun e he => ?_) h4096 hc hz k46 f46 hT hD l2 (by omega) (i3.ext (kq e46 (by omega)) (kq e46 (by omega))) (by omega) (i4.ext (by rw [e46]; rfl) (fun i q => by rw [e46, u1e (by omega)]) (fun _ d => d) (rwn e46 (by decide))) (fun ψ kψ fψ bψ mψ => ?_)
      · unfold txB at hhi; omega
      intro v50 ev50
      have f50 : v50.toInt = y.toInt + 1 := (congrArg Int32.toInt ev50).trans (aOkE rfl o1 (by omega) (by omega))
      have e50 : v50.toNatClampNeg = m + 1 := by have := clE f50 (by omega); omega
      have ts1 : txS b τ t (m + 1) = (pa (bP τ l) (txS b τ t m).1 (txS b τ t m).2 (dpN τ l), (txS b τ t m).2 + dpN τ l) := by show (pa (bP τ (lfT b τ t m)) _ _ (dpN τ (lfT b τ t m)), _ + dpN τ (lfT b τ t m)) = _; rw [lT]
      refine ih v50 ψ ⟨kψ, f46.tr (FrC.ofB fψ), ?_, by omega, by omega, ?_, ?_, ?_, fun i hi => ?_, fun i => ?_⟩ (by (try dsimp only); omega)
      · rw [show ψ.1 26 = σ46.1 26 from funext (fun j => fψ 26 j (by omega)), s26, u26]
      · rw [e50, ts1]; exact bψ
      · refine mψ.ext rfl (fun _ _ => rfl) (fun x d => ?_)
        rw [e50, ts1] at d
        rcases d with d | ⟨e, e1, e2⟩
        · exact Or.inl (Or.inl d)
        · by_cases w : e < (txS b τ t m).2
          · exact Or.inl (Or.inr ⟨e, w, e2⟩)
          · have e1' : e < (txS b τ t m).2 + dpN τ l := e1
            exact Or.inr ⟨e - (txS b τ t m).2, by omega, by rw [e2, show (txS b τ t m).2 + (e - (txS b τ t m).2) = e by omega]⟩
      · rw [e50, ts1, fψ 23 t (by omega), e46, u1v, f44]
        show _ = (((txS b τ t m).2 + dpN τ l + dpN τ 0 : Nat) : Int)
        omega
      · rw [fψ 23 i (by omega), e46, u1e (by omega)]
        exact i6 i hi
      · rw [fψ 22 i (by omega), e46, u1e (by omega)]
        exact i7 i
  · rw [zc]
    show BN ω (8 * ((A : Int) + 1) + ((0 : Nat) : Int))
    rw [Int.natCast_zero, Int.add_zero]
    exact hB
  · rw [zc]
    refine hV.ext rfl (fun _ _ => rfl) (fun x d => ?_)
    rcases d with d | ⟨e, e1, _⟩
    · exact d
    · exact absurd e1 (Nat.not_lt_zero _)
  · rw [zc, h23]
    show (dpN τ 0 : Int) = ((0 + dpN τ 0 : Nat) : Int)
    omega
end CACHE15
