section SIM50
variable {N : Nat} {a b σ0 : St}
theorem MR.ext {τ : St} {M M' : Nat → Int32} (h : MR τ M) (e : ∀ i : Nat, i < 4096 → M i = M' i) : MR τ M' := fun i hi => (h i hi).trans (e i hi)
theorem MC.ext {τ : St} {M M' : Nat → Int32} (h : MC τ M) (e : ∀ i : Nat, i < 4096 → M i = M' i) : MC τ M' := fun i hi => (h i hi).trans (e i hi)
theorem MR.fr {τ υ : St} {M : Nat → Int32} (h : MR τ M) (e : ∀ i : Nat, υ.1 1 i = τ.1 1 i) : MR υ M := fun i hi => (e i).trans (h i hi)
/-- bits put behind m others -/
def pa (β : Nat → Int32) (W : Nat → Int32) (m : Nat) : Nat → Nat → Int32
  | 0 => W
  | d + 1 => upd (pa β W m d) ((m + d) / 8) ((pa β W m d ((m + d) / 8) ||| (β d <<< (nI ((m + d) % 8) &&& 31))) &&& 255)
/-- nothing stands behind m bits -/
def ZW (W : Nat → Int32) (m : Nat) : Prop := ∀ q : Nat, m ≤ 8 * q → W q = 0
theorem pa_zw {β W : Nat → Int32} {m : Nat} (h : ZW W m) : ∀ d : Nat, ZW (pa β W m d) (m + d)
  | 0 => h
  | d + 1 => fun q hq => by
    show upd (pa β W m d) ((m + d) / 8) _ q = 0
    rw [up2 (by omega)]
    exact pa_zw h d q (by omega)
/-- a text's bytes, as the reference has them, as the class -/
def TM (A : Nat) (W : Nat → Int32) (m : Nat) (M : Nat → Int32) : Nat → Int32 := fun x => if x = A then 225 else if A + 1 ≤ x ∧ 8 * (x - (A + 1)) < m then W (x - (A + 1)) else M x
def TC (A : Nat) (W : Nat → Int32) (nb : Nat) (M : Nat → Int32) : Nat → Int32 := fun x => if x = A then 225 else if A + 1 ≤ x ∧ x < A + 1 + nb then W (x - (A + 1)) else M x
theorem TM_TC {A m nb : Nat} {W M : Nat → Int32} (h : nb = (m + 7) / 8) : TM A W m M = TC A W nb M := by
  funext x
  unfold TM TC
  by_cases e : x = A
  · rw [if_pos e, if_pos e]
  · rw [if_neg e, if_neg e]
    by_cases g : A + 1 ≤ x ∧ 8 * (x - (A + 1)) < m
    · rw [if_pos g, if_pos (by omega)]
    · rw [if_neg g, if_neg (by omega)]
/-- the bits that lead to a leaf -/
def bP (τ : St) (l d : Nat) : Int32 := if (τ.1 31 (τ.1 32 (anc τ l (dpN τ l - (d + 1)))).toNatClampNeg).toInt = (anc τ l (dpN τ l - (d + 1)) : Nat) then 1 else 0
theorem anc_up (τ : St) : ∀ (j i : Nat), (τ.1 32 (anc τ i j)).toNatClampNeg = anc τ i (j + 1)
  | 0, _ => rfl
  | j + 1, i => anc_up τ j (τ.1 32 i).toNatClampNeg
theorem anc_ext {τ υ : St} (h : ∀ i : Nat, υ.1 32 i = τ.1 32 i) : ∀ (j i : Nat), anc υ i j = anc τ i j
  | 0, _ => rfl
  | j + 1, i => by
    show anc υ (υ.1 32 i).toNatClampNeg j = anc τ (τ.1 32 i).toNatClampNeg j
    rw [h, anc_ext h j]
/-- one bit more: the reference -/
theorem e_way70 {r2 : Int32 → St → Prop} {x1 x2 t0 : Int32} {A m : Nat} {Q : St → Prop} {σ τ : St} {M : Nat → Int32} (hτ : K2 σ0 τ) (fτ : FrB σ τ) (hP : BN τ (8 * ((A : Int) + 1) + m)) (hP2 : 8 * (A + 1) + m < 32768) (hx : 0 ≤ x2.toInt) (hx2 : x2.toInt ≤ 1000) (hM : MR τ M) (hr : ∀ (v : Int32) (υ : St), v.toInt = x2.toInt + 1 → K2 σ0 υ → FrB σ υ → BN υ (8 * ((A : Int) + 1) + (m + 1 : Nat)) → MR υ (wB M (A + 1 + m / 8) (M (A + 1 + m / 8) ||| (t0 <<< (nI (m % 8) &&& 31)))) → r2 v υ) : fX12_way__j70 N r2 x1 x2 t0 Q τ := by
  have z0 : (0 : Int32).toInt = 0 := by decide
  have o1 : (1 : Int32).toInt = 1 := by decide
  have o8 : (8 : Int32).toInt = 8 := by decide
  obtain ⟨p1, p2, p3, p4⟩ := hP
  have e63 : (τ.1 0 63).toInt = (A + 1 + m / 8 : Nat) := by omega
  have e64 : τ.1 0 64 = nI (m % 8) := Int32.toInt_inj.mp (by rw [nI_toInt (by omega)]; omega)
  have c63 : (τ.1 0 63).toNatClampNeg = A + 1 + m / 8 := by have := clE e63 (by omega); omega
  have go : ∀ υ : St, K2 σ0 υ → FrB σ υ → BN υ (8 * ((A : Int) + 1) + (m + 1 : Nat)) → MR υ (wB M (A + 1 + m / 8) (M (A + 1 + m / 8) ||| (t0 <<< (nI (m % 8) &&& 31)))) → fX12_way__j131 N r2 x1 x2 Q υ := by
    intro υ kυ fυ bυ mυ v ev
    exact hr v υ ((congrArg Int32.toInt ev).trans (aOkE rfl o1 (by omega) (by omega))) kυ fυ bυ mυ
  unfold fX12_way__j70
  rw [c63, hM _ (by omega), e64]
  refine ⟨inE e63 (by omega) (by omega), e_put e63 (by omega) hM hτ (fun ω kω fω mω => ?_)⟩
  intro v11 ev11 σ12 e12
  rw [fω 0 64 (by omega)] at ev11
  have f11 : v11.toInt = (τ.1 0 64).toInt + 1 := (congrArg Int32.toInt ev11).trans (aOkE rfl o1 (by omega) (by omega))
  have k12 : K2 σ0 σ12 := by rw [e12]; exact kω.uf (Rg2.q_0_64 _) (by decide)
  have g12 : FrB σ σ12 := (fτ.t fω).u e12 (Or.inr rfl)
  have s64 : σ12.1 0 64 = v11 := by rw [rw1 e12, up1]
  have s63 : σ12.1 0 63 = τ.1 0 63 := by rw [kq e12 (fun w => absurd w.2 (by decide)), fω 0 63 (by omega)]
  have m12 := mω.fr (υ := σ12) (fun i => by rw [e12, u1e (by omega)])
  rw [s64]
  refine ⟨fun c => ?_, fun c => ?_⟩
  · have c' := (eqE f11 o8).mp c
    intro σ14 e14 v15 ev15 σ16 e16
    have k14 : K2 σ0 σ14 := by rw [e14]; exact k12.uf (Rg2.q_0_64 _) (by decide)
    have k16 : K2 σ0 σ16 := by rw [e16]; exact k14.uf (Rg2.q_0_63 _) (by decide)
    have t63 : σ14.1 0 63 = τ.1 0 63 := (kq e14 (fun w => absurd w.2 (by decide))).trans s63
    rw [t63] at ev15
    have f15 : v15.toInt = (τ.1 0 63).toInt + 1 := (congrArg Int32.toInt ev15).trans (aOkE rfl o1 (by omega) (by omega))
    have u63 : σ16.1 0 63 = v15 := by rw [rw1 e16, up1]
    have u64 : σ16.1 0 64 = 0 := by rw [kq e16 (fun w => absurd w.2 (by decide)), rw1 e14, up1]
    refine go σ16 k16 ((g12.u e14 (Or.inr rfl)).u e16 (Or.inl rfl)) ?_ (m12.fr (fun i => by rw [e16, u1e (by omega), e14, u1e (by omega)]))
    unfold BN
    rw [u63, u64, z0]
    omega
  · have c' := (noteqE f11 o8).mp c
    refine go σ12 k12 g12 ?_ m12
    unfold BN
    rw [s63, s64]
    omega
set_option maxHeartbeats 2000000 in
/-- the bits of a leaf: the reference -/
theorem e_way (hN : 4294967400 ≤ N) {x1 : Int32} {A m l : Nat} {Q : St → Prop} {τ υ : St} {L n : Nat} {base : Int} {W M : Nat → Int32} (hυ : K2 σ0 υ) (hf : FrC τ υ) (hT : TK b τ L n) (hD : PD τ L n L base) (el : x1.toInt = l) (hl : l < n) (hB : BN υ (8 * ((A : Int) + 1) + m)) (hP : 8 * (A + 1) + m + dpN τ l ≤ 32768) (hZ : ZW W m) (hM : MR υ (TM A W m M)) (hQ : ∀ ω : St, K2 σ0 ω → FrB υ ω → BN ω (8 * ((A : Int) + 1) + (m + dpN τ l : Nat)) → MR ω (TM A (pa (bP τ l) W m (dpN τ l)) (m + dpN τ l) M) → Q ω) : fX12_way_ N x1 Q υ := by
  have o1 : (1 : Int32).toInt = 1 := by decide
  have z0 : (0 : Int32).toInt = 0 := by decide
  obtain ⟨⟨t1, t2, t3, t4, t5⟩, tk, ta, ts, tr, tl, _⟩ := id hT
  have cl : x1.toNatClampNeg = l := by have := clE el (by omega); omega
  have bl := PD.bd hT hD (i := l) hl
  have eD : (τ.1 35 l).toInt = dpN τ l := by unfold dpN; omega
  obtain ⟨D, hDD⟩ : ∃ D : Nat, dpN τ l = D := ⟨_, rfl⟩
  rw [hDD] at eD hP hQ
  have hin1 : vp_in x1 122 := inE el (by omega) (by omega)
  unfold fX12_way_
  refine lo1_i (fun (d : Int32) (ω : St) => K2 σ0 ω ∧ FrB υ ω ∧ 1 ≤ d.toInt ∧ d.toInt ≤ (D : Int) + 1 ∧ BN ω (8 * ((A : Int) + 1) + (m + (d.toInt - 1).toNat : Nat)) ∧ MR ω (TM A (pa (bP τ l) W m (d.toInt - 1).toNat) (m + (d.toInt - 1).toNat) M)) (fun d _ => (2147483648 - d.toInt).toNat) ?_ N 1 υ ⟨hυ, fun _ _ _ => rfl, by omega, by omega, by rw [o1]; exact hB, by rw [o1]; exact hM⟩ (by (try dsimp only); omega)
  intro r2 d ω hI ih
  obtain ⟨hω, fω, i1, i2, i3, i4⟩ := hI
  have r35 : ω.1 35 = τ.1 35 := funext (fun j => (fω 35 j (by omega)).trans (hf 35 j (by omega)))
  have r32 : ∀ j : Nat, ω.1 32 j = τ.1 32 j := fun j => (fω 32 j (by omega)).trans (hf 32 j (by omega))
  obtain ⟨e, he⟩ : ∃ e : Nat, (d.toInt - 1).toNat = e := ⟨_, rfl⟩
  rw [he] at i3 i4
  unfold fX12_way__l2
  rw [cl, r35]
  refine ⟨hin1, fun c => ?_, fun c => ?_⟩
  · have c' := (ltE eD (rfl : d.toInt = d.toInt)).mp c
    rw [show e = D by omega] at i3 i4
    exact hQ ω hω fω i3 i4
  · have c' := (notltE eD (rfl : d.toInt = d.toInt)).mp c
    refine lo1_i (fun (x : Int32) (ψ : St) => ψ = ω ∧ ∃ j : Nat, x.toInt = (anc τ l j : Nat) ∧ anc τ l j < n ∧ d.toInt ≤ (τ.1 35 (anc τ l j)).toInt ∧ (τ.1 35 (anc τ l j)).toInt + j = D) (fun x _ => ((τ.1 35 x.toNatClampNeg).toInt).toNat) ?_ N x1 ω ⟨rfl, 0, el, hl, by show d.toInt ≤ (τ.1 35 l).toInt; omega, by show (τ.1 35 l).toInt + ((0 : Nat) : Int) = D; omega⟩ (by (try dsimp only); rw [cl]; omega)
    intro r14 x ψ hI2 ih2
    obtain ⟨rfl, j, j1, j2, j3, j4⟩ := hI2
    obtain ⟨i, hi⟩ : ∃ i : Nat, anc τ l j = i := ⟨_, rfl⟩
    rw [hi] at j1 j2 j3 j4
    have cx : x.toNatClampNeg = i := by have := clE j1 (by omega); omega
    have bi := PD.bd hT hD (i := i) j2
    have hinx : vp_in x 122 := inE j1 (by omega) (by omega)
    have i1n : i + 1 < n := by
      by_cases w : i = n - 1
      · have := hD.2.1
        rw [w] at j3
        omega
      · omega
    obtain ⟨k, d1, d2, d3, d4, d5⟩ := PD.dp hT hD i1n
    have ck : (τ.1 32 i).toNatClampNeg = k := by have := clE d4 (by omega); omega
    unfold fX12_way__l14
    rw [cx, r35]
    refine ⟨hinx, fun g => ?_, fun g => ?_⟩
    · have g' := (leE (rfl : (τ.1 35 i).toInt = _) (rfl : d.toInt = d.toInt)).mp g
      have ai : anc τ l (dpN τ l - (e + 1)) = i := by rw [hDD, show D - (e + 1) = j by omega]; exact hi
      obtain ⟨p1, p2, p3, p4⟩ := id i3
      have j50 : ∀ (φ : St) (M1 : Nat → Int32), K2 σ0 φ → FrB υ φ → BN φ (8 * ((A : Int) + 1) + (m + e : Nat)) → MR φ M1 → (∀ y : Nat, y < 4096 → wB M1 (A + 1 + (m + e) / 8) (M1 (A + 1 + (m + e) / 8) ||| (bP τ l e <<< (nI ((m + e) % 8) &&& 31))) y = TM A (pa (bP τ l) W m (e + 1)) (m + (e + 1)) M y) → fX12_way__j50 N r2 x1 d x Q φ := by
        intro φ M1 kφ fφ bφ mφ hW
        have s32 : φ.1 32 i = τ.1 32 i := (fφ 32 i (by omega)).trans (hf 32 i (by omega))
        have s31 : φ.1 31 k = τ.1 31 k := (fφ 31 k (by omega)).trans (hf 31 k (by omega))
        have j70 : ∀ t0 : Int32, t0 = bP τ l e → fX12_way__j70 N r2 x1 d t0 Q φ := by
          intro t0 ht0
          refine e_way70 (A := A) (m := m + e) kφ fφ bφ (by omega) (by omega) (by omega) mφ (fun v ρ fv kρ fρ bρ mρ => ?_)
          have ev : (v.toInt - 1).toNat = e + 1 := by omega
          refine ih v ρ ⟨kρ, fρ, by omega, by omega, by rw [ev]; exact bρ, ?_⟩ (by (try dsimp only); omega)
          rw [ev]
          rw [ht0] at mρ
          exact mρ.ext hW
        unfold fX12_way__j50
        rw [cx, s32, ck, s31]
        refine ⟨hinx, inE d4 (by omega) (by omega), fun q => j70 1 ?_, fun q => j70 0 ?_⟩
        · unfold bP
          rw [ai, ck, if_pos (by rw [q]; exact j1)]
        · unfold bP
          rw [ai, ck, if_neg (fun w => q (Int32.toInt_inj.mp (w.trans j1.symm)))]
      have zz := pa_zw (β := bP τ l) hZ e
      refine ⟨fun q => ?_, fun q => ?_⟩
      · rw [q, z0] at p4
        refine e_put (k := A + 1 + (m + e) / 8) (v := 0) (by omega) (by omega) i4 hω (fun φ kφ fφ mφ => ?_)
        refine j50 φ _ kφ (fω.t fφ) (i3.ext (fφ 0 63 (by omega)) (fφ 0 64 (by omega))) mφ (fun y hy => ?_)
        have zq := zz ((m + e) / 8) (by omega)
        unfold wB TM
        by_cases ey : y = A + 1 + (m + e) / 8
        · rw [ey, up1, up1, if_neg (by omega), if_pos (by omega), show A + 1 + (m + e) / 8 - (A + 1) = (m + e) / 8 by omega]
          show _ = upd (pa (bP τ l) W m e) ((m + e) / 8) _ ((m + e) / 8)
          rw [up1, zq]
          rfl
        · rw [up2 ey, up2 ey]
          by_cases eA : y = A
          · rw [if_pos eA, if_pos eA]
          · rw [if_neg eA, if_neg eA]
            by_cases g2 : A + 1 ≤ y ∧ 8 * (y - (A + 1)) < m + e
            · rw [if_pos g2, if_pos (by omega)]
              show _ = upd (pa (bP τ l) W m e) ((m + e) / 8) _ (y - (A + 1))
              rw [up2 (by omega)]
            · rw [if_neg g2, if_neg (by omega)]
      · have n0 : (ψ.1 0 64).toInt ≠ 0 := fun w => q (Int32.toInt_inj.mp (w.trans z0.symm))
        refine j50 ψ _ hω fω i3 i4 (fun y hy => ?_)
        unfold wB TM
        by_cases ey : y = A + 1 + (m + e) / 8
        · rw [ey, up1, if_neg (by omega), if_pos (by omega), if_neg (by omega), if_pos (by omega), show A + 1 + (m + e) / 8 - (A + 1) = (m + e) / 8 by omega]
          show _ = upd (pa (bP τ l) W m e) ((m + e) / 8) _ ((m + e) / 8)
          rw [up1]
        · rw [up2 ey]
          by_cases eA : y = A
          · rw [if_pos eA, if_pos eA]
          · rw [if_neg eA, if_neg eA]
            by_cases g2 : A + 1 ≤ y ∧ 8 * (y - (A + 1)) < m + e
            · rw [if_pos g2, if_pos (by omega)]
              show _ = upd (pa (bP τ l) W m e) ((m + e) / 8) _ (y - (A + 1))
              rw [up2 (by omega)]
            · rw [if_neg g2, if_neg (by omega)]
    · have g' := (notleE (rfl : (τ.1 35 i).toInt = (τ.1 35 i).toInt) (rfl : d.toInt = d.toInt)).mp g
      refine ⟨hinx, fun v8 ev8 => ?_⟩
      rw [r32] at ev8
      have f8 : v8.toInt = k := by rw [ev8]; exact d4
      have e8 : v8.toNatClampNeg = k := by have := clE f8 (by omega); omega
      have ak : anc τ l (j + 1) = k := by rw [← anc_up, hi]; exact ck
      exact ih2 v8 _ ⟨rfl, j + 1, by rw [ak]; exact f8, by rw [ak]; exact d2, by rw [ak]; omega, by rw [ak]; omega⟩ (by (try dsimp only); rw [e8, cx]; omega)
/-- the bits of a leaf: the class -/
theorem c_bits (hN : 4294967400 ≤ N) {x1 x2 x3 : Int32} {A m l nb D : Nat} {Q : Int32 → St → Prop} {β : Nat → Int32} {W M : Nat → Int32} (el : x1.toInt = l) (hl : l < 121) (e2 : x2.toInt = (A : Int) + 1) (e3 : x3.toInt = m) (hD : (a.1 36 l).toInt = D) (hD2 : D ≤ 61) (hβ : ∀ d : Nat, d < D → (((a.2 37 l) >>> ((nI d).toInt64 &&& 63)) &&& 1).toInt32 = β d) (hm : m + D ≤ 8 * nb) (hA : A + 1 + nb ≤ 4096) (hM : MC a (TC A W nb M)) (hQ : ∀ (r : Int32) (υ : St), r.toInt = (m + D : Nat) → FrM a υ → MC υ (TC A (pa β W m D) nb M) → Q r υ) : fX5_putBits N x1 x2 x3 Q a := by
  have z0 : (0 : Int32).toInt = 0 := by decide
  have o1 : (1 : Int32).toInt = 1 := by decide
  have o8 : (8 : Int32).toInt = 8 := by decide
  have cl : x1.toNatClampNeg = l := by have := clE el (by omega); omega
  have hin : vp_in x1 121 := inE el (by omega) (by omega)
  unfold fX5_putBits
  refine lo2_i (fun (x y : Int32) (υ : St) => 0 ≤ y.toInt ∧ y.toInt ≤ D ∧ x.toInt = (m : Int) + y.toInt ∧ FrM a υ ∧ MC υ (TC A (pa β W m y.toNatClampNeg) nb M)) (fun _ y _ => ((D : Int) - y.toInt).toNat) ?_ N x3 0 a ⟨by omega, by omega, by omega, ⟨fun _ _ _ => rfl, rfl⟩, hM⟩ (by (try dsimp only); omega)
  intro rr x y υ hI ih
  obtain ⟨i1, i2, i3, fυ, mυ⟩ := hI
  have ey := clE (rfl : y.toInt = y.toInt) i1
  obtain ⟨d, hd⟩ : ∃ d : Nat, y.toNatClampNeg = d := ⟨_, rfl⟩
  rw [hd] at ey mυ
  have g36 : (υ.1 36 l).toInt = D := by rw [fυ.1 _ _ (by omega)]; exact hD
  unfold fX5_putBits_l6
  rw [cl]
  refine ⟨hin, fun c => ?_, fun c => ?_⟩
  · have c' := (leE g36 (rfl : y.toInt = _)).mp c
    rw [show d = D by omega] at mυ
    exact hQ x υ (by omega) fυ mυ
  · have c' := (notleE g36 (rfl : y.toInt = _)).mp c
    have x8 : (x / 8).toInt = (m + d) / 8 := by rw [id8 (by omega)]; omega
    have ea : (x2 + x / 8).toInt = (A + 1 + (m + d) / 8 : Nat) := (aOkE e2 x8 (by omega) (by omega)).trans (by omega)
    have ca : (x2 + x / 8).toNatClampNeg = A + 1 + (m + d) / 8 := by have := clE ea (by omega); omega
    have em : (x - x / 8 * 8).toInt = ((m + d) % 8 : Nat) := (sOkE i3 (mOkE x8 o8 (by omega) (by omega)) (by omega) (by omega)).trans (by omega)
    have es : x - x / 8 * 8 = nI ((m + d) % 8) := Int32.toInt_inj.mp (by rw [nI_toInt (by omega)]; exact em)
    have yI : y = nI d := by rw [← hd]; exact (nIcl i1).symm
    have rd : (υ.1 12 (A + 1 + (m + d) / 8)) &&& 255 = pa β W m d ((m + d) / 8) := by
      rw [mυ _ (by omega)]
      unfold TC
      rw [if_neg (by omega), if_pos (by omega), show A + 1 + (m + d) / 8 - (A + 1) = (m + d) / 8 by omega]
    unfold fX3_byteOf
    refine ⟨fun w => ?_, fun _ => ⟨fun w => ?_, fun _ => ⟨inE ea (by omega) (by omega), hin, fun v6 e6 => ?_⟩⟩⟩
    · have := (ltE ea z0).mp w
      omega
    · have := (leE (show (4096 : Int32).toInt = 4096 from by decide) ea).mp w
      omega
    · have e6' : v6 = β d := by
        rw [e6, yI, show υ.2 = a.2 from fυ.2]
        exact hβ d (by omega)
      rw [ca, rd, es, e6']
      refine c_put ea (by omega) mυ (fun s fs ms v8 ev8 v9 ev9 => ?_)
      have f8 : v8.toInt = x.toInt + 1 := (congrArg Int32.toInt ev8).trans (aOkE rfl o1 (by omega) (by omega))
      have f9 : v9.toInt = y.toInt + 1 := (congrArg Int32.toInt ev9).trans (aOkE rfl o1 (by omega) (by omega))
      have c9 : v9.toNatClampNeg = d + 1 := by have := clE f9 (by omega); omega
      refine ih v8 v9 s ⟨by omega, by omega, by omega, fυ.tr fs, ?_⟩ (by (try dsimp only); omega)
      rw [c9]
      refine ms.ext (fun q hq => ?_)
      unfold wB TC
      by_cases eq : q = A + 1 + (m + d) / 8
      · rw [eq, up1, if_neg (by omega), if_pos (by omega), show A + 1 + (m + d) / 8 - (A + 1) = (m + d) / 8 by omega]
        show _ = upd (pa β W m d) ((m + d) / 8) _ ((m + d) / 8)
        rw [up1]
      · rw [up2 eq]
        by_cases eA : q = A
        · rw [if_pos eA, if_pos eA]
        · rw [if_neg eA, if_neg eA]
          by_cases g2 : A + 1 ≤ q ∧ q < A + 1 + nb
          · rw [if_pos g2, if_pos g2]
            show _ = upd (pa β W m d) ((m + d) / 8) _ (q - (A + 1))
            rw [up2 (by omega)]
          · rw [if_neg g2, if_neg g2]
end SIM50
