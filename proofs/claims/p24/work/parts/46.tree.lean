theorem id8 {y : Int32} (h : 0 ≤ y.toInt) : (y / 8).toInt = y.toInt / 8 := by
  rw [Int32.toInt_div_of_ne_left _ _ (by intro q; rw [q] at h; exact absurd h (by decide))]
  rw [show (8 : Int32).toInt = 8 from by decide, Int.tdiv_eq_ediv_of_nonneg h]
/-- the bits of a text's end and of its first k pieces -/
def bsum (σ τ : St) (t : Nat) : Nat → Int
  | 0 => (τ.1 35 0).toInt
  | k + 1 => bsum σ τ t k + (τ.1 35 (τ.1 36 (tP σ t k).toNatClampNeg).toNatClampNeg).toInt
def Bt (σ τ : St) (t : Nat) : Int := bsum σ τ t (tR σ t).toInt.toNat
def Et (σ τ : St) : Nat → Int
  | 0 => 0
  | t + 1 => Et σ τ t + (1 + (Bt σ τ t + 7) / 8)
theorem leaf_ok {σ0 σ τ : St} {L n t k : Nat} (hσ : K2 σ0 σ) (hT : TK σ τ L n) (ht : (t : Int) < (σ.1 0 41).toInt) (hk : (k : Int) < (tR σ t).toInt) : ∃ l : Nat, l < L ∧ (τ.1 36 (tP σ t k).toNatClampNeg).toInt = l := by
  have b := tP_lt hσ hk
  have e := clE (rfl : (tP σ t k).toInt = (tP σ t k).toInt) b.1
  exact hT.2.2.2.2.2.2.1 _ (by omega) (hT.2.2.2.2.2.2.2 t ht k hk)
theorem dp_ok {σ0 σ τ : St} {L n t k : Nat} {base : Int} (hσ : K2 σ0 σ) (hT : TK σ τ L n) (hD : PD τ L n L base) (ht : (t : Int) < (σ.1 0 41).toInt) (hk : (k : Int) < (tR σ t).toInt) : 0 ≤ (τ.1 35 (τ.1 36 (tP σ t k).toNatClampNeg).toNatClampNeg).toInt ∧ (τ.1 35 (τ.1 36 (tP σ t k).toNatClampNeg).toNatClampNeg).toInt ≤ 121 := by
  obtain ⟨l, h1, h2⟩ := leaf_ok hσ hT ht hk
  obtain ⟨t1, t2, t3, t4, t5⟩ := hT.1
  have e : (τ.1 36 (tP σ t k).toNatClampNeg).toNatClampNeg = l := by have := clE h2 (by omega); omega
  rw [e]
  have := PD.bd hT hD (i := l) (by omega)
  omega
theorem bsum_le {σ0 σ τ : St} {L n t : Nat} {base : Int} (hσ : K2 σ0 σ) (hT : TK σ τ L n) (hD : PD τ L n L base) (ht : (t : Int) < (σ.1 0 41).toInt) : ∀ k : Nat, (k : Int) ≤ (tR σ t).toInt ∨ k = 0 → 0 ≤ bsum σ τ t k ∧ (τ.1 35 0).toInt ≤ bsum σ τ t k ∧ bsum σ τ t k ≤ 121 * ((k : Int) + 1)
  | 0, _ => by
    obtain ⟨t1, t2, t3, t4, t5⟩ := hT.1
    have := PD.bd hT hD (i := 0) (by omega)
    show 0 ≤ (τ.1 35 0).toInt ∧ (τ.1 35 0).toInt ≤ (τ.1 35 0).toInt ∧ (τ.1 35 0).toInt ≤ _
    omega
  | k + 1, hk => by
    have h1 := bsum_le hσ hT hD ht k (by omega)
    have h2 := dp_ok hσ hT hD ht (k := k) (by omega)
    show 0 ≤ bsum σ τ t k + _ ∧ _ ≤ bsum σ τ t k + _ ∧ bsum σ τ t k + _ ≤ _
    omega
theorem bsum_mono {σ0 σ τ : St} {L n t : Nat} {base : Int} (hσ : K2 σ0 σ) (hT : TK σ τ L n) (hD : PD τ L n L base) (ht : (t : Int) < (σ.1 0 41).toInt) (k : Nat) : ∀ d : Nat, ((k + d : Nat) : Int) ≤ (tR σ t).toInt → bsum σ τ t k ≤ bsum σ τ t (k + d)
  | 0, _ => Int.le_refl _
  | d + 1, hd => by
    have h1 := bsum_mono hσ hT hD ht k d (by omega)
    have h2 := dp_ok hσ hT hD ht (k := k + d) (by omega)
    show _ ≤ bsum σ τ t (k + d) + (τ.1 35 (τ.1 36 (tP σ t (k + d)).toNatClampNeg).toNatClampNeg).toInt
    omega
theorem Bt_le {σ0 σ τ : St} {L n t : Nat} {base : Int} (hσ : K2 σ0 σ) (hT : TK σ τ L n) (hD : PD τ L n L base) (ht : (t : Int) < (σ.1 0 41).toInt) : 0 ≤ Bt σ τ t ∧ (τ.1 35 0).toInt ≤ Bt σ τ t ∧ Bt σ τ t ≤ 14641 := by
  have b := tR_le hσ t
  have := bsum_le hσ hT hD ht (tR σ t).toInt.toNat (by omega)
  unfold Bt
  omega
theorem Et_nn {σ0 σ τ : St} {L n : Nat} {base : Int} (hσ : K2 σ0 σ) (hT : TK σ τ L n) (hD : PD τ L n L base) : ∀ t : Nat, (t : Int) ≤ (σ.1 0 41).toInt → 0 ≤ Et σ τ t ∧ Et σ τ t ≤ 2000 * (t : Int)
  | 0, _ => by show 0 ≤ (0 : Int) ∧ (0 : Int) ≤ _; omega
  | t + 1, h => by
    have h1 := Et_nn hσ hT hD t (by omega)
    have h2 := Bt_le hσ hT hD (t := t) (by omega)
    show 0 ≤ Et σ τ t + _ ∧ Et σ τ t + _ ≤ _
    omega
theorem Et_mono {σ0 σ τ : St} {L n : Nat} {base : Int} (hσ : K2 σ0 σ) (hT : TK σ τ L n) (hD : PD τ L n L base) (t : Nat) : ∀ d : Nat, ((t + d : Nat) : Int) ≤ (σ.1 0 41).toInt → Et σ τ t ≤ Et σ τ (t + d)
  | 0, _ => Int.le_refl _
  | d + 1, hd => by
    have h1 := Et_mono hσ hT hD t d (by omega)
    have h2 := Bt_le hσ hT hD (t := t + d) (by omega)
    show _ ≤ Et σ τ (t + d) + (1 + (Bt σ τ (t + d) + 7) / 8)
    omega
theorem bsum_ext {σ0 σ τ υ : St} {L n t : Nat} (hσ : K2 σ0 σ) (hT : TK σ τ L n) (e36 : υ.1 36 = τ.1 36) (e35 : ∀ i : Nat, i < n → (υ.1 35 i).toInt = (τ.1 35 i).toInt) (ht : (t : Int) < (σ.1 0 41).toInt) : ∀ k : Nat, (k : Int) ≤ (tR σ t).toInt ∨ k = 0 → bsum σ υ t k = bsum σ τ t k
  | 0, _ => e35 0 (by obtain ⟨t1, t2, t3, t4, t5⟩ := hT.1; omega)
  | k + 1, hk => by
    obtain ⟨l, h1, h2⟩ := leaf_ok hσ hT ht (k := k) (by omega)
    obtain ⟨t1, t2, t3, t4, t5⟩ := hT.1
    have e : (τ.1 36 (tP σ t k).toNatClampNeg).toNatClampNeg = l := by have := clE h2 (by omega); omega
    show bsum σ υ t k + (υ.1 35 (υ.1 36 (tP σ t k).toNatClampNeg).toNatClampNeg).toInt = bsum σ τ t k + (τ.1 35 (τ.1 36 (tP σ t k).toNatClampNeg).toNatClampNeg).toInt
    rw [bsum_ext hσ hT e36 e35 ht k (by omega), e36, e, e35 l (by omega)]
theorem Bt_ext {σ0 σ τ υ : St} {L n t : Nat} (hσ : K2 σ0 σ) (hT : TK σ τ L n) (e36 : υ.1 36 = τ.1 36) (e35 : ∀ i : Nat, i < n → (υ.1 35 i).toInt = (τ.1 35 i).toInt) (ht : (t : Int) < (σ.1 0 41).toInt) : Bt σ υ t = Bt σ τ t := by
  unfold Bt
  have b := tR_le hσ t
  exact bsum_ext hσ hT e36 e35 ht _ (by omega)
theorem Et_ext {σ0 σ τ υ : St} {L n : Nat} (hσ : K2 σ0 σ) (hT : TK σ τ L n) (e36 : υ.1 36 = τ.1 36) (e35 : ∀ i : Nat, i < n → (υ.1 35 i).toInt = (τ.1 35 i).toInt) : ∀ t : Nat, (t : Int) ≤ (σ.1 0 41).toInt → Et σ υ t = Et σ τ t
  | 0, _ => rfl
  | t + 1, h => by
    show Et σ υ t + (1 + (Bt σ υ t + 7) / 8) = Et σ τ t + (1 + (Bt σ τ t + 7) / 8)
    rw [Et_ext hσ hT e36 e35 t (by omega), Bt_ext hσ hT e36 e35 (by omega)]
/-- the last loop: the pieces' bits are told -/
theorem tX12_tree427 {N : Nat} (hN : 4294967400 ≤ N) {x5 : Int32} {Q : Int32 → St → Prop} {σ0 τ : St} (hτ : K2 σ0 τ) (hQ : ∀ (r : Int32) (υ : St), K2 σ0 υ → Q r υ) : lo1 (fX12_tree_l427 N x5 Q) N 0 τ := by
  have z0 : (0 : Int32).toInt = 0 := by decide
  have o1 : (1 : Int32).toInt = 1 := by decide
  refine lo1_i (fun (y : Int32) (υ : St) => K2 σ0 υ ∧ 0 ≤ y.toInt) (fun y _ => (2147483648 - y.toInt).toNat) ?_ N 0 τ ⟨hτ, by omega⟩ (by (try dsimp only); omega)
  intro rr y υ hI ih
  obtain ⟨hυ, i1⟩ := hI
  have b36 := K2.g_0_36 hυ
  unfold fX12_tree_l427
  refine ⟨fun c => hQ _ _ hυ, fun c => ?_⟩
  have c' := (notleE (rfl : (υ.1 0 36).toInt = (υ.1 0 36).toInt) (rfl : y.toInt = y.toInt)).mp c
  have hin : vp_in y 60 := inE (rfl : y.toInt = y.toInt) (by omega) (by omega)
  have go : ∀ t0 : Int32, fX12_tree_j474 N rr x5 y t0 y Q υ := by
    intro t0
    refine ⟨hin, fun σ28 e28 v29 ev29 => ?_⟩
    have f29 : v29.toInt = y.toInt + 1 := (congrArg Int32.toInt ev29).trans (aOkE rfl o1 (by omega) (by omega))
    exact ih v29 σ28 ⟨by rw [e28]; exact hυ.ua (by trivial) (by decide), by omega⟩ (by (try dsimp only); omega)
  have bl := K2.q_36 hυ y.toNatClampNeg
  exact ⟨hin, fun _ => ⟨hin, go _⟩, fun _ => ⟨hin, inE (rfl : (υ.1 36 y.toNatClampNeg).toInt = (υ.1 36 y.toNatClampNeg).toInt) (by omega) (by omega), go _⟩⟩
/-- what the laying of texts may change -/
def FrC (σ τ : St) : Prop := ∀ a b : Nat, ¬ (a = 1 ∨ (22 ≤ a ∧ a ≤ 26) ∨ (a = 0 ∧ (b = 7 ∨ b = 63 ∨ b = 64))) → τ.1 a b = σ.1 a b
theorem FrC.tr {σ τ υ : St} (h : FrC σ τ) (h2 : FrC τ υ) : FrC σ υ := fun a b q => (h2 a b q).trans (h a b q)
theorem FrC.kp {σ τ υ : St} (h : Kp σ τ) (h2 : FrC τ υ) : Kp σ υ := fun a b q => (h2 a b (by omega)).trans (h a b q)
theorem FrC.tk {σ τ υ : St} {L n : Nat} (h : FrC τ υ) (h2 : TK σ τ L n) : TK σ υ L n := h2.ext (fun a b q => h a b (by omega))
theorem FrC.pd {τ υ : St} {L n m : Nat} {base : Int} (h : FrC τ υ) (h2 : PD τ L n m base) : PD υ L n m base := h2.ext (fun a b q => h a b (by omega))
theorem FrC.ofP {σ τ : St} (h : FrP σ τ) : FrC σ τ := fun a b q => h a b (by omega)
theorem FrC.ofT {σ τ : St} (h : FrT σ τ) : FrC σ τ := fun a b q => h a b (by omega)
theorem FrC.ofB {σ τ : St} (h : FrB σ τ) : FrC σ τ := fun a b q => h a b (by omega)
theorem FrC.u {σ τ υ : St} (h : FrC σ τ) {k j : Nat} {v : Int32} (e : υ = u1 τ k j v) (hk : k = 22 ∨ k = 23 ∨ (k = 0 ∧ (j = 63 ∨ j = 64))) : FrC σ υ := fun a b q => (kq e (fun w => q (by omega))).trans (h a b q)
set_option maxHeartbeats 2000000 in
/-- the pieces of one text, laid bit by bit: A where its head lies -/
theorem tX12_tree326 {N : Nat} (hN : 4294967400 ≤ N) {r249 : Int32 → St → Prop} {x5 x6 : Int32} {t : Nat} {A base : Int} {Q : Int32 → St → Prop} {σ0 σ τ ω : St} {L n : Nat} (et : x6.toNatClampNeg = t) (hσ : K2 σ0 σ) (hT : TK σ τ L n) (hD : PD τ L n L base) (h6 : 0 ≤ x6.toInt) (h6' : x6.toInt < (σ.1 0 41).toInt) (hA : 0 ≤ A) (hA2 : A + 1 + (Bt σ τ t + 7) / 8 ≤ 4096) (hω : K2 σ0 ω) (fω : FrC τ ω) (hp : ∀ k : Nat, (k : Int) < (tR σ t).toInt → ω.1 26 k = tP σ t k) (hB : BN ω (8 * (A + 1)))
    (hr : ∀ (v : Int32) (υ : St), v.toInt = x6.toInt + 1 → K2 σ0 υ → FrC τ υ → (υ.1 0 63).toInt = A + (1 + (Bt σ τ t + 7) / 8) → r249 v υ) : lo1 (fX12_tree_l326 N r249 x5 x6 (tR σ t) Q) N 0 ω := by
  have z0 : (0 : Int32).toInt = 0 := by decide
  have zc : (0 : Int32).toNatClampNeg = 0 := by decide
  have o1 : (1 : Int32).toInt = 1 := by decide
  have b41 := K2.q_0_41 hσ
  have b36 := K2.g_0_36 hσ
  have bR := tR_le hσ t
  have e6 := clE (rfl : x6.toInt = x6.toInt) h6
  rw [et] at e6
  obtain ⟨t1, t2, t3, t4, t5⟩ := hT.1
  have bB := Bt_le hσ hT hD (t := t) (by omega)
  have bz := (PD.bd hT hD (i := 0) (by omega)).2.2.1
  have hin6 : vp_in x6 20 := inE (rfl : x6.toInt = x6.toInt) (by omega) (by omega)
  refine lo1_i (fun (y : Int32) (υ : St) => K2 σ0 υ ∧ FrC τ υ ∧ υ.1 26 = ω.1 26 ∧ 0 ≤ y.toInt ∧ (y.toInt = 0 ∨ y.toInt ≤ (tR σ t).toInt) ∧ BN υ (8 * (A + 1) + (bsum σ τ t y.toNatClampNeg - (τ.1 35 0).toInt))) (fun y _ => (2147483648 - y.toInt).toNat) ?_ N 0 ω ⟨hω, fω, rfl, by omega, Or.inl z0, ?_⟩ (by (try dsimp only); omega)
  · intro rr y υ hI ih
    obtain ⟨hυ, fυ, u26, i1, i2, i3⟩ := hI
    have ey := clE (rfl : y.toInt = y.toInt) i1
    obtain ⟨m, hm⟩ : ∃ m : Nat, y.toNatClampNeg = m := ⟨_, rfl⟩
    rw [hm] at ey i3
    have r35 : υ.1 35 = τ.1 35 := funext (fun j => fυ 35 j (by omega))
    have r36 : υ.1 36 = τ.1 36 := funext (fun j => fυ 36 j (by omega))
    unfold fX12_tree_l326
    refine ⟨fun c => ?_, fun c => ?_⟩
    · have c' := (leE (rfl : (tR σ t).toInt = (tR σ t).toInt) (rfl : y.toInt = y.toInt)).mp c
      have eB : bsum σ τ t m = Bt σ τ t := by
        unfold Bt
        rw [show (tR σ t).toInt.toNat = m by omega]
      rw [eB] at i3
      refine tX12_wayL hN hυ (fυ.tk hT) (fυ.pd hD) (by omega) (by omega) i3 (by rw [zc, r35]; omega) (fun ψ kψ fψ bψ => ?_)
      rw [zc, r35] at bψ
      obtain ⟨p1, p2, p3, p4⟩ := bψ
      have fin : ∀ t0 : Int32, (t0.toInt = 0 ∧ (ψ.1 0 64).toInt ≤ 0) ∨ (t0.toInt = 1 ∧ ¬ (ψ.1 0 64).toInt ≤ 0) → fX12_tree_j404 N r249 x5 x6 t0 (ψ.1 0 63) Q ψ := by
        intro t0 ht0
        intro v40 ev40 σ41 e41 v42 ev42
        have f40 : v40.toInt = (ψ.1 0 63).toInt + t0.toInt := (congrArg Int32.toInt ev40).trans (aOkE rfl rfl (by omega) (by omega))
        have f42 : v42.toInt = x6.toInt + 1 := (congrArg Int32.toInt ev42).trans (aOkE rfl o1 (by omega) (by omega))
        refine hr v42 σ41 f42 (by rw [e41]; exact kψ.uf (Rg2.q_0_63 _) (by decide)) ((fυ.tr (FrC.ofB fψ)).u e41 (by omega)) ?_
        rw [rw1 e41, up1, f40]
        omega
      exact ⟨fun q => fin 0 (Or.inl ⟨z0, (leE rfl z0).mp q⟩), fun q => fin 1 (Or.inr ⟨o1, (notleE rfl z0).mp q⟩)⟩
    · have c' := (notleE (rfl : (tR σ t).toInt = (tR σ t).toInt) (rfl : y.toInt = y.toInt)).mp c
      have e26 : υ.1 26 m = tP σ t m := by rw [u26]; exact hp m (by omega)
      have bP := tP_lt hσ (t := t) (k := m) (by omega)
      have hinP : vp_in (tP σ t m) 60 := inE (rfl : (tP σ t m).toInt = (tP σ t m).toInt) (by omega) (by omega)
      obtain ⟨l, l1, l2⟩ := leaf_ok hσ hT (t := t) (k := m) (by omega) (by omega)
      have el : (τ.1 36 (tP σ t m).toNatClampNeg).toNatClampNeg = l := by have := clE l2 (by omega); omega
      have hiny : vp_in y 120 := inE (rfl : y.toInt = y.toInt) (by omega) (by omega)
      have hinl : vp_in (τ.1 36 (tP σ t m).toNatClampNeg) 122 := inE l2 (by omega) (by omega)
      have bm := bsum_mono hσ hT hD (t := t) (by omega) (m + 1) ((tR σ t).toInt.toNat - (m + 1)) (by omega)
      rw [show m + 1 + ((tR σ t).toInt.toNat - (m + 1)) = (tR σ t).toInt.toNat by omega] at bm
      have bm' : bsum σ τ t (m + 1) ≤ Bt σ τ t := bm
      have bs : bsum σ τ t (m + 1) = bsum σ τ t m + (τ.1 35 l).toInt := by
        show bsum σ τ t m + (τ.1 35 (τ.1 36 (tP σ t m).toNatClampNeg).toNatClampNeg).toInt = _
        rw [el]
      have b0 := bsum_le hσ hT hD (t := t) (by omega) m (by omega)
      rw [hm, e26, r36]
      refine ⟨hin6, hiny, hinP, hinl, fun v44 ev44 => ⟨hin6, fun σ46 e46 => ?_⟩⟩
      have k46 : K2 σ0 σ46 := by rw [e46]; exact hυ.ua (Rg2.q_23 _ _) (by decide)
      have f46 : FrC τ σ46 := fυ.u e46 (by omega)
      have s26 : σ46.1 26 = υ.1 26 := rwn e46 (by decide)
      have s36 : σ46.1 36 = τ.1 36 := (rwn e46 (by decide)).trans r36
      have s35 : σ46.1 35 = τ.1 35 := (rwn e46 (by decide)).trans r35
      rw [s26, e26, s36]
      refine ⟨hiny, hinP, ?_⟩
      refine tX12_wayL hN k46 (f46.tk hT) (f46.pd hD) (P := 8 * (A + 1) + (bsum σ τ t m - (τ.1 35 0).toInt)) (by omega) (by omega) (i3.ext (kq e46 (by omega)) (kq e46 (by omega))) (by rw [el, s35]; omega) (fun ψ kψ fψ bψ => ?_)
      rw [el, s35] at bψ
      intro v50 ev50
      have f50 : v50.toInt = y.toInt + 1 := (congrArg Int32.toInt ev50).trans (aOkE rfl o1 (by omega) (by omega))
      have e50 : v50.toNatClampNeg = m + 1 := by have := clE f50 (by omega); omega
      refine ih v50 ψ ⟨kψ, f46.tr (FrC.ofB fψ), ?_, by omega, by omega, ?_⟩ (by (try dsimp only); omega)
      · rw [show ψ.1 26 = σ46.1 26 from funext (fun j => fψ 26 j (by omega)), s26, u26]
      · rw [e50, bs]
        rw [show 8 * (A + 1) + (bsum σ τ t m + (τ.1 35 l).toInt - (τ.1 35 0).toInt) = 8 * (A + 1) + (bsum σ τ t m - (τ.1 35 0).toInt) + (τ.1 35 l).toInt by omega]
        exact bψ
  · rw [zc]
    show BN ω (8 * (A + 1) + ((τ.1 35 0).toInt - (τ.1 35 0).toInt))
    rw [show 8 * (A + 1) + ((τ.1 35 0).toInt - (τ.1 35 0).toInt) = 8 * (A + 1) by omega]
    exact hB
set_option maxHeartbeats 2000000 in
/-- the texts, laid one behind the other from A0 on -/
theorem tX12_tree249 {N : Nat} (hN : 4294967400 ≤ N) {x5 : Int32} {A0 base : Int} {Q : Int32 → St → Prop} {σ0 σ τ : St} {L n : Nat} (hσ : K2 σ0 σ) (hτ : K2 σ0 τ) (pτ : Kp σ τ) (hT : TK σ τ L n) (hD : PD τ L n L base) (hA : 0 ≤ A0) (hA2 : A0 + Et σ τ (σ.1 0 41).toNatClampNeg ≤ 4096) (h63 : (τ.1 0 63).toInt = A0) (hQ : ∀ (r : Int32) (υ : St), K2 σ0 υ → Q r υ) : lo1 (fX12_tree_l249 N x5 Q) N 0 τ := by
  have z0 : (0 : Int32).toInt = 0 := by decide
  have zc : (0 : Int32).toNatClampNeg = 0 := by decide
  have o1 : (1 : Int32).toInt = 1 := by decide
  have b41 := K2.q_0_41 hσ
  have e41 := clE (rfl : (σ.1 0 41).toInt = (σ.1 0 41).toInt) b41.1
  have hin0 : vp_in 0 122 := inE z0 (by omega) (by omega)
  refine lo1_i (fun (y : Int32) (υ : St) => K2 σ0 υ ∧ FrC τ υ ∧ 0 ≤ y.toInt ∧ y.toInt ≤ (σ.1 0 41).toInt ∧ (υ.1 0 63).toInt = A0 + Et σ τ y.toNatClampNeg) (fun y _ => (2147483648 - y.toInt).toNat) ?_ N 0 τ ⟨hτ, fun _ _ _ => rfl, by omega, by omega, by rw [zc, h63]; show A0 = A0 + 0; omega⟩ (by (try dsimp only); omega)
  intro rr y υ hI ih
  obtain ⟨hυ, fυ, i1, i2, i3⟩ := hI
  have pυ : Kp σ υ := FrC.kp pτ fυ
  have ey := clE (rfl : y.toInt = y.toInt) i1
  obtain ⟨t, ht⟩ : ∃ t : Nat, y.toNatClampNeg = t := ⟨_, rfl⟩
  have q41 : υ.1 0 41 = σ.1 0 41 := pυ 0 41 (by omega)
  unfold fX12_tree_l249
  rw [q41]
  refine ⟨fun c => ⟨hin0, fun v21 ev21 σ22 e22 => ?_⟩, fun c => ?_⟩
  · exact tX12_tree427 hN (by rw [e22]; exact hυ.uf (Rg2.q_0_46 _) (by decide)) hQ
  · have c' := (notleE (rfl : (σ.1 0 41).toInt = (σ.1 0 41).toInt) (rfl : y.toInt = y.toInt)).mp c
    have hin : vp_in y 20 := inE (rfl : y.toInt = y.toInt) (by omega) (by omega)
    refine ⟨hin, tX12_parted hN i1 (by omega) hυ pυ (fun φ kφ fφ hp => ?_)⟩
    rw [ht] at ey i3 hp
    have bE := Et_mono hσ hT hD (t + 1) ((σ.1 0 41).toNatClampNeg - (t + 1)) (by omega)
    rw [show t + 1 + ((σ.1 0 41).toNatClampNeg - (t + 1)) = (σ.1 0 41).toNatClampNeg by omega] at bE
    have bE' : Et σ τ t + (1 + (Bt σ τ t + 7) / 8) ≤ Et σ τ (σ.1 0 41).toNatClampNeg := bE
    have nE := (Et_nn hσ hT hD t (by omega)).1
    have nB := (Bt_le hσ hT hD (t := t) (by omega)).1
    have g63 : φ.1 0 63 = υ.1 0 63 := fφ 0 63 (by omega)
    rw [ht]
    intro v26 ev26
    refine ⟨hin, fun σ28 e28 => ⟨hin0, fun v30 ev30 => ⟨hin, fun σ32 e32 => ?_⟩⟩⟩
    have k28 : K2 σ0 σ28 := by rw [e28]; exact kφ.ua (Rg2.q_22 _ _) (by decide)
    have k32 : K2 σ0 σ32 := by rw [e32]; exact k28.ua (Rg2.q_23 _ _) (by decide)
    have f32 : FrC τ σ32 := ((fυ.tr (FrC.ofP fφ)).u e28 (by omega)).u e32 (by omega)
    have s63 : σ32.1 0 63 = υ.1 0 63 := by rw [kq e32 (by omega), kq e28 (by omega)]; exact g63
    have s26 : σ32.1 26 = φ.1 26 := by rw [rwn e32 (by decide), rwn e28 (by decide)]
    rw [s63]
    refine tX12_tell (by omega) (by omega) k32 (fun σ33 k33 f33 => ?_)
    intro v34 ev34 σ35 e35 σ36 e36
    have u63 : σ33.1 0 63 = υ.1 0 63 := (f33 0 63 (by omega)).trans s63
    rw [u63] at ev34
    have f34 : v34.toInt = (υ.1 0 63).toInt + 1 := (congrArg Int32.toInt ev34).trans (aOkE rfl o1 (by omega) (by omega))
    have k35 : K2 σ0 σ35 := by rw [e35]; exact k33.uf (Rg2.q_0_63 _) (by decide)
    have k36 : K2 σ0 σ36 := by rw [e36]; exact k35.uf (Rg2.q_0_64 _) (by decide)
    have w63 : σ36.1 0 63 = v34 := by rw [kq e36 (by omega), rw1 e35, up1]
    have w64 : σ36.1 0 64 = 0 := by rw [rw1 e36, up1]
    have w26 : σ36.1 26 = φ.1 26 := by rw [rwn e36 (by decide), rwn e35 (by decide), show σ33.1 26 = σ32.1 26 from funext (fun j => f33 26 j (by omega)), s26]
    refine tX12_tree326 hN (t := t) (A := A0 + Et σ τ t) ht hσ hT hD i1 (by omega) (by omega) (by omega) k36 (((f32.tr (FrC.ofT f33)).u e35 (by omega)).u e36 (by omega)) (fun k hk => by rw [w26]; exact hp k hk) ?_ (fun v ψ fv kψ fψ eψ => ?_)
    · unfold BN
      rw [w63, w64, z0]
      omega
    · have ev : v.toNatClampNeg = t + 1 := by have := clE fv (by omega); omega
      refine ih v ψ ⟨kψ, fψ, by omega, by omega, ?_⟩ (by (try dsimp only); omega)
      rw [ev, eψ]
      show _ = A0 + (Et σ τ t + (1 + (Bt σ τ t + 7) / 8))
      omega
set_option maxHeartbeats 2000000 in
/-- the knots, laid; then the texts -/
theorem tX12_tree210 {N : Nat} (hN : 4294967400 ≤ N) {x1 x2 x5 : Int32} {Q : Int32 → St → Prop} {σ0 σ τ : St} {L n : Nat} (hσ : K2 σ0 σ) (hτ : K2 σ0 τ) (pτ : Kp σ τ) (hT : TK σ τ L n) (h1 : 0 ≤ x1.toInt) (h2 : x2.toInt + 1 = n) (hD : PD τ L n L (x1.toInt + 12)) (hE : x1.toInt + 12 + (τ.1 33 (n - 1)).toInt + Et σ τ (σ.1 0 41).toNatClampNeg ≤ 4096) (hQ : ∀ (r : Int32) (υ : St), K2 σ0 υ → Q r υ) : lo1 (fX12_tree_l210 N x1 x2 x5 Q) N 0 τ := by
  have z0 : (0 : Int32).toInt = 0 := by decide
  have o1 : (1 : Int32).toInt = 1 := by decide
  have o12 : (12 : Int32).toInt = 12 := by decide
  have b41 := K2.q_0_41 hσ
  have e41 := clE (rfl : (σ.1 0 41).toInt = (σ.1 0 41).toInt) b41.1
  obtain ⟨⟨t1, t2, t3, t4, t5⟩, tk, ta, ts, tr, tl, _⟩ := id hT
  have nE := (Et_nn hσ hT hD (σ.1 0 41).toNatClampNeg (by omega)).1
  have sr := ts (n - 1) (by omega)
  have e2 : x2.toNatClampNeg = n - 1 := by have := clE (rfl : x2.toInt = x2.toInt) (by omega); omega
  refine lo1_i (fun (y : Int32) (υ : St) => K2 σ0 υ ∧ FrT τ υ ∧ 0 ≤ y.toInt ∧ y.toInt ≤ n) (fun y _ => (2147483648 - y.toInt).toNat) ?_ N 0 τ ⟨hτ, fun _ _ _ => rfl, by omega, by omega⟩ (by (try dsimp only); omega)
  intro rr y υ hI ih
  obtain ⟨hυ, fυ, i1, i2⟩ := hI
  have cυ : FrC τ υ := FrC.ofT fυ
  have q50 : (υ.1 0 50).toInt = n := by rw [fυ 0 50 (by omega)]; exact t2
  unfold fX12_tree_l210
  refine ⟨fun c => ?_, fun c => ?_⟩
  · refine ⟨inE (rfl : x2.toInt = x2.toInt) (by omega) (by omega), fun v17 ev17 σ18 e18 => ?_⟩
    rw [e2, fυ 33 _ (by omega)] at ev17
    have f17 : v17.toInt = x1.toInt + 12 + (τ.1 33 (n - 1)).toInt := (congrArg Int32.toInt ev17).trans (aOkE (aOkE rfl o12 (by omega) (by omega)) rfl (by omega) (by omega))
    have c18 : FrC τ σ18 := cυ.u e18 (by omega)
    have eE : Et σ σ18 (σ.1 0 41).toNatClampNeg = Et σ τ (σ.1 0 41).toNatClampNeg := Et_ext hσ hT (funext (fun j => c18 36 j (by omega))) (fun i _ => by rw [c18 35 i (by omega)]) _ (by omega)
    exact tX12_tree249 hN (A0 := x1.toInt + 12 + (τ.1 33 (n - 1)).toInt) hσ (by rw [e18]; exact hυ.uf (Rg2.q_0_63 _) (by decide)) (FrC.kp pτ c18) (c18.tk hT) (c18.pd hD) (by omega) (by rw [eE]; omega) (by rw [rw1 e18, up1]; exact f17) hQ
  · have c' := (notleE q50 (rfl : y.toInt = y.toInt)).mp c
    refine tX12_lay hN hσ hυ (FrC.kp pτ cυ) (cυ.tk hT) (cυ.pd hD) (by omega) (by rw [fυ 33 _ (by omega)]; omega) i1 (by omega) (fun ψ kψ fψ => ?_)
    intro v20 ev20
    have f20 : v20.toInt = y.toInt + 1 := (congrArg Int32.toInt ev20).trans (aOkE rfl o1 (by omega) (by omega))
    exact ih v20 ψ ⟨kψ, fυ.tr fψ, by omega, by omega⟩ (by (try dsimp only); omega)
set_option maxHeartbeats 2000000 in
/-- the bits of one text, counted -/
theorem tX12_tree89 {N : Nat} (hN : 4294967400 ≤ N) {r54 : Int64 → Int32 → Int32 → St → Prop} {x1 x2 x5 x6 v19 : Int32} {x3 : Int64} {t : Nat} {base : Int} {Q : Int32 → St → Prop} {σ0 σ ω : St} {L n : Nat} (et : x6.toNatClampNeg = t) (hσ : K2 σ0 σ) (hT : TK σ ω L n) (hD : PD ω L n L base) (h6 : 0 ≤ x6.toInt) (h6' : x6.toInt < (σ.1 0 41).toInt) (h3 : 0 ≤ x3.toInt) (h3' : x3.toInt ≤ 100000000000) (e19 : v19 = ω.1 35 0) (hp : ∀ k : Nat, (k : Int) < (tR σ t).toInt → ω.1 26 k = tP σ t k)
    (hr : ∀ (v22 : Int64) (v21 v23 : Int32), v22.toInt = x3.toInt + (1 + (Bt σ ω t + 7) / 8) → v23.toInt = x6.toInt + 1 → r54 v22 v21 v23 ω) : lo2 (fX12_tree_l89 N r54 x1 x2 x3 x5 x6 (tR σ t) Q) N v19 0 ω := by
  have z0 : (0 : Int32).toInt = 0 := by decide
  have zc : (0 : Int32).toNatClampNeg = 0 := by decide
  have o1 : (1 : Int32).toInt = 1 := by decide
  have o7 : (7 : Int32).toInt = 7 := by decide
  have b41 := K2.q_0_41 hσ
  have b36 := K2.g_0_36 hσ
  have bR := tR_le hσ t
  have e6 := clE (rfl : x6.toInt = x6.toInt) h6
  rw [et] at e6
  obtain ⟨t1, t2, t3, t4, t5⟩ := hT.1
  have bB := Bt_le hσ hT hD (t := t) (by omega)
  refine lo2_i (fun (x y : Int32) (υ : St) => υ = ω ∧ 0 ≤ y.toInt ∧ (y.toInt = 0 ∨ y.toInt ≤ (tR σ t).toInt) ∧ x.toInt = bsum σ ω t y.toNatClampNeg) (fun _ y _ => (2147483648 - y.toInt).toNat) ?_ N v19 0 ω ⟨rfl, by omega, Or.inl z0, by rw [zc, e19]; rfl⟩ (by (try dsimp only); omega)
  intro rr x y υ hI ih
  obtain ⟨rfl, i1, i2, i3⟩ := hI
  have ey := clE (rfl : y.toInt = y.toInt) i1
  obtain ⟨m, hm⟩ : ∃ m : Nat, y.toNatClampNeg = m := ⟨_, rfl⟩
  rw [hm] at ey i3
  unfold fX12_tree_l89
  refine ⟨fun c => ?_, fun c => ?_⟩
  · have c' := (leE (rfl : (tR σ t).toInt = (tR σ t).toInt) (rfl : y.toInt = y.toInt)).mp c
    have eB : bsum σ υ t m = Bt σ υ t := by
      unfold Bt
      rw [show (tR σ t).toInt.toNat = m by omega]
    rw [eB] at i3
    intro v21 ev21 v22 ev22 v23 ev23
    have f23 : v23.toInt = x6.toInt + 1 := (congrArg Int32.toInt ev23).trans (aOkE rfl o1 (by omega) (by omega))
    have g7 : (x + 7).toInt = Bt σ υ t + 7 := aOkE i3 o7 (by omega) (by omega)
    have g8 : ((x + 7) / 8).toInt = (Bt σ υ t + 7) / 8 := by rw [id8 (by omega), g7]
    have g9 : (1 + ((x + 7) / 8)).toInt = 1 + (Bt σ υ t + 7) / 8 := aOkE o1 g8 (by omega) (by omega)
    have f22 : v22.toInt = x3.toInt + (1 + (Bt σ υ t + 7) / 8) := (congrArg Int64.toInt ev22).trans (aOkE64 rfl (i2lE g9) (by omega) (by omega))
    exact hr v22 v21 v23 f22 f23
  · have c' := (notleE (rfl : (tR σ t).toInt = (tR σ t).toInt) (rfl : y.toInt = y.toInt)).mp c
    have e26 : υ.1 26 m = tP σ t m := hp m (by omega)
    have bP := tP_lt hσ (t := t) (k := m) (by omega)
    obtain ⟨l, l1, l2⟩ := leaf_ok hσ hT (t := t) (k := m) (by omega) (by omega)
    have el : (υ.1 36 (tP σ t m).toNatClampNeg).toNatClampNeg = l := by have := clE l2 (by omega); omega
    have b0 := bsum_le hσ hT hD (t := t) (by omega) m (by omega)
    have bl := PD.bd hT hD (i := l) (by omega)
    rw [hm, e26]
    refine ⟨inE (rfl : y.toInt = y.toInt) (by omega) (by omega), inE (rfl : (tP σ t m).toInt = (tP σ t m).toInt) (by omega) (by omega), inE l2 (by omega) (by omega), fun v27 ev27 v28 ev28 => ?_⟩
    rw [el] at ev27
    have f27 : v27.toInt = bsum σ υ t m + (υ.1 35 l).toInt := (congrArg Int32.toInt ev27).trans (aOkE i3 rfl (by omega) (by omega))
    have f28 : v28.toInt = y.toInt + 1 := (congrArg Int32.toInt ev28).trans (aOkE rfl o1 (by omega) (by omega))
    have e28 : v28.toNatClampNeg = m + 1 := by have := clE f28 (by omega); omega
    refine ih v27 v28 _ ⟨rfl, by omega, by omega, ?_⟩ (by (try dsimp only); omega)
    rw [e28, f27]
    show _ = bsum σ υ t m + (υ.1 35 (υ.1 36 (tP σ t m).toNatClampNeg).toNatClampNeg).toInt
    rw [el]
set_option maxHeartbeats 2000000 in
theorem tX12_tree {N : Nat} (hN : 4294967400 ≤ N) {x1 : Int32} {Q : Int32 → St → Prop} {σ0 σ : St} (hσ : K2 σ0 σ) (hQ : ∀ (r : Int32) (υ : St), K2 σ0 υ → Q r υ) : fX12_tree N x1 Q σ := by
  have z0 : (0 : Int32).toInt = 0 := by decide
  have zc : (0 : Int32).toNatClampNeg = 0 := by decide
  have o1 : (1 : Int32).toInt = 1 := by decide
  have o4 : (4 : Int32).toInt = 4 := by decide
  have o8 : (8 : Int32).toInt = 8 := by decide
  have o12 : (12 : Int32).toInt = 12 := by decide
  have l12 : (12 : Int64).toInt = 12 := by decide
  have l4096 : (4096 : Int64).toInt = 4096 := by decide
  have bx := tB x1
  have b41 := K2.q_0_41 hσ
  have e41 := clE (rfl : (σ.1 0 41).toInt = (σ.1 0 41).toInt) b41.1
  have hin0 : vp_in 0 122 := inE z0 (by omega) (by omega)
  unfold fX12_tree
  refine ⟨fun c => ⟨fun _ => hQ _ _ hσ, fun _ => ?_⟩, fun _ => hQ _ _ hσ⟩
  have c' := (leE z0 (rfl : x1.toInt = x1.toInt)).mp c
  refine tX12_join hN hσ (fun τ1 L n k1 p1 hT1 => ?_)
  intro v4 ev4
  obtain ⟨⟨t1, t2, t3, t4, t5⟩, tk, ta, ts, tr, tl, _⟩ := id hT1
  have f4 : v4.toInt = (n : Int) - 1 := (congrArg Int32.toInt ev4).trans (sOkE t2 o1 (by omega) (by omega))
  have e4 : v4.toNatClampNeg = n - 1 := by have := clE f4 (by omega); omega
  have hin4 : vp_in v4 122 := inE f4 (by omega) (by omega)
  refine tX12_places hN hT1 (by omega) (by omega) k1 (fun τ k w1 hD => ?_)
  have pτ : Kp σ τ := p1.tr (fun a b q => w1 a b (by omega) (by omega))
  have hT : TK σ τ L n := hT1.ext (fun a b q => w1 a b (by omega) (by omega))
  have sr := hT.2.2.2.1 (n - 1) (by omega)
  have sr2 := hT.2.2.2.2.1
  rw [z0] at hD
  refine ⟨hin4, fun v7 ev7 => ?_⟩
  rw [e4] at ev7
  have f7 : v7.toInt = x1.toInt + 12 + (τ.1 33 (n - 1)).toInt := (congrArg Int64.toInt ev7).trans (aOkE64 (aOkE64 (i2lE rfl) l12 (by omega) (by omega)) (i2lE rfl) (by omega) (by omega))
  refine lo3_i (fun (x3 : Int64) (_ y : Int32) (ω : St) => K2 σ0 ω ∧ FrP τ ω ∧ 0 ≤ y.toInt ∧ y.toInt ≤ (σ.1 0 41).toInt ∧ x3.toInt = x1.toInt + 12 + (τ.1 33 (n - 1)).toInt + Et σ τ y.toNatClampNeg) (fun _ _ y _ => (2147483648 - y.toInt).toNat) ?_ N v7 0 0 τ ⟨k, fun _ _ _ => rfl, by omega, by omega, by rw [zc, f7]; show _ = _ + (0 : Int); omega⟩ (by (try dsimp only); omega)
  intro r54 x3 x5 y ω hI ih
  obtain ⟨hω, fω, i1, i2, i3⟩ := hI
  have cω : FrC τ ω := FrC.ofP fω
  have pω : Kp σ ω := FrC.kp pτ cω
  have hTω : TK σ ω L n := cω.tk hT
  have hDω : PD ω L n L 0 := cω.pd hD
  have ey := clE (rfl : y.toInt = y.toInt) i1
  obtain ⟨t, ht⟩ : ∃ t : Nat, y.toNatClampNeg = t := ⟨_, rfl⟩
  rw [ht] at ey i3
  have nE := Et_nn hσ hT hD t (by omega)
  have q41 : ω.1 0 41 = σ.1 0 41 := pω 0 41 (by omega)
  unfold fX12_tree_l54
  rw [q41]
  refine ⟨fun d => ⟨fun g => ?_, fun _ => hQ _ _ hω⟩, fun d => ?_⟩
  · have d' := (leE (rfl : (σ.1 0 41).toInt = (σ.1 0 41).toInt) (rfl : y.toInt = y.toInt)).mp d
    have g' := (leE64 i3 l4096).mp g
    have et : t = (σ.1 0 41).toNatClampNeg := by omega
    have x12 : (x1 + 12).toInt = x1.toInt + 12 := aOkE rfl o12 (by omega) (by omega)
    have x4 : (x1 + 4).toInt = x1.toInt + 4 := aOkE rfl o4 (by omega) (by omega)
    have x8 : (x1 + 8).toInt = x1.toInt + 8 := aOkE rfl o8 (by omega) (by omega)
    refine tX12_places hN hTω (by omega) (by omega) hω (fun ψ kψ wψ hDψ => ?_)
    rw [x12] at hDψ
    have hTψ : TK σ ψ L n := hTω.ext (fun a b q => wψ a b (by omega) (by omega))
    have pψ : Kp σ ψ := pω.tr (fun a b q => wψ a b (by omega) (by omega))
    refine ⟨hin4, ?_⟩
    refine tX12_tellFour hN (by omega) (by omega) kψ (fun ψ1 kψ1 fψ1 => ?_)
    refine tX12_tellFour hN (by omega) (by omega) kψ1 (fun ψ2 kψ2 fψ2 => ?_)
    refine tX12_tellFour hN (by omega) (by omega) kψ2 (fun ψ3 kψ3 fψ3 => ?_)
    have c3 : FrC ψ ψ3 := FrC.ofT ((fψ1.tr fψ2).tr fψ3)
    have r33 : ψ3.1 33 (n - 1) = τ.1 33 (n - 1) := by rw [c3 33 _ (by omega), wψ 33 _ (by decide) (by decide), cω 33 _ (by omega)]
    have r36 : ψ3.1 36 = τ.1 36 := funext (fun j => by rw [c3 36 j (by omega), wψ 36 j (by decide) (by decide), cω 36 j (by omega)])
    have r32 : ψ3.1 32 = τ.1 32 := funext (fun j => by rw [c3 32 j (by omega), wψ 32 j (by decide) (by decide), cω 32 j (by omega)])
    have eE : Et σ ψ3 (σ.1 0 41).toNatClampNeg = Et σ τ (σ.1 0 41).toNatClampNeg := Et_ext hσ hT r36 (fun i hi => PD.uq hT (c3.tk hTψ) r32 hD (c3.pd hDψ) (n - 1 - i) i (by omega)) _ (by omega)
    exact tX12_tree210 hN hσ kψ3 (FrC.kp pψ c3) (c3.tk hTψ) c' (by omega) (c3.pd hDψ) (by rw [r33, eE, ← et]; omega) hQ
  · have d' := (notleE (rfl : (σ.1 0 41).toInt = (σ.1 0 41).toInt) (rfl : y.toInt = y.toInt)).mp d
    refine ⟨inE (rfl : y.toInt = y.toInt) (by omega) (by omega), tX12_parted hN i1 (by omega) hω pω (fun φ kφ fφ hp => ?_)⟩
    rw [ht] at hp
    rw [ht, zc]
    refine ⟨hin0, fun v19 ev19 => ?_⟩
    have cφ : FrC τ φ := cω.tr (FrC.ofP fφ)
    have eB : Bt σ φ t = Bt σ τ t := Bt_ext hσ hT (funext (fun j => cφ 36 j (by omega))) (fun i _ => by rw [cφ 35 i (by omega)]) (by omega)
    refine tX12_tree89 hN ht hσ (cφ.tk hT) (cφ.pd hD) i1 (by omega) (by omega) (by omega) ev19 hp (fun v22 v21 v23 f22 f23 => ?_)
    have e23 : v23.toNatClampNeg = t + 1 := by have := clE f23 (by omega); omega
    refine ih v22 v21 v23 φ ⟨kφ, fun a b q => (fφ a b q).trans (fω a b q), by omega, by omega, ?_⟩ (by (try dsimp only); omega)
    rw [e23, f22, eB]
    show _ = _ + (Et σ τ t + (1 + (Bt σ τ t + 7) / 8))
    omega
