/-- the tree of knots: σ the state whose pieces and texts it is of -/
def TK (σ τ : St) (L n : Nat) : Prop :=
  ((τ.1 0 51).toInt = L ∧ (τ.1 0 50).toInt = n ∧ 1 ≤ L ∧ L ≤ 61 ∧ n + 1 = 2 * L) ∧
  (∀ k : Nat, L ≤ k → k < n → JK τ k) ∧ (∀ i : Nat, i + 1 < n → JA τ L n i) ∧ (∀ i : Nat, i < n → 1 ≤ (τ.1 33 i).toInt) ∧ (τ.1 33 (n - 1)).toInt ≤ 6000 ∧ Lf σ τ L ∧ (∀ p : Nat, (p : Int) < (σ.1 0 36).toInt → 1 ≤ (τ.1 37 p).toInt → ∃ l : Nat, l < L ∧ (τ.1 36 p).toInt = l) ∧ (∀ t : Nat, (t : Int) < (σ.1 0 41).toInt → ∀ k : Nat, (k : Int) < (tR σ t).toInt → 1 ≤ (τ.1 37 (tP σ t k).toNatClampNeg).toInt)
/-- the end's leaf stands -/
def B1 (τ : St) : Prop := (τ.1 0 50).toInt = 1 ∧ τ.1 27 0 = -1 ∧ (τ.1 33 0).toInt = 1 ∧ τ.1 29 0 ≠ 0
theorem B1.ext {τ υ : St} (h : B1 τ) (h1 : υ.1 0 50 = τ.1 0 50) (h2 : υ.1 27 0 = τ.1 27 0) (h3 : υ.1 33 0 = τ.1 33 0) (h4 : υ.1 29 0 = τ.1 29 0) : B1 υ := by
  unfold B1
  rw [h1, h2, h3, h4]
  exact h
/-- leaves so far: y pieces looked at, n knots -/
def L3 (σ τ τ0 : St) (y n : Nat) : Prop := (τ.1 0 50).toInt = n ∧ 1 ≤ n ∧ n ≤ y + 1 ∧ Lf σ τ n ∧ (∀ i : Nat, i < n → τ.1 29 i ≠ 0) ∧ τ.1 37 = τ0.1 37 ∧ ∀ p : Nat, p < y → 1 ≤ (τ.1 37 p).toInt → ∃ l : Nat, l < n ∧ (τ.1 36 p).toInt = l
theorem Lf.sz {σ0 σ τ : St} {n : Nat} (h : K2 σ0 σ) (hL : Lf σ τ n) {i : Nat} (hi : i < n) : 1 ≤ (τ.1 33 i).toInt ∧ (τ.1 33 i).toInt ≤ 85 := by
  by_cases e : i = 0
  · rw [e, hL.2.1]; omega
  · have h1 := hL.2.2 i (by omega) hi
    have h2 := szf_le h (τ.1 27 i).toNatClampNeg
    omega
theorem Lf.ext {σ τ υ : St} {n : Nat} (h : Lf σ τ n) (hn : 1 ≤ n) (h1 : ∀ i : Nat, i < n → υ.1 27 i = τ.1 27 i) (h2 : ∀ i : Nat, i < n → υ.1 33 i = τ.1 33 i) : Lf σ υ n := by
  refine ⟨by rw [h1 0 (by omega)]; exact h.1, by rw [h2 0 (by omega)]; exact h.2.1, fun i a b => ?_⟩
  rw [h1 i b, h2 i b]
  exact h.2.2 i a b
set_option maxHeartbeats 2000000 in
theorem tX12_join96 {N : Nat} (hN : 4294967400 ≤ N) {Q : St → Prop} {σ0 σ τ0 : St} (hσ : K2 σ0 σ) (k0 : K2 σ0 τ0) (p0 : Kp σ τ0) (hB : B1 τ0) (hU : ∀ t : Nat, (t : Int) < (σ.1 0 41).toInt → ∀ k : Nat, (k : Int) < (tR σ t).toInt → 1 ≤ (τ0.1 37 (tP σ t k).toNatClampNeg).toInt) (hQ : ∀ (τ : St) (L n : Nat), K2 σ0 τ → Kp σ τ → TK σ τ L n → Q τ) : lo1 (fX12_join_l96 N Q) N 0 τ0 := by
  have z0 : (0 : Int32).toInt = 0 := by decide
  have zc : (0 : Int32).toNatClampNeg = 0 := by decide
  have o1 : (1 : Int32).toInt = 1 := by decide
  have b36 := K2.g_0_36 hσ
  refine lo1_i (fun (y : Int32) (τ : St) => K2 σ0 τ ∧ Kp σ τ ∧ 0 ≤ y.toInt ∧ y.toInt ≤ (σ.1 0 36).toInt ∧ ∃ n : Nat, L3 σ τ τ0 y.toNatClampNeg n) (fun y _ => (2147483648 - y.toInt).toNat) ?_ N 0 τ0 ⟨k0, p0, by omega, by omega, 1, by exact hB.1, by omega, by omega, ⟨hB.2.1, hB.2.2.1, fun i a b => absurd b (by omega)⟩, fun i hi => by rw [show i = 0 by omega]; exact hB.2.2.2, rfl, fun p hp => absurd hp (by rw [zc]; omega)⟩ (by (try dsimp only); omega)
  intro rr y τ hI ih
  obtain ⟨hτ, pτ, i1, i2, n, c1, c2, c3, c4, c5, c6, c7⟩ := hI
  have ey := clE (rfl : y.toInt = y.toInt) i1
  obtain ⟨m, hm⟩ : ∃ m : Nat, y.toNatClampNeg = m := ⟨_, rfl⟩
  rw [hm] at ey c3 c7
  have q36 : τ.1 0 36 = σ.1 0 36 := pτ 0 36 (by omega)
  unfold fX12_join_l96
  rw [q36]
  refine ⟨fun c => ?_, fun c => ?_⟩
  · have f := (leE (rfl : (σ.1 0 36).toInt = (σ.1 0 36).toInt) (rfl : y.toInt = y.toInt)).mp c
    intro v6 ev6 σ7 e7
    have f6 : v6.toInt = n := by rw [ev6]; exact c1
    have k7 : K2 σ0 σ7 := by rw [e7]; exact hτ.uf (Rg2.q_0_51 (by omega) (by omega)) (by decide)
    have g51 : (σ7.1 0 51).toInt = n := by rw [rw1 e7, up1]; exact f6
    have g50 : (σ7.1 0 50).toInt = n := by rw [kq e7 (fun w => absurd w.2 (by decide))]; exact c1
    have g29 : σ7.1 29 = τ.1 29 := rwn e7 (by decide)
    have g33 : σ7.1 33 = τ.1 33 := rwn e7 (by decide)
    have hJ : JT σ7 n n := by
      refine ⟨?_, fun k h1 h2 => absurd h2 (by omega), fun i hi h0 => ?_, fun i hi => ?_, ?_, ?_⟩
      · rw [g29, cnt_full n c5]; omega
      · rw [g29] at h0
        exact absurd h0 (c5 i hi)
      · rw [g33]; exact (Lf.sz hσ c4 hi).1
      · rw [g29, g33]
        have := wsum_le (f := τ.1 29) (s := τ.1 33) (c := 85) (by omega) n (fun i hi => (Lf.sz hσ c4 hi).2)
        omega
      · rw [g29]; exact c5 _ (by omega)
    refine tX12_join155 hN (L := n) c2 (by omega) g51 g50 k7 hJ (fun υ kυ fυ e50 hJ' => ?_)
    have pυ : Kp σ υ := pτ.tr (Kp.tr (fun a b q => kq e7 (by omega)) (fun a b q => fυ a b (by omega)))
    refine hQ υ n (2 * n - 1) kυ pυ ⟨⟨?_, ?_, c2, by omega, by omega⟩, hJ'.2.1, fun i hi => ?_, hJ'.2.2.2.1, ?_, ?_, ?_, ?_⟩
    · rw [fυ 0 51 (by omega)]; exact g51
    · omega
    · have h1 := hJ'.1
      have h2 := hJ'.2.2.2.2.2
      have h3 : cnt (υ.1 29) (2 * n - 1) = cnt (υ.1 29) (2 * n - 1 - 1) + 1 := by
        have e : 2 * n - 1 = (2 * n - 1 - 1) + 1 := by omega
        have h4 : cnt (υ.1 29) ((2 * n - 1 - 1) + 1) = cnt (υ.1 29) (2 * n - 1 - 1) + (if υ.1 29 (2 * n - 1 - 1) = 0 then 0 else 1) := rfl
        rw [← e, if_neg h2] at h4
        exact h4
      exact hJ'.2.2.1 i (by omega) (cnt_all (2 * n - 1 - 1) (by omega) i (by omega))
    · have h1 := wsum_ge (f := υ.1 29) (s := υ.1 33) (i := 2 * n - 1 - 1) (n := 2 * n - 1) hJ'.2.2.2.2.2 (by omega) (fun j hj => by have := hJ'.2.2.2.1 j hj; omega)
      have h2 := hJ'.2.2.2.2.1
      omega
    · refine c4.ext c2 (fun i hi => ?_) (fun i hi => ?_)
      · rw [fυ 27 i (by omega), rwn e7 (by decide)]
      · rw [fυ 33 i (by omega), rwn e7 (by decide)]
    · intro p hp hp2
      rw [fυ 37 p (by omega), rwn e7 (by decide)] at hp2
      obtain ⟨l, a1, a2⟩ := c7 p (by omega) hp2
      exact ⟨l, a1, by rw [fυ 36 p (by omega), rwn e7 (by decide)]; exact a2⟩
    · intro t ht k hk
      rw [fυ 37 _ (by omega), rwn e7 (by decide), c6]
      exact hU t ht k hk
  · have f := (notleE (rfl : (σ.1 0 36).toInt = (σ.1 0 36).toInt) (rfl : y.toInt = y.toInt)).mp c
    have hin : vp_in y 60 := inE (rfl : y.toInt = y.toInt) (by omega) (by omega)
    rw [hm]
    refine ⟨hin, fun d => ?_, fun d => ?_⟩
    · have g := (leE (rfl : (τ.1 37 m).toInt = (τ.1 37 m).toInt) z0).mp d
      intro v ev
      have fv : v.toInt = y.toInt + 1 := (congrArg Int32.toInt ev).trans (aOkE rfl o1 (by omega) (by omega))
      have gv := clE fv (by omega)
      refine ih v τ ⟨hτ, pτ, by omega, by omega, n, c1, c2, by omega, c4, c5, c6, fun p hp hp2 => ?_⟩ (by (try dsimp only); omega)
      by_cases e : p = m
      · rw [e] at hp2; omega
      · exact c7 p (by omega) hp2
    · have g := (notleE (rfl : (τ.1 37 m).toInt = (τ.1 37 m).toInt) z0).mp d
      intro v10 ev10
      have f10 : v10.toInt = n := by rw [ev10]; exact c1
      refine ⟨hin, fun σ12 e12 => ⟨hin, ?_⟩⟩
      have k12 : K2 σ0 σ12 := by rw [e12]; exact hτ.ua (Rg2.q_36 (by omega) (by omega)) (by decide)
      have p12 : Kp τ σ12 := fun a b q => kq e12 (by omega)
      have q50 : σ12.1 0 50 = τ.1 0 50 := kq e12 (fun w => absurd w.1 (by decide))
      have en : (σ12.1 0 50).toNatClampNeg = n := by have := clE (show (σ12.1 0 50).toInt = n by rw [q50]; exact c1) (by omega); omega
      refine tX12_sizeOf (by omega) (by omega) k12 (fun r er => ?_)
      rw [szf_kp (pτ.tr p12), hm] at er
      refine tX12_leaf (by rw [q50]; omega) k12 (fun υ kυ fυ f50 f27 f29 f33 f32 => ?_)
      rw [q50] at f50
      rw [en] at f27 f29 f33 f32
      intro v ev
      have fv : v.toInt = y.toInt + 1 := (congrArg Int32.toInt ev).trans (aOkE rfl o1 (by omega) (by omega))
      have gv := clE fv (by omega)
      have w27 : ∀ i : Nat, i < n → υ.1 27 i = τ.1 27 i := fun i hi => by rw [f27, up2 (by omega), rwn e12 (by decide)]
      have w33 : ∀ i : Nat, i < n → υ.1 33 i = τ.1 33 i := fun i hi => by rw [f33, up2 (by omega), rwn e12 (by decide)]
      have r36 : υ.1 36 = upd (τ.1 36) m v10 := by rw [show υ.1 36 = σ12.1 36 from funext (fun j => fυ 36 j (by omega)), rw1 e12]
      have r37 : υ.1 37 = τ.1 37 := by rw [show υ.1 37 = σ12.1 37 from funext (fun j => fυ 37 j (by omega)), rwn e12 (by decide)]
      have v27 : υ.1 27 n = y := by rw [f27, up1]
      have v33 : υ.1 33 n = r := by rw [f33, up1]
      refine ih v υ ⟨kυ, pτ.tr (p12.tr (fun a b q => fυ a b (by omega))), by omega, by omega, n + 1, by omega, by omega, by omega, ?_, ?_, r37.trans c6, ?_⟩ (by (try dsimp only); omega)
      · have hL := c4.ext c2 w27 w33
        refine ⟨hL.1, hL.2.1, fun i a b => ?_⟩
        by_cases e : i = n
        · rw [e, v27, v33, hm]
          exact ⟨by omega, by omega, er⟩
        · exact hL.2.2 i a (by omega)
      · intro i hi
        by_cases e : i = n
        · rw [e, f29, up1]; decide
        · rw [f29, up2 e, rwn e12 (by decide)]
          exact c5 i (by omega)
      · intro p hp hp2
        rw [r37] at hp2
        by_cases e : p = m
        · exact ⟨n, by omega, by rw [r36, e, up1]; exact f10⟩
        · obtain ⟨l, a1, a2⟩ := c7 p (by omega) hp2
          exact ⟨l, by omega, by rw [r36, up2 e]; exact a2⟩
set_option maxHeartbeats 2000000 in
theorem tX12_join62 {N : Nat} (hN : 4294967400 ≤ N) {Q : St → Prop} {r40 : Int32 → St → Prop} {σ0 σ τ0 : St} {x1 : Int32} {t : Nat} (et : x1.toNatClampNeg = t) (hσ : K2 σ0 σ) (k0 : K2 σ0 τ0) (p0 : Kp σ τ0) (h1 : 0 ≤ x1.toInt) (h2 : x1.toInt ≤ 19) (hp : ∀ k : Nat, (k : Int) < (tR σ t).toInt → τ0.1 26 k = tP σ t k) (hu : ∀ p : Nat, (p : Int) < (σ.1 0 36).toInt → 0 ≤ (τ0.1 37 p).toInt ∧ (τ0.1 37 p).toInt ≤ 120 * x1.toInt)
    (hr : ∀ (v : Int32) (υ : St), v.toInt = x1.toInt + 1 → K2 σ0 υ → Kp σ υ → (∀ a b : Nat, a ≠ 37 → υ.1 a b = τ0.1 a b) → (∀ p : Nat, (p : Int) < (σ.1 0 36).toInt → (τ0.1 37 p).toInt ≤ (υ.1 37 p).toInt ∧ (υ.1 37 p).toInt ≤ 120 * x1.toInt + 120) → (∀ k : Nat, (k : Int) < (tR σ t).toInt → 1 ≤ (υ.1 37 (tP σ t k).toNatClampNeg).toInt) → r40 v υ) : lo1 (fX12_join_l62 N r40 x1 (tR σ t) Q) N 0 τ0 := by
  have z0 : (0 : Int32).toInt = 0 := by decide
  have o1 : (1 : Int32).toInt = 1 := by decide
  have b36 := K2.g_0_36 hσ
  have bR := tR_le hσ t
  refine lo1_i (fun (y : Int32) (υ : St) => K2 σ0 υ ∧ Kp σ υ ∧ (∀ a b : Nat, a ≠ 37 → υ.1 a b = τ0.1 a b) ∧ 0 ≤ y.toInt ∧ (y.toInt = 0 ∨ y.toInt ≤ (tR σ t).toInt) ∧ (∀ p : Nat, (p : Int) < (σ.1 0 36).toInt → (τ0.1 37 p).toInt ≤ (υ.1 37 p).toInt ∧ (υ.1 37 p).toInt ≤ 120 * x1.toInt + y.toInt) ∧ (∀ k : Nat, (k : Int) < y.toInt → 1 ≤ (υ.1 37 (tP σ t k).toNatClampNeg).toInt)) (fun y _ => (2147483648 - y.toInt).toNat) ?_ N 0 τ0 ⟨k0, p0, fun _ _ _ => rfl, by omega, Or.inl z0, fun p q => ⟨by omega, by have := hu p q; omega⟩, fun k hk => absurd hk (by omega)⟩ (by (try dsimp only); omega)
  intro rr y υ hI ih
  obtain ⟨hυ, pυ, fυ, i1, i2, i3, i4⟩ := hI
  unfold fX12_join_l62
  refine ⟨fun c => ?_, fun c => ?_⟩
  · have f := (leE (rfl : (tR σ t).toInt = (tR σ t).toInt) (rfl : y.toInt = y.toInt)).mp c
    intro v ev
    have fv : v.toInt = x1.toInt + 1 := (congrArg Int32.toInt ev).trans (aOkE rfl o1 (by omega) (by omega))
    exact hr v υ fv hυ pυ fυ (fun p q => ⟨(i3 p q).1, by have := (i3 p q).2; omega⟩) (fun k hk => i4 k (by omega))
  · have f := (notleE (rfl : (tR σ t).toInt = (tR σ t).toInt) (rfl : y.toInt = y.toInt)).mp c
    have ey := clE (rfl : y.toInt = y.toInt) i1
    obtain ⟨m, hm⟩ : ∃ m : Nat, y.toNatClampNeg = m := ⟨_, rfl⟩
    rw [hm] at ey
    have e26 : υ.1 26 m = tP σ t m := by rw [fυ 26 m (by decide)]; exact hp m (by omega)
    have bP := tP_lt hσ (t := t) (k := m) (by omega)
    have eP := clE (rfl : (tP σ t m).toInt = (tP σ t m).toInt) bP.1
    have hinP : vp_in (tP σ t m) 60 := inE (rfl : (tP σ t m).toInt = (tP σ t m).toInt) (by omega) (by omega)
    rw [hm, e26]
    refine ⟨inE (rfl : y.toInt = y.toInt) (by omega) (by omega), hinP, fun v12 ev12 => ⟨hinP, fun σ14 e14 v15 ev15 => ?_⟩⟩
    obtain ⟨p, ep⟩ : ∃ p : Nat, (tP σ t m).toNatClampNeg = p := ⟨_, rfl⟩
    rw [ep] at eP ev12 e14
    have b3 := i3 p (by omega)
    have bu := hu p (by omega)
    have f12 : v12.toInt = (υ.1 37 p).toInt + 1 := (congrArg Int32.toInt ev12).trans (aOkE rfl o1 (by omega) (by omega))
    have f15 : v15.toInt = y.toInt + 1 := (congrArg Int32.toInt ev15).trans (aOkE rfl o1 (by omega) (by omega))
    have k14 : K2 σ0 σ14 := by rw [e14]; exact hυ.ua (Rg2.q_37 _ _) (by decide)
    have up : ∀ q : Nat, (υ.1 37 q).toInt ≤ (σ14.1 37 q).toInt ∧ (σ14.1 37 q).toInt ≤ (υ.1 37 q).toInt + 1 := by
      intro q
      rw [rw1 e14]
      by_cases e : q = p
      · rw [e, up1]; omega
      · rw [up2 e]; omega
    refine ih v15 σ14 ⟨k14, pυ.tr (fun a b q => kq e14 (by omega)), fun a b q => (kq e14 (fun w => q w.1)).trans (fυ a b q), by omega, by omega, fun q hq => ?_, fun k hk => ?_⟩ (by (try dsimp only); omega)
    · have h1 := up q
      have h2 := i3 q hq
      omega
    · by_cases e : k = m
      · rw [e, ep, rw1 e14, up1]; omega
      · have h1 := up (tP σ t k).toNatClampNeg
        have h2 := i4 k (by omega)
        omega
set_option maxHeartbeats 2000000 in
theorem tX12_join40 {N : Nat} (hN : 4294967400 ≤ N) {Q : St → Prop} {σ0 σ τ0 : St} (hσ : K2 σ0 σ) (k0 : K2 σ0 τ0) (p0 : Kp σ τ0) (hB : B1 τ0) (hu : ∀ p : Nat, (p : Int) < (σ.1 0 36).toInt → τ0.1 37 p = 0) (hQ : ∀ (τ : St) (L n : Nat), K2 σ0 τ → Kp σ τ → TK σ τ L n → Q τ) : lo1 (fX12_join_l40 N Q) N 0 τ0 := by
  have z0 : (0 : Int32).toInt = 0 := by decide
  have b41 := K2.q_0_41 hσ
  refine lo1_i (fun (y : Int32) (τ : St) => K2 σ0 τ ∧ Kp σ τ ∧ B1 τ ∧ 0 ≤ y.toInt ∧ y.toInt ≤ (σ.1 0 41).toInt ∧ (∀ p : Nat, (p : Int) < (σ.1 0 36).toInt → 0 ≤ (τ.1 37 p).toInt ∧ (τ.1 37 p).toInt ≤ 120 * y.toInt) ∧ (∀ t : Nat, (t : Int) < y.toInt → ∀ k : Nat, (k : Int) < (tR σ t).toInt → 1 ≤ (τ.1 37 (tP σ t k).toNatClampNeg).toInt)) (fun y _ => (2147483648 - y.toInt).toNat) ?_ N 0 τ0 ⟨k0, p0, hB, by omega, by omega, fun p q => by rw [hu p q, z0]; omega, fun t ht => absurd ht (by omega)⟩ (by (try dsimp only); omega)
  intro rr y τ hI ih
  obtain ⟨hτ, pτ, bτ, i1, i2, i3, i4⟩ := hI
  have q41 : τ.1 0 41 = σ.1 0 41 := pτ 0 41 (by omega)
  unfold fX12_join_l40
  rw [q41]
  refine ⟨fun c => ?_, fun c => ?_⟩
  · have f := (leE (rfl : (σ.1 0 41).toInt = (σ.1 0 41).toInt) (rfl : y.toInt = y.toInt)).mp c
    exact tX12_join96 hN hσ hτ pτ bτ (fun t ht => i4 t (by omega)) hQ
  · have f := (notleE (rfl : (σ.1 0 41).toInt = (σ.1 0 41).toInt) (rfl : y.toInt = y.toInt)).mp c
    have ey := clE (rfl : y.toInt = y.toInt) i1
    refine ⟨inE (rfl : y.toInt = y.toInt) (by omega) (by omega), ?_⟩
    refine tX12_parted hN (by omega) (by omega) hτ pτ (fun υ kυ fυ hp => ?_)
    have r37 : υ.1 37 = τ.1 37 := funext (fun j => fυ 37 j (by omega))
    refine tX12_join62 hN rfl hσ kυ (pτ.tr (Kp.ofP fυ)) i1 (by omega) hp (fun p q => by rw [r37]; exact i3 p q) (fun v ω fv kω pω fω gω uω => ?_)
    refine ih v ω ⟨kω, pω, bτ.ext ?_ ?_ ?_ ?_, by omega, by omega, fun p q => ?_, fun t ht k hk => ?_⟩ (by (try dsimp only); omega)
    · rw [fω 0 50 (by decide), fυ 0 50 (by omega)]
    · rw [fω 27 0 (by decide), fυ 27 0 (by omega)]
    · rw [fω 33 0 (by decide), fυ 33 0 (by omega)]
    · rw [fω 29 0 (by decide), fυ 29 0 (by omega)]
    · have h1 := gω p q
      have h2 := i3 p q
      rw [r37] at h1
      omega
    · by_cases e : t = y.toNatClampNeg
      · rw [e]
        rw [e] at hk
        exact uω k hk
      · have h2 := i4 t (by omega) k hk
        have bP := tP_lt hσ hk
        have eP := clE (rfl : (tP σ t k).toInt = (tP σ t k).toInt) bP.1
        have h1 := gω (tP σ t k).toNatClampNeg (by omega)
        rw [r37] at h1
        omega
set_option maxHeartbeats 2000000 in
theorem tX12_join {N : Nat} (hN : 4294967400 ≤ N) {Q : St → Prop} {σ0 σ : St} (hσ : K2 σ0 σ) (hQ : ∀ (τ : St) (L n : Nat), K2 σ0 τ → Kp σ τ → TK σ τ L n → Q τ) : fX12_join N Q σ := by
  have z0 : (0 : Int32).toInt = 0 := by decide
  have zc : (0 : Int32).toNatClampNeg = 0 := by decide
  have o1 : (1 : Int32).toInt = 1 := by decide
  have b36 := K2.g_0_36 hσ
  unfold fX12_join
  intro σ1 e1
  have k1 : K2 σ0 σ1 := by rw [e1]; exact hσ.uf (Rg2.q_0_50 (by omega) (by omega)) (by decide)
  have q50 : σ1.1 0 50 = 0 := by rw [rw1 e1, up1]
  refine tX12_leaf (by rw [q50]; omega) k1 (fun υ kυ fυ f50 f27 f29 f33 f32 => ?_)
  rw [q50] at f50
  rw [q50, zc] at f27 f29 f33 f32
  have pυ : Kp σ υ := Kp.tr (fun a b q => kq e1 (by omega)) (fun a b q => fυ a b (by omega))
  have bυ : B1 υ := ⟨by omega, by rw [f27, up1], by rw [f33, up1]; exact o1, by rw [f29, up1]; decide⟩
  refine lo1_i (fun (y : Int32) (τ : St) => K2 σ0 τ ∧ Kp σ τ ∧ B1 τ ∧ 0 ≤ y.toInt ∧ ∀ p : Nat, (p : Int) < y.toInt → τ.1 37 p = 0) (fun y _ => (2147483648 - y.toInt).toNat) ?_ N 0 υ ⟨kυ, pυ, bυ, by omega, fun p hp => absurd hp (by omega)⟩ (by (try dsimp only); omega)
  intro rr y τ hI ih
  obtain ⟨hτ, pτ, bτ, i1, i2⟩ := hI
  have q36 : τ.1 0 36 = σ.1 0 36 := pτ 0 36 (by omega)
  unfold fX12_join_l17
  rw [q36]
  refine ⟨fun c => ?_, fun c => ?_⟩
  · have f := (leE (rfl : (σ.1 0 36).toInt = (σ.1 0 36).toInt) (rfl : y.toInt = y.toInt)).mp c
    exact tX12_join40 hN hσ hτ pτ bτ (fun p hp => i2 p (by omega)) hQ
  · have f := (notleE (rfl : (σ.1 0 36).toInt = (σ.1 0 36).toInt) (rfl : y.toInt = y.toInt)).mp c
    have ey := clE (rfl : y.toInt = y.toInt) i1
    refine ⟨inE (rfl : y.toInt = y.toInt) (by omega) (by omega), fun σ5 e5 v6 ev6 => ?_⟩
    have f6 : v6.toInt = y.toInt + 1 := (congrArg Int32.toInt ev6).trans (aOkE rfl o1 (by omega) (by omega))
    refine ih v6 σ5 ⟨by rw [e5]; exact hτ.ua (Rg2.q_37 _ _) (by decide), pτ.tr (fun a b q => kq e5 (by omega)), bτ.ext (kq e5 (by omega)) (kq e5 (by omega)) (kq e5 (by omega)) (kq e5 (by omega)), by omega, fun p hp => ?_⟩ (by (try dsimp only); omega)
    rw [rw1 e5]
    by_cases e : p = y.toNatClampNeg
    · rw [e, up1]
    · rw [up2 e]; exact i2 p (by omega)
