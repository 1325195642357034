theorem Rg2.q_1 {j : Nat} {v : Int32} (h1 : 0 ≤ v.toInt) (h2 : v.toInt ≤ 255) : Rg2 1 j v := ⟨h1, h2⟩
theorem Rg2.q_27 (j : Nat) (v : Int32) : Rg2 27 j v := trivial
theorem Rg2.q_28 (j : Nat) (v : Int32) : Rg2 28 j v := trivial
theorem Rg2.q_29 (j : Nat) (v : Int32) : Rg2 29 j v := trivial
theorem Rg2.q_33 (j : Nat) (v : Int32) : Rg2 33 j v := trivial
theorem Rg2.q_34 (j : Nat) (v : Int32) : Rg2 34 j v := trivial
theorem Rg2.q_35 (j : Nat) (v : Int32) : Rg2 35 j v := trivial
theorem Rg2.q_37 (j : Nat) (v : Int32) : Rg2 37 j v := trivial
theorem Rg2.q_22 (j : Nat) (v : Int32) : Rg2 22 j v := trivial
theorem Rg2.q_23 (j : Nat) (v : Int32) : Rg2 23 j v := trivial
theorem Rg2.q_30 {j : Nat} {v : Int32} (h1 : 0 ≤ v.toInt) (h2 : v.toInt ≤ 121) : Rg2 30 j v := ⟨h1, h2⟩
theorem Rg2.q_31 {j : Nat} {v : Int32} (h1 : 0 ≤ v.toInt) (h2 : v.toInt ≤ 121) : Rg2 31 j v := ⟨h1, h2⟩
theorem Rg2.q_32 {j : Nat} {v : Int32} (h1 : -1 ≤ v.toInt) (h2 : v.toInt ≤ 121) : Rg2 32 j v := ⟨h1, h2⟩
theorem Rg2.q_36 {j : Nat} {v : Int32} (h1 : 0 ≤ v.toInt) (h2 : v.toInt ≤ 121) : Rg2 36 j v := ⟨h1, h2⟩
theorem Rg2.q_0_50 {v : Int32} (h1 : 0 ≤ v.toInt) (h2 : v.toInt ≤ 122) : Rg2 0 50 v := by simp [Rg2, In32]; omega
theorem Rg2.q_0_51 {v : Int32} (h1 : 0 ≤ v.toInt) (h2 : v.toInt ≤ 61) : Rg2 0 51 v := by simp [Rg2, In32]; omega
theorem Rg2.q_0_63 (v : Int32) : Rg2 0 63 v := by simp [Rg2]
theorem Rg2.q_0_64 (v : Int32) : Rg2 0 64 v := by simp [Rg2]
theorem Rg2.q_0_46 (v : Int32) : Rg2 0 46 v := by simp [Rg2]
theorem K2.q_0_50 {σ0 σ : St} (h : K2 σ0 σ) : 0 ≤ (σ.1 0 50).toInt ∧ (σ.1 0 50).toInt ≤ 122 := by
  have := h.1.1 0 50
  simpa [Rg2, In32] using this
theorem K2.q_0_41 {σ0 σ : St} (h : K2 σ0 σ) : 0 ≤ (σ.1 0 41).toInt ∧ (σ.1 0 41).toInt ≤ 20 := by
  have := h.1.1 0 41
  simpa [Rg2, In32] using this
theorem K2.q_21 {σ0 σ : St} (h : K2 σ0 σ) (j : Nat) : 0 ≤ (σ.1 21 j).toInt ∧ (σ.1 21 j).toInt ≤ 120 := h.1.1 21 j
theorem up1 {f : Nat → Int32} {k : Nat} {v : Int32} : upd f k v k = v := if_pos rfl
theorem up2 {f : Nat → Int32} {k j : Nat} {v : Int32} (h : j ≠ k) : upd f k v j = f j := if_neg h
/-- what telling may change -/
def FrT (σ τ : St) : Prop := ∀ a b : Nat, ¬ (a = 1 ∨ (a = 0 ∧ b = 7)) → τ.1 a b = σ.1 a b
theorem FrT.tr {σ τ υ : St} (h : FrT σ τ) (h2 : FrT τ υ) : FrT σ υ := fun a b q => (h2 a b q).trans (h a b q)
theorem FrT.row {σ τ : St} (h : FrT σ τ) {a : Nat} (ha : 2 ≤ a) : τ.1 a = σ.1 a := funext (fun b => h a b (by omega))
theorem tX12_tell {N : Nat} {x1 x2 : Int32} {Q : St → Prop} {σ0 σ : St} (h1 : 0 ≤ x1.toInt) (h2 : x1.toInt ≤ 4095) (hσ : K2 σ0 σ) (hQ : ∀ τ : St, K2 σ0 τ → FrT σ τ → Q τ) : fX12_tell N x1 x2 Q σ := by
  unfold fX12_tell
  intro v ev
  have hv := and255 x2
  rw [← ev] at hv
  refine ⟨inE (rfl : x1.toInt = x1.toInt) (by omega) (by omega), ?_⟩
  intro σ3 e3
  have k3 : K2 σ0 σ3 := by rw [e3]; exact hσ.ua (Rg2.q_1 hv.1 hv.2) (by decide)
  have f3 : FrT σ σ3 := fun a b q => kq e3 (fun z => q (Or.inl z.1))
  refine ⟨fun _ => hQ _ k3 f3, fun _ => ⟨fun _ => hQ _ k3 f3, fun _ => ⟨fun _ => hQ _ k3 f3, fun _ => ?_⟩⟩⟩
  intro σ7 e7
  exact hQ _ (by rw [e7]; exact k3.uf (Rg2.u_0_7 _) (by decide)) (fun a b q => (kq e7 (fun z => q (Or.inr z))).trans (f3 a b q))
theorem tX12_tellFour {N : Nat} (hN : 4294967400 ≤ N) {x1 x2 : Int32} {Q : St → Prop} {σ0 σ : St} (h1 : 0 ≤ x1.toInt) (h2 : x1.toInt ≤ 4092) (hσ : K2 σ0 σ) (hQ : ∀ τ : St, K2 σ0 τ → FrT σ τ → Q τ) : fX12_tellFour N x1 x2 Q σ := by
  have z0 : (0 : Int32).toInt = 0 := by decide
  unfold fX12_tellFour
  refine lo1_i (fun (y : Int32) (τ : St) => K2 σ0 τ ∧ FrT σ τ ∧ 0 ≤ y.toInt) (fun y _ => (2147483648 - y.toInt).toNat) ?_ N 0 σ ⟨hσ, fun _ _ _ => rfl, by omega⟩ (by (try dsimp only); omega)
  intro rr y τ hI ih
  obtain ⟨hτ, i1, i2⟩ := hI
  unfold fX12_tellFour_l2
  refine ⟨fun _ => hQ _ hτ i1, fun c => ?_⟩
  have f1 := (notleE (show (4 : Int32).toInt = 4 from by decide) (rfl : y.toInt = y.toInt)).mp c
  have fa : (x1 + y).toInt = x1.toInt + y.toInt := aOkE rfl rfl (by omega) (by omega)
  refine tX12_tell (by omega) (by omega) hτ (fun υ hυ g1 => ?_)
  intro v2 ev2
  have f2 : v2.toInt = y.toInt + 1 := (congrArg Int32.toInt ev2).trans (aOkE rfl (show (1 : Int32).toInt = 1 from by decide) (by omega) (by omega))
  exact ih v2 υ ⟨hυ, i1.tr g1, by omega⟩ (by (try dsimp only); omega)
/-- a knot more -/
theorem tX12_leaf {N : Nat} {x1 x2 x3 : Int32} {Q : St → Prop} {σ0 σ : St} (hk : (σ.1 0 50).toInt ≤ 121) (hσ : K2 σ0 σ) (hQ : ∀ τ : St, K2 σ0 τ → (∀ a b : Nat, ¬ (a = 27 ∨ a = 28 ∨ a = 29 ∨ a = 32 ∨ a = 33 ∨ (a = 0 ∧ b = 50)) → τ.1 a b = σ.1 a b) → (τ.1 0 50).toInt = (σ.1 0 50).toInt + 1 → τ.1 27 = upd (σ.1 27) (σ.1 0 50).toNatClampNeg x1 → τ.1 29 = upd (σ.1 29) (σ.1 0 50).toNatClampNeg 1 → τ.1 33 = upd (σ.1 33) (σ.1 0 50).toNatClampNeg x3 → τ.1 32 = upd (σ.1 32) (σ.1 0 50).toNatClampNeg (-1) → Q τ) : fX12_leaf N x1 x2 x3 Q σ := by
  have b := K2.q_0_50 hσ
  have hin : vp_in (σ.1 0 50) 122 := inE (rfl : (σ.1 0 50).toInt = (σ.1 0 50).toInt) (by omega) (by omega)
  unfold fX12_leaf
  refine ⟨hin, fun σ1 e1 => ?_⟩
  have q1 : σ1.1 0 50 = σ.1 0 50 := kq e1 (fun q => absurd q.1 (by decide))
  rw [q1]
  refine ⟨hin, fun σ2 e2 => ?_⟩
  have q2 : σ2.1 0 50 = σ.1 0 50 := (kq e2 (fun q => absurd q.1 (by decide))).trans q1
  rw [q2]
  refine ⟨hin, fun σ3 e3 => ?_⟩
  have q3 : σ3.1 0 50 = σ.1 0 50 := (kq e3 (fun q => absurd q.1 (by decide))).trans q2
  rw [q3]
  refine ⟨hin, fun σ4 e4 => ?_⟩
  have q4 : σ4.1 0 50 = σ.1 0 50 := (kq e4 (fun q => absurd q.1 (by decide))).trans q3
  rw [q4]
  refine ⟨hin, fun σ5 e5 => ?_⟩
  have q5 : σ5.1 0 50 = σ.1 0 50 := (kq e5 (fun q => absurd q.1 (by decide))).trans q4
  rw [q5]
  intro v ev σ6 e6
  have fv : v.toInt = (σ.1 0 50).toInt + 1 := (congrArg Int32.toInt ev).trans (aOkE rfl (show (1 : Int32).toInt = 1 from by decide) (by omega) (by omega))
  have hb : vp_nar .boolean 1 = 1 := by decide
  rw [hb] at e3
  have k1 : K2 σ0 σ1 := by rw [e1]; exact hσ.ua (Rg2.q_27 _ _) (by decide)
  have k2 : K2 σ0 σ2 := by rw [e2]; exact k1.ua (Rg2.q_28 _ _) (by decide)
  have k3 : K2 σ0 σ3 := by rw [e3]; exact k2.ua (Rg2.q_29 _ _) (by decide)
  have k4 : K2 σ0 σ4 := by rw [e4]; exact k3.ua (Rg2.q_33 _ _) (by decide)
  have k5 : K2 σ0 σ5 := by rw [e5]; exact k4.ua (Rg2.q_32 (by decide) (by decide)) (by decide)
  have k6 : K2 σ0 σ6 := by rw [e6]; exact k5.uf (Rg2.q_0_50 (by omega) (by omega)) (by decide)
  refine hQ σ6 k6 (fun a b q => ?_) ?_ ?_ ?_ ?_ ?_
  · rw [kq e6 (fun z => by omega), kq e5 (fun z => by omega), kq e4 (fun z => by omega), kq e3 (fun z => by omega), kq e2 (fun z => by omega), kq e1 (fun z => by omega)]
  · rw [e6, u1_at, up1]; exact fv
  · rw [e6, u1_ne (by decide), e5, u1_ne (by decide), e4, u1_ne (by decide), e3, u1_ne (by decide), e2, u1_ne (by decide), e1, u1_at]
  · rw [e6, u1_ne (by decide), e5, u1_ne (by decide), e4, u1_ne (by decide), e3, u1_at, e2, u1_ne (by decide), e1, u1_ne (by decide)]
  · rw [e6, u1_ne (by decide), e5, u1_ne (by decide), e4, u1_at, e3, u1_ne (by decide), e2, u1_ne (by decide), e1, u1_ne (by decide)]
  · rw [e6, u1_ne (by decide), e5, u1_at, e4, u1_ne (by decide), e3, u1_ne (by decide), e2, u1_ne (by decide), e1, u1_ne (by decide)]
theorem cnt_no {f : Nat → Int32} : ∀ n : Nat, (∀ i : Nat, i < n → f i = 0) → cnt f n = 0
  | 0, _ => rfl
  | n + 1, h => by
    show cnt f n + (if f n = 0 then 0 else 1) = 0
    rw [cnt_no n (fun i q => h i (by omega)), if_pos (h n (by omega))]
theorem cnt_all {f : Nat → Int32} : ∀ n : Nat, cnt f n = 0 → ∀ i : Nat, i < n → f i = 0
  | 0, _, i, h => absurd h (Nat.not_lt_zero _)
  | n + 1, h, i, hi => by
    have h' : cnt f n + (if f n = 0 then 0 else 1) = 0 := h
    by_cases e : f n = 0
    · by_cases hin : i = n
      · rw [hin]; exact e
      · exact cnt_all n (by omega) i (by omega)
    · rw [if_neg e] at h'
      omega
/-- the sizes of the knots that are there, added -/
def wsum (f s : Nat → Int32) : Nat → Int
  | 0 => 0
  | n + 1 => wsum f s n + (if f n = 0 then 0 else (s n).toInt)
theorem wsum_ext {f g s t : Nat → Int32} : ∀ n : Nat, (∀ i : Nat, i < n → f i = g i) → (∀ i : Nat, i < n → s i = t i) → wsum f s n = wsum g t n
  | 0, _, _ => rfl
  | n + 1, h, h2 => by
    show wsum f s n + (if f n = 0 then 0 else (s n).toInt) = wsum g t n + (if g n = 0 then 0 else (t n).toInt)
    rw [wsum_ext n (fun i q => h i (by omega)) (fun i q => h2 i (by omega)), h n (by omega), h2 n (by omega)]
theorem wsum_nn {f s : Nat → Int32} : ∀ n : Nat, (∀ i : Nat, i < n → 0 ≤ (s i).toInt) → 0 ≤ wsum f s n
  | 0, _ => Int.le_refl 0
  | n + 1, h => by
    show 0 ≤ wsum f s n + (if f n = 0 then 0 else (s n).toInt)
    have h1 := wsum_nn (f := f) n (fun i q => h i (by omega))
    have h2 := h n (by omega)
    split <;> omega
theorem wsum_dn {f s : Nat → Int32} {i : Nat} (h0 : f i ≠ 0) : ∀ n : Nat, i < n → wsum (upd f i 0) s n = wsum f s n - (s i).toInt
  | 0, h => absurd h (Nat.not_lt_zero _)
  | n + 1, h => by
    show wsum (upd f i 0) s n + (if upd f i 0 n = 0 then 0 else (s n).toInt) = wsum f s n + (if f n = 0 then 0 else (s n).toInt) - (s i).toInt
    by_cases hi : i = n
    · subst hi
      rw [up1, if_pos rfl, if_neg h0, wsum_ext (f := upd f i 0) (g := f) (s := s) (t := s) i (fun j q => up2 (by omega)) (fun _ _ => rfl)]
      omega
    · rw [wsum_dn h0 n (by omega), up2 (fun q => hi q.symm)]
      omega
theorem wsum_ge {f s : Nat → Int32} {i n : Nat} (h0 : f i ≠ 0) (hi : i < n) (h : ∀ j : Nat, j < n → 0 ≤ (s j).toInt) : (s i).toInt ≤ wsum f s n := by
  have h1 := wsum_dn (s := s) h0 n hi
  have h2 := wsum_nn (f := upd f i 0) (s := s) n h
  omega
theorem tX12_least {N : Nat} (hN : 4294967400 ≤ N) {Q : Int32 → St → Prop} {σ0 σ : St} (hσ : K2 σ0 σ) (hc : 1 ≤ cnt (σ.1 29) (σ.1 0 50).toNatClampNeg) (hQ : ∀ (r : Int32) (τ : St), 0 ≤ r.toInt → r.toInt < (σ.1 0 50).toInt → σ.1 29 r.toNatClampNeg ≠ 0 → τ = u1 σ 29 r.toNatClampNeg 0 → Q r τ) : fX12_least N Q σ := by
  have b := K2.q_0_50 hσ
  have z0 : (0 : Int32).toInt = 0 := by decide
  have zm : (-1 : Int32).toInt = -1 := by decide
  have en := clE (rfl : (σ.1 0 50).toInt = (σ.1 0 50).toInt) b.1
  unfold fX12_least
  refine lo2_i (fun (x y : Int32) (τ : St) => τ = σ ∧ 0 ≤ y.toInt ∧ ((x.toInt = -1 ∧ ∀ i : Nat, (i : Int) < y.toInt → σ.1 29 i = 0) ∨ (0 ≤ x.toInt ∧ x.toInt < (σ.1 0 50).toInt ∧ σ.1 29 x.toNatClampNeg ≠ 0))) (fun _ y _ => (2147483648 - y.toInt).toNat) ?_ N (-1) 0 σ ⟨rfl, by omega, Or.inl ⟨zm, fun i hi => absurd hi (by omega)⟩⟩ (by (try dsimp only); omega)
  intro rr x y τ hI ih
  obtain ⟨rfl, i1, i2⟩ := hI
  have ey := clE (rfl : y.toInt = y.toInt) i1
  unfold fX12_least_l4
  refine ⟨fun c => ?_, fun c => ?_⟩
  · have f := (leE (rfl : (τ.1 0 50).toInt = (τ.1 0 50).toInt) (rfl : y.toInt = y.toInt)).mp c
    rcases i2 with q | q
    · have := cnt_no (f := τ.1 29) (τ.1 0 50).toNatClampNeg (fun i hi => q.2 i (by omega))
      omega
    · refine ⟨inE (rfl : x.toInt = x.toInt) (by omega) (by omega), fun σ3 e3 => hQ x σ3 q.1 q.2.1 q.2.2 e3⟩
  · have f := (notleE (rfl : (τ.1 0 50).toInt = (τ.1 0 50).toInt) (rfl : y.toInt = y.toInt)).mp c
    have hin : vp_in y 122 := inE (rfl : y.toInt = y.toInt) (by omega) (by omega)
    have h42 : ∀ x' : Int32, ((x'.toInt = -1 ∧ ∀ i : Nat, (i : Int) < y.toInt + 1 → τ.1 29 i = 0) ∨ (0 ≤ x'.toInt ∧ x'.toInt < (τ.1 0 50).toInt ∧ τ.1 29 x'.toNatClampNeg ≠ 0)) → fX12_least_j42 N rr x' y Q τ := by
      intro x' hx' v ev
      have fv : v.toInt = y.toInt + 1 := (congrArg Int32.toInt ev).trans (aOkE rfl (show (1 : Int32).toInt = 1 from by decide) (by omega) (by omega))
      refine ih x' v τ ⟨rfl, by omega, ?_⟩ (by (try dsimp only); omega)
      rw [fv]
      exact hx'
    refine ⟨hin, fun c2 => ?_, fun c2 => ?_⟩
    · refine h42 x ?_
      rcases i2 with q | q
      · refine Or.inl ⟨q.1, fun i hi => ?_⟩
        by_cases e : i = y.toNatClampNeg
        · rw [e]; exact c2
        · exact q.2 i (by omega)
      · exact Or.inr q
    · have h40 : fX12_least_j40 N rr y Q τ := h42 y (Or.inr ⟨i1, by omega, c2⟩)
      refine ⟨fun _ => h40, fun c3 => ?_⟩
      have f3 := (notltE (rfl : x.toInt = x.toInt) z0).mp c3
      have hx : 0 ≤ x.toInt ∧ x.toInt < (τ.1 0 50).toInt ∧ τ.1 29 x.toNatClampNeg ≠ 0 := by
        rcases i2 with q | q
        · omega
        · exact q
      exact ⟨hin, inE (rfl : x.toInt = x.toInt) (by omega) (by omega), fun _ => h42 x (Or.inr hx), fun _ => h40⟩
