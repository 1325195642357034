theorem Rg1.by_10 (j : Nat) (v : Int32) : Rg1 10 j (vp_nar .byte v) := by
  show In32 (-128) 127 _
  rw [vp_nar_byte]
  exact by8 v
theorem by_fit {v : Int32} (h1 : -128 ≤ v.toInt) (h2 : v.toInt ≤ 127) : fits .byte (.int v) = true := by
  have e : v.toInt8.toInt32 = v := by
    apply Int32.toInt_inj.mp
    rw [Int8.toInt_toInt32, Int32.toInt_toInt8, Int.bmod_def]
    split <;> omega
  rw [← e]
  exact pk_fb v
theorem Gu {σ : St} (h : ∀ a b : Nat, Rg1 a b (σ.1 a b)) {k j : Nat} {v : Int32} (hr : Rg1 k j v) : ∀ a b : Nat, Rg1 a b ((u1 σ k j v).1 a b) := by
  intro a b
  by_cases ha : a = k
  · subst ha
    rw [u1_at]
    by_cases hb : b = j
    · subst hb; simpa [upd] using hr
    · simpa [upd, hb] using h a b
  · rw [u1_ne ha]; exact h a b
theorem K1.self {σ : St} (h : ∀ a b : Nat, Rg1 a b (σ.1 a b)) : K1 σ σ := ⟨h, rfl, rfl⟩
theorem sX11_border {N : Nat} (hN : 4294967400 ≤ N) {x1 : Int32} {Q : Int32 → St → Prop} {σ : St} (hσ : ∀ a b : Nat, Rg1 a b (σ.1 a b)) (hQ1 : (x1.toInt < 0 ∨ 4096 < x1.toInt) → Q (-2) σ) (hQ2 : 0 ≤ x1.toInt → x1.toInt ≤ 4096 → ∀ τ : St, (∀ a b : Nat, Rg1 a b (τ.1 a b)) → τ.1 1 1 = x1 → τ.1 0 6 = σ.1 0 6 → Q (σ.1 1 1) τ) : fX11_border N x1 Q σ := by
  unfold fX11_border
  have z0 : (0 : Int32).toInt = 0 := by decide
  have z1 : (4096 : Int32).toInt = 4096 := by decide
  refine ⟨fun c => hQ1 (Or.inl ?_), fun c => ⟨fun c2 => ?_, fun c2 => hQ1 (Or.inr ?_)⟩⟩
  · have := Int32.lt_iff_toInt_lt.mp c; omega
  · have f1 := mt Int32.lt_iff_toInt_lt.mpr c
    have f2 := Int32.le_iff_toInt_le.mp c2
    intro v ev σ1 e1
    have g1 : ∀ a b : Nat, Rg1 a b (σ1.1 a b) := by rw [e1]; exact Gu hσ (fun _ => ⟨by omega, by omega⟩)
    refine sX8_drop hN (K1.self g1) (fun τ hτ _ => ?_)
    rw [ev]
    refine hQ2 (by omega) (by omega) τ hτ.1 ?_ ?_
    · rw [hτ.2.1, e1, u1_at]; exact if_pos rfl
    · rw [hτ.2.2]; exact kq e1 (fun q => absurd q.1 (by decide))
  · have := mt Int32.le_iff_toInt_le.mpr c2; omega
theorem sX11_feed {N : Nat} (hN : 4294967400 ≤ N) {x1 : Int32} {x2 : Int64} {Q : Int32 → St → Prop} {σ : St} (hσ : ∀ a b : Nat, Rg1 a b (σ.1 a b)) (hQ1 : (x1.toInt < 1 ∨ 8 < x1.toInt) → Q (-2) σ) (hQ2 : 1 ≤ x1.toInt → x1.toInt ≤ 8 → 600 < (σ.1 0 6).toInt + x1.toInt → Q (-4) σ) (hQ3 : 1 ≤ x1.toInt → x1.toInt ≤ 8 → (σ.1 0 6).toInt + x1.toInt ≤ 600 → ∀ τ : St, (∀ a b : Nat, Rg1 a b (τ.1 a b)) → (τ.1 0 6).toInt = (σ.1 0 6).toInt + x1.toInt → τ.1 1 1 = σ.1 1 1 → Q (τ.1 0 6) τ) : fX11_feed N x1 x2 Q σ := by
  unfold fX11_feed
  have t0 := (hσ 0 6).1 rfl
  unfold In32 at t0
  refine ⟨fun c => hQ1 (Or.inl ?_), fun c => ⟨fun c2 => ⟨fun c3 => ?_, fun c3 => ?_⟩, fun c2 => hQ1 (Or.inr ?_)⟩⟩
  · exact (ltE rfl (show (1 : Int32).toInt = 1 from by decide)).mp c
  · have f1 := (notltE (rfl : x1.toInt = x1.toInt) (show (1 : Int32).toInt = 1 from by decide)).mp c
    have f2 := (leE (rfl : x1.toInt = x1.toInt) (show (8 : Int32).toInt = 8 from by decide)).mp c2
    have f3 := (leE (rfl : (σ.1 0 6).toInt = (σ.1 0 6).toInt) (sOkE (show (600 : Int32).toInt = 600 from by decide) (rfl : x1.toInt = x1.toInt) (by omega) (by omega))).mp c3
    intro v ev
    have f4 : v.toInt = x1.toInt - 1 := (congrArg Int32.toInt ev).trans (sOkE rfl (show (1 : Int32).toInt = 1 from by decide) (by omega) (by omega))
    refine lo1_i (fun (y : Int32) (τ : St) => (∀ a b : Nat, Rg1 a b (τ.1 a b)) ∧ -1 ≤ y.toInt ∧ y.toInt ≤ 7 ∧ (τ.1 0 6).toInt + y.toInt + 1 = (σ.1 0 6).toInt + x1.toInt ∧ τ.1 1 1 = σ.1 1 1) (fun y _ => (y.toInt + 1).toNat) ?_ N v σ ⟨hσ, by omega, by omega, by omega, rfl⟩ (by (try dsimp only); omega)
    intro rr y τ hI ih
    obtain ⟨hτ, i1, i2, i3, i4⟩ := hI
    unfold fX11_feed_l34
    refine ⟨fun c4 => ?_, fun c4 => ?_⟩
    · have f5 := (ltE (rfl : y.toInt = y.toInt) (show (0 : Int32).toInt = 0 from by decide)).mp c4
      exact hQ3 (by omega) (by omega) (by omega) τ hτ (by omega) i4
    · have f5 := (notltE (rfl : y.toInt = y.toInt) (show (0 : Int32).toInt = 0 from by decide)).mp c4
      have t1 := (hτ 0 6).1 rfl
      unfold In32 at t1
      intro u eu
      refine ⟨inE rfl (by omega) (by omega), ?_⟩
      intro τ1 e1 u2 eu2 τ2 e2 u3 eu3
      have g1 : ∀ a b : Nat, Rg1 a b (τ1.1 a b) := by rw [e1]; exact Gu hτ (Rg1.by_10 _ _)
      have q1 : τ1.1 0 6 = τ.1 0 6 := kq e1 (fun q => absurd q.1 (by decide))
      have f6 : u2.toInt = (τ.1 0 6).toInt + 1 := by rw [eu2, q1]; exact aOkE rfl (show (1 : Int32).toInt = 1 from by decide) (by omega) (by omega)
      have g2 : ∀ a b : Nat, Rg1 a b (τ2.1 a b) := by rw [e2]; exact Gu g1 ⟨fun _ => ⟨by omega, by omega⟩, fun h => absurd h (by decide)⟩
      have q2 : τ2.1 0 6 = u2 := by rw [e2, u1_at]; exact if_pos rfl
      have f7 : u3.toInt = y.toInt - 1 := by rw [eu3]; exact dec1 (by omega)
      refine ih u3 τ2 ⟨g2, by omega, by omega, by rw [q2]; omega, ?_⟩ (by (try dsimp only); omega)
      rw [kq (a := 1) (b := 1) e2 (fun q => absurd q.1 (by decide)), kq (a := 1) (b := 1) e1 (fun q => absurd q.1 (by decide))]
      exact i4
  · have f1 := (notltE (rfl : x1.toInt = x1.toInt) (show (1 : Int32).toInt = 1 from by decide)).mp c
    have f2 := (leE (rfl : x1.toInt = x1.toInt) (show (8 : Int32).toInt = 8 from by decide)).mp c2
    have f3 := (notleE (rfl : (σ.1 0 6).toInt = (σ.1 0 6).toInt) (sOkE (show (600 : Int32).toInt = 600 from by decide) (rfl : x1.toInt = x1.toInt) (by omega) (by omega))).mp c3
    exact hQ2 (by omega) (by omega) (by omega)
  · have := (notleE (rfl : x1.toInt = x1.toInt) (show (8 : Int32).toInt = 8 from by decide)).mp c2
    omega
theorem sX11_load {N : Nat} (hN : 4294967400 ≤ N) {x1 : Int32} {Q : Int32 → St → Prop} {σ : St} (hσ : ∀ a b : Nat, Rg1 a b (σ.1 a b)) (hQ : ∀ (r : Int32) (τ : St), (∀ a b : Nat, Rg1 a b (τ.1 a b)) → τ.1 0 6 = 0 → τ.1 1 1 = σ.1 1 1 → Q r τ) : fX11_load N x1 Q σ := by
  unfold fX11_load
  have t0 := (hσ 0 6).1 rfl
  unfold In32 at t0
  intro v ev σ1 e1
  have f0 := congrArg Int32.toInt ev
  have g1 : ∀ a b : Nat, Rg1 a b (σ1.1 a b) := by rw [e1]; exact Gu hσ ⟨fun _ => ⟨by decide, by decide⟩, fun h => absurd h (by decide)⟩
  have q1 : σ1.1 0 6 = 0 := by rw [e1, u1_at]; exact if_pos rfl
  have q2 : σ1.1 1 1 = σ.1 1 1 := kq e1 (fun q => absurd q.1 (by decide))
  refine ⟨fun c => hQ _ _ g1 q1 q2, fun c => ⟨fun c2 => hQ _ _ g1 q1 q2, fun c2 => ⟨fun c3 => ?_, fun c3 => hQ _ _ g1 q1 q2⟩⟩⟩
  have f2 := (notltE (rfl : x1.toInt = x1.toInt) (show (0 : Int32).toInt = 0 from by decide)).mp c2
  have f3 := (leE (rfl : x1.toInt = x1.toInt) (sOkE (show (4096 : Int32).toInt = 4096 from by decide) (rfl : v.toInt = v.toInt) (by omega) (by omega))).mp c3
  have cl : ∀ z : Int32, 0 ≤ z.toInt → (z.toNatClampNeg : Int) = z.toInt := fun z h => by
    have : z.toNatClampNeg = z.toInt.toNat := rfl
    omega
  have n1 := cl x1 (by omega)
  have n2 := cl v (by omega)
  have n3 : (0 : Int32).toNatClampNeg = 0 := by decide
  refine ⟨⟨by decide, c2, fun q => ?_, by omega, by omega⟩, fun i => ?_, ?_⟩
  · have := (ltE (rfl : v.toInt = v.toInt) (show (0 : Int32).toInt = 0 from by decide)).mp q
    omega
  · have := g1 10 i
    exact by_fit this.1 this.2
  · intro σ2 e2
    have k2 : ∀ a : Nat, a ≠ 12 → σ2.1 a = σ1.1 a := fun a ha => by rw [e2]; exact uc_ne ha
    have g2 : ∀ a b : Nat, Rg1 a b (σ2.1 a b) := by
      intro a b
      by_cases ha : a = 12
      · subst ha; exact fun h => absurd h (by decide)
      · rw [k2 a ha]; exact g1 a b
    refine sX8_dropIfTouched hN (K1.self g2) (fun τ hτ _ => ?_)
    refine hQ _ _ hτ.1 ?_ ?_
    · rw [hτ.2.2, k2 0 (by decide)]; exact q1
    · rw [hτ.2.1, k2 1 (by decide)]; exact q2
