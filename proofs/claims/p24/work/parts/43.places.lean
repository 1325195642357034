theorem TK.ext {σ τ υ : St} {L n : Nat} (h : TK σ τ L n) (hf : ∀ a b : Nat, ((27 ≤ a ∧ a ≤ 33) ∨ a = 36 ∨ a = 37 ∨ (a = 0 ∧ (b = 50 ∨ b = 51))) → υ.1 a b = τ.1 a b) : TK σ υ L n := by
  have r27 : υ.1 27 = τ.1 27 := funext (fun b => hf 27 b (by omega))
  have r29 : υ.1 29 = τ.1 29 := funext (fun b => hf 29 b (by omega))
  have r30 : υ.1 30 = τ.1 30 := funext (fun b => hf 30 b (by omega))
  have r31 : υ.1 31 = τ.1 31 := funext (fun b => hf 31 b (by omega))
  have r32 : υ.1 32 = τ.1 32 := funext (fun b => hf 32 b (by omega))
  have r33 : υ.1 33 = τ.1 33 := funext (fun b => hf 33 b (by omega))
  have r36 : υ.1 36 = τ.1 36 := funext (fun b => hf 36 b (by omega))
  have r37 : υ.1 37 = τ.1 37 := funext (fun b => hf 37 b (by omega))
  have r50 : υ.1 0 50 = τ.1 0 50 := hf 0 50 (by omega)
  have r51 : υ.1 0 51 = τ.1 0 51 := hf 0 51 (by omega)
  unfold TK JK JA Lf at *
  rw [r27, r29, r30, r31, r32, r33, r36, r37, r50, r51]
  exact h
theorem TK.up {σ τ : St} {L n i : Nat} (h : TK σ τ L n) (hi : i + 1 < n) : ∃ k : Nat, L ≤ k ∧ k < n ∧ i < k ∧ (τ.1 32 i).toInt = k ∧ ((τ.1 30 k).toInt = i ∨ (τ.1 31 k).toInt = i) := by
  obtain ⟨k, h1, h2, h3, h4⟩ := h.2.2.1 i hi
  obtain ⟨a, b, q1, q2, q3, q4, q5, q6⟩ := h.2.1 k h1 h2
  exact ⟨k, h1, h2, by omega, h3, h4⟩
/-- what the placing may change -/
def FrW (σ τ : St) : Prop := ∀ a b : Nat, a ≠ 34 → a ≠ 35 → τ.1 a b = σ.1 a b
/-- the placing, done for the knots from m on -/
def PD (τ : St) (L n m : Nat) (base : Int) : Prop := (τ.1 34 (n - 1)).toInt = base ∧ (τ.1 35 (n - 1)).toInt = 0 ∧ (∀ k a b : Nat, m ≤ k → L ≤ k → k < n → (τ.1 30 k).toInt = a → (τ.1 31 k).toInt = b → (τ.1 34 a).toInt = (τ.1 34 k).toInt + 9 ∧ (τ.1 34 b).toInt = (τ.1 34 k).toInt + 9 + (τ.1 33 a).toInt ∧ (τ.1 35 a).toInt = (τ.1 35 k).toInt + 1 ∧ (τ.1 35 b).toInt = (τ.1 35 k).toInt + 1)
  ∧ (∀ i : Nat, i < n → (i + 1 = n ∨ (m : Int) ≤ (τ.1 32 i).toInt) → base ≤ (τ.1 34 i).toInt ∧ (τ.1 34 i).toInt + (τ.1 33 i).toInt ≤ base + (τ.1 33 (n - 1)).toInt ∧ 0 ≤ (τ.1 35 i).toInt ∧ (τ.1 35 i).toInt + i + 1 ≤ n)
theorem PD.ext {τ υ : St} {L n m : Nat} {base : Int} (h : PD τ L n m base) (hf : ∀ a b : Nat, (30 ≤ a ∧ a ≤ 35) → υ.1 a b = τ.1 a b) : PD υ L n m base := by
  have r30 : υ.1 30 = τ.1 30 := funext (fun b => hf 30 b (by omega))
  have r31 : υ.1 31 = τ.1 31 := funext (fun b => hf 31 b (by omega))
  have r32 : υ.1 32 = τ.1 32 := funext (fun b => hf 32 b (by omega))
  have r33 : υ.1 33 = τ.1 33 := funext (fun b => hf 33 b (by omega))
  have r34 : υ.1 34 = τ.1 34 := funext (fun b => hf 34 b (by omega))
  have r35 : υ.1 35 = τ.1 35 := funext (fun b => hf 35 b (by omega))
  unfold PD at *
  rw [r30, r31, r32, r33, r34, r35]
  exact h
theorem PD.bd {σ τ : St} {L n : Nat} {base : Int} (hT : TK σ τ L n) (h : PD τ L n L base) {i : Nat} (hi : i < n) : base ≤ (τ.1 34 i).toInt ∧ (τ.1 34 i).toInt + (τ.1 33 i).toInt ≤ base + (τ.1 33 (n - 1)).toInt ∧ 0 ≤ (τ.1 35 i).toInt ∧ (τ.1 35 i).toInt + i + 1 ≤ n := by
  refine h.2.2.2 i hi ?_
  by_cases e : i + 1 = n
  · exact Or.inl e
  · obtain ⟨k, h1, h2, h3, h4, h5⟩ := hT.up (i := i) (by omega)
    exact Or.inr (by omega)
theorem PD.dp {σ τ : St} {L n : Nat} {base : Int} (hT : TK σ τ L n) (h : PD τ L n L base) {i : Nat} (hi : i + 1 < n) : ∃ k : Nat, L ≤ k ∧ k < n ∧ i < k ∧ (τ.1 32 i).toInt = k ∧ (τ.1 35 i).toInt = (τ.1 35 k).toInt + 1 := by
  obtain ⟨k, h1, h2, h3, h4, h5⟩ := hT.up hi
  obtain ⟨a, b, q1, q2, q3, q4, q5, q6⟩ := hT.2.1 k h1 h2
  have g := h.2.2.1 k a b h1 h1 h2 q4 q5
  refine ⟨k, h1, h2, h3, h4, ?_⟩
  rcases h5 with h5 | h5
  · rw [show i = a by omega]; exact g.2.2.1
  · rw [show i = b by omega]; exact g.2.2.2
theorem PD.uq {σ τ υ : St} {L n : Nat} {b1 b2 : Int} (hT : TK σ τ L n) (hT2 : TK σ υ L n) (e32 : υ.1 32 = τ.1 32) (h : PD τ L n L b1) (h2 : PD υ L n L b2) : ∀ d i : Nat, i + d + 1 = n → (υ.1 35 i).toInt = (τ.1 35 i).toInt := by
  intro d
  induction d using Nat.strongRecOn with
  | ind d ih =>
    intro i hi
    by_cases e : d = 0
    · rw [show i = n - 1 by omega, h.2.1, h2.2.1]
    · obtain ⟨k, q1, q2, q3, q4, q5⟩ := PD.dp hT h (i := i) (by omega)
      obtain ⟨k', r1, r2, r3, r4, r5⟩ := PD.dp hT2 h2 (i := i) (by omega)
      rw [e32] at r4
      have ek : k' = k := by omega
      subst ek
      have := ih (n - 1 - k') (by omega) k' (by omega)
      omega
set_option maxHeartbeats 4000000 in
theorem tX12_places {N : Nat} (hN : 4294967400 ≤ N) {x1 : Int32} {Q : St → Prop} {σ0 σ τ0 : St} {L n : Nat} (hT : TK σ τ0 L n) (h1 : 0 ≤ x1.toInt) (h2 : x1.toInt ≤ 5000) (k0 : K2 σ0 τ0) (hQ : ∀ τ : St, K2 σ0 τ → FrW τ0 τ → PD τ L n L x1.toInt → Q τ) : fX12_places N x1 Q τ0 := by
  have z0 : (0 : Int32).toInt = 0 := by decide
  have o1 : (1 : Int32).toInt = 1 := by decide
  have o9 : (9 : Int32).toInt = 9 := by decide
  obtain ⟨⟨t1, t2, t3, t4, t5⟩, tk, ta, ts, tr, tl⟩ := hT
  have hT : TK σ τ0 L n := ⟨⟨t1, t2, t3, t4, t5⟩, tk, ta, ts, tr, tl⟩
  have ex : (τ0.1 0 50 - 1).toInt = (n : Int) - 1 := sOkE t2 o1 (by omega) (by omega)
  have ec : (τ0.1 0 50 - 1).toNatClampNeg = n - 1 := by have := clE ex (by omega); omega
  have hin1 : vp_in (τ0.1 0 50 - 1) 122 := inE ex (by omega) (by omega)
  unfold fX12_places
  refine ⟨hin1, fun σ2 e2 => ?_⟩
  have q2 : σ2.1 0 50 = τ0.1 0 50 := kq e2 (fun w => absurd w.1 (by decide))
  rw [q2]
  refine ⟨hin1, fun σ4 e4 v5 ev5 => ?_⟩
  have q4 : σ4.1 0 50 = τ0.1 0 50 := (kq e4 (fun w => absurd w.1 (by decide))).trans q2
  rw [ec] at e2 e4
  have f5 : v5.toInt = (n : Int) - 1 := by rw [ev5, q4]; exact ex
  have k2 : K2 σ0 σ2 := by rw [e2]; exact k0.ua (Rg2.q_34 _ _) (by decide)
  have k4 : K2 σ0 σ4 := by rw [e4]; exact k2.ua (Rg2.q_35 _ _) (by decide)
  have w4 : FrW τ0 σ4 := fun a b p q => (kq e4 (fun w => q w.1)).trans (kq e2 (fun w => p w.1))
  have s34 : (σ4.1 34 (n - 1)).toInt = x1.toInt := by rw [rwn e4 (by decide), rw1 e2, up1]
  have s35 : (σ4.1 35 (n - 1)).toInt = 0 := by rw [rw1 e4, up1]; exact z0
  have p4 : PD σ4 L n n x1.toInt := by
    refine ⟨s34, s35, fun k a b p _ q => absurd q (by omega), fun i hi hh => ?_⟩
    have ei : i = n - 1 := by
      rcases hh with hh | hh
      · omega
      · rw [w4 32 i (by decide) (by decide)] at hh
        by_cases e : i + 1 = n
        · omega
        · obtain ⟨k, g1, g2, g3, g4, g5⟩ := hT.up (i := i) (by omega)
          omega
    subst ei
    rw [s34, s35]
    omega
  refine lo1_i (fun (y : Int32) (τ : St) => K2 σ0 τ ∧ FrW τ0 τ ∧ (L : Int) - 1 ≤ y.toInt ∧ y.toInt + 1 ≤ n ∧ PD τ L n (y.toInt + 1).toNat x1.toInt) (fun y _ => (y.toInt + 1).toNat) ?_ N v5 σ4 ⟨k4, w4, by omega, by omega, by rw [show (v5.toInt + 1).toNat = n by omega]; exact p4⟩ (by (try dsimp only); omega)
  intro rr y τ hI ih
  obtain ⟨hτ, fτ, i1, i2, hP⟩ := hI
  have f51 : (τ.1 0 51).toInt = L := by rw [fτ 0 51 (by decide) (by decide)]; exact t1
  unfold fX12_places_l31
  refine ⟨fun c => ?_, fun c => ?_⟩
  · have f := (ltE (rfl : y.toInt = y.toInt) f51).mp c
    rw [show (y.toInt + 1).toNat = L by omega] at hP
    exact hQ τ hτ fτ hP
  · have f := (notltE (rfl : y.toInt = y.toInt) f51).mp c
    have ey := clE (rfl : y.toInt = y.toInt) (by omega)
    obtain ⟨k, hk⟩ : ∃ k : Nat, y.toNatClampNeg = k := ⟨_, rfl⟩
    rw [hk] at ey
    rw [show (y.toInt + 1).toNat = k + 1 by omega] at hP
    obtain ⟨p1, p2, p3, p5⟩ := hP
    obtain ⟨a, b, qa, qb, qab, q30, q31, q33, q32a, q32b, -, -⟩ := tk k (by omega) (by omega)
    have r30 : τ.1 30 = τ0.1 30 := funext (fun j => fτ 30 j (by decide) (by decide))
    have r31 : τ.1 31 = τ0.1 31 := funext (fun j => fτ 31 j (by decide) (by decide))
    have r32 : τ.1 32 = τ0.1 32 := funext (fun j => fτ 32 j (by decide) (by decide))
    have r33 : τ.1 33 = τ0.1 33 := funext (fun j => fτ 33 j (by decide) (by decide))
    have hin : vp_in y 122 := inE (rfl : y.toInt = y.toInt) (by omega) (by omega)
    have hina : vp_in (τ0.1 30 k) 122 := inE q30 (by omega) (by omega)
    have hinb : vp_in (τ0.1 31 k) 122 := inE q31 (by omega) (by omega)
    have ca : (τ0.1 30 k).toNatClampNeg = a := by have := clE q30 (by omega); omega
    have cb : (τ0.1 31 k).toNatClampNeg = b := by have := clE q31 (by omega); omega
    have bk := p5 k (by omega) (by
      by_cases e : k + 1 = n
      · exact Or.inl e
      · obtain ⟨k', g1, g2, g3, g4, g5⟩ := hT.up (i := k) (by omega)
        rw [r32]
        exact Or.inr (by omega))
    rw [r33] at bk
    have sa := ts a (by omega)
    have sb := ts b (by omega)
    rw [hk, r30, ca]
    refine ⟨hin, hin, fun v9 ev9 => ⟨hina, fun σ11 e11 => ?_⟩⟩
    have g30 : σ11.1 30 = τ0.1 30 := (rwn e11 (by decide)).trans r30
    have g31 : σ11.1 31 = τ0.1 31 := (rwn e11 (by decide)).trans r31
    have g33 : σ11.1 33 = τ0.1 33 := (rwn e11 (by decide)).trans r33
    have g34 : σ11.1 34 k = τ.1 34 k := by rw [rw1 e11, up2 (by omega)]
    rw [g30, g31, g33, ca, cb, g34]
    refine ⟨hin, hin, hin, hina, fun v16 ev16 => ⟨hinb, fun σ18 e18 => ?_⟩⟩
    have h30 : σ18.1 30 = τ0.1 30 := (rwn e18 (by decide)).trans g30
    have h35 : σ18.1 35 = τ.1 35 := (rwn e18 (by decide)).trans (rwn e11 (by decide))
    rw [h30, ca, h35]
    refine ⟨hin, hin, fun v21 ev21 => ⟨hina, fun σ23 e23 => ?_⟩⟩
    have j31 : σ23.1 31 = τ0.1 31 := (rwn e23 (by decide)).trans ((rwn e18 (by decide)).trans g31)
    have j35 : σ23.1 35 k = τ.1 35 k := by rw [rw1 e23, up2 (by omega), h35]
    rw [j31, cb, j35]
    refine ⟨hin, hin, fun v26 ev26 => ⟨hinb, fun σ28 e28 v29 ev29 => ?_⟩⟩
    have f9 : v9.toInt = (τ.1 34 k).toInt + 9 := (congrArg Int32.toInt ev9).trans (aOkE rfl o9 (by omega) (by omega))
    have f16 : v16.toInt = (τ.1 34 k).toInt + 9 + (τ0.1 33 a).toInt := (congrArg Int32.toInt ev16).trans (aOkE (aOkE rfl o9 (by omega) (by omega)) rfl (by omega) (by omega))
    have f21 : v21.toInt = (τ.1 35 k).toInt + 1 := (congrArg Int32.toInt ev21).trans (aOkE rfl o1 (by omega) (by omega))
    have f26 : v26.toInt = (τ.1 35 k).toInt + 1 := (congrArg Int32.toInt ev26).trans (aOkE rfl o1 (by omega) (by omega))
    have f29 : v29.toInt = y.toInt - 1 := by rw [ev29]; exact dec1 (by omega)
    have R34 : σ28.1 34 = upd (upd (τ.1 34) a v9) b v16 := by rw [rwn e28 (by decide), rwn e23 (by decide), rw1 e18, rw1 e11]
    have R35 : σ28.1 35 = upd (upd (τ.1 35) a v21) b v26 := by rw [rw1 e28, rw1 e23, h35]
    have a34 : σ28.1 34 a = v9 := by rw [R34, up2 qab, up1]
    have b34 : σ28.1 34 b = v16 := by rw [R34, up1]
    have a35 : σ28.1 35 a = v21 := by rw [R35, up2 qab, up1]
    have b35 : σ28.1 35 b = v26 := by rw [R35, up1]
    have o34 : ∀ i : Nat, i ≠ a → i ≠ b → σ28.1 34 i = τ.1 34 i := fun i x z => by rw [R34, up2 z, up2 x]
    have o35 : ∀ i : Nat, i ≠ a → i ≠ b → σ28.1 35 i = τ.1 35 i := fun i x z => by rw [R35, up2 z, up2 x]
    have w28 : FrW τ0 σ28 := fun x z p q => (kq e28 (fun w => q w.1)).trans ((kq e23 (fun w => q w.1)).trans ((kq e18 (fun w => p w.1)).trans ((kq e11 (fun w => p w.1)).trans (fτ x z p q))))
    have k11 : K2 σ0 σ11 := by rw [e11]; exact hτ.ua (Rg2.q_34 _ _) (by decide)
    have k18 : K2 σ0 σ18 := by rw [e18]; exact k11.ua (Rg2.q_34 _ _) (by decide)
    have k23 : K2 σ0 σ23 := by rw [e23]; exact k18.ua (Rg2.q_35 _ _) (by decide)
    have k28 : K2 σ0 σ28 := by rw [e28]; exact k23.ua (Rg2.q_35 _ _) (by decide)
    have m30 : σ28.1 30 = τ0.1 30 := funext (fun j => w28 30 j (by decide) (by decide))
    have m31 : σ28.1 31 = τ0.1 31 := funext (fun j => w28 31 j (by decide) (by decide))
    have m32 : σ28.1 32 = τ0.1 32 := funext (fun j => w28 32 j (by decide) (by decide))
    have m33 : σ28.1 33 = τ0.1 33 := funext (fun j => w28 33 j (by decide) (by decide))
    rw [r30, r31, r33] at p3
    rw [r32, r33] at p5
    refine ih v29 σ28 ⟨k28, w28, by omega, by omega, ?_⟩ (by (try dsimp only); omega)
    rw [show (v29.toInt + 1).toNat = k by omega]
    unfold PD
    rw [m30, m31, m32, m33]
    refine ⟨?_, ?_, fun k' a' b' c1 c2 c3 c4 c5 => ?_, fun i hi hh => ?_⟩
    · rw [o34 (n - 1) (by omega) (by omega)]; exact p1
    · rw [o35 (n - 1) (by omega) (by omega)]; exact p2
    · by_cases e : k' = k
      · subst e
        have ea : a' = a := by omega
        have eb : b' = b := by omega
        subst ea
        subst eb
        rw [a34, b34, a35, b35, o34 k' (by omega) (by omega), o35 k' (by omega) (by omega)]
        omega
      · obtain ⟨a2, b2, u1, u2, u3, u4, u5, u6, u7, u8, -, -⟩ := tk k' (by omega) (by omega)
        have ea : a' = a2 := by omega
        have eb : b' = b2 := by omega
        subst ea
        subst eb
        have n1 : a' ≠ a := fun w => by rw [w] at u7; omega
        have n2 : a' ≠ b := fun w => by rw [w] at u7; omega
        have n3 : b' ≠ a := fun w => by rw [w] at u8; omega
        have n4 : b' ≠ b := fun w => by rw [w] at u8; omega
        rw [o34 a' n1 n2, o34 b' n3 n4, o35 a' n1 n2, o35 b' n3 n4, o34 k' (by omega) (by omega), o35 k' (by omega) (by omega)]
        exact p3 k' a' b' (by omega) c2 c3 c4 c5
    · by_cases ea : i = a
      · rw [ea, a34, a35]
        omega
      · by_cases eb : i = b
        · rw [eb, b34, b35]
          omega
        · rw [o34 i ea eb, o35 i ea eb]
          refine p5 i hi ?_
          by_cases e : i + 1 = n
          · exact Or.inl e
          · obtain ⟨k', g1, g2, g3, g4, g5⟩ := hT.up (i := i) (by omega)
            rcases hh with hh | hh
            · omega
            · refine Or.inr ?_
              have : k' ≠ k := by
                intro w
                subst w
                omega
              omega
