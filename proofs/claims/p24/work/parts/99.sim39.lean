section SIM39
variable {N : Nat} {a b : St} {x1 x2 : Int32}
/-- a piece more: the class -/
theorem c_addP (hN : 4294967400 ≤ N) {k n : Int32} {σ : St} {P : Nat} (n0 : 0 ≤ n.toInt) (n1 : n.toInt ≤ 20) (hT : (σ.1 6 5).toInt = P) (hT2 : P < 60) {Q : Int32 → St → Prop} (hQ : ∀ τ : St, (∀ c i : Nat, ¬ (c = 123 + P ∨ ((c = 18 ∨ c = 19 ∨ c = 21 ∨ c = 22) ∧ i = P) ∨ (c = 6 ∧ i = 5)) → τ.1 c i = σ.1 c i) → (¬ (k = 8 ∨ k = 9) → ∀ i : Nat, (i : Int) < n.toInt → τ.1 (123 + P) i = σ.1 11 i) → ((k = 8 ∨ k = 9) → 1 ≤ n.toInt → τ.1 19 P = σ.1 11 0 ∧ τ.1 (123 + P) 0 = (-1000) - (σ.1 6 5)) → τ.1 18 P = k → τ.1 21 P = n → τ.1 22 P = -1 → τ.1 6 5 = σ.1 6 5 + 1 → Q (σ.1 6 5) τ) : fX7_add N k 11 n Q σ := by
  have z0 : (0 : Int32).toInt = 0 := by decide
  have z20 : (20 : Int32).toInt = 20 := by decide
  have z60 : (60 : Int32).toInt = 60 := by decide
  have z120 : (120 : Int32).toInt = 120 := by decide
  unfold fX7_add
  refine ⟨fun _ v2 e2 => ?_, fun c => absurd ((ltE hT z60).mpr (by omega)) c⟩
  have f2 : v2.toInt = P := by rw [e2]; exact hT
  have c2 : v2.toNatClampNeg = P := by have := clE f2 (by omega); omega
  have hin : vp_in v2 60 := inE f2 (by omega) (by omega)
  have h0 : vp_in 0 20 := inE z0 (by omega) (by omega)
  rw [c2]
  refine ⟨hin, fun s4 e4 => ⟨hin, fun s6 e6 => ⟨hin, fun s8 e8 => ?_⟩⟩⟩
  refine lo1_i (fun (y : Int32) (τ : St) => 0 ≤ y.toInt ∧ y.toInt ≤ n.toInt ∧ (∀ c i : Nat, ¬ (c = 123 + P ∨ ((c = 18 ∨ c = 21 ∨ c = 22) ∧ i = P)) → τ.1 c i = σ.1 c i) ∧ (τ.1 18 P = k ∧ τ.1 21 P = n ∧ τ.1 22 P = -1) ∧ ∀ i : Nat, (i : Int) < y.toInt → τ.1 (123 + P) i = σ.1 11 i) (fun y _ => (n.toInt - y.toInt).toNat) ?_ N 0 s8 ⟨by omega, by omega, fun c i q => by rw [e8, u1e (by omega), e6, u1e (by omega), e4, u1e (by omega)], ⟨by rw [e8, u1e (by omega), e6, u1e (by omega), e4, u1v], by rw [e8, u1e (by omega), e6, u1v], by rw [e8, u1v]⟩, fun i hi => absurd hi (by omega)⟩ (by (try dsimp only); omega)
  intro rr y τ hI ih
  obtain ⟨i1, i2, i3, ⟨j1, j2, j3⟩, i4⟩ := hI
  have ey := clE (rfl : y.toInt = y.toInt) i1
  have j128 : ∀ υ : St, (∀ c i : Nat, ¬ (c = 123 + P ∨ ((c = 18 ∨ c = 19 ∨ c = 21 ∨ c = 22) ∧ i = P)) → υ.1 c i = σ.1 c i) → (¬ (k = 8 ∨ k = 9) → ∀ i : Nat, (i : Int) < n.toInt → υ.1 (123 + P) i = σ.1 11 i) → ((k = 8 ∨ k = 9) → 1 ≤ n.toInt → υ.1 19 P = σ.1 11 0 ∧ υ.1 (123 + P) 0 = (-1000) - (σ.1 6 5)) → υ.1 18 P = k → υ.1 21 P = n → υ.1 22 P = -1 → fX7_add_j128 N v2 Q υ := by
    intro υ q1 q2 q3 q4 q5 q6 v20 e20 s21 e21
    rw [e2]
    refine hQ s21 (fun c i q => ?_) (fun w i hi => ?_) (fun w hw => ?_) ?_ ?_ ?_ ?_
    · rw [e21, u1e (by omega)]; exact q1 c i (by omega)
    · rw [e21, u1e (by omega)]; exact q2 w i hi
    · rw [e21, u1e (by omega), u1e (by omega)]; exact q3 w hw
    · rw [e21, u1e (by omega)]; exact q4
    · rw [e21, u1e (by omega)]; exact q5
    · rw [e21, u1e (by omega)]; exact q6
    · rw [e21, u1v, e20, q1 _ _ (by omega)]
  have fin : n.toInt ≤ y.toInt → fX7_add_j85 N k v2 Q τ := by
    intro hle
    have j97 : (k = 8 ∨ k = 9) → fX7_add_j97 N v2 Q τ := by
      intro hk
      unfold fX7_add_j97
      rw [c2, show (0 : Int32).toNatClampNeg = 0 from rfl]
      refine ⟨hin, h0, fun v13 e13 => ⟨hin, fun s15 e15 => ⟨hin, fun v17 e17 => ⟨h0, fun s19 e19 => ?_⟩⟩⟩⟩
      refine j128 s19 (fun c i q => ?_) (fun w => absurd hk w) (fun _ hw => ⟨?_, ?_⟩) ?_ ?_ ?_
      · rw [e19, u1e (by omega), e15, u1e (by omega)]; exact i3 c i (by omega)
      · rw [e19, u1e (by omega), e15, u1v, e13]; exact i4 0 (by omega)
      · rw [e19, u1v, e17, e2]
      · rw [e19, u1e (by omega), e15, u1e (by omega)]; exact j1
      · rw [e19, u1e (by omega), e15, u1e (by omega)]; exact j2
      · rw [e19, u1e (by omega), e15, u1e (by omega)]; exact j3
    exact ⟨fun w => j97 (Or.inl w), fun w1 => ⟨fun w => j97 (Or.inr w), fun w2 => j128 τ (fun c i q => i3 c i (by omega)) (fun _ i hi => i4 i (by omega)) (fun w => by rcases w with w | w; exact absurd w w1; exact absurd w w2) j1 j2 j3⟩⟩
  unfold fX7_add_l45
  refine ⟨fun c => fin ((leE rfl rfl).mp c), fun c => ?_⟩
  have f := (notleE (rfl : n.toInt = n.toInt) (rfl : y.toInt = y.toInt)).mp c
  refine ⟨fun w => ?_, fun _ => ⟨fun w => ?_, fun _ => ⟨hin, inE rfl (by omega) (by omega), fun v14 e14 => ⟨inE rfl (by omega) (by omega), fun s16 e16 v17 e17 => ?_⟩⟩⟩⟩
  · have := (leE z20 (rfl : y.toInt = y.toInt)).mp w
    omega
  · have := (leE z120 (rfl : y.toInt = y.toInt)).mp w
    omega
  · rw [c2] at e16
    have fv : v17.toInt = y.toInt + 1 := (congrArg Int32.toInt e17).trans (aOkE rfl (show (1 : Int32).toInt = 1 from by decide) (by omega) (by omega))
    refine ih v17 s16 ⟨by omega, by omega, fun c i q => by rw [e16, u1e (by omega)]; exact i3 c i q, ⟨by rw [e16, u1e (by omega)]; exact j1, by rw [e16, u1e (by omega)]; exact j2, by rw [e16, u1e (by omega)]; exact j3⟩, fun i hi => ?_⟩ (by (try dsimp only); omega)
    rw [e16]
    by_cases e : i = y.toNatClampNeg
    · rw [e, u1v, e14, i3 _ _ (by omega)]
    · rw [u1e (by omega)]
      exact i4 i (by omega)
/-- a piece more: the reference -/
theorem e_addP (hN : 4294967400 ≤ N) {n : Int32} {σ : St} {P : Nat} (n0 : 0 ≤ n.toInt) (n1 : n.toInt ≤ 20) (hT : (σ.1 0 36).toInt = P) (hT2 : P < 60) {Q : Int32 → St → Prop} (hQ : ∀ τ : St, (∀ c i : Nat, ¬ ((c = 17 ∧ 20 * P ≤ i) ∨ (c = 0 ∧ i = 36)) → τ.1 c i = σ.1 c i) → (∀ i : Nat, (i : Int) < n.toInt → τ.1 17 (20 * P + i) = σ.1 3 i) → τ.1 0 36 = σ.1 0 36 + 1 → Q (σ.1 0 36) τ) : lo1 (fX12_piece_l193 N n Q) N 0 σ := by
  have z0 : (0 : Int32).toInt = 0 := by decide
  have z1 : (1 : Int32).toInt = 1 := by decide
  refine lo1_i (fun (y : Int32) (τ : St) => 0 ≤ y.toInt ∧ y.toInt ≤ n.toInt ∧ (∀ c i : Nat, ¬ (c = 17 ∧ 20 * P ≤ i) → τ.1 c i = σ.1 c i) ∧ ∀ i : Nat, (i : Int) < y.toInt → τ.1 17 (20 * P + i) = σ.1 3 i) (fun y _ => (n.toInt - y.toInt).toNat) ?_ N 0 σ ⟨by omega, by omega, fun _ _ _ => rfl, fun i hi => absurd hi (by omega)⟩ (by (try dsimp only); omega)
  intro rr y τ hI ih
  obtain ⟨i1, i2, i4, i5⟩ := hI
  have ey := clE (rfl : y.toInt = y.toInt) i1
  have eT : (τ.1 0 36).toInt = P := by rw [i4 _ _ (by omega)]; exact hT
  unfold fX12_piece_l193
  refine ⟨fun c v15 e15 s16 e16 => ?_, fun c => ?_⟩
  · have f := (leE (rfl : n.toInt = n.toInt) (rfl : y.toInt = y.toInt)).mp c
    have er : s16.1 0 36 - 1 = σ.1 0 36 := by
      rw [e16, u1v, e15, i4 _ _ (by omega)]
      exact Int32.toInt_inj.mp ((sOkE (aOkE hT z1 (by omega) (by omega)) z1 (by omega) (by omega)).trans (by omega))
    rw [er]
    refine hQ s16 (fun c i q => ?_) (fun i hi => ?_) ?_
    · rw [e16, u1e (by omega)]; exact i4 c i (by omega)
    · rw [e16, u1e (by omega)]; exact i5 i (by omega)
    · rw [e16, u1v, e15, i4 _ _ (by omega)]
  · have f := (notleE (rfl : n.toInt = n.toInt) (rfl : y.toInt = y.toInt)).mp c
    have em : (20 * τ.1 0 36).toInt = 20 * (P : Int) := mOkE (show (20 : Int32).toInt = 20 from by decide) eT (by omega) (by omega)
    have es : (20 * τ.1 0 36 + y).toInt = 20 * (P : Int) + y.toInt := aOkE em rfl (by omega) (by omega)
    have cs : (20 * τ.1 0 36 + y).toNatClampNeg = 20 * P + y.toNatClampNeg := by have := clE es (by omega); omega
    refine ⟨inE rfl (by omega) (by omega), fun v18 e18 => ⟨inE es (by omega) (by omega), fun s20 e20 v21 e21 => ?_⟩⟩
    rw [cs] at e20
    have fv : v21.toInt = y.toInt + 1 := (congrArg Int32.toInt e21).trans (aOkE rfl z1 (by omega) (by omega))
    refine ih v21 s20 ⟨by omega, by omega, fun c i q => by rw [e20, u1e (by omega)]; exact i4 c i q, fun i hi => ?_⟩ (by (try dsimp only); omega)
    rw [e20]
    by_cases e : i = y.toNatClampNeg
    · rw [e, u1v, e18, i4 _ _ (by omega)]
    · rw [u1e (by omega)]
      exact i5 i (by omega)
theorem p_piece (hN : 4294967400 ≤ N) (h : Rbt Xr a b) : fX11_piece N x1 (fun r1 τ1 => fX12_piece N x1 (fun r2 τ2 => r1 = r2 ∧ Rbt Xr τ1 τ2) b) a := by
  have z0 : (0 : Int32).toInt = 0 := by decide
  have z1 : (1 : Int32).toInt = 1 := by decide
  have z8 : (8 : Int32).toInt = 8 := by decide
  have z60 : (60 : Int32).toInt = 60 := by decide
  have hX := h.2.2.2.1
  have hG := h.2.2.2.2.1
  have hL := h.line
  have hXL := hL.2.2.2.1
  have gL := hL.2.2.2.2.1
  have e7 : a.1 0 7 = b.1 0 5 := hX.1.1
  have d := K2.g_0_5 (K2.self hG)
  have en := clE (rfl : (b.1 0 5).toInt = (b.1 0 5).toInt) d.1
  have e65 : (u1 a 0 7 0).1 6 5 = b.1 0 36 := by rw [u1e (by omega)]; exact h.1.at 6 5 0 36 (by decide)
  have d36 := K2.g_0_36 (K2.self hG)
  have c36 := clE (rfl : (b.1 0 36).toInt = (b.1 0 36).toInt) d36.1
  have u36 : (u1 b 0 5 0).1 0 36 = b.1 0 36 := u1e (by omega)
  have gp : GPc x1 (b.1 0 5).toNatClampNeg ((u1 a 0 7 0).1 11) ↔ GPc x1 (b.1 0 5).toNatClampNeg ((u1 b 0 5 0).1 3) := by
    have e : ∀ i : Nat, i < (b.1 0 5).toNatClampNeg → (u1 a 0 7 0).1 11 i = (u1 b 0 5 0).1 3 i := fun i hi => by rw [u1e (by omega), u1e (by omega)]; exact hX.1.2 i (by omega)
    unfold GPc
    refine ⟨fun w => ?_, fun w => ?_⟩
    · rcases w with w | w | w
      · exact Or.inl ⟨w.1, fun i hi => by rw [← e i hi]; exact w.2 i hi⟩
      · exact Or.inr (Or.inl ⟨w.1, fun i hi => by rw [← e i hi]; exact w.2 i hi⟩)
      · exact Or.inr (Or.inr w)
    · rcases w with w | w | w
      · exact Or.inl ⟨w.1, fun i hi => by rw [e i hi]; exact w.2 i hi⟩
      · exact Or.inr (Or.inl ⟨w.1, fun i hi => by rw [e i hi]; exact w.2 i hi⟩)
      · exact Or.inr (Or.inr w)
  unfold fX11_piece
  intro v1 ev1 s2 es2
  have ev : v1 = b.1 0 5 := ev1.trans e7
  rw [es2, ev]
  refine c_isPiece hN en.symm (by omega) (fun w => ⟨fun q => absurd q (by decide), fun _ => ?_⟩) (fun w => ⟨fun _ => e_isPiece hN en.symm (by omega) (fun z => absurd (gp.mpr z) w) (fun _ => ⟨rfl, hL⟩) rfl rfl, fun q => absurd rfl q⟩)
  have kn : ((x1 = 2 ∨ x1 = 4 ∨ x1 = 8 ∨ x1 = 9) ∧ (b.1 0 5).toInt = 1) ∨ ((x1 = 3 ∨ x1 = 5) ∧ 2 ≤ (b.1 0 5).toInt) := by
    rcases w with w | w | w
    · rcases w.1 with q | q
      · exact Or.inl ⟨Or.inl q.1, by omega⟩
      · exact Or.inr ⟨Or.inl q.1, by omega⟩
    · rcases w.1 with q | q
      · exact Or.inl ⟨Or.inr (Or.inl q.1), by omega⟩
      · exact Or.inr ⟨Or.inr q.1, by omega⟩
    · rcases w.1 with q | q
      · exact Or.inl ⟨Or.inr (Or.inr (Or.inl q)), by omega⟩
      · exact Or.inl ⟨Or.inr (Or.inr (Or.inr q)), by omega⟩
  have n20 : (b.1 0 5).toInt ≤ 20 := by
    rcases w with w | w | w
    · rcases w.1 with q | q <;> omega
    · rcases w.1 with q | q <;> omega
    · omega
  by_cases full : b.1 0 36 = 60
  · unfold fX7_add
    rw [e65]
    refine ⟨fun q => ?_, fun _ => e_isPiece hN en.symm (by omega) (fun _ => ⟨fun _ => ⟨rfl, hL⟩, fun q => absurd (u36.trans full) q⟩) (fun z => absurd (gp.mp w) z) rfl rfl⟩
    rw [full] at q
    exact absurd q (by decide)
  · have lt60 : (b.1 0 36).toInt < 60 := by
      rcases Int.lt_or_le (b.1 0 36).toInt 60 with q | q
      · exact q
      · exact absurd (Int32.toInt_inj.mp (by rw [z60]; omega)) full
    refine c_addP hN (P := (b.1 0 36).toNatClampNeg) d.1 n20 (by rw [e65]; omega) (by omega) (fun τ1 g1 g2 g3 g4 g5 g6 g7 => e_isPiece hN en.symm (by omega) (fun _ => ⟨fun q => absurd (u36.symm.trans q) full, fun _ => ?_⟩) (fun z => absurd (gp.mp w) z) rfl rfl)
    rw [u36]
    have i60 : vp_in (b.1 0 36) 60 := inE rfl (by omega) (by omega)
    refine ⟨i60, fun s9 e9 => ?_⟩
    have v9 : s9.1 0 36 = b.1 0 36 := by rw [e9, u1e (by omega), u36]
    rw [v9]
    refine ⟨i60, fun s11 e11 => ?_⟩
    have v11 : s11.1 0 36 = b.1 0 36 := by rw [e11, u1e (by omega), v9]
    rw [v11]
    refine ⟨i60, fun s13 e13 => ?_⟩
    have v13 : s13.1 0 36 = b.1 0 36 := by rw [e13, u1e (by omega), v11]
    refine e_addP hN (P := (b.1 0 36).toNatClampNeg) d.1 n20 (by rw [v13]; omega) (by omega) (fun τ2 q1 q2 q3 => ⟨by rw [e65, v13], ?_⟩)
    have fb : ∀ c i : Nat, ¬ ((c = 17 ∧ 20 * (b.1 0 36).toNatClampNeg ≤ i) ∨ ((c = 16 ∨ c = 18 ∨ c = 19) ∧ i = (b.1 0 36).toNatClampNeg) ∨ (c = 0 ∧ i = 36)) → τ2.1 c i = (u1 b 0 5 0).1 c i := fun c i q => by rw [q1 c i (by omega), e13, u1e (by omega), e11, u1e (by omega), e9, u1e (by omega)]
    have t16 : τ2.1 16 (b.1 0 36).toNatClampNeg = x1 := by rw [q1 _ _ (by omega), e13, u1e (by omega), e11, u1e (by omega), e9, u1v]
    have t18 : τ2.1 18 (b.1 0 36).toNatClampNeg = b.1 0 5 := by rw [q1 _ _ (by omega), e13, u1e (by omega), e11, u1v]
    have t19 : τ2.1 19 (b.1 0 36).toNatClampNeg = -1 := by rw [q1 _ _ (by omega), e13, u1v]
    have t36 : τ2.1 0 36 = b.1 0 36 + 1 := by rw [q3, v13]
    have i36 : (τ2.1 0 36).toInt = (b.1 0 36).toInt + 1 := by rw [t36]; exact aOkE rfl z1 (by omega) (by omega)
    have t17 : ∀ i : Nat, (i : Int) < (b.1 0 5).toInt → τ2.1 17 (20 * (b.1 0 36).toNatClampNeg + i) = b.1 3 i := fun i hi => by rw [q2 i hi, e13, u1e (by omega), e11, u1e (by omega), e9, u1e (by omega), u1e (by omega)]
    have G2' : G2 τ2 := by
      refine ⟨fun k j => ?_, fun p hp => ?_, gL.2.2.ext (fb _ _ (by omega)) (fb _ _ (by omega))⟩
      · by_cases c17 : k = 17
        · subst c17; trivial
        · by_cases c16 : k = 16
          · subst c16; trivial
          · by_cases c19 : k = 19
            · subst c19; trivial
            · by_cases c18 : k = 18 ∧ j = (b.1 0 36).toNatClampNeg
              · obtain ⟨rfl, rfl⟩ := c18
                rw [t18]
                exact ⟨d.1, n20⟩
              · by_cases c0 : k = 0 ∧ j = 36
                · obtain ⟨rfl, rfl⟩ := c0
                  exact Rg2.r_0_36 (by omega) (by omega)
                · rw [fb k j (by omega)]
                  exact gL.1 k j
      · by_cases e : p = (b.1 0 36).toNatClampNeg
        · rw [e, t16, t18]
          rcases kn with q | q
          · right; right
            refine ⟨?_, q.2⟩
            rcases q.1 with w | w | w | w <;> rw [w] <;> decide
          · rcases q.1 with w | w
            · rw [w]; exact Or.inl (by decide)
            · rw [w]; exact Or.inr (Or.inl (by decide))
        · rw [fb _ _ (by omega), fb _ _ (by omega)]
          exact gL.2.1 p (by rw [u36]; omega)
    have s7 : ∀ q ∈ SC, (q.1 = 6 → q = (6, 5, 0, 36)) ∧ (q.2.2.2 = 36 → q = (6, 5, 0, 36)) := by decide
    refine hL.mv (fun c i q => g1 c i (by omega)) (fun c i q => fb c i (by omega)) (fun q hm => ?_) (hL.2.1.fr (fun i => g1 _ _ (by omega)) (fun i => fb _ _ (by omega))) ⟨hXL.1.ext (fun c i q => g1 c i (by omega)) (fun c i q => fb c i (by omega)), hXL.2.1.ext (fun i => g1 _ _ (by omega)) (fun c i q => fb c i (by omega)), fun p h1 h2 => ?_, hXL.2.2.2.ext (fun c i q => g1 c i (by omega)) (fun c i q => fb c i (by omega))⟩ G2'
    · by_cases e : q = (6, 5, 0, 36)
      · rw [e]
        show τ1.1 6 5 = τ2.1 0 36
        rw [g7, t36, e65]
      · have n6 : q.1 ≠ 6 := fun z => e ((s7 q hm).1 z)
        have n36 : q.2.2.2 ≠ 36 := fun z => e ((s7 q hm).2 z)
        have := SC_lt q hm
        rw [g1 _ _ (by omega), fb _ _ (by omega)]
        exact hL.1 q hm
    · by_cases e : p = (b.1 0 36).toNatClampNeg
      · subst e
        refine ⟨by rw [g4, t16], by rw [g5, t18], by rw [g6, t19], fun m hm => ?_, fun hk => ?_, by rw [t16, t18]; exact kn⟩
        · rw [t18] at hm
          unfold dg
          rw [t16]
          by_cases k8 : x1 = 8 ∨ x1 = 9
          · have n1 : (b.1 0 5).toInt = 1 := by
              rcases kn with q | q
              · exact q.2
              · rcases k8 with w | w <;> rcases q.1 with z | z <;> exact absurd (w.symm.trans z) (by decide)
            have m0 : m = 0 := by omega
            rw [m0, (g3 k8 (by omega)).2, e65, nIcl d36.1, if_neg (by rcases k8 with w | w <;> rw [w] <;> decide)]
          · have lt8 : x1 < 8 := by
              rcases kn with q | q
              · rcases q.1 with w | w | w | w
                · rw [w]; decide
                · rw [w]; decide
                · exact absurd (Or.inl w) k8
                · exact absurd (Or.inr w) k8
              · rcases q.1 with w | w <;> rw [w] <;> decide
            rw [if_pos lt8, g2 k8 m hm, t17 m hm, u1e (by omega)]
            exact hX.1.2 m hm
        · rw [t16] at hk
          have k8 : x1 = 8 ∨ x1 = 9 := by
            rcases kn with q | q
            · rcases q.1 with w | w | w | w
              · rw [w] at hk; exact absurd hk (by decide)
              · rw [w] at hk; exact absurd hk (by decide)
              · exact Or.inl w
              · exact Or.inr w
            · rcases q.1 with w | w <;> rw [w] at hk <;> exact absurd hk (by decide)
          have n1 : (b.1 0 5).toInt = 1 := by
            rcases kn with q | q
            · exact q.2
            · rcases k8 with w | w <;> rcases q.1 with z | z <;> exact absurd (w.symm.trans z) (by decide)
          rw [(g3 k8 (by omega)).1, u1e (by omega), hX.1.2 0 (by omega)]
          exact (t17 0 (by omega)).symm
      · have hk : (p : Int) < ((u1 b 0 5 0).1 0 36).toInt := by rw [u36]; omega
        obtain ⟨t1, t2, t3, t4, t5, t6⟩ := hXL.2.2.1 p h1 hk
        rw [u36] at hk
        have l := K2.q_18 (K2.self gL) p
        refine ⟨by rw [g1 _ _ (by omega), fb _ _ (by omega)]; exact t1, by rw [g1 _ _ (by omega), fb _ _ (by omega)]; exact t2, by rw [g1 _ _ (by omega), fb _ _ (by omega)]; exact t3, fun m hm => ?_, fun hk => ?_, by rw [fb _ _ (by omega), fb _ _ (by omega)]; exact t6⟩
        · rw [fb _ _ (by omega)] at hm
          unfold dg
          rw [g1 _ _ (by omega), fb _ _ (by omega), fb _ _ (by omega)]
          exact t4 m hm
        · rw [fb _ _ (by omega)] at hk
          rw [g1 _ _ (by omega), fb _ _ (by omega)]
          exact t5 hk
end SIM39
