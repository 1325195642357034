section SIM28
variable {X : St → St → Prop} {a b : St} {N : Nat} {x1 x2 : Int32}
theorem p_job (h : Rbt X a b) : fX11_job N x1 x2 (fun r1 τ1 => fX12_job N x1 x2 (fun r2 τ2 => r1 = r2 ∧ Rbt X τ1 τ2) b) a := by
  have z0 : (0 : Int32).toInt = 0 := by decide
  have z1 : (1 : Int32).toInt = 1 := by decide
  have z8 : (8 : Int32).toInt = 8 := by decide
  have z10 : (10 : Int32).toInt = 10 := by decide
  have z0L : (0 : Int64).toInt = 0 := by decide
  have z9L : (9 : Int64).toInt = 9 := by decide
  have z10L : (10 : Int64).toInt = 10 := by decide
  have bx := tB x2
  have e7 : a.1 3 7 = b.1 0 14 := h.1.at 3 7 0 14 (by decide)
  have d := K2.g_0_14 (K2.self h.2.2.2.2.1)
  have e64 : x1.toInt64.toInt = x1.toInt := i2lE rfl
  have e64b : x2.toInt64.toInt = x2.toInt := i2lE rfl
  have f1 : ((b.1 0 14 - 1).toInt64).toInt = (b.1 0 14).toInt - 1 := i2lE (sOkE rfl z1 (by omega) (by omega))
  have no : (x1.toInt < 0 ∨ (b.1 0 14).toInt ≤ x1.toInt) → fX12_job N x1 x2 (fun r2 τ2 => 0 = r2 ∧ Rbt X a τ2) b := by
    intro w
    unfold fX12_job fX12_in
    refine ⟨fun _ => ⟨fun _ => ⟨rfl, h⟩, fun q => absurd rfl q⟩, fun w1 => ⟨fun _ => ⟨fun _ => ⟨rfl, h⟩, fun q => absurd rfl q⟩, fun w2 => ?_⟩⟩
    have := (notltE64 e64 z0L).mp w1
    have := (notltE64 f1 e64).mp w2
    omega
  unfold fX11_job
  rw [e7]
  refine ⟨fun c => no (Or.inl ?_), fun c => ⟨fun c2 => ?_, fun c2 => no (Or.inr ?_)⟩⟩
  · have := (ltE (rfl : x1.toInt = x1.toInt) z0).mp c
    omega
  · have c' := (notltE (rfl : x1.toInt = x1.toInt) z0).mp c
    have c2' := (ltE (rfl : x1.toInt = x1.toInt) (rfl : (b.1 0 14).toInt = (b.1 0 14).toInt)).mp c2
    have cc := clE (rfl : x1.toInt = x1.toInt) (by omega)
    obtain ⟨j, ej⟩ : ∃ j : Nat, x1.toNatClampNeg = j := ⟨_, rfl⟩
    have hx : x1.toInt = (j : Int) := by omega
    have hin : vp_in x1 40 := inE hx (by omega) (by omega)
    have J := h.2.2.2.2.2.2 j (by omega)
    have JF : ∀ f : Nat, 1 ≤ f → f ≤ 7 → a.1 (43 + j) f = b.1 (jr f) j := J.1
    have r9 := g2_9 h.2.2.2.2.1 j
    have J4 : a.1 (43 + j) 4 = b.1 9 j := JF 4 (by omega) (by omega)
    rw [ej]
    refine ⟨hin, ?_⟩
    have ref : ∀ Q2 : Int32 → St → Prop, ((x2 = 0 → Q2 (b.1 6 j) b) ∧ (¬ x2 = 0 → ((x2 = 1 → Q2 (b.1 7 j) b) ∧ (¬ x2 = 1 → ((x2 = 2 → Q2 (b.1 8 j) b) ∧ (¬ x2 = 2 → ((x2 = 3 → Q2 (b.1 9 j) b) ∧ (¬ x2 = 3 → ((x2 = 4 → (((b.1 6 j) = 3 → (((b.1 11 j) = 0 → Q2 (b.1 12 j) b) ∧ (¬ (b.1 11 j) = 0 → Q2 (-1) b))) ∧ (¬ (b.1 6 j) = 3 → Q2 0 b))) ∧ (¬ x2 = 4 → fX12_in N x2.toInt64 10 (9 + ((b.1 9 j).toInt64)) (fun r_11 σ_10 => ((r_11 = 0 → Q2 0 σ_10) ∧ (¬ r_11 = 0 → vp_in (((8 * x1) + x2) - 10) 320 ∧ Q2 (σ_10.1 10 (((8 * x1) + x2) - 10).toNatClampNeg) σ_10))) b)))))))))) → fX12_job N x1 x2 Q2 b := by
      intro Q2 z
      unfold fX12_job
      rw [ej]
      show fX12_in N _ _ _ _ b
      unfold fX12_in
      refine ⟨fun w => ?_, fun _ => ⟨fun w => ?_, fun _ => ⟨fun q => absurd q (by decide), fun _ => ⟨fun q => ⟨hin, z.1 q⟩, fun q0 => ⟨fun q => ⟨hin, (z.2 q0).1 q⟩, fun q1 => ⟨fun q => ⟨hin, ((z.2 q0).2 q1).1 q⟩, fun q2 => ⟨fun q => ⟨hin, (((z.2 q0).2 q1).2 q2).1 q⟩, fun q3 => ⟨fun q => ⟨hin, fun k => ⟨hin, fun m => ⟨hin, (((((z.2 q0).2 q1).2 q2).2 q3).1 q).1 k |>.1 m⟩, fun m => (((((z.2 q0).2 q1).2 q2).2 q3).1 q).1 k |>.2 m⟩, fun k => (((((z.2 q0).2 q1).2 q2).2 q3).1 q).2 k⟩, fun q => ⟨hin, ((((z.2 q0).2 q1).2 q2).2 q3).2 q⟩⟩⟩⟩⟩⟩⟩⟩⟩
      · have := (ltE64 e64 z0L).mp w
        omega
      · have := (ltE64 f1 e64).mp w
        omega
    unfold fX1_tell fX1_tellNode
    rw [JF 1 (by omega) (by omega), JF 2 (by omega) (by omega), JF 3 (by omega) (by omega), J4, JF 5 (by omega) (by omega), JF 6 (by omega) (by omega)]
    refine ⟨fun q => ref _ ⟨fun _ => ⟨rfl, h⟩, fun w => absurd q w⟩, fun q0 => ⟨fun q => ref _ ⟨fun w => absurd w q0, fun _ => ⟨fun _ => ⟨rfl, h⟩, fun w => absurd q w⟩⟩, fun q1 => ⟨fun q => ref _ ⟨fun w => absurd w q0, fun _ => ⟨fun w => absurd w q1, fun _ => ⟨fun _ => ⟨rfl, h⟩, fun w => absurd q w⟩⟩⟩, fun q2 => ⟨fun q => ref _ ⟨fun w => absurd w q0, fun _ => ⟨fun w => absurd w q1, fun _ => ⟨fun w => absurd w q2, fun _ => ⟨fun _ => ⟨rfl, h⟩, fun w => absurd q w⟩⟩⟩⟩, fun q3 => ⟨fun q => ?_, fun q4 => ?_⟩⟩⟩⟩⟩
    · have go : ∀ r : Int32, (((b.1 6 j) = 3 → (((b.1 11 j) = 0 → r = b.1 12 j) ∧ (¬ (b.1 11 j) = 0 → r = -1))) ∧ (¬ (b.1 6 j) = 3 → r = 0)) → fX12_job N x1 x2 (fun r2 τ2 => r = r2 ∧ Rbt X a τ2) b := fun r g => ref _ ⟨fun w => absurd w q0, fun _ => ⟨fun w => absurd w q1, fun _ => ⟨fun w => absurd w q2, fun _ => ⟨fun w => absurd w q3, fun _ => ⟨fun _ => ⟨fun k => ⟨fun m => ⟨(g.1 k).1 m, h⟩, fun m => ⟨(g.1 k).2 m, h⟩⟩, fun k => ⟨g.2 k, h⟩⟩, fun w => absurd q w⟩⟩⟩⟩⟩
      exact ⟨fun k => ⟨fun m => go _ ⟨fun _ => ⟨fun _ => rfl, fun w => absurd m w⟩, fun w => absurd k w⟩, fun m => go _ ⟨fun _ => ⟨fun w => absurd w m, fun _ => rfl⟩, fun w => absurd k w⟩⟩, fun k => go _ ⟨fun w => absurd w k, fun _ => rfl⟩⟩
    · have l9 : (9 + (b.1 9 j).toInt64).toInt = 9 + (b.1 9 j).toInt := aOkE64 z9L (i2lE rfl) (by omega) (by omega)
      have no2 : (x2.toInt < 10 ∨ 9 + (b.1 9 j).toInt < x2.toInt) → fX12_job N x1 x2 (fun r2 τ2 => 0 = r2 ∧ Rbt X a τ2) b := by
        intro w
        refine ref _ ⟨fun w => absurd w q0, fun _ => ⟨fun w => absurd w q1, fun _ => ⟨fun w => absurd w q2, fun _ => ⟨fun w => absurd w q3, fun _ => ⟨fun w => absurd w q4, fun _ => ?_⟩⟩⟩⟩⟩
        unfold fX12_in
        refine ⟨fun _ => ⟨fun _ => ⟨rfl, h⟩, fun q => absurd rfl q⟩, fun w1 => ⟨fun _ => ⟨fun _ => ⟨rfl, h⟩, fun q => absurd rfl q⟩, fun w2 => ?_⟩⟩
        have := (notltE64 e64b z10L).mp w1
        have := (notltE64 l9 e64b).mp w2
        omega
      refine ⟨fun k => no2 (Or.inl ?_), fun k => ?_⟩
      · have := (ltE (rfl : x2.toInt = x2.toInt) z10).mp k
        omega
      · have k' := (notltE (rfl : x2.toInt = x2.toInt) z10).mp k
        have g1 : (x2 - 10).toInt = x2.toInt - 10 := sOkE rfl z10 (by omega) (by omega)
        have gc := clE g1 (by omega)
        refine c_hasLocal (by omega) (by rw [J4]; omega) (fun m => ?_) (fun m => ⟨fun _ => no2 (Or.inr (by rw [J4] at m; omega)), fun w => absurd rfl w⟩)
        rw [J4] at m
        refine ⟨fun w => absurd w (by decide), fun _ => ⟨inE g1 (by omega) (by omega), ?_⟩⟩
        have JL := J.2.1 (x2 - 10).toNatClampNeg (by omega)
        have m1 : (8 * x1).toInt = 8 * (j : Int) := mOkE z8 hx (by omega) (by omega)
        have m2 : (8 * x1 + x2).toInt = 8 * (j : Int) + x2.toInt := aOkE m1 rfl (by omega) (by omega)
        have m3 : (8 * x1 + x2 - 10).toInt = 8 * (j : Int) + x2.toInt - 10 := sOkE m2 z10 (by omega) (by omega)
        have mc := clE m3 (by omega)
        refine ref _ ⟨fun w => absurd w q0, fun _ => ⟨fun w => absurd w q1, fun _ => ⟨fun w => absurd w q2, fun _ => ⟨fun w => absurd w q3, fun _ => ⟨fun w => absurd w q4, fun _ => ?_⟩⟩⟩⟩⟩
        unfold fX12_in
        refine ⟨fun w => ?_, fun _ => ⟨fun w => ?_, fun _ => ⟨fun w => absurd w (by decide), fun _ => ⟨inE m3 (by omega) (by omega), ?_, h⟩⟩⟩⟩
        · have := (ltE64 e64b z10L).mp w
          omega
        · have := (ltE64 l9 e64b).mp w
          omega
        · rw [show 43 + j + 40 = 83 + j by omega, JL, show (8 * x1 + x2 - 10).toNatClampNeg = 8 * j + (x2 - 10).toNatClampNeg by omega]
  · have := (notltE (rfl : x1.toInt = x1.toInt) (rfl : (b.1 0 14).toInt = (b.1 0 14).toInt)).mp c2
    omega
end SIM28
