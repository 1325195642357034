section SIM27
variable {X : St → St → Prop} {a b : St} {N : Nat} {x1 x2 : Int32}
theorem p_byteAt (h : Rbt X a b) : fX11_byteAt N x1 (fun r1 τ1 => fX12_byteAt N x1 (fun r2 τ2 => r1 = r2 ∧ Rbt X τ1 τ2) b) a := by
  have z0 : (0 : Int32).toInt = 0 := by decide
  have zm : (4096 : Int32).toInt = 4096 := by decide
  have z0L : (0 : Int64).toInt = 0 := by decide
  have zmL : (4095 : Int64).toInt = 4095 := by decide
  have e64 : x1.toInt64.toInt = x1.toInt := i2lE rfl
  have no : (x1.toInt < 0 ∨ 4096 ≤ x1.toInt) → fX12_byteAt N x1 (fun r2 τ2 => -1 = r2 ∧ Rbt X a τ2) b := by
    intro w
    unfold fX12_byteAt fX12_in
    refine ⟨fun _ => ⟨fun _ => ⟨rfl, h⟩, fun q => absurd rfl q⟩, fun w1 => ⟨fun _ => ⟨fun _ => ⟨rfl, h⟩, fun q => absurd rfl q⟩, fun w2 => ?_⟩⟩
    have := (notltE64 e64 z0L).mp w1
    have := (notltE64 zmL e64).mp w2
    omega
  unfold fX11_byteAt fX3_has fX3_byteOf
  refine ⟨fun c => ⟨fun _ => no (Or.inl ?_), fun q => absurd rfl q⟩, fun c => ⟨fun c2 => ⟨fun _ => no (Or.inr ?_), fun q => absurd rfl q⟩, fun c2 => ⟨fun q => absurd q (by decide), fun _ => ⟨fun q => absurd q c, fun _ => ⟨fun q => absurd q c2, fun _ => ?_⟩⟩⟩⟩⟩
  · have := (ltE (rfl : x1.toInt = x1.toInt) z0).mp c
    omega
  · exact (leE zm (rfl : x1.toInt = x1.toInt)).mp c2
  · have c' := (notltE (rfl : x1.toInt = x1.toInt) z0).mp c
    have c2' := (notleE zm (rfl : x1.toInt = x1.toInt)).mp c2
    have cc := clE (rfl : x1.toInt = x1.toInt) (by omega)
    have hin : vp_in x1 4096 := inE (rfl : x1.toInt = x1.toInt) (by omega) (by omega)
    refine ⟨hin, ?_⟩
    unfold fX12_byteAt fX12_in
    refine ⟨fun w => ?_, fun _ => ⟨fun w => ?_, fun _ => ⟨fun q => absurd q (by decide), fun _ => ⟨hin, h.2.1 _ (by omega), h⟩⟩⟩⟩
    · have := (ltE64 e64 z0L).mp w
      omega
    · have := (ltE64 zmL e64).mp w
      omega
theorem p_system (hX : XA X) (h : Rbt X a b) : fX11_system N x1 x2 (fun r1 τ1 => fX12_system N x1 x2 (fun r2 τ2 => r1 = r2 ∧ Rbt X τ1 τ2) b) a := by
  have z0 : (0 : Int32).toInt = 0 := by decide
  have z2 : (2 : Int32).toInt = 2 := by decide
  have z0L : (0 : Int64).toInt = 0 := by decide
  have z2L : (2 : Int64).toInt = 2 := by decide
  have e64 : x1.toInt64.toInt = x1.toInt := i2lE rfl
  have e7 : a.1 3 7 = b.1 0 14 := h.1.at 3 7 0 14 (by decide)
  have no : (x1.toInt < 0 ∨ 2 < x1.toInt) → fX12_system N x1 x2 (fun r2 τ2 => -2 = r2 ∧ Rbt X a τ2) b := by
    intro w
    unfold fX12_system fX12_in
    refine ⟨fun _ => ⟨fun _ => ⟨rfl, h⟩, fun q => absurd rfl q⟩, fun w1 => ⟨fun _ => ⟨fun _ => ⟨rfl, h⟩, fun q => absurd rfl q⟩, fun w2 => ?_⟩⟩
    have := (notltE64 e64 z0L).mp w1
    have := (notltE64 z2L e64).mp w2
    omega
  unfold fX11_system fX2_setSystem fX2_setSystem_j13 fX2_isSystem
  refine ⟨fun c => ⟨fun _ => no (Or.inl ?_), fun q => absurd rfl q⟩, fun c => ⟨fun c2 => ⟨fun _ => no (Or.inr ?_), fun q => absurd rfl q⟩, fun c2 => ⟨fun q => absurd q (by decide), fun _ => ?_⟩⟩⟩
  · have := (ltE (rfl : x1.toInt = x1.toInt) z0).mp c
    omega
  · exact (ltE z2 (rfl : x1.toInt = x1.toInt)).mp c2
  · have c' := (notltE (rfl : x1.toInt = x1.toInt) z0).mp c
    have c2' := (notltE z2 (rfl : x1.toInt = x1.toInt)).mp c2
    rw [e7]
    have ref : ∀ Q2 : Int32 → St → Prop, (((b.1 0 14) ≤ 0 → ∀ σ_5 : St, σ_5 = u1 b 0 12 x1 → ∀ σ_6 : St, σ_6 = u1 σ_5 0 13 x2 → Q2 0 σ_6) ∧ (¬ (b.1 0 14) ≤ 0 → Q2 (-3) b)) → fX12_system N x1 x2 Q2 b := by
      intro Q2 z
      unfold fX12_system fX12_in
      refine ⟨fun w => ?_, fun _ => ⟨fun w => ?_, fun _ => ⟨fun q => absurd q (by decide), fun _ => z⟩⟩⟩
      · have := (ltE64 e64 z0L).mp w
        omega
      · have := (ltE64 z2L e64).mp w
        omega
    refine ⟨fun q => ⟨fun w => absurd w c, fun _ => ⟨fun w => absurd w c2, fun _ => ⟨fun w => absurd w (by decide), fun _ s4 e4 s5 e5 => ref _ ⟨fun _ t5 g5 t6 g6 => ⟨rfl, ?_⟩, fun w => absurd q w⟩⟩⟩⟩, fun q => ref _ ⟨fun w => absurd w q, fun _ => ⟨rfl, h⟩⟩⟩
    rw [e5, e4, g6, g5]
    exact (h.ab hX (k := 3) (j := 9) (j' := 12) (by decide) (by omega) (by omega) (by simp [Rg2])).ab hX (k := 3) (j := 10) (j' := 13) (by decide) (by omega) (by omega) (by simp [Rg2])
end SIM27
