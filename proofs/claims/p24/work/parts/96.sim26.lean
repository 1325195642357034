section SIM26
variable {X : St → St → Prop} {a b : St} {N : Nat} {x1 x2 : Int32}
theorem Rbt.ab (hX : XA X) (h : Rbt X a b) {k j j' : Nat} {v : Int32} (hq : (k, j, 0, j') ∈ SC) (hk : (k = 3 ∧ 8 ≤ j ∧ j ≤ 10) ∨ k = 5) (hk' : (12 ≤ j' ∧ j' ≤ 13) ∨ (24 ≤ j' ∧ j' ≤ 32)) (hr : Rg2 0 j' v) : Rbt X (u1 a k j v) (u1 b 0 j' v) := by
  obtain ⟨h1, h2, h3, h4, h5, h6, h7⟩ := h
  refine ⟨h1.ab hq, h2.ext (u1_ne (by omega)) (u1_ne (by omega)), ?_, hX.x2 (by unfold Xb; omega) (hX.x1 (by unfold Xa; omega) h4), h5.uf hr (by omega), ?_, fun y hy => ?_⟩
  · rw [u1_ne (by omega), u1_ne (by omega)]; exact h3
  · rw [u1e (by omega)]; exact h6
  · rw [u1e (by omega)] at hy
    exact (h7 y hy).ext (fun f => u1e (by omega)) (fun i => u1e (by omega)) (fun q q1 q2 q3 => u1e (by omega)) (fun i _ => u1e (by omega)) (g2_9 h5 y).2
theorem p_jobs (h : Rbt X a b) : fX11_jobs N (fun r1 τ1 => fX12_jobs N (fun r2 τ2 => r1 = r2 ∧ Rbt X τ1 τ2) b) a := ⟨h.1.at 3 7 0 14 (by decide), h⟩
theorem p_clear (hX : XA X) (h : Rbt X a b) : fX11_clear N (fun r1 τ1 => fX12_clear N (fun r2 τ2 => r1 = r2 ∧ Rbt X τ1 τ2) b) a := by
  intro v1 e1 s2 e2 w1 f1 t2 f2
  have e8 : a.1 3 8 = b.1 0 24 := h.1.at 3 8 0 24 (by decide)
  refine ⟨by rw [e1, f1, e8], ?_⟩
  rw [e2, f2]
  exact h.ab hX (by decide) (by omega) (by omega) (Rg2.r_0_24 (by decide) (by decide))
theorem p_stop (hX : XA X) (h : Rbt X a b) : fX11_stop N (fun r1 τ1 => fX12_stop N (fun r2 τ2 => r1 = r2 ∧ Rbt X τ1 τ2) b) a := by
  intro v1 e1 s2 e2 w1 f1 t2 f2
  have e7 : a.1 3 7 = b.1 0 14 := h.1.at 3 7 0 14 (by decide)
  refine ⟨by rw [e1, f1, e7], ?_⟩
  rw [e2, f2]
  obtain ⟨h1, h2, h3, h4, h5, h6, h7⟩ := h
  refine ⟨h1.ab (by decide), h2.ext (u1_ne (by decide)) (u1_ne (by decide)), ?_, hX.x2 (by unfold Xb; omega) (hX.x1 (by unfold Xa; omega) h4), ((K2.self h5).u14 (Rg2.r_0_14 (by decide) (by decide)) (Or.inl (by decide))).1, ?_, fun y hy => ?_⟩
  · rw [u1_ne (by decide), u1_ne (by decide)]; exact h3
  · rw [u1e (by omega)]; exact h6
  · rw [u1v, show (0 : Int32).toInt = 0 from by decide] at hy
    omega
theorem p_at (h : Rbt X a b) : fX11_at N x1 (fun r1 τ1 => fX12_at N x1 (fun r2 τ2 => r1 = r2 ∧ Rbt X τ1 τ2) b) a := by
  have z0 : (0 : Int32).toInt = 0 := by decide
  have z1 : (1 : Int32).toInt = 1 := by decide
  have z0L : (0 : Int64).toInt = 0 := by decide
  have e8 : a.1 3 8 = b.1 0 24 := h.1.at 3 8 0 24 (by decide)
  have d := K2.g_0_24 (K2.self h.2.2.2.2.1)
  have e64 : x1.toInt64.toInt = x1.toInt := i2lE rfl
  have f1 : ((b.1 0 24 - 1).toInt64).toInt = (b.1 0 24).toInt - 1 := i2lE (sOkE rfl z1 (by omega) (by omega))
  have no : (x1.toInt < 0 ∨ (b.1 0 24).toInt ≤ x1.toInt) → fX12_at N x1 (fun r2 τ2 => -1 = r2 ∧ Rbt X a τ2) b := by
    intro w
    unfold fX12_at fX12_in
    refine ⟨fun _ => ⟨fun _ => ⟨rfl, h⟩, fun q => absurd rfl q⟩, fun w1 => ⟨fun _ => ⟨fun _ => ⟨rfl, h⟩, fun q => absurd rfl q⟩, fun w2 => ?_⟩⟩
    have := (notltE64 e64 z0L).mp w1
    have := (notltE64 f1 e64).mp w2
    omega
  unfold fX11_at
  rw [e8]
  refine ⟨fun c => no (Or.inl ?_), fun c => ⟨fun c2 => no (Or.inr ?_), fun c2 => ?_⟩⟩
  · have := (ltE (rfl : x1.toInt = x1.toInt) z0).mp c
    omega
  · exact (leE (rfl : (b.1 0 24).toInt = (b.1 0 24).toInt) (rfl : x1.toInt = x1.toInt)).mp c2
  · have c' := (notltE (rfl : x1.toInt = x1.toInt) z0).mp c
    have c2' := (notleE (rfl : (b.1 0 24).toInt = (b.1 0 24).toInt) (rfl : x1.toInt = x1.toInt)).mp c2
    have hin : vp_in x1 1000 := inE (rfl : x1.toInt = x1.toInt) (by omega) (by omega)
    refine ⟨hin, ?_⟩
    unfold fX12_at fX12_in
    refine ⟨fun w => ?_, fun _ => ⟨fun w => ?_, fun _ => ⟨fun q => absurd q (by decide), fun _ => ⟨hin, congrFun h.2.2.1 _, h⟩⟩⟩⟩
    · have := (ltE64 e64 z0L).mp w
      omega
    · have := (ltE64 f1 e64).mp w
      omega
end SIM26
