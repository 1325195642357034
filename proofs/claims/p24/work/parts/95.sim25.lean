section SIM25
variable {X : St → St → Prop} {a b : St} {N : Nat} {x1 x2 : Int32}
theorem Rbt.ru (hX : XA X) (h : Rbt X a b) : Ru X a (u1 b 0 9 0) := by
  obtain ⟨h1, h2, h3, h4, h5, h6, h7⟩ := h
  refine ⟨h1.b (by decide), h2.ext rfl (u1_ne (by decide)), ?_, hX.x2 (by unfold Xb; omega) h4, h5.uf (Rg2.r_0_9 (by decide) (by decide)) (by decide), ?_, fun _ j hj => ?_⟩
  · rw [u1_ne (by decide)]; exact h3
  · rw [u1v]; exact h6
  · rw [u1e (by omega)] at hj
    exact (h7 j hj).ext (fun _ => rfl) (fun _ => rfl) (fun k k1 k2 k3 => u1e (by omega)) (fun i _ => u1e (by omega)) (g2_9 h5 j).2
/-- the steps are looked at in step -/
theorem q_steps {x : Int32} {Q1 : Int32 → St → Prop} (hB : (∀ Q2 : Int32 → St → Prop, Q2 0 b → fX12_in N x.toInt64 0 100000 Q2 b) → Q1 0 a) (hG : 0 ≤ x.toInt → (∀ Q2 : Int32 → St → Prop, Q2 1 b → fX12_in N x.toInt64 0 100000 Q2 b) → Q1 1 a) : fX11_isStepCount N x Q1 a := by
  have z0 : (0 : Int32).toInt = 0 := by decide
  have zm : (100000 : Int32).toInt = 100000 := by decide
  have z0L : (0 : Int64).toInt = 0 := by decide
  have zmL : (100000 : Int64).toInt = 100000 := by decide
  have e64 : x.toInt64.toInt = x.toInt := i2lE rfl
  unfold fX11_isStepCount
  unfold fX12_in at hB hG
  refine ⟨fun c => hB (fun Q2 z => ⟨fun _ => z, fun w => ⟨fun _ => z, fun w2 => ?_⟩⟩), fun c => ⟨fun c2 => hB (fun Q2 z => ⟨fun _ => z, fun w => ⟨fun _ => z, fun w2 => ?_⟩⟩), fun c2 => hG ?_ (fun Q2 z => ⟨fun w => ?_, fun _ => ⟨fun w => ?_, fun _ => z⟩⟩)⟩⟩
  · have := (ltE (rfl : x.toInt = x.toInt) z0).mp c
    have := (notltE64 e64 z0L).mp w
    omega
  · have := (ltE zm (rfl : x.toInt = x.toInt)).mp c2
    have := (notltE64 zmL e64).mp w2
    omega
  · have := (notltE (rfl : x.toInt = x.toInt) z0).mp c
    omega
  · have := (notltE (rfl : x.toInt = x.toInt) z0).mp c
    have := (ltE64 e64 z0L).mp w
    omega
  · have := (notltE zm (rfl : x.toInt = x.toInt)).mp c2
    have := (ltE64 zmL e64).mp w
    omega
theorem p_print (hN : 4294967400 ≤ N) (hX : XA X) (hT : XT N X) (hW : XW X) (h : Rbt X a b) : fX11_print N x1 x2 (fun r1 τ1 => fX12_print N x1 x2 (fun r2 τ2 => r1 = r2 ∧ Rbt X τ1 τ2) b) a := by
  have ed : a.1 3 7 = b.1 0 14 := h.1.at 3 7 0 14 (by decide)
  unfold fX11_print fX12_print
  refine q_steps (b := b) (fun i => ⟨fun _ => i _ ⟨fun _ => ⟨rfl, h⟩, fun q => absurd rfl q⟩, fun q => absurd rfl q⟩) (fun s0 i => ⟨fun q => absurd q (by decide), fun _ => ?_⟩)
  rw [ed]
  refine ⟨fun q => ?_, fun q => i _ ⟨fun w => absurd w (by decide), fun _ => ⟨fun w => absurd w q, fun _ => ⟨rfl, h⟩⟩⟩⟩
  refine q_string hX (h.ru hX) (fun a' b' h' run => q_run hN hX hT hW h' s0 (fun r a2 b2 h2 run2 => i _ ⟨fun w => absurd w (by decide), fun _ => ⟨fun _ s es => ?_, fun w => absurd q w⟩⟩))
  rw [es]
  exact run _ (run2 _ ⟨rfl, h2⟩)
theorem p_number (hN : 4294967400 ≤ N) (hX : XA X) (hT : XT N X) (hW : XW X) (h : Rbt X a b) : fX11_number N x1 x2 (fun r1 τ1 => fX12_number N x1 x2 (fun r2 τ2 => r1 = r2 ∧ Rbt X τ1 τ2) b) a := by
  have ed : a.1 3 7 = b.1 0 14 := h.1.at 3 7 0 14 (by decide)
  unfold fX11_number fX12_number
  refine q_steps (b := b) (fun i => ⟨fun _ => i _ ⟨fun _ => ⟨rfl, h⟩, fun q => absurd rfl q⟩, fun q => absurd rfl q⟩) (fun s0 i => ⟨fun q => absurd q (by decide), fun _ => ?_⟩)
  rw [ed]
  refine ⟨fun q => ?_, fun q => i _ ⟨fun w => absurd w (by decide), fun _ => ⟨fun w => absurd w q, fun _ => ⟨rfl, h⟩⟩⟩⟩
  refine q_begin hX (h.ru hX) (by decide) (fun a' b' h' _ run => q_run hN hX hT hW h' s0 (fun r a2 b2 h2 run2 => i _ ⟨fun w => absurd w (by decide), fun _ => ⟨fun _ s es => ?_, fun w => absurd q w⟩⟩))
  rw [es]
  exact run _ (run2 _ ⟨rfl, h2⟩)
theorem p_resume (hN : 4294967400 ≤ N) (hX : XA X) (hT : XT N X) (hW : XW X) (h : Rbt X a b) : fX11_resume N x1 (fun r1 τ1 => fX12_resume N x1 (fun r2 τ2 => r1 = r2 ∧ Rbt X τ1 τ2) b) a := by
  have ed : a.1 3 7 = b.1 0 14 := h.1.at 3 7 0 14 (by decide)
  unfold fX11_resume fX12_resume
  refine q_steps (b := b) (fun i => ⟨fun _ => i _ ⟨fun _ => ⟨rfl, h⟩, fun q => absurd rfl q⟩, fun q => absurd rfl q⟩) (fun s0 i => ⟨fun q => absurd q (by decide), fun _ => ?_⟩)
  rw [ed]
  refine ⟨fun q => i _ ⟨fun w => absurd w (by decide), fun _ => ⟨fun _ => ⟨rfl, h⟩, fun w => absurd q w⟩⟩, fun q => ?_⟩
  refine q_run hN hX hT hW (h.ru hX) s0 (fun r a2 b2 h2 run2 => i _ ⟨fun w => absurd w (by decide), fun _ => ⟨fun w => absurd w q, fun _ s es => ?_⟩⟩)
  rw [es]
  exact run2 _ ⟨rfl, h2⟩
end SIM25
