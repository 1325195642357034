section SIM33
variable {a b a' b' : St} {N : Nat} {x1 x2 : Int32}
/-- the line becomes the arguments: the class -/
theorem c_setArg (hN : 4294967400 ≤ N) {n : Int32} (n0 : 0 ≤ n.toInt) (n4 : n.toInt ≤ 4) {Q : St → Prop} (hQ : ∀ τ : St, (∀ c i : Nat, ¬ (c = 17 ∨ (c = 3 ∧ i = 6)) → τ.1 c i = a.1 c i) → τ.1 3 6 = n → (∀ i : Nat, (i : Int) < n.toInt → τ.1 17 i = a.1 11 i) → Q τ) : fX2_setArguments N 11 n Q a := by
  have z0 : (0 : Int32).toInt = 0 := by decide
  unfold fX2_setArguments
  intro s1 e1
  refine lo1_i (fun (y : Int32) (τ : St) => 0 ≤ y.toInt ∧ y.toInt ≤ n.toInt ∧ τ.1 3 6 = y ∧ (∀ c i : Nat, ¬ (c = 17 ∨ (c = 3 ∧ i = 6)) → τ.1 c i = a.1 c i) ∧ (∀ i : Nat, (i : Int) < y.toInt → τ.1 17 i = a.1 11 i)) (fun y _ => (n.toInt - y.toInt).toNat) ?_ N 0 s1 ⟨by omega, by omega, by rw [e1, u1v], fun c i q => by rw [e1, u1e (by omega)], fun i hi => absurd hi (by omega)⟩ (by (try dsimp only); omega)
  intro rr y τ hI ih
  obtain ⟨i1, i2, i3, i4, i5⟩ := hI
  have ey := clE (rfl : y.toInt = y.toInt) i1
  unfold fX2_setArguments_l7
  refine ⟨fun c => ?_, fun c => ?_⟩
  · have f := (leE (rfl : n.toInt = n.toInt) (rfl : y.toInt = y.toInt)).mp c
    have e : y = n := Int32.toInt_inj.mp (by omega)
    exact hQ τ i4 (i3.trans e) (fun i hi => i5 i (by omega))
  · have f := (notleE (rfl : n.toInt = n.toInt) (rfl : y.toInt = y.toInt)).mp c
    refine ⟨fun c2 => ?_, fun _ => ⟨fun c2 => ?_, fun _ => ⟨inE rfl (by omega) (by omega), fun v6 e6 => ⟨inE rfl (by omega) (by omega), fun s8 e8 v9 e9 s10 e10 v11 e11 => ?_⟩⟩⟩⟩
    · have := (leE (show (120 : Int32).toInt = 120 from by decide) (rfl : y.toInt = y.toInt)).mp c2
      omega
    · have := (leE (show (4 : Int32).toInt = 4 from by decide) (rfl : y.toInt = y.toInt)).mp c2
      omega
    · have fv : v11.toInt = y.toInt + 1 := (congrArg Int32.toInt e11).trans (aOkE rfl (show (1 : Int32).toInt = 1 from by decide) (by omega) (by omega))
      refine ih v11 s10 ⟨by omega, by omega, ?_, fun c i q => ?_, fun i hi => ?_⟩ (by (try dsimp only); omega)
      · rw [e10, u1v, e9, e8, u1e (by omega), i3, e11]
      · rw [e10, u1e (by omega), e8, u1e (by omega)]
        exact i4 c i q
      · rw [e10, u1e (by omega), e8]
        by_cases e : i = y.toNatClampNeg
        · rw [e, u1v, e6, i4 11 _ (by omega)]
        · rw [u1e (by omega)]
          exact i5 i (by omega)
/-- the reference: how its arguments stand then -/
def ag (b : St) (n : Int) : St := uc b 15 (fun i => if (i : Int) < n then b.1 3 i else b.1 15 i)
theorem ag_ne {n : Int} {c i : Nat} (h : c ≠ 15) : (ag b n).1 c i = b.1 c i := by
  unfold ag
  rw [uc_ne h]
theorem ag_at {n : Int} {i : Nat} (h : (i : Int) < n) : (ag b n).1 15 i = b.1 3 i := by
  unfold ag
  rw [uc_at]
  exact if_pos h
theorem ag_g {n : Int} (h : G2 b) : G2 (ag b n) := by
  refine ⟨fun k j => ?_, h.2.1.ext (ag_ne (by decide)) (funext (fun i => ag_ne (by decide))) (funext (fun i => ag_ne (by decide))), h.2.2.ext (ag_ne (by decide)) (ag_ne (by decide))⟩
  by_cases e : k = 15
  · subst e
    trivial
  · rw [ag_ne e]
    exact h.1 k j
theorem r_callL (hN : 4294967400 ≤ N) {Q : Int32 → St → Prop} (n0 : 0 ≤ (b.1 0 5).toInt) (n4 : (b.1 0 5).toInt ≤ 4) (hQ : fX12_called N x1 (b.1 0 5) 255 (fun σ_8 => ∀ σ_9 : St, σ_9 = u1 σ_8 0 5 0 → fX12_runs N x2 (fun r_11 σ_10 => Q r_11 σ_10) σ_9) (u1 (ag b (b.1 0 5).toInt) 0 9 0)) : lo1 (fX12_call_l35 N x1 x2 Q) N 0 b := by
  have z0 : (0 : Int32).toInt = 0 := by decide
  have a0 : b = ag b 0 := by
    unfold ag
    refine Prod.ext ?_ rfl
    funext c i
    show b.1 c i = (if c = 15 then _ else b.1 c) i
    by_cases e : c = 15
    · rw [if_pos e, e, if_neg (by omega)]
    · rw [if_neg e]
  refine lo1_i (fun (y : Int32) (τ : St) => 0 ≤ y.toInt ∧ y.toInt ≤ (b.1 0 5).toInt ∧ τ = ag b y.toInt) (fun y _ => ((b.1 0 5).toInt - y.toInt).toNat) ?_ N 0 b ⟨by omega, by omega, by rw [z0]; exact a0⟩ (by (try dsimp only); omega)
  intro rr y τ hI ih
  obtain ⟨i1, i2, i3⟩ := hI
  have ey := clE (rfl : y.toInt = y.toInt) i1
  have e5 : τ.1 0 5 = b.1 0 5 := by rw [i3]; exact ag_ne (by decide)
  unfold fX12_call_l35
  rw [e5]
  refine ⟨fun c s7 e7 => ?_, fun c => ?_⟩
  · have f := (leE (rfl : (b.1 0 5).toInt = (b.1 0 5).toInt) (rfl : y.toInt = y.toInt)).mp c
    rw [e7, u1e (by omega), e5, i3, show y.toInt = (b.1 0 5).toInt by omega]
    exact hQ
  · have f := (notleE (rfl : (b.1 0 5).toInt = (b.1 0 5).toInt) (rfl : y.toInt = y.toInt)).mp c
    refine ⟨inE rfl (by omega) (by omega), fun v13 e13 => ⟨inE rfl (by omega) (by omega), fun s15 e15 v16 e16 => ?_⟩⟩
    have fv : v16.toInt = y.toInt + 1 := (congrArg Int32.toInt e16).trans (aOkE rfl (show (1 : Int32).toInt = 1 from by decide) (by omega) (by omega))
    refine ih v16 s15 ⟨by omega, by omega, ?_⟩ (by (try dsimp only); omega)
    rw [e15, e13, i3, fv, ag_ne (by decide)]
    refine Prod.ext ?_ rfl
    funext c i
    by_cases e : c = 15
    · subst e
      by_cases g : i = y.toNatClampNeg
      · rw [g, u1v, ag_at (by omega)]
      · rw [u1e (by omega)]
        unfold ag
        rw [uc_at, uc_at]
        by_cases k : (i : Int) < y.toInt
        · rw [if_pos k, if_pos (by omega)]
        · rw [if_neg k, if_neg (by omega)]
    · rw [u1e (by omega), ag_ne e, ag_ne e]
theorem p_call (hN : 4294967400 ≤ N) (h : Rbt Xr a b) : fX11_call N x1 x2 (fun r1 τ1 => fX12_call N x1 x2 (fun r2 τ2 => r1 = r2 ∧ Rbt Xr τ1 τ2) b) a := by
  have hX := h.2.2.2.1
  have ed : a.1 3 7 = b.1 0 14 := h.1.at 3 7 0 14 (by decide)
  have el : a.1 0 7 = b.1 0 5 := hX.1.1
  have d := K2.g_0_5 (K2.self h.2.2.2.2.1)
  unfold fX11_call
  refine q_steps (b := b) (fun i => ⟨fun _ => ?_, fun q => absurd rfl q⟩) (fun s0 i => ⟨fun q => absurd q (by decide), fun _ => ?_⟩)
  · unfold fX12_call
    exact i _ ⟨fun _ => ⟨rfl, h⟩, fun q => absurd rfl q⟩
  · rw [ed, el]
    refine ⟨fun q4 => ⟨fun q => ?_, fun q => ?_⟩, fun q4 => ?_⟩
    · have n4 := (leE (rfl : (b.1 0 5).toInt = (b.1 0 5).toInt) (show (4 : Int32).toInt = 4 from by decide)).mp q4
      refine c_setArg hN d.1 n4 (fun s hs h6 har s7 e7 => ?_)
      have hru : Ru (Xc (b.1 0 5)) s7 (u1 (ag b (b.1 0 5).toInt) 0 9 0) := by
        have fa : ∀ c i : Nat, ¬ (c = 17 ∨ (c = 3 ∧ i = 6) ∨ (c = 0 ∧ i = 7)) → s7.1 c i = a.1 c i := fun c i w => by rw [e7, u1e (by omega)]; exact hs c i (by omega)
        have fb : ∀ c i : Nat, ¬ (c = 15 ∨ (c = 0 ∧ i = 9)) → (u1 (ag b (b.1 0 5).toInt) 0 9 0).1 c i = b.1 c i := fun c i w => by rw [u1e (by omega)]; exact ag_ne (by omega)
        have sn : ∀ q ∈ SC, ¬ (q.1 = 3 ∧ q.2.1 = 6) := by decide
        have m : Rbt (Xc (b.1 0 5)) s7 (u1 (ag b (b.1 0 5).toInt) 0 9 0) := h.mv (fun c i w => fa c i (by omega)) (fun c i w => fb c i (by omega)) (h.1.fr (fun q hm => fa _ _ (by have := SC_no2 q hm; have := SC_lt q hm; have := sn q hm; omega)) (fun q hm => fb _ _ (by have := SC_no2 q hm; have := SC_lt q hm; omega))) (h.2.1.fr (fun i => fa _ _ (by omega)) (fun i => fb _ _ (by omega))) ⟨⟨by rw [e7, u1v], fb _ _ (by omega)⟩, hX.2.ext (fun c i w => fa c i (by omega)) (fun c i w => fb c i (by omega))⟩ ((ag_g h.2.2.2.2.1).uf (Rg2.r_0_9 (by decide) (by decide)) (by decide))
        have := m.ru Xc.xa
        rwa [show u1 (u1 (ag b (b.1 0 5).toInt) 0 9 0) 0 9 0 = u1 (ag b (b.1 0 5).toInt) 0 9 0 from by have := u1_self (u1 (ag b (b.1 0 5).toInt) 0 9 0) 0 9; rwa [u1v] at this] at this
      refine q_called hN Xc.xa hru (n := b.1 0 5) (by rw [e7, u1e (by omega)]; exact h6) d.1 n4 (fun i hi => ?_) (Or.inl (by decide)) (fun a' b' h' run => ?_)
      · rw [e7, u1e (by omega), har i hi, u1e (by omega), ag_at hi]
        exact hX.1.2 i hi
      · have h2 : Ru Xr a' (u1 b' 0 5 0) := by
          obtain ⟨k1, k2, k3, k4, k5, k6, k7⟩ := h'
          refine ⟨k1.b (by decide), k2.ext rfl (u1_ne (by decide)), ?_, ⟨⟨by rw [k4.1.1, u1v], fun i hi => ?_⟩, k4.2.ext (fun _ _ _ => rfl) (fun c i w => u1e (by omega))⟩, k5.uf (by simp [Rg2, In32]) (by decide), ?_, fun g0 j hj => ?_⟩
          · rw [u1_ne (by decide)]; exact k3
          · rw [u1v, show (0 : Int32).toInt = 0 from by decide] at hi
            omega
          · rw [u1e (by omega)]; exact k6
          · rw [u1e (by omega)] at g0 hj
            exact (k7 g0 j hj).ext (fun _ => rfl) (fun _ => rfl) (fun k k1 k2 k3 => u1e (by omega)) (fun i _ => u1e (by omega)) (g2_9 k5 j).2
        refine q_run hN Xr.xa (xt_of hN Xr.xc) Xr.xw h2 s0 (fun r a2 b2 h3 run2 => ?_)
        unfold fX12_call
        refine i _ ⟨fun w => absurd w (by decide), fun _ => ⟨fun _ => ⟨fun _ => r_callL hN d.1 n4 (run _ (fun σ9 e9 => ?_)), fun w => absurd q w⟩, fun w => absurd q4 w⟩⟩
        rw [e9]
        exact run2 _ ⟨rfl, h3⟩
    · unfold fX12_call
      exact i _ ⟨fun w => absurd w (by decide), fun _ => ⟨fun _ => ⟨fun w => absurd w q, fun _ => ⟨rfl, h⟩⟩, fun w => absurd q4 w⟩⟩
    · unfold fX12_call
      exact i _ ⟨fun w => absurd w (by decide), fun _ => ⟨fun w => absurd w q4, fun _ => ⟨rfl, h⟩⟩⟩
end SIM33
