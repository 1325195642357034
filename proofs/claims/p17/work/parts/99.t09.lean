section CACHE9
variable {a b a' b' : St} {N : Nat} {k : Int} {x1 x2 : Int32}
def Xc4 (k : Int) (n : Int32) (a b : St) : Prop := Xc n a b ∧ (b.1 0 1).toInt ≤ 4096 ∧ Cch a b ∧ SI a ∧ (a.1 2 3).toInt ≤ k
theorem Xc4.ext {n : Int32} (h : Xc4 k n a b) (ha : ∀ c i : Nat, (c = 2 ∨ c = 10 ∨ c = 13 ∨ (c = 0 ∧ i = 7) ∨ (18 ≤ c ∧ c ≤ 26) ∨ (123 ≤ c ∧ c < 203)) → a'.1 c i = a.1 c i) (hb : ∀ c i : Nat, c = 1 ∨ c = 2 ∨ (16 ≤ c ∧ c ≤ 23) ∨ (c = 0 ∧ (i = 1 ∨ i = 3 ∨ i = 5 ∨ i = 6 ∨ i = 7 ∨ i = 36 ∨ i = 41)) → b'.1 c i = b.1 c i) (h8 : b'.2 0 8 = b.2 0 8) : Xc4 k n a' b' :=
  ⟨h.1.ext (fun c i q => ha c i (by omega)) (fun c i q => hb c i (by omega)), by rw [hb 0 1 (by omega)]; exact h.2.1, h.2.2.1.ext h.2.1 (fun i => ha 2 i (by omega)) (fun i q => hb 0 i (by omega)) h8 (fun x _ => hb 1 x (by omega)), h.2.2.2.1.ext (ha 2 3 (by omega)) (fun i => ha 13 i (by omega)), by rw [ha 2 3 (by omega)]; exact h.2.2.2.2⟩
theorem Xc4.xa {n : Int32} : XA (Xc4 k n) := ⟨fun a b a' q h => h.ext (fun c i w => q c i (by unfold Xa; omega)) (fun _ _ _ => rfl) rfl, fun a b b' q q2 h => h.ext (fun _ _ _ => rfl) (fun c i w => q c i (by unfold Xb; omega)) (q2 0 8 (by omega))⟩
theorem r_call (hN : 4294967400 ≤ N) (h : Rbt (X4 k) a b) : fX11_call N x1 x2 (fun r1 τ1 => fX12_call N x1 x2 (fun r2 τ2 => r1 = r2 ∧ Rbt (X4 k) τ1 τ2) b) a := by
  have hX4 := h.2.2.2.1
  have hX := hX4.2.1
  have ed : a.1 3 7 = b.1 0 14 := h.1.at 3 7 0 14 (by decide)
  have el : a.1 0 7 = b.1 0 5 := hX.1.1
  have d := K2.g_0_5 (K2.self h.2.2.2.2.1)
  unfold fX11_call
  refine q_steps (b := b) (fun i => ⟨fun _ => ?_, fun q => absurd rfl q⟩) (fun s0 i => ⟨fun q => absurd q (by decide), fun _ => ?_⟩)
  · unfold fX12_call
    exact i _ ⟨fun _ => ⟨rfl, h⟩, fun q => absurd rfl q⟩
  · rw [ed, el]
    refine ⟨fun q4 => ⟨fun q => ?_, fun q => ?_⟩, fun q4 => ?_⟩
    · have n4 := (leE (rfl : (b.1 0 5).toInt = (b.1 0 5).toInt) (show (4 : Int32).toInt = 4 from by decide)).mp q4
      refine c_setArg hN d.1 n4 (fun s hs h6 har s7 e7 => ?_)
      have hru : Ru (Xc4 k (b.1 0 5)) s7 (u1 (ag b (b.1 0 5).toInt) 0 9 0) := by
        have fa : ∀ c i : Nat, ¬ (c = 17 ∨ (c = 3 ∧ i = 6) ∨ (c = 0 ∧ i = 7)) → s7.1 c i = a.1 c i := fun c i w => by rw [e7, u1e (by omega)]; exact hs c i (by omega)
        have fb : ∀ c i : Nat, ¬ (c = 15 ∨ (c = 0 ∧ i = 9)) → (u1 (ag b (b.1 0 5).toInt) 0 9 0).1 c i = b.1 c i := fun c i w => by rw [u1e (by omega)]; exact ag_ne (by omega)
        have sn : ∀ q ∈ SC, ¬ (q.1 = 3 ∧ q.2.1 = 6) := by decide
        have m : Rbt (Xc4 k (b.1 0 5)) s7 (u1 (ag b (b.1 0 5).toInt) 0 9 0) := h.mv (fun c i w => fa c i (by omega)) (fun c i w => fb c i (by omega)) (h.1.fr (fun q hm => fa _ _ (by have := SC_no2 q hm; have := SC_lt q hm; have := sn q hm; omega)) (fun q hm => fb _ _ (by have := SC_no2 q hm; have := SC_lt q hm; omega))) (h.2.1.fr (fun i => fa _ _ (by omega)) (fun i => fb _ _ (by omega))) ⟨⟨⟨by rw [e7, u1v], fb _ _ (by omega)⟩, hX.2.ext (fun c i w => fa c i (by omega)) (fun c i w => fb c i (by omega))⟩, by rw [fb _ _ (by omega)]; exact hX4.1, hX4.2.2.1.ext hX4.1 (fun i => fa _ _ (by omega)) (fun i w => fb _ _ (by omega)) rfl (fun x _ => fb _ _ (by omega)), hX4.2.2.2.1.ext (fa _ _ (by omega)) (fun i => fa _ _ (by omega)), by rw [fa _ _ (by omega)]; exact hX4.2.2.2.2⟩ ((ag_g h.2.2.2.2.1).uf (Rg2.r_0_9 (by decide) (by decide)) (by decide))
        have := m.ru Xc4.xa
        rwa [show u1 (u1 (ag b (b.1 0 5).toInt) 0 9 0) 0 9 0 = u1 (ag b (b.1 0 5).toInt) 0 9 0 from by have := u1_self (u1 (ag b (b.1 0 5).toInt) 0 9 0) 0 9; rwa [u1v] at this] at this
      refine q_called hN Xc4.xa hru (n := b.1 0 5) (by rw [e7, u1e (by omega)]; exact h6) d.1 n4 (fun i hi => ?_) (Or.inl (by decide)) (fun a' b' h' run => ?_)
      · rw [e7, u1e (by omega), har i hi, u1e (by omega), ag_at hi]
        exact hX.1.2 i hi
      · have h2 : Ru (X4 k) a' (u1 b' 0 5 0) := by
          obtain ⟨k1, k2, k3, k4, k5, k6, k7⟩ := h'
          refine ⟨k1.b (by decide), k2.ext rfl (u1_ne (by decide)), ?_, ⟨by rw [u1e (by omega)]; exact k4.2.1, ⟨⟨by rw [k4.1.1.1, u1v], fun i hi => ?_⟩, k4.1.2.ext (fun _ _ _ => rfl) (fun c i w => u1e (by omega))⟩, k4.2.2.1.ext k4.2.1 (fun _ => rfl) (fun i w => u1e (by omega)) rfl (fun x _ => u1e (by omega)), k4.2.2.2.1, k4.2.2.2.2⟩, k5.uf (by simp [Rg2, In32]) (by decide), ?_, fun g0 j hj => ?_⟩
          · rw [u1_ne (by decide)]; exact k3
          · rw [u1v, show (0 : Int32).toInt = 0 from by decide] at hi
            omega
          · rw [u1e (by omega)]; exact k6
          · rw [u1e (by omega)] at g0 hj
            exact (k7 g0 j hj).ext (fun _ => rfl) (fun _ => rfl) (fun k k1 k2 k3 => u1e (by omega)) (fun i _ => u1e (by omega)) (g2_9 k5 j).2
        refine q_run hN X4.xa (X4.xt hN) X4.xw h2 s0 (fun r a2 b2 h3 run2 => ?_)
        unfold fX12_call
        refine i _ ⟨fun w => absurd w (by decide), fun _ => ⟨fun _ => ⟨fun _ => r_callL hN d.1 n4 (run _ (fun σ9 e9 => ?_)), fun w => absurd q w⟩, fun w => absurd q4 w⟩⟩
        rw [e9]
        exact run2 _ ⟨rfl, h3⟩
    · unfold fX12_call
      exact i _ ⟨fun w => absurd w (by decide), fun _ => ⟨fun _ => ⟨fun w => absurd w q, fun _ => ⟨rfl, h⟩⟩, fun w => absurd q4 w⟩⟩
    · unfold fX12_call
      exact i _ ⟨fun w => absurd w (by decide), fun _ => ⟨fun w => absurd w q4, fun _ => ⟨rfl, h⟩⟩⟩
end CACHE9
