section SIM24
variable {X : St → St → Prop} {N : Nat}
/-- X knows nothing of the cache -/
def XC (X : St → St → Prop) : Prop := ∀ (a b a' b' : St), (∀ c i : Nat, ¬ (c = 2 ∧ 5 ≤ i ∧ i ≤ 8) → a'.1 c i = a.1 c i) → (∀ c i : Nat, ¬ (c = 4 ∨ c = 5 ∨ (c = 0 ∧ (i = 6 ∨ i = 7))) → b'.1 c i = b.1 c i) → (∀ c i : Nat, ¬ (c = 0 ∧ i = 8) → b'.2 c i = b.2 c i) → X a b → X a' b'
theorem SC_tree : ∀ q ∈ SC, (q.1 = 2 → q = (2, 8, 0, 6)) ∧ (q.2.2.2 = 6 → q = (2, 8, 0, 6)) ∧ q.2.2.2 ≠ 7 := by decide
theorem xt_of (hN : 4294967400 ≤ N) (hC : XC X) : XT N X := by
  intro a b x h h0 Q1 hQ
  have z0 : (0 : Int32).toInt = 0 := by decide
  have z1 : (1 : Int32).toInt = 1 := by decide
  have z2 : (2 : Int32).toInt = 2 := by decide
  have z3 : (3 : Int32).toInt = 3 := by decide
  have zm : (4092 : Int32).toInt = 4092 := by decide
  obtain ⟨b', ⟨hG, hF⟩, run⟩ := dt_lies (N := N) (x := x) (b := b) (fun τ => G2 τ ∧ Fl x b τ) (s_lies hN h.g (fun τ k l => ⟨k, l⟩))
  have fin : ∀ s : St, (∀ c i : Nat, ¬ (c = 2 ∧ 5 ≤ i ∧ i ≤ 8) → s.1 c i = a.1 c i) → s.1 2 8 = x → Q1 s := by
    intro s hs h8
    refine hQ s b' ⟨fun q hm => ?_, fun y hy => ?_, ?_, hC a b s b' hs hF.1 hF.2.1 h.x, hG, ?_, fun g0 j hj => ?_⟩ (fun Q2 z => run Q2 z)
    · have t := SC_tree q hm
      have l := SC_lt q hm
      by_cases e : q = (2, 8, 0, 6)
      · rw [e]
        exact h8.trans hF.2.2.symm
      · have n2 : q.1 ≠ 2 := fun w => e (t.1 w)
        have n6 : q.2.2.2 ≠ 6 := fun w => e (t.2.1 w)
        have n7 := t.2.2
        rw [hs _ _ (by omega), hF.1 _ _ (by omega)]
        exact h.s q hm
    · rw [hs _ _ (by omega), hF.1 _ _ (by omega)]
      exact h.m y hy
    · funext y
      rw [hs _ _ (by omega), hF.1 _ _ (by omega)]
      exact congrFun h.o y
    · rw [hs _ _ (by omega), hF.1 _ _ (by omega)]
      exact h.f
    · rw [hF.1 _ _ (by omega)] at hj
      exact (h.j h0 j hj).ext (fun f => hs _ _ (by omega)) (fun i => hs _ _ (by omega)) (fun k k1 k2 k3 => hF.1 _ _ (by omega)) (fun i _ => hF.1 _ _ (by omega)) (g2_9 h.g j).2
  unfold fX8_tell fX8_drop
  intro s1 e1 s2 e2 s3 e3 s4 e4
  have f4 : ∀ c i : Nat, ¬ (c = 2 ∧ 5 ≤ i ∧ i ≤ 8) → s4.1 c i = a.1 c i := fun c i q => by rw [e4, u1e (by omega), e3, u1e (by omega), e2, u1e (by omega), e1, u1e (by omega)]
  have g4 : s4.1 2 8 = x := by rw [e4, u1e (by omega), e3, u1e (by omega), e2, u1e (by omega), e1, u1v]
  have F := fin s4 f4 g4
  refine ⟨fun _ => F, fun _ => ⟨fun _ => ?_, fun _ => F⟩⟩
  have last : ∀ r : Int32, ((r < 12 → Q1 s4) ∧ (¬ r < 12 → ((r ≤ ((s4.1 1 1) - x) → ∀ σ_9 : St, σ_9 = u1 s4 2 5 x → ∀ v_10 : Int32, v_10 = x + r → ∀ σ_11 : St, σ_11 = u1 σ_9 2 6 v_10 → ∀ σ_12 : St, σ_12 = u1 σ_11 2 7 (-1) → Q1 σ_12) ∧ (¬ r ≤ ((s4.1 1 1) - x) → Q1 s4)))) := by
    intro r
    refine ⟨fun _ => F, fun _ => ⟨fun _ s9 e9 v10 e10 s11 e11 s12 e12 => fin s12 (fun c i q => ?_) ?_, fun _ => F⟩⟩
    · rw [e12, u1e (by omega), e11, u1e (by omega), e9, u1e (by omega)]
      exact f4 c i q
    · rw [e12, u1e (by omega), e11, u1e (by omega), e9, u1e (by omega)]
      exact g4
  unfold fX3_fourOf
  refine ⟨fun _ => last 0, fun c => ⟨fun c2 => ?_, fun _ => last 0⟩⟩
  have c' := (notltE (rfl : x.toInt = x.toInt) z0).mp c
  have c2' := (leE (rfl : x.toInt = x.toInt) zm).mp c2
  have k1 : (x + 1).toInt = x.toInt + 1 := aOkE rfl z1 (by omega) (by omega)
  have k2 : (x + 2).toInt = x.toInt + 2 := aOkE rfl z2 (by omega) (by omega)
  have k3 : (x + 3).toInt = x.toInt + 3 := aOkE rfl z3 (by omega) (by omega)
  exact ⟨inE (rfl : x.toInt = x.toInt) (by omega) (by omega), inE k1 (by omega) (by omega), inE k2 (by omega) (by omega), inE k3 (by omega) (by omega), last _⟩
end SIM24
