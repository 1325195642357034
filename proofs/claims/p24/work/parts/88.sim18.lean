section SIM18
variable {X : St → St → Prop} {a b a' b' : St} {j N : Nat} {th1 th2 nn nd kd : Int32} {Q1 : St → Prop}
theorem q_rargs (hN : 4294967400 ≤ N) (hX : XA X) (d0 : 0 ≤ nd.toInt) (d1 : nd.toInt ≤ 4095) (hn0 : 0 ≤ nn.toInt) (hn4 : nn.toInt ≤ 4) : ∀ (m K K2 i : Nat) (x3 : Int32) (a b : St), x3.toInt = (i : Int) → nn.toInt - i = (m : Int) → m < K → m < K2 → Ru X a b → (b.1 0 9 = 0 → ∀ k < i, a.1 17 k = b.1 15 k) → ∀ Q1 : St → Prop, (∀ a' b' : St, Ru X a' b' → (b'.1 0 9 = 0 → a'.1 3 6 = nn ∧ ∀ k : Nat, (k : Int) < nn.toInt → a'.1 17 k = b'.1 15 k) → (∀ Q2 : St → Prop, fX12_thing_j132 N th2 nn Q2 b' → lo1 (fX12_thing_l87 N nd th2 nn Q2) K2 x3 b) → Q1 a') → lo1 (fX2_readArguments_l23 N (nd + 5) nn Q1) K x3 a := by
  have z1 : (1 : Int32).toInt = 1 := by decide
  have z4 : (4 : Int32).toInt = 4 := by decide
  have z5 : (5 : Int32).toInt = 5 := by decide
  have z9L : (9 : Int64).toInt = 9 := by decide
  have z4L : (4 : Int64).toInt = 4 := by decide
  have flt : ∀ (m K K2 i : Nat) (x3 : Int32) (a b : St), x3.toInt = (i : Int) → nn.toInt - i = (m : Int) → m < K → m < K2 → Ru X a b → b.1 0 9 ≠ 0 → ∀ Q1 : St → Prop, (∀ a' b' : St, Ru X a' b' → (b'.1 0 9 = 0 → a'.1 3 6 = nn ∧ ∀ k : Nat, (k : Int) < nn.toInt → a'.1 17 k = b'.1 15 k) → (∀ Q2 : St → Prop, fX12_thing_j132 N th2 nn Q2 b' → lo1 (fX12_thing_l87 N nd th2 nn Q2) K2 x3 b) → Q1 a') → lo1 (fX2_readArguments_l23 N (nd + 5) nn Q1) K x3 a := by
    intro m K K2 i x3 a b hx hm hK hK2 h hb Q1 hQ
    obtain ⟨K', rfl⟩ : ∃ K' : Nat, K2 = K' + 1 := ⟨K2 - 1, by omega⟩
    exact c_rargsF hX hb hn4 (fun a' h' => hQ a' b h' (fun q => absurd q hb) (fun Q2 z => ⟨fun _ => z, fun _ => ⟨fun w => absurd w hb, fun _ => z⟩⟩)) m K i x3 a hx (by omega) hK h
  intro m
  induction m with
  | zero =>
    intro K K2 i x3 a b hx hm hK hK2 h hv Q1 hQ
    by_cases hb : b.1 0 9 = 0
    · obtain ⟨K', rfl⟩ : ∃ K' : Nat, K = K' + 1 := ⟨K - 1, by omega⟩
      obtain ⟨K3, rfl⟩ : ∃ K3 : Nat, K2 = K3 + 1 := ⟨K2 - 1, by omega⟩
      have le : nn ≤ x3 := (leE (rfl : nn.toInt = nn.toInt) hx).mpr (by omega)
      refine ⟨fun _ s es => ?_, fun q => absurd le q⟩
      refine hQ s b (by rw [es]; exact h.ca hX (Or.inl ⟨rfl, Or.inl rfl⟩)) (fun q => ⟨by rw [es, u1v], fun k hk => ?_⟩) (fun Q2 z => ⟨fun _ => z, fun q => absurd le q⟩)
      rw [es, u1e (by omega)]
      exact hv q k (by omega)
    · exact flt 0 K K2 i x3 a b hx hm hK hK2 h hb Q1 hQ
  | succ m ih =>
    intro K K2 i x3 a b hx hm hK hK2 h hv Q1 hQ
    by_cases hb : b.1 0 9 = 0
    · obtain ⟨K', rfl⟩ : ∃ K' : Nat, K = K' + 1 := ⟨K - 1, by omega⟩
      obtain ⟨K3, rfl⟩ : ∃ K3 : Nat, K2 = K3 + 1 := ⟨K2 - 1, by omega⟩
      have nle : ¬ nn ≤ x3 := fun q => by have := (leE (rfl : nn.toInt = nn.toInt) hx).mp q; omega
      have cx := clE hx (by omega)
      have g1 : (nd + 5).toInt = nd.toInt + 5 := aOkE rfl z5 (by omega) (by omega)
      have g2 : (nd + 5 + 4).toInt = nd.toInt + 5 + 4 := aOkE g1 z4 (by omega) (by omega)
      have g3 : (4 * x3).toInt = 4 * (i : Int) := mOkE z4 hx (by omega) (by omega)
      have g4 : (nd + 5 + 4 + 4 * x3).toInt = nd.toInt + 5 + 4 + 4 * (i : Int) := aOkE g2 g3 (by omega) (by omega)
      have l1 : (nd.toInt64 + 9).toInt = nd.toInt + 9 := aOkE64 (i2lE rfl) z9L (by omega) (by omega)
      have l2 : (4 * x3.toInt64).toInt = 4 * (i : Int) := mOkE64 z4L (i2lE hx) (by omega) (by omega)
      have l3 : (nd.toInt64 + 9 + 4 * x3.toInt64).toInt = nd.toInt + 9 + 4 * (i : Int) := aOkE64 l1 l2 (by omega) (by omega)
      refine ⟨fun q => absurd q nle, fun _ => ?_⟩
      refine q_fourX hX h (y := nd.toInt64 + 9 + 4 * x3.toInt64) (Or.inl (by omega)) (fun r a1 h1 hh => ⟨inE hx (by omega) (by omega), fun s es u eu => ?_⟩)
      obtain ⟨b1, eb⟩ : ∃ b1 : St, f4s b (nd.toInt64 + 9 + 4 * x3.toInt64) = b1 := ⟨_, rfl⟩
      obtain ⟨r2, er⟩ : ∃ r2 : Int32, f4v b (nd.toInt64 + 9 + 4 * x3.toInt64) = r2 := ⟨_, rfl⟩
      rw [eb] at h1
      rw [eb, er] at hh
      have f : u.toInt = ((i + 1 : Nat) : Int) := (congrArg Int32.toInt eu).trans ((aOkE hx z1 (by omega) (by omega)).trans (by omega))
      rw [show x3.toNatClampNeg = i by omega] at es
      refine ih K' K3 (i + 1) u s (u1 b1 15 i r2) f (by omega) (by omega) (by omega) (by rw [es]; exact (h1.ca hX (Or.inr rfl)).cb hX (by trivial) (Or.inr rfl)) (fun q k hk => ?_) Q1 (fun a' b' h' hv' run2 => hQ a' b' h' hv' (fun Q2 z => ?_))
      · rw [u1e (by omega)] at q
        rcases hh with ⟨ea, eb1, e3, _, _⟩ | g
        · rw [es]
          by_cases ek : k = i
          · rw [ek, u1v, u1v]
            exact e3
          · rw [u1e (by omega), u1e (by omega), ea, eb1]
            exact hv hb k (by omega)
        · exact absurd q g.1
      · refine ⟨fun q => absurd q nle, fun _ => ⟨fun _ => r_four hN ?_, fun q => absurd hb q⟩⟩
        rw [eb, er]
        refine ⟨inE hx (by omega) (by omega), fun s2 es2 u2' eu2 => ?_⟩
        rw [eu2, ← eu, es2, show x3.toNatClampNeg = i by omega]
        exact run2 _ z
    · exact flt (m + 1) K K2 i x3 a b hx hm hK hK2 h hb Q1 hQ
theorem c_57F (h : Ru X a b) (hb : b.1 0 9 ≠ 0) (z : Q1 a) : fX2_enterThing_j57 N th1 Q1 a := by
  unfold fX2_enterThing_j57 fX2_enterThing_j73
  rw [h.f]
  exact ⟨fun q => absurd q hb, fun _ => ⟨fun q => absurd q hb, fun _ => z⟩⟩
theorem c_failR (h : Ru X a b) (hb : b.1 0 9 ≠ 0) {x : Int32} {Q : St → Prop} (q : Q a) : fX2_fail N x Q a :=
  c_fail (by rw [show fl1 a x = a from if_neg (fun q => hb (h.f.symm.trans q))]; exact q)
theorem c_rArgsF (hN : 4294967400 ≤ N) (hX : XA X) (h : Ru X a b) (hb : b.1 0 9 ≠ 0) {x : Int32} (hQ : ∀ a' : St, Ru X a' b → Q1 a') : fX2_readArguments N x Q1 a := by
  have z0 : (0 : Int32).toInt = 0 := by decide
  have z4 : (4 : Int32).toInt = 4 := by decide
  unfold fX2_readArguments fX2_readArguments_j15
  refine q_fourX hX h (y := x.toInt64) (Or.inl (i2lE rfl)) (fun r a1 h1 hh => ?_)
  rw [f4s_f hb] at h1
  refine ⟨fun _ => c_failR h1 hb (hQ _ h1), fun c => ⟨fun c2 => ?_, fun _ => c_failR h1 hb (hQ _ h1)⟩⟩
  have c' := (notltE (rfl : r.toInt = r.toInt) z0).mp c
  have c2' := (leE (rfl : r.toInt = r.toInt) z4).mp c2
  exact c_rargsF hX hb c2' hQ r.toInt.toNat N 0 0 a1 (by decide) (by omega) (by omega) h1
/-- behind the thing's address -/
theorem q_33 (hN : 4294967400 ≤ N) (hX : XA X) (h : Ru X a b) (d0 : 0 ≤ nd.toInt) (d1 : nd.toInt ≤ 4095) (hk : kd = 8 ∨ kd = 9 ∨ kd = 10 ∨ kd = 11) (ht : b.1 0 9 = 0 → th1 = th2) (hQ : ∀ a' b' : St, Ru X a' b' → (∀ Q2 : St → Prop, Q2 b' → fX12_thing_j30 N nd kd th2 Q2 b) → Q1 a') : fX2_enterThing_j33 N nd kd th1 Q1 a := by
  have z0 : (0 : Int32).toInt = 0 := by decide
  have z4 : (4 : Int32).toInt = 4 := by decide
  have z5 : (5 : Int32).toInt = 5 := by decide
  have z0L : (0 : Int64).toInt = 0 := by decide
  have z4L : (4 : Int64).toInt = 4 := by decide
  have z5L : (5 : Int64).toInt = 5 := by decide
  have g1 : (nd + 5).toInt = nd.toInt + 5 := aOkE rfl z5 (by omega) (by omega)
  have l1 : (nd.toInt64 + 5).toInt = nd.toInt + 5 := aOkE64 (i2lE rfl) z5L (by omega) (by omega)
  unfold fX2_enterThing_j33
  intro s4 e4
  have h4 : Ru X s4 b := by rw [e4]; exact h.ca hX (Or.inl ⟨rfl, Or.inl rfl⟩)
  have small : (kd = 8 ∨ kd = 9) → fX2_enterThing_j57 N th1 Q1 s4 := by
    intro g
    have k9 : kd ≤ 9 := by rcases g with rfl | rfl <;> decide
    refine q_tail hN hX h4 (nn := 0) (fun f => ⟨ht f, by rw [e4, u1v], by decide, by decide, fun i hi => ?_⟩) (fun a' b' h' run => hQ a' b' h' (fun Q2 z => ⟨fun _ => ?_, fun q => absurd k9 q⟩))
    · rw [z0] at hi
      omega
    · have k84 : fX12_thing_j84 N nd th2 0 Q2 b := by
        obtain ⟨M, eM⟩ : ∃ M : Nat, N = M + 1 := ⟨N - 1, by omega⟩
        have key : ∀ K : Nat, lo1 (fX12_thing_l87 N nd th2 0 Q2) (K + 1) 0 b := fun K => ⟨fun _ => run _ z, fun q => absurd (by decide) q⟩
        unfold fX12_thing_j84
        have k := key M
        rw [← eM] at k
        exact k
      refine ⟨fun _ => ?_, fun _ => k84⟩
      unfold fX12_in
      exact ⟨fun q => absurd q (by decide), fun _ => ⟨fun q => absurd q (by decide), fun _ => ⟨fun q => absurd q (by decide), fun _ => k84⟩⟩⟩
  have big : (kd = 10 ∨ kd = 11) → fX2_enterThing_j50 N nd th1 Q1 s4 := by
    intro g
    have k9 : ¬ kd ≤ 9 := by rcases g with rfl | rfl <;> decide
    unfold fX2_enterThing_j50
    by_cases f : b.1 0 9 = 0
    · unfold fX2_readArguments fX2_readArguments_j15
      refine q_fourX hX h4 (y := nd.toInt64 + 5) (Or.inl (by omega)) (fun r a1 h1 hh => ?_)
      have ref : ∀ Q2 : St → Prop, fX12_thing_j57 N nd th2 (f4v b (nd.toInt64 + 5)) Q2 (f4s b (nd.toInt64 + 5)) → fX12_thing_j30 N nd kd th2 Q2 b := fun Q2 z => ⟨fun q => absurd q k9, fun _ => ⟨fun _ => r_four hN z, fun q => absurd f q⟩⟩
      by_cases f1 : (f4s b (nd.toInt64 + 5)).1 0 9 = 0
      · rcases hh with ⟨ea, eb, er, _, _⟩ | q
        · rw [← er, eb] at ref
          rw [eb] at h1
          have e64 : r.toInt64.toInt = r.toInt := i2lE rfl
          have hf := h1.fl hX (x := 5) (by decide) (by decide)
          have bad : (r.toInt < 0 ∨ 4 < r.toInt) → fX2_fail N 5 (fun σ => fX2_enterThing_j57 N th1 Q1 σ) a1 := by
            intro w
            refine c_fail (c_57F hf.1 hf.2 (hQ _ _ hf.1 (fun Q2 z => ref Q2 ⟨fun _ => ?_, fun q => absurd f q⟩)))
            have k := r_fails (N := N) (x := 5) (Q := fun σ => fX12_thing_j84 N nd th2 r Q2 σ) (b := b) (r_84F hN hf.2 z)
            unfold fX12_in
            refine ⟨fun _ => ⟨fun _ => k, fun q => absurd rfl q⟩, fun w1 => ⟨fun _ => ⟨fun _ => k, fun q => absurd rfl q⟩, fun w2 => ?_⟩⟩
            have := (notltE64 e64 z0L).mp w1
            have := (notltE64 z4L e64).mp w2
            omega
          refine ⟨fun c => bad (Or.inl (by have := (ltE (rfl : r.toInt = r.toInt) z0).mp c; omega)), fun c => ⟨fun c2 => ?_, fun c2 => bad (Or.inr (by have := (notleE (rfl : r.toInt = r.toInt) z4).mp c2; omega))⟩⟩
          have c' := (notltE (rfl : r.toInt = r.toInt) z0).mp c
          have c2' := (leE (rfl : r.toInt = r.toInt) z4).mp c2
          refine q_rargs (th2 := th2) hN hX d0 d1 (by omega) c2' r.toInt.toNat N N 0 0 a1 b (by decide) (by omega) (by omega) (by omega) h1 (fun _ k hk => absurd hk (by omega)) _ (fun a2 b2 h2 hv2 run2 => ?_)
          have t2 : b2.1 0 9 = 0 → th1 = th2 := fun _ => ht f
          refine q_tail hN hX h2 (nn := r) (fun q => ⟨t2 q, (hv2 q).1, by omega, c2', (hv2 q).2⟩) (fun a' b' h' run => hQ a' b' h' (fun Q2 z => ref Q2 ⟨fun _ => ?_, fun q => absurd f q⟩))
          have k84 : fX12_thing_j84 N nd th2 r Q2 b := by
            unfold fX12_thing_j84
            exact run2 _ (run _ z)
          unfold fX12_in
          refine ⟨fun q => ?_, fun _ => ⟨fun q => ?_, fun _ => ⟨fun q => absurd q (by decide), fun _ => k84⟩⟩⟩
          · have := (ltE64 e64 z0L).mp q
            omega
          · have := (ltE64 z4L e64).mp q
            omega
        · exact absurd f1 q.1
      · have key : ∀ a' : St, Ru X a' (f4s b (nd.toInt64 + 5)) → fX2_enterThing_j57 N th1 Q1 a' := fun a' h' => c_57F h' f1 (hQ _ _ h' (fun Q2 z => ref Q2 (r_57F hN f1 z)))
        refine ⟨fun _ => c_failR h1 f1 (key _ h1), fun c => ⟨fun c2 => ?_, fun _ => c_failR h1 f1 (key _ h1)⟩⟩
        have c' := (notltE (rfl : r.toInt = r.toInt) z0).mp c
        have c2' := (leE (rfl : r.toInt = r.toInt) z4).mp c2
        exact c_rargsF hX f1 c2' key r.toInt.toNat N 0 0 a1 (by decide) (by omega) (by omega) h1
    · refine c_rArgsF hN hX h4 f (fun a' h' => c_57F h' f (hQ _ _ h' (fun Q2 z => ⟨fun q => absurd q k9, fun _ => ⟨fun q => absurd q f, fun _ => r_57F hN f z⟩⟩)))
  refine ⟨fun q => big (Or.inl q), fun q => ⟨fun q2 => big (Or.inr q2), fun q2 => small ?_⟩⟩
  rcases hk with g | g | g | g
  · exact Or.inl g
  · exact Or.inr g
  · exact absurd g q
  · exact absurd g q2
theorem q_thing (hN : 4294967400 ≤ N) (hX : XA X) (h : Ru X a b) (f : b.1 0 9 = 0) (d0 : 0 ≤ nd.toInt) (d1 : nd.toInt ≤ 4095) (hk : kd = 8 ∨ kd = 9 ∨ kd = 10 ∨ kd = 11) (hQ : ∀ a' b' : St, Ru X a' b' → (∀ Q2 : St → Prop, Q2 b' → fX12_thing N nd kd Q2 b) → Q1 a') : fX2_enterThing N nd kd Q1 a := by
  have z1 : (1 : Int32).toInt = 1 := by decide
  have z1L : (1 : Int64).toInt = 1 := by decide
  have g1 : (nd + 1).toInt = nd.toInt + 1 := aOkE rfl z1 (by omega) (by omega)
  have l1 : (nd.toInt64 + 1).toInt = nd.toInt + 1 := aOkE64 (i2lE rfl) z1L (by omega) (by omega)
  have odd : (kd - kd / 2 * 2) = 1 ↔ (kd = 9 ∨ kd = 11) := by rcases hk with rfl | rfl | rfl | rfl <;> decide
  unfold fX2_enterThing
  refine q_fourX hX h (y := nd.toInt64 + 1) (Or.inl (by omega)) (fun r a1 h1 hh => ?_)
  obtain ⟨b1, eb⟩ : ∃ b1 : St, f4s b (nd.toInt64 + 1) = b1 := ⟨_, rfl⟩
  obtain ⟨r2, er⟩ : ∃ r2 : Int32, f4v b (nd.toInt64 + 1) = r2 := ⟨_, rfl⟩
  rw [eb] at h1
  rw [eb, er] at hh
  have e12 : b1.1 0 9 = 0 → r = r2 := fun q => hh.elim (fun g => g.2.2.1) (fun g => absurd q g.1)
  rw [h1.f]
  have ref : ∀ Q2 : St → Prop, (((kd - kd / 2 * 2) = 1 → (((b1.1 0 9) = 0 → fX12_four N r2.toInt64 (fun r_6 σ_5 => fX12_thing_j30 N nd kd r_6 Q2 σ_5) b1) ∧ (¬ (b1.1 0 9) = 0 → fX12_thing_j30 N nd kd r2 Q2 b1))) ∧ (¬ (kd - kd / 2 * 2) = 1 → fX12_thing_j30 N nd kd r2 Q2 b1)) → fX12_thing N nd kd Q2 b := by
    intro Q2 z
    unfold fX12_thing
    refine r_four hN ?_
    rw [eb, er]
    exact z
  refine ⟨fun c => ?_, fun c => ?_⟩
  · obtain rfl := e12 c
    have j27 : (kd = 9 ∨ kd = 11) → fX2_enterThing_j27 N nd kd r Q1 a1 := by
      intro g
      unfold fX2_enterThing_j27
      refine q_fourX hX h1 (y := r.toInt64) (Or.inl (i2lE rfl)) (fun r3 a3 h3 hh3 => ?_)
      exact q_33 hN hX h3 d0 d1 hk (fun q => hh3.elim (fun g => g.2.2.1) (fun g => absurd q g.1)) (fun a' b' h' run => hQ a' b' h' (fun Q2 z => ref Q2 ⟨fun _ => ⟨fun _ => r_four hN (run _ z), fun q => absurd c q⟩, fun q => absurd (odd.mpr g) q⟩))
    refine ⟨fun q => j27 (Or.inl q), fun q => ⟨fun q2 => j27 (Or.inr q2), fun q2 => ?_⟩⟩
    exact q_33 hN hX h1 d0 d1 hk (fun _ => rfl) (fun a' b' h' run => hQ a' b' h' (fun Q2 z => ref Q2 ⟨fun w => (odd.mp w).elim (fun w => absurd w q) (fun w => absurd w q2), fun _ => run _ z⟩))
  · exact q_33 hN hX h1 d0 d1 hk (th2 := r2) (fun q => absurd q c) (fun a' b' h' run => hQ a' b' h' (fun Q2 z => ref Q2 ⟨fun _ => ⟨fun q => absurd q c, fun _ => run _ z⟩, fun _ => run _ z⟩))
end SIM18
