section SIM11
variable {X : St → St → Prop} {a b a' b' : St} {j N : Nat} {x1 op v nn : Int32} {Q1 : St → Prop}
def nAt (j : Nat) : (Nat → Int32) → Int32 → (Nat → Int32) → (Nat → Int32) → Prop := fun _ _ _ k => k j = 0
def nAr (j i : Nat) : (Nat → Int32) → Int32 → (Nat → Int32) → (Nat → Int32) → Prop := fun f _ g k => k j = 0 ∧ ∀ k < i, f k = g k
def nAe (j i : Nat) (c : Int32) : (Nat → Int32) → Int32 → (Nat → Int32) → (Nat → Int32) → Prop := fun f d g k => d = c ∧ k j = 0 ∧ ∀ k < i, f k = g k
theorem c_argsF (hX : XA X) (hn4 : nn.toInt ≤ 4) {n : (Nat → Int32) → Int32 → (Nat → Int32) → (Nat → Int32) → Prop} (hb : b.1 0 9 ≠ 0) (hQ : ∀ a' : St, Ru X a' b → Q1 a') : ∀ (m K i : Nat) (x4 : Int32) (a : St), x4.toInt = (i : Int) → nn.toInt - i ≤ (m : Int) → m < K → Oq X j n a b → lo1 (fX2_doCallOrder_l33 N (43 + j) v nn Q1) K x4 a := by
  have z1 : (1 : Int32).toInt = 1 := by decide
  intro m
  induction m with
  | zero =>
    intro K i x4 a hx hm hK h
    obtain ⟨K', rfl⟩ : ∃ K' : Nat, K = K' + 1 := ⟨K - 1, by omega⟩
    show fX2_doCallOrder_l33 N (43 + j) v nn Q1 _ x4 a
    unfold fX2_doCallOrder_l33
    refine ⟨fun _ s8 e8 => ?_, fun q => ?_⟩
    · have h8 : Oq X j (nAt j) s8 b := ⟨by rw [e8]; exact h.1.ca hX (Or.inl ⟨rfl, Or.inl rfl⟩), h.2.1, fun q => absurd q hb⟩
      refine c_nextTargetF hX h8 hb (fun r a9 h9 => ?_)
      rw [h9.1.f]
      exact ⟨fun q => absurd q hb, fun _ => hQ _ h9.1⟩
    · have := (notleE (rfl : nn.toInt = nn.toInt) hx).mp q
      omega
  | succ m ih =>
    intro K i x4 a hx hm hK h
    obtain ⟨K', rfl⟩ : ∃ K' : Nat, K = K' + 1 := ⟨K - 1, by omega⟩
    show fX2_doCallOrder_l33 N (43 + j) v nn Q1 _ x4 a
    unfold fX2_doCallOrder_l33
    refine ⟨fun _ s8 e8 => ?_, fun q => ?_⟩
    · have h8 : Oq X j (nAt j) s8 b := ⟨by rw [e8]; exact h.1.ca hX (Or.inl ⟨rfl, Or.inl rfl⟩), h.2.1, fun q => absurd q hb⟩
      refine c_nextTargetF hX h8 hb (fun r a9 h9 => ?_)
      rw [h9.1.f]
      exact ⟨fun q => absurd q hb, fun _ => hQ _ h9.1⟩
    · have q' := (notleE (rfl : nn.toInt = nn.toInt) hx).mp q
      refine c_nextValueF hX h hb (fun r a1 h1 => ⟨inE hx (by omega) (by omega), fun s es u eu => ?_⟩)
      have f : u.toInt = ((i + 1 : Nat) : Int) := (congrArg Int32.toInt eu).trans ((aOkE hx z1 (by omega) (by omega)).trans (by omega))
      refine ih K' (i + 1) u s f (by omega) (by omega) ⟨?_, h1.2.1, fun q => absurd q hb⟩
      rw [es]
      exact h1.1.ca hX (Or.inr rfl)
theorem q_args (hN : 4294967400 ≤ N) (hX : XA X) (hj : j < 40) (hx1 : x1.toInt = (j : Int)) (hn0 : 0 ≤ nn.toInt) (hn4 : nn.toInt ≤ 4) : ∀ (m K K2 i : Nat) (x4 : Int32) (a b : St), x4.toInt = (i : Int) → nn.toInt - i = (m : Int) → m < K → m < K2 → Oq X j (nAr j i) a b → ∀ Q1 : St → Prop, (∀ a' b' : St, Ru X a' b' → (∀ Q2 : St → Prop, Q2 b' → lo1 (fX12_order_l185 N x1 6 v 0 nn Q2) K2 x4 b) → Q1 a') → lo1 (fX2_doCallOrder_l33 N (43 + j) v nn Q1) K x4 a := by
  have z1 : (1 : Int32).toInt = 1 := by decide
  have flt : ∀ (m K K2 i : Nat) (x4 : Int32) (a b : St), x4.toInt = (i : Int) → nn.toInt - i = (m : Int) → m < K → m < K2 → Oq X j (nAr j i) a b → b.1 0 9 ≠ 0 → ∀ Q1 : St → Prop, (∀ a' b' : St, Ru X a' b' → (∀ Q2 : St → Prop, Q2 b' → lo1 (fX12_order_l185 N x1 6 v 0 nn Q2) K2 x4 b) → Q1 a') → lo1 (fX2_doCallOrder_l33 N (43 + j) v nn Q1) K x4 a := by
    intro m K K2 i x4 a b hx hm hK hK2 h hb Q1 hQ
    obtain ⟨K', rfl⟩ : ∃ K' : Nat, K2 = K' + 1 := ⟨K2 - 1, by omega⟩
    exact c_argsF hX hn4 hb (fun a' h' => hQ a' b h' (fun Q2 z => ⟨fun _ => e216 h'.g hb z, fun _ => ⟨fun w => absurd w hb, fun _ => e216 h'.g hb z⟩⟩)) m K i x4 a hx (by omega) hK h
  intro m
  induction m with
  | zero =>
    intro K K2 i x4 a b hx hm hK hK2 h Q1 hQ
    by_cases hb : b.1 0 9 = 0
    · obtain ⟨K', rfl⟩ : ∃ K' : Nat, K = K' + 1 := ⟨K - 1, by omega⟩
      obtain ⟨K3, rfl⟩ : ∃ K3 : Nat, K2 = K3 + 1 := ⟨K2 - 1, by omega⟩
      obtain ⟨e1, e2, e36, e3⟩ := h.2.2 hb
      show fX2_doCallOrder_l33 N (43 + j) v nn Q1 _ x4 a
      unfold fX2_doCallOrder_l33
      have le : nn ≤ x4 := (leE (rfl : nn.toInt = nn.toInt) hx).mpr (by omega)
      have ref : ∀ Q2 : St → Prop, fX12_order_j216 N x1 6 v 0 nn Q2 b → lo1 (fX12_order_l185 N x1 6 v 0 nn Q2) (K3 + 1) x4 b := fun Q2 z => ⟨fun _ => z, fun q => absurd le q⟩
      refine ⟨fun _ s8 e8 => ?_, fun q => absurd le q⟩
      have h8 : Oq X j (nAe j i nn) s8 b := by
        refine ⟨by rw [e8]; exact h.1.ca hX (Or.inl ⟨rfl, Or.inl rfl⟩), h.2.1, fun q => ⟨by rw [e8, u1e (by omega)]; exact e1, e2, by rw [e8, u1v], e36, fun k hk => ?_⟩⟩
        rw [e8, u1e (by omega)]
        exact e3 k hk
      refine q_target hX h8 hj hb (fun r a9 b9 h9 r0 r255 ht run => ?_)
      have ref2 : ∀ Q2 : St → Prop, fX12_order_j275 N x1 6 v 0 nn r Q2 b9 → lo1 (fX12_order_l185 N x1 6 v 0 nn Q2) (K3 + 1) x4 b := fun Q2 z => ref Q2 (r216 (by decide) (by decide) (fun _ => ⟨fun q => absurd q (by decide), fun _ => ⟨fun _ => run _ z, fun q => absurd hb q⟩⟩) (fun q => absurd (Or.inr rfl) q))
      rw [h9.1.f]
      refine ⟨fun c9 v12 e12 s13 e13 => ?_, fun c9 => hQ a9 b9 h9.1 (fun Q2 z => ref2 Q2 (e275 h9.1.g c9 z))⟩
      obtain ⟨g1, g2, g3, g36, g4⟩ := h9.2.2 c9
      have nx : b9.2 0 34 = (a9.1 3 12).toInt64 := Int64.toInt_inj.mp (by rw [g1, i2lE rfl])
      have h13 := h9.1.pl hX (j := j) hj (fun _ q => by rw [g36] at q; exact absurd q (by decide)) (v := v12)
      rw [← e13] at h13
      have cx := clE hx1 (by omega)
      have r9 := g2_9 h9.1.g j
      have ref3 : ∀ Q2 : St → Prop, fX12_called N v nn r Q2 (u1 b9 7 j v12) → lo1 (fX12_order_l185 N x1 6 v 0 nn Q2) (K3 + 1) x4 b := by
        intro Q2 z
        refine ref2 Q2 ⟨fun _ => r304 c9 (fun w => ?_) (fun _ => ?_), fun q => absurd (by decide) q⟩
        · rcases w with w | w | w <;> exact absurd w.1 (by decide)
        · unfold fX12_order_j373
          intro v23 e23
          rw [nx, Int64.toInt32_add, Int32.toInt32_toInt64, Int32.toInt32_toInt64, Int32.add_zero, ← e12] at e23
          refine ⟨inE hx1 (by omega) (by omega), fun s es => ?_⟩
          rw [es, e23, show x1.toNatClampNeg = j by omega]
          exact does_6 z
      refine q_called hN hX h13 (x := v) (to := r) (n := nn) (by rw [e13, u1e (by omega)]; exact g3) hn0 hn4 (fun k hk => ?_) ?_ (fun a' b' h' run2 => hQ a' b' h' (fun Q2 z => ref3 Q2 (run2 _ z)))
      · rw [e13, u1e (by omega), u1e (by omega)]
        exact g4 k (by omega)
      · rw [u1e (by omega)]
        rcases ht c9 with w | w
        · exact Or.inl w
        · exact Or.inr ⟨w.1, by omega, by omega⟩
    · exact flt 0 K K2 i x4 a b hx hm hK hK2 h hb Q1 hQ
  | succ m ih =>
    intro K K2 i x4 a b hx hm hK hK2 h Q1 hQ
    by_cases hb : b.1 0 9 = 0
    · obtain ⟨K', rfl⟩ : ∃ K' : Nat, K = K' + 1 := ⟨K - 1, by omega⟩
      obtain ⟨K3, rfl⟩ : ∃ K3 : Nat, K2 = K3 + 1 := ⟨K2 - 1, by omega⟩
      have nle : ¬ nn ≤ x4 := fun q => by have := (leE (rfl : nn.toInt = nn.toInt) hx).mp q; omega
      have cx := clE hx (by omega)
      show fX2_doCallOrder_l33 N (43 + j) v nn Q1 _ x4 a
      unfold fX2_doCallOrder_l33
      refine ⟨fun q => absurd q nle, fun _ => ?_⟩
      refine q_value hN hX h hj hb (fun r1 r2 a1 b1 h1 er run => ⟨inE hx (by omega) (by omega), fun s es u eu => ?_⟩)
      have f : u.toInt = ((i + 1 : Nat) : Int) := (congrArg Int32.toInt eu).trans ((aOkE hx z1 (by omega) (by omega)).trans (by omega))
      rw [show x4.toNatClampNeg = i by omega] at es
      have h2 : Oq X j (nAr j (i + 1)) s (u1 b1 15 i r2) := by
        refine ⟨by rw [es]; exact (h1.1.ca hX (Or.inr rfl)).cb hX (by trivial) (Or.inr rfl), by rw [u1e (by omega)]; exact h1.2.1, fun q => ?_⟩
        rw [u1e (by omega)] at q
        obtain ⟨g1, g2, g36, g3⟩ := h1.2.2 q
        refine ⟨by rw [es, u1e (by omega)]; exact g1, by rw [u1e (by omega)]; exact g2, by rw [u1_ne (by omega)]; exact g36, fun k hk => ?_⟩
        rw [es]
        by_cases ek : k = i
        · rw [ek, u1v, u1v]
          exact er q
        · rw [u1e (by omega), u1e (by omega)]
          exact g3 k (by omega)
      refine ih K' K3 (i + 1) u s (u1 b1 15 i r2) f (by omega) (by omega) (by omega) h2 Q1 (fun a' b' h' run2 => hQ a' b' h' (fun Q2 z => ?_))
      refine ⟨fun q => absurd q nle, fun _ => ⟨fun _ => run _ ⟨inE hx (by omega) (by omega), fun s2 es2 u2' eu2 => ?_⟩, fun q => absurd hb q⟩⟩
      rw [eu2, ← eu, es2, show x4.toNatClampNeg = i by omega]
      exact run2 _ z
    · exact flt (m + 1) K K2 i x4 a b hx hm hK hK2 h hb Q1 hQ
theorem q_callOrder (hN : 4294967400 ≤ N) (hX : XA X) (hj : j < 40) (hx1 : x1.toInt = (j : Int)) (h : Oq X j (nAt j) a b) (h0 : b.1 0 9 = 0) (hQ : ∀ a' b' : St, Ru X a' b' → (∀ Q2 : St → Prop, Q2 b' → fX12_order_j54 N x1 6 Q2 b) → Q1 a') : fX2_doCallOrder N (43 + j) Q1 a := by
  have z4 : (4 : Int32).toInt = 4 := by decide
  unfold fX2_doCallOrder
  refine q_value hN hX h hj h0 (fun r1 r2 a1 b1 h1 er run => ?_)
  have ref : ∀ Q2 : St → Prop, fX12_order_j75 N x1 6 r2 Q2 b1 → fX12_order_j54 N x1 6 Q2 b := fun Q2 z => ⟨fun q => absurd q (by decide), fun _ => ⟨fun _ => run _ z, fun q => absurd h0 q⟩⟩
  by_cases f1 : b1.1 0 9 = 0
  · obtain rfl := er f1
    refine q_nextByte hX h1 f1 (fun a2 h2 r0 r255 hz hr => ?_)
    have ref2 : ∀ Q2 : St → Prop, (((((nb b1).1 0 9) = 0 → ((rdv b1 (b1.2 0 34) ≤ 4 → fX12_order_j182 N x1 6 r1 0 (rdv b1 (b1.2 0 34)) Q2 (nb b1)) ∧ (¬ rdv b1 (b1.2 0 34) ≤ 4 → fX12_fails N 6 (fun σ => fX12_order_j182 N x1 6 r1 0 (rdv b1 (b1.2 0 34)) Q2 σ) (nb b1)))) ∧ (¬ ((nb b1).1 0 9) = 0 → fX12_order_j182 N x1 6 r1 0 (rdv b1 (b1.2 0 34)) Q2 (nb b1)))) → fX12_order_j54 N x1 6 Q2 b := by
      intro Q2 z
      refine ref Q2 (r75 (fun w => ?_) (fun _ => ⟨fun _ => ⟨fun _ => ?_, fun q => absurd rfl q⟩, fun q => absurd rfl q⟩))
      · rcases w with w | w | w | w | w <;> exact absurd w (by decide)
      · refine r_read (fun v ev s es => ?_)
        rw [rds_2] at ev
        rw [ev] at es
        rw [es]
        exact z
    obtain ⟨r, er4⟩ : ∃ r : Int32, rdv b1 (b1.2 0 34) = r := ⟨_, rfl⟩
    obtain ⟨b2, eb⟩ : ∃ b2 : St, nb b1 = b2 := ⟨_, rfl⟩
    rw [er4] at r0 r255 hz ref2
    rw [eb] at h2 hz hr ref2
    rw [er4]
    unfold fX2_doCallOrder_j22
    by_cases f2 : b2.1 0 9 = 0
    · refine ⟨fun c => ?_, fun c => ?_⟩
      · have c' := (leE (rfl : r.toInt = r.toInt) z4).mp c
        rw [h2.1.f]
        refine ⟨fun _ => ?_, fun q => absurd f2 q⟩
        have h2' : Oq X j (nAr j 0) a2 b2 := ⟨h2.1, h2.2.1, fun q => ⟨(h2.2.2 q).1, (h2.2.2 q).2.1, (h2.2.2 q).2.2, fun k hk => absurd hk (by omega)⟩⟩
        refine q_args hN hX hj hx1 r0 c' r.toInt.toNat N N 0 0 a2 b2 (by decide) (by omega) (by omega) (by omega) h2' Q1 (fun a' b' h' run2 => hQ a' b' h' (fun Q2 z => ref2 Q2 ⟨fun _ => ⟨fun _ => ?_, fun q => absurd c q⟩, fun q => absurd f2 q⟩))
        unfold fX12_order_j182
        exact run2 _ z
      · have hf := h2.fl hX (x := 6) (by decide) (by decide)
        refine c_fail ?_
        rw [hf.1.1.f]
        refine ⟨fun q => absurd q hf.2, fun _ => hQ _ _ hf.1.1 (fun Q2 z => ref2 Q2 ⟨fun _ => ⟨fun q => absurd q c, fun _ => r_fails (e182 hN hf.1.1.g hf.2 z)⟩, fun q => absurd f2 q⟩)⟩
    · have key : Q1 a2 := hQ _ _ h2.1 (fun Q2 z => ref2 Q2 ⟨fun q => absurd q f2, fun _ => e182 hN h2.1.g f2 z⟩)
      refine ⟨fun _ => ?_, fun _ => c_failF h2 f2 ?_⟩
      · rw [h2.1.f]
        exact ⟨fun q => absurd q f2, fun _ => key⟩
      · rw [h2.1.f]
        exact ⟨fun q => absurd q f2, fun _ => key⟩
  · refine c_nextByteF hX h1 f1 (fun r a2 h2 => ?_)
    have key : Q1 a2 := hQ a2 (oF 6 b1) (h2.1.of6 hX) (fun Q2 z => ref Q2 (e75 hN h2.1.g f1 z))
    unfold fX2_doCallOrder_j22
    refine ⟨fun _ => ?_, fun _ => c_failF h2 f1 ?_⟩
    · rw [h2.1.f]
      exact ⟨fun q => absurd q f1, fun _ => key⟩
    · rw [h2.1.f]
      exact ⟨fun q => absurd q f1, fun _ => key⟩
end SIM11
