section SIM4
variable {X : St → St → Prop} {a b a' b' : St}
/-- jobs alone have changed -/
theorem Ru.jobs (hX : XA X) (h : Ru X a b) (ha : ∀ c j : Nat, ¬ (43 ≤ c ∧ c < 123) → a'.1 c j = a.1 c j) (hb : ∀ c j : Nat, ¬ (6 ≤ c ∧ c ≤ 13) → b'.1 c j = b.1 c j) (hb2 : b'.2 = b.2) (hG : G2 b') (hJ : b.1 0 9 = 0 → RJ a' b') : Ru X a' b' := by
  refine ⟨fun q hm => ?_, fun x hx => ?_, ?_, ?_, hG, ?_, fun h0 => hJ (by rw [hb 0 9 (by omega)] at h0; exact h0)⟩
  · have l := SC_lt q hm
    rw [ha _ _ (by omega), hb _ _ (by omega)]
    exact h.s q hm
  · rw [ha _ _ (by omega), hb _ _ (by omega)]
    exact h.m x hx
  · funext y
    rw [ha _ _ (by omega), hb _ _ (by omega)]
    exact congrFun h.o y
  · exact hX.2 _ b _ (fun c j q => hb c j (fun z => q (by unfold Xb; omega))) (fun c j _ => by rw [hb2]) (hX.1 a _ _ (fun c j q => ha c j (fun z => q (by unfold Xa; omega))) h.x)
  · rw [ha 3 11 (by omega), hb 0 9 (by omega)]
    exact h.f
/-- the reference, once a fault stands -/
theorem fl2_f (hb : b.1 0 9 ≠ 0) {x : Int32} : fl2 b x = b := if_neg hb
theorem rds_f (hb : b.1 0 9 ≠ 0) {y : Int64} : rds b y = b := by
  unfold rds
  rw [fl2_f hb]
  exact ite_self b
theorem pos9 (h : G2 b) (hb : b.1 0 9 ≠ 0) : ¬ b.1 0 9 ≤ 0 := fun c => by
  have z0 : (0 : Int32).toInt = 0 := by decide
  have := (leE (rfl : (b.1 0 9).toInt = (b.1 0 9).toInt) z0).mp c
  have f := K2.g_0_9 (K2.self h)
  exact hb (Int32.toInt_inj.mp (by omega))
theorem zer9 (hb : b.1 0 9 = 0) : b.1 0 9 ≤ 0 := by rw [hb]; decide
theorem r_readF {N : Nat} (hb : b.1 0 9 ≠ 0) {y : Int64} {Q : Int32 → St → Prop} (q : Q (rdv b y) b) : fX12_read N y Q b := r_read (by rw [rds_f hb]; exact q)
theorem f4s_f (hb : b.1 0 9 ≠ 0) {y : Int64} : f4s b y = b := by
  unfold f4s
  rw [rds_f hb, rds_f hb, rds_f hb, rds_f hb]
theorem r_fourF {N : Nat} (hN : 4294967400 ≤ N) (hb : b.1 0 9 ≠ 0) {y : Int64} {Q : Int32 → St → Prop} (q : Q (f4v b y) b) : fX12_four N y Q b := r_four hN (by rw [f4s_f hb]; exact q)
theorem r_failsF {N : Nat} (hb : b.1 0 9 ≠ 0) {x : Int32} {Q : St → Prop} (q : Q b) : fX12_fails N x Q b := r_fails (by rw [fl2_f hb]; exact q)
theorem r_laysF {N : Nat} (hb : b.1 0 9 ≠ 0) {k p : Int32} {Q : St → Prop} (q : Q b) : fX12_lays N k p Q b := by
  unfold fX12_lays fX12_lays_j22
  exact ⟨fun z => absurd z hb, fun _ => ⟨fun z => absurd z hb, fun _ => q⟩⟩
theorem r_j65F {N : Nat} (hg : G2 b) (hb : b.1 0 9 ≠ 0) {x1 x2 x3 x4 x5 : Int32} {Q : St → Prop} (q : Q b) : fX12_called_j65 N x1 x2 x3 x4 x5 Q b := by
  unfold fX12_called_j65
  exact r_laysF hb ⟨fun z => absurd z (pos9 hg hb), fun _ => q⟩
theorem r_j36F {N : Nat} (hg : G2 b) (hb : b.1 0 9 ≠ 0) {x1 x2 x3 x4 : Int32} {Q : St → Prop} (q : Q b) : fX12_called_j36 N x1 x2 x3 x4 Q b := by
  unfold fX12_called_j36
  exact r_readF hb ⟨fun z => absurd z hb, fun _ => r_j65F hg hb q⟩
theorem G2.fil (h : G2 b) {m r fst n : Nat} {v0 : Int32} : G2 (fil b m r fst n v0) := by
  refine ⟨fun k j => ?_, h.2.1.ext (fil_ne (by omega)) ?_ ?_, h.2.2.ext (fil_ne (by omega)) (fil_ne (by omega))⟩
  · by_cases c : k = 10
    · rw [c]
      trivial
    · rw [fil_ne (by omega)]
      exact h.1 k j
  · funext j
    exact fil_ne (by omega)
  · funext j
    exact fil_ne (by omega)
theorem q_called {N : Nat} (hN : 4294967400 ≤ N) (hX : XA X) (h : Ru X a b) {x to n : Int32} (hn : a.1 3 6 = n) (n0 : 0 ≤ n.toInt) (n4 : n.toInt ≤ 4) (har : ∀ i : Nat, (i : Int) < n.toInt → a.1 17 i = b.1 15 i) (hto : to.toInt = 255 ∨ (0 ≤ to.toInt ∧ to.toInt ≤ 7 ∧ 1 ≤ (b.1 0 14).toInt)) {Q1 : St → Prop} (hQ : ∀ a' b' : St, Ru X a' b' → (∀ Q2 : St → Prop, Q2 b' → fX12_called N x n to Q2 b) → Q1 a') : fX2_callFunction N x to Q1 a := by
  have z8 : (8 : Int32).toInt = 8 := by decide
  have z1 : (1 : Int32).toInt = 1 := by decide
  have z1L : (1 : Int64).toInt = 1 := by decide
  have bx := tB x
  unfold fX2_callFunction
  refine q_read hX h (x := x) (y := x.toInt64) (i2lE rfl) (fun r a1 b1 h1 hh r0 r255 run => ?_)
  rw [h1.f]
  refine ⟨fun c => ?_, fun c => hQ a1 b1 h1 (fun Q2 z => ?_)⟩
  · rcases hh with ⟨ea, eb, x0, xm⟩ | ⟨_, hz, _⟩
    · subst ea
      subst eb
      have run2 : ∀ Q2 : St → Prop, (r = 192 ∨ r = 193) → fX12_called_j36 N x n to r Q2 b1 → fX12_called N x n to Q2 b1 := by
        intro Q2 hr q
        unfold fX12_called
        refine run _ ⟨fun _ => ⟨fun _ => q, fun w => ⟨fun _ => q, fun w2 => ?_⟩⟩, fun w => absurd c w⟩
        rcases hr with hr | hr
        · exact absurd hr w
        · exact absurd hr w2
      have main : (r = 192 ∨ r = 193) → fX2_callFunction_j34 N x to r Q1 a1 := by
        intro hr
        unfold fX2_callFunction_j34
        have e1 : (x + 1).toInt = x.toInt + 1 := aOkE rfl z1 (by omega) (by omega)
        have e2 : (x.toInt64 + 1).toInt = x.toInt + 1 := aOkE64 (i2lE rfl) z1L (by omega) (by omega)
        refine q_read hX h1 (x := x + 1) (y := x.toInt64 + 1) (by omega) (fun r5 a2 b2 h2 hh2 r50 r55 runb => ?_)
        have flt : ∀ a3 b3 : St, Ru X a3 b3 → b3.1 0 9 ≠ 0 → (∀ Q2 : St → Prop, Q2 b3 → fX12_called N x n to Q2 b1) → fX2_callFunction_j55 N x to r r5 Q1 a3 := by
          intro a3 b3 h3 f3 run3
          unfold fX2_callFunction_j55 fX2_begin
          rw [h3.f]
          refine ⟨fun w => absurd w f3, fun _ => ⟨fun w => ?_, fun _ => hQ a3 b3 h3 run3⟩⟩
          exact absurd (h3.f.symm.trans w) f3
        refine ⟨fun c5 => ?_, fun c5 => ?_⟩
        · have d5 := (leE (rfl : r5.toInt = r5.toInt) z8).mp c5
          rcases hh2 with ⟨ea, eb, _, _⟩ | ⟨_, f2, _, _⟩
          · subst ea
            subst eb
            have run4 : ∀ Q2 : St → Prop, fX12_called_j65 N x n to r r5 Q2 b2 → fX12_called N x n to Q2 b2 := by
              intro Q2 q
              refine run2 Q2 hr ?_
              unfold fX12_called_j36
              exact runb _ ⟨fun _ => ⟨fun _ => q, fun w => absurd c5 w⟩, fun w => absurd c w⟩
            unfold fX2_callFunction_j55
            refine q_begin hX h2 (by decide) (fun a3 b3 h3 g3 run3 => ?_)
            rw [h3.f]
            refine ⟨fun c3 => ?_, fun c3 => hQ a3 b3 h3 (fun Q2 z => run4 Q2 ?_)⟩
            · obtain ⟨_, d3, fa, fb⟩ := g3 c3
              have d40 := h3.d40
              have hd3 := h3.dep
              have dz := h2.d40
              have cm := clE (rfl : (b2.1 0 14).toInt = (b2.1 0 14).toInt) dz.1
              obtain ⟨m, hm⟩ : ∃ m : Nat, (b2.1 0 14).toNatClampNeg = m := ⟨_, rfl⟩
              rw [hm] at cm fa
              have f1 : (b3.1 0 14 - 1).toInt = m := (sOkE rfl z1 (by omega) (by omega)).trans (by omega)
              have f2 := clE f1 (by omega)
              rw [hd3]
              refine ⟨fun w => ?_, fun _ => ⟨inE f1 (by omega) (by omega), ?_⟩⟩
              · rw [w] at d3
                have z0 : (0 : Int32).toInt = 0 := by decide
                omega
              · rw [show (b3.1 0 14 - 1).toNatClampNeg = m by omega]
                intro s1 e1 s2 e2
                have fin : ∀ t0 : Int32, (if t0 = 0 then 0 else 1) = (if r = 192 then 1 else 0) → fX2_callFunction_j119 N t0 (43 + m) Q1 s2 := by
                  intro t0 et
                  unfold fX2_callFunction_j119
                  have k36 : s2.1 3 6 = n := by rw [e2, u1e (by omega), e1, u1e (by omega), fa 3 6 (by omega)]; exact hn
                  have kr : s2.1 (43 + m) 4 = r5 := by rw [e2, u1e (by omega), e1, u1v]
                  refine c_fillLocals hN (by omega) (by omega) (n := n.toInt.toNat) (r := r5.toInt.toNat) (by rw [k36]; omega) (by omega) (by rw [kr]; omega) (by omega) (fun a4 k4 l4 => ?_)
                  rw [et, k36] at l4
                  obtain ⟨b4, hb4⟩ : ∃ b4 : St, b4 = fil (u1 (u1 b3 13 m to) 9 m r5) m r5.toInt.toNat (if r = 192 then 1 else 0) n.toInt.toNat n := ⟨_, rfl⟩
                  have kb : ∀ c j : Nat, ¬ (c = 10 ∧ 8 * m ≤ j ∧ j < 8 * m + 8) → ¬ (c = 13 ∧ j = m) → ¬ (c = 9 ∧ j = m) → b4.1 c j = b3.1 c j := by
                    intro c j q1 q2 q3
                    rw [hb4, fil_ne q1, u1e q3, u1e q2]
                  have ka : ∀ c j : Nat, ¬ (c = 83 + m ∧ j < 8) → ¬ (c = 43 + m ∧ (j = 4 ∨ j = 7)) → a4.1 c j = a3.1 c j := by
                    intro c j q1 q2
                    rw [k4.1 c j (by omega), e2, u1e (by omega), e1, u1e (by omega)]
                  have b9 : b4.1 9 m = r5 := by rw [hb4, fil_ne (by omega), u1v]
                  have b13 : b4.1 13 m = to := by rw [hb4, fil_ne (by omega), u1e (by omega), u1v]
                  have a4m : a4.1 (43 + m) 4 = r5 := by rw [k4.1 _ _ (by omega)]; exact kr
                  have a7m : a4.1 (43 + m) 7 = to := by rw [k4.1 _ _ (by omega), e2, u1v]
                  have hG : G2 b4 := by
                    rw [hb4]
                    refine G2.fil ((K2.ua (h3.k.u13 ?_) ?_ (by decide)).1)
                    · rcases hto with q | q
                      · exact Or.inl q
                      · exact Or.inr ⟨q.1, q.2.1, by omega⟩
                    · exact ⟨by omega, by omega⟩
                  refine hQ a4 b4 (h3.jobs hX (fun c j q => ka c j (by omega) (by omega)) (fun c j q => kb c j (by omega) (by omega) (by omega)) (by rw [hb4]; rfl) hG (fun _ j hj => ?_)) (fun Q2 z => run4 Q2 ?_)
                  · rw [kb 0 14 (by omega) (by omega) (by omega)] at hj
                    have J3 := h3.j c3 j hj
                    by_cases ej : j = m
                    · subst ej
                      refine ⟨fun f f1 f2 => ?_, fun i hi => ?_, J3.2.2.ext (kb _ _ (by omega) (by omega) (by omega)) (kb _ _ (by omega) (by omega) (by omega)) (kb _ _ (by omega) (by omega) (by omega))⟩
                      · by_cases q4 : f = 4
                        · subst q4
                          exact a4m.trans b9.symm
                        · by_cases q7 : f = 7
                          · subst q7
                            exact a7m.trans b13.symm
                          · have n9 : jr f ≠ 9 := fun w => q4 (jr_inj f1 f2 (by omega) (by omega) (w.trans (show 9 = jr 4 from rfl)))
                            have n13 : jr f ≠ 13 := fun w => q7 (jr_inj f1 f2 (by omega) (by omega) (w.trans (show 13 = jr 7 from rfl)))
                            have rg := jr_rg f
                            rw [ka _ _ (by omega) (by omega), kb _ _ (by omega) (by omega) (by omega)]
                            exact J3.1 f f1 f2
                      · rw [b9] at hi
                        rw [hb4, fil_at (by omega) (by omega)]
                        have hl := l4 i (by omega)
                        rw [show 43 + j + 40 = 83 + j by omega] at hl
                        rw [hl]
                        refine lf_congr (fun k hk => ?_)
                        rw [u1e (by omega), u1e (by omega), fb 15 k (Or.inr rfl), e2, u1e (by omega), e1, u1e (by omega), fa 17 k (by omega)]
                        exact har k (by omega)
                    · refine J3.ext (fun f => ka _ _ (by omega) (by omega)) (fun i => ka _ _ (by omega) (by omega)) (fun k k1 k2 k3 => kb _ _ (by omega) (by omega) (by omega)) (fun i _ => kb _ _ (by omega) (by omega) (by omega)) (g2_9 h3.g j).2
                  · unfold fX12_called_j65
                    refine run3 _ ⟨fun _ v9 ev9 => ?_, fun w => absurd (zer9 c3) w⟩
                    have g9 : v9.toInt = m := (congrArg Int32.toInt ev9).trans f1
                    have g9c := clE g9 (by omega)
                    refine ⟨inE g9 (by omega) (by omega), fun t1 h1 => ⟨inE g9 (by omega) (by omega), fun t2 h2 => ?_⟩⟩
                    rw [show v9.toNatClampNeg = m by omega] at h1 h2
                    refine r_fillX hN (n := n.toInt.toNat) (r := r5.toInt.toNat) (m := m) (by omega) (by omega) (by omega) (by omega) g9 (by omega) ?_
                    rw [h2, h1, ← hb4]
                    exact z
                exact ⟨fun w => fin 1 (by rw [if_pos w, if_neg (by decide)]), fun w => fin 0 (by rw [if_neg w, if_pos rfl])⟩
            · unfold fX12_called_j65
              exact run3 _ ⟨fun w => absurd w (pos9 h3.g c3), fun _ => z⟩
          · refine flt a2 b2 h2 f2 (fun Q2 z => run2 Q2 hr ?_)
            unfold fX12_called_j36
            exact runb _ ⟨fun w => absurd w f2, fun _ => r_j65F h2.g f2 z⟩
        · have hf := h2.fl hX (x := 4) (by decide) (by decide)
          refine c_fail (flt _ _ hf.1 hf.2 (fun Q2 z => run2 Q2 hr ?_))
          unfold fX12_called_j36
          refine runb _ ⟨fun _ => ⟨fun w => absurd w c5, fun _ => r_fails (r_j65F hf.1.g hf.2 z)⟩, fun w => ?_⟩
          rw [show fl2 b2 4 = b2 from if_neg w] at z
          exact r_j65F h2.g w z
      refine ⟨fun q => main (Or.inl q), fun q => ⟨fun q2 => main (Or.inr q2), fun q2 => ?_⟩⟩
      have hf := h1.fl hX (x := 4) (by decide) (by decide)
      refine c_fail (hQ _ _ hf.1 (fun Q2 z => ?_))
      unfold fX12_called
      exact run _ ⟨fun _ => ⟨fun w => absurd w q, fun _ => ⟨fun w => absurd w q2, fun _ => r_fails (r_j36F hf.1.g hf.2 z)⟩⟩, fun w => absurd c w⟩
    · exact absurd c hz
  · unfold fX12_called
    exact run _ ⟨fun w => absurd w c, fun _ => r_j36F h1.g c z⟩
/-- a sign is given, in step -/
theorem q_give {N : Nat} (hN : 4294967400 ≤ N) (hX : XA X) (h : Ru X a b) {x y : Int32} (exy : b.1 0 9 = 0 → x = y) {Q1 : St → Prop} (hQ : ∀ a' b' : St, Ru X a' b' → (∀ Q2 : St → Prop, Q2 b' → fX12_gives N y Q2 b) → Q1 a') : fX2_give N x Q1 a := by
  have z1 : (1 : Int32).toInt = 1 := by decide
  have zm : (1000 : Int32).toInt = 1000 := by decide
  have e9 : a.1 3 9 = b.1 0 12 := h.s.at 3 9 0 12 (by decide)
  have e10 : a.1 3 10 = b.1 0 13 := h.s.at 3 10 0 13 (by decide)
  have e8 : a.1 3 8 = b.1 0 24 := h.s.at 3 8 0 24 (by decide)
  unfold fX2_give
  rw [h.f]
  refine ⟨fun c => ?_, fun c => hQ a b h (fun Q2 z => ?_)⟩
  · obtain rfl := exy c
    rw [e9]
    refine ⟨fun q => ?_, fun q => ⟨fun q2 => ⟨inE (show (0 : Int32).toInt = 0 from by decide) (by omega) (by omega), fun s7 e7 s8 e8' => ?_⟩, fun q2 v ev s es => ?_⟩⟩
    · unfold fX2_putOut
      rw [e8]
      have d := K2.g_0_24 h.k
      have cc := clE (rfl : (b.1 0 24).toInt = (b.1 0 24).toInt) d.1
      refine ⟨fun w => ?_, fun w => ?_⟩
      · have w' := (ltE (rfl : (b.1 0 24).toInt = (b.1 0 24).toInt) zm).mp w
        refine ⟨inE (rfl : (b.1 0 24).toInt = (b.1 0 24).toInt) (by omega) (by omega), fun s3 e3 v4 ev4 s5 e5 v6 ev6 s7 e7 => ?_⟩
        have o1 := h.out hX (i := (b.1 0 24).toNatClampNeg) (v := x)
        rw [← e3] at o1
        have k3 : s3.1 3 8 = b.1 0 24 := by rw [e3, u1e (by omega)]; exact e8
        rw [k3] at ev4
        have f4 : v4.toInt = (b.1 0 24).toInt + 1 := (congrArg Int32.toInt ev4).trans (aOkE rfl z1 (by omega) (by omega))
        have o2 := o1.ab hX (k := 3) (j := 8) (j' := 24) (v := v4) (by decide) (by omega) (by omega) (Rg2.r_0_24 (by omega) (by omega))
        rw [← e5] at o2
        have k5 : s5.1 5 1 = b.1 0 26 := by
          rw [e5, u1e (by omega), e3, u1e (by omega)]
          exact h.s.at 5 1 0 26 (by decide)
        rw [k5] at ev6
        have o3 := o2.ab hX (k := 5) (j := 1) (j' := 26) (v := v6) (by decide) (by omega) (by omega) (by simp [Rg2])
        rw [← e7] at o3
        refine hQ _ _ o3 (fun Q2 z => ?_)
        unfold fX12_gives
        refine ⟨fun _ => ⟨fun _ => ⟨fun w2 => ?_, fun _ => ⟨inE (rfl : (b.1 0 24).toInt = (b.1 0 24).toInt) (by omega) (by omega), fun t1 g1 u1' gu1 t2 g2 u2' gu2 t3 g3 => ?_⟩⟩, fun w2 => absurd q w2⟩, fun w2 => absurd (zer9 c) w2⟩
        · rw [w2] at w'
          omega
        · rw [g1, u1e (by omega), ← ev4] at gu1
          rw [g1, gu1] at g2
          rw [g2, u1e (by omega), u1e (by omega), ← ev6] at gu2
          rw [g2, gu2] at g3
          rw [g3]
          exact z
      · have w' := (notltE (rfl : (b.1 0 24).toInt = (b.1 0 24).toInt) zm).mp w
        have hf := h.fl hX (x := 9) (by decide) (by decide)
        refine c_fail (hQ _ _ hf.1 (fun Q2 z => ?_))
        unfold fX12_gives
        refine ⟨fun _ => ⟨fun _ => ⟨fun _ => r_fails z, fun w2 => absurd (Int32.toInt_inj.mp (by omega)) w2⟩, fun w2 => absurd q w2⟩, fun w2 => absurd (zer9 c) w2⟩
    · have o1 : Ru X s8 (u1 b 15 0 x) := by
        rw [e8', e7]
        exact ((h.ca hX (Or.inr rfl)).ca hX (Or.inl ⟨rfl, Or.inl rfl⟩)).cb hX (by trivial) (Or.inr rfl)
      have k10 : s8.1 3 10 = b.1 0 13 := by rw [e8', u1e (by omega), e7, u1e (by omega)]; exact e10
      rw [k10]
      refine q_called hN hX o1 (x := b.1 0 13) (to := 255) (n := 1) (by rw [e8', u1v]) (by decide) (by decide) (fun i hi => ?_) (Or.inl (by decide)) (fun a' b' h' run => ?_)
      · have : i = 0 := by omega
        subst this
        rw [e8', u1e (by omega), e7]
        show (u1 a 17 0 x).1 17 0 = _
        rw [u1v, u1v]
      · have gv : ∀ Q2 : St → Prop, ((((b'.1 0 9) = 0 → fX12_gives_j112 N 1 (b'.1 0 27) Q2 b') ∧ (¬ (b'.1 0 9) = 0 → fX12_gives_j112 N 0 (b'.1 0 27) Q2 b'))) → fX12_gives N x Q2 b := by
          intro Q2 z
          unfold fX12_gives
          refine ⟨fun _ => ⟨fun w2 => absurd w2 q, fun _ => ⟨fun _ => ⟨inE (show (0 : Int32).toInt = 0 from by decide) (by omega) (by omega), fun t1 g1 => ?_⟩, fun w2 => absurd q2 w2⟩⟩, fun w2 => absurd (zer9 c) w2⟩
          have g1' : t1 = u1 b 15 0 x := g1
          rw [g1', u1e (by omega)]
          exact run _ z
        rw [h'.f]
        refine ⟨fun w v ev s es => ?_, fun w => hQ a' b' h' (fun Q2 z => gv Q2 ⟨fun w2 => absurd w2 w, fun _ v ev s es => ?_⟩)⟩
        · have k52 : a'.1 5 2 = b'.1 0 27 := h'.s.at 5 2 0 27 (by decide)
          rw [k52] at ev
          have o2 := h'.ab hX (k := 5) (j := 2) (j' := 27) (v := v) (by decide) (by omega) (by omega) (by simp [Rg2])
          rw [← es] at o2
          refine hQ _ _ o2 (fun Q2 z => gv Q2 ⟨fun _ v2 ev2 s2 es2 => ?_, fun w2 => absurd w w2⟩)
          rw [es2, ev2, ← ev]
          exact z
        · rw [es, ev, Int32.add_zero, u1_self]
          exact z
    · have k53 : a.1 5 3 = b.1 0 28 := h.s.at 5 3 0 28 (by decide)
      rw [k53] at ev
      have o2 := h.ab hX (k := 5) (j := 3) (j' := 28) (v := v) (by decide) (by omega) (by omega) (by simp [Rg2])
      rw [← es] at o2
      refine hQ _ _ o2 (fun Q2 z => ?_)
      unfold fX12_gives
      refine ⟨fun _ => ⟨fun w2 => absurd w2 q, fun _ => ⟨fun w2 => absurd w2 q2, fun _ v2 ev2 s2 es2 => ?_⟩⟩, fun w2 => absurd (zer9 c) w2⟩
      rw [es2, ev2, ← ev]
      exact z
  · unfold fX12_gives
    exact ⟨fun w => absurd w (pos9 h.g c), fun _ => z⟩
end SIM4
