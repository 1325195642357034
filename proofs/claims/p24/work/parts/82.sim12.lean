section SIM12
variable {X : St → St → Prop} {a b a' b' : St} {j N : Nat} {x1 op : Int32} {Q1 : St → Prop}
theorem q_order (hN : 4294967400 ≤ N) (hX : XA X) (hT : XT N X) (hW : XW X) (h : Ru X a b) (h0 : b.1 0 9 = 0) (hd : (b.1 0 14).toInt = (j : Int) + 1) (hk0 : b.1 6 j = 0) (hx1 : x1.toInt = (j : Int)) (hQ : ∀ a' b' : St, Ru X a' b' → (∀ Q2 : St → Prop, Q2 b' → fX12_order N x1 Q2 b) → Q1 a') : fX2_doOrder N (43 + j) Q1 a := by
  have z16 : (16 : Int32).toInt = 16 := by decide
  have z17 : (17 : Int32).toInt = 17 := by decide
  have d40 := h.d40
  have hj : j < 40 := by omega
  have cx := clE hx1 (by omega)
  have J := h.j h0 j (by omega)
  have J2 : a.1 (43 + j) 2 = b.1 7 j := J.1 2 (by omega) (by omega)
  unfold fX2_doOrder
  intro v1 ev1 s2 es2
  obtain ⟨b4, hb4⟩ : ∃ b4 : St, b4 = u2 (u1 b 0 35 x1) 0 34 (b.1 7 j).toInt64 := ⟨_, rfl⟩
  have b409 : b4.1 0 9 = 0 := by
    rw [hb4]
    show (u1 b 0 35 x1).1 0 9 = 0
    rw [u1e (by omega)]
    exact h0
  have hO : Oq X j (nAt j) s2 b4 := by
    refine ⟨?_, ?_, fun _ => ⟨?_, ?_, ?_⟩⟩
    · rw [es2, hb4]
      exact ((h.ca hX (Or.inl ⟨rfl, Or.inr rfl⟩)).cb hX (Rg2.r_0_35 (by omega) (by omega)) (Or.inl ⟨rfl, rfl⟩)).l hX
    · rw [hb4]
      show ((u1 b 0 35 x1).1 0 35).toInt = (j : Int)
      rw [u1v]
      exact hx1
    · rw [hb4, u2v, es2, u1v, ev1, J2, i2lE rfl]
    · rw [hb4]
      show ((u1 b 0 35 x1).1 0 14).toInt = (j : Int) + 1
      rw [u1e (by omega)]
      exact hd
    · rw [hb4]
      show (u1 b 0 35 x1).1 6 j = 0
      rw [u1e (by omega)]
      exact hk0
  refine q_nextByte hX hO b409 (fun a1 h1 r0 r255 hz hr => ?_)
  have ref : ∀ Q2 : St → Prop, ((((nb b4).1 0 9) = 0 → ((rdv b4 (b4.2 0 34) ≤ 17 → fX12_order_j54 N x1 (rdv b4 (b4.2 0 34)) Q2 (nb b4)) ∧ (¬ rdv b4 (b4.2 0 34) ≤ 17 → fX12_fails N 6 (fun σ_11 => fX12_order_j54 N x1 (rdv b4 (b4.2 0 34)) Q2 σ_11) (nb b4)))) ∧ (¬ ((nb b4).1 0 9) = 0 → fX12_order_j54 N x1 (rdv b4 (b4.2 0 34)) Q2 (nb b4))) → fX12_order N x1 Q2 b := by
    intro Q2 z
    unfold fX12_order
    intro s1 e1
    refine ⟨inE hx1 (by omega) (by omega), fun v3 ev3 s4 e4 => ?_⟩
    rw [e1, show x1.toNatClampNeg = j by omega, u1e (by omega)] at ev3
    have es4 : s4 = b4 := by rw [e4, ev3, e1, hb4]
    rw [es4]
    refine r_read (fun v ev s es => ?_)
    rw [rds_2] at ev
    rw [ev] at es
    rw [es]
    exact z
  obtain ⟨r, er⟩ : ∃ r : Int32, rdv b4 (b4.2 0 34) = r := ⟨_, rfl⟩
  obtain ⟨b1, eb⟩ : ∃ b1 : St, nb b4 = b1 := ⟨_, rfl⟩
  rw [er] at r0 r255 hz ref
  rw [eb] at h1 hz hr ref
  rw [er]
  have flt : ∀ (a2 b2 : St), Oq X j (nAt j) a2 b2 → b2.1 0 9 ≠ 0 → (∀ Q2 : St → Prop, fX12_order_j54 N x1 r Q2 b2 → fX12_order N x1 Q2 b) → fX2_doOrder_j25 N (43 + j) r Q1 a2 := by
    intro a2 b2 h2 f2 run
    unfold fX2_doOrder_j25
    rw [h2.1.f]
    exact ⟨fun q => absurd q f2, fun _ => hQ a2 (oF r b2) (h2.1.of6 hX) (fun Q2 z => run Q2 (e54 hN h2.1.g f2 z))⟩
  by_cases f1 : b1.1 0 9 = 0
  · refine ⟨fun c => ?_, fun c => ?_⟩
    · have c' := (leE (rfl : r.toInt = r.toInt) z17).mp c
      have ref1 : ∀ Q2 : St → Prop, fX12_order_j54 N x1 r Q2 b1 → fX12_order N x1 Q2 b := fun Q2 z => ref Q2 ⟨fun _ => ⟨fun _ => z, fun q => absurd c q⟩, fun q => absurd f1 q⟩
      unfold fX2_doOrder_j25
      rw [h1.1.f]
      refine ⟨fun _ => ⟨fun c6 => ?_, fun c6 => ?_⟩, fun q => absurd f1 q⟩
      · subst c6
        exact q_callOrder hN hX hj hx1 h1 f1 (fun a' b' h' run => hQ a' b' h' (fun Q2 z => ref1 Q2 (run _ z)))
      · have tb := optab r0 c' c6
        refine ⟨inE (rfl : r.toInt = r.toInt) r0 (by omega), fun c0 => ?_, fun c0 => ?_⟩
        · have g := tb.2.2.1.mp c0
          refine q_62 hN hX hT hW h1 (fun _ _ _ _ q => q) hj hx1 r0 c' c6 (v2 := 0) (fun _ => rfl) (fun a' b' h' run => hQ a' b' h' (fun Q2 z => ref1 Q2 ⟨fun _ => run _ z, fun q => ?_⟩))
          rcases g with w | w
          · exact absurd (by rw [w]; decide) q
          · exact absurd (by rw [w]; decide) q
        · have g : ¬ (r = 16 ∨ r = 17) := fun w => c0 (tb.2.2.1.mpr w)
          refine q_value hN hX h1 hj f1 (fun r1 r2 a2 b2 h2 er2 run1 => q_62 hN hX hT hW h2 (fun _ _ _ _ q => q) hj hx1 r0 c' c6 er2 (fun a' b' h' run => hQ a' b' h' (fun Q2 z => ref1 Q2 ⟨fun q => ?_, fun _ => ⟨fun _ => run1 _ (run _ z), fun q => absurd f1 q⟩⟩)))
          exfalso
          have := (leE z16 (rfl : r.toInt = r.toInt)).mp q
          have w : r.toInt = 16 ∨ r.toInt = 17 := by omega
          rcases w with w | w
          · exact g (Or.inl (Int32.toInt_inj.mp (by omega)))
          · exact g (Or.inr (Int32.toInt_inj.mp (by omega)))
    · have hf := h1.fl hX (x := 6) (by decide) (by decide)
      exact c_fail (flt _ _ hf.1 hf.2 (fun Q2 z => ref Q2 ⟨fun _ => ⟨fun q => absurd q c, fun _ => r_fails z⟩, fun q => absurd f1 q⟩))
  · have k := flt a1 b1 h1 f1 (fun Q2 z => ref Q2 ⟨fun q => absurd q f1, fun _ => z⟩)
    exact ⟨fun _ => k, fun _ => c_failF h1 f1 k⟩
end SIM12
