section SIM13
variable {X : St → St → Prop} {a b a' b' : St} {j N : Nat} {x x2 inc r1 r2 : Int32} {Q1 : St → Prop}
theorem Ru.b7F (hX : XA X) (h : Ru X a b) (hb : b.1 0 9 ≠ 0) {v : Int32} : Ru X a (u1 b 7 j v) :=
  h.jobs hX (fun _ _ _ => rfl) (fun c y q => u1e (by omega)) rfl (h.g.ua (by trivial) (by decide)) (fun q => absurd q hb)
theorem r_givesF {y : Int32} {Q : St → Prop} (hg : G2 b) (hb : b.1 0 9 ≠ 0) (q : Q b) : fX12_gives N y Q b := by
  unfold fX12_gives
  exact ⟨fun w => absurd w (pos9 hg hb), fun _ => q⟩
/-- the sign that was read of a row is given, or the row is over -/
theorem q_139 (hN : 4294967400 ≤ N) (hX : XA X) (h : Ru X a b) (hd : (b.1 0 14).toInt = (j : Int) + 1) (hx : x.toInt = (j : Int)) (hk : b.1 6 j = x2) (h2 : (x2 = 1 ∧ inc = 1) ∨ (x2 = 2 ∧ inc = 4)) (er : b.1 0 9 = 0 → r1 = r2) (hQ : ∀ a' b' : St, Ru X a' b' → (∀ Q2 : St → Prop, Q2 b' → fX12_step_j139 N x x2 r2 Q2 b) → Q1 a') : (((a.1 3 11) = 0 → ((r1 = 0 → ∀ v_8 : Int32, v_8 = (a.1 3 7) - 1 → ∀ σ_9 : St, σ_9 = u1 a 3 7 v_8 → Q1 σ_9) ∧ (¬ r1 = 0 → ∀ v_5 : Int32, v_5 = (a.1 (43 + j) 2) + inc → ∀ σ_6 : St, σ_6 = u1 a (43 + j) 2 v_5 → fX2_give N r1 (fun σ_7 => Q1 σ_7) σ_6))) ∧ (¬ (a.1 3 11) = 0 → Q1 a)) := by
  have z1 : (1 : Int32).toInt = 1 := by decide
  have d40 := h.d40
  have cx := clE hx (by omega)
  have r164 : ∀ (Q2 : St → Prop) (v : Int32), v = b.1 7 j + inc → fX12_gives N r2 Q2 (u1 b 7 j v) → fX12_step_j164 N x x2 r2 Q2 b := by
    intro Q2 v ev z
    refine ⟨inE hx (by omega) (by omega), fun q => ?_, fun q => ?_⟩
    · rcases h2 with ⟨_, e⟩ | ⟨e, _⟩
      · intro v14 e14
        rw [show x.toNatClampNeg = j by omega] at e14
        refine ⟨inE hx (by omega) (by omega), fun s es => ?_⟩
        rw [es, e14, show x.toNatClampNeg = j by omega]
        rw [ev, e] at z
        exact z
      · rw [e] at q
        exact absurd q (by decide)
    · rcases h2 with ⟨e, _⟩ | ⟨_, e⟩
      · exact absurd e q
      · intro v14 e14
        rw [show x.toNatClampNeg = j by omega] at e14
        refine ⟨inE hx (by omega) (by omega), fun s es => ?_⟩
        rw [es, e14, show x.toNatClampNeg = j by omega]
        rw [ev, e] at z
        exact z
  rw [h.f]
  refine ⟨fun c => ⟨fun z v8 e8 s9 e9 => ?_, fun nz v5 e5 s6 e6 => ?_⟩, fun c => ?_⟩
  · obtain rfl := er c
    rw [h.dep] at e8
    have f : (b.1 0 14 - 1).toInt = (j : Int) := (sOkE rfl z1 (by omega) (by omega)).trans (by omega)
    have o := h.dp hX (v := b.1 0 14 - 1) (by omega) (by omega)
    rw [← e8, ← e9] at o
    refine hQ _ _ o (fun Q2 q => ⟨fun _ => ⟨fun _ v13 e13 s14 e14 => ?_, fun w => absurd z w⟩, fun w => absurd c w⟩)
    rw [e14, e13, ← e8]
    exact q
  · obtain rfl := er c
    have J := h.j c j (by omega)
    have J2 : a.1 (43 + j) 2 = b.1 7 j := J.1 2 (by omega) (by omega)
    rw [J2] at e5
    have o := h.pl hX (j := j) (by omega) (fun _ q => by rcases h2 with ⟨e, _⟩ | ⟨e, _⟩ <;> (rw [hk, e] at q; exact absurd q (by decide))) (v := v5)
    rw [← e6] at o
    refine q_give hN hX o (fun _ => rfl) (fun a' b' h' run => hQ a' b' h' (fun Q2 q => ⟨fun _ => ⟨fun w => absurd w nz, fun _ => r164 Q2 v5 e5 (run _ q)⟩, fun w => absurd c w⟩))
  · refine hQ a (u1 b 7 j (b.1 7 j + inc)) (h.b7F hX c) (fun Q2 q => ⟨fun w => absurd w c, fun _ => r164 Q2 _ rfl ?_⟩)
    exact r_givesF (h.b7F hX c (j := j)).g (by rw [u1e (by omega)]; exact c) q
theorem q_plain (hN : 4294967400 ≤ N) (hX : XA X) (h : Ru X a b) (h0 : b.1 0 9 = 0) (hd : (b.1 0 14).toInt = (j : Int) + 1) (hx : x.toInt = (j : Int)) (hk : b.1 6 j = 1) (hQ : ∀ a' b' : St, Ru X a' b' → (∀ Q2 : St → Prop, Q2 b' → fX12_read N ((b.1 7 j).toInt64) (fun r σ => fX12_step_j139 N x 1 r Q2 σ) b) → Q1 a') : fX2_stepPlain N (43 + j) Q1 a := by
  have J := h.j h0 j (by omega)
  have J2 : a.1 (43 + j) 2 = b.1 7 j := J.1 2 (by omega) (by omega)
  unfold fX2_stepPlain
  rw [J2]
  refine q_readX hX h (y := (b.1 7 j).toInt64) (i2lE rfl) (fun a1 h1 hh r0 r255 => ?_)
  exact q_139 hN hX h1 (by rw [rds_ne (by omega)]; exact hd) hx (by rw [rds_ne (by omega)]; exact hk) (Or.inl ⟨rfl, rfl⟩) (fun _ => rfl) (fun a' b' h' run => hQ a' b' h' (fun Q2 z => r_read (run _ z)))
theorem q_wide (hN : 4294967400 ≤ N) (hX : XA X) (h : Ru X a b) (h0 : b.1 0 9 = 0) (hd : (b.1 0 14).toInt = (j : Int) + 1) (hx : x.toInt = (j : Int)) (hk : b.1 6 j = 2) (hQ : ∀ a' b' : St, Ru X a' b' → (∀ Q2 : St → Prop, Q2 b' → fX12_four N ((b.1 7 j).toInt64) (fun r σ => fX12_step_j139 N x 2 r Q2 σ) b) → Q1 a') : fX2_stepWide N (43 + j) Q1 a := by
  have J := h.j h0 j (by omega)
  have J2 : a.1 (43 + j) 2 = b.1 7 j := J.1 2 (by omega) (by omega)
  unfold fX2_stepWide
  rw [J2]
  refine q_fourX hX h (y := (b.1 7 j).toInt64) (Or.inl (i2lE rfl)) (fun r a1 h1 hh => ?_)
  exact q_139 hN hX h1 (by rw [f4s_ne (by omega)]; exact hd) hx (by rw [f4s_ne (by omega)]; exact hk) (Or.inr ⟨rfl, rfl⟩) (fun q => hh.elim (fun g => g.2.2.1) (fun g => absurd q g.1)) (fun a' b' h' run => hQ a' b' h' (fun Q2 z => r_four hN (run _ z)))
end SIM13
