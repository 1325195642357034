section SIM6
variable {X : St → St → Prop} {a b a' b' : St} {j : Nat} {n : (Nat → Int32) → Int32 → (Nat → Int32) → (Nat → Int32) → Prop}
theorem c_hasLocalF {N : Nat} {k : Nat} {x : Int32} {Q : Int32 → St → Prop} (h1 : 0 ≤ x.toInt → x.toInt < 8 → Q 1 a) (h2 : Q 0 a) : fX1_hasLocal N k x Q a := by
  have z0 : (0 : Int32).toInt = 0 := by decide
  have z8 : (8 : Int32).toInt = 8 := by decide
  unfold fX1_hasLocal
  refine ⟨fun _ => h2, fun c0 => ⟨fun _ => h2, fun _ => ⟨fun _ => h2, fun c => h1 ?_ ?_⟩⟩⟩
  · have := (notltE (rfl : x.toInt = x.toInt) z0).mp c0
    omega
  · have := (notleE z8 (rfl : x.toInt = x.toInt)).mp c
    omega
theorem c_localOfF {N : Nat} (hX : XA X) (h : Oq X j n a b) (hb : b.1 0 9 ≠ 0) {k : Nat} {x : Int32} {Q1 : Int32 → St → Prop} (hQ : ∀ (r : Int32) (a' : St), Oq X j n a' b → Q1 r a') : fX2_localOf N k x Q1 a := by
  have fl : fl1 a 6 = a := if_neg (fun q => hb (h.1.f.symm.trans q))
  unfold fX2_localOf
  refine c_hasLocalF (fun x0 x8 => ⟨fun w => absurd w (by decide), fun _ => ⟨inE (rfl : x.toInt = x.toInt) (by omega) (by omega), hQ _ a h⟩⟩) ⟨fun _ => c_fail ?_, fun w => absurd rfl w⟩
  rw [fl]
  exact hQ 0 a h
theorem c_failF {N : Nat} (h : Oq X j n a b) (hb : b.1 0 9 ≠ 0) {x : Int32} {Q : St → Prop} (q : Q a) : fX2_fail N x Q a :=
  c_fail (by rw [show fl1 a x = a from if_neg (fun q => hb (h.1.f.symm.trans q))]; exact q)
theorem c_nextValueF {N : Nat} (hX : XA X) (h : Oq X j n a b) (hb : b.1 0 9 ≠ 0) {k : Nat} {Q1 : Int32 → St → Prop} (hQ : ∀ (r : Int32) (a' : St), Oq X j n a' b → Q1 r a') : fX2_nextValue N k Q1 a := by
  unfold fX2_nextValue
  refine c_nextByteF hX h hb (fun r a1 h1 => ⟨fun _ => hQ _ _ h1, fun _ => ⟨fun _ => c_nextByteF hX h1 hb (fun r2 a2 h2 => hQ _ _ h2), fun _ => ⟨fun _ => c_nextFourF hX h1 hb (fun r2 a2 h2 => hQ _ _ h2), fun _ => ⟨fun _ => c_nextByteF hX h1 hb (fun r2 a2 h2 => c_localOfF hX h2 hb (fun r3 a3 h3 => hQ _ _ h3)), fun _ => c_failF h1 hb (hQ _ _ h1)⟩⟩⟩⟩)
theorem c_nextTargetF {N : Nat} (hX : XA X) (h : Oq X j n a b) (hb : b.1 0 9 ≠ 0) {k : Nat} {Q1 : Int32 → St → Prop} (hQ : ∀ (r : Int32) (a' : St), Oq X j n a' b → Q1 r a') : fX2_nextTarget N k Q1 a := by
  unfold fX2_nextTarget
  exact c_nextByteF hX h hb (fun r a1 h1 => ⟨fun _ => hQ _ _ h1, fun _ => c_hasLocalF (fun _ _ => ⟨fun _ => c_failF h1 hb (hQ _ _ h1), fun _ => hQ _ _ h1⟩) ⟨fun _ => c_failF h1 hb (hQ _ _ h1), fun _ => hQ _ _ h1⟩⟩)
theorem c_nextDistanceF {N : Nat} (hX : XA X) (h : Oq X j n a b) (hb : b.1 0 9 ≠ 0) {Q1 : Int32 → St → Prop} (hQ : ∀ (r : Int32) (a' : St), Oq X j n a' b → Q1 r a') : fX2_nextDistance N Q1 a := by
  unfold fX2_nextDistance
  exact c_nextByteF hX h hb (fun r a1 h1 v ev => c_nextByteF hX h1 hb (fun r2 a2 h2 => hQ _ _ h2))
/-- the reference's value, behind its first byte -/
def vbd (N : Nat) (r_2 : Int32) (Q : Int32 → St → Prop) (σ_4 : St) : Prop := ((r_2 = 1 → ∀ v_22 : Int64, v_22 = (σ_4.2 0 34) + 1 → ∀ σ_23 : St, σ_23 = u2 σ_4 0 34 v_22 → fX12_read N ((σ_23.2 0 34) - 1) (fun r_25 σ_24 => Q r_25.toInt8.toInt32 σ_24) σ_23) ∧ (¬ r_2 = 1 → ((r_2 = 2 → ∀ v_18 : Int64, v_18 = (σ_4.2 0 34) + 4 → ∀ σ_19 : St, σ_19 = u2 σ_4 0 34 v_18 → fX12_four N ((σ_19.2 0 34) - 4) (fun r_21 σ_20 => Q r_21 σ_20) σ_19) ∧ (¬ r_2 = 2 → ((r_2 = 3 → fX12_read N (σ_4.2 0 34) (fun r_11 σ_10 => ∀ v_12 : Int64, v_12 = (σ_10.2 0 34) + 1 → ∀ σ_13 : St, σ_13 = u2 σ_10 0 34 v_12 → vp_in (σ_13.1 0 35) 40 ∧ (((σ_13.1 9 (σ_13.1 0 35).toNatClampNeg) ≤ r_11 → fX12_fails N 6 (fun σ_16 => Q 0 σ_16) σ_13) ∧ (¬ (σ_13.1 9 (σ_13.1 0 35).toNatClampNeg) ≤ r_11 → vp_in ((8 * (σ_13.1 0 35)) + r_11) 320 ∧ Q (σ_13.1 10 ((8 * (σ_13.1 0 35)) + r_11).toNatClampNeg) σ_13))) σ_4) ∧ (¬ r_2 = 3 → ((r_2 = 0 → Q 0 σ_4) ∧ (¬ r_2 = 0 → fX12_fails N 6 (fun σ_9 => Q 0 σ_9) σ_4))))))))
theorem r_value {N : Nat} {Q : Int32 → St → Prop} (h : vbd N (rdv b (b.2 0 34)) Q (nb b)) : fX12_value N Q b := by
  unfold fX12_value
  refine r_read (fun v ev s es => ?_)
  rw [rds_2] at ev
  rw [ev] at es
  rw [es]
  exact h
theorem nb_ne {c i : Nat} (h : ¬ (c = 0 ∧ i = 9)) : (nb b).1 c i = b.1 c i := rds_ne h
theorem nb_f (hb : b.1 0 9 ≠ 0) : (nb b).1 0 9 ≠ 0 := by
  unfold nb
  rw [rds_f hb]
  exact hb
theorem q_value {N : Nat} (hN : 4294967400 ≤ N) (hX : XA X) (h : Oq X j n a b) (hj : j < 40) (h0 : b.1 0 9 = 0) {Q1 : Int32 → St → Prop} (hQ : ∀ (r1 r2 : Int32) (a' b' : St), Oq X j n a' b' → (b'.1 0 9 = 0 → r1 = r2) → (∀ Q2 : Int32 → St → Prop, Q2 r2 b' → fX12_value N Q2 b) → Q1 r1 a') : fX2_nextValue N (43 + j) Q1 a := by
  have z4 : (4 : Int32).toInt = 4 := by decide
  have z8 : (8 : Int32).toInt = 8 := by decide
  have z4L : (4 : Int64).toInt = 4 := by decide
  unfold fX2_nextValue
  refine q_nextByte hX h h0 (fun a1 h1 r0 r255 hz hr => ?_)
  have ref : ∀ Q2 : Int32 → St → Prop, vbd N (rdv b (b.2 0 34)) Q2 (nb b) → fX12_value N Q2 b := fun Q2 q => r_value q
  obtain ⟨r, er⟩ : ∃ r : Int32, rdv b (b.2 0 34) = r := ⟨_, rfl⟩
  obtain ⟨b1, eb⟩ : ∃ b1 : St, nb b = b1 := ⟨_, rfl⟩
  rw [er] at r0 r255 hz ref
  rw [eb] at h1 hz hr ref
  rw [er]
  have nf : r ≠ 0 → b1.1 0 9 = 0 := fun w => Classical.byContradiction (fun q => w (hz q))
  refine ⟨fun c => ?_, fun c => ⟨fun c1 => ?_, fun c1 => ⟨fun c2 => ?_, fun c2 => ⟨fun c3 => ?_, fun c3 => ?_⟩⟩⟩⟩
  · refine hQ 0 0 a1 b1 h1 (fun _ => rfl) (fun Q2 z => ref Q2 ?_)
    subst c
    exact ⟨fun w => absurd w (by decide), fun _ => ⟨fun w => absurd w (by decide), fun _ => ⟨fun w => absurd w (by decide), fun _ => ⟨fun _ => z, fun w => absurd rfl w⟩⟩⟩⟩
  · refine q_nextByte hX h1 (nf c) (fun a2 h2 _ _ _ _ => hQ _ _ a2 (nb b1) h2 (fun _ => rfl) (fun Q2 z => ref Q2 ⟨fun _ v ev s es => ?_, fun w => absurd c1 w⟩))
    rw [es, u2v, ev, Int64.add_sub_cancel]
    refine r_read ?_
    rw [rdv_u2, rds_u2]
    exact z
  · have f1 := nf c
    have e1 := (h1.2.2 f1).1
    unfold fX2_nextFour
    refine q_fourX hX h1.1 (y := b1.2 0 34) (Or.inl e1) (fun r9 a2 h2 hh v ev s es => ?_)
    have rr : ∀ Q2 : Int32 → St → Prop, Q2 (f4v b1 (b1.2 0 34)) (u2 (f4s b1 (b1.2 0 34)) 0 34 (b1.2 0 34 + 4)) → fX12_value N Q2 b := by
      intro Q2 z
      refine ref Q2 ⟨fun w => absurd w c1, fun _ => ⟨fun _ v ev s es => ?_, fun w => absurd c2 w⟩⟩
      rw [es, u2v, ev, Int64.add_sub_cancel]
      refine r_four hN ?_
      rw [f4v_u2, f4s_u2]
      exact z
    rcases hh with ⟨ea, eb2, er9, x0, xm⟩ | ⟨hz2, _⟩
    · subst ea
      have f3 : v.toInt = (a2.1 3 12).toInt + 4 := (congrArg Int32.toInt ev).trans (aOkE rfl z4 (by omega) (by omega))
      have f4 : (b1.2 0 34 + 4).toInt = (b1.2 0 34).toInt + 4 := aOkE64 rfl z4L (by omega) (by omega)
      rw [eb2, ← er9] at rr
      have hO := h1.nx hX (v := v) (w := b1.2 0 34 + 4) (fun _ => by omega)
      rw [← es] at hO
      exact hQ r9 r9 s _ hO (fun _ => rfl) rr
    · have hO : Oq X j n a2 (f4s b1 (b1.2 0 34)) := ⟨h2, by rw [f4s_ne (by omega)]; exact h1.2.1, fun q => absurd q hz2⟩
      have hO2 := hO.nx hX (v := v) (w := b1.2 0 34 + 4) (fun q => absurd q hz2)
      rw [← es] at hO2
      exact hQ r9 _ s _ hO2 (fun q => absurd q hz2) rr
  · have f1 := nf c
    refine q_nextByte hX h1 f1 (fun a2 h2 s0 s255 hz2 _ => ?_)
    obtain ⟨t, et⟩ : ∃ t : Int32, rdv b1 (b1.2 0 34) = t := ⟨_, rfl⟩
    obtain ⟨b2, eb2⟩ : ∃ b2 : St, nb b1 = b2 := ⟨_, rfl⟩
    have hj35 : (b2.1 0 35).toInt = (j : Int) := by rw [eb2] at h2; exact h2.2.1
    have cj := clE hj35 (by omega)
    have r9 := g2_9 (b := b2) (by rw [eb2] at h2; exact h2.1.g) j
    have g1 : (8 * (b2.1 0 35)).toInt = 8 * (j : Int) := mOkE z8 hj35 (by omega) (by omega)
    have rr : ∀ Q2 : Int32 → St → Prop, (((b2.1 9 j) ≤ t → fX12_fails N 6 (fun σ => Q2 0 σ) b2) ∧ (¬ (b2.1 9 j) ≤ t → vp_in ((8 * (b2.1 0 35)) + t) 320 ∧ Q2 (b2.1 10 ((8 * (b2.1 0 35)) + t).toNatClampNeg) b2)) → fX12_value N Q2 b := by
      intro Q2 z
      refine ref Q2 ⟨fun w => absurd w c1, fun _ => ⟨fun w => absurd w c2, fun _ => ⟨fun _ => ?_, fun w => absurd c3 w⟩⟩⟩
      refine r_read (fun v ev s es => ?_)
      rw [rds_2] at ev
      rw [ev] at es
      have es2 : s = b2 := by rw [es, ← eb2]; rfl
      rw [es2, et, show (b2.1 0 35).toNatClampNeg = j by omega]
      exact ⟨inE hj35 (by omega) (by omega), z⟩
    rw [et] at s0 s255 hz2
    rw [eb2] at h2 hz2
    rw [et]
    by_cases f2 : b2.1 0 9 = 0
    · obtain ⟨e1, e2, e3⟩ := h2.2.2 f2
      have J := h2.1.j f2 j (by omega)
      have J4 : a2.1 (43 + j) 4 = b2.1 9 j := J.1 4 (by omega) (by omega)
      unfold fX2_localOf
      refine c_hasLocal s0 (by rw [J4]; omega) (fun w => ?_) (fun w => ?_)
      · rw [J4] at w
        have g2 : (8 * (b2.1 0 35) + t).toInt = 8 * (j : Int) + t.toInt := aOkE g1 rfl (by omega) (by omega)
        have g2c := clE g2 (by omega)
        have tc := clE (rfl : t.toInt = t.toInt) s0
        have JL := J.2.1 t.toNatClampNeg (by omega)
        refine ⟨fun q => absurd q (by decide), fun _ => ⟨inE (rfl : t.toInt = t.toInt) (by omega) (by omega), hQ _ _ a2 b2 h2 (fun _ => ?_) (fun Q2 z => rr Q2 ⟨fun q => ?_, fun _ => ⟨inE g2 (by omega) (by omega), z⟩⟩)⟩⟩
        · rw [show 43 + j + 40 = 83 + j by omega, JL, show (8 * (b2.1 0 35) + t).toNatClampNeg = 8 * j + t.toNatClampNeg by omega]
        · have := (leE (rfl : (b2.1 9 j).toInt = (b2.1 9 j).toInt) (rfl : t.toInt = t.toInt)).mp q
          omega
      · rw [J4] at w
        have hf := h2.fl hX (x := 6) (by decide) (by decide)
        refine ⟨fun _ => c_fail (hQ 0 0 _ _ hf.1 (fun _ => rfl) (fun Q2 z => rr Q2 ⟨fun _ => r_fails z, fun q => ?_⟩)), fun q => absurd rfl q⟩
        have := (notleE (rfl : (b2.1 9 j).toInt = (b2.1 9 j).toInt) (rfl : t.toInt = t.toInt)).mp q
        omega
    · have t0 := hz2 f2
      have zt : t.toInt = 0 := by rw [t0]; decide
      by_cases d : b2.1 9 j ≤ t
      · exact c_localOfF hX h2 f2 (fun r3 a3 h3 => hQ r3 0 a3 b2 h3 (fun q => absurd q f2) (fun Q2 z => rr Q2 ⟨fun _ => r_failsF f2 z, fun w => absurd d w⟩))
      · have g2 : (8 * (b2.1 0 35) + t).toInt = 8 * (j : Int) + 0 := aOkE g1 zt (by omega) (by omega)
        exact c_localOfF hX h2 f2 (fun r3 a3 h3 => hQ r3 _ a3 b2 h3 (fun q => absurd q f2) (fun Q2 z => rr Q2 ⟨fun w => absurd w d, fun _ => ⟨inE g2 (by omega) (by omega), z⟩⟩))
  · have hf := h1.fl hX (x := 6) (by decide) (by decide)
    refine c_fail (hQ 0 0 _ _ hf.1 (fun _ => rfl) (fun Q2 z => ref Q2 ⟨fun w => absurd w c1, fun _ => ⟨fun w => absurd w c2, fun _ => ⟨fun w => absurd w c3, fun _ => ⟨fun w => absurd w c, fun _ => r_fails z⟩⟩⟩⟩))
theorem q_target {N : Nat} (hX : XA X) (h : Oq X j n a b) (hj : j < 40) (h0 : b.1 0 9 = 0) {Q1 : Int32 → St → Prop} (hQ : ∀ (r : Int32) (a' b' : St), Oq X j n a' b' → 0 ≤ r.toInt → r.toInt ≤ 255 → (b'.1 0 9 = 0 → r.toInt = 255 ∨ (0 ≤ r.toInt ∧ r.toInt < (b'.1 9 j).toInt)) → (∀ Q2 : Int32 → St → Prop, Q2 r b' → fX12_target N Q2 b) → Q1 r a') : fX2_nextTarget N (43 + j) Q1 a := by
  unfold fX2_nextTarget
  refine q_nextByte hX h h0 (fun a1 h1 r0 r255 hz hr => ?_)
  have ref : ∀ Q2 : Int32 → St → Prop, ((((rdv b (b.2 0 34)) = 255 → Q2 (rdv b (b.2 0 34)) (nb b)) ∧ (¬ (rdv b (b.2 0 34)) = 255 → (((rdv b (b.2 0 34)) < ((nb b).1 9 j) → Q2 (rdv b (b.2 0 34)) (nb b)) ∧ (¬ (rdv b (b.2 0 34)) < ((nb b).1 9 j) → fX12_fails N 6 (fun σ => Q2 (rdv b (b.2 0 34)) σ) (nb b)))))) → fX12_target N Q2 b := by
    intro Q2 z
    unfold fX12_target
    refine r_read (fun v ev s es => ?_)
    rw [rds_2] at ev
    rw [ev] at es
    have es2 : s = nb b := es
    have cj := clE h1.2.1 (by omega)
    rw [es2, show ((nb b).1 0 35).toNatClampNeg = j by omega]
    exact ⟨z.1, fun w => ⟨inE h1.2.1 (by omega) (by omega), z.2 w⟩⟩
  obtain ⟨r, er⟩ : ∃ r : Int32, rdv b (b.2 0 34) = r := ⟨_, rfl⟩
  obtain ⟨b1, eb⟩ : ∃ b1 : St, nb b = b1 := ⟨_, rfl⟩
  rw [er] at r0 r255 hz ref
  rw [eb] at h1 hz hr ref
  rw [er]
  refine ⟨fun c => hQ r a1 b1 h1 r0 r255 (fun _ => Or.inl (by rw [c]; decide)) (fun Q2 z => ref Q2 ⟨fun _ => z, fun w => absurd c w⟩), fun c => ?_⟩
  have r9 := g2_9 h1.1.g j
  by_cases f1 : b1.1 0 9 = 0
  · obtain ⟨e1, e2, e3⟩ := h1.2.2 f1
    have J := h1.1.j f1 j (by omega)
    have J4 : a1.1 (43 + j) 4 = b1.1 9 j := J.1 4 (by omega) (by omega)
    refine c_hasLocal r0 (by rw [J4]; omega) (fun w => ?_) (fun w => ?_)
    · rw [J4] at w
      refine ⟨fun q => absurd q (by decide), fun _ => hQ r a1 b1 h1 r0 r255 (fun _ => Or.inr ⟨r0, w⟩) (fun Q2 z => ref Q2 ⟨fun _ => z, fun _ => ⟨fun _ => z, fun q => ?_⟩⟩)⟩
      have := (notltE (rfl : r.toInt = r.toInt) (rfl : (b1.1 9 j).toInt = (b1.1 9 j).toInt)).mp q
      omega
    · rw [J4] at w
      have hf := h1.fl hX (x := 6) (by decide) (by decide)
      refine ⟨fun _ => c_fail (hQ r _ _ hf.1 r0 r255 (fun q => absurd q hf.2) (fun Q2 z => ref Q2 ⟨fun w => absurd w c, fun _ => ⟨fun q => ?_, fun _ => r_fails z⟩⟩)), fun q => absurd rfl q⟩
      have := (ltE (rfl : r.toInt = r.toInt) (rfl : (b1.1 9 j).toInt = (b1.1 9 j).toInt)).mp q
      omega
  · have key : Q1 r a1 := by
      by_cases d : r < b1.1 9 j
      · exact hQ r a1 b1 h1 r0 r255 (fun q => absurd q f1) (fun Q2 z => ref Q2 ⟨fun _ => z, fun _ => ⟨fun _ => z, fun q => absurd d q⟩⟩)
      · exact hQ r a1 b1 h1 r0 r255 (fun q => absurd q f1) (fun Q2 z => ref Q2 ⟨fun _ => z, fun _ => ⟨fun q => absurd q d, fun _ => r_failsF f1 z⟩⟩)
    exact c_hasLocalF (fun _ _ => ⟨fun _ => c_failF h1 f1 key, fun _ => key⟩) ⟨fun _ => c_failF h1 f1 key, fun _ => key⟩
theorem q_way {N : Nat} (hX : XA X) (h : Oq X j n a b) (h0 : b.1 0 9 = 0) {Q1 : Int32 → St → Prop} (hQ : ∀ (r1 r2 : Int32) (a' b' : St), Oq X j n a' b' → (b'.1 0 9 = 0 → r1 = r2) → (∀ i : Nat, b'.1 9 i = b.1 9 i) → (∀ Q2 : Int32 → St → Prop, Q2 r2 b' → fX12_way N Q2 b) → Q1 r1 a') : fX2_nextDistance N Q1 a := by
  have z1L : (1 : Int64).toInt = 1 := by decide
  have z2L : (2 : Int64).toInt = 2 := by decide
  unfold fX2_nextDistance
  refine q_nextByte hX h h0 (fun a1 h1 r0 r255 hz hr v ev => ?_)
  have ref : ∀ Q2 : Int32 → St → Prop, Q2 ((rdv b (b.2 0 34)).toInt8.toInt32 * 256 + rdv (rds b (b.2 0 34)) (b.2 0 34 + 1)) (u2 (rds (rds b (b.2 0 34)) (b.2 0 34 + 1)) 0 34 (b.2 0 34 + 2)) → fX12_way N Q2 b := by
    intro Q2 z
    unfold fX12_way
    refine r_read (fun v ev => ?_)
    rw [rds_2]
    refine r_read (fun v6 ev6 s es => ?_)
    rw [rds_2, rds_2] at ev6
    rw [es, ev6, ev]
    exact z
  by_cases f1 : (nb b).1 0 9 = 0
  · obtain ⟨n0, n4, nn⟩ := hr f1
    have e1 : (b.2 0 34 + 1).toInt = (b.2 0 34).toInt + 1 := aOkE64 rfl z1L (by omega) (by omega)
    have e2 : (b.2 0 34 + 2).toInt = (b.2 0 34).toInt + 2 := aOkE64 rfl z2L (by omega) (by omega)
    have n34 : (nb b).2 0 34 = b.2 0 34 + 1 := u2v
    have es : b.2 0 34 + 2 = b.2 0 34 + 1 + 1 := Int64.toInt_inj.mp (by rw [aOkE64 e1 z1L (by omega) (by omega)]; omega)
    refine q_nextByte hX h1 f1 (fun a2 h2 _ _ _ _ => ?_)
    have ev2 : rdv (nb b) ((nb b).2 0 34) = rdv (rds b (b.2 0 34)) (b.2 0 34 + 1) := by rw [n34]; rfl
    have eb2 : nb (nb b) = u2 (rds (rds b (b.2 0 34)) (b.2 0 34 + 1)) 0 34 (b.2 0 34 + 2) := by
      show u2 (rds (nb b) ((nb b).2 0 34)) 0 34 ((nb b).2 0 34 + 1) = _
      rw [n34, es]
      unfold nb
      rw [rds_u2, u2_u2]
    refine hQ _ _ a2 (nb (nb b)) h2 (fun _ => rfl) (fun i => (nb_ne (by omega)).trans (nb_ne (by omega))) (fun Q2 z => ref Q2 ?_)
    rw [eb2, ev2, ev] at z
    exact z
  · refine c_nextByteF hX h1 f1 (fun r2 a2 h2 => ?_)
    have eb2 : rds (rds b (b.2 0 34)) (b.2 0 34 + 1) = rds b (b.2 0 34) := rds_f (b := rds b (b.2 0 34)) f1
    have hO : Oq X j n a2 (u2 (rds (rds b (b.2 0 34)) (b.2 0 34 + 1)) 0 34 (b.2 0 34 + 2)) := by
      rw [eb2]
      have e3 : u2 (rds b (b.2 0 34)) 0 34 (b.2 0 34 + 2) = u2 (nb b) 0 34 (b.2 0 34 + 2) := by unfold nb; rw [u2_u2]
      rw [e3]
      exact ⟨h2.1.l hX, h2.2.1, fun q => absurd q f1⟩
    refine hQ _ _ a2 _ hO (fun q => ?_) (fun i => (rds_ne (by omega)).trans (rds_ne (by omega))) ref
    rw [eb2] at q
    exact absurd q f1
end SIM6
