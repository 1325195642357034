section SIM15
variable {X : St → St → Prop} {a b a' b' : St} {j N : Nat} {x : Int32} {Q1 : St → Prop}
/-- the reference's step of a number -/
def stN (N : Nat) (x : Int32) (j : Nat) (Q : St → Prop) (σ : St) : Prop := vp_in x 40 ∧ vp_in x 40 ∧ fX12_digits N (σ.1 7 j) (fun r_17 σ_16 => (((σ.1 8 j) = r_17 → ∀ v_28 : Int32, v_28 = (σ_16.1 0 14) - 1 → ∀ σ_29 : St, σ_29 = u1 σ_16 0 14 v_28 → Q σ_29) ∧ (¬ (σ.1 8 j) = r_17 → vp_in x 40 ∧ ∀ v_20 : Int32, v_20 = (σ_16.1 8 j) + 1 → vp_in x 40 ∧ ∀ σ_22 : St, σ_22 = u1 σ_16 8 j v_20 → vp_in x 40 ∧ vp_in x 40 ∧ fX12_digit N (σ_22.1 7 j) ((σ_22.1 8 j) - 1) (fun r_26 σ_25 => fX12_gives N r_26 (fun σ_27 => Q σ_27) σ_25) σ_22))) σ
theorem q_number (hN : 4294967400 ≤ N) (hX : XA X) (h : Ru X a b) (h0 : b.1 0 9 = 0) (hd : (b.1 0 14).toInt = (j : Int) + 1) (hx : x.toInt = (j : Int)) (hk : b.1 6 j = 4) (hQ : ∀ a' b' : St, Ru X a' b' → (∀ Q2 : St → Prop, Q2 b' → stN N x j Q2 b) → Q1 a') : fX2_stepNumber N (43 + j) Q1 a := by
  have z0 : (0 : Int32).toInt = 0 := by decide
  have z1 : (1 : Int32).toInt = 1 := by decide
  have z0L : (0 : Int64).toInt = 0 := by decide
  have d40 := h.d40
  have J := h.j h0 j (by omega)
  have J2 : a.1 (43 + j) 2 = b.1 7 j := J.1 2 (by omega) (by omega)
  have J3 : a.1 (43 + j) 3 = b.1 8 j := J.1 3 (by omega) (by omega)
  have JB := J.2.2.2 hk
  have hin : vp_in x 40 := inE hx (by omega) (by omega)
  obtain ⟨p, ep⟩ : ∃ p : Int32, b.1 7 j = p := ⟨_, rfl⟩
  obtain ⟨bit, eb⟩ : ∃ bit : Int32, b.1 8 j = bit := ⟨_, rfl⟩
  rw [ep, eb] at JB
  rw [ep] at J2
  rw [eb] at J3
  have bp := tB p
  have e64 : p.toInt64.toInt = p.toInt := i2lE rfl
  have en := neg64 (p := p)
  have dle : dgN p.toInt.natAbs ≤ 10 := dgN_le 9 _ (by omega)
  have dge : 1 ≤ dgN p.toInt.natAbs := by have := dgN_g p.toInt.natAbs; omega
  have hdg : dgs p = (if p.toInt < 0 then 1 else 0) + (dgN p.toInt.natAbs : Int) := rfl
  unfold fX2_stepNumber
  intro v1 ev1
  rw [J2] at ev1
  have fv1 : v1.toInt = (p.toInt.natAbs : Int) := by
    rw [ev1]
    by_cases c : 0 < p.toInt64
    · rw [if_pos c]
      have := (ltE64 z0L e64).mp c
      omega
    · rw [if_neg c]
      have := (notltE64 z0L e64).mp c
      omega
  have core : ∀ t0 : Int32, t0.toInt = (if p.toInt < 0 then 1 else 0) → fX2_stepNumber_j21 N (43 + j) v1 t0 Q1 a := by
    intro t0 ht0
    have tb : 0 ≤ t0.toInt ∧ t0.toInt ≤ 1 := by rw [ht0]; split <;> omega
    unfold fX2_stepNumber_j21
    refine c_digitCount hN (by omega) (by omega) (fun r4 hr4 v5 ev5 => ?_)
    rw [show v1.toInt.toNat = p.toInt.natAbs by omega] at hr4
    rw [J3] at ev5
    have g1 : (t0 + r4).toInt = t0.toInt + (dgN p.toInt.natAbs : Int) := aOkE rfl hr4 (by omega) (by omega)
    have g2 : (t0 + r4 - 1).toInt = t0.toInt + (dgN p.toInt.natAbs : Int) - 1 := sOkE g1 z1 (by omega) (by omega)
    have g3 : v5.toInt = dgs p - 1 - bit.toInt := by
      rw [ev5, sOkE g2 (rfl : bit.toInt = bit.toInt) (by omega) (by omega), hdg, ← ht0]
    rw [J3]
    refine ⟨fun c => ?_, fun c v9 e9 s10 e10 => ?_⟩
    · have c' := (leE z0 g3).mp c
      have f1 : (bit + 1).toInt = bit.toInt + 1 := aOkE rfl z1 (by omega) (by omega)
      have h9 := h.bt hX (j := j) (by omega) (v := bit + 1) (fun _ _ => by rw [ep]; omega)
      have ref : ∀ Q2 : St → Prop, fX12_digit N p bit (fun r σ => fX12_gives N r (fun σ => Q2 σ) σ) (u1 b 8 j (bit + 1)) → stN N x j Q2 b := by
        intro Q2 z
        refine ⟨hin, hin, ?_⟩
        rw [ep, eb]
        refine r_digits hN (fun r hr => ⟨fun q => ?_, fun _ => ⟨hin, fun v20 e20 => ⟨hin, fun s22 e22 => ⟨hin, hin, ?_⟩⟩⟩⟩)
        · rw [← q] at hr
          omega
        · rw [eb] at e20
          rw [e22, u1e (by omega), ep, u1v, e20, Int32.add_sub_cancel]
          exact z
      have j72 : (p.toInt < 0 → bit.toInt ≠ 0) → fX2_stepNumber_j72 N (43 + j) v1 v5 Q1 a := by
        intro nb
        unfold fX2_stepNumber_j72 fX2_stepNumber_j73
        intro v8 e8 s9 e9
        rw [J3] at e8
        rw [e8] at e9
        rw [← e9] at h9
        refine ⟨fun _ => c_l100 v5.toInt.toNat N v1 0 (by omega) (by omega) (q_give hN hX h9 (fun _ => rfl) (fun a' b' h' run => hQ a' b' h' (fun Q2 z => ref Q2 ?_))), fun q => absurd rfl q⟩
        have r23 : ∀ y : Int64, y = v1 → fX12_digit_j23 N p bit y (fun r σ => fX12_gives N r (fun σ => Q2 σ) σ) (u1 b 8 j (bit + 1)) := by
          intro y ey
          subst ey
          unfold fX12_digit_j23
          refine r_digits hN (fun r hr w ew => ?_)
          have k1 : (r - 1).toInt = dgs p - 1 := sOkE hr z1 (by omega) (by omega)
          have k2 : w.toInt = dgs p - 1 - bit.toInt := (congrArg Int32.toInt ew).trans (sOkE k1 rfl (by omega) (by omega))
          exact r_l37 v5.toInt.toNat N y 0 (by omega) (by omega) (run _ z)
        unfold fX12_digit fX12_digit_j11
        refine ⟨fun q => ⟨fun _ => r23 _ ?_, fun q2 => absurd q q2⟩, fun q => ⟨fun q2 => ?_, fun _ => ⟨fun q2 => absurd q2 q, fun _ => r23 _ ?_⟩⟩⟩
        · have := (leE z0 (rfl : p.toInt = p.toInt)).mp q
          exact Int64.toInt_inj.mp (by omega)
        · have := (notleE z0 (rfl : p.toInt = p.toInt)).mp q
          rw [q2] at nb
          exact absurd z0 (nb (by omega))
        · have := (notleE z0 (rfl : p.toInt = p.toInt)).mp q
          exact Int64.toInt_inj.mp (by omega)
      refine ⟨fun c1 => ⟨fun c2 => ?_, fun c2 => j72 (fun _ q => c2 (Int32.toInt_inj.mp (by omega)))⟩, fun c1 => j72 (fun q => ?_)⟩
      · unfold fX2_stepNumber_j73
        intro v8 e8 s9 e9
        rw [J3] at e8
        rw [e8] at e9
        rw [← e9] at h9
        have pn : p.toInt < 0 := Classical.byContradiction (fun q => by rw [if_neg q, c1] at ht0; omega)
        refine ⟨fun q => absurd q (by decide), fun _ => q_give hN hX h9 (fun _ => rfl) (fun a' b' h' run => hQ a' b' h' (fun Q2 z => ref Q2 ?_))⟩
        unfold fX12_digit
        refine ⟨fun q => ?_, fun _ => ⟨fun _ => run _ z, fun q => absurd c2 q⟩⟩
        have := (leE z0 (rfl : p.toInt = p.toInt)).mp q
        omega
      · rw [if_pos q] at ht0
        exact absurd (Int32.toInt_inj.mp (by omega)) c1
    · have c' := (notleE z0 g3).mp c
      rw [h.dep] at e9
      have f : (b.1 0 14 - 1).toInt = (j : Int) := (sOkE rfl z1 (by omega) (by omega)).trans (by omega)
      have o := h.dp hX (v := b.1 0 14 - 1) (by omega) (by omega)
      rw [← e9, ← e10] at o
      refine hQ _ _ o (fun Q2 q => ⟨hin, hin, ?_⟩)
      rw [ep, eb]
      refine r_digits hN (fun r hr => ⟨fun _ v28 e28 s29 e29 => ?_, fun w => absurd (Int32.toInt_inj.mp (by omega)) w⟩)
      rw [e29, e28, ← e9]
      exact q
  rw [J2]
  refine ⟨fun c => core 0 ?_, fun c => core 1 ?_⟩
  · have := (leE z0 (rfl : p.toInt = p.toInt)).mp c
    rw [if_neg (by omega), z0]
  · have := (notleE z0 (rfl : p.toInt = p.toInt)).mp c
    rw [if_pos (by omega), z1]
end SIM15
