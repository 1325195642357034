section SIM44
variable {N : Nat} {a b : St}
theorem jn_cnt {L : Nat} {J0 : Jn} (hL : L ≤ 61) (h0 : cnt J0.2.1 L = L) : ∀ s : Nat, s + 1 ≤ L → cnt (jn L J0 s).2.1 (L + s) + s = L
  | 0, _ => by show cnt J0.2.1 (L + 0) + 0 = L; rw [Nat.add_zero]; omega
  | s + 1, hs => by
    have ih := jn_cnt hL h0 s (by omega)
    show cnt (upd (upd (upd (jn L J0 s).2.1 ((jn L J0 s).a (L + s)).toNatClampNeg 0) ((jn L J0 s).b (L + s)).toNatClampNeg 0) (L + s) 1) (L + (s + 1)) + (s + 1) = L
    have ra := ls_rg (h := (jn L J0 s).2.1) (u := (jn L J0 s).1) (L + s) (by omega)
    rcases ra with q | q
    · have := cnt_no (L + s) q.2
      omega
    · have qa := clE (rfl : (ls (jn L J0 s).2.1 (jn L J0 s).1 (L + s)).toInt = _) q.1
      have da := cnt_dn q.2.2 (L + s) (by omega)
      have rb := ls_rg (h := upd (jn L J0 s).2.1 (ls (jn L J0 s).2.1 (jn L J0 s).1 (L + s)).toNatClampNeg 0) (u := (jn L J0 s).1) (L + s) (by omega)
      rcases rb with w | w
      · have := cnt_no (L + s) w.2
        omega
      · have wb := clE (rfl : (ls (upd (jn L J0 s).2.1 (ls (jn L J0 s).2.1 (jn L J0 s).1 (L + s)).toNatClampNeg 0) (jn L J0 s).1 (L + s)).toInt = _) w.1
        have db := cnt_dn w.2.2 (L + s) (by omega)
        have e1 : cnt (upd (upd (upd (jn L J0 s).2.1 ((jn L J0 s).a (L + s)).toNatClampNeg 0) ((jn L J0 s).b (L + s)).toNatClampNeg 0) (L + s) 1) (L + s + 1) = cnt (upd (upd (upd (jn L J0 s).2.1 ((jn L J0 s).a (L + s)).toNatClampNeg 0) ((jn L J0 s).b (L + s)).toNatClampNeg 0) (L + s) 1) (L + s) + (if upd (upd (upd (jn L J0 s).2.1 ((jn L J0 s).a (L + s)).toNatClampNeg 0) ((jn L J0 s).b (L + s)).toNatClampNeg 0) (L + s) 1 (L + s) = 0 then 0 else 1) := rfl
        rw [up1, if_neg (by decide), cnt_ge (L + s) (Nat.le_refl _)] at e1
        rw [show L + (s + 1) = L + s + 1 by omega, e1]
        unfold Jn.b Jn.a
        omega
theorem jn_ge {L : Nat} {J0 : Jn} (hL : L ≤ 61) (h0 : cnt J0.2.1 L = L) {s : Nat} (hs : s + 1 < L) : (0 ≤ ((jn L J0 s).a (L + s)).toInt ∧ ((jn L J0 s).a (L + s)).toInt < (L + s : Nat) ∧ (jn L J0 s).2.1 ((jn L J0 s).a (L + s)).toNatClampNeg ≠ 0) ∧ 0 ≤ ((jn L J0 s).b (L + s)).toInt ∧ ((jn L J0 s).b (L + s)).toInt < (L + s : Nat) := by
  have ih := jn_cnt hL h0 s (by omega)
  have ra := ls_rg (h := (jn L J0 s).2.1) (u := (jn L J0 s).1) (L + s) (by omega)
  rcases ra with q | q
  · have := cnt_no (L + s) q.2
    omega
  · have qa := clE (rfl : (ls (jn L J0 s).2.1 (jn L J0 s).1 (L + s)).toInt = _) q.1
    have da := cnt_dn q.2.2 (L + s) (by omega)
    have rb := ls_rg (h := upd (jn L J0 s).2.1 (ls (jn L J0 s).2.1 (jn L J0 s).1 (L + s)).toNatClampNeg 0) (u := (jn L J0 s).1) (L + s) (by omega)
    rcases rb with w | w
    · have := cnt_no (L + s) w.2
      omega
    · exact ⟨q, w.1, w.2.1⟩
/-- the class takes the least -/
theorem c_least (hN : 4294967400 ≤ N) {n : Nat} {h u : Nat → Int32} (hn : n ≤ 121) (h9 : (a.1 9 9).toInt = n) (hA : ∀ i : Nat, i < n → (a.1 30 i = 0 ↔ h i ≠ 0) ∧ a.1 29 i = u i) (h0 : 0 ≤ (ls h u n).toInt) {Q : Int32 → St → Prop} (hQ : Q (ls h u n) (u1 a 30 (ls h u n).toNatClampNeg 1)) : fX0_takeLeast N Q a := by
  have z0 : (0 : Int32).toInt = 0 := by decide
  unfold fX0_takeLeast
  refine lo2_i (fun (x y : Int32) (τ : St) => τ = a ∧ 0 ≤ y.toInt ∧ y.toInt ≤ n ∧ x = ls h u y.toNatClampNeg) (fun _ y _ => ((n : Int) - y.toInt).toNat) ?_ N (-1) 0 a ⟨rfl, by omega, by omega, rfl⟩ (by (try dsimp only); omega)
  intro rr x y τ hI ih
  obtain ⟨rfl, i1, i2, i3⟩ := hI
  have ey := clE (rfl : y.toInt = y.toInt) i1
  have rg := ls_rg (h := h) (u := u) y.toNatClampNeg (by omega)
  rw [← i3] at rg
  unfold fX0_takeLeast_l4
  refine ⟨fun c => ?_, fun c => ?_⟩
  · have f := (leE h9 (rfl : y.toInt = y.toInt)).mp c
    rw [show y.toNatClampNeg = n by omega] at i3
    rw [i3]
    have rn := ls_rg (h := h) (u := u) n (by omega)
    have lt : (ls h u n).toInt < n := by
      rcases rn with q | q
      · rw [q.1] at h0; exact absurd h0 (by decide)
      · exact q.2.1
    refine ⟨fun w => ?_, fun _ => ⟨inE rfl h0 (by omega), fun s4 e4 => ?_⟩⟩
    · have := (ltE rfl z0).mp w
      omega
    · rw [e4, show vp_nar .boolean 1 = 1 from by decide]
      exact hQ
  · have f := (notleE h9 (rfl : y.toInt = y.toInt)).mp c
    have hin : vp_in y 121 := inE rfl (by omega) (by omega)
    have Ay := hA y.toNatClampNeg (by omega)
    have h42 : ∀ x' : Int32, x' = ls h u (y.toNatClampNeg + 1) → fX0_takeLeast_j42 N rr x' y Q τ := by
      intro x' hx' v ev
      have fv : v.toInt = y.toInt + 1 := (congrArg Int32.toInt ev).trans (aOkE rfl (show (1 : Int32).toInt = 1 from by decide) (by omega) (by omega))
      have cv : v.toNatClampNeg = y.toNatClampNeg + 1 := by have := clE fv (by omega); omega
      exact ih x' v τ ⟨rfl, by omega, by omega, by rw [cv]; exact hx'⟩ (by (try dsimp only); omega)
    have no : ¬ (h y.toNatClampNeg ≠ 0 ∧ (x < 0 ∨ u y.toNatClampNeg < u x.toNatClampNeg)) → fX0_takeLeast_j42 N rr x y Q τ := by
      intro w
      rw [i3] at w
      exact h42 x (i3.trans (show _ = (if _ then _ else _) from (if_neg w).symm))
    have yes : (h y.toNatClampNeg ≠ 0 ∧ (x < 0 ∨ u y.toNatClampNeg < u x.toNatClampNeg)) → fX0_takeLeast_j40 N rr y Q τ := by
      intro w
      rw [i3] at w
      exact h42 y ((nIcl i1).symm.trans (show _ = (if _ then _ else _) from (if_pos w).symm))
    refine ⟨hin, fun c2 => ⟨fun c3 => yes ⟨Ay.1.mp c2, Or.inl c3⟩, fun c3 => ?_⟩, fun c2 => no (fun w => c2 (Ay.1.mpr w.1))⟩
    have f3 := (notltE (rfl : x.toInt = x.toInt) z0).mp c3
    have hx : 0 ≤ x.toInt ∧ x.toInt < y.toNatClampNeg := by
      rcases rg with q | q
      · rw [q.1] at f3; exact absurd f3 (by decide)
      · exact ⟨q.1, q.2.1⟩
    have cx := clE (rfl : x.toInt = x.toInt) hx.1
    have Ax := hA x.toNatClampNeg (by omega)
    rw [Ay.2, Ax.2]
    refine ⟨hin, inE rfl hx.1 (by omega), fun c4 => no (fun w => ?_), fun c4 => yes ⟨Ay.1.mp c2, Or.inr ?_⟩⟩
    · rcases w.2 with q | q
      · exact c3 q
      · have := (leE (rfl : (u x.toNatClampNeg).toInt = _) (rfl : (u y.toNatClampNeg).toInt = _)).mp c4
        have := (ltE (rfl : (u y.toNatClampNeg).toInt = _) (rfl : (u x.toNatClampNeg).toInt = _)).mp q
        omega
    · have := (notleE (rfl : (u x.toNatClampNeg).toInt = _) (rfl : (u y.toNatClampNeg).toInt = _)).mp c4
      exact (ltE rfl rfl).mpr (by omega)
/-- the class's knots are these -/
def JAc (τ : St) (J : Jn) (n L : Nat) : Prop := ∀ i : Nat, i < n → τ.1 29 i = J.1 i ∧ (τ.1 30 i = 0 ↔ J.2.1 i ≠ 0) ∧ τ.1 33 i = J.2.2.2.2 i ∧ (L ≤ i → τ.1 31 i = J.2.2.1 i ∧ τ.1 32 i = J.2.2.2.1 i)
/-- a knot more -/
theorem c_knot {x1 x2 : Int32} {n : Nat} (hn : n ≤ 120) (h9 : (a.1 9 9).toInt = n) {Q : St → Prop} (hQ : ∀ τ : St, (∀ c i : Nat, ¬ ((c = 29 ∨ c = 30 ∨ c = 33) ∧ i = n ∨ (c = 9 ∧ i = 9)) → τ.1 c i = a.1 c i) → τ.1 29 n = x1 → τ.1 30 n = 0 → τ.1 33 n = x2 → (τ.1 9 9).toInt = n + 1 → Q τ) : fX0_addKnot N x1 x2 Q a := by
  have c9 : (a.1 9 9).toNatClampNeg = n := by have := clE h9 (by omega); omega
  have hin : vp_in (a.1 9 9) 121 := inE h9 (by omega) (by omega)
  unfold fX0_addKnot
  rw [c9]
  refine ⟨hin, fun s2 e2 => ?_⟩
  have v2 : s2.1 9 9 = a.1 9 9 := by rw [e2, u1e (by omega)]
  rw [v2, c9]
  refine ⟨hin, fun s4 e4 => ?_⟩
  have v4 : s4.1 9 9 = a.1 9 9 := by rw [e4, u1e (by omega), v2]
  rw [v4, c9]
  refine ⟨hin, fun s6 e6 v7 e7 s8 e8 => ?_⟩
  rw [show vp_nar .boolean 0 = 0 from by decide] at e6
  refine hQ s8 (fun c i q => ?_) ?_ ?_ ?_ ?_
  · rw [e8, u1e (by omega), e6, u1e (by omega), e4, u1e (by omega), e2, u1e (by omega)]
  · rw [e8, u1e (by omega), e6, u1e (by omega), e4, u1e (by omega), e2, u1v]
  · rw [e8, u1e (by omega), e6, u1v]
  · rw [e8, u1e (by omega), e6, u1e (by omega), e4, u1v]
  · rw [e8, u1v, e7, e6, u1e (by omega), v4]
    exact aOkE h9 (show (1 : Int32).toInt = 1 from by decide) (by omega) (by omega)
def FrK (σ τ : St) : Prop := ∀ c i : Nat, ¬ ((29 ≤ c ∧ c ≤ 33) ∨ (c = 9 ∧ i = 9)) → τ.1 c i = σ.1 c i
theorem c_joinAll (hN : 4294967400 ≤ N) {L : Nat} {J0 : Jn} (hL1 : 1 ≤ L) (hL : L ≤ 61) (h9 : (a.1 9 9).toInt = L) (h10 : (a.1 9 10).toInt = L) (hc : cnt J0.2.1 L = L) (hA : JAc a J0 L L) {Q : St → Prop} (hQ : ∀ τ : St, FrK a τ → (τ.1 9 9).toInt = 2 * (L : Int) - 1 → JAc τ (jn L J0 (L - 1)) (2 * L - 1) L → Q τ) : fX0_joinAll N Q a := by
  have z0 : (0 : Int32).toInt = 0 := by decide
  have z2 : (2 : Int32).toInt = 2 := by decide
  unfold fX0_joinAll
  intro v1 e1
  refine lo1_i (fun (y : Int32) (τ : St) => 1 ≤ y.toInt ∧ y.toInt ≤ L ∧ FrK a τ ∧ (τ.1 9 9).toInt = 2 * (L : Int) - y.toInt ∧ JAc τ (jn L J0 ((L : Int) - y.toInt).toNat) (L + ((L : Int) - y.toInt).toNat) L) (fun y _ => y.toInt.toNat) ?_ N v1 a ⟨by rw [e1]; omega, by rw [e1]; omega, fun _ _ _ => rfl, by rw [e1]; omega, by rw [e1, h10, show ((L : Int) - (L : Int)).toNat = 0 by omega]; exact hA⟩ (by (try dsimp only); rw [e1]; omega)
  intro rr y τ hI ih
  obtain ⟨i1, i2, i3, i4, i5⟩ := hI
  unfold fX0_joinAll_l5
  refine ⟨fun c => ?_, fun c => ?_⟩
  · have f := (ltE (rfl : y.toInt = y.toInt) z2).mp c
    refine hQ τ i3 (by omega) ?_
    rw [show ((L : Int) - y.toInt).toNat = L - 1 by omega, show L + (L - 1) = 2 * L - 1 by omega] at i5
    exact i5
  · have f := (notltE (rfl : y.toInt = y.toInt) z2).mp c
    obtain ⟨s, hs⟩ : ∃ s : Nat, ((L : Int) - y.toInt).toNat = s := ⟨_, rfl⟩
    rw [hs] at i5
    have h9' : (τ.1 9 9).toInt = (L + s : Nat) := by omega
    obtain ⟨⟨a1, a2, a3⟩, b1, b2⟩ := jn_ge hL hc (s := s) (by omega)
    have ca := clE (rfl : ((jn L J0 s).a (L + s)).toInt = _) a1
    have cb := clE (rfl : ((jn L J0 s).b (L + s)).toInt = _) b1
    refine ⟨fun c2 => ?_, fun _ => ?_⟩
    · have := (leE (show (121 : Int32).toInt = 121 from by decide) h9').mp c2
      omega
    refine c_least hN (n := L + s) (h := (jn L J0 s).2.1) (u := (jn L J0 s).1) (by omega) h9' (fun i hi => ⟨(i5 i hi).2.1, (i5 i hi).1⟩) a1 ?_
    refine c_least hN (n := L + s) (h := upd (jn L J0 s).2.1 ((jn L J0 s).a (L + s)).toNatClampNeg 0) (u := (jn L J0 s).1) (by omega) (by rw [u1e (by omega)]; exact h9') (fun i hi => ⟨?_, by rw [u1e (by omega)]; exact (i5 i hi).1⟩) b1 ?_
    · by_cases e : i = ((jn L J0 s).a (L + s)).toNatClampNeg
      · rw [e]
        show (u1 τ 30 ((jn L J0 s).a (L + s)).toNatClampNeg 1).1 30 _ = 0 ↔ _
        rw [u1v, up1]
        exact ⟨fun w => absurd w (by decide), fun w => absurd rfl w⟩
      · show (u1 τ 30 ((jn L J0 s).a (L + s)).toNatClampNeg 1).1 30 i = 0 ↔ _
        rw [u1e (by omega), up2 e]
        exact (i5 i hi).2.1
    · show ((jn L J0 s).a (L + s) < 0 → Q _) ∧ (¬ (jn L J0 s).a (L + s) < 0 → ((0 ≤ (jn L J0 s).b (L + s) → _) ∧ (¬ 0 ≤ (jn L J0 s).b (L + s) → Q _)))
      refine ⟨fun w => ?_, fun _ => ⟨fun _ => ?_, fun w => ?_⟩⟩
      · have := (ltE rfl z0).mp w
        omega
      · generalize hσ6 : u1 (u1 τ 30 (ls (jn L J0 s).2.1 (jn L J0 s).1 (L + s)).toNatClampNeg 1) 30 (ls (upd (jn L J0 s).2.1 ((jn L J0 s).a (L + s)).toNatClampNeg 0) (jn L J0 s).1 (L + s)).toNatClampNeg 1 = σ6
        have f6 : ∀ c i : Nat, c ≠ 30 → σ6.1 c i = τ.1 c i := fun c i q => by rw [← hσ6, u1e (fun z => q z.1), u1e (fun z => q z.1)]
        have c9 : (σ6.1 9 9).toNatClampNeg = L + s := by have := clE (show (σ6.1 9 9).toInt = (L + s : Nat) by rw [f6 _ _ (by omega)]; exact h9') (by omega); omega
        have hin9 : vp_in (σ6.1 9 9) 121 := inE (show (σ6.1 9 9).toInt = (L + s : Nat) by rw [f6 _ _ (by omega)]; exact h9') (by omega) (by omega)
        have hia : vp_in ((jn L J0 s).a (L + s)) 121 := inE rfl a1 (by omega)
        have hib : vp_in ((jn L J0 s).b (L + s)) 121 := inE rfl b1 (by omega)
        refine ⟨hin9, fun s11 e11 => ?_⟩
        rw [c9] at e11
        have g11 : s11.1 9 9 = σ6.1 9 9 := by rw [e11, u1e (by omega)]
        rw [g11, c9]
        refine ⟨hin9, fun s13 e13 => ⟨hia, hib, hia, hib, ?_⟩⟩
        have f13 : ∀ c i : Nat, c ≠ 30 → c ≠ 31 → c ≠ 32 → s13.1 c i = τ.1 c i := fun c i q1 q2 q3 => by rw [e13, u1e (fun z => q3 z.1), e11, u1e (fun z => q2 z.1), f6 _ _ q1]
        refine c_knot (n := L + s) (by omega) (by rw [f13 _ _ (by omega) (by omega) (by omega)]; exact h9') (fun s18 f18 k1 k2 k3 k4 v19 e19 => ?_)
        have f19 : v19.toInt = y.toInt + -1 := (congrArg Int32.toInt e19).trans (aOkE rfl (show (-1 : Int32).toInt = -1 from by decide) (by omega) (by omega))
        refine ih v19 s18 ⟨by omega, by omega, fun c i q => ?_, by omega, ?_⟩ (by (try dsimp only); omega)
        · rw [f18 _ _ (by omega), f13 _ _ (by omega) (by omega) (by omega)]
          exact i3 c i q
        · rw [show ((L : Int) - v19.toInt).toNat = s + 1 by omega]
          intro i hi
          show s18.1 29 i = upd (jn L J0 s).1 (L + s) ((jn L J0 s).1 ((jn L J0 s).a (L + s)).toNatClampNeg + (jn L J0 s).1 ((jn L J0 s).b (L + s)).toNatClampNeg) i ∧ (s18.1 30 i = 0 ↔ upd (upd (upd (jn L J0 s).2.1 ((jn L J0 s).a (L + s)).toNatClampNeg 0) ((jn L J0 s).b (L + s)).toNatClampNeg 0) (L + s) 1 i ≠ 0) ∧ s18.1 33 i = upd (jn L J0 s).2.2.2.2 (L + s) ((9 + (jn L J0 s).2.2.2.2 ((jn L J0 s).a (L + s)).toNatClampNeg) + (jn L J0 s).2.2.2.2 ((jn L J0 s).b (L + s)).toNatClampNeg) i ∧ (L ≤ i → s18.1 31 i = upd (jn L J0 s).2.2.1 (L + s) ((jn L J0 s).a (L + s)) i ∧ s18.1 32 i = upd (jn L J0 s).2.2.2.1 (L + s) ((jn L J0 s).b (L + s)) i)
          have ja := i5 _ (show ((jn L J0 s).a (L + s)).toNatClampNeg < L + s by omega)
          have jb := i5 _ (show ((jn L J0 s).b (L + s)).toNatClampNeg < L + s by omega)
          by_cases e : i = L + s
          · subst e
            rw [up1, up1, up1, up1, up1, k1, k2, k3, f13 29 _ (by omega) (by omega) (by omega), f13 29 _ (by omega) (by omega) (by omega), f13 33 _ (by omega) (by omega) (by omega), f13 33 _ (by omega) (by omega) (by omega)]
            refine ⟨?_, ⟨fun _ => by decide, fun _ => rfl⟩, ?_, fun _ => ⟨?_, ?_⟩⟩
            · show τ.1 29 ((jn L J0 s).a (L + s)).toNatClampNeg + τ.1 29 ((jn L J0 s).b (L + s)).toNatClampNeg = _
              rw [ja.1, jb.1]
            · show (9 + τ.1 33 ((jn L J0 s).a (L + s)).toNatClampNeg) + τ.1 33 ((jn L J0 s).b (L + s)).toNatClampNeg = _
              rw [ja.2.2.1, jb.2.2.1]
            · rw [f18 _ _ (by omega), e13, u1e (by omega), e11, u1v]
              rfl
            · rw [f18 _ _ (by omega), e13, u1v]
              rfl
          · have ji := i5 i (by omega)
            rw [up2 e, up2 e, up2 e, up2 e, up2 e, f18 _ _ (by omega), f18 _ _ (by omega), f18 _ _ (by omega), f13 29 _ (by omega) (by omega) (by omega), f13 33 _ (by omega) (by omega) (by omega)]
            refine ⟨ji.1, ?_, ji.2.2.1, fun hLi => ⟨?_, ?_⟩⟩
            · rw [e13, u1e (by omega), e11, u1e (by omega), ← hσ6]
              show (u1 (u1 τ 30 ((jn L J0 s).a (L + s)).toNatClampNeg 1) 30 ((jn L J0 s).b (L + s)).toNatClampNeg 1).1 30 i = 0 ↔ _
              by_cases eb : i = ((jn L J0 s).b (L + s)).toNatClampNeg
              · rw [eb, u1v, up1]
                exact ⟨fun w => absurd w (by decide), fun w => absurd rfl w⟩
              · rw [u1e (by omega), up2 eb]
                by_cases ea : i = ((jn L J0 s).a (L + s)).toNatClampNeg
                · rw [ea, u1v, up1]
                  exact ⟨fun w => absurd w (by decide), fun w => absurd rfl w⟩
                · rw [u1e (by omega), up2 ea]
                  exact ji.2.1
            · rw [f18 _ _ (by omega), e13, u1e (by omega), e11, u1e (by omega), f6 _ _ (by omega)]
              exact (ji.2.2.2 hLi).1
            · rw [f18 _ _ (by omega), e13, u1e (by omega), e11, u1e (by omega), f6 _ _ (by omega)]
              exact (ji.2.2.2 hLi).2
      · exact absurd ((leE z0 rfl).mpr b1) w
end SIM44
