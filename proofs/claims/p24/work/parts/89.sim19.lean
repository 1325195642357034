section SIM19
variable {X : St → St → Prop} {a b a' b' : St} {j N : Nat} {x : Int32} {Q1 : St → Prop}
theorem u1_comm {σ : St} {k i k' i' : Nat} {v w : Int32} (h : ¬ (k = k' ∧ i = i')) : u1 (u1 σ k i v) k' i' w = u1 (u1 σ k' i' w) k i v := by
  refine Prod.ext ?_ rfl
  funext c y
  by_cases e : c = k ∧ y = i
  · rw [e.1, e.2, u1v, u1e h, u1v]
  · by_cases e2 : c = k' ∧ y = i'
    · rw [e2.1, e2.2, u1v, u1e (fun z => h ⟨z.1.symm, z.2.symm⟩), u1v]
    · rw [u1e e2, u1e e, u1e e, u1e e2]
theorem q_44 (hN : 4294967400 ≤ N) (hX : XA X) (h : Ru X a b) (hd : b.1 0 9 = 0 → (b.1 0 14).toInt = (j : Int) + 1) (hj : j < 40) (hx : x.toInt = (j : Int)) (hk : b.1 6 j = 3) {t1 t2 : Int32} (et : b.1 0 9 = 0 → t1 = t2) (hQ : ∀ a' b' : St, Ru X a' b' → (∀ Q2 : St → Prop, Q2 b' → fX12_packed_j44 N x t2 Q2 b) → Q1 a') : fX2_stepPacked_j44 N (43 + j) t1 Q1 a := by
  have z1 : (1 : Int32).toInt = 1 := by decide
  have z1L : (1 : Int64).toInt = 1 := by decide
  have z8 : (8 : Int32).toInt = 8 := by decide
  have z11 : (11 : Int32).toInt = 11 := by decide
  have cx := clE hx (by omega)
  have ex : x.toNatClampNeg = j := by omega
  have hin : vp_in x 40 := inE hx (by omega) (by omega)
  unfold fX2_stepPacked_j44
  rw [h.f]
  refine ⟨fun f => ?_, fun f => hQ a b h (fun Q2 z => ?_)⟩
  · obtain rfl := et f
    refine q_readX hX h (y := t1.toInt64) (i2lE rfl) (fun a1 h1 hh r0 r255 => ?_)
    rw [h1.f]
    refine ⟨fun c => ?_, fun c => hQ _ _ h1 (fun Q2 z => ?_)⟩
    · rcases hh with ⟨ea, eb, x0, xm⟩ | ⟨hz, _, _⟩
      · subst ea
        obtain ⟨r, er⟩ : ∃ r : Int32, rdv b t1.toInt64 = r := ⟨_, rfl⟩
        rw [er] at r0 r255
        rw [er]
        have hd' := hd f
        have n4 : b.1 0 9 = 0 → b.1 6 j ≠ 4 := fun _ q => by rw [hk] at q; exact absurd q (by decide)
        have g1 : (t1 + 1).toInt = t1.toInt + 1 := aOkE rfl z1 (by omega) (by omega)
        have l1 : (t1.toInt64 + 1).toInt = t1.toInt + 1 := aOkE64 (i2lE rfl) z1L (by omega) (by omega)
        have ref0 : r = 0 → ∀ Q2 : St → Prop, fX12_read N ((b.1 7 x.toNatClampNeg).toInt64) (fun r_29 σ_28 => vp_in x 40 ∧ ∀ v_31 : Int32, v_31 = (r_29 >>> ((σ_28.1 8 x.toNatClampNeg) &&& 31)) &&& 1 → ((v_31 = 0 → fX12_packed_j106 N x 1 t1.toInt64 x Q2 σ_28) ∧ (¬ v_31 = 0 → fX12_packed_j106 N x 5 t1.toInt64 x Q2 σ_28))) b → fX12_packed_j44 N x t1 Q2 b := by
          intro q Q2 z
          unfold fX12_packed_j44
          refine r_read ?_
          rw [er, eb]
          exact ⟨fun _ => ⟨fun _ => ⟨hin, z⟩, fun w => absurd q w⟩, fun w => absurd (zer9 f) w⟩
        have ref1 : ∀ Q2 : St → Prop, ¬ r = 0 → ((r = 1 → ∀ v_25 : Int32, v_25 = ((u1 b 11 j 1).1 0 14) - 1 → ∀ σ_26 : St, σ_26 = u1 (u1 b 11 j 1) 0 14 v_25 → Q2 σ_26) ∧ (¬ r = 1 → ((r = 2 → fX12_read N (t1.toInt64 + 1) (fun r_23 σ_22 => fX12_gives N r_23 (fun σ_24 => Q2 σ_24) σ_22) (u1 b 11 j 1)) ∧ (¬ r = 2 → ((r = 4 → fX12_four N (t1.toInt64 + 1) (fun r_20 σ_19 => fX12_gives N r_20 (fun σ_21 => Q2 σ_21) σ_19) (u1 b 11 j 1)) ∧ (¬ r = 4 → ((r = 3 → fX12_packed_j232 N t1 r Q2 (u1 b 11 j 1)) ∧ (¬ r = 3 → ((r = 5 → fX12_packed_j232 N t1 r Q2 (u1 b 11 j 1)) ∧ (¬ r = 5 → ((r < 8 → fX12_packed_j273 N Q2 (u1 b 11 j 1)) ∧ (¬ r < 8 → ((11 < r → fX12_packed_j273 N Q2 (u1 b 11 j 1)) ∧ (¬ 11 < r → fX12_thing N t1 r (fun σ_18 => Q2 σ_18) (u1 b 11 j 1))))))))))))))) → fX12_packed_j44 N x t1 Q2 b := by
          intro Q2 q z
          unfold fX12_packed_j44
          refine r_read ?_
          rw [er, eb]
          refine ⟨fun _ => ⟨fun w => absurd w q, fun _ => ⟨hin, fun s10 e10 => ?_⟩⟩, fun w => absurd (zer9 f) w⟩
          have e10' : s10 = u1 b 11 j 1 := by rw [e10, ex]; rfl
          rw [e10']
          exact z
        refine ⟨fun q => q_follow hN hX h f hd' hx hk x0 xm (fun a' b' h' run => hQ a' b' h' (fun Q2 z => ref0 q Q2 (run _ z))), fun q => ⟨fun q1 v11 e11 s12 e12 => ?_, fun q1 s9 e9 => ?_⟩⟩
        · rw [h.dep] at e11
          have fd : (b.1 0 14 - 1).toInt = (j : Int) := (sOkE rfl z1 (by omega) (by omega)).trans (by omega)
          have o := (h.dp hX (v := b.1 0 14 - 1) (by omega) (by omega)).jF hX (j := j) (c := 11) (v := 1) (by omega) (fun _ => by rw [u1v]; omega)
          rw [← e11, ← e12] at o
          refine hQ _ _ o (fun Q2 z => ref1 Q2 q ⟨fun _ v25 e25 s26 e26 => ?_, fun w => absurd q1 w⟩)
          rw [u1e (by omega), ← e11] at e25
          rw [e26, e25, u1_comm (by omega)]
          exact z
        · have h9 := h.jg hX (j := j) hj (f := 5) (c := 11) (v := 1) (by omega) (by omega) rfl (by omega) n4
          rw [← e9] at h9
          have f9 : (u1 b 11 j 1).1 0 9 = 0 := by rw [u1e (by omega)]; exact f
          unfold fX2_doLeaf fX2_doLeaf_j106 fX2_doLeaf_j115
          have thg : (r = 8 ∨ r = 9 ∨ r = 10 ∨ r = 11) → fX2_enterThing N t1 r (fun σ_14 => Q1 σ_14) s9 := by
            intro g
            refine q_thing hN hX h9 f9 x0 xm g (fun a' b' h' run => hQ a' b' h' (fun Q2 z => ref1 Q2 q ?_))
            have w2 : ¬ r = 2 ∧ ¬ r = 4 ∧ ¬ r = 3 ∧ ¬ r = 5 ∧ ¬ r < 8 ∧ ¬ 11 < r := by rcases g with rfl | rfl | rfl | rfl <;> decide
            exact ⟨fun w => absurd w q1, fun _ => ⟨fun w => absurd w w2.1, fun _ => ⟨fun w => absurd w w2.2.1, fun _ => ⟨fun w => absurd w w2.2.2.1, fun _ => ⟨fun w => absurd w w2.2.2.2.1, fun _ => ⟨fun w => absurd w w2.2.2.2.2.1, fun _ => ⟨fun w => absurd w w2.2.2.2.2.2, fun _ => run _ z⟩⟩⟩⟩⟩⟩⟩
          refine ⟨fun q2 => ?_, fun q2 => ⟨fun q3 => ?_, fun q3 => ⟨fun q4 => ?_, fun q4 => ⟨fun q5 => ?_, fun q5 => ⟨fun q8 => thg (Or.inl q8), fun q8 => ⟨fun q9 => thg (Or.inr (Or.inl q9)), fun q9 => ⟨fun q10 => thg (Or.inr (Or.inr (Or.inl q10))), fun q10 => ⟨fun q11 => thg (Or.inr (Or.inr (Or.inr q11))), fun q11 => ?_⟩⟩⟩⟩⟩⟩⟩⟩
          · exact q_readX hX h9 (y := t1.toInt64 + 1) (by omega) (fun a5 h5 _ _ _ => q_give hN hX h5 (fun _ => rfl) (fun a' b' h' run => hQ a' b' h' (fun Q2 z => ref1 Q2 q ⟨fun w => absurd w q1, fun _ => ⟨fun _ => r_read (run _ z), fun w => absurd q2 w⟩⟩)))
          · refine q_begin hX h9 (by decide) (fun a' b' h' _ run => hQ a' b' h' (fun Q2 z => ref1 Q2 q ⟨fun w => absurd w q1, fun _ => ⟨fun w => absurd w q2, fun _ => ⟨fun w => by rw [q3] at w; exact absurd w (by decide), fun _ => ⟨fun _ => ⟨fun _ => run _ z, fun w => absurd q3 w⟩, fun w => absurd q3 w⟩⟩⟩⟩))
          · exact q_fourX hX h9 (y := t1.toInt64 + 1) (Or.inl (by omega)) (fun r5 a5 h5 hh5 => q_give hN hX h5 (fun w => hh5.elim (fun g => g.2.2.1) (fun g => absurd w g.1)) (fun a' b' h' run => hQ a' b' h' (fun Q2 z => ref1 Q2 q ⟨fun w => absurd w q1, fun _ => ⟨fun w => absurd w q2, fun _ => ⟨fun _ => r_four hN (run _ z), fun w => absurd q4 w⟩⟩⟩)))
          · refine q_begin hX h9 (by decide) (fun a' b' h' _ run => hQ a' b' h' (fun Q2 z => ref1 Q2 q ⟨fun w => absurd w q1, fun _ => ⟨fun w => absurd w q2, fun _ => ⟨fun w => absurd w q4, fun _ => ⟨fun w => absurd w q3, fun _ => ⟨fun _ => ⟨fun w => absurd w q3, fun _ => run _ z⟩, fun w => absurd q5 w⟩⟩⟩⟩⟩))
          · have hf := h9.fl hX (x := 3) (by decide) (by decide)
            refine c_fail (hQ _ _ hf.1 (fun Q2 z => ref1 Q2 q ?_))
            have k : fX12_packed_j273 N Q2 (u1 b 11 j 1) := by
              unfold fX12_packed_j273
              exact r_fails z
            refine ⟨fun w => absurd w q1, fun _ => ⟨fun w => absurd w q2, fun _ => ⟨fun w => absurd w q4, fun _ => ⟨fun w => absurd w q3, fun _ => ⟨fun w => absurd w q5, fun _ => ⟨fun _ => k, fun w1 => ⟨fun _ => k, fun w2 => ?_⟩⟩⟩⟩⟩⟩⟩
            have w1' := (notltE (rfl : r.toInt = r.toInt) z8).mp w1
            have w2' := (notltE z11 (rfl : r.toInt = r.toInt)).mp w2
            have n8 := ne_i z8 q8
            have n9 := ne_i (show (9 : Int32).toInt = 9 from by decide) q9
            have n10 := ne_i (show (10 : Int32).toInt = 10 from by decide) q10
            have n11 := ne_i z11 q11
            omega
      · exact absurd c hz
    · unfold fX12_packed_j44
      exact r_read ⟨fun w => absurd w (pos9 h1.g c), fun _ => z⟩
  · unfold fX12_packed_j44
    exact r_readF f ⟨fun w => absurd w (pos9 h.g f), fun _ => z⟩
theorem q_packed (hN : 4294967400 ≤ N) (hX : XA X) (h : Ru X a b) (h0 : b.1 0 9 = 0) (hd : (b.1 0 14).toInt = (j : Int) + 1) (hx : x.toInt = (j : Int)) (hk : b.1 6 j = 3) (hQ : ∀ a' b' : St, Ru X a' b' → (∀ Q2 : St → Prop, Q2 b' → fX12_packed N x Q2 b) → Q1 a') : fX2_stepPacked N (43 + j) Q1 a := by
  have z8 : (8 : Int32).toInt = 8 := by decide
  have z8L : (8 : Int64).toInt = 8 := by decide
  have d40 := h.d40
  have cx := clE hx (by omega)
  have ex : x.toNatClampNeg = j := by omega
  have hin : vp_in x 40 := inE hx (by omega) (by omega)
  have J := h.j h0 j (by omega)
  have J5 : a.1 (43 + j) 5 = b.1 11 j := J.1 5 (by omega) (by omega)
  have J6 : a.1 (43 + j) 6 = b.1 12 j := J.1 6 (by omega) (by omega)
  have e28 : a.1 2 8 = b.1 0 6 := h.s.at 2 8 0 6 (by decide)
  have bt := tB (b.1 0 6)
  unfold fX2_stepPacked
  rw [e28, J5, J6]
  refine ⟨fun q => ?_, fun q => ⟨fun q2 => ?_, fun q2 => ?_⟩⟩
  · have hf := h.fl hX (x := 2) (by decide) (by decide)
    exact c_fail (hQ _ _ hf.1 (fun Q2 z => ⟨fun _ => r_fails z, fun w => absurd q w⟩))
  · refine q_44 hN hX h (fun _ => hd) (by omega) hx hk (fun _ => rfl) (fun a' b' h' run => hQ a' b' h' (fun Q2 z => ⟨fun w => absurd w q, fun _ => ⟨hin, ?_⟩⟩))
    rw [ex]
    exact ⟨fun _ => ⟨hin, run _ z⟩, fun w => absurd q2 w⟩
  · have l1 : ((b.1 0 6).toInt64 + 8).toInt = (b.1 0 6).toInt + 8 := aOkE64 (i2lE rfl) z8L (by omega) (by omega)
    have ee : ((b.1 0 6).toInt64 + 8).toInt = (b.1 0 6 + 8).toInt ∨ (((b.1 0 6 + 8).toInt < 0 ∨ 4092 < (b.1 0 6 + 8).toInt) ∧ (((b.1 0 6).toInt64 + 8).toInt < 0 ∨ 4092 < ((b.1 0 6).toInt64 + 8).toInt) ∧ -8589934592 ≤ ((b.1 0 6).toInt64 + 8).toInt ∧ ((b.1 0 6).toInt64 + 8).toInt ≤ 8589934592) := by
      by_cases c : (b.1 0 6).toInt < 2147483640
      · have g := aOkE (rfl : (b.1 0 6).toInt = (b.1 0 6).toInt) z8 (by omega) (by omega)
        exact Or.inl (by omega)
      · have g := tA (b.1 0 6) 8
        have g2 := tB (b.1 0 6 + 8)
        rw [z8] at g
        exact Or.inr (by omega)
    refine q_fourX hX h ee (fun r a1 h1 hh => ?_)
    refine q_44 hN hX h1 (fun _ => by rw [f4s_ne (by omega)]; exact hd) (by omega) hx (by rw [f4s_ne (by omega)]; exact hk) (fun w => hh.elim (fun g => g.2.2.1) (fun g => absurd w g.1)) (fun a' b' h' run => hQ a' b' h' (fun Q2 z => ⟨fun w => absurd w q, fun _ => ⟨hin, ?_⟩⟩))
    rw [ex]
    exact ⟨fun w => absurd w q2, fun _ => r_four hN (run _ z)⟩
end SIM19
