section SIM20
variable {X : St → St → Prop} {a b a' b' : St} {j N : Nat} {x1 v : Int32}
theorem q_step (hN : 4294967400 ≤ N) (hX : XA X) (hT : XT N X) (hW : XW X) {Q1 : St → Prop} (h : Ru X a b) (h0 : b.1 0 9 = 0) (hd : 1 ≤ (b.1 0 14).toInt) (hQ : ∀ a' b' : St, Ru X a' b' → (∀ Q2 : St → Prop, Q2 b' → fX12_step N Q2 b) → Q1 a') : vp_in ((a.1 3 7) - 1) 40 ∧ ∀ v_8 : Int32, v_8 = a.1 (43 + ((a.1 3 7) - 1).toNatClampNeg) 1 → ((v_8 = 0 → fX2_doOrder N (43 + ((a.1 3 7) - 1).toNatClampNeg) Q1 a) ∧ (¬ v_8 = 0 → ((v_8 = 1 → fX2_stepPlain N (43 + ((a.1 3 7) - 1).toNatClampNeg) Q1 a) ∧ (¬ v_8 = 1 → ((v_8 = 2 → fX2_stepWide N (43 + ((a.1 3 7) - 1).toNatClampNeg) Q1 a) ∧ (¬ v_8 = 2 → ((v_8 = 3 → fX2_stepPacked N (43 + ((a.1 3 7) - 1).toNatClampNeg) Q1 a) ∧ (¬ v_8 = 3 → fX2_stepNumber N (43 + ((a.1 3 7) - 1).toNatClampNeg) Q1 a)))))))) := by
  have z1 : (1 : Int32).toInt = 1 := by decide
  have d40 := h.d40
  rw [h.dep]
  obtain ⟨x, ex⟩ : ∃ x : Int32, b.1 0 14 - 1 = x := ⟨_, rfl⟩
  have fx : x.toInt = (b.1 0 14).toInt - 1 := by rw [← ex]; exact sOkE rfl z1 (by omega) (by omega)
  obtain ⟨j, ej⟩ : ∃ j : Nat, x.toNatClampNeg = j := ⟨_, rfl⟩
  have cx := clE fx (by omega)
  have hx : x.toInt = (j : Int) := by omega
  have hj : (b.1 0 14).toInt = (j : Int) + 1 := by omega
  have hin : vp_in x 40 := inE hx (by omega) (by omega)
  have J := h.j h0 j (by omega)
  have J1 : a.1 (43 + j) 1 = b.1 6 j := J.1 1 (by omega) (by omega)
  have JK := J.2.2.1
  rw [ex, ej]
  refine ⟨hin, fun v8 e8 => ?_⟩
  rw [J1] at e8
  have ref : ∀ Q2 : St → Prop, ((v8 = 0 → fX12_order N x (fun σ_31 => Q2 σ_31) b) ∧ (¬ v8 = 0 → ((v8 = 3 → fX12_packed N x (fun σ_30 => Q2 σ_30) b) ∧ (¬ v8 = 3 → ((v8 = 4 → stN N x j Q2 b) ∧ (¬ v8 = 4 → ((v8 = 1 → fX12_read N ((b.1 7 j).toInt64) (fun r_13 σ_12 => fX12_step_j139 N x v8 r_13 Q2 σ_12) b) ∧ (¬ v8 = 1 → fX12_four N ((b.1 7 j).toInt64) (fun r_10 σ_9 => fX12_step_j139 N x v8 r_10 Q2 σ_9) b)))))))) → fX12_step N Q2 b := by
    intro Q2 z
    unfold fX12_step
    intro v1 e1
    rw [ex] at e1
    rw [e1, ej]
    refine ⟨hin, fun v3 e3 => ?_⟩
    rw [← e8] at e3
    rw [e3]
    exact ⟨z.1, fun q => ⟨(z.2 q).1, fun q3 => ⟨((z.2 q).2 q3).1, fun q4 => ⟨fun q1 => ⟨hin, (((z.2 q).2 q3).2 q4).1 q1⟩, fun q1 => ⟨hin, (((z.2 q).2 q3).2 q4).2 q1⟩⟩⟩⟩⟩
  refine ⟨fun q => ?_, fun q => ⟨fun q1 => ?_, fun q1 => ⟨fun q2 => ?_, fun q2 => ⟨fun q3 => ?_, fun q3 => ?_⟩⟩⟩⟩
  · exact q_order hN hX hT hW h h0 hj (by rw [← e8]; exact q) hx (fun a' b' h' run => hQ a' b' h' (fun Q2 z => ref Q2 ⟨fun _ => run _ z, fun w => absurd q w⟩))
  · subst q1
    exact q_plain hN hX h h0 hj hx e8.symm (fun a' b' h' run => hQ a' b' h' (fun Q2 z => ref Q2 ⟨fun w => absurd w q, fun _ => ⟨fun w => absurd w (by decide), fun _ => ⟨fun w => absurd w (by decide), fun _ => ⟨fun _ => run _ z, fun w => absurd rfl w⟩⟩⟩⟩))
  · subst q2
    exact q_wide hN hX h h0 hj hx e8.symm (fun a' b' h' run => hQ a' b' h' (fun Q2 z => ref Q2 ⟨fun w => absurd w q, fun _ => ⟨fun w => absurd w (by decide), fun _ => ⟨fun w => absurd w (by decide), fun _ => ⟨fun w => absurd w q1, fun _ => run _ z⟩⟩⟩⟩))
  · exact q_packed hN hX h h0 hj hx (by rw [← e8]; exact q3) (fun a' b' h' run => hQ a' b' h' (fun Q2 z => ref Q2 ⟨fun w => absurd w q, fun _ => ⟨fun _ => run _ z, fun w => absurd q3 w⟩⟩))
  · have e4 : v8 = 4 := by
      rw [← e8] at JK
      have n0 := ne_i (show (0 : Int32).toInt = 0 from by decide) q
      have n1 := ne_i z1 q1
      have n2 := ne_i (show (2 : Int32).toInt = 2 from by decide) q2
      have n3 := ne_i (show (3 : Int32).toInt = 3 from by decide) q3
      have z4 : (4 : Int32).toInt = 4 := by decide
      exact Int32.toInt_inj.mp (by omega)
    exact q_number hN hX h h0 hj hx (by rw [← e8]; exact e4) (fun a' b' h' run => hQ a' b' h' (fun Q2 z => ref Q2 ⟨fun w => absurd w q, fun _ => ⟨fun w => absurd w q3, fun _ => ⟨fun _ => run _ z, fun w => absurd e4 w⟩⟩⟩))
/-- both sides between two calls -/
def Rbt (X : St → St → Prop) (a b : St) : Prop := Rs a b ∧ RM a b ∧ a.1 16 = b.1 14 ∧ X a b ∧ G2 b ∧ a.1 3 11 = 0 ∧ RJ a b
theorem Ru.rr (h : Ru X a b) (h0 : b.1 0 9 = 0) : Rbt X a b := ⟨h.s, h.m, h.o, h.x, h.g, h.f.trans h0, h.j h0⟩
theorem q_fin (hX : XA X) {Q1 : Int32 → St → Prop} (h : Ru X a b) (hQ : ∀ (r : Int32) (a' b' : St), Rbt X a' b' → (∀ Q2 : Int32 → St → Prop, Q2 r b' → fX12_runs_j46 N v Q2 b) → Q1 r a') : fX2_run_j140 N v Q1 a := by
  have z0 : (0 : Int32).toInt = 0 := by decide
  have d40 := h.d40
  have e51 : a.1 5 1 = b.1 0 26 := h.s.at 5 1 0 26 (by decide)
  unfold fX2_run_j140
  rw [h.f, h.dep, e51]
  refine ⟨fun c => ⟨fun q => hQ _ a b (h.rr c) (fun Q2 z => ⟨fun _ => ⟨fun _ => z, fun w => ?_⟩, fun w => absurd (zer9 c) w⟩), fun q => hQ _ a b (h.rr c) (fun Q2 z => ⟨fun _ => ⟨fun w => ?_, fun _ => z⟩, fun w => absurd (zer9 c) w⟩)⟩, fun c => ?_⟩
  · have := (leE (rfl : (b.1 0 14).toInt = (b.1 0 14).toInt) z0).mp q
    exact absurd (Int32.toInt_inj.mp (by omega)) w
  · rw [w] at q
    exact absurd (by decide) q
  · unfold fX2_endInFault
    intro v1 e1 s2 e2 s3 e3 v4 e4 s5 e5 s6 e6
    rw [h.f] at e1
    have k54 : s3.1 5 4 = b.1 0 29 := by
      rw [e3, u1e (by omega), e2, u1e (by omega)]
      exact h.s.at 5 4 0 29 (by decide)
    rw [k54] at e4
    have es6 : s6 = u1 (u1 (u1 (u1 a 3 11 0) 3 7 0) 5 4 v4) 5 5 v1 := by rw [e6, e5, e3, e2]
    obtain ⟨b6, eb⟩ : ∃ b6 : St, b6 = u1 (u1 (u1 b 0 14 0) 0 29 v4) 0 30 v1 := ⟨_, rfl⟩
    have k14 : b6.1 0 14 = 0 := by rw [eb, u1e (by omega), u1e (by omega), u1v]
    refine hQ _ s6 b6 ⟨?_, ?_, ?_, ?_, ?_, ?_, fun y hy => ?_⟩ (fun Q2 z => ⟨fun w => absurd w (pos9 h.g c), fun _ => ?_⟩)
    · rw [es6, eb]
      exact (((h.s.a (by decide)).ab (by decide)).ab (by decide)).ab (by decide)
    · rw [es6, eb]
      exact h.m.ext (by rw [u1_ne (by decide), u1_ne (by decide), u1_ne (by decide), u1_ne (by decide)]) (by rw [u1_ne (by decide), u1_ne (by decide), u1_ne (by decide)])
    · rw [es6, eb, u1_ne (by decide), u1_ne (by decide), u1_ne (by decide), u1_ne (by decide), u1_ne (by decide), u1_ne (by decide), u1_ne (by decide)]
      exact h.o
    · rw [es6, eb]
      exact hX.x2 (by unfold Xb; omega) (hX.x2 (by unfold Xb; omega) (hX.x2 (by unfold Xb; omega) (hX.x1 (by unfold Xa; omega) (hX.x1 (by unfold Xa; omega) (hX.x1 (by unfold Xa; omega) (hX.x1 (by unfold Xa; omega) h.x))))))
    · rw [eb]
      exact (((h.k.u14 (Rg2.r_0_14 (by decide) (by decide)) (Or.inl (by decide))).1.uf (by simp [Rg2]) (by decide)).uf (by simp [Rg2]) (by decide))
    · rw [es6, u1e (by omega), u1e (by omega), u1e (by omega), u1v]
    · rw [k14, z0] at hy
      omega
    · unfold fX12_failed
      intro t1 g1 w2 ew2 t3 g3 w4 ew4 t5 g5
      rw [g1, u1e (by omega), ← e4] at ew2
      rw [g3, u1e (by omega), g1, u1e (by omega), ← e1] at ew4
      have et5 : t5 = b6 := by rw [g5, ew4, g3, ew2, g1, eb]
      have k9 : t5.1 0 9 = v1 := by rw [g5, u1e (by omega), g3, u1e (by omega), g1, u1e (by omega), e1]
      rw [k9, et5]
      exact z
theorem q_loop (hN : 4294967400 ≤ N) (hX : XA X) (hT : XT N X) (hW : XW X) : ∀ (m K K2 : Nat) (x3 : Int32) (a b : St), 0 ≤ x3.toInt → x1.toInt - x3.toInt = (m : Int) → m < K → m < K2 → Ru X a b → ∀ Q1 : Int32 → St → Prop, (∀ (r : Int32) (a' b' : St), Rbt X a' b' → (∀ Q2 : Int32 → St → Prop, Q2 r b' → lo1 (fX12_runs_l7 N x1 v Q2) K2 x3 b) → Q1 r a') → lo1 (fX2_run_l10 N x1 v Q1) K x3 a := by
  have z0 : (0 : Int32).toInt = 0 := by decide
  have z1 : (1 : Int32).toInt = 1 := by decide
  have bx := tB x1
  intro m
  induction m with
  | zero =>
    intro K K2 x3 a b h3 hm hK hK2 h Q1 hQ
    obtain ⟨K', rfl⟩ : ∃ K' : Nat, K = K' + 1 := ⟨K - 1, by omega⟩
    obtain ⟨K3, rfl⟩ : ∃ K3 : Nat, K2 = K3 + 1 := ⟨K2 - 1, by omega⟩
    have le : x1 ≤ x3 := (leE (rfl : x1.toInt = x1.toInt) (rfl : x3.toInt = x3.toInt)).mpr (by omega)
    exact ⟨fun _ => q_fin hX h (fun r a' b' h' run => hQ r a' b' h' (fun Q2 z => ⟨fun _ => run _ z, fun q => absurd le q⟩)), fun q => absurd le q⟩
  | succ m ih =>
    intro K K2 x3 a b h3 hm hK hK2 h Q1 hQ
    obtain ⟨K', rfl⟩ : ∃ K' : Nat, K = K' + 1 := ⟨K - 1, by omega⟩
    obtain ⟨K3, rfl⟩ : ∃ K3 : Nat, K2 = K3 + 1 := ⟨K2 - 1, by omega⟩
    have nle : ¬ x1 ≤ x3 := fun q => by have := (leE (rfl : x1.toInt = x1.toInt) (rfl : x3.toInt = x3.toInt)).mp q; omega
    refine ⟨fun q => absurd q nle, fun _ => ?_⟩
    rw [h.dep, h.f]
    refine ⟨fun q => q_fin hX h (fun r a' b' h' run => hQ r a' b' h' (fun Q2 z => ⟨fun w => absurd w nle, fun _ => ⟨fun _ => run _ z, fun w => absurd q w⟩⟩)), fun q => ⟨fun c v5 e5 s6 e6 => ?_, fun c => q_fin hX h (fun r a' b' h' run => hQ r a' b' h' (fun Q2 z => ⟨fun w => absurd w nle, fun _ => ⟨fun w => absurd w q, fun _ => ⟨fun w => absurd w c, fun _ => run _ z⟩⟩⟩))⟩⟩
    have q' := (notleE (rfl : (b.1 0 14).toInt = (b.1 0 14).toInt) z0).mp q
    have k50 : a.1 5 0 = b.1 0 25 := h.s.at 5 0 0 25 (by decide)
    rw [k50] at e5
    have h6 := h.ab hX (k := 5) (j := 0) (j' := 25) (v := v5) (by decide) (by omega) (by omega) (by simp [Rg2])
    rw [← e6] at h6
    refine q_step hN hX hT hW (Q1 := fun σ => fX2_run_j134 N (lo1 (fX2_run_l10 N x1 v Q1) K') x1 v x3 Q1 σ) h6 (by rw [u1e (by omega)]; exact c) (by rw [u1e (by omega)]; omega) (fun a7 b7 h7 run7 => ?_)
    unfold fX2_run_j134
    intro v11 e11
    have f11 : v11.toInt = x3.toInt + 1 := (congrArg Int32.toInt e11).trans (aOkE rfl z1 (by omega) (by omega))
    refine ih K' K3 v11 a7 b7 (by omega) (by omega) (by omega) (by omega) h7 Q1 (fun r a' b' h' run => hQ r a' b' h' (fun Q2 z => ?_))
    refine ⟨fun w => absurd w nle, fun _ => ⟨fun w => absurd w q, fun _ => ⟨fun _ w5 ew5 t6 g6 => ?_, fun w => absurd c w⟩⟩⟩
    rw [g6, ew5, ← e5]
    refine run7 _ (fun w8 ew8 => ?_)
    rw [ew8, ← e11]
    exact run _ z
theorem q_run (hN : 4294967400 ≤ N) (hX : XA X) (hT : XT N X) (hW : XW X) (h : Ru X a b) (s0 : 0 ≤ x1.toInt) {Q1 : Int32 → St → Prop} (hQ : ∀ (r : Int32) (a' b' : St), Rbt X a' b' → (∀ Q2 : Int32 → St → Prop, Q2 r b' → fX12_runs N x1 Q2 b) → Q1 r a') : fX2_run N x1 Q1 a := by
  have z0 : (0 : Int32).toInt = 0 := by decide
  have bx := tB x1
  have e51 : a.1 5 1 = b.1 0 26 := h.s.at 5 1 0 26 (by decide)
  unfold fX2_run
  intro v1 e1
  rw [e51] at e1
  refine q_loop hN hX hT hW x1.toInt.toNat N N 0 a b (by decide) (by omega) (by omega) (by omega) h Q1 (fun r a' b' h' run => hQ r a' b' h' (fun Q2 z => ?_))
  unfold fX12_runs
  intro w1 ew1
  rw [ew1, ← e1]
  exact run _ z
end SIM20
