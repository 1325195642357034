section CACHE6
variable {a b a' b' : St} {N : Nat} {k : Int}
/-- the cache stands: where it lies on both sides -/
def CK (a b : St) : Prop := 0 < (a.1 2 5).toInt ∧ (a.1 2 5).toInt + 12 ≤ (a.1 2 6).toInt ∧ (a.1 2 6).toInt ≤ (b.1 0 1).toInt ∧ b.1 0 6 = a.1 2 5 ∧ (b.2 0 8).toInt = (a.1 2 6).toInt - (a.1 2 5).toInt
/-- the cache, in step -/
def Cch (a b : St) : Prop := (a.1 2 7 = -1 ∧ CK a b ∧ 0 ≤ (b.1 0 7).toInt ∧ NC (b.1 1) (a.1 2 5).toNatClampNeg (a.1 2 6).toNatClampNeg (b.1 0 7).toNatClampNeg) ∨ (a.1 2 7 = b.1 0 7 ∧ 0 ≤ (b.1 0 7).toInt ∧ (0 < (b.1 0 7).toInt → CK a b))
def X3 (k : Int) (a b : St) : Prop := Xr a b ∧ Cch a b ∧ SI a ∧ (a.1 2 3).toInt ≤ k
theorem CK.ext (h : CK a b) (ha : ∀ i : Nat, a'.1 2 i = a.1 2 i) (hb : ∀ i : Nat, i = 1 ∨ i = 6 → b'.1 0 i = b.1 0 i) (h8 : b'.2 0 8 = b.2 0 8) : CK a' b' := by
  unfold CK
  rw [ha, ha, hb 1 (by omega), hb 6 (by omega), h8]
  exact h
theorem Cch.ext (hB : (b.1 0 1).toInt ≤ 4096) (h : Cch a b) (ha : ∀ i : Nat, a'.1 2 i = a.1 2 i) (hb : ∀ i : Nat, i = 1 ∨ i = 6 ∨ i = 7 → b'.1 0 i = b.1 0 i) (h8 : b'.2 0 8 = b.2 0 8) (hm : ∀ x : Nat, (x : Int) < (b.1 0 1).toInt → b'.1 1 x = b.1 1 x) : Cch a' b' := by
  rcases h with ⟨h1, h2, h3, h4⟩ | ⟨h1, h2, h3⟩
  · refine Or.inl ⟨by rw [ha]; exact h1, h2.ext ha (fun i q => hb i (by omega)) h8, by rw [hb 7 (by omega)]; exact h3, ?_⟩
    obtain ⟨q1, q2, q3, q4, q5⟩ := h2
    have c5 := clE (rfl : (a.1 2 5).toInt = _) (by omega)
    have c6 := clE (rfl : (a.1 2 6).toInt = _) (by omega)
    rw [ha, ha, hb 7 (by omega)]
    exact h4.ext (by omega) (fun i i1 i2 => hm i (by omega))
  · exact Or.inr ⟨by rw [ha, hb 7 (by omega)]; exact h1, by rw [hb 7 (by omega)]; exact h2, fun q => (h3 (by rw [hb 7 (by omega)] at q; exact q)).ext ha (fun i q => hb i (by omega)) h8⟩
theorem SI.ext (h : SI a) (h2 : a'.1 2 3 = a.1 2 3) (h13 : ∀ i : Nat, a'.1 13 i = a.1 13 i) : SI a' := by
  unfold SI
  rw [h2]
  exact ⟨h.1, fun x hx => by rw [h13]; exact h.2 x hx⟩
theorem X3.ext (hB : (b.1 0 1).toInt ≤ 4096) (h : X3 k a b) (ha : ∀ c i : Nat, (c = 2 ∨ c = 10 ∨ c = 11 ∨ c = 13 ∨ (c = 0 ∧ i = 7) ∨ (18 ≤ c ∧ c ≤ 26) ∨ (123 ≤ c ∧ c < 203)) → a'.1 c i = a.1 c i) (hb : ∀ c i : Nat, c = 1 ∨ c = 2 ∨ c = 3 ∨ (16 ≤ c ∧ c ≤ 23) ∨ (c = 0 ∧ (i = 1 ∨ i = 3 ∨ i = 5 ∨ i = 6 ∨ i = 7 ∨ i = 36 ∨ i = 41)) → b'.1 c i = b.1 c i) (h8 : b'.2 0 8 = b.2 0 8) : X3 k a' b' :=
  ⟨h.1.ext (fun c i q => ha c i (by omega)) (fun c i q => hb c i (by omega)), h.2.1.ext hB (fun i => ha 2 i (by omega)) (fun i q => hb 0 i (by omega)) h8 (fun x _ => hb 1 x (by omega)), h.2.2.1.ext (ha 2 3 (by omega)) (fun i => ha 13 i (by omega)), by rw [ha 2 3 (by omega)]; exact h.2.2.2⟩
/-- a relation that asks for the border, too -/
def X4 (k : Int) (a b : St) : Prop := (b.1 0 1).toInt ≤ 4096 ∧ X3 k a b
theorem X4.ext (h : X4 k a b) (ha : ∀ c i : Nat, (c = 2 ∨ c = 10 ∨ c = 11 ∨ c = 13 ∨ (c = 0 ∧ i = 7) ∨ (18 ≤ c ∧ c ≤ 26) ∨ (123 ≤ c ∧ c < 203)) → a'.1 c i = a.1 c i) (hb : ∀ c i : Nat, c = 1 ∨ c = 2 ∨ c = 3 ∨ (16 ≤ c ∧ c ≤ 23) ∨ (c = 0 ∧ (i = 1 ∨ i = 3 ∨ i = 5 ∨ i = 6 ∨ i = 7 ∨ i = 36 ∨ i = 41)) → b'.1 c i = b.1 c i) (h8 : b'.2 0 8 = b.2 0 8) : X4 k a' b' :=
  ⟨by rw [hb 0 1 (by omega)]; exact h.1, h.2.ext h.1 ha hb h8⟩
theorem X4.xa : XA (X4 k) := ⟨fun a b a' q h => h.ext (fun c i w => q c i (by unfold Xa; omega)) (fun _ _ _ => rfl) rfl, fun a b b' q q2 h => h.ext (fun _ _ _ => rfl) (fun c i w => q c i (by unfold Xb; omega)) (q2 0 8 (by omega))⟩
theorem X4.xw : XW (X4 k) := fun a b x v w h hx _ => by
  refine ⟨by rw [u1e (by omega)]; exact h.1, h.2.1.ext (fun c i q => u1e (by omega)) (fun c i q => u1e (by omega)), h.2.2.1.ext h.1 (fun i => u1e (by omega)) (fun i q => u1e (by omega)) rfl (fun y hy => u1e (by omega)), h.2.2.2.1.ext (u1e (by omega)) (fun i => u1e (by omega)), ?_⟩
  rw [u1e (by omega)]
  exact h.2.2.2.2
set_option maxHeartbeats 1000000 in
theorem X4.xt (hN : 4294967400 ≤ N) : XT N (X4 k) := by
  intro a b x h h0 Q1 hQ
  have z0 : (0 : Int32).toInt = 0 := by decide
  have o12 : (12 : Int32).toInt = 12 := by decide
  have hB := h.x.1
  have b01 := K2.g_0_1 h.k
  have bx := tB x
  have e11 : a.1 1 1 = b.1 0 1 := h.s.at 1 1 0 1 (by decide)
  obtain ⟨b', ⟨hG, hF, hC⟩, run⟩ := dt_lies (N := N) (x := x) (b := b) (fun τ => G2 τ ∧ Fl x b τ ∧ CO b τ x) (e_lies hN h.g (fun τ k l c => ⟨k, l, c⟩))
  have fin : ∀ s : St, (∀ c i : Nat, ¬ (c = 2 ∧ 5 ≤ i ∧ i ≤ 8) → s.1 c i = a.1 c i) → s.1 2 8 = x → Cch s b' → Q1 s := by
    intro s hs h8 hc
    refine hQ s b' ⟨fun q hm => ?_, fun y hy => ?_, ?_, ⟨by rw [hF.1 _ _ (by omega)]; exact hB, h.x.2.1.ext (fun c i q => hs c i (by omega)) (fun c i q => hF.1 c i (by omega)), hc, h.x.2.2.2.1.ext (hs 2 3 (by omega)) (fun i => hs 13 i (by omega)), by rw [hs 2 3 (by omega)]; exact h.x.2.2.2.2⟩, hG, ?_, fun g0 j hj => ?_⟩ (fun Q2 z => run Q2 z)
    · have t := SC_tree q hm
      have l := SC_lt q hm
      by_cases e : q = (2, 8, 0, 6)
      · rw [e]
        exact h8.trans hF.2.2.symm
      · have n2 : q.1 ≠ 2 := fun w => e (t.1 w)
        have n6 : q.2.2.2 ≠ 6 := fun w => e (t.2.1 w)
        have n7 := t.2.2
        rw [hs _ _ (by omega), hF.1 _ _ (by omega)]
        exact h.s q hm
    · rw [hs _ _ (by omega), hF.1 _ _ (by omega)]
      exact h.m y hy
    · funext y
      rw [hs _ _ (by omega), hF.1 _ _ (by omega)]
      exact congrFun h.o y
    · rw [hs _ _ (by omega), hF.1 _ _ (by omega)]
      exact h.f
    · rw [hF.1 _ _ (by omega)] at hj
      exact (h.j h0 j hj).ext (fun f => hs _ _ (by omega)) (fun i => hs _ _ (by omega)) (fun k k1 k2 k3 => hF.1 _ _ (by omega)) (fun i _ => hF.1 _ _ (by omega)) (g2_9 h.g j).2
  unfold fX8_tell fX8_drop
  intro s1 e1 s2 e2 s3 e3 s4 e4
  have f4 : ∀ c i : Nat, ¬ (c = 2 ∧ 5 ≤ i ∧ i ≤ 8) → s4.1 c i = a.1 c i := fun c i q => by rw [e4, u1e (by omega), e3, u1e (by omega), e2, u1e (by omega), e1, u1e (by omega)]
  have g4 : s4.1 2 8 = x := by rw [e4, u1e (by omega), e3, u1e (by omega), e2, u1e (by omega), e1, u1v]
  have n4 : s4.1 2 7 = 0 := by rw [e4, u1v]
  have no : ¬ Cq b x → Q1 s4 := fun w => fin s4 f4 g4 (Or.inr ⟨by rw [n4, hC.1 w], by rw [hC.1 w, z0]; exact Int.le_refl _, fun q => by rw [hC.1 w, z0] at q; omega⟩)
  have e4b : s4.1 1 1 = b.1 0 1 := by rw [f4 _ _ (by omega)]; exact e11
  rw [e4b]
  have eb12 : (b.1 0 1 - 12).toInt = (b.1 0 1).toInt - 12 := sOkE rfl o12 (by omega) (by omega)
  refine ⟨fun c => no (fun q => ?_), fun c1 => ⟨fun c2 => ?_, fun c => no (fun q => ?_)⟩⟩
  · have := (leE (rfl : x.toInt = _) z0).mp c
    have := q.1
    omega
  · have d1 := (notleE (rfl : x.toInt = _) z0).mp c1
    have d2 := (leE (rfl : x.toInt = _) eb12).mp c2
    have cx := clE (rfl : x.toInt = _) (by omega)
    have mc : MC s4 (b.1 1) := fun i hi => by rw [f4 _ _ (by omega)]; exact h.m i hi
    refine c_four cx.symm (by omega) mc ?_
    obtain ⟨r, er⟩ : ∃ r : Int32, f4M (b.1 1) x.toNatClampNeg = r := ⟨_, rfl⟩
    rw [er, e4b]
    have br := tB r
    have eb : (b.1 0 1 - x).toInt = (b.1 0 1).toInt - x.toInt := sOkE rfl rfl (by omega) (by omega)
    refine ⟨fun c => no (fun q => ?_), fun c3 => ⟨fun c4 s9 e9 v10 e10 s11 e11' s12 e12 => ?_, fun c => no (fun q => ?_)⟩⟩
    · have := (ltE (rfl : r.toInt = _) o12).mp c
      have := q.2.2.1
      rw [er] at this
      omega
    · have d3 := (notltE (rfl : r.toInt = _) o12).mp c3
      have d4 := (leE (rfl : r.toInt = _) eb).mp c4
      have cq : Cq b x := ⟨by omega, by omega, by rw [er]; omega, by rw [er]; omega⟩
      obtain ⟨w1, w2, w3⟩ := hC.2 cq
      rw [er] at w1 w3
      have cr := clE (rfl : r.toInt = _) (by omega)
      have f10 : v10.toInt = x.toInt + r.toInt := (congrArg Int32.toInt e10).trans (aOkE rfl rfl (by omega) (by omega))
      have c10 := clE f10 (by omega)
      have q5 : s12.1 2 5 = x := by rw [e12, u1e (by omega), e11', u1e (by omega), e9, u1v]
      have q6 : s12.1 2 6 = v10 := by rw [e12, u1e (by omega), e11', u1v]
      have q7 : s12.1 2 7 = -1 := by rw [e12, u1v]
      refine fin s12 (fun c i q => by rw [e12, u1e (by omega), e11', u1e (by omega), e9, u1e (by omega)]; exact f4 c i q) (by rw [e12, u1e (by omega), e11', u1e (by omega), e9, u1e (by omega)]; exact g4) (Or.inl ⟨q7, ⟨by rw [q5]; omega, by rw [q5, q6]; omega, by rw [q6, hF.1 0 1 (by omega)]; omega, by rw [q5]; exact hF.2.2, by rw [q5, q6, w1]; omega⟩, w2, ?_⟩)
      rw [q5, q6, show v10.toNatClampNeg = x.toNatClampNeg + r.toNatClampNeg by omega, show b'.1 1 = b.1 1 from funext (fun i => hF.1 1 i (by omega))]
      exact w3
    · have := (notleE (rfl : r.toInt = _) eb).mp c
      have := q.2.2.2
      rw [er] at this
      omega
  · have := (notleE (rfl : x.toInt = _) eb12).mp c
    have := q.2.1
    omega
/-- the count is asked for: the class answers what the reference has -/
theorem c_cachedX (hN : 4294967400 ≤ N) (hk : k < 1000000) (hM : RM a b) (h : X4 k a b) {Q : Int32 → St → Prop} (hQ : ∀ τ : St, Fc a τ → X4 (k + 1) τ b → Q (b.1 0 7) τ) : fX8_cachedNodes N Q a := by
  obtain ⟨hB, hx, hc, hs, hk2⟩ := h
  unfold fX8_cachedNodes fX8_cachedNodes_j16
  rcases hc with ⟨h1, h2, h3, h4⟩ | ⟨h1, h2, h3⟩
  · refine ⟨fun _ => ?_, fun c => absurd h1 c⟩
    obtain ⟨q1, q2, q3, q4, q5⟩ := id h2
    have c5 := clE (rfl : (a.1 2 5).toInt = _) (by omega)
    have c6 := clE (rfl : (a.1 2 6).toInt = _) (by omega)
    refine c_nodesN hN (F := (a.1 2 5).toNatClampNeg) (T := (a.1 2 6).toNatClampNeg) c5.symm c6.symm (by omega) (by omega) hM hs (by omega) (fun r τ f k3 si r0 nc s4 e4 => ?_)
    have er : r = b.1 0 7 := by
      have := h4.uq nc
      have c1 := clE (rfl : r.toInt = _) r0
      have c2 := clE (rfl : (b.1 0 7).toInt = _) h3
      exact Int32.toInt_inj.mp (by omega)
    have g4 : ∀ c i : Nat, ¬ (c = 13 ∨ c = 14 ∨ (c = 2 ∧ (i = 3 ∨ i = 4 ∨ i = 7))) → s4.1 c i = a.1 c i := fun c i q => by rw [e4, u1e (by omega)]; exact f c i (by omega)
    have v7 : s4.1 2 7 = b.1 0 7 := by rw [e4, u1v, er]
    rw [v7]
    refine hQ s4 g4 ⟨hB, hx.ext (fun c i q => g4 c i (by omega)) (fun _ _ _ => rfl), Or.inr ⟨v7, h3, fun _ => ?_⟩, ?_, ?_⟩
    · unfold CK
      rw [g4 2 5 (by omega), g4 2 6 (by omega)]
      exact h2
    · unfold SI
      rw [e4, u1e (by omega)]
      exact ⟨si.1, fun x hx => by rw [u1e (by omega)]; exact si.2 x hx⟩
    · rw [e4, u1e (by omega), k3]; omega
  · have n1 : a.1 2 7 ≠ -1 := fun w => by
      rw [← h1, w] at h2
      exact absurd h2 (by decide)
    refine ⟨fun c => absurd c n1, fun _ => ?_⟩
    rw [h1]
    exact hQ a (fun _ _ _ => rfl) ⟨hB, hx, Or.inr ⟨h1, h2, h3⟩, hs, by omega⟩
end CACHE6
