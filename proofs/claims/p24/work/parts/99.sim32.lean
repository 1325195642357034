section SIM32
variable {a b a' b' : St} {N : Nat} {x1 x2 : Int32}
theorem nar255L (y : Int64) : (vp_nar .byte (y.toInt32.toInt8.toInt32)) &&& 255 = (y &&& 255).toInt32 := by
  rw [nar255, Int64.toInt32_and]
  rfl
theorem q_feed {x2 : Int64} : ∀ (m K K2 : Nat) (x4 : Int32) (a b : St), x4.toInt + 1 = (m : Int) → m ≤ 8 → m < K → m < K2 → (b.1 0 3).toInt + m ≤ 600 → Rbt Xr a b → ∀ Q1 : Int32 → St → Prop, (∀ (r : Int32) (a' b' : St), Rbt Xr a' b' → (∀ Q2 : Int32 → St → Prop, Q2 r b' → lo1 (fX12_feed_l35 N x2 Q2) K2 x4 b) → Q1 r a') → lo1 (fX11_feed_l34 N x2 Q1) K x4 a := by
  intro m
  induction m with
  | zero =>
    intro K K2' x4 a b hx _ hK hK2 _ h Q1 hQ
    have z0 : (0 : Int32).toInt = 0 := by decide
    have lt0 : x4 < 0 := (ltE (rfl : x4.toInt = x4.toInt) z0).mpr (by omega)
    have e1 : a.1 0 6 = b.1 0 3 := h.1.at 0 6 0 3 (by decide)
    obtain ⟨K, rfl⟩ : ∃ k, K = k + 1 := ⟨K - 1, by omega⟩
    obtain ⟨K2', rfl⟩ : ∃ k, K2' = k + 1 := ⟨K2' - 1, by omega⟩
    refine ⟨fun _ => hQ _ a b h (fun Q2 q => ⟨fun _ => ?_, fun w => absurd lt0 w⟩), fun w => absurd lt0 w⟩
    rw [← e1]
    exact q
  | succ m ih =>
    intro K K2' x4 a b hx h8 hK hK2 ht h Q1 hQ
    have z0 : (0 : Int32).toInt = 0 := by decide
    have ge0 : ¬ x4 < 0 := (notltE (rfl : x4.toInt = x4.toInt) z0).mpr (by omega)
    have e1 : a.1 0 6 = b.1 0 3 := h.1.at 0 6 0 3 (by decide)
    have d := K2.g_0_3 (K2.self h.2.2.2.2.1)
    have hX := h.2.2.2.1
    have hin : vp_in (b.1 0 3) 600 := inE rfl (by omega) (by omega)
    have en := clE (rfl : (b.1 0 3).toInt = (b.1 0 3).toInt) d.1
    have ev : (b.1 0 3 + 1).toInt = (b.1 0 3).toInt + 1 := aOkE rfl (show (1 : Int32).toInt = 1 from by decide) (by omega) (by omega)
    have e4 : (x4 + (-1)).toInt = x4.toInt + -1 := aOkE rfl (show (-1 : Int32).toInt = -1 from by decide) (by have := tB x4; omega) (by have := tB x4; omega)
    obtain ⟨K, rfl⟩ : ∃ k, K = k + 1 := ⟨K - 1, by omega⟩
    obtain ⟨K2', rfl⟩ : ∃ k, K2' = k + 1 := ⟨K2' - 1, by omega⟩
    refine ⟨fun w => absurd w ge0, fun _ v6 f6 => ?_⟩
    rw [e1]
    refine ⟨hin, fun s8 f8 v9 f9 s10 f10 v11 f11 => ?_⟩
    have hv9 : v9 = b.1 0 3 + 1 := by rw [f9, f8, u1e (by omega), e1]
    have hn : Rbt Xr s10 (u1 (u1 b 2 (b.1 0 3).toNatClampNeg (((x2 >>> ((8 * x4).toInt64 &&& 63)) &&& 255).toInt32)) 0 3 (b.1 0 3 + 1)) := by
      rw [f10, f8, hv9]
      refine h.mv (fun c i q => (u1e (by omega)).trans (u1e (by omega))) (fun c i q => (u1e (by omega)).trans (u1e (by omega))) (((h.1.a8 (by omega)).b1 (by omega)).ab (by decide)) (h.2.1.fr (fun i => (u1e (by omega)).trans (u1e (by omega))) (fun i => (u1e (by omega)).trans (u1e (by omega)))) ⟨hX.1.ext (fun c i q => (u1e (by omega)).trans (u1e (by omega))) (fun c i q => (u1e (by omega)).trans (u1e (by omega))), fun i hi => ?_, hX.2.2.1.ext (fun c i q => (u1e (by omega)).trans (u1e (by omega))) (fun c i q => (u1e (by omega)).trans (u1e (by omega))), hX.2.2.2.ext (fun c i q => (u1e (by omega)).trans (u1e (by omega))) (fun c i q => (u1e (by omega)).trans (u1e (by omega)))⟩ ?_
      · rw [u1v, ev] at hi
        refine (congrArg (· &&& 255) (u1e (by omega))).trans (Eq.trans ?_ (u1e (by omega)).symm)
        by_cases e : i = (b.1 0 3).toNatClampNeg
        · rw [e, u1v, u1v, f6]
          exact nar255L _
        · rw [u1e (by omega), u1e (by omega)]
          exact hX.2.1 i (by omega)
      · exact (h.2.2.2.2.1.ua (by trivial) (by decide)).uf (by simp only [Rg2, In32]; omega) (by decide)
    refine ih K K2' v11 s10 _ (by rw [f11, e4]; omega) (by omega) (by omega) (by omega) (by rw [u1v]; omega) hn Q1 (fun r a2 b2 h2 run => hQ r a2 b2 h2 (fun Q2 q => ⟨fun w => absurd w ge0, fun _ w7 g7 => ⟨hin, fun t9 g9 w10 g10 t11 g11 w12 g12 => ?_⟩⟩))
    have r := run Q2 q
    rw [g11, g10, g9, u1e (by omega), g7, g12, ← f11]
    exact r
theorem p_feed (hN : 4294967400 ≤ N) {x2 : Int64} (h : Rbt Xr a b) : fX11_feed N x1 x2 (fun r1 τ1 => fX12_feed N x1 x2 (fun r2 τ2 => r1 = r2 ∧ Rbt Xr τ1 τ2) b) a := by
  have z1 : (1 : Int32).toInt = 1 := by decide
  have z8 : (8 : Int32).toInt = 8 := by decide
  have z600 : (600 : Int32).toInt = 600 := by decide
  have z1L : (1 : Int64).toInt = 1 := by decide
  have z8L : (8 : Int64).toInt = 8 := by decide
  have e64 : x1.toInt64.toInt = x1.toInt := i2lE rfl
  have e1 : a.1 0 6 = b.1 0 3 := h.1.at 0 6 0 3 (by decide)
  have d := K2.g_0_3 (K2.self h.2.2.2.2.1)
  have bad : (x1.toInt < 1 ∨ 8 < x1.toInt) → fX12_feed N x1 x2 (fun r2 τ2 => -2 = r2 ∧ Rbt Xr a τ2) b := by
    intro w
    unfold fX12_feed fX12_in
    refine ⟨fun _ => ⟨fun _ => ⟨rfl, h⟩, fun q => absurd rfl q⟩, fun w1 => ⟨fun _ => ⟨fun _ => ⟨rfl, h⟩, fun q => absurd rfl q⟩, fun w2 => ?_⟩⟩
    have := (notltE64 e64 z1L).mp w1
    have := (notltE64 z8L e64).mp w2
    omega
  have good : ∀ Q : Int32 → St → Prop, 1 ≤ x1.toInt → x1.toInt ≤ 8 → ((b.1 0 3).toInt + x1.toInt ≤ 600 → lo1 (fX12_feed_l35 N x2 Q) N (x1 - 1) b) → (600 < (b.1 0 3).toInt + x1.toInt → Q (-4) b) → fX12_feed N x1 x2 Q b := by
    intro Q g1 g2 q1 q2
    have es : (b.1 0 3 + x1).toInt = (b.1 0 3).toInt + x1.toInt := aOkE rfl rfl (by omega) (by omega)
    unfold fX12_feed fX12_in
    refine ⟨fun w => ?_, fun _ => ⟨fun w => ?_, fun _ => ⟨fun q => absurd q (by decide), fun _ => ⟨fun w v ev => ?_, fun w => q2 ?_⟩⟩⟩⟩
    · have := (ltE64 e64 z1L).mp w
      omega
    · have := (ltE64 z8L e64).mp w
      omega
    · rw [ev]
      exact q1 ((leE es z600).mp w)
    · have := (notleE es z600).mp w
      omega
  unfold fX11_feed
  rw [e1]
  refine ⟨fun c => bad (Or.inl ((ltE rfl z1).mp c)), fun c => ⟨fun c2 => ?_, fun c2 => bad (Or.inr ?_)⟩⟩
  · have g1 := (notltE (rfl : x1.toInt = x1.toInt) z1).mp c
    have g2 := (leE (rfl : x1.toInt = x1.toInt) z8).mp c2
    have es : (600 - x1).toInt = 600 - x1.toInt := sOkE z600 rfl (by omega) (by omega)
    have ex : (x1 - 1).toInt = x1.toInt - 1 := sOkE rfl z1 (by omega) (by omega)
    refine ⟨fun c3 v ev => ?_, fun c3 => good _ (by omega) g2 (fun w => ?_) (fun _ => ⟨rfl, h⟩)⟩
    · have g3 := (leE (rfl : (b.1 0 3).toInt = (b.1 0 3).toInt) es).mp c3
      rw [ev]
      refine q_feed x1.toInt.toNat N N (x1 - 1) a b (by omega) (by omega) (by omega) (by omega) (by omega) h _ (fun r a2 b2 h2 run => good _ (by omega) g2 (fun _ => run _ ⟨rfl, h2⟩) (fun w => by omega))
    · have := (notleE (rfl : (b.1 0 3).toInt = (b.1 0 3).toInt) es).mp c3
      omega
  · have := (notleE (rfl : x1.toInt = x1.toInt) z8).mp c2
    omega
def Ft (a : St) (x : Int32) (τ : St) : Prop := (∀ c i : Nat, ¬ (c = 2 ∧ 5 ≤ i ∧ i ≤ 8) → τ.1 c i = a.1 c i) ∧ τ.1 2 8 = x
theorem Ft.u {x v : Int32} {τ : St} {j : Nat} (h : Ft a x τ) (hj : 5 ≤ j ∧ j ≤ 7) : Ft a x (u1 τ 2 j v) := ⟨fun c i q => (u1e (by omega)).trans (h.1 c i q), (u1e (by omega)).trans h.2⟩
theorem mk_tell {x : Int32} : M0 (Ft a x) (fun Q => fX8_tell N x Q a) := by
  have h1 : Ft a x (u1 a 2 8 x) := ⟨fun c i q => u1e (by omega), u1v⟩
  have h4 := ((h1.u (j := 5) (v := 0) (by omega)).u (j := 6) (v := 0) (by omega)).u (j := 7) (v := 0) (by omega)
  unfold fX8_tell fX8_drop
  exact M0.al (M0.al (M0.al (M0.al (M0.br (M0.ret h4) (M0.br (M0.ca (mk_fourOf h4) (fun r τ hF => M0.br (M0.ret hF) (M0.br (M0.al (M0.al (M0.al (M0.al (M0.ret (((hF.u (by omega)).u (by omega)).u (by omega))))))) (M0.ret hF)))) (M0.ret h4))))))
/-- nodes are counted: what the cache holds alone is changed -/
theorem c_cached (hN : 4294967400 ≤ N) (hg : ∀ c j : Nat, Rg1 c j (a.1 c j)) {Q : Int32 → St → Prop} (hQ : ∀ (r : Int32) (τ : St), Fc a τ → Q r τ) : fX8_cachedNodes N Q a :=
  mk_cachedNodes (σ0 := a) (fun _ _ _ => rfl) (fun _ _ => True) Q (fun r τ hF _ => hQ r τ hF) (sX8_cachedNodes hN (K1.self hg) (fun _ _ _ _ _ => trivial))
theorem p_table (hN : 4294967400 ≤ N) (hg : ∀ c j : Nat, Rg1 c j (a.1 c j)) (h : Rbt Xr a b) : fX11_table N x1 (fun r1 τ1 => fX12_table N x1 (fun r2 τ2 => Rbt Xr τ1 τ2) b) a := by
  have ed : a.1 3 7 = b.1 0 14 := h.1.at 3 7 0 14 (by decide)
  have g9 : G2 (u1 b 0 9 0) := h.2.2.2.2.1.uf (Rg2.r_0_9 (by decide) (by decide)) (by decide)
  unfold fX11_table
  rw [ed]
  refine ⟨fun c => ?_, fun c => ?_⟩
  · refine mk_tell (a := a) (x := x1) (fun τ => ∀ c j : Nat, Rg1 c j (τ.1 c j)) _ (fun s hF hs => ?_) (sX8_tell hN (K1.self hg) (fun τ k _ => k.1))
    refine c_cached hN hs (fun r τ hc => ?_)
    unfold fX12_table
    refine ⟨fun _ t et => ?_, fun w => absurd c w⟩
    rw [et]
    refine s_lies hN g9 (fun t2 g2 l2 => ?_)
    have fa : ∀ c i : Nat, ¬ (c = 13 ∨ c = 14 ∨ c = 2) → τ.1 c i = a.1 c i := fun c i q => (hc c i (by omega)).trans (hF.1 c i (by omega))
    have fb : ∀ c i : Nat, ¬ (c = 4 ∨ c = 5 ∨ (c = 0 ∧ (i = 6 ∨ i = 7 ∨ i = 9))) → t2.1 c i = b.1 c i := fun c i q => (l2.1 c i (by omega)).trans (u1e (by omega))
    refine h.mv (fun c i q => fa c i (by omega)) (fun c i q => fb c i (by omega)) (fun q hm => ?_) (h.2.1.fr (fun i => fa _ _ (by omega)) (fun i => fb _ _ (by omega))) (h.2.2.2.1.ext (fun c i q => fa c i (by omega)) (fun c i q => fb c i (by omega))) g2
    have t := SC_tree q hm
    have l := SC_lt q hm
    have t3 := SC_no2 q hm
    by_cases e : q = (2, 8, 0, 6)
    · rw [e]
      exact ((hc 2 8 (by omega)).trans hF.2).trans l2.2.2.symm
    · have n2 : q.1 ≠ 2 := fun w => e (t.1 w)
      have n6 : q.2.2.2 ≠ 6 := fun w => e (t.2.1 w)
      rw [fa _ _ (by omega), fb _ _ (by omega)]
      exact h.1 q hm
  · unfold fX12_table
    exact ⟨fun w => absurd w c, fun _ => h⟩
theorem p_forget (h : Rbt Xr a b) : fX11_forget N (fun r1 τ1 => fX12_forget N (fun r2 τ2 => r1 = r2 ∧ Rbt Xr τ1 τ2) b) a := by
  have z0 : (0 : Int32).toInt = 0 := by decide
  have hX := h.2.2.2.1
  intro v1 e1 s2 e2 s3 e3 w1 f1 t2 f2 t3 f3
  refine ⟨by rw [e1, f1]; exact h.1.at 6 5 0 36 (by decide), ?_⟩
  have k1 : G2 (u1 b 0 36 0) := by
    refine ⟨Gr2 h.2.2.2.2.1.1 (Rg2.r_0_36 (by decide) (by decide)), ?_, h.2.2.2.2.1.2.2.ext (u1e (by omega)) (u1e (by omega))⟩
    intro p hp
    rw [u1v, z0] at hp
    omega
  rw [e3, e2, f3, f2]
  refine h.mv (fun c i q => (u1e (by omega)).trans (u1e (by omega))) (fun c i q => (u1e (by omega)).trans (u1e (by omega))) ((h.1.ab (by decide)).ab (by decide)) (h.2.1.fr (fun i => (u1e (by omega)).trans (u1e (by omega))) (fun i => (u1e (by omega)).trans (u1e (by omega)))) ⟨hX.1.ext (fun c i q => (u1e (by omega)).trans (u1e (by omega))) (fun c i q => (u1e (by omega)).trans (u1e (by omega))), hX.2.1.ext (fun i => (u1e (by omega)).trans (u1e (by omega))) (fun c i q => (u1e (by omega)).trans (u1e (by omega))), fun p h1 h2 => ?_, fun p h1 h2 => ?_⟩ (k1.uf (Rg2.r_0_41 (by decide) (by decide)) (by decide))
  · rw [u1e (by omega), u1v, z0] at h2
    omega
  · rw [u1v, z0] at h2
    omega
theorem p_told (hN : 4294967400 ≤ N) (hg : ∀ c j : Nat, Rg1 c j (a.1 c j)) (h : Rbt Xr a b) : fX11_told N x1 (fun r1 τ1 => fX12_told N x1 (fun r2 τ2 => (x1 ≠ 15 → r1 = r2) ∧ Rbt Xr τ1 τ2) b) a := by
  have s := h.1
  unfold fX11_told
  refine ⟨fun c => ?_, fun c8 => ⟨fun c => ?_, fun c9 => ⟨fun c => ?_, fun c10 => ⟨fun c => ?_, fun c11 => ⟨fun c => ?_, fun c12 => ⟨fun c => ?_, fun c13 => ⟨fun c => ?_, fun c14 => ⟨fun c => ?_, fun c15 => ⟨fun c => ?_, fun c16 => ⟨fun c => ?_, fun c17 => ?_⟩⟩⟩⟩⟩⟩⟩⟩⟩⟩
  · subst c; simp [fX12_told]; exact ⟨s.at 3 9 0 12 (by decide), h⟩
  · subst c; simp [fX12_told]; exact ⟨s.at 3 10 0 13 (by decide), h⟩
  · subst c; simp [fX12_told]; exact ⟨s.at 2 8 0 6 (by decide), h⟩
  · subst c; simp [fX12_told]; exact ⟨s.at 1 1 0 1 (by decide), h⟩
  · subst c; simp [fX12_told]; exact ⟨s.at 3 8 0 24 (by decide), h⟩
  · subst c; simp [fX12_told]; exact ⟨s.at 0 6 0 3 (by decide), h⟩
  · subst c; simp [fX12_told]; exact ⟨h.2.2.2.1.1.1, h⟩
  · subst c
    refine c_cached hN hg (fun r τ hc => ?_)
    simp [fX12_told]
    exact h.cache (fun c i q => hc c i (by omega))
  · subst c; simp [fX12_told]; exact ⟨s.at 6 5 0 36 (by decide), h⟩
  · subst c; simp [fX12_told]; exact ⟨s.at 7 4 0 41 (by decide), h⟩
  · unfold fX9_tell
    refine ⟨fun c => ?_, fun c0 => ⟨fun c => ?_, fun c1 => ⟨fun c => ?_, fun c2 => ⟨fun c => ?_, fun c3 => ⟨fun c => ?_, fun c4 => ⟨fun c => ?_, fun c5 => ⟨fun c => ?_, fun c6 => ⟨fun c => ?_, fun c7 => ?_⟩⟩⟩⟩⟩⟩⟩⟩
    · subst c; simp [fX12_told]; exact ⟨s.at 5 0 0 25 (by decide), h⟩
    · subst c; simp [fX12_told]; exact ⟨s.at 5 1 0 26 (by decide), h⟩
    · subst c; simp [fX12_told]; exact ⟨s.at 5 2 0 27 (by decide), h⟩
    · subst c; simp [fX12_told]; exact ⟨s.at 5 3 0 28 (by decide), h⟩
    · subst c; simp [fX12_told]; exact ⟨s.at 5 4 0 29 (by decide), h⟩
    · subst c; simp [fX12_told]; exact ⟨s.at 5 5 0 30 (by decide), h⟩
    · subst c; simp [fX12_told]; exact ⟨s.at 5 6 0 31 (by decide), h⟩
    · subst c; simp [fX12_told]; exact ⟨s.at 5 7 0 32 (by decide), h⟩
    · unfold fX12_told
      simp only [c0, c1, c2, c3, c4, c5, c6, c7, c8, c9, c10, c11, c12, c13, c14, c15, c16, c17, false_implies, not_false_eq_true, true_implies, true_and, and_true]
      first | exact h | exact ⟨fun _ => trivial, h⟩ | exact ⟨trivial, h⟩
end SIM32
