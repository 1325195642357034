section SIM31
variable {a b a' b' : St} {N : Nat} {x1 x2 : Int32}
theorem and255t (v : Int32) : (v &&& 255) &&& 255 = v &&& 255 := by rw [Int32.and_assoc]; rfl
/-- a byte is told -/
theorem e_tell {v : Int32} {Q : St → Prop} {σ0 σ : St} (h1 : 0 ≤ x1.toInt) (h2 : x1.toInt ≤ 4095) (hσ : K2 σ0 σ) (hQ : ∀ τ : St, K2 σ0 τ → FrT σ τ → τ.1 1 = upd (σ.1 1) x1.toNatClampNeg (v &&& 255) → Q τ) : fX12_tell N x1 v Q σ := by
  unfold fX12_tell
  intro w ew
  refine ⟨inE rfl h1 (by omega), fun σ3 e3 => ?_⟩
  have b255 := and255 v
  have k3 : K2 σ0 σ3 := by
    rw [e3, ew]
    exact hσ.u (Rg2.q_1 b255.1 b255.2) (by omega) (by omega) (by omega)
  have f3 : FrT σ σ3 := fun c i q => kq e3 (by omega)
  have m3 : σ3.1 1 = upd (σ.1 1) x1.toNatClampNeg (v &&& 255) := by rw [e3, u1_at, ew]
  have q3 := hQ σ3 k3 f3 m3
  refine ⟨fun _ => q3, fun _ => ⟨fun _ => q3, fun _ => ⟨fun _ => q3, fun _ σ7 e7 => ?_⟩⟩⟩
  refine hQ σ7 ?_ (fun c i q => (kq e7 (by omega)).trans (f3 c i q)) ?_
  · rw [e7]
    exact k3.u (by simp [Rg2, In32]) (by omega) (by omega) (by omega)
  · rw [e7, u1_ne (by decide)]; exact m3
theorem e_load (hN : 4294967400 ≤ N) {n : Int32} {Q : Int32 → St → Prop} {σ0 σ : St} (h1 : 0 ≤ x1.toInt) (hn : 0 ≤ n.toInt) (hn2 : n.toInt ≤ 600) (h2 : x1.toInt + n.toInt ≤ 4096) (hσ : K2 σ0 σ) (hQ : ∀ τ : St, K2 σ0 τ → FrT σ τ → (∀ i : Nat, τ.1 1 i = if x1.toInt ≤ (i : Int) ∧ (i : Int) < x1.toInt + n.toInt then (σ.1 2 (i - x1.toNatClampNeg)) &&& 255 else σ.1 1 i) → Q n τ) : lo1 (fX12_load_l31 N x1 n Q) N 0 σ := by
  have z0 : (0 : Int32).toInt = 0 := by decide
  have ex := clE (rfl : x1.toInt = x1.toInt) h1
  refine lo1_i (fun (y : Int32) (τ : St) => 0 ≤ y.toInt ∧ y.toInt ≤ n.toInt ∧ K2 σ0 τ ∧ FrT σ τ ∧ ∀ i : Nat, τ.1 1 i = if x1.toInt ≤ (i : Int) ∧ (i : Int) < x1.toInt + y.toInt then (σ.1 2 (i - x1.toNatClampNeg)) &&& 255 else σ.1 1 i) (fun y _ => (n.toInt - y.toInt).toNat) ?_ N 0 σ ⟨by omega, by omega, hσ, fun _ _ _ => rfl, fun i => by rw [if_neg (by omega)]⟩ (by (try dsimp only); omega)
  intro rr y τ hI ih
  obtain ⟨i1, i2, i3, i4, i5⟩ := hI
  have ey := clE (rfl : y.toInt = y.toInt) i1
  have es : (x1 + y).toInt = x1.toInt + y.toInt := aOkE rfl rfl (by omega) (by omega)
  unfold fX12_load_l31
  refine ⟨fun c => ?_, fun c => ?_⟩
  · have f := (leE (rfl : n.toInt = n.toInt) (rfl : y.toInt = y.toInt)).mp c
    refine hQ τ i3 i4 (fun i => ?_)
    rw [i5 i, show y.toInt = n.toInt by omega]
  · have f := (notleE (rfl : n.toInt = n.toInt) (rfl : y.toInt = y.toInt)).mp c
    refine ⟨inE rfl (by omega) (by omega), e_tell (by omega) (by omega) i3 (fun υ k2 f2 m2 v ev => ?_)⟩
    have fv : v.toInt = y.toInt + 1 := (congrArg Int32.toInt ev).trans (aOkE rfl (show (1 : Int32).toInt = 1 from by decide) (by omega) (by omega))
    have ec := clE es (by omega)
    refine ih v υ ⟨by omega, by omega, k2, i4.tr f2, fun i => ?_⟩ (by (try dsimp only); omega)
    rw [m2]
    by_cases e : i = (x1 + y).toNatClampNeg
    · rw [e, up1, if_pos (by omega), i4 2 _ (by omega)]
      rw [show (x1 + y).toNatClampNeg - x1.toNatClampNeg = y.toNatClampNeg by omega]
    · rw [up2 e, i5 i]
      by_cases g : x1.toInt ≤ (i : Int) ∧ (i : Int) < x1.toInt + y.toInt
      · rw [if_pos g, if_pos (by omega)]
      · rw [if_neg g, if_neg (by omega)]
theorem p_load (hN : 4294967400 ≤ N) (hg : ∀ c j : Nat, Rg1 c j (a.1 c j)) (h : Rbt Xr a b) : fX11_load N x1 (fun r1 τ1 => fX12_load N x1 (fun r2 τ2 => Rbt Xr τ1 τ2) b) a := by
  have z0 : (0 : Int32).toInt = 0 := by decide
  have zm : (4096 : Int32).toInt = 4096 := by decide
  have zmL : (4096 : Int64).toInt = 4096 := by decide
  have e1 : a.1 0 6 = b.1 0 3 := h.1.at 0 6 0 3 (by decide)
  have d := K2.g_0_3 (K2.self h.2.2.2.2.1)
  have hx := h.2.2.2.1
  have eL : (x1.toInt64 + (b.1 0 3).toInt64).toInt = x1.toInt + (b.1 0 3).toInt := aOkE64 (i2lE rfl) (i2lE rfl) (by have := tB x1; omega) (by have := tB x1; omega)
  have g0 : G2 (u1 b 0 3 0) := h.2.2.2.2.1.uf (by simp [Rg2, In32]) (by decide)
  have base : Rbt Xr (u1 a 0 6 0) (u1 b 0 3 0) := h.mv (fun c i q => u1e (by omega)) (fun c i q => u1e (by omega)) (h.1.ab (by decide)) (h.2.1.fr (fun i => u1e (by omega)) (fun i => u1e (by omega))) ⟨hx.1.ext (fun c i q => u1e (by omega)) (fun c i q => u1e (by omega)), (fun i hi => by rw [u1v, z0] at hi; omega), hx.2.2.1.ext (fun c i q => u1e (by omega)) (fun c i q => u1e (by omega)), hx.2.2.2.ext (fun c i q => u1e (by omega)) (fun c i q => u1e (by omega))⟩ g0
  have ref : (∀ (w : Int32) (t : St), w = b.1 0 3 → t = u1 b 0 3 0 → 0 ≤ x1.toInt → x1.toInt + (b.1 0 3).toInt ≤ 4096 → lo1 (fX12_load_l31 N x1 w (fun r2 τ2 => Rbt Xr (u1 a 0 6 0) τ2)) N 0 t) → fX12_load N x1 (fun r2 τ2 => Rbt Xr (u1 a 0 6 0) τ2) b := by
    intro hh w ew t et
    refine ⟨fun _ => by rw [et]; exact base, fun c => ⟨fun c2 => hh w t ew et ?_ ?_, fun _ => by rw [et]; exact base⟩⟩
    · have := (notltE (rfl : x1.toInt = x1.toInt) z0).mp c
      omega
    · rw [ew] at c2
      have := (leE64 eL zmL).mp c2
      omega
  unfold fX11_load
  intro v ev s2 es2
  rw [es2]
  have bad : (x1.toInt < 0 ∨ 4096 < x1.toInt + (b.1 0 3).toInt) → fX12_load N x1 (fun r2 τ2 => Rbt Xr (u1 a 0 6 0) τ2) b := fun w => ref (fun w t ew et q1 q2 => by omega)
  refine ⟨fun c => ref (fun w t ew et q1 q2 => ?_), fun c => ⟨fun c2 => bad (Or.inl ?_), fun c2 => ⟨fun c3 => ?_, fun c3 => bad (Or.inr ?_)⟩⟩⟩
  · have zn : (b.1 0 3).toInt = 0 := by rw [← e1, ← ev, c]; exact z0
    rw [et]
    refine e_load hN q1 (by rw [ew]; omega) (by rw [ew]; omega) (by rw [ew]; omega) (K2.self g0) (fun τ k f m => ?_)
    refine base.mv (fun _ _ _ => rfl) (fun c i q => f c i (by omega)) (base.1.fr (fun _ _ => rfl) (fun q hm => f _ _ (by have := SC_no2 q hm; have := SC_lt q hm; omega))) (base.2.1.fr (fun _ => rfl) (fun i => ?_)) (base.2.2.2.1.ext (fun _ _ _ => rfl) (fun c i q => f c i (by omega))) k.1
    rw [m i, if_neg (by rw [ew]; omega)]
  · have := (ltE (rfl : x1.toInt = x1.toInt) z0).mp c2
    omega
  · have q1 := (notltE (rfl : x1.toInt = x1.toInt) z0).mp c2
    have evI : v.toInt = (b.1 0 3).toInt := by rw [ev, e1]
    have q2 := (leE (rfl : x1.toInt = x1.toInt) (sOkE zm evI (by omega) (by omega))).mp c3
    have ex := clE (rfl : x1.toInt = x1.toInt) (by omega)
    have en := clE evI (by omega)
    refine ⟨⟨by decide, c2, fun w => ?_, ?_, ?_⟩, fun i => ?_, fun s7 e7 => ?_⟩
    · have := (ltE evI z0).mp w
      omega
    · rw [show (0 : Int32).toNatClampNeg = 0 from rfl]
      omega
    · omega
    · rw [u1e (by omega)]
      have r := hg 10 i
      exact by_fit r.1 r.2
    · have m7 : ∀ i : Nat, s7.1 12 i = if x1.toNatClampNeg ≤ i ∧ i < x1.toNatClampNeg + v.toNatClampNeg then a.1 10 (i - x1.toNatClampNeg) else a.1 12 i := by
        intro i
        rw [e7]
        show (uc _ 12 _).1 12 i = _
        rw [uc_at, u1_ne (by decide), u1_ne (by decide)]
        show (if x1.toNatClampNeg ≤ i ∧ i < x1.toNatClampNeg + v.toNatClampNeg then a.1 10 ((0 : Int32).toNatClampNeg + (i - x1.toNatClampNeg)) else a.1 12 i) = _
        rw [show (0 : Int32).toNatClampNeg = 0 from rfl, Nat.zero_add]
      have f7 : ∀ c i : Nat, c ≠ 12 → s7.1 c i = (u1 a 0 6 0).1 c i := fun c i q => by
        rw [e7]
        show (uc _ 12 _).1 c i = _
        rw [uc_ne q]
      have key : fX12_load N x1 (fun r2 τ2 => Rbt Xr s7 τ2) b := by
        intro w ew t et
        refine ⟨fun c => absurd c c2, fun _ => ⟨fun _ => ?_, fun c => ?_⟩⟩
        · rw [et]
          have wI : w.toInt = (b.1 0 3).toInt := by rw [ew]
          refine e_load hN (by omega) (by omega) (by omega) (by omega) (K2.self g0) (fun τ k f m => ?_)
          refine base.mv (fun c i q => f7 c i (by omega)) (fun c i q => f c i (by omega)) (base.1.fr (fun q hm => f7 _ _ (by have := SC_lt q hm; omega)) (fun q hm => f _ _ (by have := SC_no2 q hm; have := SC_lt q hm; omega))) (fun i hi => ?_) (base.2.2.2.1.ext (fun c i q => f7 c i (by omega)) (fun c i q => f c i (by omega))) k.1
          rw [m i, m7 i]
          by_cases g : x1.toNatClampNeg ≤ i ∧ i < x1.toNatClampNeg + v.toNatClampNeg
          · rw [if_pos g, if_pos (by omega), u1e (by omega), ← hx.2.1 (i - x1.toNatClampNeg) (by omega), and255t]
          · rw [if_neg g, if_neg (by omega), u1e (by omega)]
            exact h.2.1 i hi
        · rw [ew] at c
          have := (notleE64 eL zmL).mp c
          omega
      have drop : ∀ s : St, (∀ c i : Nat, ¬ (c = 13 ∨ c = 14 ∨ (c = 2 ∧ i ≠ 8)) → s.1 c i = s7.1 c i) → fX12_load N x1 (fun r2 τ2 => Rbt Xr s τ2) b := by
        intro s hs w ew t et
        have kk := key w ew t et
        refine ⟨fun c => absurd c c2, fun _ => ⟨fun c3 => ?_, fun c3 => (kk.2 c2).2 c3 |>.cache hs⟩⟩
        rw [et]
        have wI : w.toInt = (b.1 0 3).toInt := by rw [ew]
        refine e_load hN (by omega) (by omega) (by omega) (by omega) (K2.self g0) (fun τ k f m => ?_)
        refine Rbt.cache (a := s7) ?_ hs
        refine base.mv (fun c i q => f7 c i (by omega)) (fun c i q => f c i (by omega)) (base.1.fr (fun q hm => f7 _ _ (by have := SC_lt q hm; omega)) (fun q hm => f _ _ (by have := SC_no2 q hm; have := SC_lt q hm; omega))) (fun i hi => ?_) (base.2.2.2.1.ext (fun c i q => f7 c i (by omega)) (fun c i q => f c i (by omega))) k.1
        rw [m i, m7 i]
        by_cases g : x1.toNatClampNeg ≤ i ∧ i < x1.toNatClampNeg + v.toNatClampNeg
        · rw [if_pos g, if_pos (by omega), u1e (by omega), ← hx.2.1 (i - x1.toNatClampNeg) (by omega), and255t]
        · rw [if_neg g, if_neg (by omega), u1e (by omega)]
          exact h.2.1 i hi
      unfold fX8_dropIfTouched fX8_drop
      refine ⟨fun _ => key, fun _ => ⟨fun _ => key, fun _ t1 g1 t2 g2 t3 g3 => drop t3 (fun c i q => ?_)⟩⟩
      rw [g3, u1e (by omega), g2, u1e (by omega), g1, u1e (by omega)]
  · have q1 := (notltE (rfl : x1.toInt = x1.toInt) z0).mp c2
    have evI : v.toInt = (b.1 0 3).toInt := by rw [ev, e1]
    have := (notleE (rfl : x1.toInt = x1.toInt) (sOkE zm evI (by omega) (by omega))).mp c3
    omega
end SIM31
