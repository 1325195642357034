section CACHE3
/-- is the tree at x cached: by its first four bytes and the border -/
def Cq (σ : St) (x : Int32) : Prop := 0 < x.toInt ∧ x.toInt + 12 ≤ (σ.1 0 1).toInt ∧ 12 ≤ (f4M (σ.1 1) x.toNatClampNeg).toInt ∧ x.toInt + (f4M (σ.1 1) x.toNatClampNeg).toInt ≤ (σ.1 0 1).toInt
/-- what telling the tree leaves in the cache -/
def CO (σ τ : St) (x : Int32) : Prop := (¬ Cq σ x → τ.1 0 7 = 0) ∧ (Cq σ x → (τ.2 0 8).toInt = (f4M (σ.1 1) x.toNatClampNeg).toInt ∧ 0 ≤ (τ.1 0 7).toInt ∧ NC (σ.1 1) x.toNatClampNeg (x.toNatClampNeg + (f4M (σ.1 1) x.toNatClampNeg).toNatClampNeg) (τ.1 0 7).toNatClampNeg)
/-- the search, half way: left on the stack, g those that are counted -/
def DF (M : Nat → Int32) (F T : Nat) (τ : St) (left z : Int) (g : Nat → Int32) : Prop :=
  z = cnt g 4096 ∧ (∀ y : Nat, g y ≠ 0 → F ≤ y ∧ y < T ∧ Wh M T y ∧ τ.1 4 y ≠ 0) ∧ (∀ y : Nat, F ≤ y → y < T → τ.1 4 y ≠ 0 → Wh M T y → g y ≠ 0) ∧
  (Gd M F T (f4M M (F + 8)) → g (f4M M (F + 8)).toNatClampNeg ≠ 0 ∨ ∃ i : Nat, (i : Int) < left ∧ τ.1 5 i = f4M M (F + 8)) ∧
  (∀ x : Nat, g x ≠ 0 → M x = 0 → (Gd M F T (f4M M (x + 1)) → g (f4M M (x + 1)).toNatClampNeg ≠ 0 ∨ ∃ i : Nat, (i : Int) < left ∧ τ.1 5 i = f4M M (x + 1)) ∧ (Gd M F T (f4M M (x + 5)) → g (f4M M (x + 5)).toNatClampNeg ≠ 0 ∨ ∃ i : Nat, (i : Int) < left ∧ τ.1 5 i = f4M M (x + 5))) ∧
  ∀ S : Nat → Prop, Cl M F T S → (∀ y : Nat, g y ≠ 0 → S y) ∧ ∀ i : Nat, (i : Int) < left → Gd M F T (τ.1 5 i) → S (τ.1 5 i).toNatClampNeg
/-- one popped that needn't be looked at -/
theorem DF.pop {M : Nat → Int32} {F T : Nat} {τ τ' : St} {left z : Int} {g : Nat → Int32} {w : Nat} (h : DF M F T τ left z g) (hw : left = (w : Int) + 1) (h5 : ∀ i : Nat, τ'.1 5 i = τ.1 5 i) (h4 : ∀ y : Nat, τ'.1 4 y ≠ 0 ↔ (τ.1 4 y ≠ 0 ∨ (y : Int) = (τ.1 5 w).toInt)) (hn : Gd M F T (τ.1 5 w) → g (τ.1 5 w).toNatClampNeg ≠ 0) : DF M F T τ' w z g := by
  obtain ⟨a1, a2, a3, a4, a5, a6⟩ := h
  have mv : ∀ y : Int32, Gd M F T y → (g y.toNatClampNeg ≠ 0 ∨ ∃ i : Nat, (i : Int) < left ∧ τ.1 5 i = y) → (g y.toNatClampNeg ≠ 0 ∨ ∃ i : Nat, (i : Int) < (w : Int) ∧ τ'.1 5 i = y) := by
    intro y gy q
    rcases q with q | ⟨i, i1, i2⟩
    · exact Or.inl q
    · by_cases e : i = w
      · rw [e] at i2
        rw [← i2] at gy ⊢
        exact Or.inl (hn gy)
      · exact Or.inr ⟨i, by omega, by rw [h5]; exact i2⟩
  refine ⟨a1, fun y q => ⟨(a2 y q).1, (a2 y q).2.1, (a2 y q).2.2.1, (h4 y).mpr (Or.inl (a2 y q).2.2.2)⟩, fun y y1 y2 y3 y4 => ?_, fun q => mv _ q (a4 q), fun x x1 x2 => ⟨fun q => mv _ q ((a5 x x1 x2).1 q), fun q => mv _ q ((a5 x x1 x2).2 q)⟩, fun S hS => ⟨(a6 S hS).1, fun i i1 i2 => ?_⟩⟩
  · rcases (h4 y).mp y3 with q | q
    · exact a3 y y1 y2 q y4
    · have ey : (τ.1 5 w).toNatClampNeg = y := by have := clE q.symm (by omega); omega
      have := hn ⟨by omega, by omega, by rw [ey]; exact y4⟩
      rw [ey] at this
      exact this
  · rw [h5] at i2 ⊢
    exact (a6 S hS).2 i (by omega) i2
/-- one popped that is counted; its children may come upon the stack -/
theorem DF.add {M : Nat → Int32} {F T : Nat} {τ τ' : St} {left z l' : Int} {g : Nat → Int32} {w y0 : Nat} (h : DF M F T τ left z g) (hw : left = (w : Int) + 1) (e0 : (τ.1 5 w).toInt = y0) (hF : F ≤ y0) (hT : y0 < T) (hT2 : T ≤ 4096) (hW : Wh M T y0) (hm : τ.1 4 y0 = 0) (h5 : ∀ i : Nat, i < w → τ'.1 5 i = τ.1 5 i) (hl : (w : Int) ≤ l') (h4 : ∀ y : Nat, τ'.1 4 y ≠ 0 ↔ (τ.1 4 y ≠ 0 ∨ y = y0)) (hb : M y0 = 0 → l' = (w : Int) + 2 ∧ τ'.1 5 w = f4M M (y0 + 1) ∧ τ'.1 5 (w + 1) = f4M M (y0 + 5)) (hnb : M y0 ≠ 0 → l' = w) : DF M F T τ' l' (z + 1) (upd g y0 1) := by
  obtain ⟨a1, a2, a3, a4, a5, a6⟩ := h
  have c0 : (τ.1 5 w).toNatClampNeg = y0 := by have := clE e0 (by omega); omega
  have g0 : g y0 = 0 := by
    by_cases q : g y0 = 0
    · exact q
    · exact absurd hm (a2 y0 q).2.2.2
  have up : ∀ y : Nat, g y ≠ 0 → upd g y0 1 y ≠ 0 := fun y q => by
    by_cases e : y = y0
    · rw [e, up1]; decide
    · rw [up2 e]; exact q
  have mv : ∀ y : Int32, (g y.toNatClampNeg ≠ 0 ∨ ∃ i : Nat, (i : Int) < left ∧ τ.1 5 i = y) → (upd g y0 1 y.toNatClampNeg ≠ 0 ∨ ∃ i : Nat, (i : Int) < l' ∧ τ'.1 5 i = y) := by
    intro y q
    rcases q with q | ⟨i, i1, i2⟩
    · exact Or.inl (up _ q)
    · by_cases e : i = w
      · rw [e] at i2
        rw [← i2, c0, up1]
        exact Or.inl (by decide)
      · exact Or.inr ⟨i, by omega, by rw [h5 i (by omega)]; exact i2⟩
  have gw : Gd M F T (τ.1 5 w) := ⟨by omega, by omega, by rw [c0]; exact hW⟩
  refine ⟨?_, fun y q => ?_, fun y y1 y2 y3 y4 => ?_, fun q => mv _ (a4 q), fun x x1 x2 => ?_, fun S hS => ⟨fun y q => ?_, fun i i1 i2 => ?_⟩⟩
  · have := cnt_up (v := 1) g0 (by decide) 4096 (show y0 < 4096 by omega)
    rw [this, a1]
    omega
  · by_cases e : y = y0
    · rw [e]; exact ⟨hF, hT, hW, (h4 y0).mpr (Or.inr rfl)⟩
    · rw [up2 e] at q
      exact ⟨(a2 y q).1, (a2 y q).2.1, (a2 y q).2.2.1, (h4 y).mpr (Or.inl (a2 y q).2.2.2)⟩
  · by_cases e : y = y0
    · rw [e, up1]; decide
    · rw [up2 e]
      rcases (h4 y).mp y3 with q | q
      · exact a3 y y1 y2 q y4
      · exact absurd q e
  · by_cases e : x = y0
    · rw [e] at x2 ⊢
      obtain ⟨b1, b2, b3⟩ := hb x2
      exact ⟨fun _ => Or.inr ⟨w, by omega, b2⟩, fun _ => Or.inr ⟨w + 1, by omega, b3⟩⟩
    · rw [up2 e] at x1
      exact ⟨fun q => mv _ ((a5 x x1 x2).1 q), fun q => mv _ ((a5 x x1 x2).2 q)⟩
  · by_cases e : y = y0
    · have := (a6 S hS).2 w (by omega) gw
      rw [c0] at this
      rw [e]; exact this
    · rw [up2 e] at q
      exact (a6 S hS).1 y q
  · by_cases c : i < w
    · rw [h5 i c] at i2 ⊢
      exact (a6 S hS).2 i (by omega) i2
    · by_cases b0 : M y0 = 0
      · obtain ⟨b1, b2, b3⟩ := hb b0
        have s0 := (a6 S hS).2 w (by omega) gw
        rw [c0] at s0
        have := hS.2 y0 hF hT hW b0 s0
        by_cases ew : i = w
        · rw [ew, b2] at i2 ⊢
          exact this.1 i2
        · rw [show i = w + 1 by omega, b3] at i2 ⊢
          exact this.2 i2
      · have := hnb b0
        omega
set_option maxHeartbeats 2000000 in
theorem e_lies {N : Nat} (hN : 4294967400 ≤ N) {x1 : Int32} {Q : St → Prop} {σ : St} (hσ : G2 σ) (hQ' : ∀ τ : St, G2 τ → Fl x1 σ τ → CO σ τ x1 → Q τ) : fX12_lies N x1 Q σ := by
  have z0 : (0 : Int32).toInt = 0 := by decide
  have z12 : (12 : Int64).toInt = 12 := by decide
  have z8L : (8 : Int64).toInt = 8 := by decide
  have z1L : (1 : Int64).toInt = 1 := by decide
  have z5L : (5 : Int64).toInt = 5 := by decide
  have z9L : (9 : Int64).toInt = 9 := by decide
  unfold fX12_lies
  intro σ1 e1 σ2 e2
  have k1 : G2 σ1 := by rw [e1]; exact hσ.uf (Rg2.u_0_6 _) (by decide)
  have k2 : G2 σ2 := by rw [e2]; exact k1.uf (Rg2.u_0_7 _) (by decide)
  have l1 : Fl x1 σ σ1 := ⟨fun c i q => by rw [e1, u1e (by omega)], fun c i q => by rw [e1]; rfl, by rw [e1, u1v]⟩
  have l2 : Fl x1 σ σ2 := l1.u e2 (by omega)
  have b3 := K2.g_0_1 (K2.self k2)
  have b1 := tB x1
  have eb : σ2.1 0 1 = σ.1 0 1 := l2.1 0 1 (by omega)
  have em : σ2.1 1 = σ.1 1 := funext (fun i => l2.1 1 i (by omega))
  have e07 : σ2.1 0 7 = 0 := by rw [e2, u1v]
  have e64 : x1.toInt64.toInt = x1.toInt := i2lE rfl
  have f12 : (x1.toInt64 + 12).toInt = x1.toInt + 12 := aOkE64 e64 z12 (by omega) (by omega)
  have f8 : (x1.toInt64 + 8).toInt = x1.toInt + 8 := aOkE64 e64 z8L (by omega) (by omega)
  have no : ¬ Cq σ x1 → Q σ2 := fun w => hQ' _ k2 l2 ⟨fun _ => e07, fun q => absurd q w⟩
  refine ⟨fun c => no (fun q => ?_), fun c1 => ⟨fun cb => ?_, fun c => no (fun q => ?_)⟩⟩
  · have := (leE (rfl : x1.toInt = x1.toInt) z0).mp c
    have := q.1
    omega
  · have f1 := (notleE (rfl : x1.toInt = x1.toInt) z0).mp c1
    have fb := (leE64 f12 (i2lE (rfl : (σ2.1 0 1).toInt = (σ2.1 0 1).toInt))).mp cb
    have cF := clE (rfl : x1.toInt = x1.toInt) (by omega)
    have f40 := f4_M (b := σ2) (y := x1.toInt64) (x := x1.toNatClampNeg) (by omega) (by omega)
    refine r_four hN ?_
    rw [f40.1, f40.2, em]
    intro v ev
    obtain ⟨r, er⟩ : ∃ r : Int32, f4M (σ.1 1) x1.toNatClampNeg = r := ⟨_, rfl⟩
    rw [er] at ev
    have fv : v.toInt = r.toInt := (congrArg Int64.toInt ev).trans (i2lE rfl)
    have b2 := tB r
    refine ⟨fun c => no (fun q => ?_), fun c2 => ⟨fun c3 => ?_, fun c => no (fun q => ?_)⟩⟩
    · have := (ltE64 (rfl : v.toInt = v.toInt) z12).mp c
      have := q.2.2.1
      rw [er] at this
      omega
    · have f2 := (notltE64 (rfl : v.toInt = v.toInt) z12).mp c2
      have fs : (x1.toInt64 + v).toInt = x1.toInt + v.toInt := aOkE64 e64 rfl (by omega) (by omega)
      have f3 := (leE64 fs (i2lE (rfl : (σ2.1 0 1).toInt = (σ2.1 0 1).toInt))).mp c3
      have cq : Cq σ x1 := ⟨by omega, by rw [← eb]; omega, by rw [er]; omega, by rw [er, ← eb]; omega⟩
      have cr := clE (rfl : r.toInt = r.toInt) (by omega)
      obtain ⟨F, hF⟩ : ∃ F : Nat, x1.toNatClampNeg = F := ⟨_, rfl⟩
      obtain ⟨T, hT⟩ : ∃ T : Nat, F + r.toNatClampNeg = T := ⟨_, rfl⟩
      have fsT : (x1.toInt64 + v).toInt = T := by omega
      intro σ4 e4
      have k4 : G2 σ4 := by rw [e4]; exact k2
      have v8 : σ4.2 0 8 = v := by rw [e4, u2w]
      have l4 : Fl x1 σ σ4 := by
        refine ⟨fun c i q => by rw [e4]; exact l2.1 c i q, fun c i q => ?_, by rw [e4]; exact l2.2.2⟩
        rw [e4, u2e q]
        exact l2.2.1 c i q
      refine lo1_i (fun (y : Int32) (τ : St) => G2 τ ∧ Fl x1 σ τ ∧ τ.2 0 8 = v ∧ 0 ≤ y.toInt ∧ y.toInt ≤ 4096 ∧ ∀ i : Nat, (i : Int) < y.toInt → τ.1 4 i = 0) (fun y _ => (2147483648 - y.toInt).toNat) ?_ N 0 σ4 ⟨k4, l4, v8, by omega, by omega, fun i hi => absurd hi (by omega)⟩ (by (try dsimp only); omega)
      intro rr y τ hI ih
      obtain ⟨kt, lt, vt, i1, iy, i0⟩ := hI
      unfold fX12_lies_l68
      refine ⟨fun cy => ?_, fun c => ⟨?_, ?_⟩⟩
      · have cy' := (leE (show (4096 : Int32).toInt = 4096 from by decide) (rfl : y.toInt = _)).mp cy
        have emt : τ.1 1 = σ.1 1 := funext (fun i => lt.1 1 i (by omega))
        have f48 := f4_M (b := τ) (y := x1.toInt64 + 8) (x := F + 8) (by omega) (by omega)
        refine r_four hN ?_
        rw [f48.1, f48.2, emt]
        refine ⟨inE z0 (by omega) (by omega), fun σ6 e6 => ?_⟩
        have k6 : G2 σ6 := by rw [e6]; exact kt.ua (Rg2.ra_5 _ _) (by decide)
        have l6 : Fl x1 σ σ6 := lt.u e6 (by omega)
        have z1 : (1 : Int32).toInt = 1 := by decide
        have d6 : DF (σ.1 1) F T σ6 1 0 (fun _ => 0) := by
          have m6 : ∀ y : Nat, y < 4096 → σ6.1 4 y = 0 := fun y hy => by rw [e6, u1e (by omega)]; exact i0 y (by omega)
          have s6 : σ6.1 5 0 = f4M (σ.1 1) (F + 8) := by rw [e6, show (0 : Int32).toNatClampNeg = 0 from rfl, u1v]
          refine ⟨?_, fun y q => absurd rfl q, fun y y1 y2 y3 => absurd (m6 y (by omega)) y3, fun _ => Or.inr ⟨0, by omega, s6⟩, fun x q => absurd rfl q, fun S hS => ⟨fun y q => absurd rfl q, fun i i1 i2 => ?_⟩⟩
          · have := cnt_no (f := fun _ => (0 : Int32)) 4096 (fun _ _ => rfl)
            omega
          · rw [show i = 0 by omega, s6] at i2 ⊢
            exact hS.1 i2
        refine lo2_i (fun (x z : Int32) (τ : St) => G2 τ ∧ Fl x1 σ τ ∧ τ.2 0 8 = v ∧ 0 ≤ x.toInt ∧ x.toInt ≤ 1 + (cnt (τ.1 4) 4096 : Int) ∧ ∃ g : Nat → Int32, DF (σ.1 1) F T τ x.toInt z.toInt g) (fun x _ τ => (2 * (4096 - (cnt (τ.1 4) 4096 : Int)) + x.toInt).toNat) ?_ N 1 0 σ6 ⟨k6, l6, by rw [e6]; exact vt, by decide, ?_, ⟨_, d6⟩⟩ ?_
        · intro rr2 x z τ hI2 ih2
          obtain ⟨kt, lt, vt, i1, i2, g, hd⟩ := hI2
          have hc := cnt_le (τ.1 4) 4096
          have hcg := cnt_le g 4096
          have emt : τ.1 1 = σ.1 1 := funext (fun i => lt.1 1 i (by omega))
          unfold fX12_lies_l112
          refine ⟨fun c0 υ e => ?_, fun c => ?_⟩
          · have c0' := (leE (rfl : x.toInt = _) z0).mp c0
            obtain ⟨a1, a2, a3, a4, a5, a6⟩ := hd
            have nostk : ∀ {P : Prop} {y : Int32}, (P ∨ ∃ i : Nat, (i : Int) < x.toInt ∧ τ.1 5 i = y) → P := fun q => by
              rcases q with q | ⟨i, i1, _⟩
              · exact q
              · omega
            refine hQ' υ (by rw [e]; exact kt.uf (Rg2.u_0_7 _) (by decide)) (lt.u e (by omega)) ⟨fun q => absurd cq q, fun _ => ⟨?_, ?_, ?_⟩⟩
            · rw [e]
              show (τ.2 0 8).toInt = _
              rw [vt, er, fv]
            · rw [e, u1v]; omega
            · rw [e, u1v, er, hF, hT]
              have cz := clE (rfl : z.toInt = _) (by omega)
              exact ⟨g, by omega, fun x q => ⟨(a2 x q).1, (a2 x q).2.1, (a2 x q).2.2.1⟩, ⟨fun q => nostk (a4 q), fun x x1 x2 x3 x4 x5 => ⟨fun q => nostk ((a5 x x5 x4).1 q), fun q => nostk ((a5 x x5 x4).2 q)⟩⟩, fun S hS => (a6 S hS).1⟩
          have g1 := (notleE (rfl : x.toInt = x.toInt) z0).mp c
          intro w ew
          have fw : w.toInt = x.toInt - 1 := by rw [ew]; exact dec1 (by omega)
          have cw := clE fw (by omega)
          obtain ⟨W, hW⟩ : ∃ W : Nat, w.toNatClampNeg = W := ⟨_, rfl⟩
          have hxW : x.toInt = (W : Int) + 1 := by omega
          refine ⟨inE (rfl : w.toInt = w.toInt) (by omega) (by omega), ?_⟩
          rw [hW]
          intro nd end_
          have bn := tB nd
          have back : ∀ (τ' : St) (z' : Int32), G2 τ' → Fl x1 σ τ' → τ'.2 0 8 = v → cnt (τ.1 4) 4096 ≤ cnt (τ'.1 4) 4096 → (∃ g' : Nat → Int32, DF (σ.1 1) F T τ' w.toInt z'.toInt g') → fX12_lies_j245 N rr2 x1 v w z' Q τ' := by
            intro τ' z' k' l' v' hc' hd'
            have hc2 := cnt_le (τ'.1 4) 4096
            exact ih2 w z' τ' ⟨k', l', v', by omega, by omega, hd'⟩ (by (try dsimp only); omega)
          have same : (Gd (σ.1 1) F T (τ.1 5 W) → g (τ.1 5 W).toNatClampNeg ≠ 0) → (∀ y : Nat, (y : Int) = (τ.1 5 W).toInt → τ.1 4 y ≠ 0 ∨ ¬ (F ≤ y ∧ y < T)) → fX12_lies_j245 N rr2 x1 v w z Q τ := by
            intro q1 q2
            refine back τ z kt lt vt (Nat.le_refl _) ⟨g, ?_⟩
            rw [show w.toInt = (W : Int) by omega]
            obtain ⟨a1, a2, a3, a4, a5, a6⟩ := hd
            have mv : ∀ y : Int32, Gd (σ.1 1) F T y → (g y.toNatClampNeg ≠ 0 ∨ ∃ i : Nat, (i : Int) < x.toInt ∧ τ.1 5 i = y) → (g y.toNatClampNeg ≠ 0 ∨ ∃ i : Nat, (i : Int) < (W : Int) ∧ τ.1 5 i = y) := by
              intro y gy q
              rcases q with q | ⟨i, i1, i2⟩
              · exact Or.inl q
              · by_cases e : i = W
                · rw [e] at i2
                  rw [← i2] at gy ⊢
                  exact Or.inl (q1 gy)
                · exact Or.inr ⟨i, by omega, i2⟩
            exact ⟨a1, a2, a3, fun q => mv _ q (a4 q), fun x x1 x2 => ⟨fun q => mv _ q ((a5 x x1 x2).1 q), fun q => mv _ q ((a5 x x1 x2).2 q)⟩, fun S hS => ⟨(a6 S hS).1, fun i i1 i2 => (a6 S hS).2 i (by omega) i2⟩⟩
          have fe : ((x1.toInt64 + v) - 1).toInt = x1.toInt + v.toInt - 1 := sOkE64 fs z1L (by omega) (by omega)
          unfold fX12_in
          refine ⟨fun c4 => ⟨fun _ => same (fun q => ?_) (fun y hy => Or.inr (fun q => ?_)), fun q => absurd rfl q⟩, fun c4 => ⟨fun c5 => ⟨fun _ => same (fun q => ?_) (fun y hy => Or.inr (fun q => ?_)), fun q => absurd rfl q⟩, fun c5 => ⟨fun q => absurd q (by decide), fun _ => ?_⟩⟩⟩
          · have := (ltE64 (i2lE (rfl : nd.toInt = nd.toInt)) (i2lE (rfl : x1.toInt = x1.toInt))).mp c4
            have := q.1
            rw [← end_] at this
            omega
          · have := (ltE64 (i2lE (rfl : nd.toInt = nd.toInt)) (i2lE (rfl : x1.toInt = x1.toInt))).mp c4
            rw [← end_] at hy
            omega
          · have := (ltE64 fe (i2lE (rfl : nd.toInt = nd.toInt))).mp c5
            have := q.2.1
            rw [← end_] at this
            omega
          · have := (ltE64 fe (i2lE (rfl : nd.toInt = nd.toInt))).mp c5
            rw [← end_] at hy
            omega
          have g4 := (notltE64 (i2lE (rfl : nd.toInt = nd.toInt)) (i2lE (rfl : x1.toInt = x1.toInt))).mp c4
          have g5 := (notltE64 fe (i2lE (rfl : nd.toInt = nd.toInt))).mp c5
          have hin : vp_in nd 4096 := inE (rfl : nd.toInt = nd.toInt) (by omega) (by omega)
          have cl := clE (rfl : nd.toInt = nd.toInt) (by omega)
          obtain ⟨y0, hy0⟩ : ∃ y0 : Nat, nd.toNatClampNeg = y0 := ⟨_, rfl⟩
          rw [hy0] at cl
          have e0 : (τ.1 5 W).toInt = y0 := by rw [← end_]; exact cl.symm
          have c0 : (τ.1 5 W).toNatClampNeg = y0 := by rw [← end_]; exact hy0
          rw [hy0]
          refine ⟨hin, fun c6 => ⟨hin, ?_⟩, fun c6 => same (fun q => ?_) (fun y hy => Or.inl ?_)⟩
          · intro σ7 e7
            rw [show vp_nar .boolean 1 = 1 from by decide] at e7
            have k7 : G2 σ7 := by rw [e7]; exact kt.ua (Rg2.ra_4 _ _) (by decide)
            have l7 : Fl x1 σ σ7 := lt.u e7 (by omega)
            have hc7 : cnt (σ7.1 4) 4096 = cnt (τ.1 4) 4096 + 1 := by
              rw [e7, u1_at]
              exact cnt_up c6 (by decide) 4096 (by omega)
            have hcl7 := cnt_le (σ7.1 4) 4096
            have v7 : σ7.2 0 8 = v := by rw [e7]; exact vt
            have em7 : σ7.1 1 = σ.1 1 := funext (fun i => l7.1 1 i (by omega))
            have m7 : ∀ y : Nat, σ7.1 4 y ≠ 0 ↔ (τ.1 4 y ≠ 0 ∨ y = y0) := by
              intro y
              rw [e7, u1_at]
              by_cases e : y = y0
              · rw [e, up1]
                exact ⟨fun _ => Or.inr rfl, fun _ => by decide⟩
              · rw [up2 e]
                exact ⟨fun q => Or.inl q, fun q => by rcases q with q | q; exact q; exact absurd q e⟩
            have s7 : ∀ i : Nat, σ7.1 5 i = τ.1 5 i := fun i => by rw [e7, u1e (by omega)]
            have g0 : g y0 = 0 := by
              by_cases q : g y0 = 0
              · exact q
              · exact absurd c6 (hd.2.1 y0 q).2.2.2
            refine e_endOf hN (k := y0) (T := T) cl.symm fsT (by omega) (by omega) (fun re hre => ?_)
            rw [em7] at hre
            have notW : ¬ Wh (σ.1 1) T y0 → fX12_lies_j245 N rr2 x1 v w z Q σ7 := by
              intro nw
              refine back σ7 z k7 l7 v7 (by omega) ⟨g, ?_⟩
              rw [show w.toInt = (W : Int) by omega]
              refine hd.pop hxW s7 (fun y => (m7 y).trans ?_) (fun q => ?_)
              · rw [e0]
                exact ⟨fun q => by rcases q with q | q; exact Or.inl q; exact Or.inr (by omega), fun q => by rcases q with q | q; exact Or.inl q; exact Or.inr (by omega)⟩
              · have := q.2.2
                rw [c0] at this
                exact absurd this nw
            refine ⟨fun d => notW (fun q => (hre.mpr q).1 d), fun d1 => ⟨fun d => notW (fun q => (hre.mpr q).2 d), fun d2 => ?_⟩⟩
            have hWh := hre.mp ⟨d1, d2⟩
            intro z2 ez2
            have bz := hd.1
            have fz2 : z2.toInt = z.toInt + 1 := (congrArg Int32.toInt ez2).trans (aOkE rfl z1 (by omega) (by omega))
            rw [em7]
            refine ⟨hin, fun ck => ?_, fun ck => ?_⟩
            · have h9 := hWh.br ck
              have n1 : (nd.toInt64 + 1).toInt = (y0 + 1 : Nat) := (aOkE64 (i2lE cl.symm) z1L (by omega) (by omega)).trans (by omega)
              have n5 : (nd.toInt64 + 5).toInt = (y0 + 5 : Nat) := (aOkE64 (i2lE cl.symm) z5L (by omega) (by omega)).trans (by omega)
              have q1 := f4_M (b := σ7) n1 (by omega)
              refine r_four hN ?_
              rw [q1.1, q1.2, em7]
              refine ⟨inE (rfl : w.toInt = w.toInt) (by omega) (by omega), fun σA eA => ?_⟩
              have kA : G2 σA := by rw [eA]; exact k7.ua (Rg2.ra_5 _ _) (by decide)
              have lA : Fl x1 σ σA := l7.u eA (by omega)
              have emA : σA.1 1 = σ.1 1 := funext (fun i => lA.1 1 i (by omega))
              have fw1 : (w + 1).toInt = (W + 1 : Nat) := (aOkE rfl z1 (by omega) (by omega)).trans (by omega)
              have cw1 : (w + 1).toNatClampNeg = W + 1 := by have := clE fw1 (by omega); omega
              have q5 := f4_M (b := σA) n5 (by omega)
              refine r_four hN ?_
              rw [q5.1, q5.2, emA]
              refine ⟨inE fw1 (by omega) (by omega), fun σC eC x' ex' => ?_⟩
              rw [cw1] at eC
              have kC : G2 σC := by rw [eC]; exact kA.ua (Rg2.ra_5 _ _) (by decide)
              have lC : Fl x1 σ σC := lA.u eC (by omega)
              have fx' : x'.toInt = w.toInt + 2 := (congrArg Int32.toInt ex').trans (aOkE rfl (show (2 : Int32).toInt = 2 from by decide) (by omega) (by omega))
              have hC : σC.1 4 = σ7.1 4 := by rw [eC, u1_ne (by decide), eA, u1_ne (by decide)]
              unfold fX12_lies_j245
              refine ih2 x' z2 σC ⟨kC, lC, by rw [eC, eA]; exact v7, by omega, by rw [hC]; omega, ⟨upd g y0 1, ?_⟩⟩ ?_
              · rw [fz2]
                refine hd.add hxW e0 (by omega) (by omega) (by omega) hWh c6 (fun i hi => ?_) (by omega) (fun y => by rw [hC]; exact m7 y) (fun _ => ⟨by omega, ?_, ?_⟩) (fun q => absurd ck q)
                · rw [eC, u1e (by omega), eA, u1e (by omega)]; exact s7 i
                · rw [eC, u1e (by omega), eA, u1v]
                · rw [eC, u1v]
              · show (2 * (4096 - (cnt (σC.1 4) 4096 : Int)) + x'.toInt).toNat < _
                rw [hC]
                omega
            · refine back σ7 z2 k7 l7 v7 (by omega) ⟨upd g y0 1, ?_⟩
              rw [fz2, show w.toInt = (W : Int) by omega]
              exact hd.add hxW e0 (by omega) (by omega) (by omega) hWh c6 (fun i _ => s7 i) (by omega) m7 (fun q => absurd q ck) (fun _ => rfl)
          · exact hd.2.2.1 _ (by have := q.1; omega) (by have := q.2.1; omega) (by rw [c0]; exact c6) q.2.2
          · rw [e0] at hy
            rw [show y = y0 by omega]
            exact c6
        · omega
        · have := cnt_le (σ6.1 4) 4096
          (try dsimp only)
          omega
      · have g1 := (notleE (show (4096 : Int32).toInt = 4096 from by decide) (rfl : y.toInt = y.toInt)).mp c
        exact inE (rfl : y.toInt = y.toInt) (by omega) (by omega)
      · have g1 := (notleE (show (4096 : Int32).toInt = 4096 from by decide) (rfl : y.toInt = y.toInt)).mp c
        have cy := clE (rfl : y.toInt = y.toInt) i1
        intro σ5 e5 v2 ev2
        rw [show vp_nar .boolean 0 = 0 from by decide] at e5
        have f2 : v2.toInt = y.toInt + 1 := (congrArg Int32.toInt ev2).trans (aOkE rfl (show (1 : Int32).toInt = 1 from by decide) (by omega) (by omega))
        refine ih v2 σ5 ⟨by rw [e5]; exact kt.ua (Rg2.ra_4 _ _) (by decide), lt.u e5 (by omega), by rw [e5]; exact vt, by omega, by omega, fun i hi => ?_⟩ (by (try dsimp only); omega)
        rw [e5]
        by_cases e : i = y.toNatClampNeg
        · rw [e, u1v]
        · rw [u1e (by omega)]; exact i0 i (by omega)
    · have fs : (x1.toInt64 + v).toInt = x1.toInt + v.toInt := aOkE64 e64 rfl (by omega) (by omega)
      have := (notleE64 fs (i2lE (rfl : (σ2.1 0 1).toInt = (σ2.1 0 1).toInt))).mp c
      have := q.2.2.2
      rw [er, ← eb] at this
      omega
  · have := (notleE64 f12 (i2lE (rfl : (σ2.1 0 1).toInt = (σ2.1 0 1).toInt))).mp c
    have := q.2.1
    rw [← eb] at this
    omega
end CACHE3
