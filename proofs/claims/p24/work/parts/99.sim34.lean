section SIM34
variable {N : Nat} {a : St} {h : Nat → Nat} {g : Nat → Nat → Int32} {t : Nat → Int32} {n P : Nat} {k1 : Nat}
/-- what the class's parting reads -/
def PcA (a : St) (h : Nat → Nat) (g : Nat → Nat → Int32) (P : Nat) : Prop := (a.1 6 5).toInt = P ∧ P ≤ 60 ∧ ∀ k : Nat, k < P → (a.1 21 k).toInt = h k ∧ 1 ≤ h k ∧ h k ≤ 20 ∧ ∀ m : Nat, m < h k → a.1 (123 + k) m = g k m
/-- the parting changes two rows alone -/
def FrQ (σ τ : St) : Prop := ∀ c i : Nat, ¬ (c = 27 ∨ c = 28) → τ.1 c i = σ.1 c i
theorem PcA.ext {τ : St} (hA : PcA a h g P) (f : ∀ c i : Nat, (c = 6 ∧ i = 5) ∨ c = 21 ∨ (123 ≤ c ∧ c < 183) → τ.1 c i = a.1 c i) : PcA τ h g P := by
  refine ⟨by rw [f _ _ (by omega)]; exact hA.1, hA.2.1, fun k hk => ?_⟩
  obtain ⟨q1, q2, q3, q4⟩ := hA.2.2 k hk
  have := hA.2.1
  refine ⟨by rw [f _ _ (by omega)]; exact q1, q2, q3, fun m hm => ?_⟩
  rw [f _ _ (by omega)]
  exact q4 m hm
theorem c_stands (hN : 4294967400 ≤ N) (hA : PcA a h g P) {x1 x3 x4 : Int32} {i k : Nat} (e1 : x1.toInt = k) (e3 : x3.toInt = i) (e4 : x4.toInt = n) (hk : k < P) (hi : i < n) (hn : n ≤ 120) (ht : ∀ j : Nat, j < n → a.1 k1 j = t j) {Q : Int32 → St → Prop} (hY : (i + h k ≤ n ∧ ∀ m : Nat, m < h k → g k m = t (i + m)) → Q 1 a) (hZ : ¬ (i + h k ≤ n ∧ ∀ m : Nat, m < h k → g k m = t (i + m)) → Q 0 a) : fX7_standsAt N x1 k1 x3 x4 Q a := by
  have z0 : (0 : Int32).toInt = 0 := by decide
  have z20 : (20 : Int32).toInt = 20 := by decide
  obtain ⟨q1, q2, q3, q4⟩ := hA.2.2 k hk
  have hP := hA.2.1
  have c1 : x1.toNatClampNeg = k := by have := clE e1 (by omega); omega
  have hin : vp_in x1 60 := inE e1 (by omega) (by omega)
  have es : (x4 - x3).toInt = (n : Int) - i := sOkE e4 e3 (by omega) (by omega)
  unfold fX7_standsAt
  rw [c1]
  refine ⟨fun c => ?_, fun _ => ⟨fun c => ?_, fun _ => ⟨hin, fun c => ?_, fun c => hZ (fun w => ?_)⟩⟩⟩
  · have := (ltE e3 z0).mp c
    omega
  · have := (ltE (show (120 : Int32).toInt = 120 from by decide) e4).mp c
    omega
  · have f := (leE q1 es).mp c
    refine lo1_i (fun (y : Int32) (τ : St) => τ = a ∧ 0 ≤ y.toInt ∧ y.toInt ≤ h k ∧ ∀ m : Nat, (m : Int) < y.toInt → g k m = t (i + m)) (fun y _ => ((h k : Int) - y.toInt).toNat) ?_ N 0 a ⟨rfl, by omega, by omega, fun m hm => absurd hm (by omega)⟩ (by (try dsimp only); omega)
    intro rr y τ hI ih
    obtain ⟨rfl, i1, i2, i3⟩ := hI
    have ey := clE (rfl : y.toInt = y.toInt) i1
    have e35 : (x3 + y).toInt = (i : Int) + y.toInt := aOkE e3 rfl (by omega) (by omega)
    have ec := clE e35 (by omega)
    unfold fX7_standsAt_l29
    rw [c1]
    refine ⟨hin, fun c2 => ?_, fun c2 => ⟨fun c3 => ?_, fun _ => ?_⟩⟩
    · have f2 := (leE q1 (rfl : y.toInt = y.toInt)).mp c2
      exact hY ⟨by omega, fun m hm => i3 m (by omega)⟩
    · have f2 := (notleE q1 (rfl : y.toInt = y.toInt)).mp c2
      have := (leE z20 (rfl : y.toInt = y.toInt)).mp c3
      omega
    · have f2 := (notleE q1 (rfl : y.toInt = y.toInt)).mp c2
      have a1 : τ.1 k1 (x3 + y).toNatClampNeg = t (i + y.toNatClampNeg) := by
        rw [show (x3 + y).toNatClampNeg = i + y.toNatClampNeg by omega]
        exact ht _ (by omega)
      have a2 := q4 y.toNatClampNeg (by omega)
      refine ⟨inE e35 (by omega) (by omega), hin, inE rfl (by omega) (by omega), fun c4 v ev => ?_, fun c4 => hZ (fun w => c4 ?_)⟩
      · have fv : v.toInt = y.toInt + 1 := (congrArg Int32.toInt ev).trans (aOkE rfl (show (1 : Int32).toInt = 1 from by decide) (by omega) (by omega))
        refine ih v τ ⟨rfl, by omega, by omega, fun m hm => ?_⟩ (by (try dsimp only); omega)
        by_cases e : m = y.toNatClampNeg
        · rw [e, ← a2, ← a1, c4]
        · exact i3 m (by omega)
      · rw [a1, a2]
        exact (w.2 _ (by omega)).symm
  · have f := (notleE q1 es).mp c
    omega
theorem pinn_ne {i : Nat} {BY : (Nat → Int32) × (Nat → Int32)} {j : Nat} (hj : j ≠ i) : ∀ k : Nat, (pinn h g t n i BY k).1 j = BY.1 j ∧ (pinn h g t n i BY k).2 j = BY.2 j
  | 0 => ⟨rfl, rfl⟩
  | k + 1 => by
    have ih := pinn_ne (i := i) (BY := BY) hj k
    show (pstep h g t n i (pinn h g t n i BY k) k).1 j = _ ∧ (pstep h g t n i (pinn h g t n i BY k) k).2 j = _
    unfold pstep
    split
    · exact ⟨(up2 hj).trans ih.1, (up2 hj).trans ih.2⟩
    · exact ih
/-- how the class keeps what the reference has found -/
def CE (n : Nat) (BY : (Nat → Int32) × (Nat → Int32)) (j : Nat) (τ : St) : Prop := (BY.1 j = 1000 → τ.1 27 j = 121 ∧ τ.1 28 j = -1) ∧ (BY.1 j ≠ 1000 → τ.1 27 j = BY.1 j ∧ (j < n → τ.1 28 j = BY.2 j))
theorem c_choose (hN : 4294967400 ≤ N) (hA : PcA a h g P) (hk1 : k1 ≠ 27 ∧ k1 ≠ 28) (ht : ∀ j : Nat, j < n → a.1 k1 j = t j) (hn : n ≤ 120) {x2 x3 : Int32} {i : Nat} (hi : i < n) (e2 : x2.toInt = i) (e3 : x3.toInt = n) {BY0 : (Nat → Int32) × (Nat → Int32)} (hG : pGd h n P (i + 1) BY0) {τ0 : St} (f0 : FrQ a τ0) (c0 : ∀ j : Nat, i < j → j ≤ n → CE n BY0 j τ0) {Q : St → Prop} (hQ : ∀ τ : St, FrQ a τ → (∀ j : Nat, i ≤ j → j ≤ n → CE n (pinn h g t n i (upd BY0.1 i 1000, BY0.2) P) j τ) → Q τ) : fX6_choose N k1 x2 x3 Q τ0 := by
  have z0 : (0 : Int32).toInt = 0 := by decide
  have z1 : (1 : Int32).toInt = 1 := by decide
  have z121 : (121 : Int32).toInt = 121 := by decide
  have hP := hA.2.1
  have c2 : x2.toNatClampNeg = i := by have := clE e2 (by omega); omega
  have hin : vp_in x2 121 := inE e2 (by omega) (by omega)
  have hGi := pset_gd hi hG
  unfold fX6_choose
  rw [c2]
  refine ⟨hin, fun s2 es2 => ⟨hin, fun s4 es4 => ?_⟩⟩
  refine lo2_i (fun (x y : Int32) (τ : St) => 0 ≤ y.toInt ∧ y.toInt ≤ P ∧ FrQ a τ ∧ (∀ j : Nat, i ≤ j → j ≤ n → CE n (pinn h g t n i (upd BY0.1 i 1000, BY0.2) y.toNatClampNeg) j τ) ∧ ((pinn h g t n i (upd BY0.1 i 1000, BY0.2) y.toNatClampNeg).1 i ≠ 1000 → x.toInt = h ((pinn h g t n i (upd BY0.1 i 1000, BY0.2) y.toNatClampNeg).2 i).toNatClampNeg)) (fun _ y _ => ((P : Int) - y.toInt).toNat) ?_ N 0 0 s4 ⟨by omega, by omega, fun c j q => ?_, fun j h1 h2 => ?_, fun w => absurd (up1 (f := BY0.1) (k := i) (v := 1000)) w⟩ (by (try dsimp only); omega)
  · intro rr x y τ hI ih
    obtain ⟨i1, i2, i3, i4, i5⟩ := hI
    have ey := clE (rfl : y.toInt = y.toInt) i1
    have e65 : (τ.1 6 5).toInt = P := by rw [i3 _ _ (by omega)]; exact hA.1
    have hAτ : PcA τ h g P := hA.ext (fun c j q => i3 c j (by omega))
    have nxt : ∀ (x' : Int32) (τ' : St), FrQ a τ' → (∀ j : Nat, i ≤ j → j ≤ n → CE n (pinn h g t n i (upd BY0.1 i 1000, BY0.2) (y.toNatClampNeg + 1)) j τ') → ((pinn h g t n i (upd BY0.1 i 1000, BY0.2) (y.toNatClampNeg + 1)).1 i ≠ 1000 → x'.toInt = h ((pinn h g t n i (upd BY0.1 i 1000, BY0.2) (y.toNatClampNeg + 1)).2 i).toNatClampNeg) → y.toInt < P → fX6_choose_j144 N rr k1 x2 x3 x' y Q τ' := by
      intro x' τ' q1 q2 q3 q4 v ev
      have fv : v.toInt = y.toInt + 1 := (congrArg Int32.toInt ev).trans (aOkE rfl z1 (by omega) (by omega))
      have cv : v.toNatClampNeg = y.toNatClampNeg + 1 := by have := clE fv (by omega); omega
      exact ih x' v τ' ⟨by omega, by omega, q1, by rw [cv]; exact q2, by rw [cv]; exact q3⟩ (by (try dsimp only); omega)
    unfold fX6_choose_l21
    refine ⟨fun c => ?_, fun c => ?_⟩
    · have f := (leE e65 (rfl : y.toInt = y.toInt)).mp c
      rw [show y.toNatClampNeg = P by omega] at i4
      exact hQ τ i3 i4
    · have f := (notleE e65 (rfl : y.toInt = y.toInt)).mp c
      obtain ⟨q1, q2, q3, q4⟩ := hAτ.2.2 y.toNatClampNeg (by omega)
      refine c_stands (t := t) hN hAτ (k := y.toNatClampNeg) ey.symm e2 e3 (by omega) hi hn (fun j hj => by rw [i3 _ _ (by omega)]; exact ht j hj) (fun w => ⟨fun z => absurd z (by decide), fun _ => ?_⟩) (fun w => ⟨fun _ => ?_, fun z => absurd rfl z⟩)
      · have G := pinn_gd (g := g) (t := t) hn hP hi hGi y.toNatClampNeg (by omega)
        have hv := G.val (show i ≤ i + h y.toNatClampNeg by omega) w.1
        have ce := i4 (i + h y.toNatClampNeg) (by omega) w.1
        have cei := i4 i (by omega) (by omega)
        refine ⟨inE rfl (by omega) (by omega), fun v10 e10 => ?_⟩
        have ev10 : v10.toInt = h y.toNatClampNeg := by rw [e10]; exact q1
        have es : (x2 + v10).toInt = (i : Int) + h y.toNatClampNeg := aOkE e2 ev10 (by omega) (by omega)
        have cs : (x2 + v10).toNatClampNeg = i + h y.toNatClampNeg := by have := clE es (by omega); omega
        rw [cs, c2]
        refine ⟨inE es (by omega) (by omega), fun v12 e12 => ⟨hin, ?_⟩⟩
        by_cases cb : (pinn h g t n i (upd BY0.1 i 1000, BY0.2) y.toNatClampNeg).1 (i + h y.toNatClampNeg) = 1000
        · -- beyond it nothing can be parted
          have ev12 : v12.toInt = 122 := by rw [e12, (ce.1 cb).1]; decide
          have no : fX6_choose_j144 N rr k1 x2 x3 x y Q τ := by
            have eq : pinn h g t n i (upd BY0.1 i 1000, BY0.2) (y.toNatClampNeg + 1) = pinn h g t n i (upd BY0.1 i 1000, BY0.2) y.toNatClampNeg := by
              show pstep h g t n i _ _ = _
              unfold pstep
              rw [if_neg (fun z => ?_)]
              have := z.1.2.1
              rw [cb] at this
              exact absurd this (by decide)
            exact nxt x τ i3 (by rw [eq]; exact i4) (by rw [eq]; exact i5) (by omega)
          have big : 121 ≤ v12 := (leE z121 ev12).mpr (by omega)
          exact ⟨fun _ => ⟨fun _ => no, fun z => absurd big z⟩, fun _ => ⟨hin, fun _ => ⟨fun _ => ⟨fun _ => no, fun z => absurd big z⟩, fun _ => ⟨fun _ => no, fun z => absurd big z⟩⟩, fun _ => ⟨fun _ => no, fun z => absurd big z⟩⟩⟩
        · have hv2 : 0 ≤ ((pinn h g t n i (upd BY0.1 i 1000, BY0.2) y.toNatClampNeg).1 (i + h y.toNatClampNeg)).toInt ∧ ((pinn h g t n i (upd BY0.1 i 1000, BY0.2) y.toNatClampNeg).1 (i + h y.toNatClampNeg)).toInt ≤ (n : Int) - (i + h y.toNatClampNeg : Nat) := by
            rcases hv with z | z
            · exact absurd z cb
            · exact z
          have e12' : v12 = (pinn h g t n i (upd BY0.1 i 1000, BY0.2) y.toNatClampNeg).1 (i + h y.toNatClampNeg) + 1 := by rw [e12, (ce.2 cb).1]
          have ev12 : v12.toInt = ((pinn h g t n i (upd BY0.1 i 1000, BY0.2) y.toNatClampNeg).1 (i + h y.toNatClampNeg)).toInt + 1 := (congrArg Int32.toInt e12').trans (aOkE rfl z1 (by omega) (by omega))
          have small : ¬ 121 ≤ v12 := (notleE z121 ev12).mpr (by omega)
          have lt1000 : (pinn h g t n i (upd BY0.1 i 1000, BY0.2) y.toNatClampNeg).1 (i + h y.toNatClampNeg) < 1000 := (ltE rfl z1000).mpr (by omega)
          have no : ¬ (v12 < (pinn h g t n i (upd BY0.1 i 1000, BY0.2) y.toNatClampNeg).1 i ∨ (v12 = (pinn h g t n i (upd BY0.1 i 1000, BY0.2) y.toNatClampNeg).1 i ∧ h ((pinn h g t n i (upd BY0.1 i 1000, BY0.2) y.toNatClampNeg).2 i).toNatClampNeg < h y.toNatClampNeg)) → fX6_choose_j109 N rr k1 x2 x3 x y v10 v12 Q τ := by
            intro hno
            have eq : pinn h g t n i (upd BY0.1 i 1000, BY0.2) (y.toNatClampNeg + 1) = pinn h g t n i (upd BY0.1 i 1000, BY0.2) y.toNatClampNeg := by
              show pstep h g t n i _ _ = _
              unfold pstep
              rw [if_neg (fun z => ?_)]
              have := z.2
              rw [← e12'] at this
              exact hno this
            exact ⟨fun z => absurd z small, fun _ => ⟨fun _ => nxt x τ i3 (by rw [eq]; exact i4) (by rw [eq]; exact i5) (by omega), fun z => absurd rfl z⟩⟩
          have yes : (v12 < (pinn h g t n i (upd BY0.1 i 1000, BY0.2) y.toNatClampNeg).1 i ∨ (v12 = (pinn h g t n i (upd BY0.1 i 1000, BY0.2) y.toNatClampNeg).1 i ∧ h ((pinn h g t n i (upd BY0.1 i 1000, BY0.2) y.toNatClampNeg).2 i).toNatClampNeg < h y.toNatClampNeg)) → fX6_choose_j105 N rr k1 x2 x3 x y v10 v12 Q τ := by
            intro hyes
            have eq : pinn h g t n i (upd BY0.1 i 1000, BY0.2) (y.toNatClampNeg + 1) = (upd (pinn h g t n i (upd BY0.1 i 1000, BY0.2) y.toNatClampNeg).1 i v12, upd (pinn h g t n i (upd BY0.1 i 1000, BY0.2) y.toNatClampNeg).2 i (nI y.toNatClampNeg)) := by
              show pstep h g t n i _ _ = _
              unfold pstep
              rw [e12'] at hyes
              rw [if_pos ⟨⟨w.1, lt1000, w.2⟩, hyes⟩, e12']
            refine ⟨fun z => absurd z small, fun _ => ⟨fun z => absurd z (by decide), fun _ => ⟨hin, fun s18 e18 => ⟨hin, fun s20 e20 => ?_⟩⟩⟩⟩
            rw [c2] at e18 e20
            refine nxt v10 s20 (fun c j q => by rw [e20, u1e (by omega), e18, u1e (by omega)]; exact i3 c j q) (fun j h1 h2 => ?_) (fun _ => ?_) (by omega)
            · rw [eq]
              by_cases ej : j = i
              · subst ej
                refine ⟨fun z => ?_, fun _ => ⟨?_, fun _ => ?_⟩⟩
                · have : v12 = 1000 := (up1 (f := (pinn h g t n j (upd BY0.1 j 1000, BY0.2) y.toNatClampNeg).1)).symm.trans z
                  rw [this, z1000] at ev12
                  omega
                · show s20.1 27 j = upd _ j v12 j
                  rw [e20, u1e (by omega), e18, u1v, up1]
                · show s20.1 28 j = upd _ j (nI y.toNatClampNeg) j
                  rw [e20, u1v, up1, nIcl i1]
              · have cj := i4 j h1 h2
                unfold CE
                dsimp only
                rw [up2 ej, up2 ej, e20, u1e (by omega), u1e (by omega), e18, u1e (by omega), u1e (by omega)]
                exact cj
            · rw [eq]
              show v10.toInt = (h ((upd _ i (nI y.toNatClampNeg) i).toNatClampNeg) : Int)
              rw [up1, clnI (by omega)]
              exact ev10
          by_cases ci : (pinn h g t n i (upd BY0.1 i 1000, BY0.2) y.toNatClampNeg).1 i = 1000
          · have e27 : τ.1 27 i = 121 := (cei.1 ci).1
            have lt : v12 < τ.1 27 i := by rw [e27]; exact (ltE ev12 z121).mpr (by omega)
            refine ⟨fun _ => yes (Or.inl ?_), fun z => absurd lt z⟩
            rw [ci]
            exact (ltE ev12 z1000).mpr (by omega)
          · have e27 : τ.1 27 i = (pinn h g t n i (upd BY0.1 i 1000, BY0.2) y.toNatClampNeg).1 i := (cei.2 ci).1
            have e5 := i5 ci
            rw [e27]
            refine ⟨fun z => yes (Or.inl z), fun z1 => ⟨hin, fun z2 => ⟨fun z3 => no (fun z => ?_), fun z3 => yes (Or.inr ⟨z2, ?_⟩)⟩, fun z2 => no (fun z => ?_)⟩⟩
            · have := (leE ev10 e5).mp z3
              rcases z with z | z
              · exact z1 z
              · omega
            · have := (notleE ev10 e5).mp z3
              omega
            · rcases z with z | z
              · exact z1 z
              · exact z2 z.1
      · have eq : pinn h g t n i (upd BY0.1 i 1000, BY0.2) (y.toNatClampNeg + 1) = pinn h g t n i (upd BY0.1 i 1000, BY0.2) y.toNatClampNeg := by
          show pstep h g t n i _ _ = _
          unfold pstep
          rw [if_neg (fun z => w ⟨z.1.1, z.1.2.2⟩)]
        exact nxt x τ i3 (by rw [eq]; exact i4) (by rw [eq]; exact i5) (by omega)
  · rw [es4, u1e (by omega), es2, u1e (by omega)]
    exact f0 c j q
  · rw [show (0 : Int32).toNatClampNeg = 0 from rfl]
    show CE n (upd BY0.1 i 1000, BY0.2) j s4
    by_cases ej : j = i
    · subst ej
      refine ⟨fun _ => ⟨by rw [es4, u1e (by omega), es2, u1v], by rw [es4, u1v]⟩, fun z => absurd up1 z⟩
    · have cj := c0 j (by omega) h2
      unfold CE
      dsimp only
      rw [up2 ej, es4, u1e (by omega), u1e (by omega), es2, u1e (by omega), u1e (by omega)]
      exact cj
end SIM34
