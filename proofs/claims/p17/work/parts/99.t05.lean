section CACHE5
variable {a : St} {N : Nat} {M : Nat → Int32} {F T : Nat}
/-- the class's search, half way: g those that are found -/
def BF (M : Nat → Int32) (F T : Nat) (τ : St) (g : Nat → Int32) : Prop :=
  (τ.1 2 4).toInt = cnt g 4096 ∧ (∀ y : Nat, g y ≠ 0 → F ≤ y ∧ y < T ∧ Wh M T y ∧ τ.1 13 y = τ.1 2 3) ∧ (∀ y : Nat, F ≤ y → y < T → τ.1 13 y = τ.1 2 3 → Wh M T y → g y ≠ 0) ∧
  (∀ i : Nat, (i : Int) < (τ.1 2 4).toInt → ∃ y : Nat, (τ.1 14 i).toInt = y ∧ g y ≠ 0) ∧ (∀ y : Nat, g y ≠ 0 → ∃ i : Nat, (i : Int) < (τ.1 2 4).toInt ∧ (τ.1 14 i).toInt = y) ∧
  ∀ S : Nat → Prop, Cl M F T S → ∀ y : Nat, g y ≠ 0 → S y
/-- what a search changes -/
def Ff (σ τ : St) : Prop := (∀ c i : Nat, ¬ (c = 13 ∨ c = 14 ∨ (c = 2 ∧ i = 4)) → τ.1 c i = σ.1 c i) ∧ τ.2 = σ.2 ∧ (∀ x : Nat, τ.1 13 x = σ.1 13 x ∨ τ.1 13 x = σ.1 2 3)
theorem Ff.tr {σ τ υ : St} (h : Ff σ τ) (h2 : Ff τ υ) : Ff σ υ := by
  refine ⟨fun c i q => (h2.1 c i q).trans (h.1 c i q), h2.2.1.trans h.2.1, fun x => ?_⟩
  rcases h2.2.2 x with q | q
  · rw [q]; exact h.2.2 x
  · rw [q, h.1 2 3 (by omega)]
    exact Or.inr rfl
theorem c_find (hN : 4294967400 ≤ N) {x : Int32} {g : Nat → Int32} (hF : (a.1 2 5).toInt = F) (hT : (a.1 2 6).toInt = T) (hT2 : T ≤ 4096) (hM : MC a M) (h : BF M F T a g) (hS : ∀ S : Nat → Prop, Cl M F T S → Gd M F T x → S x.toNatClampNeg) {Q : St → Prop} (hQ : ∀ (τ : St) (g' : Nat → Int32), Ff a τ → BF M F T τ g' → (Gd M F T x → g' x.toNatClampNeg ≠ 0) → (∀ y : Nat, g y ≠ 0 → g' y ≠ 0) → (a.1 2 4).toInt ≤ (τ.1 2 4).toInt → (∀ i : Nat, (i : Int) < (a.1 2 4).toInt → τ.1 14 i = a.1 14 i) → Q τ) : fX8_find N x Q a := by
  have z0 : (0 : Int32).toInt = 0 := by decide
  have zm : (4096 : Int32).toInt = 4096 := by decide
  have o1 : (1 : Int32).toInt = 1 := by decide
  have same : (Gd M F T x → g x.toNatClampNeg ≠ 0) → Q a := fun q => hQ a g ⟨fun _ _ _ => rfl, rfl, fun _ => Or.inl rfl⟩ h q (fun _ w => w) (Int.le_refl _) (fun _ _ => rfl)
  unfold fX8_find
  refine ⟨fun c => same (fun q => ?_), fun c1 => ⟨fun c => same (fun q => ?_), fun c2 => ?_⟩⟩
  · have := (ltE (rfl : x.toInt = _) hF).mp c
    have := q.1
    omega
  · have := (leE hT (rfl : x.toInt = _)).mp c
    have := q.2.1
    omega
  · have d1 := (notltE (rfl : x.toInt = _) hF).mp c1
    have d2 := (notleE hT (rfl : x.toInt = _)).mp c2
    have cx := clE (rfl : x.toInt = _) (by omega)
    obtain ⟨k, hk⟩ : ∃ k : Nat, x.toNatClampNeg = k := ⟨_, rfl⟩
    rw [hk] at cx same hS
    have hin : vp_in x 4096 := inE cx.symm (by omega) (by omega)
    obtain ⟨a1, a2, a3, a4, a5, a6⟩ := h
    have hcl := cnt_le g 4096
    unfold fX3_has
    refine ⟨fun c => ?_, fun _ => ⟨fun c => ?_, fun _ => ⟨fun q => absurd q (by decide), fun _ => ⟨hin, ?_⟩⟩⟩⟩
    · have := (ltE (rfl : x.toInt = _) z0).mp c
      omega
    · have := (leE zm (rfl : x.toInt = _)).mp c
      omega
    rw [hk]
    refine ⟨fun c => same (fun q => a3 k (by omega) (by omega) c (by have := q.2.2; rw [hk] at this; exact this)), fun c => ?_⟩
    intro v8 e8
    refine ⟨hin, fun s10 e10 => ?_⟩
    have g0 : g k = 0 := by
      by_cases q : g k = 0
      · exact q
      · exact absurd (a2 k q).2.2.2 c
    have f10 : ∀ c i : Nat, ¬ (c = 13 ∧ i = k) → s10.1 c i = a.1 c i := fun c i q => by rw [e10, u1e q]
    have k10 : s10.1 13 k = a.1 2 3 := by rw [e10, u1v, e8]
    have ff10 : Ff a s10 := ⟨fun c i q => f10 c i (by omega), by rw [e10]; rfl, fun y => by
      by_cases e : y = k
      · rw [e]; exact Or.inr k10
      · exact Or.inl (f10 13 y (by omega))⟩
    have hM10 : MC s10 M := fun i hi => by rw [f10 _ _ (by omega)]; exact hM i hi
    refine c_whole hN (k := k) cx.symm (by rw [f10 _ _ (by omega)]; exact hT) (by omega) hT2 hM10 (fun w => ⟨fun q => absurd q (by decide), fun _ => ?_⟩) (fun w => ⟨fun _ => ?_, fun q => absurd rfl q⟩)
    · have cu := cnt_up (f := g) (i := k) (v := 1) g0 (by decide) 4096 (by omega)
      have cl2 := cnt_le (upd g k 1) 4096
      have e24 : (s10.1 2 4).toInt = cnt g 4096 := by rw [f10 _ _ (by omega)]; exact a1
      have c24 : (s10.1 2 4).toNatClampNeg = cnt g 4096 := by have := clE e24 (by omega); omega
      refine ⟨fun q => ?_, fun _ => ⟨inE e24 (by omega) (by omega), fun s16 e16 v17 e17 s18 e18 => ?_⟩⟩
      · have := (leE zm e24).mp q
        omega
      · rw [c24] at e16
        have f18 : ∀ c i : Nat, ¬ ((c = 13 ∧ i = k) ∨ (c = 14 ∧ i = cnt g 4096) ∨ (c = 2 ∧ i = 4)) → s18.1 c i = a.1 c i := fun c i q => by rw [e18, u1e (by omega), e16, u1e (by omega), f10 c i (by omega)]
        have n18 : (s18.1 2 4).toInt = (cnt g 4096 : Int) + 1 := by
          rw [e18, u1v, e17, e16, u1e (by omega)]
          exact aOkE e24 o1 (by omega) (by omega)
        have x18 : s18.1 14 (cnt g 4096) = x := by rw [e18, u1e (by omega), e16, u1v]
        have s13 : s18.1 13 k = a.1 2 3 := by rw [e18, u1e (by omega), e16, u1e (by omega)]; exact k10
        have up : ∀ y : Nat, g y ≠ 0 → upd g k 1 y ≠ 0 := fun y q => by
          by_cases e : y = k
          · rw [e, up1]; decide
          · rw [up2 e]; exact q
        refine hQ s18 (upd g k 1) ⟨fun c i q => f18 c i (by omega), by rw [e18, e16, e10]; rfl, fun y => ?_⟩ ⟨?_, fun y q => ?_, fun y y1 y2 y3 y4 => ?_, fun i hi => ?_, fun y q => ?_, fun S hC y q => ?_⟩ (fun _ => by rw [hk, up1]; decide) up (by omega) (fun i hi => f18 14 i (by omega))
        · by_cases e : y = k
          · rw [e]; exact Or.inr s13
          · exact Or.inl (f18 13 y (by omega))
        · omega
        · rw [f18 2 3 (by omega)]
          by_cases e : y = k
          · rw [e]; exact ⟨by omega, by omega, w, s13⟩
          · rw [up2 e] at q
            rw [f18 13 y (by omega)]
            exact a2 y q
        · rw [f18 2 3 (by omega)] at y3
          by_cases e : y = k
          · rw [e, up1]; decide
          · rw [f18 13 y (by omega)] at y3
            rw [up2 e]
            exact a3 y y1 y2 y3 y4
        · by_cases e : i = cnt g 4096
          · exact ⟨k, by rw [e, x18]; exact cx.symm, by rw [up1]; decide⟩
          · obtain ⟨y, q1, q2⟩ := a4 i (by omega)
            exact ⟨y, by rw [f18 14 i (by omega)]; exact q1, up y q2⟩
        · by_cases e : y = k
          · exact ⟨cnt g 4096, by omega, by rw [x18, e]; exact cx.symm⟩
          · rw [up2 e] at q
            obtain ⟨i, q1, q2⟩ := a5 y q
            exact ⟨i, by omega, by rw [f18 14 i (by omega)]; exact q2⟩
        · by_cases e : y = k
          · rw [e]
            exact hS S hC ⟨by omega, by omega, by rw [hk]; exact w⟩
          · rw [up2 e] at q
            exact a6 S hC y q
    · refine hQ s10 g ff10 ⟨by rw [f10 _ _ (by omega)]; exact a1, fun y q => ?_, fun y y1 y2 y3 y4 => ?_, fun i hi => ?_, fun y q => ?_, a6⟩ (fun q => ?_) (fun _ q => q) (by rw [f10 _ _ (by omega)]; exact Int.le_refl _) (fun i _ => f10 14 i (by omega))
      · have ne : y ≠ k := fun e => by rw [e] at q; exact q g0
        rw [f10 13 y (by omega), f10 2 3 (by omega)]
        exact a2 y q
      · rw [f10 2 3 (by omega)] at y3
        by_cases e : y = k
        · rw [e] at y4; exact absurd y4 w
        · rw [f10 13 y (by omega)] at y3
          exact a3 y y1 y2 y3 y4
      · rw [f10 _ _ (by omega)] at hi
        rw [f10 14 i (by omega)]
        exact a4 i hi
      · obtain ⟨i, q1, q2⟩ := a5 y q
        exact ⟨i, by rw [f10 _ _ (by omega)]; exact q1, by rw [f10 14 i (by omega)]; exact q2⟩
      · have := q.2.2
        rw [hk] at this
        exact absurd this w
/-- what stands in the class's rows of the search -/
def SI (a : St) : Prop := 0 ≤ (a.1 2 3).toInt ∧ ∀ x : Nat, x < 4096 → (a.1 13 x).toInt ≤ (a.1 2 3).toInt
set_option maxHeartbeats 1000000 in
/-- the nodes are counted: the class -/
theorem c_nodesN (hN : 4294967400 ≤ N) (hF : (a.1 2 5).toInt = F) (hT : (a.1 2 6).toInt = T) (hF2 : F + 12 ≤ T) (hT2 : T ≤ 4096) (hM : MC a M) (hI : SI a) (hI2 : (a.1 2 3).toInt < 1000000) {Q : Int32 → St → Prop} (hQ : ∀ (r : Int32) (τ : St), (∀ c i : Nat, ¬ (c = 13 ∨ c = 14 ∨ (c = 2 ∧ (i = 3 ∨ i = 4))) → τ.1 c i = a.1 c i) → (τ.1 2 3).toInt = (a.1 2 3).toInt + 1 → SI τ → 0 ≤ r.toInt → NC M F T r.toNatClampNeg → Q r τ) : fX8_countNodes N Q a := by
  have z0 : (0 : Int32).toInt = 0 := by decide
  have o1 : (1 : Int32).toInt = 1 := by decide
  have o8 : (8 : Int32).toInt = 8 := by decide
  have zm : (4096 : Int32).toInt = 4096 := by decide
  unfold fX8_countNodes
  intro v1 e1 s2 e2 s3 e3
  have f1 : v1.toInt = (a.1 2 3).toInt + 1 := (congrArg Int32.toInt e1).trans (aOkE rfl o1 (by have := hI.1; omega) (by omega))
  have f3 : ∀ c i : Nat, ¬ (c = 2 ∧ (i = 3 ∨ i = 4)) → s3.1 c i = a.1 c i := fun c i q => by rw [e3, u1e (by omega), e2, u1e (by omega)]
  have k3 : s3.1 2 3 = v1 := by rw [e3, u1e (by omega), e2, u1v]
  have k4 : s3.1 2 4 = 0 := by rw [e3, u1v]
  have hM3 : MC s3 M := fun i hi => by rw [f3 _ _ (by omega)]; exact hM i hi
  have h35 : (s3.1 2 5).toInt = F := by rw [f3 _ _ (by omega)]; exact hF
  have e58 : (s3.1 2 5 + 8).toInt = (F + 8 : Nat) := aOkE h35 o8 (by omega) (by omega)
  refine c_four e58 (by omega) hM3 ?_
  have b3 : BF M F T s3 (fun _ => 0) := by
    have c0 := cnt_no (f := fun _ => (0 : Int32)) 4096 (fun _ _ => rfl)
    refine ⟨by rw [k4, z0, c0]; rfl, fun y q => absurd rfl q, fun y y1 y2 y3 => ?_, fun i hi => ?_, fun y q => absurd rfl q, fun S _ y q => absurd rfl q⟩
    · rw [k3, f3 13 y (by omega)] at y3
      have := hI.2 y (by omega)
      rw [y3] at this
      omega
    · rw [k4, z0] at hi; omega
  refine c_find hN (by rw [f3 _ _ (by omega)]; exact hF) (by rw [f3 _ _ (by omega)]; exact hT) hT2 hM3 b3 (fun S hS => hS.1) (fun s6 g6 ff6 bf6 r6 _ _ _ => ?_)
  refine lo1_i (fun (y : Int32) (τ : St) => 0 ≤ y.toInt ∧ y.toInt ≤ (τ.1 2 4).toInt ∧ Ff s3 τ ∧ ∃ g : Nat → Int32, BF M F T τ g ∧ (Gd M F T (f4M M (F + 8)) → g (f4M M (F + 8)).toNatClampNeg ≠ 0) ∧ ∀ i : Nat, (i : Int) < y.toInt → M (τ.1 14 i).toNatClampNeg = 0 → (Gd M F T (f4M M ((τ.1 14 i).toNatClampNeg + 1)) → g (f4M M ((τ.1 14 i).toNatClampNeg + 1)).toNatClampNeg ≠ 0) ∧ (Gd M F T (f4M M ((τ.1 14 i).toNatClampNeg + 5)) → g (f4M M ((τ.1 14 i).toNatClampNeg + 5)).toNatClampNeg ≠ 0)) (fun y _ => (4096 - y.toInt).toNat) ?_ N 0 s6 ⟨by omega, by have := bf6.1; omega, ff6, g6, bf6, r6, fun i hi => absurd hi (by omega)⟩ (by (try dsimp only); omega)
  intro rr y τ hI2' ih
  obtain ⟨i1, i2, i3, g, bf, i4, i5⟩ := hI2'
  have cy := clE (rfl : y.toInt = _) i1
  obtain ⟨a1, a2, a3, a4, a5, a6⟩ := id bf
  have hcl := cnt_le g 4096
  have fin : (τ.1 2 4).toInt ≤ y.toInt → fX8_countNodes_j102 N Q τ := by
    intro hle
    have cn := clE (rfl : (τ.1 2 4).toInt = _) (by omega)
    refine hQ (τ.1 2 4) τ (fun c i q => ?_) ?_ ⟨?_, fun x hx => ?_⟩ (by omega) ⟨g, by omega, fun x q => ⟨(a2 x q).1, (a2 x q).2.1, (a2 x q).2.2.1⟩, ⟨i4, fun x x1 x2 x3 x4 x5 => ?_⟩, a6⟩
    · rw [i3.1 c i (by omega), f3 c i (by omega)]
    · rw [i3.1 2 3 (by omega), k3, f1]
    · rw [i3.1 2 3 (by omega), k3, f1]; have := hI.1; omega
    · rw [i3.1 2 3 (by omega), k3, f1]
      rcases i3.2.2 x with q | q
      · rw [q, f3 13 x (by omega)]
        have := hI.2 x hx
        omega
      · rw [q, k3, f1]; omega
    · obtain ⟨i, q1, q2⟩ := a5 x x5
      have cq : (τ.1 14 i).toNatClampNeg = x := by have := clE q2 (by omega); omega
      have := i5 i (by omega) (by rw [cq]; exact x4)
      rw [cq] at this
      exact this
  unfold fX8_countNodes_l35
  refine ⟨fun c => fin ((leE rfl rfl).mp c), fun c => ⟨fun c2 => fin ?_, fun c2 => ?_⟩⟩
  · have := (leE zm (rfl : y.toInt = _)).mp c2
    omega
  · have c' := (notleE (rfl : (τ.1 2 4).toInt = _) (rfl : y.toInt = _)).mp c
    have c2' := (notleE zm (rfl : y.toInt = _)).mp c2
    refine ⟨inE rfl (by omega) (by omega), fun v10 e10 => ?_⟩
    obtain ⟨k, q1, q2⟩ := a4 y.toNatClampNeg (by omega)
    rw [← e10] at q1
    obtain ⟨k1, k2, k3', k4'⟩ := a2 k q2
    have ck : (τ.1 14 y.toNatClampNeg).toNatClampNeg = k := by rw [← e10]; have := clE q1 (by omega); omega
    have hMτ : ∀ υ : St, Ff τ υ → MC υ M := fun υ fυ i hi => by rw [fυ.1 _ _ (by omega), i3.1 _ _ (by omega)]; exact hM3 i hi
    have idt : Ff τ τ := ⟨fun _ _ _ => rfl, rfl, fun _ => Or.inl rfl⟩
    have hFτ : ∀ υ : St, Ff τ υ → (υ.1 2 5).toInt = F ∧ (υ.1 2 6).toInt = T := fun υ fυ => by
      rw [fυ.1 _ _ (by omega), fυ.1 _ _ (by omega), i3.1 _ _ (by omega), i3.1 _ _ (by omega), f3 _ _ (by omega), f3 _ _ (by omega)]
      exact ⟨hF, hT⟩
    have nxt : ∀ (υ : St) (g' : Nat → Int32), Ff τ υ → BF M F T υ g' → (∀ y : Nat, g y ≠ 0 → g' y ≠ 0) → (τ.1 2 4).toInt ≤ (υ.1 2 4).toInt → (∀ i : Nat, (i : Int) < (τ.1 2 4).toInt → υ.1 14 i = τ.1 14 i) → (M k = 0 → (Gd M F T (f4M M (k + 1)) → g' (f4M M (k + 1)).toNatClampNeg ≠ 0) ∧ (Gd M F T (f4M M (k + 5)) → g' (f4M M (k + 5)).toNatClampNeg ≠ 0)) → fX8_countNodes_j96 N rr y Q υ := by
      intro υ g' fυ bυ up le st ch v ev
      have fv : v.toInt = y.toInt + 1 := (congrArg Int32.toInt ev).trans (aOkE rfl o1 (by omega) (by omega))
      refine ih v υ ⟨by omega, by omega, i3.tr fυ, g', bυ, fun q => up _ (i4 q), fun i hi => ?_⟩ (by (try dsimp only); omega)
      rw [st i (by omega)]
      by_cases e : i = y.toNatClampNeg
      · rw [e, ck]; exact ch
      · intro q
        have := i5 i (by omega) q
        exact ⟨fun w => up _ (this.1 w), fun w => up _ (this.2 w)⟩
    refine c_byte (k := k) q1 (by omega) (hMτ τ idt) ⟨fun c3 => ?_, fun c3 => nxt τ g idt bf (fun _ q => q) (Int.le_refl _) (fun _ _ => rfl) (fun q => absurd q c3)⟩
    have h9 := k3'.br c3
    have n1 : (v10 + 1).toInt = (k + 1 : Nat) := aOkE q1 o1 (by omega) (by omega)
    have n5 : (v10 + 5).toInt = (k + 5 : Nat) := aOkE q1 (show (5 : Int32).toInt = 5 from by decide) (by omega) (by omega)
    refine c_four n1 (by omega) (hMτ τ idt) ?_
    refine c_find hN (hFτ τ idt).1 (hFτ τ idt).2 hT2 (hMτ τ idt) bf (fun S hS q => (hS.2 k k1 k2 k3' c3 (a6 S hS k q2)).1 q) (fun sA gA fA bA rA uA lA tA => ?_)
    refine c_four n5 (by omega) (hMτ sA fA) ?_
    refine c_find hN (hFτ sA fA).1 (hFτ sA fA).2 hT2 (hMτ sA fA) bA (fun S hS q => (hS.2 k k1 k2 k3' c3 (a6 S hS k q2)).2 q) (fun sB gB fB bB rB uB lB tB => ?_)
    exact nxt sB gB (fA.tr fB) bB (fun y q => uB y (uA y q)) (by omega) (fun i hi => by rw [tB i (by omega), tA i hi]) (fun _ => ⟨fun q => uB _ (rA q), rB⟩)
end CACHE5
