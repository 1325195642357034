section SIM38
variable {N : Nat} {a b : St} {x1 x2 : Int32}
/-- what makes a piece -/
def GPc (k : Int32) (n : Nat) (l : Nat → Int32) : Prop := ((k = 2 ∧ n = 1 ∨ k = 3 ∧ 2 ≤ n ∧ n ≤ 20) ∧ ∀ i : Nat, i < n → 1 ≤ (l i).toInt ∧ (l i).toInt ≤ 255) ∨ ((k = 4 ∧ n = 1 ∨ k = 5 ∧ 2 ≤ n ∧ n ≤ 20) ∧ ∀ i : Nat, i < n → l i ≠ 0) ∨ ((k = 8 ∨ k = 9) ∧ n = 1)
theorem c_signs (hN : 4294967400 ≤ N) {x : Int32} {n : Nat} (en : x.toInt = n) (hn : n ≤ 120) {y2 : Int32} {Q : Int32 → St → Prop} (hY : (∀ i : Nat, i < n → a.1 11 i ≠ 0 ∧ (y2 ≠ 0 → 0 ≤ (a.1 11 i).toInt ∧ (a.1 11 i).toInt ≤ 255)) → Q 1 a) (hZ : ¬ (∀ i : Nat, i < n → a.1 11 i ≠ 0 ∧ (y2 ≠ 0 → 0 ≤ (a.1 11 i).toInt ∧ (a.1 11 i).toInt ≤ 255)) → Q 0 a) : fX7_areSigns N 11 x y2 Q a := by
  have z0 : (0 : Int32).toInt = 0 := by decide
  have z255 : (255 : Int32).toInt = 255 := by decide
  have z120 : (120 : Int32).toInt = 120 := by decide
  unfold fX7_areSigns
  refine lo1_i (fun (y : Int32) (τ : St) => τ = a ∧ 0 ≤ y.toInt ∧ y.toInt ≤ n ∧ ∀ i : Nat, (i : Int) < y.toInt → a.1 11 i ≠ 0 ∧ (y2 ≠ 0 → 0 ≤ (a.1 11 i).toInt ∧ (a.1 11 i).toInt ≤ 255)) (fun y _ => ((n : Int) - y.toInt).toNat) ?_ N 0 a ⟨rfl, by omega, by omega, fun i hi => absurd hi (by omega)⟩ (by (try dsimp only); omega)
  intro rr y τ hI ih
  obtain ⟨rfl, i1, i2, i3⟩ := hI
  have ey := clE (rfl : y.toInt = y.toInt) i1
  unfold fX7_areSigns_l2
  refine ⟨fun c => hY (fun i hi => i3 i ?_), fun c => ?_⟩
  · have := (leE en (rfl : y.toInt = y.toInt)).mp c
    omega
  · have f := (notleE en (rfl : y.toInt = y.toInt)).mp c
    have hin : vp_in y 120 := inE rfl (by omega) (by omega)
    have nx : τ.1 11 y.toNatClampNeg ≠ 0 → (y2 ≠ 0 → 0 ≤ (τ.1 11 y.toNatClampNeg).toInt ∧ (τ.1 11 y.toNatClampNeg).toInt ≤ 255) → fX7_areSigns_j40 N rr 11 x y2 y Q τ := by
      intro k1 k2 v ev
      have fv : v.toInt = y.toInt + 1 := (congrArg Int32.toInt ev).trans (aOkE rfl (show (1 : Int32).toInt = 1 from by decide) (by omega) (by omega))
      refine ih v τ ⟨rfl, by omega, by omega, fun i hi => ?_⟩ (by (try dsimp only); omega)
      by_cases e : i = y.toNatClampNeg
      · rw [e]; exact ⟨k1, k2⟩
      · exact i3 i (by omega)
    refine ⟨fun w => ?_, fun _ => ⟨hin, fun c2 => hZ (fun w => (w _ (by omega)).1 c2), fun c2 => ⟨fun c3 => nx c2 (fun w => absurd c3 w), fun c3 => ⟨hin, fun c4 => hZ (fun w => ?_), fun c4 => ⟨hin, fun c5 => nx c2 (fun _ => ?_), fun c5 => hZ (fun w => ?_)⟩⟩⟩⟩⟩
    · have := (leE z120 (rfl : y.toInt = y.toInt)).mp w
      omega
    · have := (w _ (show y.toNatClampNeg < n by omega)).2 c3
      have := (ltE rfl z0).mp c4
      omega
    · have := (notltE rfl z0).mp c4
      have := (leE rfl z255).mp c5
      omega
    · have := (w _ (show y.toNatClampNeg < n by omega)).2 c3
      have := (notleE rfl z255).mp c5
      omega
theorem c_isPiece (hN : 4294967400 ≤ N) {k x : Int32} {n : Nat} (en : x.toInt = n) (hn : n ≤ 120) {Q : Int32 → St → Prop} (hY : GPc k n (a.1 11) → Q 1 a) (hZ : ¬ GPc k n (a.1 11) → Q 0 a) : fX7_isPiece N k 11 x Q a := by
  have z1 : (1 : Int32).toInt = 1 := by decide
  have z2 : (2 : Int32).toInt = 2 := by decide
  have z20 : (20 : Int32).toInt = 20 := by decide
  have x1 : x = 1 ↔ n = 1 := ⟨fun w => by rw [w, z1] at en; omega, fun w => Int32.toInt_inj.mp (by rw [en, z1]; omega)⟩
  have l2 : x < 2 ↔ n < 2 := (ltE en z2).trans (by omega)
  have l20 : 20 < x ↔ 20 < n := (ltE z20 en).trans (by omega)
  have sg : ∀ i : Nat, (a.1 11 i ≠ 0 ∧ ((1 : Int32) ≠ 0 → 0 ≤ (a.1 11 i).toInt ∧ (a.1 11 i).toInt ≤ 255)) ↔ (1 ≤ (a.1 11 i).toInt ∧ (a.1 11 i).toInt ≤ 255) := by
    intro i
    refine ⟨fun w => ?_, fun w => ⟨fun z => ?_, fun _ => by omega⟩⟩
    · have q := w.2 (by decide)
      have : (a.1 11 i).toInt ≠ 0 := fun z => w.1 (Int32.toInt_inj.mp (by rw [z]; decide))
      omega
    · rw [z, show (0 : Int32).toInt = 0 from by decide] at w
      omega
  unfold fX7_isPiece fX7_isPiece_j140 GPc at *
  refine ⟨fun c => ⟨fun c2 => ?_, fun c2 => hZ ?_⟩, fun c => ⟨fun d => ⟨fun c2 => hZ ?_, fun c2 => ⟨fun c3 => hZ ?_, fun c3 => ?_⟩⟩, fun d => ⟨fun e => ⟨fun c2 => ?_, fun c2 => hZ ?_⟩, fun e => ⟨fun f => ⟨fun c2 => hZ ?_, fun c2 => ⟨fun c3 => hZ ?_, fun c3 => ?_⟩⟩, fun f => ⟨fun g => ⟨fun c2 => hY ?_, fun c2 => hZ ?_⟩, fun g => ⟨fun i => ⟨fun c2 => hY ?_, fun c2 => hZ ?_⟩, fun i => hZ ?_⟩⟩⟩⟩⟩⟩
  · refine c_signs hN en hn (fun w => ⟨fun q => absurd q (by decide), fun _ => hY (Or.inl ⟨Or.inl ⟨c, x1.mp c2⟩, fun i hi => (sg i).mp (w i hi)⟩)⟩) (fun w => ⟨fun _ => hZ (fun z => w ?_), fun q => absurd rfl q⟩)
    rcases z with z | z | z
    · exact fun i hi => (sg i).mpr (z.2 i hi)
    · rcases z.1 with z | z <;> exact absurd (c.symm.trans z.1) (by decide)
    · rcases z.1 with z | z <;> exact absurd (c.symm.trans z) (by decide)
  · intro z
    rcases z with z | z | z
    · rcases z.1 with z | z
      · exact c2 (x1.mpr z.2)
      · exact absurd (c.symm.trans z.1) (by decide)
    · rcases z.1 with z | z <;> exact absurd (c.symm.trans z.1) (by decide)
    · rcases z.1 with z | z <;> exact absurd (c.symm.trans z) (by decide)
  · intro z
    have := l2.mp c2
    rcases z with z | z | z
    · rcases z.1 with z | z
      · exact c z.1
      · omega
    · rcases z.1 with z | z <;> exact absurd (d.symm.trans z.1) (by decide)
    · rcases z.1 with z | z <;> exact absurd (d.symm.trans z) (by decide)
  · intro z
    have := l20.mp c3
    rcases z with z | z | z
    · rcases z.1 with z | z
      · exact c z.1
      · omega
    · rcases z.1 with z | z <;> exact absurd (d.symm.trans z.1) (by decide)
    · rcases z.1 with z | z <;> exact absurd (d.symm.trans z) (by decide)
  · have q2 : ¬ n < 2 := fun z => c2 (l2.mpr z)
    have q3 : ¬ 20 < n := fun z => c3 (l20.mpr z)
    refine c_signs hN en hn (fun w => ⟨fun q => absurd q (by decide), fun _ => hY (Or.inl ⟨Or.inr ⟨d, by omega, by omega⟩, fun i hi => (sg i).mp (w i hi)⟩)⟩) (fun w => ⟨fun _ => hZ (fun z => w ?_), fun q => absurd rfl q⟩)
    rcases z with z | z | z
    · exact fun i hi => (sg i).mpr (z.2 i hi)
    · rcases z.1 with z | z <;> exact absurd (d.symm.trans z.1) (by decide)
    · rcases z.1 with z | z <;> exact absurd (d.symm.trans z) (by decide)
  · refine c_signs hN en hn (fun w => ⟨fun q => absurd q (by decide), fun _ => hY (Or.inr (Or.inl ⟨Or.inl ⟨e, x1.mp c2⟩, fun i hi => (w i hi).1⟩))⟩) (fun w => ⟨fun _ => hZ (fun z => w ?_), fun q => absurd rfl q⟩)
    rcases z with z | z | z
    · rcases z.1 with z | z <;> exact absurd (e.symm.trans z.1) (by decide)
    · exact fun i hi => ⟨z.2 i hi, fun q => absurd rfl q⟩
    · rcases z.1 with z | z <;> exact absurd (e.symm.trans z) (by decide)
  · intro z
    rcases z with z | z | z
    · rcases z.1 with z | z <;> exact absurd (e.symm.trans z.1) (by decide)
    · rcases z.1 with z | z
      · exact c2 (x1.mpr z.2)
      · exact absurd (e.symm.trans z.1) (by decide)
    · rcases z.1 with z | z <;> exact absurd (e.symm.trans z) (by decide)
  · intro z
    have := l2.mp c2
    rcases z with z | z | z
    · rcases z.1 with z | z <;> exact absurd (f.symm.trans z.1) (by decide)
    · rcases z.1 with z | z
      · exact absurd (f.symm.trans z.1) (by decide)
      · omega
    · rcases z.1 with z | z <;> exact absurd (f.symm.trans z) (by decide)
  · intro z
    have := l20.mp c3
    rcases z with z | z | z
    · rcases z.1 with z | z <;> exact absurd (f.symm.trans z.1) (by decide)
    · rcases z.1 with z | z
      · exact absurd (f.symm.trans z.1) (by decide)
      · omega
    · rcases z.1 with z | z <;> exact absurd (f.symm.trans z) (by decide)
  · have q2 : ¬ n < 2 := fun z => c2 (l2.mpr z)
    have q3 : ¬ 20 < n := fun z => c3 (l20.mpr z)
    refine c_signs hN en hn (fun w => ⟨fun q => absurd q (by decide), fun _ => hY (Or.inr (Or.inl ⟨Or.inr ⟨f, by omega, by omega⟩, fun i hi => (w i hi).1⟩))⟩) (fun w => ⟨fun _ => hZ (fun z => w ?_), fun q => absurd rfl q⟩)
    rcases z with z | z | z
    · rcases z.1 with z | z <;> exact absurd (f.symm.trans z.1) (by decide)
    · exact fun i hi => ⟨z.2 i hi, fun q => absurd rfl q⟩
    · rcases z.1 with z | z <;> exact absurd (f.symm.trans z) (by decide)
  · exact Or.inr (Or.inr ⟨Or.inl g, x1.mp c2⟩)
  · intro z
    rcases z with z | z | z
    · rcases z.1 with z | z <;> exact absurd (g.symm.trans z.1) (by decide)
    · rcases z.1 with z | z <;> exact absurd (g.symm.trans z.1) (by decide)
    · exact c2 (x1.mpr z.2)
  · exact Or.inr (Or.inr ⟨Or.inr i, x1.mp c2⟩)
  · intro z
    rcases z with z | z | z
    · rcases z.1 with z | z <;> exact absurd (i.symm.trans z.1) (by decide)
    · rcases z.1 with z | z <;> exact absurd (i.symm.trans z.1) (by decide)
    · exact c2 (x1.mpr z.2)
  · intro z
    rcases z with z | z | z
    · rcases z.1 with z | z
      · exact c z.1
      · exact d z.1
    · rcases z.1 with z | z
      · exact e z.1
      · exact f z.1
    · rcases z.1 with z | z
      · exact g z
      · exact i z
/-- is it a piece: the reference -/
theorem e_isPiece (hN : 4294967400 ≤ N) {k x : Int32} {n : Nat} {σ : St} (en : x.toInt = n) (hn : n ≤ 120) {Q : Int32 → St → Prop} (hY : GPc k n (σ.1 3) → ((σ.1 0 36) = 60 → Q (-4) σ) ∧ (¬ (σ.1 0 36) = 60 → vp_in (σ.1 0 36) 60 ∧ ∀ σ_9 : St, σ_9 = u1 σ 16 (σ.1 0 36).toNatClampNeg k → vp_in (σ_9.1 0 36) 60 ∧ ∀ σ_11 : St, σ_11 = u1 σ_9 18 (σ_9.1 0 36).toNatClampNeg x → vp_in (σ_11.1 0 36) 60 ∧ ∀ σ_13 : St, σ_13 = u1 σ_11 19 (σ_11.1 0 36).toNatClampNeg (-1) → lo1 (fX12_piece_l193 N x Q) N 0 σ_13)) (hZ : ¬ GPc k n (σ.1 3) → Q (-2) σ) (eb : b.1 0 5 = x) (es : σ = u1 b 0 5 0) : fX12_piece N k Q b := by
  have z0 : (0 : Int32).toInt = 0 := by decide
  have z1 : (1 : Int32).toInt = 1 := by decide
  have z1L : (1 : Int64).toInt = 1 := by decide
  have z255L : (255 : Int64).toInt = 255 := by decide
  have z3 : (3 : Int32).toInt = 3 := by decide
  have z5 : (5 : Int32).toInt = 5 := by decide
  have z2L : (2 : Int64).toInt = 2 := by decide
  have z20L : (20 : Int64).toInt = 20 := by decide
  have x1 : x = 1 ↔ n = 1 := ⟨fun w => by rw [w, z1] at en; omega, fun w => Int32.toInt_inj.mp (by rw [en, z1]; omega)⟩
  -- the loop
  have loop : ∀ (t0 : Int32) (C : Prop), (t0 ≠ 0 ↔ C) → (C ∧ (∀ i : Nat, i < n → if 3 < k then (5 < k ∨ σ.1 3 i ≠ 0) else (1 ≤ (σ.1 3 i).toInt ∧ (σ.1 3 i).toInt ≤ 255)) ↔ GPc k n (σ.1 3)) → fX12_piece_j74 N k x t0 Q σ := by
    intro t0 C hC hG
    unfold fX12_piece_j74
    refine lo2_i (fun (u y : Int32) (τ : St) => τ = σ ∧ 0 ≤ y.toInt ∧ y.toInt ≤ n ∧ (u ≠ 0 ↔ C ∧ ∀ i : Nat, (i : Int) < y.toInt → if 3 < k then (5 < k ∨ σ.1 3 i ≠ 0) else (1 ≤ (σ.1 3 i).toInt ∧ (σ.1 3 i).toInt ≤ 255))) (fun _ y _ => ((n : Int) - y.toInt).toNat) ?_ N t0 0 σ ⟨rfl, by omega, by omega, hC.trans ⟨fun w => ⟨w, fun i hi => absurd hi (by omega)⟩, fun w => w.1⟩⟩ (by (try dsimp only); omega)
    intro rr u y τ hI ih
    obtain ⟨rfl, i1, i2, i3⟩ := hI
    have ey := clE (rfl : y.toInt = y.toInt) i1
    unfold fX12_piece_l78
    refine ⟨fun c => ?_, fun c => ?_⟩
    · have f := (leE en (rfl : y.toInt = y.toInt)).mp c
      have eq : u ≠ 0 ↔ GPc k n (τ.1 3) := i3.trans (Iff.trans ⟨fun w => ⟨w.1, fun i hi => w.2 i (by omega)⟩, fun w => ⟨w.1, fun i hi => w.2 i (by omega)⟩⟩ hG)
      exact ⟨fun w => hZ (fun z => eq.mpr z w), fun w => hY (eq.mp w)⟩
    · have f := (notleE en (rfl : y.toInt = y.toInt)).mp c
      have hin : vp_in y 120 := inE rfl (by omega) (by omega)
      have j134 : ∀ w : Int32, (w ≠ 0 ↔ u ≠ 0 ∧ (if 3 < k then (5 < k ∨ τ.1 3 y.toNatClampNeg ≠ 0) else (1 ≤ (τ.1 3 y.toNatClampNeg).toInt ∧ (τ.1 3 y.toNatClampNeg).toInt ≤ 255))) → fX12_piece_j134 N rr k x y w Q τ := by
        intro w hw v ev
        have fv : v.toInt = y.toInt + 1 := (congrArg Int32.toInt ev).trans (aOkE rfl z1 (by omega) (by omega))
        refine ih w v τ ⟨rfl, by omega, by omega, hw.trans ⟨fun q => ⟨(i3.mp q.1).1, fun i hi => ?_⟩, fun q => ⟨i3.mpr ⟨q.1, fun i hi => q.2 i (by omega)⟩, q.2 _ (by omega)⟩⟩⟩ (by (try dsimp only); omega)
        by_cases e : i = y.toNatClampNeg
        · rw [e]; exact q.2
        · exact (i3.mp q.1).2 i (by omega)
      have no : (u = 0 ∨ ¬ (if 3 < k then (5 < k ∨ τ.1 3 y.toNatClampNeg ≠ 0) else (1 ≤ (τ.1 3 y.toNatClampNeg).toInt ∧ (τ.1 3 y.toNatClampNeg).toInt ≤ 255))) → fX12_piece_j133 N rr k x y Q τ := fun w => j134 0 ⟨fun q => absurd rfl q, fun q => by rcases w with w | w; exact absurd w q.1; exact absurd q.2 w⟩
      have yes : u ≠ 0 → (if 3 < k then (5 < k ∨ τ.1 3 y.toNatClampNeg ≠ 0) else (1 ≤ (τ.1 3 y.toNatClampNeg).toInt ∧ (τ.1 3 y.toNatClampNeg).toInt ≤ 255)) → fX12_piece_j129 N rr k x y Q τ := fun w1 w2 => j134 1 ⟨fun _ => ⟨w1, w2⟩, fun _ => by decide⟩
      refine ⟨fun c2 => no (Or.inl c2), fun c2 => ⟨fun c3 => ⟨fun c4 => yes c2 (by rw [if_pos c3]; exact Or.inl c4), fun c4 => ⟨hin, fun c5 => no (Or.inr ?_), fun c5 => yes c2 (by rw [if_pos c3]; exact Or.inr c5)⟩⟩, fun c3 => ⟨hin, ?_⟩⟩⟩
      · rw [if_pos c3]
        exact fun z => by rcases z with z | z; exact c4 z; exact z c5
      · have e64 : ((τ.1 3 y.toNatClampNeg).toInt64).toInt = (τ.1 3 y.toNatClampNeg).toInt := i2lE rfl
        unfold fX12_in
        refine ⟨fun w => ⟨fun _ => no (Or.inr ?_), fun q => absurd rfl q⟩, fun w1 => ⟨fun w => ⟨fun _ => no (Or.inr ?_), fun q => absurd rfl q⟩, fun w2 => ⟨fun q => absurd q (by decide), fun _ => yes c2 ?_⟩⟩⟩
        · have := (ltE64 e64 z1L).mp w
          rw [if_neg c3]
          omega
        · have := (ltE64 z255L e64).mp w
          rw [if_neg c3]
          omega
        · have := (notltE64 e64 z1L).mp w1
          have := (notltE64 z255L e64).mp w2
          rw [if_neg c3]
          omega
  have k3 : ∀ {z : Int32} (w : k = z), (3 < k ↔ 3 < z.toInt) ∧ (5 < k ↔ 5 < z.toInt) := fun w => by rw [w]; exact ⟨ltE z3 rfl, ltE z5 rfl⟩
  have j32 : (k = 2 ∨ k = 4 ∨ k = 8 ∨ k = 9) → fX12_piece_j32 N k x Q σ := by
    intro hk
    have G : (n = 1 ∧ (∀ i : Nat, i < n → if 3 < k then (5 < k ∨ σ.1 3 i ≠ 0) else (1 ≤ (σ.1 3 i).toInt ∧ (σ.1 3 i).toInt ≤ 255))) ↔ GPc k n (σ.1 3) := by
      unfold GPc
      rcases hk with q | q | q | q <;> subst q <;> simp <;> decide
    unfold fX12_piece_j32
    exact ⟨fun c => loop 1 (n = 1) ⟨fun _ => x1.mp c, fun _ => by decide⟩ G, fun c => loop 0 (n = 1) ⟨fun q => absurd rfl q, fun q => absurd (x1.mpr q) c⟩ G⟩
  have j55 : (k = 3 ∨ k = 5) → fX12_piece_j55 N k x Q σ := by
    intro hk
    have G : ((2 ≤ n ∧ n ≤ 20) ∧ (∀ i : Nat, i < n → if 3 < k then (5 < k ∨ σ.1 3 i ≠ 0) else (1 ≤ (σ.1 3 i).toInt ∧ (σ.1 3 i).toInt ≤ 255))) ↔ GPc k n (σ.1 3) := by
      unfold GPc
      rcases hk with q | q <;> subst q <;> simp <;> decide
    have e64 : x.toInt64.toInt = n := i2lE en
    unfold fX12_piece_j55 fX12_piece_j73 fX12_in
    refine ⟨fun w => ⟨fun _ => loop 0 (2 ≤ n ∧ n ≤ 20) ⟨fun q => absurd rfl q, fun q => ?_⟩ G, fun q => absurd rfl q⟩, fun w1 => ⟨fun w => ⟨fun _ => loop 0 (2 ≤ n ∧ n ≤ 20) ⟨fun q => absurd rfl q, fun q => ?_⟩ G, fun q => absurd rfl q⟩, fun w2 => ⟨fun q => absurd q (by decide), fun _ => loop 1 (2 ≤ n ∧ n ≤ 20) ⟨fun _ => ?_, fun _ => by decide⟩ G⟩⟩⟩
    · have := (ltE64 e64 z2L).mp w
      omega
    · have := (ltE64 z20L e64).mp w
      omega
    · have := (notltE64 e64 z2L).mp w1
      have := (notltE64 z20L e64).mp w2
      omega
  unfold fX12_piece
  intro v1 ev1 s2 es2
  rw [ev1, eb, es2, ← es]
  refine ⟨fun c => j32 (Or.inl c), fun c1 => ⟨fun c => j32 (Or.inr (Or.inl c)), fun c2 => ⟨fun c => j32 (Or.inr (Or.inr (Or.inl c))), fun c3 => ⟨fun c => j32 (Or.inr (Or.inr (Or.inr c))), fun c4 => ⟨fun c => j55 (Or.inl c), fun c5 => ⟨fun c => j55 (Or.inr c), fun c6 => ?_⟩⟩⟩⟩⟩⟩
  refine loop 0 False ⟨fun q => absurd rfl q, fun q => q.elim⟩ ⟨fun q => q.1.elim, fun z => ?_⟩
  rcases z with z | z | z
  · rcases z.1 with z | z
    · exact absurd z.1 c1
    · exact absurd z.1 c5
  · rcases z.1 with z | z
    · exact absurd z.1 c2
    · exact absurd z.1 c6
  · rcases z.1 with z | z
    · exact absurd z c3
    · exact absurd z c4
end SIM38
