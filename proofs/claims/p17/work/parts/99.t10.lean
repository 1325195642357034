section CACHE10
variable {a b c τ : St} {N : Nat} {k : Int} {x1 x2 : Int32} {lo hi : Nat}
/-- an address lies in the cached tree -/
def inR (c : St) (x : Nat) : Prop := (c.1 0 6).toInt ≤ (x : Int) ∧ (x : Int) < (c.1 0 6).toInt + (c.2 0 8).toInt
/-- the cache behind the telling of the addresses D -/
def Vt (c : St) (lo hi : Nat) (τ : St) (D : Nat → Prop) : Prop := (τ.2 = c.2 ∧ ∀ x : Nat, ¬ (lo ≤ x ∧ x < hi) → τ.1 1 x = c.1 1 x) ∧ τ.1 0 6 = c.1 0 6 ∧ τ.1 0 1 = c.1 0 1 ∧ ((τ.1 0 7 = c.1 0 7 ∧ (0 < (c.1 0 7).toInt → ∀ x : Nat, D x → ¬ inR c x)) ∨ (τ.1 0 7 = 0 ∧ ∃ x : Nat, lo ≤ x ∧ x < hi ∧ (0 < (c.1 0 7).toInt → inR c x)))
theorem Vt.ext {υ : St} {D D' : Nat → Prop} (h : Vt c lo hi τ D) (h1 : υ.2 = τ.2) (h2 : ∀ i : Nat, i = 1 ∨ i = 6 ∨ i = 7 → υ.1 0 i = τ.1 0 i) (hD : ∀ x : Nat, D' x → D x) (h3 : υ.1 1 = τ.1 1 := by rfl) : Vt c lo hi υ D' := by
  refine ⟨⟨h1.trans h.1.1, fun x q => by rw [h3]; exact h.1.2 x q⟩, by rw [h2 6 (by omega)]; exact h.2.1, by rw [h2 1 (by omega)]; exact h.2.2.1, ?_⟩
  rw [h2 7 (by omega)]
  rcases h.2.2.2 with q | q
  · exact Or.inl ⟨q.1, fun w x d => q.2 w x (hD x d)⟩
  · exact Or.inr q
/-- a byte is told -/
theorem v_put {x v : Int32} {j : Nat} {D : Nat → Prop} {σ0 : St} (ex : x.toInt = j) (h1 : lo ≤ j) (h2 : j < hi) (h3 : hi ≤ 4096) (hc : 0 ≤ (c.1 0 7).toInt) (hz : 0 < (c.1 0 7).toInt → 0 ≤ (c.2 0 8).toInt ∧ (c.2 0 8).toInt ≤ 100000) (hV : Vt c lo hi τ D) (hτ : K2 σ0 τ) {Q : St → Prop} (hQ : ∀ υ : St, K2 σ0 υ → FrT τ υ → Vt c lo hi υ (fun y => D y ∨ y = j) → Q υ) : fX12_tell N x v Q τ := by
  have z0 : (0 : Int32).toInt = 0 := by decide
  have cx : x.toNatClampNeg = j := by have := clE ex (by omega); omega
  obtain ⟨⟨w1, w5⟩, w2, w3, w4⟩ := id hV
  have b6 := tB (c.1 0 6)
  unfold fX12_tell
  intro u eu
  refine ⟨inE ex (by omega) (by omega), fun σ3 e3 => ?_⟩
  have b255 := and255 v
  have k3 : K2 σ0 σ3 := by
    rw [e3, eu]
    exact hτ.u (Rg2.q_1 b255.1 b255.2) (by omega) (by omega) (by omega)
  have f3 : FrT τ σ3 := fun c i q => kq e3 (by omega)
  have g3 : ∀ i : Nat, σ3.1 0 i = τ.1 0 i := fun i => by rw [e3, u1e (by omega)]
  have g32 : σ3.2 = τ.2 := by rw [e3]; rfl
  have g31 : ∀ x : Nat, ¬ (lo ≤ x ∧ x < hi) → σ3.1 1 x = c.1 1 x := fun y q => by rw [e3, cx, u1e (by omega)]; exact w5 y q
  have keep : (0 < (c.1 0 7).toInt → ¬ inR c j ∨ τ.1 0 7 = 0) → Q σ3 := by
    intro hk
    refine hQ σ3 k3 f3 ⟨⟨g32.trans w1, g31⟩, by rw [g3]; exact w2, by rw [g3]; exact w3, ?_⟩
    rw [g3]
    rcases w4 with q | q
    · by_cases p : 0 < (c.1 0 7).toInt
      · rcases hk p with r | r
        · exact Or.inl ⟨q.1, fun w y d => by rcases d with d | d; exact q.2 w y d; rw [d]; exact r⟩
        · rw [q.1] at r
          rw [r, z0] at p
          omega
      · exact Or.inl ⟨q.1, fun w => absurd w p⟩
    · exact Or.inr q
  have e6 : (σ3.1 0 6).toInt64.toInt = (c.1 0 6).toInt := by rw [g3, w2]; exact i2lE rfl
  have e8 : σ3.2 0 8 = c.2 0 8 := by rw [g32, w1]
  have pos : ¬ σ3.1 0 7 ≤ 0 → 0 < (c.1 0 7).toInt := fun d => by
    have := (notleE (rfl : (σ3.1 0 7).toInt = _) z0).mp d
    rw [g3] at this
    rcases w4 with q | q
    · rw [q.1] at this; omega
    · rw [q.1, z0] at this; omega
  have es : ¬ σ3.1 0 7 ≤ 0 → ((σ3.1 0 6).toInt64 + σ3.2 0 8).toInt = (c.1 0 6).toInt + (c.2 0 8).toInt := fun d => by
    have := hz (pos d)
    exact aOkE64 e6 (by rw [e8]) (by omega) (by omega)
  refine ⟨fun d => keep (fun p => Or.inr ?_), fun d0 => ⟨fun d => keep (fun _ => Or.inl (fun q => ?_)), fun d1 => ⟨fun d => keep (fun _ => Or.inl (fun q => ?_)), fun d2 σ7 e7 => ?_⟩⟩⟩
  · have := (leE (rfl : (σ3.1 0 7).toInt = _) z0).mp d
    rw [g3] at this
    rcases w4 with q | q
    · rw [q.1] at this; omega
    · exact q.1
  · have := (ltE ex (rfl : (σ3.1 0 6).toInt = _)).mp d
    rw [g3, w2] at this
    have := q.1
    omega
  · have := (leE64 (es d0) (i2lE ex)).mp d
    have := q.2
    omega
  · have p1 := (notltE ex (rfl : (σ3.1 0 6).toInt = _)).mp d1
    rw [g3, w2] at p1
    have p2 := (notleE64 (es d0) (i2lE ex)).mp d2
    refine hQ σ7 ?_ (fun c i q => (kq e7 (by omega)).trans (f3 c i q)) ⟨⟨by rw [e7]; exact g32.trans w1, fun y q => by rw [e7, u1e (by omega)]; exact g31 y q⟩, by rw [e7, u1e (by omega), g3]; exact w2, by rw [e7, u1e (by omega), g3]; exact w3, Or.inr ⟨by rw [e7, u1v], j, h1, h2, fun _ => ⟨by omega, by omega⟩⟩⟩
    rw [e7]
    exact k3.u (by simp [Rg2, In32]) (by omega) (by omega) (by omega)
theorem v_putF (hN : 4294967400 ≤ N) {x v : Int32} {j : Nat} {D : Nat → Prop} {σ0 : St} (ex : x.toInt = j) (h1 : lo ≤ j) (h2 : j + 3 < hi) (h3 : hi ≤ 4096) (hc : 0 ≤ (c.1 0 7).toInt) (hz : 0 < (c.1 0 7).toInt → 0 ≤ (c.2 0 8).toInt ∧ (c.2 0 8).toInt ≤ 100000) (hV : Vt c lo hi τ D) (hτ : K2 σ0 τ) {Q : St → Prop} (hQ : ∀ υ : St, K2 σ0 υ → FrT τ υ → Vt c lo hi υ (fun y => D y ∨ (j ≤ y ∧ y < j + 4)) → Q υ) : fX12_tellFour N x v Q τ := by
  have z0 : (x + 0).toInt = (j : Nat) := aOkE ex (show (0 : Int32).toInt = 0 from by decide) (by omega) (by omega)
  have z1 : (x + 1).toInt = (j + 1 : Nat) := aOkE ex (show (1 : Int32).toInt = 1 from by decide) (by omega) (by omega)
  have z2 : (x + 2).toInt = (j + 2 : Nat) := aOkE ex (show (2 : Int32).toInt = 2 from by decide) (by omega) (by omega)
  have z3 : (x + 3).toInt = (j + 3 : Nat) := aOkE ex (show (3 : Int32).toInt = 3 from by decide) (by omega) (by omega)
  obtain ⟨M', rfl⟩ : ∃ m, N = m + 5 := ⟨N - 5, by omega⟩
  unfold fX12_tellFour
  refine ⟨fun c => absurd c (by decide), fun _ => v_put z0 h1 (by omega) h3 hc hz hV hτ (fun s1 k1 f1 m1 v1 e1 => ?_)⟩
  rw [show (v1 : Int32) = 1 from e1.trans (by decide)]
  refine ⟨fun c => absurd c (by decide), fun _ => v_put z1 (by omega) (by omega) h3 hc hz m1 k1 (fun s2 k2 f2 m2 v2 e2 => ?_)⟩
  rw [show (v2 : Int32) = 2 from e2.trans (by decide)]
  refine ⟨fun c => absurd c (by decide), fun _ => v_put z2 (by omega) (by omega) h3 hc hz m2 k2 (fun s3 k3 f3 m3 v3 e3 => ?_)⟩
  rw [show (v3 : Int32) = 3 from e3.trans (by decide)]
  refine ⟨fun c => absurd c (by decide), fun _ => v_put z3 (by omega) (by omega) h3 hc hz m3 k3 (fun s4 k4 f4 m4 v4 e4 => ?_)⟩
  rw [show (v4 : Int32) = 4 from e4.trans (by decide)]
  refine ⟨fun _ => hQ s4 k4 (((f1.tr f2).tr f3).tr f4) (m4.ext rfl (fun _ _ => rfl) (fun y d => ?_)), fun c => absurd (by decide) c⟩
  rcases d with d | d
  · exact Or.inl (Or.inl (Or.inl (Or.inl d)))
  · have : y = j ∨ y = j + 1 ∨ y = j + 2 ∨ y = j + 3 := by omega
    rcases this with q | q | q | q
    · exact Or.inl (Or.inl (Or.inl (Or.inr q)))
    · exact Or.inl (Or.inl (Or.inr q))
    · exact Or.inl (Or.inr q)
    · exact Or.inr q
theorem v_load (hN : 4294967400 ≤ N) {n : Int32} {Q : Int32 → St → Prop} {σ0 σ : St} (h1 : x1.toInt = lo) (hn : 0 ≤ n.toInt) (hn2 : n.toInt ≤ 600) (hh : (hi : Int) = lo + n.toInt) (h3 : hi ≤ 4096) (hc : 0 ≤ (c.1 0 7).toInt) (hz : 0 < (c.1 0 7).toInt → 0 ≤ (c.2 0 8).toInt ∧ (c.2 0 8).toInt ≤ 100000) (hσ : K2 σ0 σ) (hV : Vt c lo hi σ (fun _ => False)) (hQ : ∀ τ : St, Vt c lo hi τ (fun x => lo ≤ x ∧ x < hi) → Q n τ) : lo1 (fX12_load_l31 N x1 n Q) N 0 σ := by
  have z0 : (0 : Int32).toInt = 0 := by decide
  refine lo1_i (fun (y : Int32) (τ : St) => 0 ≤ y.toInt ∧ y.toInt ≤ n.toInt ∧ K2 σ0 τ ∧ Vt c lo hi τ (fun x => lo ≤ x ∧ (x : Int) < lo + y.toInt)) (fun y _ => (n.toInt - y.toInt).toNat) ?_ N 0 σ ⟨by omega, by omega, hσ, hV.ext rfl (fun _ _ => rfl) (fun x d => by have := d.2; omega)⟩ (by (try dsimp only); omega)
  intro rr y τ hI ih
  obtain ⟨i1, i2, i3, i5⟩ := hI
  have ey := clE (rfl : y.toInt = y.toInt) i1
  have es : (x1 + y).toInt = (lo + y.toNatClampNeg : Nat) := (aOkE h1 (rfl : y.toInt = _) (by omega) (by omega)).trans (by omega)
  unfold fX12_load_l31
  refine ⟨fun c => ?_, fun c => ?_⟩
  · have f := (leE (rfl : n.toInt = n.toInt) (rfl : y.toInt = y.toInt)).mp c
    exact hQ τ (i5.ext rfl (fun _ _ => rfl) (fun x d => ⟨d.1, by have := d.2; omega⟩))
  · have f := (notleE (rfl : n.toInt = n.toInt) (rfl : y.toInt = y.toInt)).mp c
    refine ⟨inE rfl (by omega) (by omega), v_put es (by omega) (by omega) h3 hc hz i5 i3 (fun υ k2 f2 m2 v ev => ?_)⟩
    have fv : v.toInt = y.toInt + 1 := (congrArg Int32.toInt ev).trans (aOkE rfl (show (1 : Int32).toInt = 1 from by decide) (by omega) (by omega))
    refine ih v υ ⟨by omega, by omega, k2, m2.ext rfl (fun _ _ => rfl) (fun x d => ?_)⟩ (by (try dsimp only); omega)
    by_cases e : x = lo + y.toNatClampNeg
    · exact Or.inr e
    · exact Or.inl ⟨d.1, by have := d.2; omega⟩
/-- the cache in step, where both sides were told the addresses from lo to hi -/
theorem Cch.told {a' : St} (h : Cch a b) (hB : (b.1 0 1).toInt ≤ 4096) (hV : Vt b lo hi τ (fun x => lo ≤ x ∧ x < hi)) (hm : ∀ x : Nat, x < 4096 → ¬ (lo ≤ x ∧ x < hi) → τ.1 1 x = b.1 1 x) (hd : (∀ i : Nat, a'.1 2 i = a.1 2 i) ∧ ((a.1 2 6).toInt ≤ lo ∨ (hi : Int) ≤ (a.1 2 5).toInt) ∨ (a'.1 2 7 = 0 ∧ ¬ ((a.1 2 6).toInt ≤ lo ∨ (hi : Int) ≤ (a.1 2 5).toInt))) (hlh : lo < hi) : Cch a' τ := by
  have z0 : (0 : Int32).toInt = 0 := by decide
  obtain ⟨⟨v1, _⟩, v2, v3, v4⟩ := hV
  have h8 : τ.2 0 8 = b.2 0 8 := by rw [v1]
  -- the numbers of the cached tree
  have rng : CK a b → ∀ x : Nat, inR b x ↔ ((a.1 2 5).toInt ≤ (x : Int) ∧ (x : Int) < (a.1 2 6).toInt) := by
    intro ck x
    obtain ⟨q1, q2, q3, q4, q5⟩ := ck
    unfold inR
    rw [q4, q5]
    omega
  rcases hd with ⟨d1, d2⟩ | ⟨d1, d2⟩
  · -- untouched
    have no : CK a b → ∀ x : Nat, lo ≤ x → x < hi → ¬ inR b x := fun ck x x1 x2 w => by
      have := (rng ck x).mp w
      omega
    have ckx : CK a b → CK a' τ := fun ck => by
      unfold CK
      rw [d1, d1, v2, v3, h8]
      exact ck
    have same : CK a b → τ.1 0 7 = b.1 0 7 ∨ ((b.1 0 7).toInt ≤ 0 ∧ τ.1 0 7 = 0) := by
      intro ck
      rcases v4 with q | ⟨q1, x, x1, x2, x3⟩
      · exact Or.inl q.1
      · by_cases p : 0 < (b.1 0 7).toInt
        · exact absurd (x3 p) (no ck x x1 x2)
        · exact Or.inr ⟨by omega, q1⟩
    rcases h with ⟨h1, h2, h3, h4⟩ | ⟨h1, h2, h3⟩
    · have e7 : τ.1 0 7 = b.1 0 7 := by
        rcases same h2 with q | q
        · exact q
        · rw [q.2]; exact Int32.toInt_inj.mp (by omega)
      obtain ⟨q1, q2, q3, q4, q5⟩ := id h2
      have c5 := clE (rfl : (a.1 2 5).toInt = _) (by omega)
      have c6 := clE (rfl : (a.1 2 6).toInt = _) (by omega)
      refine Or.inl ⟨by rw [d1]; exact h1, ckx h2, by rw [e7]; exact h3, ?_⟩
      rw [d1, d1, e7]
      exact h4.ext (by omega) (fun i i1 i2 => hm i (by omega) (by omega))
    · by_cases p : 0 < (b.1 0 7).toInt
      · have ck := h3 p
        have e7 : τ.1 0 7 = b.1 0 7 := by
          rcases same ck with q | q
          · exact q
          · omega
        exact Or.inr ⟨by rw [d1, e7]; exact h1, by rw [e7]; exact h2, fun _ => ckx ck⟩
      · have b0 : b.1 0 7 = 0 := Int32.toInt_inj.mp (by omega)
        have e7 : τ.1 0 7 = 0 := by
          rcases v4 with q | q
          · rw [q.1]; exact b0
          · exact q.1
        exact Or.inr ⟨by rw [d1, e7, h1, b0], by rw [e7, z0]; exact Int.le_refl _, fun w => by rw [e7, z0] at w; omega⟩
  · -- touched
    have e7 : τ.1 0 7 = 0 := by
      rcases v4 with q | q
      · by_cases p : 0 < (b.1 0 7).toInt
        · have ck : CK a b := by
            rcases h with h | h
            · exact h.2.1
            · exact h.2.2 p
          obtain ⟨q1, q2, q3, q4, q5⟩ := id ck
          have c5 := clE (rfl : (a.1 2 5).toInt = _) (by omega)
          by_cases w : (a.1 2 5).toInt ≤ (lo : Int)
          · exact absurd ((rng ck lo).mpr ⟨w, by omega⟩) (q.2 p lo ⟨Nat.le_refl _, hlh⟩)
          · exact absurd ((rng ck (a.1 2 5).toNatClampNeg).mpr ⟨by omega, by omega⟩) (q.2 p _ ⟨by omega, by omega⟩)
        · rw [q.1]
          have : 0 ≤ (b.1 0 7).toInt := by
            rcases h with h | h
            · exact h.2.2.1
            · exact h.2.1
          exact Int32.toInt_inj.mp (by omega)
      · exact q.1
    exact Or.inr ⟨by rw [d1, e7], by rw [e7, z0]; exact Int.le_refl _, fun w => by rw [e7, z0] at w; omega⟩
end CACHE10
