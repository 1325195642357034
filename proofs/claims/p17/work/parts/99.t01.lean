section CACHE1
/-- a number of four bytes -/
def f4M (M : Nat → Int32) (x : Nat) : Int32 := ((((M x) <<< (24 &&& 31)) ||| ((M (x + 1)) <<< (16 &&& 31))) ||| ((M (x + 2)) <<< (8 &&& 31))) ||| (M (x + 3))
def agN (r : Int32) : Int := if 0 ≤ r.toInt ∧ r.toInt ≤ 4 then 4 * r.toInt else 0
/-- a node lies whole ahead of T -/
def Wh (M : Nat → Int32) (T x : Nat) : Prop :=
  (M x = 0 ∧ x + 9 ≤ T) ∨ (M x = 1) ∨ (M x = 2 ∧ x + 2 ≤ T) ∨ (M x = 3 ∧ ∃ p : Nat, x + 1 ≤ p ∧ p < T ∧ M p = 0) ∨ ((M x = 4 ∨ M x = 8 ∨ M x = 9) ∧ x + 5 ≤ T) ∨ (M x = 5 ∧ ∃ j : Nat, x + 1 + 4 * j + 4 ≤ T ∧ f4M M (x + 1 + 4 * j) = 0) ∨ ((M x = 10 ∨ M x = 11) ∧ x + 9 ≤ T ∧ (x : Int) + 9 + agN (f4M M (x + 5)) ≤ T)
/-- an address of a node in the tree -/
def Gd (M : Nat → Int32) (F T : Nat) (y : Int32) : Prop := (F : Int) ≤ y.toInt ∧ y.toInt < T ∧ Wh M T y.toNatClampNeg
/-- closed under what leads on -/
def Cl (M : Nat → Int32) (F T : Nat) (S : Nat → Prop) : Prop := (Gd M F T (f4M M (F + 8)) → S (f4M M (F + 8)).toNatClampNeg) ∧ ∀ x : Nat, F ≤ x → x < T → Wh M T x → M x = 0 → S x → (Gd M F T (f4M M (x + 1)) → S (f4M M (x + 1)).toNatClampNeg) ∧ (Gd M F T (f4M M (x + 5)) → S (f4M M (x + 5)).toNatClampNeg)
/-- so many nodes -/
def NC (M : Nat → Int32) (F T n : Nat) : Prop := ∃ g : Nat → Int32, n = cnt g 4096 ∧ (∀ x : Nat, g x ≠ 0 → F ≤ x ∧ x < T ∧ Wh M T x) ∧ Cl M F T (fun x => g x ≠ 0) ∧ ∀ S : Nat → Prop, Cl M F T S → ∀ x : Nat, g x ≠ 0 → S x
theorem cnt_iff {f g : Nat → Int32} : ∀ n : Nat, (∀ i : Nat, i < n → (f i = 0 ↔ g i = 0)) → cnt f n = cnt g n
  | 0, _ => rfl
  | n + 1, h => by
    show cnt f n + (if f n = 0 then 0 else 1) = cnt g n + (if g n = 0 then 0 else 1)
    rw [cnt_iff n (fun i hi => h i (by omega))]
    by_cases c : f n = 0
    · rw [if_pos c, if_pos ((h n (by omega)).mp c)]
    · rw [if_neg c, if_neg (fun z => c ((h n (by omega)).mpr z))]
theorem NC.uq {M : Nat → Int32} {F T n m : Nat} (h1 : NC M F T n) (h2 : NC M F T m) : n = m := by
  obtain ⟨g, a1, a2, a3, a4⟩ := h1
  obtain ⟨k, b1, b2, b3, b4⟩ := h2
  rw [a1, b1]
  refine cnt_iff 4096 (fun i _ => ⟨fun q => ?_, fun q => ?_⟩)
  · by_cases c : k i = 0
    · exact c
    · exact absurd q (b4 _ a3 i c)
  · by_cases c : g i = 0
    · exact c
    · exact absurd q (a4 _ b3 i c)
theorem f4M_ext {M M' : Nat → Int32} {x : Nat} (h : ∀ i : Nat, x ≤ i → i < x + 4 → M' i = M i) : f4M M' x = f4M M x := by
  unfold f4M
  rw [h x (by omega) (by omega), h (x + 1) (by omega) (by omega), h (x + 2) (by omega) (by omega), h (x + 3) (by omega) (by omega)]
theorem Wh.ext {M M' : Nat → Int32} {T x : Nat} (hx : x < T) (h : ∀ i : Nat, x ≤ i → i < T → M' i = M i) : Wh M T x → Wh M' T x := by
  have e := h x (by omega) hx
  unfold Wh
  rw [e]
  rintro (w | w | w | ⟨w, p, p1, p2, p3⟩ | w | ⟨w, j, j1, j2⟩ | ⟨w, w2, w3⟩)
  · exact Or.inl w
  · exact Or.inr (Or.inl w)
  · exact Or.inr (Or.inr (Or.inl w))
  · exact Or.inr (Or.inr (Or.inr (Or.inl ⟨w, p, p1, p2, by rw [h p (by omega) p2]; exact p3⟩)))
  · exact Or.inr (Or.inr (Or.inr (Or.inr (Or.inl w))))
  · exact Or.inr (Or.inr (Or.inr (Or.inr (Or.inr (Or.inl ⟨w, j, j1, by rw [f4M_ext (fun i h1 h2 => h i (by omega) (by omega))]; exact j2⟩)))))
  · exact Or.inr (Or.inr (Or.inr (Or.inr (Or.inr (Or.inr ⟨w, w2, by rw [f4M_ext (fun i h1 h2 => h i (by omega) (by omega))]; exact w3⟩)))))
theorem Wh.br {M : Nat → Int32} {T x : Nat} (h : Wh M T x) (h0 : M x = 0) : x + 9 ≤ T := by
  unfold Wh at h
  rw [h0] at h
  rcases h with w | w | w | w | w | w | w
  · exact w.2
  · exact absurd w (by decide)
  · exact absurd w.1 (by decide)
  · exact absurd w.1 (by decide)
  · rcases w.1 with q | q | q <;> exact absurd q (by decide)
  · exact absurd w.1 (by decide)
  · rcases w.1 with q | q <;> exact absurd q (by decide)
/-- the bytes of the tree alone matter -/
theorem NC.ext {M M' : Nat → Int32} {F T n : Nat} (hF : F + 12 ≤ T) (h : ∀ i : Nat, F ≤ i → i < T → M' i = M i) (hn : NC M F T n) : NC M' F T n := by
  obtain ⟨g, a1, a2, a3, a4⟩ := hn
  have h' : ∀ i : Nat, F ≤ i → i < T → M i = M' i := fun i q1 q2 => (h i q1 q2).symm
  have wh : ∀ x : Nat, F ≤ x → x < T → (Wh M T x ↔ Wh M' T x) := fun x q1 q2 => ⟨Wh.ext q2 (fun i r1 r2 => h i (by omega) r2), Wh.ext q2 (fun i r1 r2 => h' i (by omega) r2)⟩
  have gd : ∀ y : Int32, Gd M F T y ↔ Gd M' F T y := by
    intro y
    unfold Gd
    refine ⟨fun w => ⟨w.1, w.2.1, ?_⟩, fun w => ⟨w.1, w.2.1, ?_⟩⟩
    · have := clE (rfl : y.toInt = _) (by omega)
      exact (wh _ (by omega) (by omega)).mp w.2.2
    · have := clE (rfl : y.toInt = _) (by omega)
      exact (wh _ (by omega) (by omega)).mpr w.2.2
  have r8 : f4M M' (F + 8) = f4M M (F + 8) := f4M_ext (fun i q1 q2 => h i (by omega) (by omega))
  have cl : ∀ S : Nat → Prop, Cl M F T S ↔ Cl M' F T S := by
    intro S
    unfold Cl
    rw [r8]
    refine ⟨fun w => ⟨fun q => w.1 ((gd _).mpr q), fun x x1 x2 x3 x4 x5 => ?_⟩, fun w => ⟨fun q => w.1 ((gd _).mp q), fun x x1 x2 x3 x4 x5 => ?_⟩⟩
    · have w9 := ((wh x x1 x2).mpr x3).br (by rw [← h x x1 x2]; exact x4)
      rw [f4M_ext (M := M) (M' := M') (x := x + 1) (fun i q1 q2 => h i (by omega) (by omega)), f4M_ext (M := M) (M' := M') (x := x + 5) (fun i q1 q2 => h i (by omega) (by omega))]
      have := w.2 x x1 x2 ((wh x x1 x2).mpr x3) (by rw [← h x x1 x2]; exact x4) x5
      exact ⟨fun q => this.1 ((gd _).mpr q), fun q => this.2 ((gd _).mpr q)⟩
    · have w9 := x3.br x4
      have := w.2 x x1 x2 ((wh x x1 x2).mp x3) (by rw [h x x1 x2]; exact x4) x5
      rw [f4M_ext (M := M) (M' := M') (x := x + 1) (fun i q1 q2 => h i (by omega) (by omega)), f4M_ext (M := M) (M' := M') (x := x + 5) (fun i q1 q2 => h i (by omega) (by omega))] at this
      exact ⟨fun q => this.1 ((gd _).mp q), fun q => this.2 ((gd _).mp q)⟩
  exact ⟨g, a1, fun x q => ⟨(a2 x q).1, (a2 x q).2.1, (wh x (a2 x q).1 (a2 x q).2.1).mp (a2 x q).2.2⟩, (cl _).mp a3, fun S q => a4 S ((cl S).mpr q)⟩
end CACHE1
