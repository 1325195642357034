theorem ld10 {y : Int64} (h : 0 ≤ y.toInt) : (y / 10).toInt = y.toInt / 10 := by
  rw [Int64.toInt_div_of_ne_left _ _ (by intro q; rw [q] at h; exact absurd h (by decide))]
  rw [show (10 : Int64).toInt = 10 from by decide, Int.tdiv_eq_ediv_of_nonneg h]
theorem lneg {x : Int32} : (-x.toInt64).toInt = -x.toInt := by
  have h := tB x
  rw [Int64.toInt_neg, Int32.toInt_toInt64, Int.bmod_def]
  split <;> omega
theorem sX12_digits {N : Nat} (hN : 4294967400 ≤ N) {x0 : Int32} {Q : Int32 → St → Prop} {σ0 σ : St} (hσ : K2 σ0 σ) (hQ : ∀ r : Int32, True → Q r σ) : fX12_digits N x0 Q σ := by
  have hb := tB x0
  have key : ∀ (t : Int64) (n0 : Int32), 0 ≤ t.toInt → t.toInt ≤ 2147483648 → lo2 (fX12_digits_l23 N Q) N t n0 σ := by
    intro t n0 h1 h2
    refine lo2_i (fun (y : Int64) (_ : Int32) (τ : St) => σ = τ ∧ 0 ≤ y.toInt) (fun y _ _ => y.toInt.toNat) ?_ N t n0 σ ⟨rfl, h1⟩ (by (try dsimp only); omega)
    intro rr y z τ hI ih
    obtain ⟨e, hy⟩ := hI
    subst e
    unfold fX12_digits_l23
    refine ⟨fun _ => hQ _ trivial, fun c => ?_⟩
    have f := (notltE64 (rfl : y.toInt = y.toInt) (show (10 : Int64).toInt = 10 from by decide)).mp c
    intro v ev u eu
    have f2 : v.toInt = y.toInt / 10 := by rw [ev]; exact ld10 hy
    exact ih v u σ ⟨rfl, by omega⟩ (by (try dsimp only); omega)
  unfold fX12_digits
  refine ⟨fun c => ?_, fun c => ?_⟩
  · have f := (leE (show (0 : Int32).toInt = 0 from by decide) (rfl : x0.toInt = x0.toInt)).mp c
    have f2 : x0.toInt64.toInt = x0.toInt := i2lE rfl
    unfold fX12_digits_j12 fX12_digits_j22
    exact ⟨fun _ => key _ _ (by omega) (by omega), fun _ => key _ _ (by omega) (by omega)⟩
  · have f := (notleE (show (0 : Int32).toInt = 0 from by decide) (rfl : x0.toInt = x0.toInt)).mp c
    have f2 := lneg (x := x0)
    unfold fX12_digits_j12 fX12_digits_j22
    exact ⟨fun _ => key _ _ (by omega) (by omega), fun _ => key _ _ (by omega) (by omega)⟩
theorem sX12_digit {N : Nat} (hN : 4294967400 ≤ N) {x0 x1 : Int32} {Q : Int32 → St → Prop} {σ0 σ : St} (hσ : K2 σ0 σ) (hQ : ∀ r : Int32, True → Q r σ) : fX12_digit N x0 x1 Q σ := by
  have key : ∀ t : Int64, fX12_digit_j23 N x0 x1 t Q σ := by
    intro t
    unfold fX12_digit_j23
    refine sX12_digits hN hσ (fun r _ => ?_)
    intro v ev
    have z0 : (0 : Int32).toInt = 0 := by decide
    refine lo2_i (fun (_ : Int64) (z : Int32) (τ : St) => σ = τ ∧ 0 ≤ z.toInt) (fun _ z _ => (2147483648 - z.toInt).toNat) ?_ N t 0 σ ⟨rfl, by decide⟩ (by (try dsimp only); omega)
    intro rr y z τ hI ih
    obtain ⟨e, hz⟩ := hI
    subst e
    unfold fX12_digit_l37
    refine ⟨fun _ => hQ _ trivial, fun c => ?_⟩
    have f := (notleE (rfl : v.toInt = v.toInt) (rfl : z.toInt = z.toInt)).mp c
    have f3 := tB v
    intro u eu u2 eu2
    have f2 : u2.toInt = z.toInt + 1 := (congrArg Int32.toInt eu2).trans (aOkE rfl (show (1 : Int32).toInt = 1 from by decide) (by omega) (by omega))
    exact ih u u2 σ ⟨rfl, by omega⟩ (by (try dsimp only); omega)
  have key2 : fX12_digit_j11 N x0 x1 Q σ := ⟨fun _ => key _, fun _ => key _⟩
  exact ⟨fun _ => key2, fun _ => ⟨fun _ => hQ _ trivial, fun _ => key2⟩⟩
