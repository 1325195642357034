section SIM14
variable {X : St → St → Prop} {a b a' b' : St} {j N : Nat} {x : Int32} {Q1 : St → Prop}
theorem dgN_lt {n : Nat} (h : n < 10) : dgN n = 1 := by rw [dgN]; exact if_pos h
theorem dgN_ge {n : Nat} (h : ¬ n < 10) : dgN n = dgN (n / 10) + 1 := by rw [dgN]; exact if_neg h
theorem dgN_le : ∀ k n : Nat, n < 10 ^ (k + 1) → dgN n ≤ k + 1 := by
  intro k
  induction k with
  | zero => intro n h; rw [dgN_lt (by omega)]; omega
  | succ k ih =>
    intro n h
    by_cases c : n < 10
    · rw [dgN_lt c]; omega
    · rw [dgN_ge c]
      have := ih (n / 10) (Nat.div_lt_of_lt_mul (by rw [Nat.pow_succ] at h; omega))
      omega
def dgg (n : Nat) : Nat := if n = 0 then 0 else dgN n
theorem dgg_step {n : Nat} (h : n ≠ 0) : dgg n = dgg (n / 10) + 1 := by
  unfold dgg
  rw [if_neg h]
  by_cases c : n < 10
  · rw [dgN_lt c, if_pos (by omega)]
  · rw [dgN_ge c, if_neg (by omega)]
theorem dgN_g (n : Nat) : dgN n = 1 + dgg (n / 10) := by
  by_cases c : n = 0
  · rw [c, dgN_lt (by omega)]
    rfl
  · have := dgg_step c
    unfold dgg at *
    rw [if_neg c] at this
    omega
theorem c_digitCount (hN : 4294967400 ≤ N) {x0 : Int64} (h0 : 0 ≤ x0.toInt) (h1 : x0.toInt ≤ 2147483648) {Q : Int32 → St → Prop} (hQ : ∀ r : Int32, r.toInt = (dgN x0.toInt.toNat : Int) → Q r a) : fX2_digitCount N x0 Q a := by
  have z0L : (0 : Int64).toInt = 0 := by decide
  have z20 : (20 : Int32).toInt = 20 := by decide
  have z1 : (1 : Int32).toInt = 1 := by decide
  have le10 : dgN x0.toInt.toNat ≤ 10 := dgN_le 9 _ (by omega)
  unfold fX2_digitCount
  intro v ev
  have fv : v.toInt = x0.toInt / 10 := (congrArg Int64.toInt ev).trans (ld10 h0)
  refine lo2_i (fun (u : Int32) (y : Int64) (τ : St) => τ = a ∧ 0 ≤ y.toInt ∧ 1 ≤ u.toInt ∧ u.toInt + (dgg y.toInt.toNat : Int) = (dgN x0.toInt.toNat : Int)) (fun _ y _ => y.toInt.toNat) ?_ N 1 v a ⟨rfl, by omega, by decide, ?_⟩ (by show v.toInt.toNat < N; omega)
  · intro rr u y τ hI ih
    obtain ⟨e, hy, hu, hs⟩ := hI
    subst e
    unfold fX2_digitCount_l8
    refine ⟨fun c => ?_, fun c => ⟨fun c2 => ?_, fun c2 v4 e4 v5 e5 => ?_⟩⟩
    · have := (leE64 (rfl : y.toInt = y.toInt) z0L).mp c
      have ey : y.toInt.toNat = 0 := by omega
      rw [ey] at hs
      have : dgg 0 = 0 := rfl
      exact hQ u (by omega)
    · have := (leE z20 (rfl : u.toInt = u.toInt)).mp c2
      omega
    · have c' := (notleE64 (rfl : y.toInt = y.toInt) z0L).mp c
      have c2' := (notleE z20 (rfl : u.toInt = u.toInt)).mp c2
      have f4 : v4.toInt = y.toInt / 10 := (congrArg Int64.toInt e4).trans (ld10 hy)
      have f5 : v5.toInt = u.toInt + 1 := (congrArg Int32.toInt e5).trans (aOkE rfl z1 (by omega) (by omega))
      have st := dgg_step (n := y.toInt.toNat) (by omega)
      refine ih v5 v4 τ ⟨rfl, by omega, by omega, ?_⟩ (by show v4.toInt.toNat < y.toInt.toNat; omega)
      rw [show v4.toInt.toNat = y.toInt.toNat / 10 by omega]
      omega
  · have := dgN_g x0.toInt.toNat
    rw [show v.toInt.toNat = x0.toInt.toNat / 10 by omega, z1]
    omega
theorem r_digitsL (hN : 4294967400 ≤ N) {x1 : Int64} {t0 : Int32} (h0 : 0 ≤ x1.toInt) (h1 : x1.toInt ≤ 2147483648) (ht : 1 ≤ t0.toInt ∧ t0.toInt ≤ 2) {Q : Int32 → St → Prop} (hQ : ∀ r : Int32, r.toInt = t0.toInt - 1 + (dgN x1.toInt.toNat : Int) → Q r b) : fX12_digits_j22 N x1 t0 Q b := by
  have z10 : (10 : Int64).toInt = 10 := by decide
  have z1 : (1 : Int32).toInt = 1 := by decide
  have le10 : dgN x1.toInt.toNat ≤ 10 := dgN_le 9 _ (by omega)
  unfold fX12_digits_j22
  refine lo2_i (fun (y : Int64) (u : Int32) (τ : St) => τ = b ∧ 0 ≤ y.toInt ∧ 1 ≤ u.toInt ∧ u.toInt + (dgN y.toInt.toNat : Int) = t0.toInt + (dgN x1.toInt.toNat : Int)) (fun y _ _ => y.toInt.toNat) ?_ N x1 t0 b ⟨rfl, h0, ht.1, rfl⟩ (by show x1.toInt.toNat < N; omega)
  intro rr y u τ hI ih
  obtain ⟨e, hy, hu, hs⟩ := hI
  subst e
  unfold fX12_digits_l23
  refine ⟨fun c => ?_, fun c v4 e4 v5 e5 => ?_⟩
  · have := (ltE64 (rfl : y.toInt = y.toInt) z10).mp c
    have d1 := dgN_lt (n := y.toInt.toNat) (by omega)
    exact hQ u (by omega)
  · have c' := (notltE64 (rfl : y.toInt = y.toInt) z10).mp c
    have f4 : v4.toInt = y.toInt / 10 := (congrArg Int64.toInt e4).trans (ld10 hy)
    have f5 : v5.toInt = u.toInt + 1 := (congrArg Int32.toInt e5).trans (aOkE rfl z1 (by omega) (by omega))
    have st := dgN_ge (n := y.toInt.toNat) (by omega)
    refine ih v4 v5 τ ⟨rfl, by omega, by omega, ?_⟩ (by show v4.toInt.toNat < y.toInt.toNat; omega)
    rw [show v4.toInt.toNat = y.toInt.toNat / 10 by omega]
    omega
theorem neg64 {p : Int32} : (-p.toInt64).toInt = -p.toInt := by
  have bp := tB p
  rw [Int64.toInt_neg, i2lE rfl, Int.bmod_def]
  split <;> omega
theorem r_digits (hN : 4294967400 ≤ N) {p : Int32} {Q : Int32 → St → Prop} (hQ : ∀ r : Int32, r.toInt = dgs p → Q r b) : fX12_digits N p Q b := by
  have z0 : (0 : Int32).toInt = 0 := by decide
  have z1 : (1 : Int32).toInt = 1 := by decide
  have z2 : (2 : Int32).toInt = 2 := by decide
  have bp := tB p
  have e64 : p.toInt64.toInt = p.toInt := i2lE rfl
  unfold fX12_digits fX12_digits_j12
  unfold dgs at hQ
  refine ⟨fun c => ⟨fun _ => ?_, fun q => absurd c q⟩, fun c => ⟨fun q => absurd q c, fun _ => ?_⟩⟩
  · have c' := (leE z0 (rfl : p.toInt = p.toInt)).mp c
    refine r_digitsL hN (by omega) (by omega) (by omega) (fun r hr => hQ r ?_)
    rw [if_neg (by omega), hr, show p.toInt64.toInt.toNat = p.toInt.natAbs by omega]
    omega
  · have c' := (notleE z0 (rfl : p.toInt = p.toInt)).mp c
    have en := neg64 (p := p)
    refine r_digitsL hN (by omega) (by omega) (by omega) (fun r hr => hQ r ?_)
    rw [if_pos (by omega), hr, show (-p.toInt64).toInt.toNat = p.toInt.natAbs by omega]
    omega
/-- a tenth, so often -/
def dvn : Nat → Int64 → Int64
  | 0, y => y
  | m + 1, y => dvn m (y / 10)
theorem c_l100 {x5 : Int32} {Q : St → Prop} : ∀ (m K : Nat) (y : Int64) (i : Int32), x5.toInt - i.toInt = (m : Int) → m < K → fX2_give N (48 + ((dvn m y - dvn m y / 10 * 10).toInt32)) (fun σ => Q σ) a → lo2 (fX2_stepNumber_l100 N x5 Q) K y i a := by
  have z1 : (1 : Int32).toInt = 1 := by decide
  intro m
  induction m with
  | zero =>
    intro K y i hm hK z
    obtain ⟨K', rfl⟩ : ∃ K' : Nat, K = K' + 1 := ⟨K - 1, by omega⟩
    refine ⟨fun _ => z, fun q => ?_⟩
    have := (notleE (rfl : x5.toInt = x5.toInt) (rfl : i.toInt = i.toInt)).mp q
    omega
  | succ m ih =>
    intro K y i hm hK z
    have b5 := tB x5
    have bi := tB i
    obtain ⟨K', rfl⟩ : ∃ K' : Nat, K = K' + 1 := ⟨K - 1, by omega⟩
    refine ⟨fun q => ?_, fun q v e u eu => ?_⟩
    · have := (leE (rfl : x5.toInt = x5.toInt) (rfl : i.toInt = i.toInt)).mp q
      omega
    · have f : u.toInt = i.toInt + 1 := (congrArg Int32.toInt eu).trans (aOkE rfl z1 (by omega) (by omega))
      subst e
      exact ih K' (y / 10) u (by omega) (by omega) z
theorem r_l37 {x5 : Int32} {Q : Int32 → St → Prop} : ∀ (m K : Nat) (y : Int64) (i : Int32), x5.toInt - i.toInt = (m : Int) → m < K → Q (48 + ((dvn m y - dvn m y / 10 * 10).toInt32)) b → lo2 (fX12_digit_l37 N x5 Q) K y i b := by
  have z1 : (1 : Int32).toInt = 1 := by decide
  intro m
  induction m with
  | zero =>
    intro K y i hm hK z
    obtain ⟨K', rfl⟩ : ∃ K' : Nat, K = K' + 1 := ⟨K - 1, by omega⟩
    refine ⟨fun _ => z, fun q => ?_⟩
    have := (notleE (rfl : x5.toInt = x5.toInt) (rfl : i.toInt = i.toInt)).mp q
    omega
  | succ m ih =>
    intro K y i hm hK z
    have b5 := tB x5
    have bi := tB i
    obtain ⟨K', rfl⟩ : ∃ K' : Nat, K = K' + 1 := ⟨K - 1, by omega⟩
    refine ⟨fun q => ?_, fun q v e u eu => ?_⟩
    · have := (leE (rfl : x5.toInt = x5.toInt) (rfl : i.toInt = i.toInt)).mp q
      omega
    · have f : u.toInt = i.toInt + 1 := (congrArg Int32.toInt eu).trans (aOkE rfl z1 (by omega) (by omega))
      subst e
      exact ih K' (y / 10) u (by omega) (by omega) z
/-- the bit of the uppermost job -/
theorem Ru.bt (hX : XA X) (h : Ru X a b) (hj : j < 40) {v : Int32} (hk : b.1 0 9 = 0 → b.1 6 j = 4 → 0 ≤ v.toInt ∧ v.toInt ≤ dgs (b.1 7 j)) : Ru X (u1 a (43 + j) 3 v) (u1 b 8 j v) := by
  refine h.jobs hX (fun c y q => u1e (by omega)) (fun c y q => u1e (by omega)) rfl (h.g.ua (by trivial) (by decide)) (fun h0 y hy => ?_)
  rw [u1e (by omega)] at hy
  have d40 := h.d40
  have Jy := h.j h0 y hy
  by_cases ey : y = j
  · subst ey
    refine ⟨fun f f1 f2 => ?_, fun i hi => ?_, ?_, fun q => ?_⟩
    · by_cases e2 : f = 3
      · subst e2
        show (u1 a (43 + y) 3 v).1 (43 + y) 3 = (u1 b 8 y v).1 8 y
        rw [u1v, u1v]
      · have n7 : jr f ≠ 8 := fun w => e2 (jr_inj f1 f2 (by omega) (by omega) (w.trans (show 8 = jr 3 from rfl)))
        rw [u1e (by omega), u1e (by omega)]
        exact Jy.1 f f1 f2
    · rw [u1e (by omega)] at hi
      rw [u1e (by omega), u1e (by omega)]
      exact Jy.2.1 i hi
    · rw [u1e (by omega)]
      exact Jy.2.2.1
    · rw [u1e (by omega)] at q
      rw [u1v, u1e (by omega)]
      exact hk h0 q
  · exact Jy.ext (fun f => u1e (by omega)) (fun i => u1e (by omega)) (fun c c1 c2 c3 => u1e (by omega)) (fun i _ => u1e (by omega)) (g2_9 h.g y).2
end SIM14
