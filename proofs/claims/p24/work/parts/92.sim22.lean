section SIM22
variable {b : St} {N : Nat}
/-- where a node ends: nothing is changed -/
theorem s_endOf (hN : 4294967400 ≤ N) {x : Int32} {y : Int64} (x0 : 0 ≤ x.toInt) (xm : x.toInt ≤ 4095) (y0 : 0 ≤ y.toInt) (ym : y.toInt ≤ 4096) {Q : Int64 → St → Prop} (hQ : ∀ r : Int64, (b.1 1 x.toNatClampNeg = 0 → r.toInt = x.toInt + 9) → Q r b) : fX12_endOf N x y Q b := by
  have z1L : (1 : Int64).toInt = 1 := by decide
  have z4L : (4 : Int64).toInt = 4 := by decide
  have z5L : (5 : Int64).toInt = 5 := by decide
  have z9L : (9 : Int64).toInt = 9 := by decide
  have e64 : x.toInt64.toInt = x.toInt := i2lE rfl
  have f1 : (x.toInt64 + 1).toInt = x.toInt + 1 := aOkE64 e64 z1L (by omega) (by omega)
  have f5 : (x.toInt64 + 5).toInt = x.toInt + 5 := aOkE64 e64 z5L (by omega) (by omega)
  have f9 : (x.toInt64 + 9).toInt = x.toInt + 9 := aOkE64 e64 z9L (by omega) (by omega)
  unfold fX12_endOf
  refine ⟨inE (rfl : x.toInt = x.toInt) (by omega) (by omega), fun v2 e2 v3 e3 => ?_⟩
  have fv3 : v3.toInt = x.toInt + 1 := by rw [e3]; exact f1
  have any : ∀ w : Int32, v2 = w → w ≠ 0 → ∀ r : Int64, Q r b := fun w ew nw r => hQ r (fun q => absurd (ew.symm.trans (e2.trans q)) nw)
  refine ⟨fun q => ?_, fun _ => ⟨fun q => ?_, fun _ => ⟨fun q => ?_, fun _ => ⟨fun q => ?_, fun _ => ⟨fun _ => hQ _ (fun _ => f9), fun q0 => ?_⟩⟩⟩⟩⟩
  · have a3 := any 3 q (by decide)
    refine lo1_i (fun (u : Int64) (τ : St) => τ = b ∧ 0 ≤ u.toInt ∧ u.toInt ≤ 4100) (fun u _ => (4200 - u.toInt).toNat) ?_ N v3 b ⟨rfl, by omega, by omega⟩ (by show (4200 - v3.toInt).toNat < N; omega)
    intro rr u τ hI ih
    obtain ⟨e, u0, um⟩ := hI
    subst e
    unfold fX12_endOf_l20 fX12_endOf_j47
    refine ⟨fun _ => a3 _, fun c => ?_⟩
    have c' := (notleE64 (rfl : y.toInt = y.toInt) (rfl : u.toInt = u.toInt)).mp c
    have e32 : u.toInt32.toInt = u.toInt := l2iE rfl (by omega) (by omega)
    refine ⟨inE e32 (by omega) (by omega), fun _ => a3 _, fun _ w ew => ?_⟩
    have fw : w.toInt = u.toInt + 1 := (congrArg Int64.toInt ew).trans (aOkE64 rfl z1L (by omega) (by omega))
    exact ih w τ ⟨rfl, by omega, by omega⟩ (by show (4200 - w.toInt).toNat < (4200 - u.toInt).toNat; omega)
  · have a5 := any 5 q (by decide)
    refine lo1_i (fun (u : Int64) (τ : St) => τ = b ∧ 0 ≤ u.toInt ∧ u.toInt ≤ 4100) (fun u _ => (4200 - u.toInt).toNat) ?_ N v3 b ⟨rfl, by omega, by omega⟩ (by show (4200 - v3.toInt).toNat < N; omega)
    intro rr u τ hI ih
    obtain ⟨e, u0, um⟩ := hI
    subst e
    unfold fX12_endOf_l58 fX12_endOf_j89
    have fu : (u + 4).toInt = u.toInt + 4 := aOkE64 rfl z4L (by omega) (by omega)
    refine ⟨fun _ => a5 _, fun c => ?_⟩
    have c' := (notltE64 (rfl : y.toInt = y.toInt) fu).mp c
    refine r_four hN ?_
    rw [(f4_in (b := τ) (y := u) (by omega) (by omega)).1]
    refine ⟨fun _ => a5 _, fun _ w ew => ?_⟩
    have fw : w.toInt = u.toInt + 4 := (congrArg Int64.toInt ew).trans fu
    exact ih w τ ⟨rfl, by omega, by omega⟩ (by show (4200 - w.toInt).toNat < (4200 - u.toInt).toNat; omega)
  · have aA := any 10 q (by decide)
    unfold fX12_endOf_j110 fX12_endOf_j170
    refine ⟨fun c => r_four hN ?_, fun _ => aA _⟩
    have c' := (leE64 f9 (rfl : y.toInt = y.toInt)).mp c
    rw [(f4_in (b := b) (y := x.toInt64 + 5) (by omega) (by omega)).1]
    unfold fX12_in
    exact ⟨fun _ => ⟨fun _ => aA _, fun _ => aA _⟩, fun _ => ⟨fun _ => ⟨fun _ => aA _, fun _ => aA _⟩, fun _ => ⟨fun _ => aA _, fun _ => aA _⟩⟩⟩
  · have aA := any 11 q (by decide)
    unfold fX12_endOf_j110 fX12_endOf_j170
    refine ⟨fun c => r_four hN ?_, fun _ => aA _⟩
    have c' := (leE64 f9 (rfl : y.toInt = y.toInt)).mp c
    rw [(f4_in (b := b) (y := x.toInt64 + 5) (by omega) (by omega)).1]
    unfold fX12_in
    exact ⟨fun _ => ⟨fun _ => aA _, fun _ => aA _⟩, fun _ => ⟨fun _ => ⟨fun _ => aA _, fun _ => aA _⟩, fun _ => ⟨fun _ => aA _, fun _ => aA _⟩⟩⟩
  · have a0 : ∀ r : Int64, Q r b := fun r => hQ r (fun q => absurd (e2.trans q) q0)
    unfold fX12_endOf_j230
    exact ⟨fun _ => a0 _, fun _ => ⟨fun _ => a0 _, fun _ => ⟨fun _ => a0 _, fun _ => ⟨fun _ => a0 _, fun _ => ⟨fun _ => a0 _, fun _ => a0 _⟩⟩⟩⟩⟩
end SIM22
