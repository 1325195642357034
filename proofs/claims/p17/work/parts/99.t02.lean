section CACHE2
variable {b : St} {N : Nat}
theorem f4_M {y : Int64} {x : Nat} (e : y.toInt = x) (h2 : x ≤ 4092) : f4s b y = b ∧ f4v b y = f4M (b.1 1) x := by
  have h := f4_in (b := b) (y := y) (by omega) (by omega)
  refine ⟨h.1, ?_⟩
  rw [h.2, four_eq, show y.toInt.toNat = x by omega]
  rfl
/-- where a node ends: whole or not -/
theorem e_endOf (hN : 4294967400 ≤ N) {x : Int32} {y : Int64} {k T : Nat} (ex : x.toInt = k) (ey : y.toInt = T) (hk : k < T) (hT : T ≤ 4096) {Q : Int64 → St → Prop} (hQ : ∀ r : Int64, ((¬ r ≤ 0 ∧ ¬ y < r) ↔ Wh (b.1 1) T k) → Q r b) : fX12_endOf N x y Q b := by
  have z0L : (0 : Int64).toInt = 0 := by decide
  have z1L : (1 : Int64).toInt = 1 := by decide
  have z4L : (4 : Int64).toInt = 4 := by decide
  have z5L : (5 : Int64).toInt = 5 := by decide
  have z9L : (9 : Int64).toInt = 9 := by decide
  have e64 : x.toInt64.toInt = k := i2lE ex
  have ck : x.toNatClampNeg = k := by have := clE ex (by omega); omega
  have f1 : (x.toInt64 + 1).toInt = (k : Int) + 1 := aOkE64 e64 z1L (by omega) (by omega)
  have f5 : (x.toInt64 + 5).toInt = (k : Int) + 5 := aOkE64 e64 z5L (by omega) (by omega)
  have f9 : (x.toInt64 + 9).toInt = (k : Int) + 9 := aOkE64 e64 z9L (by omega) (by omega)
  have key : ∀ (r : Int64) (R : Int), r.toInt = R → ((0 < R ∧ R ≤ T) ↔ Wh (b.1 1) T k) → Q r b := by
    intro r R er hw
    refine hQ r (Iff.trans ⟨fun q => ?_, fun q => ?_⟩ hw)
    · have q1 := (notleE64 er z0L).mp q.1
      have q2 := (notltE64 ey er).mp q.2
      omega
    · exact ⟨(notleE64 er z0L).mpr (by omega), (notltE64 ey er).mpr (by omega)⟩
  unfold fX12_endOf
  rw [ck]
  refine ⟨inE ex (by omega) (by omega), fun v2 e2 v3 e3 => ?_⟩
  have fv3 : v3.toInt = (k : Int) + 1 := by rw [e3]; exact f1
  rw [e2]
  have whI : ∀ {c : Int32}, b.1 1 k = c → ∀ P : Prop, (Wh (b.1 1) T k ↔ ((c = 0 ∧ k + 9 ≤ T) ∨ (c = 1) ∨ (c = 2 ∧ k + 2 ≤ T) ∨ (c = 3 ∧ ∃ p : Nat, k + 1 ≤ p ∧ p < T ∧ b.1 1 p = 0) ∨ ((c = 4 ∨ c = 8 ∨ c = 9) ∧ k + 5 ≤ T) ∨ (c = 5 ∧ ∃ j : Nat, k + 1 + 4 * j + 4 ≤ T ∧ f4M (b.1 1) (k + 1 + 4 * j) = 0) ∨ ((c = 10 ∨ c = 11) ∧ k + 9 ≤ T ∧ (k : Int) + 9 + agN (f4M (b.1 1) (k + 5)) ≤ T))) := fun h _ => by unfold Wh; rw [h]
  have j110 : ∀ c : Int32, (c = 10 ∨ c = 11) → b.1 1 k = c → fX12_endOf_j110 N x y Q b := by
    intro c hc h
    have w : Wh (b.1 1) T k ↔ (k + 9 ≤ T ∧ (k : Int) + 9 + agN (f4M (b.1 1) (k + 5)) ≤ T) := by
      rw [whI h True]
      rcases hc with q | q <;> rw [q] <;> simp
    unfold fX12_endOf_j110 fX12_endOf_j170
    refine ⟨fun c1 => r_four hN ?_, fun c1 => key _ _ f9 (Iff.trans ?_ w.symm)⟩
    · have c' := (leE64 f9 ey).mp c1
      have f4 := f4_M (b := b) (y := x.toInt64 + 5) (x := k + 5) (by rw [f5]; omega) (by omega)
      rw [f4.1, f4.2]
      obtain ⟨q, hq⟩ : ∃ q : Int32, f4M (b.1 1) (k + 5) = q := ⟨_, rfl⟩
      rw [hq] at w ⊢
      have bq := tB q
      have e4q : (4 * q.toInt64).toInt = 4 * q.toInt := mOkE64 z4L (i2lE rfl) (by omega) (by omega)
      have z4 : (4 : Int64).toInt = 4 := by decide
      unfold fX12_in
      refine ⟨fun d => ⟨fun _ => key _ ((k : Int) + 9 + 0) (aOkE64 f9 z0L (by omega) (by omega)) (Iff.trans ?_ w.symm), fun z => absurd rfl z⟩, fun d => ⟨fun d2 => ⟨fun _ => key _ ((k : Int) + 9 + 0) (aOkE64 f9 z0L (by omega) (by omega)) (Iff.trans ?_ w.symm), fun z => absurd rfl z⟩, fun d2 => ⟨fun z => absurd z (by decide), fun _ => key _ ((k : Int) + 9 + 4 * q.toInt) (aOkE64 f9 e4q (by omega) (by omega)) (Iff.trans ?_ w.symm)⟩⟩⟩
      · have := (ltE64 (i2lE (rfl : q.toInt = _)) z0L).mp d
        unfold agN
        rw [if_neg (by omega)]
        omega
      · have := (ltE64 z4 (i2lE (rfl : q.toInt = _))).mp d2
        unfold agN
        rw [if_neg (by omega)]
        omega
      · have := (notltE64 (i2lE (rfl : q.toInt = _)) z0L).mp d
        have := (notltE64 z4 (i2lE (rfl : q.toInt = _))).mp d2
        unfold agN
        rw [if_pos (by omega)]
        omega
    · have c' := (notleE64 f9 ey).mp c1
      omega
  have j230 : ∀ c : Int32, (c = 4 ∨ c = 8 ∨ c = 9) → b.1 1 k = c → fX12_endOf_j230 N x Q b := by
    intro c hc h
    have w : Wh (b.1 1) T k ↔ (k + 5 ≤ T) := by
      rw [whI h True]
      rcases hc with q | q | q <;> rw [q] <;> simp
    exact key _ _ f5 (Iff.trans (by omega) w.symm)
  refine ⟨fun c => ?_, fun n3 => ⟨fun c => ?_, fun n5 => ⟨fun c => j110 10 (Or.inl rfl) c, fun n10 => ⟨fun c => j110 11 (Or.inr rfl) c, fun n11 => ⟨fun c => ?_, fun n0 => ⟨fun c => ?_, fun n1 => ⟨fun c => ?_, fun n2 => ⟨fun c => j230 4 (Or.inl rfl) c, fun n4 => ⟨fun c => j230 8 (Or.inr (Or.inl rfl)) c, fun n8 => ⟨fun c => j230 9 (Or.inr (Or.inr rfl)) c, fun n9 => ?_⟩⟩⟩⟩⟩⟩⟩⟩⟩⟩
  · have w : Wh (b.1 1) T k ↔ ∃ p : Nat, k + 1 ≤ p ∧ p < T ∧ b.1 1 p = 0 := by
      rw [whI c True]
      simp
    refine lo1_i (fun (u : Int64) (τ : St) => τ = b ∧ (k : Int) + 1 ≤ u.toInt ∧ u.toInt ≤ T ∧ ∀ p : Nat, k + 1 ≤ p → (p : Int) < u.toInt → b.1 1 p ≠ 0) (fun u _ => ((T : Int) - u.toInt).toNat) ?_ N v3 b ⟨rfl, by omega, by omega, fun p p1 p2 => absurd p2 (by omega)⟩ (by show ((T : Int) - v3.toInt).toNat < N; omega)
    intro rr u τ hI ih
    obtain ⟨e, u0, um, u3⟩ := hI
    subst e
    unfold fX12_endOf_l20 fX12_endOf_j47
    have fu : (u + 1).toInt = u.toInt + 1 := aOkE64 rfl z1L (by omega) (by omega)
    refine ⟨fun c1 => key _ _ fu (Iff.trans ⟨fun q => ?_, fun q => ?_⟩ w.symm), fun c1 => ?_⟩
    · have := (leE64 ey (rfl : u.toInt = _)).mp c1
      omega
    · have := (leE64 ey (rfl : u.toInt = _)).mp c1
      obtain ⟨p, p1, p2, p3⟩ := q
      exact absurd p3 (u3 p p1 (by omega))
    have c' := (notleE64 ey (rfl : u.toInt = u.toInt)).mp c1
    have e32 : u.toInt32.toInt = u.toInt := l2iE rfl (by omega) (by omega)
    have c32 := clE e32 (by omega)
    refine ⟨inE e32 (by omega) (by omega), fun c2 => key _ _ fu (Iff.trans ⟨fun _ => ⟨u.toInt32.toNatClampNeg, by omega, by omega, c2⟩, fun _ => by omega⟩ w.symm), fun c2 w1 ew => ?_⟩
    have fw : w1.toInt = u.toInt + 1 := (congrArg Int64.toInt ew).trans fu
    refine ih w1 τ ⟨rfl, by omega, by omega, fun p p1 p2 => ?_⟩ (by show ((T : Int) - w1.toInt).toNat < ((T : Int) - u.toInt).toNat; omega)
    by_cases e : p = u.toInt32.toNatClampNeg
    · rw [e]; exact c2
    · exact u3 p p1 (by omega)
  · have w : Wh (b.1 1) T k ↔ ∃ j : Nat, k + 1 + 4 * j + 4 ≤ T ∧ f4M (b.1 1) (k + 1 + 4 * j) = 0 := by
      rw [whI c True]
      simp
    refine lo1_i (fun (u : Int64) (τ : St) => τ = b ∧ u.toInt ≤ (T : Int) + 4 ∧ ∃ j : Nat, u.toInt = (k : Int) + 1 + 4 * j ∧ ∀ i : Nat, i < j → f4M (b.1 1) (k + 1 + 4 * i) ≠ 0) (fun u _ => ((T : Int) + 8 - u.toInt).toNat) ?_ N v3 b ⟨rfl, by omega, 0, by omega, fun i hi => absurd hi (by omega)⟩ (by show ((T : Int) + 8 - v3.toInt).toNat < N; omega)
    intro rr u τ hI ih
    obtain ⟨e, um, j, u0, u3⟩ := hI
    subst e
    unfold fX12_endOf_l58 fX12_endOf_j89
    have fu : (u + 4).toInt = u.toInt + 4 := aOkE64 rfl z4L (by omega) (by omega)
    refine ⟨fun c1 => key _ _ fu (Iff.trans ⟨fun q => ?_, fun q => ?_⟩ w.symm), fun c1 => ?_⟩
    · have := (ltE64 ey fu).mp c1
      omega
    · have := (ltE64 ey fu).mp c1
      obtain ⟨i, p1, p2⟩ := q
      exact absurd p2 (u3 i (by omega))
    have c' := (notltE64 ey fu).mp c1
    have f4 := f4_M (b := τ) (y := u) (x := k + 1 + 4 * j) (by omega) (by omega)
    refine r_four hN ?_
    rw [f4.1, f4.2]
    refine ⟨fun c2 => key _ _ fu (Iff.trans ⟨fun _ => ⟨j, by omega, c2⟩, fun _ => by omega⟩ w.symm), fun c2 w1 ew => ?_⟩
    have fw : w1.toInt = u.toInt + 4 := (congrArg Int64.toInt ew).trans fu
    refine ih w1 τ ⟨rfl, by omega, j + 1, by omega, fun i hi => ?_⟩ (by show ((T : Int) + 8 - w1.toInt).toNat < ((T : Int) + 8 - u.toInt).toNat; omega)
    by_cases e : i = j
    · rw [e]; exact c2
    · exact u3 i (by omega)
  · have w : Wh (b.1 1) T k ↔ (k + 9 ≤ T) := by
      rw [whI c True]
      simp
    exact key _ _ f9 (Iff.trans (by omega) w.symm)
  · have w : Wh (b.1 1) T k ↔ True := by
      rw [whI c True]
      simp
    exact key _ _ fv3 (Iff.trans ⟨fun _ => trivial, fun _ => by omega⟩ w.symm)
  · have w : Wh (b.1 1) T k ↔ (k + 2 ≤ T) := by
      rw [whI c True]
      simp
    exact key _ ((k : Int) + 1 + 1) (aOkE64 fv3 z1L (by omega) (by omega)) (Iff.trans (by omega) w.symm)
  · have w : Wh (b.1 1) T k ↔ False := by
      rw [whI rfl True]
      simp [n0, n1, n2, n3, n4, n5, n8, n9, n10, n11]
    refine key _ (-1) (by decide) (Iff.trans ⟨fun q => ?_, fun q => q.elim⟩ w.symm)
    omega
end CACHE2
