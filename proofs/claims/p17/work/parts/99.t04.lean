section CACHE4
variable {a : St} {N : Nat} {M : Nat → Int32} {F T : Nat}
theorem c_byte {x : Int32} {k : Nat} (ex : x.toInt = k) (hk : k < 4096) (hM : MC a M) {Q : Int32 → St → Prop} (hQ : Q (M k) a) : fX3_byteOf N x Q a := by
  have ck : x.toNatClampNeg = k := by have := clE ex (by omega); omega
  unfold fX3_byteOf
  rw [ck, hM k hk]
  refine ⟨fun w => ?_, fun _ => ⟨fun w => ?_, fun _ => ⟨inE ex (by omega) (by omega), hQ⟩⟩⟩
  · have := (ltE ex (show (0 : Int32).toInt = 0 from by decide)).mp w
    omega
  · have := (leE (show (4096 : Int32).toInt = 4096 from by decide) ex).mp w
    omega
theorem c_four {x : Int32} {k : Nat} (ex : x.toInt = k) (hk : k ≤ 4092) (hM : MC a M) {Q : Int32 → St → Prop} (hQ : Q (f4M M k) a) : fX3_fourOf N x Q a := by
  have ck : x.toNatClampNeg = k := by have := clE ex (by omega); omega
  have e1 : (x + 1).toInt = (k + 1 : Nat) := aOkE ex (show (1 : Int32).toInt = 1 from by decide) (by omega) (by omega)
  have e2 : (x + 2).toInt = (k + 2 : Nat) := aOkE ex (show (2 : Int32).toInt = 2 from by decide) (by omega) (by omega)
  have e3 : (x + 3).toInt = (k + 3 : Nat) := aOkE ex (show (3 : Int32).toInt = 3 from by decide) (by omega) (by omega)
  have c1 : (x + 1).toNatClampNeg = k + 1 := by have := clE e1 (by omega); omega
  have c2 : (x + 2).toNatClampNeg = k + 2 := by have := clE e2 (by omega); omega
  have c3 : (x + 3).toNatClampNeg = k + 3 := by have := clE e3 (by omega); omega
  unfold fX3_fourOf
  rw [ck, c1, c2, c3, hM k (by omega), hM (k + 1) (by omega), hM (k + 2) (by omega), hM (k + 3) (by omega)]
  refine ⟨fun w => ?_, fun _ => ⟨fun _ => ⟨inE ex (by omega) (by omega), inE e1 (by omega) (by omega), inE e2 (by omega) (by omega), inE e3 (by omega) (by omega), hQ⟩, fun w => ?_⟩⟩
  · have := (ltE ex (show (0 : Int32).toInt = 0 from by decide)).mp w
    omega
  · have := (notleE ex (show (4092 : Int32).toInt = 4092 from by decide)).mp w
    omega
/-- a node is whole: the class -/
theorem c_whole (hN : 4294967400 ≤ N) {x : Int32} {k : Nat} (ex : x.toInt = k) (hT : (a.1 2 6).toInt = T) (hk : k < T) (hT2 : T ≤ 4096) (hM : MC a M) {Q : Int32 → St → Prop} (hY : Wh M T k → Q 1 a) (hZ : ¬ Wh M T k → Q 0 a) : fX8_isWhole N x Q a := by
  have z0 : (0 : Int32).toInt = 0 := by decide
  have o1 : (1 : Int32).toInt = 1 := by decide
  have o4 : (4 : Int32).toInt = 4 := by decide
  have e1 : (x + 1).toInt = (k + 1 : Nat) := aOkE ex o1 (by omega) (by omega)
  have e5 : (x + 5).toInt = (k + 5 : Nat) := aOkE ex (show (5 : Int32).toInt = 5 from by decide) (by omega) (by omega)
  have whI : ∀ {c : Int32}, M k = c → (Wh M T k ↔ ((c = 0 ∧ k + 9 ≤ T) ∨ (c = 1) ∨ (c = 2 ∧ k + 2 ≤ T) ∨ (c = 3 ∧ ∃ p : Nat, k + 1 ≤ p ∧ p < T ∧ M p = 0) ∨ ((c = 4 ∨ c = 8 ∨ c = 9) ∧ k + 5 ≤ T) ∨ (c = 5 ∧ ∃ j : Nat, k + 1 + 4 * j + 4 ≤ T ∧ f4M M (k + 1 + 4 * j) = 0) ∨ ((c = 10 ∨ c = 11) ∧ k + 9 ≤ T ∧ (k : Int) + 9 + agN (f4M M (k + 5)) ≤ T))) := fun h => by unfold Wh; rw [h]
  unfold fX8_isWhole
  intro v1 ev1
  have fv : v1.toInt = (T : Int) - k := (congrArg Int32.toInt ev1).trans (sOkE hT ex (by omega) (by omega))
  have j109 : ∀ c : Int32, (c = 4 ∨ c = 8 ∨ c = 9) → M k = c → fX8_isWhole_j109 N v1 Q a := by
    intro c hc h
    have w : Wh M T k ↔ (k + 5 ≤ T) := by
      rw [whI h]
      rcases hc with q | q | q <;> rw [q] <;> simp
    refine ⟨fun d => hZ (fun q => ?_), fun d => hY (w.mpr ?_)⟩
    · have := (ltE fv (show (5 : Int32).toInt = 5 from by decide)).mp d
      have := w.mp q
      omega
    · have := (notltE fv (show (5 : Int32).toInt = 5 from by decide)).mp d
      omega
  have j128 : ∀ c : Int32, (c = 10 ∨ c = 11) → M k = c → fX8_isWhole_j128 N x v1 Q a := by
    intro c hc h
    have w : Wh M T k ↔ (k + 9 ≤ T ∧ (k : Int) + 9 + agN (f4M M (k + 5)) ≤ T) := by
      rw [whI h]
      rcases hc with q | q <;> rw [q] <;> simp
    have fin : ∀ (r : Int32) (R : Int), r.toInt = R → 0 ≤ R → R ≤ 16 → (k + 9 ≤ T → R = agN (f4M M (k + 5))) → ((v1 < (9 + r) → Q 0 a) ∧ (¬ v1 < (9 + r) → Q 1 a)) := by
      intro r R er h1 h2 h3
      have e9 : (9 + r).toInt = 9 + R := aOkE (show (9 : Int32).toInt = 9 from by decide) er (by omega) (by omega)
      refine ⟨fun d => hZ (fun q => ?_), fun d => hY (w.mpr ?_)⟩
      · have := (ltE fv e9).mp d
        have q' := w.mp q
        rw [← h3 q'.1] at q'
        omega
      · have := (notltE fv e9).mp d
        rw [← h3 (by omega)]
        omega
    unfold fX8_isWhole_j128 fX8_argumentBytes
    by_cases kk : k + 5 ≤ 4092
    · refine c_four e5 (by omega) hM ?_
      obtain ⟨q, hq⟩ : ∃ q : Int32, f4M M (k + 5) = q := ⟨_, rfl⟩
      rw [hq] at fin ⊢
      unfold agN at fin
      refine ⟨fun d => fin 0 0 z0 (by omega) (by omega) (fun _ => ?_), fun d => ⟨fun d2 => fin 0 0 z0 (by omega) (by omega) (fun _ => ?_), fun d2 => fin _ (4 * q.toInt) ?_ ?_ ?_ (fun _ => ?_)⟩⟩
      · have := (ltE (rfl : q.toInt = _) z0).mp d
        rw [if_neg (by omega)]
      · have := (ltE o4 (rfl : q.toInt = _)).mp d2
        rw [if_neg (by omega)]
      · have := (notltE (rfl : q.toInt = _) z0).mp d
        have := (notltE o4 (rfl : q.toInt = _)).mp d2
        exact mOkE o4 rfl (by omega) (by omega)
      · have := (notltE (rfl : q.toInt = _) z0).mp d
        omega
      · have := (notltE o4 (rfl : q.toInt = _)).mp d2
        omega
      · have := (notltE (rfl : q.toInt = _) z0).mp d
        have := (notltE o4 (rfl : q.toInt = _)).mp d2
        rw [if_pos (by omega)]
    · unfold fX3_fourOf
      have out : ((0 : Int32) < 0 → ((v1 < (9 + 0) → Q 0 a) ∧ (¬ v1 < (9 + 0) → Q 1 a))) ∧ (¬ (0 : Int32) < 0 → ((4 < (0 : Int32) → ((v1 < (9 + 0) → Q 0 a) ∧ (¬ v1 < (9 + 0) → Q 1 a))) ∧ (¬ 4 < (0 : Int32) → ((v1 < (9 + 4 * 0) → Q 0 a) ∧ (¬ v1 < (9 + 4 * 0) → Q 1 a))))) := ⟨fun d => absurd d (by decide), fun _ => ⟨fun d => absurd d (by decide), fun _ => fin (4 * 0) 0 (by decide) (by omega) (by omega) (fun h => by omega)⟩⟩
      refine ⟨fun _ => out, fun _ => ⟨fun d => ?_, fun _ => out⟩⟩
      have := (leE e5 (show (4092 : Int32).toInt = 4092 from by decide)).mp d
      omega
  refine c_byte ex (by omega) hM ?_
  refine ⟨fun c => ?_, fun n0 => ⟨fun c => hY ?_, fun n1 => ⟨fun c => ?_, fun n2 => ⟨fun c => ?_, fun n3 => ⟨fun c => j109 4 (Or.inl rfl) c, fun n4 => ⟨fun c => ?_, fun n5 => ⟨fun c => j109 8 (Or.inr (Or.inl rfl)) c, fun n8 => ⟨fun c => j109 9 (Or.inr (Or.inr rfl)) c, fun n9 => ⟨fun c => j128 10 (Or.inl rfl) c, fun n10 => ⟨fun c => j128 11 (Or.inr rfl) c, fun n11 => hZ ?_⟩⟩⟩⟩⟩⟩⟩⟩⟩⟩
  · have w : Wh M T k ↔ (k + 9 ≤ T) := by
      rw [whI c]
      simp
    refine ⟨fun d => hZ (fun q => ?_), fun d => hY (w.mpr ?_)⟩
    · have := (ltE fv (show (9 : Int32).toInt = 9 from by decide)).mp d
      have := w.mp q
      omega
    · have := (notltE fv (show (9 : Int32).toInt = 9 from by decide)).mp d
      omega
  · rw [whI c]
    simp
  · have w : Wh M T k ↔ (k + 2 ≤ T) := by
      rw [whI c]
      simp
    refine ⟨fun d => hZ (fun q => ?_), fun d => hY (w.mpr ?_)⟩
    · have := (ltE fv (show (2 : Int32).toInt = 2 from by decide)).mp d
      have := w.mp q
      omega
    · have := (notltE fv (show (2 : Int32).toInt = 2 from by decide)).mp d
      omega
  · have w : Wh M T k ↔ ∃ p : Nat, k + 1 ≤ p ∧ p < T ∧ M p = 0 := by
      rw [whI c]
      simp
    unfold fX8_hasEndOfBytes
    refine lo1_i (fun (u : Int32) (τ : St) => τ = a ∧ (k : Int) + 1 ≤ u.toInt ∧ u.toInt ≤ T ∧ ∀ p : Nat, k + 1 ≤ p → (p : Int) < u.toInt → M p ≠ 0) (fun u _ => ((T : Int) - u.toInt).toNat) ?_ N (x + 1) a ⟨rfl, by omega, by omega, fun p p1 p2 => absurd p2 (by omega)⟩ (by show ((T : Int) - (x + 1).toInt).toNat < N; omega)
    intro rr u τ hI ih
    obtain ⟨rfl, u0, um, u3⟩ := hI
    have cu := clE (rfl : u.toInt = _) (by omega)
    unfold fX8_hasEndOfBytes_l2
    refine ⟨fun d => ⟨rfl, hZ (fun q => ?_)⟩, fun d => ?_⟩
    · have := (leE hT (rfl : u.toInt = _)).mp d
      obtain ⟨p, p1, p2, p3⟩ := w.mp q
      exact absurd p3 (u3 p p1 (by omega))
    · have d' := (notleE hT (rfl : u.toInt = _)).mp d
      refine c_byte (k := u.toNatClampNeg) cu.symm (by omega) hM ⟨fun c2 => ⟨rfl, hY (w.mpr ⟨u.toNatClampNeg, by omega, by omega, c2⟩)⟩, fun c2 v ev => ?_⟩
      have fv5 : v.toInt = u.toInt + 1 := (congrArg Int32.toInt ev).trans (aOkE rfl o1 (by omega) (by omega))
      refine ih v τ ⟨rfl, by omega, by omega, fun p p1 p2 => ?_⟩ (by show ((T : Int) - v.toInt).toNat < ((T : Int) - u.toInt).toNat; omega)
      by_cases e : p = u.toNatClampNeg
      · rw [e]; exact c2
      · exact u3 p p1 (by omega)
  · have w : Wh M T k ↔ ∃ j : Nat, k + 1 + 4 * j + 4 ≤ T ∧ f4M M (k + 1 + 4 * j) = 0 := by
      rw [whI c]
      simp
    unfold fX8_hasEndOfFours
    refine lo1_i (fun (u : Int32) (τ : St) => τ = a ∧ u.toInt ≤ (T : Int) + 4 ∧ ∃ j : Nat, u.toInt = (k : Int) + 1 + 4 * j ∧ ∀ i : Nat, i < j → f4M M (k + 1 + 4 * i) ≠ 0) (fun u _ => ((T : Int) + 8 - u.toInt).toNat) ?_ N (x + 1) a ⟨rfl, by omega, 0, by omega, fun i hi => absurd hi (by omega)⟩ (by show ((T : Int) + 8 - (x + 1).toInt).toNat < N; omega)
    intro rr u τ hI ih
    obtain ⟨rfl, um, j, u0, u3⟩ := hI
    have fu : (u + 4).toInt = u.toInt + 4 := aOkE rfl o4 (by omega) (by omega)
    unfold fX8_hasEndOfFours_l2
    refine ⟨fun d => ⟨rfl, hZ (fun q => ?_)⟩, fun d => ?_⟩
    · have := (ltE hT fu).mp d
      obtain ⟨i, p1, p2⟩ := w.mp q
      exact absurd p2 (u3 i (by omega))
    · have d' := (notltE hT fu).mp d
      refine c_four (k := k + 1 + 4 * j) (by omega) (by omega) hM ⟨fun c2 => ⟨rfl, hY (w.mpr ⟨j, by omega, c2⟩)⟩, fun c2 v ev => ?_⟩
      have fv5 : v.toInt = u.toInt + 4 := (congrArg Int32.toInt ev).trans fu
      refine ih v τ ⟨rfl, by omega, j + 1, by omega, fun i hi => ?_⟩ (by show ((T : Int) + 8 - v.toInt).toNat < ((T : Int) + 8 - u.toInt).toNat; omega)
      by_cases e : i = j
      · rw [e]; exact c2
      · exact u3 i (by omega)
  · rw [whI rfl]
    simp [n0, n1, n2, n3, n4, n5, n8, n9, n10, n11]
end CACHE4
