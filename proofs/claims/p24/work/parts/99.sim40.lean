section SIM40
/-- the least of those that are there: h who is there, u the uses -/
def ls (h u : Nat → Int32) : Nat → Int32
  | 0 => -1
  | k + 1 => if h k ≠ 0 ∧ (ls h u k < 0 ∨ u k < u (ls h u k).toNatClampNeg) then nI k else ls h u k
theorem ls_rg {h u : Nat → Int32} : ∀ n : Nat, n ≤ 1000 → (ls h u n = -1 ∧ ∀ i : Nat, i < n → h i = 0) ∨ (0 ≤ (ls h u n).toInt ∧ (ls h u n).toInt < n ∧ h (ls h u n).toNatClampNeg ≠ 0)
  | 0, _ => Or.inl ⟨rfl, fun i hi => absurd hi (by omega)⟩
  | n + 1, hn => by
    have zm : (-1 : Int32) < 0 := by decide
    have ih := ls_rg (h := h) (u := u) n (by omega)
    have en : (nI n).toInt = n := nI_toInt (by omega)
    show (((if h n ≠ 0 ∧ (ls h u n < 0 ∨ u n < u (ls h u n).toNatClampNeg) then nI n else ls h u n) = -1 ∧ _) ∨ _)
    by_cases c : h n ≠ 0 ∧ (ls h u n < 0 ∨ u n < u (ls h u n).toNatClampNeg)
    · refine Or.inr ?_
      show 0 ≤ (if h n ≠ 0 ∧ (ls h u n < 0 ∨ u n < u (ls h u n).toNatClampNeg) then nI n else ls h u n).toInt ∧ _
      have e : ls h u (n + 1) = nI n := if_pos c
      rw [e, clnI (by omega)]
      exact ⟨by rw [if_pos c]; omega, by omega, c.1⟩
    · have e : ls h u (n + 1) = ls h u n := if_neg c
      rw [if_neg c]
      rcases ih with q | q
      · refine Or.inl ⟨q.1, fun i hi => ?_⟩
        by_cases ei : i = n
        · rw [ei]
          by_cases hh : h n = 0
          · exact hh
          · exact absurd ⟨hh, Or.inl (by rw [q.1]; exact zm)⟩ c
        · exact q.2 i (by omega)
      · refine Or.inr ?_
        rw [e]
        exact ⟨q.1, by omega, q.2.2⟩
theorem ls_ext {h u h' u' : Nat → Int32} : ∀ n : Nat, n ≤ 1000 → (∀ i : Nat, i < n → (h i = 0 ↔ h' i = 0) ∧ u i = u' i) → ls h u n = ls h' u' n
  | 0, _, _ => rfl
  | n + 1, hn, k => by
    have ih := ls_ext n (by omega) (fun i hi => k i (by omega))
    have kn := k n (by omega)
    show (if h n ≠ 0 ∧ (ls h u n < 0 ∨ u n < u (ls h u n).toNatClampNeg) then nI n else ls h u n) = (if h' n ≠ 0 ∧ (ls h' u' n < 0 ∨ u' n < u' (ls h' u' n).toNatClampNeg) then nI n else ls h' u' n)
    have eqv : (h n ≠ 0 ∧ (ls h u n < 0 ∨ u n < u (ls h u n).toNatClampNeg)) ↔ (h' n ≠ 0 ∧ (ls h' u' n < 0 ∨ u' n < u' (ls h' u' n).toNatClampNeg)) := by
      rw [← ih, ← kn.2]
      rcases ls_rg (h := h) (u := u) n (by omega) with q | q
      · have lt : ls h u n < 0 := by rw [q.1]; decide
        exact ⟨fun w => ⟨fun z => w.1 (kn.1.mpr z), Or.inl lt⟩, fun w => ⟨fun z => w.1 (kn.1.mp z), Or.inl lt⟩⟩
      · have e := (k (ls h u n).toNatClampNeg (by have := clE (rfl : (ls h u n).toInt = _) q.1; omega)).2
        rw [← e]
        exact ⟨fun w => ⟨fun z => w.1 (kn.1.mpr z), w.2⟩, fun w => ⟨fun z => w.1 (kn.1.mp z), w.2⟩⟩
    by_cases c : h n ≠ 0 ∧ (ls h u n < 0 ∨ u n < u (ls h u n).toNatClampNeg)
    · rw [if_pos c, if_pos (eqv.mp c)]
    · rw [if_neg c, if_neg (fun z => c (eqv.mpr z)), ih]
/-- knots: uses, who is there, what is under them, sizes -/
abbrev Jn : Type := (Nat → Int32) × (Nat → Int32) × (Nat → Int32) × (Nat → Int32) × (Nat → Int32)
def Jn.a (n : Nat) (J : Jn) : Int32 := ls J.2.1 J.1 n
def Jn.b (n : Nat) (J : Jn) : Int32 := ls (upd J.2.1 (J.a n).toNatClampNeg 0) J.1 n
def jst (n : Nat) (J : Jn) : Jn :=
  ⟨upd J.1 n (J.1 (J.a n).toNatClampNeg + J.1 (J.b n).toNatClampNeg),
   upd (upd (upd J.2.1 (J.a n).toNatClampNeg 0) (J.b n).toNatClampNeg 0) n 1,
   upd J.2.2.1 n (J.a n),
   upd J.2.2.2.1 n (J.b n),
   upd J.2.2.2.2 n ((9 + J.2.2.2.2 (J.a n).toNatClampNeg) + J.2.2.2.2 (J.b n).toNatClampNeg)⟩
def jn (L : Nat) (J0 : Jn) : Nat → Jn
  | 0 => J0
  | s + 1 => jst (L + s) (jn L J0 s)
/-- the reference's knots are these -/
def JAg (τ : St) (J : Jn) (n L : Nat) : Prop := ∀ i : Nat, i < n → τ.1 28 i = J.1 i ∧ τ.1 29 i = J.2.1 i ∧ τ.1 33 i = J.2.2.2.2 i ∧ (L ≤ i → τ.1 30 i = J.2.2.1 i ∧ τ.1 31 i = J.2.2.2.1 i)
theorem e_least {N : Nat} (hN : 4294967400 ≤ N) {Q : Int32 → St → Prop} {σ0 σ : St} (hσ : K2 σ0 σ) (hc : 1 ≤ cnt (σ.1 29) (σ.1 0 50).toNatClampNeg) (hQ : ∀ (r : Int32) (τ : St), 0 ≤ r.toInt → r.toInt < (σ.1 0 50).toInt → σ.1 29 r.toNatClampNeg ≠ 0 → τ = u1 σ 29 r.toNatClampNeg 0 → r = ls (σ.1 29) (σ.1 28) (σ.1 0 50).toNatClampNeg → Q r τ) : fX12_least N Q σ := by
  have b := K2.q_0_50 hσ
  have z0 : (0 : Int32).toInt = 0 := by decide
  have en := clE (rfl : (σ.1 0 50).toInt = (σ.1 0 50).toInt) b.1
  unfold fX12_least
  refine lo2_i (fun (x y : Int32) (τ : St) => τ = σ ∧ 0 ≤ y.toInt ∧ y.toInt ≤ (σ.1 0 50).toInt ∧ x = ls (σ.1 29) (σ.1 28) y.toNatClampNeg) (fun _ y _ => (2147483648 - y.toInt).toNat) ?_ N (-1) 0 σ ⟨rfl, by omega, by omega, rfl⟩ (by (try dsimp only); omega)
  intro rr x y τ hI ih
  obtain ⟨rfl, i1, i2, i3⟩ := hI
  have ey := clE (rfl : y.toInt = y.toInt) i1
  have rg := ls_rg (h := τ.1 29) (u := τ.1 28) y.toNatClampNeg (by omega)
  rw [← i3] at rg
  unfold fX12_least_l4
  refine ⟨fun c => ?_, fun c => ?_⟩
  · have f := (leE (rfl : (τ.1 0 50).toInt = (τ.1 0 50).toInt) (rfl : y.toInt = y.toInt)).mp c
    have eyn : y.toNatClampNeg = (τ.1 0 50).toNatClampNeg := by omega
    rcases rg with q | q
    · have := cnt_no (f := τ.1 29) (τ.1 0 50).toNatClampNeg (fun i hi => q.2 i (by omega))
      omega
    · refine ⟨inE (rfl : x.toInt = x.toInt) (by omega) (by omega), fun σ3 e3 => hQ x σ3 q.1 (by omega) q.2.2 e3 (by rw [i3, eyn])⟩
  · have f := (notleE (rfl : (τ.1 0 50).toInt = (τ.1 0 50).toInt) (rfl : y.toInt = y.toInt)).mp c
    have hin : vp_in y 122 := inE (rfl : y.toInt = y.toInt) (by omega) (by omega)
    have h42 : ∀ x' : Int32, x' = ls (τ.1 29) (τ.1 28) (y.toNatClampNeg + 1) → fX12_least_j42 N rr x' y Q τ := by
      intro x' hx' v ev
      have fv : v.toInt = y.toInt + 1 := (congrArg Int32.toInt ev).trans (aOkE rfl (show (1 : Int32).toInt = 1 from by decide) (by omega) (by omega))
      have cv : v.toNatClampNeg = y.toNatClampNeg + 1 := by have := clE fv (by omega); omega
      exact ih x' v τ ⟨rfl, by omega, by omega, by rw [cv]; exact hx'⟩ (by (try dsimp only); omega)
    have no : ¬ (τ.1 29 y.toNatClampNeg ≠ 0 ∧ (x < 0 ∨ τ.1 28 y.toNatClampNeg < τ.1 28 x.toNatClampNeg)) → fX12_least_j42 N rr x y Q τ := by
      intro w
      rw [i3] at w
      exact h42 x (i3.trans (show _ = (if _ then _ else _) from (if_neg w).symm))
    have yes : (τ.1 29 y.toNatClampNeg ≠ 0 ∧ (x < 0 ∨ τ.1 28 y.toNatClampNeg < τ.1 28 x.toNatClampNeg)) → fX12_least_j40 N rr y Q τ := by
      intro w
      rw [i3] at w
      exact h42 y ((nIcl i1).symm.trans (show _ = (if _ then _ else _) from (if_pos w).symm))
    refine ⟨hin, fun c2 => no (fun w => w.1 c2), fun c2 => ⟨fun c3 => yes ⟨c2, Or.inl c3⟩, fun c3 => ?_⟩⟩
    have f3 := (notltE (rfl : x.toInt = x.toInt) z0).mp c3
    have hx : x.toInt < (τ.1 0 50).toInt := by
      rcases rg with q | q
      · rw [q.1] at f3; exact absurd f3 (by decide)
      · omega
    refine ⟨hin, inE (rfl : x.toInt = x.toInt) (by omega) (by omega), fun c4 => no (fun w => ?_), fun c4 => yes ⟨c2, Or.inr ?_⟩⟩
    · rcases w.2 with q | q
      · exact c3 q
      · have := (leE (rfl : (τ.1 28 x.toNatClampNeg).toInt = _) (rfl : (τ.1 28 y.toNatClampNeg).toInt = _)).mp c4
        have := (ltE (rfl : (τ.1 28 y.toNatClampNeg).toInt = _) (rfl : (τ.1 28 x.toNatClampNeg).toInt = _)).mp q
        omega
    · have := (notleE (rfl : (τ.1 28 x.toNatClampNeg).toInt = _) (rfl : (τ.1 28 y.toNatClampNeg).toInt = _)).mp c4
      exact (ltE rfl rfl).mpr (by omega)
end SIM40
