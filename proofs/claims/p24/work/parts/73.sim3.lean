section SIM3
variable {X : St → St → Prop} {a b a' b' : St}
/-- what local i is, once filled: those before fst are v0, then the arguments -/
def lf (fst n : Nat) (v0 : Int32) (ar : Nat → Int32) (i : Nat) : Int32 := if i < fst then v0 else if i - fst < n then ar (i - fst) else 0
theorem lf_congr {fst n : Nat} {v0 : Int32} {ar br : Nat → Int32} {i : Nat} (h : ∀ k < n, ar k = br k) : lf fst n v0 ar i = lf fst n v0 br i := by
  unfold lf
  by_cases c : i < fst
  · rw [if_pos c, if_pos c]
  · rw [if_neg c, if_neg c]
    by_cases d : i - fst < n
    · rw [if_pos d, if_pos d, h _ d]
    · rw [if_neg d, if_neg d]
theorem lf_step {fst n : Nat} {v0 : Int32} {ar : Nat → Int32} {i : Nat} (h : i ≠ fst + n) : lf fst (n + 1) v0 ar i = lf fst n v0 ar i := by
  unfold lf
  by_cases c : i < fst
  · rw [if_pos c, if_pos c]
  · rw [if_neg c, if_neg c]
    by_cases d : i - fst < n
    · rw [if_pos d, if_pos (by omega)]
    · rw [if_neg d, if_neg (by omega)]
theorem lf_at {fst n : Nat} {v0 : Int32} {ar : Nat → Int32} : lf fst (n + 1) v0 ar (fst + n) = ar n := by
  unfold lf
  rw [if_neg (by omega), if_pos (by omega), show fst + n - fst = n by omega]
/-- all but a row is kept -/
def Kr (k lo hi : Nat) (σ τ : St) : Prop := (∀ c j : Nat, ¬ (c = k ∧ lo ≤ j ∧ j < hi) → τ.1 c j = σ.1 c j) ∧ τ.2 = σ.2
theorem Kr.rfl' {k lo hi : Nat} {σ : St} : Kr k lo hi σ σ := ⟨fun _ _ _ => rfl, rfl⟩
theorem Kr.u {k lo hi : Nat} {σ τ : St} (h : Kr k lo hi σ τ) {j : Nat} {v : Int32} (h1 : lo ≤ j) (h2 : j < hi) : Kr k lo hi σ (u1 τ k j v) :=
  ⟨fun c i q => (u1e (fun z => q ⟨z.1, by omega, by omega⟩)).trans (h.1 c i q), h.2⟩
theorem c_fillrow {N : Nat} (hN : 4294967400 ≤ N) {k : Nat} {Q : St → Prop} (hQ : ∀ a' : St, Kr k 0 8 a a' → (∀ i < 8, a'.1 k i = 0) → Q a') : fJ7_fill_53178 N k 8 0 Q a := by
  have z8 : (8 : Int32).toInt = 8 := by decide
  have z1 : (1 : Int32).toInt = 1 := by decide
  unfold fJ7_fill_53178
  intro v ev
  rw [show Int32.ofNat 8 = 8 from by decide] at ev
  subst ev
  refine lo1_i (fun (x : Int32) (τ : St) => ∃ m : Nat, x.toInt = (m : Int) ∧ m ≤ 8 ∧ Kr k 0 8 a τ ∧ ∀ i < m, τ.1 k i = 0) (fun x _ => (8 - x.toInt).toNat) ?_ N 0 a ⟨0, by decide, by omega, Kr.rfl', fun i hi => absurd hi (by omega)⟩ (by show (8 - (0 : Int32).toInt).toNat < N; rw [show (0 : Int32).toInt = 0 from by decide]; omega)
  intro r x τ hI ih
  obtain ⟨m, hx, hm, hk, hz⟩ := hI
  unfold fJ7_fill_53178_l5
  refine ⟨fun c => ?_, fun c => ?_⟩
  · have := (leE z8 hx).mp c
    exact hQ τ hk (fun i hi => hz i (by omega))
  · have := (notleE z8 hx).mp c
    have ec := clE hx (by omega)
    refine ⟨inE hx (by omega) (by omega), fun s es v ev => ?_⟩
    have f : v.toInt = m + 1 := (congrArg Int32.toInt ev).trans (aOkE hx z1 (by omega) (by omega))
    refine ih v s ⟨m + 1, by omega, by omega, ?_, fun i hi => ?_⟩ (by show (8 - v.toInt).toNat < (8 - x.toInt).toNat; omega)
    · rw [es]
      exact hk.u (by omega) (by omega)
    · rw [es]
      by_cases e : i = m
      · rw [show x.toNatClampNeg = i by omega, u1v]
      · rw [u1e (by omega)]
        exact hz i (by omega)
theorem c_setLocal {N : Nat} {k : Nat} {x v : Int32} {n r : Nat} (hx : x.toInt = n) (hr : (a.1 k 4).toInt = r) (hr8 : r ≤ 8) {Q : St → Prop} (hQ : Q (if n < r then u1 a (k + 40) n v else a)) : fX1_setLocal N k x v Q a := by
  have z0 : (0 : Int32).toInt = 0 := by decide
  have z8 : (8 : Int32).toInt = 8 := by decide
  have ec := clE hx (by omega)
  unfold fX1_setLocal
  refine ⟨fun c => ?_, fun _ => ⟨fun c => ?_, fun c => ⟨fun c2 => ?_, fun _ => ⟨?_, fun s es => ?_⟩⟩⟩⟩
  · have := (ltE hx z0).mp c
    omega
  · have := (leE hr hx).mp c
    rw [if_neg (by omega)] at hQ
    exact hQ
  · have := (notleE hr hx).mp c
    have := (leE z8 hx).mp c2
    omega
  · have := (notleE hr hx).mp c
    exact inE hx (by omega) (by omega)
  · have := (notleE hr hx).mp c
    rw [if_pos (by omega)] at hQ
    rw [es, show x.toNatClampNeg = n by omega]
    exact hQ
theorem c_fillLoop {N : Nat} (hN : 4294967400 ≤ N) {k : Nat} (hk : 43 ≤ k) (hk2 : k < 83) {x3 : Int32} {fst n r : Nat} {v0 : Int32} {ar : Nat → Int32} {σ0 : St} (hf : x3.toInt = fst) (hf1 : fst ≤ 1) (hn : (σ0.1 3 6).toInt = n) (hn4 : n ≤ 4) (hr : (σ0.1 k 4).toInt = r) (hr8 : r ≤ 8) (har : ∀ i < n, σ0.1 17 i = ar i) (h0 : Kr (k + 40) 0 8 σ0 a) (hl : ∀ i < r, a.1 (k + 40) i = lf fst 0 v0 ar i) {Q : St → Prop} (hQ : ∀ a' : St, Kr (k + 40) 0 8 σ0 a' → (∀ i < r, a'.1 (k + 40) i = lf fst n v0 ar i) → Q a') : fX2_fillLocals_j25 N k x3 Q a := by
  have z4 : (4 : Int32).toInt = 4 := by decide
  have z1 : (1 : Int32).toInt = 1 := by decide
  unfold fX2_fillLocals_j25
  refine lo1_i (fun (x : Int32) (τ : St) => ∃ m : Nat, x.toInt = (m : Int) ∧ m ≤ n ∧ Kr (k + 40) 0 8 σ0 τ ∧ ∀ i < r, τ.1 (k + 40) i = lf fst m v0 ar i) (fun x _ => (8 - x.toInt).toNat) ?_ N 0 a ⟨0, by decide, by omega, h0, hl⟩ (by show (8 - (0 : Int32).toInt).toNat < N; rw [show (0 : Int32).toInt = 0 from by decide]; omega)
  intro rr x τ hI ih
  obtain ⟨m, hx, hm, hkp, hz⟩ := hI
  have e36 : (τ.1 3 6).toInt = n := by rw [hkp.1 3 6 (by omega)]; exact hn
  unfold fX2_fillLocals_l28
  refine ⟨fun c => ?_, fun c => ⟨fun c2 => ?_, fun c2 => ?_⟩⟩
  · have := (leE e36 hx).mp c
    rw [show m = n by omega] at hz
    exact hQ τ hkp hz
  · have := (notleE e36 hx).mp c
    have := (leE z4 hx).mp c2
    omega
  · have := (notleE e36 hx).mp c
    have ec := clE hx (by omega)
    have hs : (x3 + x).toInt = ((fst + m : Nat) : Int) := (aOkE hf hx (by omega) (by omega)).trans (by omega)
    refine ⟨inE hx (by omega) (by omega), c_setLocal (n := fst + m) (r := r) hs (by rw [hkp.1 k 4 (by omega)]; exact hr) hr8 (fun v ev => ?_)⟩
    have f : v.toInt = m + 1 := (congrArg Int32.toInt ev).trans (aOkE hx z1 (by omega) (by omega))
    refine ih v _ ⟨m + 1, by omega, by omega, ?_, fun i hi => ?_⟩ (by show (8 - v.toInt).toNat < (8 - x.toInt).toNat; omega)
    · split
      · exact hkp.u (by omega) (by omega)
      · exact hkp
    · split
      · by_cases e : i = fst + m
        · rw [e, u1v, lf_at, hkp.1 17 _ (by omega), show x.toNatClampNeg = m by omega]
          exact har m (by omega)
        · rw [u1e (by omega), lf_step e]
          exact hz i hi
      · rw [lf_step (by omega)]
        exact hz i hi
theorem c_fillLocals {N : Nat} (hN : 4294967400 ≤ N) {k : Nat} (hk : 43 ≤ k) (hk2 : k < 83) {x2 : Int32} {n r : Nat} (hn : (a.1 3 6).toInt = n) (hn4 : n ≤ 4) (hr : (a.1 k 4).toInt = r) (hr8 : r ≤ 8) {Q : St → Prop} (hQ : ∀ a' : St, Kr (k + 40) 0 8 a a' → (∀ i < r, a'.1 (k + 40) i = lf (if x2 = 0 then 0 else 1) n (a.1 3 6) (a.1 17) i) → Q a') : fX2_fillLocals N k x2 Q a := by
  unfold fX2_fillLocals
  refine c_fillrow hN (fun s hs hz => ⟨fun c => ?_, fun c => ?_⟩)
  · rw [if_pos c] at hQ
    refine c_fillLoop hN hk hk2 (fst := 0) (n := n) (r := r) (by decide) (by omega) hn hn4 hr hr8 (fun i _ => rfl) hs (fun i hi => ?_) hQ
    rw [hz i (by omega)]
    unfold lf
    rw [if_neg (by omega), if_neg (by omega)]
  · rw [if_neg c] at hQ
    have e36 : s.1 3 6 = a.1 3 6 := hs.1 3 6 (by omega)
    refine c_setLocal (n := 0) (r := r) (by decide) (by rw [hs.1 k 4 (by omega)]; exact hr) hr8 ?_
    refine c_fillLoop hN hk hk2 (fst := 1) (n := n) (r := r) (by decide) (by omega) hn hn4 hr hr8 (fun i _ => rfl) ?_ (fun i hi => ?_) hQ
    · split
      · exact hs.u (by omega) (by omega)
      · exact hs
    · unfold lf
      rw [if_pos (by omega)]
      by_cases e : i = 0
      · rw [e, u1v, if_pos (by omega), e36]
      · rw [u1e (by omega), hz i (by omega), if_neg (by omega), if_neg (by omega)]
theorem r_fillLoop {N : Nat} (hN : 4294967400 ≤ N) {x2 x5 x6 x7 : Int32} {fst n r m : Nat} {v0 : Int32} {σ0 : St} (hn : x2.toInt = n) (hn4 : n ≤ 4) (hr : x5.toInt = r) (hr8 : r ≤ 8) (hm : x6.toInt = m) (hm4 : m < 40) (hf : x7.toInt = fst) (hf1 : fst ≤ 1) (h0 : Kr 10 (8 * m) (8 * m + 8) σ0 b) (hl : ∀ i < r, b.1 10 (8 * m + i) = lf fst 0 v0 (σ0.1 15) i) (hw : ∀ i : Nat, r ≤ i → i < 8 → b.1 10 (8 * m + i) = 0) {Q : St → Prop} (hQ : ∀ b' : St, Kr 10 (8 * m) (8 * m + 8) σ0 b' → (∀ i < r, b'.1 10 (8 * m + i) = lf fst n v0 (σ0.1 15) i) → (∀ i : Nat, r ≤ i → i < 8 → b'.1 10 (8 * m + i) = 0) → Q b') : fX12_called_j175 N x2 x5 x6 x7 Q b := by
  have z8 : (8 : Int32).toInt = 8 := by decide
  have z1 : (1 : Int32).toInt = 1 := by decide
  unfold fX12_called_j175
  refine lo1_i (fun (x : Int32) (τ : St) => ∃ q : Nat, x.toInt = (q : Int) ∧ q ≤ n ∧ Kr 10 (8 * m) (8 * m + 8) σ0 τ ∧ (∀ i < r, τ.1 10 (8 * m + i) = lf fst q v0 (σ0.1 15) i) ∧ ∀ i : Nat, r ≤ i → i < 8 → τ.1 10 (8 * m + i) = 0) (fun x _ => (8 - x.toInt).toNat) ?_ N 0 b ⟨0, by decide, by omega, h0, hl, hw⟩ (by show (8 - (0 : Int32).toInt).toNat < N; rw [show (0 : Int32).toInt = 0 from by decide]; omega)
  intro rr x τ hI ih
  obtain ⟨q, hx, hq, hkp, hz, hy⟩ := hI
  have hs : (x + x7).toInt = ((fst + q : Nat) : Int) := (aOkE hx hf (by omega) (by omega)).trans (by omega)
  unfold fX12_called_l178
  refine ⟨fun c => ?_, fun c => ⟨fun c2 => ?_, fun c2 => ?_⟩⟩
  · have := (leE hn hx).mp c
    rw [show q = n by omega] at hz
    exact hQ τ hkp hz hy
  · have d := (leE hr hs).mp c2
    refine hQ τ hkp (fun i hi => (hz i hi).trans ?_) hy
    unfold lf
    by_cases e : i < fst
    · rw [if_pos e, if_pos e]
    · rw [if_neg e, if_neg e, if_pos (by omega), if_pos (by omega)]
  · have := (notleE hn hx).mp c
    have := (notleE hr hs).mp c2
    have ec := clE hx (by omega)
    have g1 : (8 * x6).toInt = 8 * (m : Int) := mOkE z8 hm (by omega) (by omega)
    have g2 : (8 * x6 + x).toInt = 8 * (m : Int) + q := aOkE g1 hx (by omega) (by omega)
    have g3 : (8 * x6 + x + x7).toInt = 8 * (m : Int) + q + fst := aOkE g2 hf (by omega) (by omega)
    have c3 := clE g3 (by omega)
    refine ⟨inE hx (by omega) (by omega), fun v ev => ⟨inE g3 (by omega) (by omega), fun s es v2 ev2 => ?_⟩⟩
    have f : v2.toInt = q + 1 := (congrArg Int32.toInt ev2).trans (aOkE hx z1 (by omega) (by omega))
    rw [show (8 * x6 + x + x7).toNatClampNeg = 8 * m + (fst + q) by omega] at es
    refine ih v2 s ⟨q + 1, by omega, by omega, ?_, fun i hi => ?_, fun i h1 h2 => ?_⟩ (by show (8 - v2.toInt).toNat < (8 - x.toInt).toNat; omega)
    · rw [es]
      exact hkp.u (by omega) (by omega)
    · rw [es]
      by_cases e : i = fst + q
      · rw [e, u1v, lf_at, ev, hkp.1 15 _ (by omega), show x.toNatClampNeg = q by omega]
      · rw [u1e (by omega), lf_step e]
        exact hz i hi
    · rw [es, u1e (by omega)]
      exact hy i h1 h2
theorem r_fill {N : Nat} (hN : 4294967400 ≤ N) {x2 x4 x5 x6 : Int32} {n r m : Nat} (hn : x2.toInt = n) (hn4 : n ≤ 4) (hr : x5.toInt = r) (hr8 : r ≤ 8) (hm : x6.toInt = m) (hm4 : m < 40) {Q : St → Prop} (hQ : ∀ b' : St, Kr 10 (8 * m) (8 * m + 8) b b' → (∀ i < r, b'.1 10 (8 * m + i) = lf (if x4 = 192 then 1 else 0) n x2 (b.1 15) i) → (∀ i : Nat, r ≤ i → i < 8 → b'.1 10 (8 * m + i) = 0) → Q b') : lo1 (fX12_called_l109 N x2 x4 x5 x6 Q) N 0 b := by
  have z8 : (8 : Int32).toInt = 8 := by decide
  have z0 : (0 : Int32).toInt = 0 := by decide
  have z1 : (1 : Int32).toInt = 1 := by decide
  have g1 : (8 * x6).toInt = 8 * (m : Int) := mOkE z8 hm (by omega) (by omega)
  refine lo1_i (fun (x : Int32) (τ : St) => ∃ q : Nat, x.toInt = (q : Int) ∧ q ≤ 8 ∧ Kr 10 (8 * m) (8 * m + 8) b τ ∧ ∀ i < q, τ.1 10 (8 * m + i) = 0) (fun x _ => (8 - x.toInt).toNat) ?_ N 0 b ⟨0, by decide, by omega, Kr.rfl', fun i hi => absurd hi (by omega)⟩ (by show (8 - (0 : Int32).toInt).toNat < N; rw [z0]; omega)
  intro rr x τ hI ih
  obtain ⟨q, hx, hq, hkp, hz⟩ := hI
  unfold fX12_called_l109
  refine ⟨fun c => ?_, fun c => ?_⟩
  · have := (leE z8 hx).mp c
    have c1 := clE g1 (by omega)
    unfold fX12_called_j149
    refine ⟨fun c4 => ⟨fun _ => ⟨fun d => ?_, fun d => ⟨inE g1 (by omega) (by omega), fun s es => ?_⟩⟩, fun z => absurd c4 z⟩, fun c4 => ⟨fun z => absurd z c4, fun _ => ?_⟩⟩
    · rw [if_pos c4] at hQ
      have := (leE hr z0).mp d
      exact r_fillLoop hN (fst := 1) hn hn4 hr hr8 hm hm4 (by decide) (by omega) hkp (fun i hi => absurd hi (by omega)) (fun i _ h2 => hz i (by omega)) hQ
    · rw [if_pos c4] at hQ
      rw [show (8 * x6).toNatClampNeg = 8 * m by omega] at es
      refine r_fillLoop hN (fst := 1) hn hn4 hr hr8 hm hm4 (by decide) (by omega) ?_ (fun i hi => ?_) (fun i h1 h2 => ?_) hQ
      · rw [es]
        exact hkp.u (by omega) (by omega)
      · rw [es]
        unfold lf
        by_cases e : i = 0
        · rw [e, show 8 * m + 0 = 8 * m by omega, u1v, if_pos (by omega)]
        · rw [u1e (by omega), hz i (by omega), if_neg (by omega), if_neg (by omega)]
      · have := (notleE hr z0).mp d
        rw [es, u1e (by omega)]
        exact hz i (by omega)
    · rw [if_neg c4] at hQ
      refine r_fillLoop hN (fst := 0) hn hn4 hr hr8 hm hm4 (by decide) (by omega) hkp (fun i hi => ?_) (fun i _ h2 => hz i (by omega)) hQ
      rw [hz i (by omega)]
      unfold lf
      rw [if_neg (by omega), if_neg (by omega)]
  · have := (notleE z8 hx).mp c
    have g2 : (8 * x6 + x).toInt = 8 * (m : Int) + q := aOkE g1 hx (by omega) (by omega)
    have c2 := clE g2 (by omega)
    refine ⟨inE g2 (by omega) (by omega), fun s es v ev => ?_⟩
    have f : v.toInt = q + 1 := (congrArg Int32.toInt ev).trans (aOkE hx z1 (by omega) (by omega))
    rw [show (8 * x6 + x).toNatClampNeg = 8 * m + q by omega] at es
    refine ih v s ⟨q + 1, by omega, by omega, ?_, fun i hi => ?_⟩ (by show (8 - v.toInt).toNat < (8 - x.toInt).toNat; omega)
    · rw [es]
      exact hkp.u (by omega) (by omega)
    · rw [es]
      by_cases e : i = q
      · rw [e, u1v]
      · rw [u1e (by omega)]
        exact hz i (by omega)
/-- the reference's row of locals, filled -/
def fil (b : St) (m r fst n : Nat) (v0 : Int32) : St := (fun c j => if c = 10 ∧ 8 * m ≤ j ∧ j < 8 * m + 8 then (if j - 8 * m < r then lf fst n v0 (b.1 15) (j - 8 * m) else 0) else b.1 c j, b.2)
theorem r_fillX {N : Nat} (hN : 4294967400 ≤ N) {x2 x4 x5 x6 : Int32} {n r m : Nat} (hn : x2.toInt = n) (hn4 : n ≤ 4) (hr : x5.toInt = r) (hr8 : r ≤ 8) (hm : x6.toInt = m) (hm4 : m < 40) {Q : St → Prop} (hQ : Q (fil b m r (if x4 = 192 then 1 else 0) n x2)) : lo1 (fX12_called_l109 N x2 x4 x5 x6 Q) N 0 b := by
  refine r_fill hN hn hn4 hr hr8 hm hm4 (fun b' k h1 h2 => ?_)
  have e : b' = fil b m r (if x4 = 192 then 1 else 0) n x2 := by
    refine Prod.ext ?_ k.2
    funext c j
    show b'.1 c j = if c = 10 ∧ 8 * m ≤ j ∧ j < 8 * m + 8 then (if j - 8 * m < r then lf (if x4 = 192 then 1 else 0) n x2 (b.1 15) (j - 8 * m) else 0) else b.1 c j
    by_cases d : c = 10 ∧ 8 * m ≤ j ∧ j < 8 * m + 8
    · rw [if_pos d, d.1]
      obtain ⟨i, hi⟩ : ∃ i : Nat, j = 8 * m + i := ⟨j - 8 * m, by omega⟩
      rw [hi, show 8 * m + i - 8 * m = i by omega]
      by_cases f : i < r
      · rw [if_pos f]
        exact h1 i f
      · rw [if_neg f]
        exact h2 i (by omega) (by omega)
    · rw [if_neg d]
      exact k.1 c j d
  rw [e]
  exact hQ
theorem fil_ne {m r fst n : Nat} {v0 : Int32} {c j : Nat} (h : ¬ (c = 10 ∧ 8 * m ≤ j ∧ j < 8 * m + 8)) : (fil b m r fst n v0).1 c j = b.1 c j := if_neg h
theorem fil_at {m r fst n : Nat} {v0 : Int32} {i : Nat} (h : i < r) (h8 : r ≤ 8) : (fil b m r fst n v0).1 10 (8 * m + i) = lf fst n v0 (b.1 15) i := by
  show (if (10 : Nat) = 10 ∧ 8 * m ≤ 8 * m + i ∧ 8 * m + i < 8 * m + 8 then (if 8 * m + i - 8 * m < r then lf fst n v0 (b.1 15) (8 * m + i - 8 * m) else 0) else b.1 10 (8 * m + i)) = _
  rw [if_pos (by omega), show 8 * m + i - 8 * m = i by omega, if_pos h]
end SIM3
