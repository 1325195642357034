/-- one piece tried at one place: h the pieces' lengths, g their signs, t the text, n its length -/
def pstep (h : Nat → Nat) (g : Nat → Nat → Int32) (t : Nat → Int32) (n i : Nat) (BY : (Nat → Int32) × (Nat → Int32)) (k : Nat) : (Nat → Int32) × (Nat → Int32) :=
  if (i + h k ≤ n ∧ BY.1 (i + h k) < 1000 ∧ ∀ m : Nat, m < h k → g k m = t (i + m)) ∧ (BY.1 (i + h k) + 1 < BY.1 i ∨ (BY.1 (i + h k) + 1 = BY.1 i ∧ h (BY.2 i).toNatClampNeg < h k)) then (upd BY.1 i (BY.1 (i + h k) + 1), upd BY.2 i (nI k)) else BY
def pinn (h : Nat → Nat) (g : Nat → Nat → Int32) (t : Nat → Int32) (n i : Nat) (BY : (Nat → Int32) × (Nat → Int32)) : Nat → (Nat → Int32) × (Nat → Int32)
  | 0 => BY
  | k + 1 => pstep h g t n i (pinn h g t n i BY k) k
def pout (h : Nat → Nat) (g : Nat → Nat → Int32) (t : Nat → Int32) (n P : Nat) : Nat → (Nat → Int32) × (Nat → Int32)
  | 0 => (fun _ => 0, fun _ => 0)
  | d + 1 => pinn h g t n (n - 1 - d) (upd (pout h g t n P d).1 (n - 1 - d) 1000, (pout h g t n P d).2) P
def pat (h : Nat → Nat) (Y : Nat → Int32) : Nat → Nat
  | 0 => 0
  | k + 1 => pat h Y k + h (Y (pat h Y k)).toNatClampNeg
def pGB (h : Nat → Nat) (n P : Nat) (BY : (Nat → Int32) × (Nat → Int32)) (j : Nat) : Prop :=
  BY.1 j = 1000 ∨ (1 ≤ (BY.1 j).toInt ∧ (BY.1 j).toInt ≤ (n : Int) - j ∧ 1 ≤ h (BY.2 j).toNatClampNeg ∧ j + h (BY.2 j).toNatClampNeg ≤ n ∧ BY.1 (j + h (BY.2 j).toNatClampNeg) ≠ 1000 ∧ (BY.1 j).toInt = (BY.1 (j + h (BY.2 j).toNatClampNeg)).toInt + 1 ∧ 0 ≤ (BY.2 j).toInt ∧ (BY.2 j).toInt < (P : Int))
def pGd (h : Nat → Nat) (n P i : Nat) (BY : (Nat → Int32) × (Nat → Int32)) : Prop := BY.1 n = 0 ∧ ∀ j : Nat, i ≤ j → j < n → pGB h n P BY j
theorem z1000 : (1000 : Int32).toInt = 1000 := by decide
theorem nIcl {y : Int32} (h : 0 ≤ y.toInt) : nI y.toNatClampNeg = y := by
  have e := clE (rfl : y.toInt = y.toInt) h
  have b := tB y
  exact Int32.toInt_inj.mp ((nI_toInt (by omega)).trans e)
theorem clnI {k : Nat} (h : k < 2147483648) : (nI k).toNatClampNeg = k := by
  have e := nI_toInt (n := k) (by omega)
  have := clE e (by omega)
  omega
theorem pGd.val {h : Nat → Nat} {n P i : Nat} {BY : (Nat → Int32) × (Nat → Int32)} (hG : pGd h n P i BY) {j : Nat} (h1 : i ≤ j) (h2 : j ≤ n) : BY.1 j = 1000 ∨ (0 ≤ (BY.1 j).toInt ∧ (BY.1 j).toInt ≤ (n : Int) - j) := by
  by_cases hj : j = n
  · right
    have z0 : (0 : Int32).toInt = 0 := by decide
    rw [hj, hG.1, z0]
    omega
  · rcases hG.2 j h1 (by omega) with q | q
    · exact Or.inl q
    · exact Or.inr ⟨by omega, by omega⟩
theorem pstep_gd {h : Nat → Nat} {g : Nat → Nat → Int32} {t : Nat → Int32} {n P i k : Nat} {BY : (Nat → Int32) × (Nat → Int32)} (hn : n ≤ 120) (hP : P ≤ 60) (hi : i < n) (hk : k < P) (hG : pGd h n P i BY) : pGd h n P i (pstep h g t n i BY k) := by
  unfold pstep
  split
  · rename_i c
    obtain ⟨⟨c1, c2, _⟩, c3⟩ := c
    have nk : (nI k).toNatClampNeg = k := clnI (by omega)
    have nki : (nI k).toInt = (k : Int) := nI_toInt (by omega)
    have c2' : (BY.1 (i + h k)).toInt < 1000 := (ltE rfl z1000).mp c2
    have bb := tB (BY.1 (i + h k))
    have few : (BY.1 (i + h k) + 1).toInt = (BY.1 (i + h k)).toInt + 1 := aOkE rfl (show (1 : Int32).toInt = 1 from by decide) (by omega) (by omega)
    have hz : 1 ≤ h k := by
      rcases Nat.eq_zero_or_pos (h k) with e | e
      · rw [e] at c3 few
        rw [show i + 0 = i from rfl] at c3 few
        rcases c3 with q | q
        · have := (ltE few (rfl : (BY.1 i).toInt = (BY.1 i).toInt)).mp q
          omega
        · have := congrArg Int32.toInt q.1
          omega
      · exact e
    have hv : 0 ≤ (BY.1 (i + h k)).toInt ∧ (BY.1 (i + h k)).toInt ≤ (n : Int) - (i + h k : Nat) := by
      rcases hG.val (show i ≤ i + h k by omega) c1 with q | q
      · rw [q, z1000] at c2'
        omega
      · exact q
    have ne1 : BY.1 (i + h k) ≠ 1000 := by
      intro q
      rw [q, z1000] at c2'
      omega
    refine ⟨?_, fun j h1 h2 => ?_⟩
    · show upd BY.1 i _ n = 0
      rw [show upd BY.1 i (BY.1 (i + h k) + 1) n = BY.1 n from if_neg (by omega)]
      exact hG.1
    · by_cases hj : j = i
      · subst hj
        have e1 : upd BY.1 j (BY.1 (j + h k) + 1) j = BY.1 (j + h k) + 1 := if_pos rfl
        have e2 : upd BY.2 j (nI k) j = nI k := if_pos rfl
        have e3 : upd BY.1 j (BY.1 (j + h k) + 1) (j + h k) = BY.1 (j + h k) := if_neg (by omega)
        unfold pGB
        dsimp only
        rw [e1, e2, nk, e3, few, nki]
        exact Or.inr ⟨by omega, by omega, hz, c1, ne1, rfl, by omega, by omega⟩
      · have e1 : upd BY.1 i (BY.1 (i + h k) + 1) j = BY.1 j := if_neg hj
        have e2 : upd BY.2 i (nI k) j = BY.2 j := if_neg hj
        unfold pGB
        dsimp only
        rw [e1, e2]
        rcases hG.2 j h1 h2 with q | q
        · exact Or.inl q
        · have e3 : upd BY.1 i (BY.1 (i + h k) + 1) (j + h (BY.2 j).toNatClampNeg) = BY.1 (j + h (BY.2 j).toNatClampNeg) := if_neg (by omega)
          rw [e3]
          exact Or.inr q
  · exact hG
theorem pinn_gd {h : Nat → Nat} {g : Nat → Nat → Int32} {t : Nat → Int32} {n P i : Nat} {BY : (Nat → Int32) × (Nat → Int32)} (hn : n ≤ 120) (hP : P ≤ 60) (hi : i < n) (hG : pGd h n P i BY) : ∀ k : Nat, k ≤ P → pGd h n P i (pinn h g t n i BY k)
  | 0, _ => hG
  | k + 1, hk => pstep_gd hn hP hi (by omega) (pinn_gd hn hP hi hG k (by omega))
theorem pset_gd {h : Nat → Nat} {n P i : Nat} {BY : (Nat → Int32) × (Nat → Int32)} (hi : i < n) (hG : pGd h n P (i + 1) BY) : pGd h n P i (upd BY.1 i 1000, BY.2) := by
  refine ⟨?_, fun j h1 h2 => ?_⟩
  · show upd BY.1 i 1000 n = 0
    rw [show upd BY.1 i 1000 n = BY.1 n from if_neg (by omega)]
    exact hG.1
  · by_cases hj : j = i
    · exact Or.inl (if_pos hj)
    · unfold pGB
      dsimp only
      rw [show upd BY.1 i 1000 j = BY.1 j from if_neg hj]
      rcases hG.2 j (by omega) h2 with q | q
      · exact Or.inl q
      · rw [show upd BY.1 i 1000 (j + h (BY.2 j).toNatClampNeg) = BY.1 (j + h (BY.2 j).toNatClampNeg) from if_neg (by omega)]
        exact Or.inr q
theorem pout_gd {h : Nat → Nat} {g : Nat → Nat → Int32} {t : Nat → Int32} {n P : Nat} (hn : n ≤ 120) (hP : P ≤ 60) : ∀ d : Nat, d ≤ n → pGd h n P (n - d) (pout h g t n P d)
  | 0, _ => ⟨rfl, fun j h1 h2 => absurd h2 (by omega)⟩
  | d + 1, hd => by
    have ih := pout_gd (h := h) (g := g) (t := t) hn hP d (by omega)
    rw [show n - d = (n - 1 - d) + 1 by omega] at ih
    rw [show n - (d + 1) = n - 1 - d by omega]
    exact pinn_gd hn hP (by omega) (pset_gd (by omega) ih) P (Nat.le_refl _)
theorem pat_ok {h : Nat → Nat} {n P : Nat} {BY : (Nat → Int32) × (Nat → Int32)} (hG : pGd h n P 0 BY) (h0 : BY.1 0 ≠ 1000) : ∀ k : Nat, (k : Int) ≤ (BY.1 0).toInt → pat h BY.2 k ≤ n ∧ BY.1 (pat h BY.2 k) ≠ 1000 ∧ (BY.1 (pat h BY.2 k)).toInt + k = (BY.1 0).toInt
  | 0, _ => ⟨Nat.zero_le _, h0, by show (BY.1 0).toInt + ((0 : Nat) : Int) = _; omega⟩
  | k + 1, hk => by
    obtain ⟨a1, a2, a3⟩ := pat_ok hG h0 k (by omega)
    have z0 : (0 : Int32).toInt = 0 := by decide
    have hlt : pat h BY.2 k < n := by
      rcases Nat.lt_or_ge (pat h BY.2 k) n with q | q
      · exact q
      · have e : pat h BY.2 k = n := by omega
        rw [e, hG.1, z0] at a3
        omega
    rcases hG.2 _ (Nat.zero_le _) hlt with q | q
    · exact absurd q a2
    · show pat h BY.2 k + h (BY.2 (pat h BY.2 k)).toNatClampNeg ≤ n ∧ BY.1 (pat h BY.2 k + h (BY.2 (pat h BY.2 k)).toNatClampNeg) ≠ 1000 ∧ (BY.1 (pat h BY.2 k + h (BY.2 (pat h BY.2 k)).toNatClampNeg)).toInt + ((k + 1 : Nat) : Int) = _
      exact ⟨q.2.2.2.1, q.2.2.2.2.1, by omega⟩
theorem pat_lt {h : Nat → Nat} {n P : Nat} {BY : (Nat → Int32) × (Nat → Int32)} (hG : pGd h n P 0 BY) (h0 : BY.1 0 ≠ 1000) {k : Nat} (hk : (k : Int) < (BY.1 0).toInt) : pat h BY.2 k < n ∧ 0 ≤ (BY.2 (pat h BY.2 k)).toInt ∧ (BY.2 (pat h BY.2 k)).toInt < (P : Int) := by
  obtain ⟨a1, a2, a3⟩ := pat_ok hG h0 k (by omega)
  have z0 : (0 : Int32).toInt = 0 := by decide
  have hlt : pat h BY.2 k < n := by
    rcases Nat.lt_or_ge (pat h BY.2 k) n with q | q
    · exact q
    · have e : pat h BY.2 k = n := by omega
      rw [e, hG.1, z0] at a3
      omega
  rcases hG.2 _ (Nat.zero_le _) hlt with q | q
  · exact absurd q a2
  · exact ⟨hlt, q.2.2.2.2.2.2.1, q.2.2.2.2.2.2.2⟩
/-- what the parting reads -/
def dh (σ : St) (k : Nat) : Nat := (σ.1 18 k).toNatClampNeg
def dg (σ : St) (k m : Nat) : Int32 := if σ.1 16 k < 8 then σ.1 17 (20 * k + m) else (-1000) - nI k
def dt (σ : St) (x1 : Int32) (i : Nat) : Int32 := if 0 ≤ x1 then σ.1 20 (120 * x1.toNatClampNeg + i) else σ.1 3 i
def pBY (σ : St) (x1 x2 : Int32) : (Nat → Int32) × (Nat → Int32) := pout (dh σ) (dg σ) (dt σ x1) x2.toNatClampNeg (σ.1 0 36).toNatClampNeg x2.toNatClampNeg
def pR (σ : St) (x1 x2 : Int32) : Int32 := if (pBY σ x1 x2).1 0 = 1000 then -1 else (pBY σ x1 x2).1 0
def pP (σ : St) (x1 x2 : Int32) (k : Nat) : Int32 := (pBY σ x1 x2).2 (pat (dh σ) (pBY σ x1 x2).2 k)
theorem pBY_gd {σ0 σ : St} {x1 x2 : Int32} (hσ : K2 σ0 σ) (h1 : 0 ≤ x2.toInt) (h2 : x2.toInt ≤ 120) : pGd (dh σ) x2.toNatClampNeg (σ.1 0 36).toNatClampNeg 0 (pBY σ x1 x2) := by
  have e1 := clE (rfl : x2.toInt = x2.toInt) h1
  have b := K2.g_0_36 hσ
  have e2 := clE (rfl : (σ.1 0 36).toInt = (σ.1 0 36).toInt) b.1
  have := pout_gd (h := dh σ) (g := dg σ) (t := dt σ x1) (n := x2.toNatClampNeg) (P := (σ.1 0 36).toNatClampNeg) (by omega) (by omega) x2.toNatClampNeg (Nat.le_refl _)
  rw [Nat.sub_self] at this
  exact this
theorem pR_le {σ0 σ : St} {x1 x2 : Int32} (hσ : K2 σ0 σ) (h1 : 0 ≤ x2.toInt) (h2 : x2.toInt ≤ 120) : -1 ≤ (pR σ x1 x2).toInt ∧ (pR σ x1 x2).toInt ≤ 120 := by
  have hG := pBY_gd (x1 := x1) hσ h1 h2
  have e1 := clE (rfl : x2.toInt = x2.toInt) h1
  unfold pR
  split
  · decide
  · rename_i c
    rcases hG.val (Nat.le_refl 0) (Nat.zero_le _) with q | q
    · exact absurd q c
    · omega
theorem pP_lt {σ0 σ : St} {x1 x2 : Int32} (hσ : K2 σ0 σ) (h1 : 0 ≤ x2.toInt) (h2 : x2.toInt ≤ 120) {k : Nat} (hk : (k : Int) < (pR σ x1 x2).toInt) : 0 ≤ (pP σ x1 x2 k).toInt ∧ (pP σ x1 x2 k).toInt < (σ.1 0 36).toInt := by
  have hG := pBY_gd (x1 := x1) hσ h1 h2
  have b := K2.g_0_36 hσ
  have e2 := clE (rfl : (σ.1 0 36).toInt = (σ.1 0 36).toInt) b.1
  unfold pR at hk
  split at hk
  · have : (-1 : Int32).toInt = -1 := by decide
    omega
  · rename_i c
    have := pat_lt hG c hk
    unfold pP
    omega
def FrP (σ τ : St) : Prop := ∀ a b : Nat, ¬ (a = 24 ∨ a = 25 ∨ a = 26) → τ.1 a b = σ.1 a b
theorem FrP.u {σ τ υ : St} (h : FrP σ τ) {k j : Nat} {v : Int32} (e : υ = u1 τ k j v) (hk : k = 24 ∨ k = 25 ∨ k = 26) : FrP σ υ := fun a b q => (kq e (fun z => q (by rw [z.1]; exact hk))).trans (h a b q)
def pAg (n i : Nat) (BY : (Nat → Int32) × (Nat → Int32)) (τ : St) : Prop := ∀ j : Nat, i ≤ j → j ≤ n → τ.1 24 j = BY.1 j ∧ (j < n → BY.1 j ≠ 1000 → τ.1 25 j = BY.2 j)
theorem Rg2.q_24 (j : Nat) (v : Int32) : Rg2 24 j v := trivial
theorem Rg2.q_25 {j : Nat} {v : Int32} (h1 : 0 ≤ v.toInt) (h2 : v.toInt ≤ 59) : Rg2 25 j v := ⟨h1, h2⟩
theorem Rg2.q_26 {j : Nat} {v : Int32} (h1 : 0 ≤ v.toInt) (h2 : v.toInt ≤ 59) : Rg2 26 j v := ⟨h1, h2⟩
theorem K2.q_25 {σ0 σ : St} (h : K2 σ0 σ) (j : Nat) : 0 ≤ (σ.1 25 j).toInt ∧ (σ.1 25 j).toInt ≤ 59 := h.1.1 25 j
theorem K2.q_18 {σ0 σ : St} (h : K2 σ0 σ) (j : Nat) : 0 ≤ (σ.1 18 j).toInt ∧ (σ.1 18 j).toInt ≤ 20 := h.1.1 18 j
theorem dhE {σ0 σ : St} (h : K2 σ0 σ) (k : Nat) : (dh σ k : Int) = (σ.1 18 k).toInt ∧ dh σ k ≤ 20 := by
  have b := K2.q_18 h k
  have e := clE (rfl : (σ.1 18 k).toInt = (σ.1 18 k).toInt) b.1
  unfold dh
  omega
set_option maxHeartbeats 2000000 in
theorem pt27 {N : Nat} (hN : 4294967400 ≤ N) {x1 x2 x3 : Int32} {Q : Int32 → St → Prop} {r11 : Int32 → St → Prop} {σ0 σ : St} (hσ : K2 σ0 σ) (hp1 : -1 ≤ x1.toInt ∧ x1.toInt ≤ 19) (hp2 : 0 ≤ x2.toInt ∧ x2.toInt ≤ 120) (h3 : 0 ≤ x3.toInt) (h3' : x3.toInt < x2.toInt) {BY0 : (Nat → Int32) × (Nat → Int32)} (hG0 : pGd (dh σ) x2.toNatClampNeg (σ.1 0 36).toNatClampNeg x3.toNatClampNeg BY0) {τ : St} (hτ : K2 σ0 τ) (fτ : FrP σ τ) (aτ : pAg x2.toNatClampNeg x3.toNatClampNeg BY0 τ)
    (hr : ∀ (v : Int32) (υ : St), v.toInt = x3.toInt - 1 → K2 σ0 υ → FrP σ υ → pAg x2.toNatClampNeg x3.toNatClampNeg (pinn (dh σ) (dg σ) (dt σ x1) x2.toNatClampNeg x3.toNatClampNeg BY0 (σ.1 0 36).toNatClampNeg) υ → r11 v υ) : lo1 (fX12_parted_l27 N r11 x1 x2 x3 Q) N 0 τ := by
  have z0 : (0 : Int32).toInt = 0 := by decide
  have z1 : (1 : Int32).toInt = 1 := by decide
  have b36 := K2.g_0_36 hσ
  have en := clE (rfl : x2.toInt = x2.toInt) hp2.1
  have ei := clE (rfl : x3.toInt = x3.toInt) h3
  have eP := clE (rfl : (σ.1 0 36).toInt = (σ.1 0 36).toInt) b36.1
  generalize hn : x2.toNatClampNeg = n at *
  generalize hi : x3.toNatClampNeg = i at *
  generalize hP : (σ.1 0 36).toNatClampNeg = P at *
  refine lo1_i (fun (y : Int32) (υ : St) => K2 σ0 υ ∧ FrP σ υ ∧ 0 ≤ y.toInt ∧ y.toInt ≤ (σ.1 0 36).toInt ∧ pAg n i (pinn (dh σ) (dg σ) (dt σ x1) n i BY0 y.toNatClampNeg) υ) (fun y _ => (2147483648 - y.toInt).toNat) ?_ N 0 τ ⟨hτ, fτ, by omega, by omega, aτ⟩ (by (try dsimp only); omega)
  intro rr y υ hI ih
  obtain ⟨hυ, fυ, j1, j2, aυ⟩ := hI
  have ek := clE (rfl : y.toInt = y.toInt) j1
  have q36 : υ.1 0 36 = σ.1 0 36 := fυ 0 36 (by omega)
  unfold fX12_parted_l27
  rw [q36]
  refine ⟨fun c => ?_, fun c => ?_⟩
  · have f := (leE (rfl : (σ.1 0 36).toInt = (σ.1 0 36).toInt) (rfl : y.toInt = y.toInt)).mp c
    intro v ev
    rw [show y.toNatClampNeg = P by omega] at aυ
    exact hr v υ (by rw [ev]; exact dec1 (by omega)) hυ fυ aυ
  have f := (notleE (rfl : (σ.1 0 36).toInt = (σ.1 0 36).toInt) (rfl : y.toInt = y.toInt)).mp c
  generalize hk : y.toNatClampNeg = k at *
  have hG := pinn_gd (g := dg σ) (t := dt σ x1) (show n ≤ 120 by omega) (show P ≤ 60 by omega) (show i < n by omega) hG0 k (show k ≤ P by omega)
  have nosucc : pinn (dh σ) (dg σ) (dt σ x1) n i BY0 (k + 1) = pstep (dh σ) (dg σ) (dt σ x1) n i (pinn (dh σ) (dg σ) (dt σ x1) n i BY0 k) k := rfl
  generalize hBY : pinn (dh σ) (dg σ) (dt σ x1) n i BY0 k = BY at *
  refine ⟨inE (rfl : y.toInt = y.toInt) (by omega) (by omega), ?_⟩
  intro v12 ev12
  rw [fυ 18 k (by omega)] at ev12
  have eH := dhE hσ k
  rw [← ev12] at eH
  have hH : dh σ k = v12.toNatClampNeg := by rw [ev12]; rfl
  generalize hHk : dh σ k = H at *
  have es : (x3 + v12).toInt = (i : Int) + H := (aOkE rfl rfl (by omega) (by omega)).trans (by omega)
  have ecs : (x3 + v12).toNatClampNeg = i + H := by have := clE es (by omega); omega
  have go : ∀ υ' : St, K2 σ0 υ' → FrP σ υ' → pAg n i (pinn (dh σ) (dg σ) (dt σ x1) n i BY0 (k + 1)) υ' → fX12_parted_j220 N rr r11 x1 x2 x3 y Q υ' := by
    intro υ' h1 h2 h4 v ev
    have fv : v.toInt = y.toInt + 1 := (congrArg Int32.toInt ev).trans (aOkE rfl z1 (by omega) (by omega))
    have ev' := clE fv (by omega)
    refine ih v υ' ⟨h1, h2, by omega, by omega, ?_⟩ (by (try dsimp only); omega)
    rw [show v.toNatClampNeg = k + 1 by omega]
    exact h4
  have h148 : ∀ x6 : Int32, (x6 = 0 → ¬ (i + H ≤ n ∧ BY.1 (i + H) < 1000 ∧ ∀ m : Nat, m < H → dg σ k m = dt σ x1 (i + m))) → (x6 ≠ 0 → (i + H ≤ n ∧ BY.1 (i + H) < 1000 ∧ ∀ m : Nat, m < H → dg σ k m = dt σ x1 (i + m))) → fX12_parted_j148 N rr r11 x1 x2 x3 y v12 x6 Q υ := by
    intro x6 hno hyes
    have same : ¬ ((i + H ≤ n ∧ BY.1 (i + H) < 1000 ∧ ∀ m : Nat, m < H → dg σ k m = dt σ x1 (i + m)) ∧ (BY.1 (i + H) + 1 < BY.1 i ∨ (BY.1 (i + H) + 1 = BY.1 i ∧ dh σ (BY.2 i).toNatClampNeg < H))) → fX12_parted_j220 N rr r11 x1 x2 x3 y Q υ := by
      intro q
      refine go υ hυ fυ ?_
      rw [nosucc]
      unfold pstep
      rw [hHk, if_neg q]
      exact aυ
    unfold fX12_parted_j148
    refine ⟨fun c6 => same (fun q => hno c6 q.1), fun c6 => ?_⟩
    obtain ⟨y1, y2, y3⟩ := hyes c6
    have a1 := aυ (i + H) (by omega) y1
    have a2 := aυ i (Nat.le_refl _) (by omega)
    have y2' := (ltE (rfl : (BY.1 (i + H)).toInt = (BY.1 (i + H)).toInt) z1000).mp y2
    have hin3 : vp_in x3 121 := inE (rfl : x3.toInt = x3.toInt) (by omega) (by omega)
    have hv := hG.val (show i ≤ i + H by omega) y1
    have bb := tB (BY.1 (i + H))
    rw [ecs, a1.1, hi, a2.1]
    refine ⟨inE es (by omega) (by omega), ?_⟩
    intro v17 ev17
    have f17 : v17.toInt = (BY.1 (i + H)).toInt + 1 := (congrArg Int32.toInt ev17).trans (aOkE rfl z1 (by omega) (by omega))
    have h204 : ((i + H ≤ n ∧ BY.1 (i + H) < 1000 ∧ ∀ m : Nat, m < H → dg σ k m = dt σ x1 (i + m)) ∧ (BY.1 (i + H) + 1 < BY.1 i ∨ (BY.1 (i + H) + 1 = BY.1 i ∧ dh σ (BY.2 i).toNatClampNeg < H))) → fX12_parted_j204 N rr r11 x1 x2 x3 y v17 Q υ := by
      intro q
      unfold fX12_parted_j204
      rw [hi]
      refine ⟨hin3, fun σ1 e1 => ⟨hin3, fun σ2 e2 => ?_⟩⟩
      have k1 : K2 σ0 σ1 := by rw [e1]; exact hυ.ua (Rg2.q_24 _ _) (by decide)
      have k2 : K2 σ0 σ2 := by rw [e2]; exact k1.ua (Rg2.q_25 (by omega) (by omega)) (by decide)
      have f1 : FrP σ σ1 := fυ.u e1 (by omega)
      refine go σ2 k2 (f1.u e2 (by omega)) ?_
      rw [nosucc]
      unfold pstep
      rw [hHk, if_pos q]
      intro j hj1 hj2
      dsimp only
      rw [e2, u1_ne (by decide), u1_at, e1, u1_at, u1_ne (by decide)]
      by_cases hj : j = i
      · subst hj
        rw [show upd (υ.1 24) j v17 j = v17 from if_pos rfl, show upd BY.1 j (BY.1 (j + H) + 1) j = BY.1 (j + H) + 1 from if_pos rfl, show upd (υ.1 25) j y j = y from if_pos rfl, show upd BY.2 j (nI k) j = nI k from if_pos rfl]
        exact ⟨ev17, fun _ _ => by rw [← hk]; exact (nIcl j1).symm⟩
      · rw [show upd (υ.1 24) i v17 j = υ.1 24 j from if_neg hj, show upd BY.1 i (BY.1 (i + H) + 1) j = BY.1 j from if_neg hj, show upd (υ.1 25) i y j = υ.1 25 j from if_neg hj, show upd BY.2 i (nI k) j = BY.2 j from if_neg hj]
        exact aυ j hj1 hj2
    refine ⟨hin3, fun c7 => h204 ⟨⟨y1, y2, y3⟩, Or.inl (by rw [← ev17]; exact c7)⟩, fun c7 => ⟨hin3, fun c8 => ⟨hin3, ?_, ?_⟩, fun c8 => same (fun q => ?_)⟩⟩
    · have b25 := K2.q_25 hυ i
      exact inE (rfl : (υ.1 25 i).toInt = (υ.1 25 i).toInt) (by omega) (by omega)
    · have ne : BY.1 i ≠ 1000 := by
        intro q
        have g1 := congrArg Int32.toInt c8
        rw [q, z1000] at g1
        rcases hv with w | w
        · rw [w, z1000] at y2'
          omega
        · omega
      rw [a2.2 (by omega) ne, fυ 18 _ (by omega)]
      have eH2 := dhE hσ (BY.2 i).toNatClampNeg
      refine ⟨fun c9 => same (fun q => ?_), fun c9 => h204 ⟨⟨y1, y2, y3⟩, Or.inr ⟨by rw [← ev17]; exact c8, ?_⟩⟩⟩
      · have g := (leE (rfl : v12.toInt = v12.toInt) (rfl : (σ.1 18 (BY.2 i).toNatClampNeg).toInt = (σ.1 18 (BY.2 i).toNatClampNeg).toInt)).mp c9
        rcases q.2 with w | w
        · exact c7 (by rw [ev17]; exact w)
        · omega
      · have g := (notleE (rfl : v12.toInt = v12.toInt) (rfl : (σ.1 18 (BY.2 i).toNatClampNeg).toInt = (σ.1 18 (BY.2 i).toNatClampNeg).toInt)).mp c9
        omega
    · rcases q.2 with w | w
      · exact c7 (by rw [ev17]; exact w)
      · exact c8 (by rw [ev17]; exact w.1)
  have h73 : ∀ t0 : Int32, (t0 = 0 → ¬ (i + H ≤ n ∧ BY.1 (i + H) < 1000)) → (t0 ≠ 0 → (i + H ≤ n ∧ BY.1 (i + H) < 1000)) → fX12_parted_j73 N rr r11 x1 x2 x3 y v12 t0 Q υ := by
    intro t0 hno hyes
    unfold fX12_parted_j73
    refine lo2_i (fun (y6 y7 : Int32) (τ' : St) => τ' = υ ∧ 0 ≤ y7.toInt ∧ (y6 = 0 → ¬ (i + H ≤ n ∧ BY.1 (i + H) < 1000 ∧ ∀ m : Nat, m < H → dg σ k m = dt σ x1 (i + m))) ∧ (y6 ≠ 0 → (i + H ≤ n ∧ BY.1 (i + H) < 1000) ∧ ∀ m : Nat, (m : Int) < y7.toInt → dg σ k m = dt σ x1 (i + m))) (fun _ y7 _ => (2147483648 - y7.toInt).toNat) ?_ N t0 0 υ ⟨rfl, by omega, fun q w => hno q ⟨w.1, w.2.1⟩, fun q => ⟨hyes q, fun m hm => absurd hm (by omega)⟩⟩ (by (try dsimp only); omega)
    intro r78 y6 y7 τ' hI2 ih2
    obtain ⟨rfl, l1, l2, l3⟩ := hI2
    unfold fX12_parted_l78
    refine ⟨fun c1 => h148 y6 l2 (fun q => ⟨(l3 q).1.1, (l3 q).1.2, fun m hm => (l3 q).2 m ?_⟩), fun c1 => ⟨fun c2 => h148 y6 l2 (fun q => absurd c2 q), fun c2 => ?_⟩⟩
    · have g := (leE (rfl : v12.toInt = v12.toInt) (rfl : y7.toInt = y7.toInt)).mp c1
      omega
    have g := (notleE (rfl : v12.toInt = v12.toInt) (rfl : y7.toInt = y7.toInt)).mp c1
    obtain ⟨⟨w1, w2⟩, w3⟩ := l3 c2
    have em := clE (rfl : y7.toInt = y7.toInt) l1
    generalize hm : y7.toNatClampNeg = m at *
    have h120 : ∀ c : Int32, c = dt σ x1 (i + m) → fX12_parted_j120 N r78 rr r11 x1 x2 x3 y v12 y7 c Q τ' := by
      intro c ec
      have fin : ∀ r : Int32, r = dg σ k m → ((r = c → fX12_parted_j140 N r78 rr r11 x1 x2 x3 y v12 y7 1 Q τ') ∧ (¬ r = c → fX12_parted_j140 N r78 rr r11 x1 x2 x3 y v12 y7 0 Q τ')) := by
        intro r er
        refine ⟨fun q => ?_, fun q => ?_⟩
        · intro v ev
          have fv : v.toInt = y7.toInt + 1 := (congrArg Int32.toInt ev).trans (aOkE rfl z1 (by omega) (by omega))
          refine ih2 1 v τ' ⟨rfl, by omega, fun q => absurd q (by decide), fun _ => ⟨⟨w1, w2⟩, fun m' hm' => ?_⟩⟩ (by (try dsimp only); omega)
          by_cases e : m' = m
          · rw [e, ← er, ← ec]; exact q
          · exact w3 m' (by omega)
        · intro v ev
          have fv : v.toInt = y7.toInt + 1 := (congrArg Int32.toInt ev).trans (aOkE rfl z1 (by omega) (by omega))
          refine ih2 0 v τ' ⟨rfl, by omega, fun _ w => q ?_, fun q => absurd rfl q⟩ (by (try dsimp only); omega)
          rw [er, ec]
          exact w.2.2 m (by omega)
      have hinx : ((20 * y) + y7).toInt = 20 * y.toInt + y7.toInt := aOkE (mOkE (show (20 : Int32).toInt = 20 from by decide) (rfl : y.toInt = y.toInt) (by omega) (by omega)) (rfl : y7.toInt = y7.toInt) (by omega) (by omega)
      have hcx := clE hinx (by omega)
      unfold fX12_parted_j120 fX12_signOf
      rw [hk, fυ 16 k (by omega), show ((20 * y) + y7).toNatClampNeg = 20 * k + m by omega, fυ 17 _ (by omega)]
      refine ⟨inE (rfl : y.toInt = y.toInt) (by omega) (by omega), fun q => ⟨inE hinx (by omega) (by omega), fin _ ?_⟩, fun q => fin _ ?_⟩
      · unfold dg
        rw [if_pos q]
      · unfold dg
        rw [if_neg q, ← hk, nIcl j1]
    refine ⟨fun c3 => ?_, fun c3 => ?_⟩
    · have g3 := (leE z0 (rfl : x1.toInt = x1.toInt)).mp c3
      have e1 := clE (rfl : x1.toInt = x1.toInt) g3
      have hinx : (((120 * x1) + x3) + y7).toInt = 120 * x1.toInt + x3.toInt + y7.toInt := aOkE (aOkE (mOkE (show (120 : Int32).toInt = 120 from by decide) (rfl : x1.toInt = x1.toInt) (by omega) (by omega)) (rfl : x3.toInt = x3.toInt) (by omega) (by omega)) (rfl : y7.toInt = y7.toInt) (by omega) (by omega)
      have hcx := clE hinx (by omega)
      refine ⟨inE hinx (by omega) (by omega), h120 _ ?_⟩
      unfold dt
      rw [if_pos c3, show (((120 * x1) + x3) + y7).toNatClampNeg = 120 * x1.toNatClampNeg + (i + m) by omega]
      exact fυ 20 _ (by omega)
    · have hinx : (x3 + y7).toInt = x3.toInt + y7.toInt := aOkE rfl rfl (by omega) (by omega)
      have hcx := clE hinx (by omega)
      refine ⟨inE hinx (by omega) (by omega), h120 _ ?_⟩
      unfold dt
      rw [if_neg c3, show (x3 + y7).toNatClampNeg = i + m by omega]
      exact fυ 3 _ (by omega)
  have h72 : ¬ (i + H ≤ n ∧ BY.1 (i + H) < 1000) → fX12_parted_j72 N rr r11 x1 x2 x3 y v12 Q υ := fun q => h73 0 (fun _ => q) (fun w => absurd rfl w)
  rw [ecs]
  refine ⟨fun c1 => h72 (fun q => ?_), fun c1 => ⟨?_, fun c2 => h72 (fun q => ?_), fun c2 => h73 1 (fun q => absurd q (by decide)) (fun _ => ⟨?_, ?_⟩)⟩⟩
  · have g := (ltE (rfl : x2.toInt = x2.toInt) es).mp c1
    omega
  · have g := (notltE (rfl : x2.toInt = x2.toInt) es).mp c1
    exact inE es (by omega) (by omega)
  · have g1 := (notltE (rfl : x2.toInt = x2.toInt) es).mp c1
    rw [(aυ (i + H) (by omega) (by omega)).1] at c2
    have g2 := (leE z1000 (rfl : (BY.1 (i + H)).toInt = (BY.1 (i + H)).toInt)).mp c2
    have g3 := (ltE (rfl : (BY.1 (i + H)).toInt = (BY.1 (i + H)).toInt) z1000).mp q.2
    omega
  · have g := (notltE (rfl : x2.toInt = x2.toInt) es).mp c1
    omega
  · have g1 := (notltE (rfl : x2.toInt = x2.toInt) es).mp c1
    rw [(aυ (i + H) (by omega) (by omega)).1] at c2
    have g2 := (notleE z1000 (rfl : (BY.1 (i + H)).toInt = (BY.1 (i + H)).toInt)).mp c2
    exact (ltE (rfl : (BY.1 (i + H)).toInt = (BY.1 (i + H)).toInt) z1000).mpr (by omega)
set_option maxHeartbeats 2000000 in
theorem sX12_partedX {N : Nat} (hN : 4294967400 ≤ N) {x1 x2 : Int32} {Q : Int32 → St → Prop} {σ0 σ : St} (hp1 : -1 ≤ x1.toInt ∧ x1.toInt ≤ 19) (hp2 : 0 ≤ x2.toInt ∧ x2.toInt ≤ 120) (hσ : K2 σ0 σ) (hQ : ∀ (r : Int32) (τ : St), K2 σ0 τ → FrP σ τ → r = pR σ x1 x2 → (∀ k : Nat, (k : Int) < r.toInt → τ.1 26 k = pP σ x1 x2 k) → Q r τ) : fX12_parted N x1 x2 Q σ := by
  have z0 : (0 : Int32).toInt = 0 := by decide
  have z1 : (1 : Int32).toInt = 1 := by decide
  have zc0 : (0 : Int32).toNatClampNeg = 0 := by decide
  have b36 := K2.g_0_36 hσ
  have en := clE (rfl : x2.toInt = x2.toInt) hp2.1
  have eP := clE (rfl : (σ.1 0 36).toInt = (σ.1 0 36).toInt) b36.1
  have hGf := pBY_gd (x1 := x1) hσ hp2.1 hp2.2
  have hin0 : vp_in 0 121 := inE z0 (by omega) (by omega)
  unfold fX12_parted
  refine ⟨inE (rfl : x2.toInt = x2.toInt) (by omega) (by omega), ?_⟩
  intro σ2 e2 v3 ev3
  have f3 : v3.toInt = x2.toInt - 1 := (congrArg Int32.toInt ev3).trans (sOkE rfl z1 (by omega) (by omega))
  have k2 : K2 σ0 σ2 := by rw [e2]; exact hσ.ua (Rg2.q_24 _ _) (by decide)
  have fr2 : FrP σ σ2 := FrP.u (fun _ _ _ => rfl) e2 (by omega)
  refine lo1_i (fun (y : Int32) (τ : St) => K2 σ0 τ ∧ FrP σ τ ∧ -1 ≤ y.toInt ∧ y.toInt < x2.toInt ∧ pAg x2.toNatClampNeg (y.toInt + 1).toNat (pout (dh σ) (dg σ) (dt σ x1) x2.toNatClampNeg (σ.1 0 36).toNatClampNeg (x2.toNatClampNeg - (y.toInt + 1).toNat)) τ) (fun y _ => (y.toInt + 1).toNat) ?_ N v3 σ2 ⟨k2, fr2, by omega, by omega, ?_⟩ (by (try dsimp only); omega)
  · intro r11 y τ hI ih
    obtain ⟨hτ, fτ, i1, i2, aτ⟩ := hI
    unfold fX12_parted_l11
    rw [zc0]
    refine ⟨fun c => ⟨hin0, ?_⟩, fun c => ?_⟩
    · have g := (ltE (rfl : y.toInt = y.toInt) z0).mp c
      rw [show (y.toInt + 1).toNat = 0 by omega, Nat.sub_zero] at aτ
      have aτ' : pAg x2.toNatClampNeg 0 (pBY σ x1 x2) τ := aτ
      have a0 := aτ' 0 (Nat.le_refl _) (Nat.zero_le _)
      rw [a0.1]
      refine ⟨fun c2 => ?_, fun c2 => ?_⟩
      · refine hQ (-1) τ hτ fτ (by unfold pR; rw [if_pos c2]) (fun k hk => ?_)
        have : (-1 : Int32).toInt = -1 := by decide
        omega
      · have hR : pR σ x1 x2 = (pBY σ x1 x2).1 0 := by unfold pR; rw [if_neg c2]
        have hB0 : (0 : Int) ≤ ((pBY σ x1 x2).1 0).toInt ∧ ((pBY σ x1 x2).1 0).toInt ≤ x2.toInt := by
          rcases hGf.val (Nat.le_refl 0) (Nat.zero_le _) with q | q
          · exact absurd q c2
          · omega
        refine lo2_i (fun (a kk : Int32) (υ : St) => K2 σ0 υ ∧ FrP σ υ ∧ υ.1 24 = τ.1 24 ∧ υ.1 25 = τ.1 25 ∧ 0 ≤ kk.toInt ∧ kk.toInt ≤ ((pBY σ x1 x2).1 0).toInt ∧ a.toInt = (pat (dh σ) (pBY σ x1 x2).2 kk.toNatClampNeg : Int) ∧ ∀ k : Nat, (k : Int) < kk.toInt → υ.1 26 k = pP σ x1 x2 k) (fun _ kk _ => (2147483648 - kk.toInt).toNat) ?_ N 0 0 τ ⟨hτ, fτ, rfl, rfl, by omega, by omega, by rw [zc0]; exact z0, fun k hk => absurd hk (by omega)⟩ (by (try dsimp only); omega)
        intro rr a kk υ hI2 ih2
        obtain ⟨hυ, fυ, u24, u25, l1, l2, l3, l4⟩ := hI2
        unfold fX12_parted_l251
        rw [zc0, u24, a0.1]
        refine ⟨hin0, fun c3 => ⟨hin0, ?_⟩, fun c3 => ?_⟩
        · have g3 := (leE (rfl : ((pBY σ x1 x2).1 0).toInt = ((pBY σ x1 x2).1 0).toInt) (rfl : kk.toInt = kk.toInt)).mp c3
          exact hQ _ υ hυ fυ hR.symm (fun k hk => l4 k (by omega))
        · have g3 := (notleE (rfl : ((pBY σ x1 x2).1 0).toInt = ((pBY σ x1 x2).1 0).toInt) (rfl : kk.toInt = kk.toInt)).mp c3
          have ek := clE (rfl : kk.toInt = kk.toInt) l1
          generalize hk : kk.toNatClampNeg = k at *
          have hok := pat_ok hGf c2 k (by omega)
          have hlt := pat_lt hGf c2 (k := k) (by omega)
          have ea := clE l3 (by omega)
          have ea' : a.toNatClampNeg = pat (dh σ) (pBY σ x1 x2).2 k := by omega
          have ain : vp_in a 121 := inE l3 (by omega) (by omega)
          have hy : υ.1 25 (pat (dh σ) (pBY σ x1 x2).2 k) = pP σ x1 x2 k := by
            rw [u25]
            exact (aτ' _ (Nat.zero_le _) hok.1).2 hlt.1 hok.2.1
          have hpr : 0 ≤ (pP σ x1 x2 k).toInt ∧ (pP σ x1 x2 k).toInt < (σ.1 0 36).toInt := pP_lt hσ hp2.1 hp2.2 (by rw [hR]; omega)
          rw [ea', hy]
          refine ⟨ain, ?_⟩
          intro v11 ev11
          refine ⟨inE (rfl : kk.toInt = kk.toInt) (by omega) (by omega), ?_⟩
          intro σ3 e3
          have k3 : K2 σ0 σ3 := by rw [e3]; exact hυ.ua (Rg2.q_26 (by rw [ev11]; omega) (by rw [ev11]; omega)) (by decide)
          have f3 : FrP σ σ3 := fυ.u e3 (by omega)
          have r25 : σ3.1 25 = υ.1 25 := by rw [e3]; exact u1_ne (by decide)
          rw [r25, hy]
          refine ⟨ain, inE (rfl : (pP σ x1 x2 k).toInt = (pP σ x1 x2 k).toInt) (by omega) (by omega), ?_⟩
          intro v16 ev16 v17 ev17
          rw [f3 18 _ (by omega)] at ev16
          have eH := dhE hσ (pP σ x1 x2 k).toNatClampNeg
          have f16 : v16.toInt = a.toInt + (dh σ (pP σ x1 x2 k).toNatClampNeg : Int) := (congrArg Int32.toInt ev16).trans (aOkE rfl eH.1.symm (by omega) (by omega))
          have f17 : v17.toInt = kk.toInt + 1 := (congrArg Int32.toInt ev17).trans (aOkE rfl z1 (by omega) (by omega))
          have e17 := clE f17 (by omega)
          refine ih2 v16 v17 σ3 ⟨k3, f3, ?_, r25.trans u25, by omega, by omega, ?_, fun k' hk' => ?_⟩ (by (try dsimp only); omega)
          · rw [e3, u1_ne (by decide)]; exact u24
          · rw [show v17.toNatClampNeg = k + 1 by omega, f16, l3]
            show _ = ((pat (dh σ) (pBY σ x1 x2).2 k + dh σ ((pBY σ x1 x2).2 (pat (dh σ) (pBY σ x1 x2).2 k)).toNatClampNeg : Nat) : Int)
            rw [show (pBY σ x1 x2).2 (pat (dh σ) (pBY σ x1 x2).2 k) = pP σ x1 x2 k from rfl]
            omega
          · rw [e3, u1_at]
            by_cases e : k' = k
            · rw [show upd (υ.1 26) k v11 k' = v11 from if_pos e, ev11, e]
            · rw [show upd (υ.1 26) k v11 k' = υ.1 26 k' from if_neg e]
              exact l4 k' (by omega)
    · have g := (notltE (rfl : y.toInt = y.toInt) z0).mp c
      refine ⟨inE (rfl : y.toInt = y.toInt) (by omega) (by omega), ?_⟩
      intro σ3 e3
      have k3 : K2 σ0 σ3 := by rw [e3]; exact hτ.ua (Rg2.q_24 _ _) (by decide)
      have f3 : FrP σ σ3 := fτ.u e3 (by omega)
      have ey := clE (rfl : y.toInt = y.toInt) (by omega)
      have hd : x2.toNatClampNeg - (y.toInt + 1).toNat + 1 ≤ x2.toNatClampNeg := by omega
      have hi : x2.toNatClampNeg - 1 - (x2.toNatClampNeg - (y.toInt + 1).toNat) = y.toNatClampNeg := by omega
      have hG := pout_gd (h := dh σ) (g := dg σ) (t := dt σ x1) (n := x2.toNatClampNeg) (P := (σ.1 0 36).toNatClampNeg) (by omega) (by omega) (x2.toNatClampNeg - (y.toInt + 1).toNat) (by omega)
      rw [show x2.toNatClampNeg - (x2.toNatClampNeg - (y.toInt + 1).toNat) = y.toNatClampNeg + 1 by omega] at hG
      refine pt27 hN hσ hp1 hp2 (by omega) i2 (pset_gd (by omega) hG) k3 f3 ?_ (fun v υ hv hυ fυ aυ => ?_)
      · intro j h1 h2
        rw [e3, u1_at, u1_ne (by decide)]
        dsimp only
        by_cases hj : j = y.toNatClampNeg
        · rw [show upd (τ.1 24) y.toNatClampNeg 1000 j = 1000 from if_pos hj, show upd (pout (dh σ) (dg σ) (dt σ x1) x2.toNatClampNeg (σ.1 0 36).toNatClampNeg (x2.toNatClampNeg - (y.toInt + 1).toNat)).1 y.toNatClampNeg 1000 j = 1000 from if_pos hj]
          exact ⟨rfl, fun _ q => absurd rfl q⟩
        · rw [show upd (τ.1 24) y.toNatClampNeg 1000 j = τ.1 24 j from if_neg hj, show upd (pout (dh σ) (dg σ) (dt σ x1) x2.toNatClampNeg (σ.1 0 36).toNatClampNeg (x2.toNatClampNeg - (y.toInt + 1).toNat)).1 y.toNatClampNeg 1000 j = (pout (dh σ) (dg σ) (dt σ x1) x2.toNatClampNeg (σ.1 0 36).toNatClampNeg (x2.toNatClampNeg - (y.toInt + 1).toNat)).1 j from if_neg hj]
          exact aτ j (by omega) h2
      · refine ih v υ ⟨hυ, fυ, by omega, by omega, ?_⟩ (by (try dsimp only); omega)
        rw [show (v.toInt + 1).toNat = y.toNatClampNeg by omega, show x2.toNatClampNeg - y.toNatClampNeg = (x2.toNatClampNeg - (y.toInt + 1).toNat) + 1 by omega]
        show pAg _ _ (pinn (dh σ) (dg σ) (dt σ x1) x2.toNatClampNeg (x2.toNatClampNeg - 1 - (x2.toNatClampNeg - (y.toInt + 1).toNat)) _ _) υ
        rw [hi]
        exact aυ
  · rw [show (v3.toInt + 1).toNat = x2.toNatClampNeg by omega, Nat.sub_self]
    intro j h1 h2
    have ej : j = x2.toNatClampNeg := by omega
    subst ej
    refine ⟨?_, fun q => absurd q (by omega)⟩
    rw [e2, u1_at]
    exact if_pos rfl
theorem sX12_parted {N : Nat} (hN : 4294967400 ≤ N) {x1 : Int32} {x2 : Int32} {Q : Int32 → St → Prop} {σ0 σ : St} (hp1 : -1 ≤ x1.toInt ∧ x1.toInt ≤ 19) (hp2 : 0 ≤ x2.toInt ∧ x2.toInt ≤ 120) (hσ : K2 σ0 σ) (hQ : ∀ (r : Int32) (τ : St), K2 σ0 τ → (τ.1 0 14 = σ.1 0 14 ∧ τ.1 0 9 = σ.1 0 9 ∧ τ.1 0 35 = σ.1 0 35 ∧ τ.1 0 24 = σ.1 0 24 ∧ τ.1 0 36 = σ.1 0 36 ∧ τ.1 0 41 = σ.1 0 41 ∧ τ.1 0 50 = σ.1 0 50 ∧ τ.1 0 51 = σ.1 0 51) → True → Q r τ) : fX12_parted N x1 x2 Q σ :=
  sX12_partedX hN hp1 hp2 hσ (fun r τ k f _ _ => hQ r τ k ⟨f 0 14 (by omega), f 0 9 (by omega), f 0 35 (by omega), f 0 24 (by omega), f 0 36 (by omega), f 0 41 (by omega), f 0 50 (by omega), f 0 51 (by omega)⟩ trivial)
