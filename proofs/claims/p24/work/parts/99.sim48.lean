section SIM48
variable {N : Nat} {a b σ0 : St}
/-- bytes written into a memory -/
def wB (M : Nat → Int32) (x : Nat) (v : Int32) : Nat → Int32 := upd M x (v &&& 255)
def wF (M : Nat → Int32) (x : Nat) (v : Int32) : Nat → Int32 := wB (wB (wB (wB M x (v >>> 24)) (x + 1) (v >>> 16)) (x + 2) (v >>> 8)) (x + 3) v
/-- the class's memory, the reference's -/
def MC (τ : St) (M : Nat → Int32) : Prop := ∀ i : Nat, i < 4096 → (τ.1 12 i) &&& 255 = M i
def MR (τ : St) (M : Nat → Int32) : Prop := ∀ i : Nat, i < 4096 → τ.1 1 i = M i
/-- all but the class's bytes -/
def FrM (σ τ : St) : Prop := (∀ c i : Nat, c ≠ 12 → τ.1 c i = σ.1 c i) ∧ τ.2 = σ.2
theorem FrM.tr {σ τ υ : St} (h : FrM σ τ) (h2 : FrM τ υ) : FrM σ υ := ⟨fun c i q => (h2.1 c i q).trans (h.1 c i q), h2.2.trans h.2⟩
theorem c_put {x v : Int32} {k : Nat} {M : Nat → Int32} {τ : St} (ex : x.toInt = k) (hk : k < 4096) (hM : MC τ M) {Q : St → Prop} (hQ : ∀ υ : St, FrM τ υ → MC υ (wB M k v) → Q υ) : fX3_putByte N x v Q τ := by
  have z0 : (0 : Int32).toInt = 0 := by decide
  have zm : (4096 : Int32).toInt = 4096 := by decide
  have cx : x.toNatClampNeg = k := by have := clE ex (by omega); omega
  unfold fX3_putByte
  refine ⟨fun c => ?_, fun _ => ⟨fun c => ?_, fun _ v3 e3 => ⟨inE ex (by omega) (by omega), fun s5 e5 => ?_⟩⟩⟩
  · have := (ltE ex z0).mp c
    omega
  · have := (leE zm ex).mp c
    omega
  · rw [cx] at e5
    refine hQ s5 ⟨fun c i q => by rw [e5, u1e (fun z => q z.1)], by rw [e5]; rfl⟩ (fun i hi => ?_)
    rw [e5]
    by_cases e : i = k
    · rw [e, u1v, e3, nar255]
      exact up1.symm
    · rw [u1e (by omega), hM i hi]
      exact (up2 e).symm
theorem c_putF {x v : Int32} {k : Nat} {M : Nat → Int32} {τ : St} (ex : x.toInt = k) (hk : k + 3 < 4096) (hM : MC τ M) {Q : St → Prop} (hQ : ∀ υ : St, FrM τ υ → MC υ (wF M k v) → Q υ) : fX3_putFour N x v Q τ := by
  have z1 : (x + 1).toInt = (k + 1 : Nat) := aOkE ex (show (1 : Int32).toInt = 1 from by decide) (by omega) (by omega)
  have z2 : (x + 2).toInt = (k + 2 : Nat) := aOkE ex (show (2 : Int32).toInt = 2 from by decide) (by omega) (by omega)
  have z3 : (x + 3).toInt = (k + 3 : Nat) := aOkE ex (show (3 : Int32).toInt = 3 from by decide) (by omega) (by omega)
  unfold fX3_putFour
  refine c_put ex (by omega) hM (fun s1 f1 m1 => c_put z1 (by omega) m1 (fun s2 f2 m2 => c_put z2 (by omega) m2 (fun s3 f3 m3 => c_put z3 (by omega) m3 (fun s4 f4 m4 => hQ s4 (((f1.tr f2).tr f3).tr f4) m4))))
/-- the reference tells bytes -/
theorem e_put {x v : Int32} {k : Nat} {M : Nat → Int32} {τ : St} (ex : x.toInt = k) (hk : k < 4096) (hM : MR τ M) (hτ : K2 σ0 τ) {Q : St → Prop} (hQ : ∀ υ : St, K2 σ0 υ → FrT τ υ → MR υ (wB M k v) → Q υ) : fX12_tell N x v Q τ := by
  have cx : x.toNatClampNeg = k := by have := clE ex (by omega); omega
  refine e_tell (by omega) (by omega) hτ (fun υ kυ fυ mυ => hQ υ kυ fυ (fun i hi => ?_))
  rw [mυ, cx]
  by_cases e : i = k
  · rw [e, up1]
    exact up1.symm
  · rw [up2 e, hM i hi]
    exact (up2 e).symm
theorem e_putF (hN : 4294967400 ≤ N) {x v : Int32} {k : Nat} {M : Nat → Int32} {τ : St} (ex : x.toInt = k) (hk : k + 3 < 4096) (hM : MR τ M) (hτ : K2 σ0 τ) {Q : St → Prop} (hQ : ∀ υ : St, K2 σ0 υ → FrT τ υ → MR υ (wF M k v) → Q υ) : fX12_tellFour N x v Q τ := by
  have z0 : (x + 0).toInt = (k : Nat) := aOkE ex (show (0 : Int32).toInt = 0 from by decide) (by omega) (by omega)
  have z1 : (x + 1).toInt = (k + 1 : Nat) := aOkE ex (show (1 : Int32).toInt = 1 from by decide) (by omega) (by omega)
  have z2 : (x + 2).toInt = (k + 2 : Nat) := aOkE ex (show (2 : Int32).toInt = 2 from by decide) (by omega) (by omega)
  have z3 : (x + 3).toInt = (k + 3 : Nat) := aOkE ex (show (3 : Int32).toInt = 3 from by decide) (by omega) (by omega)
  obtain ⟨M', rfl⟩ : ∃ m, N = m + 5 := ⟨N - 5, by omega⟩
  unfold fX12_tellFour
  refine ⟨fun c => absurd c (by decide), fun _ => e_put z0 (by omega) hM hτ (fun s1 k1 f1 m1 v1 e1 => ?_)⟩
  rw [show (v1 : Int32) = 1 from e1.trans (by decide)]
  refine ⟨fun c => absurd c (by decide), fun _ => e_put z1 (by omega) m1 k1 (fun s2 k2 f2 m2 v2 e2 => ?_)⟩
  rw [show (v2 : Int32) = 2 from e2.trans (by decide)]
  refine ⟨fun c => absurd c (by decide), fun _ => e_put z2 (by omega) m2 k2 (fun s3 k3 f3 m3 v3 e3 => ?_)⟩
  rw [show (v3 : Int32) = 3 from e3.trans (by decide)]
  refine ⟨fun c => absurd c (by decide), fun _ => e_put z3 (by omega) m3 k3 (fun s4 k4 f4 m4 v4 e4 => ?_)⟩
  rw [show (v4 : Int32) = 4 from e4.trans (by decide)]
  refine ⟨fun _ => hQ s4 k4 (((f1.tr f2).tr f3).tr f4) ?_, fun c => absurd (by decide) c⟩
  have e24 : v >>> ((24 - 8 * (0 : Int32)) &&& 31) = v >>> 24 := rfl
  have e16 : v >>> ((24 - 8 * (1 : Int32)) &&& 31) = v >>> 16 := rfl
  have e8 : v >>> ((24 - 8 * (2 : Int32)) &&& 31) = v >>> 8 := rfl
  have e0 : v >>> ((24 - 8 * (3 : Int32)) &&& 31) = v := by
    rw [show ((24 - 8 * (3 : Int32)) &&& 31) = 0 from by decide]
    exact Int32.shiftRight_zero
  rw [e24, e16, e8, e0] at m4
  exact m4
/-- a row of bytes, of fours -/
def rB (h : Nat → Int32) (M : Nat → Int32) (x : Nat) : Nat → Nat → Int32
  | 0 => M
  | i + 1 => wB (rB h M x i) (x + i) (h i)
def rF (h : Nat → Int32) (M : Nat → Int32) (x : Nat) : Nat → Nat → Int32
  | 0 => M
  | i + 1 => wF (rF h M x i) (x + 4 * i) (h i)
theorem rB_ext {h h' : Nat → Int32} {M : Nat → Int32} {x : Nat} : ∀ n : Nat, (∀ i : Nat, i < n → h i = h' i) → rB h M x n = rB h' M x n
  | 0, _ => rfl
  | n + 1, k => by
    show wB (rB h M x n) (x + n) (h n) = wB (rB h' M x n) (x + n) (h' n)
    rw [rB_ext n (fun i hi => k i (by omega)), k n (by omega)]
theorem rF_ext {h h' : Nat → Int32} {M : Nat → Int32} {x : Nat} : ∀ n : Nat, (∀ i : Nat, i < n → h i = h' i) → rF h M x n = rF h' M x n
  | 0, _ => rfl
  | n + 1, k => by
    show wF (rF h M x n) (x + 4 * n) (h n) = wF (rF h' M x n) (x + 4 * n) (h' n)
    rw [rF_ext n (fun i hi => k i (by omega)), k n (by omega)]
def hd (b : St) (p i : Nat) : Int32 := b.1 17 (20 * p + i)
/-- a piece's node -/
def pW (b : St) (p x : Nat) (M : Nat → Int32) : Nat → Int32 :=
  if (b.1 16 p).toInt ≤ 3 then
    (if b.1 16 p = 3 then wB (rB (hd b p) (wB M x (b.1 16 p)) (x + 1) (dh b p)) (x + 1 + dh b p) 0 else rB (hd b p) (wB M x (b.1 16 p)) (x + 1) (dh b p))
  else
    (if b.1 16 p = 5 then wF (rF (hd b p) (wB M x (b.1 16 p)) (x + 1) (dh b p)) (x + 1 + 4 * dh b p) 0 else rF (hd b p) (wB M x (b.1 16 p)) (x + 1) (dh b p))
/-- the reference lays a piece -/
theorem e_piece (hN : 4294967400 ≤ N) {x3 v2 : Int32} {p k : Nat} {M : Nat → Int32} {Q : St → Prop} {τ : St} (ep : x3.toInt = p) (hp : p < 60) (e2 : v2.toInt = k) (hS : (k : Int) + szf b p ≤ 4096) (pi : (b.1 16 p).toInt = 3 ∨ (b.1 16 p).toInt = 5 ∨ (((b.1 16 p).toInt = 2 ∨ (b.1 16 p).toInt = 4 ∨ (b.1 16 p).toInt = 8 ∨ (b.1 16 p).toInt = 9) ∧ (b.1 18 p).toInt = 1)) (hb : K2 σ0 b) (hτ : K2 σ0 τ) (fτ : ∀ c i : Nat, c = 16 ∨ c = 17 ∨ c = 18 → τ.1 c i = b.1 c i) (hM : MR τ M) {x4 : Int32} (h4 : (x4 = 0 ∧ 3 < (b.1 16 p).toInt) ∨ (x4 ≠ 0 ∧ (b.1 16 p).toInt ≤ 3)) (hQ : ∀ υ : St, K2 σ0 υ → FrT τ υ → MR υ (pW b p k M) → Q υ) : fX12_lay_j101 N v2 x3 x4 Q τ := by
  have z0 : (0 : Int32).toInt = 0 := by decide
  have o1 : (1 : Int32).toInt = 1 := by decide
  have o3 : (3 : Int32).toInt = 3 := by decide
  have o4 : (4 : Int32).toInt = 4 := by decide
  have o5 : (5 : Int32).toInt = 5 := by decide
  have o20 : (20 : Int32).toInt = 20 := by decide
  have cp : x3.toNatClampNeg = p := by have := clE ep (by omega); omega
  have hin : vp_in x3 60 := inE ep (by omega) (by omega)
  have dl := dhE hb p
  have q3 : b.1 16 p = 3 ↔ (b.1 16 p).toInt = 3 := eqE rfl o3
  have q5 : b.1 16 p = 5 ↔ (b.1 16 p).toInt = 5 := eqE rfl o5
  unfold szf at hS
  unfold fX12_lay_j101
  rw [cp, fτ 16 p (by omega)]
  refine ⟨hin, e_put e2 (by split at hS <;> (try split at hS) <;> (try split at hS) <;> omega) hM hτ (fun s1 k1 f1 m1 v12 e12 => ?_)⟩
  have g1 : ∀ c i : Nat, c = 16 ∨ c = 17 ∨ c = 18 → s1.1 c i = b.1 c i := fun c i q => (f1 c i (by omega)).trans (fτ c i q)
  rcases h4 with ⟨hx, hk⟩ | ⟨hx, hk⟩
  · -- fours
    rw [if_neg (by omega), if_neg (by omega)] at hS
    have f12 : v12.toInt = (k : Int) + 1 := (congrArg Int32.toInt e12).trans (aOkE e2 o1 (by split at hS <;> omega) (by split at hS <;> omega))
    have hS4 : (k : Int) + 1 + 4 * (dh b p : Int) + (if (b.1 16 p).toInt = 5 then 4 else 0) ≤ 4096 := by
      rcases pi with w | w | w
      · omega
      · rw [if_pos w] at hS ⊢; omega
      · rw [if_neg (by omega)] at hS ⊢; omega
    refine lo2_i (fun (x y : Int32) (υ : St) => K2 σ0 υ ∧ FrT τ υ ∧ 0 ≤ y.toInt ∧ y.toInt ≤ dh b p ∧ x.toInt = (k : Int) + 1 + 4 * y.toInt ∧ MR υ (rF (hd b p) (wB M k (b.1 16 p)) (k + 1) y.toNatClampNeg)) (fun _ y _ => ((dh b p : Int) - y.toInt).toNat) ?_ N v12 0 s1 ⟨k1, f1, by omega, by omega, by omega, m1⟩ (by (try dsimp only); omega)
    intro rr x y υ hI ih
    obtain ⟨hυ, fυ, i1, i2, i3, i4⟩ := hI
    have ey := clE (rfl : y.toInt = y.toInt) i1
    have gυ : ∀ c i : Nat, c = 16 ∨ c = 17 ∨ c = 18 → υ.1 c i = b.1 c i := fun c i q => (fυ c i (by omega)).trans (fτ c i q)
    have e18 : (υ.1 18 p).toInt = dh b p := by rw [gυ _ _ (by omega)]; omega
    unfold fX12_lay_l120
    rw [cp, gυ 16 p (by omega)]
    refine ⟨hin, fun d => ⟨hin, fun g => ?_, fun g => ?_⟩, fun d => ⟨fun _ => ?_, fun g => absurd hx g⟩⟩
    · have := q3.mp g
      omega
    · have d' := (leE e18 (rfl : y.toInt = y.toInt)).mp d
      have eyd : y.toNatClampNeg = dh b p := by omega
      rw [eyd] at i4
      unfold fX12_lay_j208
      rw [cp, gυ 16 p (by omega)]
      refine ⟨hin, fun q => ?_, fun q => hQ υ hυ fυ ?_⟩
      · have q' := q5.mp q
        rw [if_pos q'] at hS4
        refine e_putF hN (k := k + 1 + 4 * dh b p) (by rw [i3]; omega) (by omega) i4 hυ (fun ω kω fω mω => hQ ω kω (fυ.tr fω) ?_)
        unfold pW
        rw [if_neg (by omega), if_pos q]
        exact mω
      · unfold pW
        rw [if_neg (by omega), if_neg q]
        exact i4
    · have d' := (notleE e18 (rfl : y.toInt = y.toInt)).mp d
      have es : (20 * x3 + y).toInt = 20 * (p : Int) + y.toInt := aOkE (mOkE o20 ep (by omega) (by omega)) rfl (by omega) (by omega)
      have cs : (20 * x3 + y).toNatClampNeg = 20 * p + y.toNatClampNeg := by have := clE es (by omega); omega
      rw [cs, gυ 17 _ (by omega)]
      refine ⟨inE es (by omega) (by omega), e_putF hN (k := k + 1 + 4 * y.toNatClampNeg) (by rw [i3]; omega) (by split at hS4 <;> omega) i4 hυ (fun ω kω fω mω => ⟨fun _ => ?_, fun q => absurd hx q⟩)⟩
      intro v22 ev22 v23 ev23
      have f22 : v22.toInt = x.toInt + 4 := (congrArg Int32.toInt ev22).trans (aOkE rfl o4 (by omega) (by omega))
      have f23 : v23.toInt = y.toInt + 1 := (congrArg Int32.toInt ev23).trans (aOkE rfl o1 (by omega) (by omega))
      have c23 : v23.toNatClampNeg = y.toNatClampNeg + 1 := by have := clE f23 (by omega); omega
      exact ih v22 v23 ω ⟨kω, fυ.tr fω, by omega, by omega, by omega, by rw [c23]; exact mω⟩ (by (try dsimp only); omega)
  · -- bytes
    have hS4 : (k : Int) + 1 + (dh b p : Int) + (if (b.1 16 p).toInt = 3 then 1 else 0) ≤ 4096 := by
      rcases pi with w | w | w
      · rw [if_neg (by omega), if_pos w] at hS
        rw [if_pos w]; omega
      · omega
      · rw [if_neg (by omega)]
        split at hS <;> (try split at hS) <;> (try split at hS) <;> omega
    have f12 : v12.toInt = (k : Int) + 1 := (congrArg Int32.toInt e12).trans (aOkE e2 o1 (by split at hS4 <;> omega) (by split at hS4 <;> omega))
    refine lo2_i (fun (x y : Int32) (υ : St) => K2 σ0 υ ∧ FrT τ υ ∧ 0 ≤ y.toInt ∧ y.toInt ≤ dh b p ∧ x.toInt = (k : Int) + 1 + y.toInt ∧ MR υ (rB (hd b p) (wB M k (b.1 16 p)) (k + 1) y.toNatClampNeg)) (fun _ y _ => ((dh b p : Int) - y.toInt).toNat) ?_ N v12 0 s1 ⟨k1, f1, by omega, by omega, by omega, m1⟩ (by (try dsimp only); omega)
    intro rr x y υ hI ih
    obtain ⟨hυ, fυ, i1, i2, i3, i4⟩ := hI
    have ey := clE (rfl : y.toInt = y.toInt) i1
    have gυ : ∀ c i : Nat, c = 16 ∨ c = 17 ∨ c = 18 → υ.1 c i = b.1 c i := fun c i q => (fυ c i (by omega)).trans (fτ c i q)
    have e18 : (υ.1 18 p).toInt = dh b p := by rw [gυ _ _ (by omega)]; omega
    unfold fX12_lay_l120
    rw [cp, gυ 16 p (by omega)]
    refine ⟨hin, fun d => ⟨hin, fun g => ?_, fun g => ?_⟩, fun d => ⟨fun g => absurd g hx, fun _ => ?_⟩⟩
    · have d' := (leE e18 (rfl : y.toInt = y.toInt)).mp d
      have eyd : y.toNatClampNeg = dh b p := by omega
      rw [eyd] at i4
      have g' := q3.mp g
      rw [if_pos g'] at hS4
      refine e_put (k := k + 1 + dh b p) (by rw [i3]; omega) (by omega) i4 hυ (fun ω kω fω mω => ?_)
      unfold fX12_lay_j208
      rw [cp, fω 16 p (by omega), gυ 16 p (by omega)]
      refine ⟨hin, fun q => ?_, fun q => hQ ω kω (fυ.tr fω) ?_⟩
      · have := q5.mp q
        omega
      · unfold pW
        rw [if_pos hk, if_pos g]
        exact mω
    · have d' := (leE e18 (rfl : y.toInt = y.toInt)).mp d
      have eyd : y.toNatClampNeg = dh b p := by omega
      rw [eyd] at i4
      unfold fX12_lay_j208
      rw [cp, gυ 16 p (by omega)]
      refine ⟨hin, fun q => ?_, fun q => hQ υ hυ fυ ?_⟩
      · have := q5.mp q
        omega
      · unfold pW
        rw [if_pos hk, if_neg g]
        exact i4
    · have d' := (notleE e18 (rfl : y.toInt = y.toInt)).mp d
      have es : (20 * x3 + y).toInt = 20 * (p : Int) + y.toInt := aOkE (mOkE o20 ep (by omega) (by omega)) rfl (by omega) (by omega)
      have cs : (20 * x3 + y).toNatClampNeg = 20 * p + y.toNatClampNeg := by have := clE es (by omega); omega
      rw [cs, gυ 17 _ (by omega)]
      refine ⟨inE es (by omega) (by omega), e_put (k := k + 1 + y.toNatClampNeg) (by rw [i3]; omega) (by split at hS4 <;> omega) i4 hυ (fun ω kω fω mω => ⟨fun q => absurd q hx, fun _ => ?_⟩)⟩
      intro v22 ev22 v23 ev23
      have f22 : v22.toInt = x.toInt + 1 := (congrArg Int32.toInt ev22).trans (aOkE rfl o1 (by omega) (by omega))
      have f23 : v23.toInt = y.toInt + 1 := (congrArg Int32.toInt ev23).trans (aOkE rfl o1 (by omega) (by omega))
      have c23 : v23.toNatClampNeg = y.toNatClampNeg + 1 := by have := clE f23 (by omega); omega
      exact ih v22 v23 ω ⟨kω, fυ.tr fω, by omega, by omega, by omega, by rw [c23]; exact mω⟩ (by (try dsimp only); omega)
end SIM48
