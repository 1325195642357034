section SIM45
variable {N : Nat} {a b : St}
theorem c_nodeSize {x : Int32} {p : Nat} (ex : x.toInt = p) (hp : p < 60) (h1 : a.1 18 p = b.1 16 p) (h2 : a.1 21 p = b.1 18 p) (hl : 0 ≤ (b.1 18 p).toInt ∧ (b.1 18 p).toInt ≤ 20) {Q : Int32 → St → Prop} (hQ : Q (szI b p) a) : fX7_nodeSize N x Q a := by
  have z1 : (1 : Int32).toInt = 1 := by decide
  have z2 : (2 : Int32).toInt = 2 := by decide
  have z3 : (3 : Int32).toInt = 3 := by decide
  have z4 : (4 : Int32).toInt = 4 := by decide
  have z5 : (5 : Int32).toInt = 5 := by decide
  have cx : x.toNatClampNeg = p := by have := clE ex (by omega); omega
  have hin : vp_in x 60 := inE ex (by omega) (by omega)
  have key : ∀ r : Int32, r.toInt = szf b p → Q r a := by
    intro r er
    have e : r = szI b p := by
      unfold szI
      have : 0 ≤ szf b p ∧ szf b p ≤ 85 := by unfold szf; split <;> (try split) <;> (try split) <;> omega
      exact Int32.toInt_inj.mp (er.trans ((nI_toInt (by omega)).trans (by omega)).symm)
    rw [e]
    exact hQ
  have ne : ∀ {k : Int32}, ¬ b.1 16 p = k → (b.1 16 p).toInt ≠ k.toInt := fun h w => h (Int32.toInt_inj.mp w)
  unfold fX7_nodeSize
  rw [cx]
  refine ⟨hin, fun v ev => ?_⟩
  rw [ev, h1, h2]
  refine ⟨fun c => key _ ?_, fun c2 => ⟨fun c => ⟨hin, key _ ?_⟩, fun c3 => ⟨fun c => ⟨hin, key _ ?_⟩, fun c5 => key _ ?_⟩⟩⟩
  · unfold szf
    rw [c, z2, if_pos rfl]
  · unfold szf
    rw [c, z3, if_neg (by decide), if_pos rfl]
    have := aOkE (aOkE z1 (rfl : (b.1 18 p).toInt = _) (by omega) (by omega)) z1 (by omega) (by omega)
    omega
  · unfold szf
    rw [c, z5, if_neg (by decide), if_neg (by decide), if_pos rfl]
    have := aOkE (aOkE z1 (mOkE z4 (rfl : (b.1 18 p).toInt = _) (by omega) (by omega)) (by omega) (by omega)) z4 (by omega) (by omega)
    omega
  · unfold szf
    rw [if_neg (fun w => ne c2 (w.trans z2.symm)), if_neg (fun w => ne c3 (w.trans z3.symm)), if_neg (fun w => ne c5 (w.trans z5.symm))]
    exact z5
/-- a leaf more -/
theorem c_leaf {x1 x2 x3 : Int32} {n : Nat} (hn : n ≤ 60) (h9 : (a.1 9 9).toInt = n) {Q : St → Prop} (hQ : ∀ τ : St, (∀ c i : Nat, ¬ ((c = 29 ∨ c = 30 ∨ c = 33 ∨ c = 34) ∧ i = n ∨ (c = 9 ∧ (i = 9 ∨ i = 10))) → τ.1 c i = a.1 c i) → τ.1 29 n = x2 → τ.1 30 n = 0 → τ.1 33 n = x3 → τ.1 34 n = x1 → (τ.1 9 9).toInt = n + 1 → (τ.1 9 10).toInt = n + 1 → Q τ) : fX0_addLeaf N x1 x2 x3 Q a := by
  have c9 : (a.1 9 9).toNatClampNeg = n := by have := clE h9 (by omega); omega
  unfold fX0_addLeaf
  rw [c9]
  refine ⟨fun _ => ⟨inE h9 (by omega) (by omega), fun s3 e3 => ?_⟩, fun c => absurd ((ltE h9 (show (61 : Int32).toInt = 61 from by decide)).mpr (by omega)) c⟩
  refine c_knot (n := n) (by omega) (by rw [e3, u1e (by omega)]; exact h9) (fun s4 f4 k1 k2 k3 k4 v5 e5 s6 e6 => ?_)
  refine hQ s6 (fun c i q => ?_) ?_ ?_ ?_ ?_ ?_ ?_
  · rw [e6, u1e (by omega), f4 _ _ (by omega), e3, u1e (by omega)]
  · rw [e6, u1e (by omega)]; exact k1
  · rw [e6, u1e (by omega)]; exact k2
  · rw [e6, u1e (by omega)]; exact k3
  · rw [e6, u1e (by omega), f4 _ _ (by omega), e3, u1v]
  · rw [e6, u1e (by omega)]; exact k4
  · rw [e6, u1v, e5]; exact k4
/-- the class's leaves are these -/
def LAc (b τ : St) (F : Lfs) (y : Nat) : Prop := ((τ.1 9 9).toInt = F.1 ∧ (τ.1 9 10).toInt = F.1) ∧ (∀ i : Nat, i < F.1 → τ.1 34 i = F.2.1 i ∧ τ.1 29 i = F.2.2.2.1 i ∧ τ.1 33 i = F.2.2.2.2 i ∧ τ.1 30 i = 0) ∧ ∀ p : Nat, p < y → 1 ≤ (uA b p).toInt → τ.1 42 p = F.2.2.1 p
def FrY (σ τ : St) : Prop := ∀ c i : Nat, ¬ ((29 ≤ c ∧ c ≤ 34) ∨ c = 42 ∨ (c = 9 ∧ (i = 9 ∨ i = 10))) → τ.1 c i = σ.1 c i
/-- the exact tree of the class -/
def EXc (b τ : St) (L : Nat) : Prop := (L = (lfs b (b.1 0 36).toNatClampNeg).1 ∧ (τ.1 9 10).toInt = L ∧ (τ.1 9 9).toInt = 2 * (L : Int) - 1) ∧ (∀ i : Nat, i < L → τ.1 34 i = (lfs b (b.1 0 36).toNatClampNeg).2.1 i) ∧ (∀ p : Nat, (p : Int) < (b.1 0 36).toInt → 1 ≤ (uA b p).toInt → τ.1 42 p = (lfs b (b.1 0 36).toNatClampNeg).2.2.1 p) ∧ JAc τ (jn L (lfs b (b.1 0 36).toNatClampNeg).J (L - 1)) (2 * L - 1) L
theorem c_grow (hN : 4294967400 ≤ N) (hs : a.1 6 5 = b.1 0 36) (hs7 : a.1 7 4 = b.1 0 41) (hX : XPc a b) (hG : G2 b) (hU : ∀ p : Nat, p < 60 → a.1 41 p = uA b p) {Q : St → Prop} (hQ : ∀ (τ : St) (L : Nat), FrY a τ → EXc b τ L → Q τ) : fX5_growTree N Q a := by
  have z0 : (0 : Int32).toInt = 0 := by decide
  have z1 : (1 : Int32).toInt = 1 := by decide
  have kG := K2.self hG
  have d36 := K2.g_0_36 kG
  have c36 := clE (rfl : (b.1 0 36).toInt = (b.1 0 36).toInt) d36.1
  unfold fX5_growTree fX0_clearLeaves
  intro s1 e1 s2 e2
  refine c_leaf (n := 0) (by omega) (by rw [e2, u1e (by omega), e1, u1v]; exact z0) (fun s3 f3 k1 k2 k3 k4 k5 k6 => ?_)
  have fr3 : FrY a s3 := fun c i q => by rw [f3 _ _ (by omega), e2, u1e (by omega), e1, u1e (by omega)]
  have l3 : LAc b s3 (lfs b 0) 0 := by
    refine ⟨⟨k5, k6⟩, fun i hi => ?_, fun p hp => absurd hp (by omega)⟩
    have hi' : i < 1 := hi
    rw [show i = 0 by omega, k1, k2, k3, k4]
    refine ⟨(by show (-1 : Int32) = upd (fun _ => (0 : Int32)) 0 (-1) 0; rw [up1]), (by show _ = upd (fun _ => (0 : Int32)) 0 (b.1 0 41) 0; rw [up1, e2, u1e (by omega), e1, u1e (by omega)]; exact hs7), (by show (1 : Int32) = upd (fun _ => (0 : Int32)) 0 1 0; rw [up1]), rfl⟩
  refine lo1_i (fun (y : Int32) (τ : St) => 0 ≤ y.toInt ∧ y.toInt ≤ (b.1 0 36).toInt ∧ FrY a τ ∧ LAc b τ (lfs b y.toNatClampNeg) y.toNatClampNeg) (fun y _ => ((b.1 0 36).toInt - y.toInt).toNat) ?_ N 0 s3 ⟨by omega, by omega, fr3, l3⟩ (by (try dsimp only); omega)
  intro rr y τ hI ih
  obtain ⟨i1, i2, i3, i4⟩ := hI
  have ey := clE (rfl : y.toInt = y.toInt) i1
  have e65 : τ.1 6 5 = b.1 0 36 := by rw [i3 _ _ (by omega)]; exact hs
  have ln := lfs_n b y.toNatClampNeg
  unfold fX5_growTree_l25
  rw [e65]
  refine ⟨fun c => ?_, fun c => ?_⟩
  · have f := (leE (rfl : (b.1 0 36).toInt = _) (rfl : y.toInt = y.toInt)).mp c
    have em : y.toNatClampNeg = (b.1 0 36).toNatClampNeg := by omega
    rw [em] at i4 ln
    refine c_joinAll hN (L := (lfs b (b.1 0 36).toNatClampNeg).1) (J0 := (lfs b (b.1 0 36).toNatClampNeg).J) ln.1 (by omega) i4.1.1 i4.1.2 (cnt_full _ (fun i hi => by show (1 : Int32) ≠ 0; decide)) (fun i hi => ?_) (fun υ fυ g9 hJ => ?_)
    · have w := i4.2.1 i hi
      exact ⟨w.2.1, ⟨fun _ => by show (1 : Int32) ≠ 0; decide, fun _ => w.2.2.2⟩, w.2.2.1, fun z => absurd z (by omega)⟩
    · refine hQ υ (lfs b (b.1 0 36).toNatClampNeg).1 (fun c i q => by rw [fυ _ _ (by omega)]; exact i3 c i q) ⟨⟨rfl, by rw [fυ _ _ (by omega)]; exact i4.1.2, g9⟩, fun i hi => ?_, fun p hp hp2 => ?_, hJ⟩
      · rw [fυ _ _ (by omega)]; exact (i4.2.1 i hi).1
      · rw [fυ _ _ (by omega)]; exact i4.2.2 p (by omega) hp2
  · have f := (notleE (rfl : (b.1 0 36).toInt = _) (rfl : y.toInt = y.toInt)).mp c
    have hin : vp_in y 60 := inE rfl (by omega) (by omega)
    have e41 : τ.1 41 y.toNatClampNeg = uA b y.toNatClampNeg := by rw [i3 _ _ (by omega)]; exact hU _ (by omega)
    obtain ⟨p1, p2, _⟩ := hX y.toNatClampNeg (by omega) (by omega)
    rw [e41]
    refine ⟨hin, fun c2 => ?_, fun c2 => ?_⟩
    · have g := (leE (rfl : (uA b y.toNatClampNeg).toInt = _) z0).mp c2
      intro v ev
      have fv : v.toInt = y.toInt + 1 := (congrArg Int32.toInt ev).trans (aOkE rfl z1 (by omega) (by omega))
      have cv : v.toNatClampNeg = y.toNatClampNeg + 1 := by have := clE fv (by omega); omega
      have u0 : ¬ 1 ≤ (uA b y.toNatClampNeg).toInt := by omega
      refine ih v τ ⟨by omega, by omega, i3, ?_⟩ (by (try dsimp only); omega)
      rw [cv, lfs_no u0]
      exact ⟨i4.1, i4.2.1, fun p hp hp2 => i4.2.2 p (Nat.lt_of_le_of_ne (by omega) (fun e => by rw [e] at hp2; exact u0 hp2)) hp2⟩
    · have g := (notleE (rfl : (uA b y.toNatClampNeg).toInt = _) z0).mp c2
      have u0 : 1 ≤ (uA b y.toNatClampNeg).toInt := by omega
      intro v7 e7
      have f7 : v7.toInt = (lfs b y.toNatClampNeg).1 := by rw [e7]; exact i4.1.1
      refine ⟨hin, fun s9 e9 => ⟨hin, ?_⟩⟩
      have f9 : ∀ c i : Nat, c ≠ 42 → s9.1 c i = τ.1 c i := fun c i q => by rw [e9, u1e (fun z => q z.1)]
      refine c_nodeSize (b := b) (p := y.toNatClampNeg) ey.symm (by omega) (by rw [f9 _ _ (by omega), i3 _ _ (by omega)]; exact p1) (by rw [f9 _ _ (by omega), i3 _ _ (by omega)]; exact p2) (K2.q_18 kG _) ?_
      rw [f9 41 _ (by omega), e41]
      refine c_leaf (n := (lfs b y.toNatClampNeg).1) (by omega) (by rw [f9 _ _ (by omega)]; exact i4.1.1) (fun s13 f13 k1 k2 k3 k4 k5 k6 v ev => ?_)
      have fv : v.toInt = y.toInt + 1 := (congrArg Int32.toInt ev).trans (aOkE rfl z1 (by omega) (by omega))
      have cv : v.toNatClampNeg = y.toNatClampNeg + 1 := by have := clE fv (by omega); omega
      refine ih v s13 ⟨by omega, by omega, fun c i q => by rw [f13 _ _ (by omega), f9 _ _ (by omega)]; exact i3 c i q, ?_⟩ (by (try dsimp only); omega)
      rw [cv, lfs_yes u0]
      refine ⟨⟨k5, k6⟩, fun i hi => ?_, fun p hp hp2 => ?_⟩
      · have hi' : i < (lfs b y.toNatClampNeg).1 + 1 := hi
        dsimp only
        by_cases e : i = (lfs b y.toNatClampNeg).1
        · rw [e, k1, k2, k3, k4, up1, up1, up1]
          exact ⟨(nIcl i1).symm, rfl, rfl, rfl⟩
        · rw [up2 e, up2 e, up2 e, f13 _ _ (by omega), f13 _ _ (by omega), f13 _ _ (by omega), f13 _ _ (by omega), f9 _ _ (by omega), f9 _ _ (by omega), f9 _ _ (by omega), f9 _ _ (by omega)]
          exact i4.2.1 i (by omega)
      · dsimp only
        rw [f13 _ _ (by omega), e9]
        by_cases e : p = y.toNatClampNeg
        · rw [e, u1v, up1]
          exact Int32.toInt_inj.mp (f7.trans (nI_toInt (by omega)).symm)
        · rw [u1e (by omega), up2 e]
          exact i4.2.2 p (by omega) hp2
end SIM45
