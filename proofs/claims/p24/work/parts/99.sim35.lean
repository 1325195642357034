section SIM35
variable {N : Nat} {a b : St} {h : Nat → Nat} {g : Nat → Nat → Int32} {t : Nat → Int32} {n P : Nat} {k1 : Nat}
theorem c_part (hN : 4294967400 ≤ N) (hA : PcA a h g P) (hk1 : k1 ≠ 27 ∧ k1 ≠ 28) (ht : ∀ j : Nat, j < n → a.1 k1 j = t j) (hn : n ≤ 120) {x2 : Int32} (e2 : x2.toInt = n) {Q : Int32 → St → Prop} (hQ : ∀ τ : St, FrQ a τ → (∀ j : Nat, j ≤ n → CE n (pout h g t n P n) j τ) → Q (if (pout h g t n P n).1 0 = 1000 then -1 else (pout h g t n P n).1 0) τ) : fX6_part N k1 x2 Q a := by
  have z0 : (0 : Int32).toInt = 0 := by decide
  have z1 : (1 : Int32).toInt = 1 := by decide
  have z120 : (120 : Int32).toInt = 120 := by decide
  have z121 : (121 : Int32).toInt = 121 := by decide
  have hP := hA.2.1
  have c2 : x2.toNatClampNeg = n := by have := clE e2 (by omega); omega
  unfold fX6_part
  refine ⟨fun c => ?_, fun _ => ⟨fun c => ?_, fun _ => ⟨fun _ => ⟨inE e2 (by omega) (by omega), fun s5 e5 v6 e6 => ?_⟩, fun c => ?_⟩⟩⟩
  · have := (ltE e2 z0).mp c
    omega
  · have := (ltE z120 e2).mp c
    omega
  · rw [c2] at e5
    have f6 : v6.toInt = (n : Int) - 1 := (congrArg Int32.toInt e6).trans (sOkE e2 z1 (by omega) (by omega))
    refine lo1_i (fun (y : Int32) (τ : St) => -1 ≤ y.toInt ∧ y.toInt < n ∧ FrQ a τ ∧ ∀ j : Nat, y.toInt < (j : Int) → j ≤ n → CE n (pout h g t n P ((n : Int) - 1 - y.toInt).toNat) j τ) (fun y _ => (y.toInt + 1).toNat) ?_ N v6 s5 ⟨by omega, by omega, fun c i q => by rw [e5, u1e (by omega)], fun j h1 h2 => ?_⟩ (by (try dsimp only); omega)
    · intro rr y τ hI ih
      obtain ⟨i1, i2, i3, i4⟩ := hI
      unfold fX6_part_l29
      refine ⟨fun c => ?_, fun c => ?_⟩
      · have f := (ltE (rfl : y.toInt = y.toInt) z0).mp c
        rw [show ((n : Int) - 1 - y.toInt).toNat = n by omega] at i4
        have ce := i4 0 (by omega) (by omega)
        have hv := (pout_gd (h := h) (g := g) (t := t) hn hP n (Nat.le_refl _)).val (j := 0) (by omega) (by omega)
        have q := hQ τ i3 (fun j hj => i4 j (by omega) hj)
        have hin : vp_in 0 121 := inE z0 (by omega) (by omega)
        rw [show (0 : Int32).toNatClampNeg = 0 from rfl]
        by_cases cb : (pout h g t n P n).1 0 = 1000
        · rw [if_pos cb] at q
          refine ⟨hin, fun _ => q, fun z => absurd ?_ z⟩
          rw [(ce.1 cb).1]
          exact (leE z121 z121).mpr (by omega)
        · rw [if_neg cb] at q
          have e27 := (ce.2 cb).1
          refine ⟨hin, fun z => ?_, fun _ => ⟨hin, by rw [e27]; exact q⟩⟩
          rw [e27] at z
          have := (leE z121 (rfl : ((pout h g t n P n).1 0).toInt = _)).mp z
          rcases hv with w | w
          · exact absurd w cb
          · omega
      · have f := (notltE (rfl : y.toInt = y.toInt) z0).mp c
        have ey := clE (rfl : y.toInt = y.toInt) (by omega)
        have G := pout_gd (h := h) (g := g) (t := t) hn hP ((n : Int) - 1 - y.toInt).toNat (by omega)
        rw [show n - ((n : Int) - 1 - y.toInt).toNat = y.toNatClampNeg + 1 by omega] at G
        refine c_choose (t := t) hN hA hk1 ht hn (i := y.toNatClampNeg) (by omega) ey.symm e2 G i3 (fun j h1 h2 => i4 j (by omega) h2) (fun υ k1 k2 v ev => ?_)
        have fv : v.toInt = y.toInt + -1 := (congrArg Int32.toInt ev).trans (aOkE rfl (show (-1 : Int32).toInt = -1 from by decide) (by omega) (by omega))
        refine ih v υ ⟨by omega, by omega, k1, fun j h1 h2 => ?_⟩ (by (try dsimp only); omega)
        have := k2 j (by omega) h2
        rw [show ((n : Int) - 1 - v.toInt).toNat = ((n : Int) - 1 - y.toInt).toNat + 1 by omega]
        show CE n (pinn h g t n (n - 1 - ((n : Int) - 1 - y.toInt).toNat) _ P) j υ
        rw [show n - 1 - ((n : Int) - 1 - y.toInt).toNat = y.toNatClampNeg by omega]
        exact this
    · have ej : j = n := by omega
      rw [show ((n : Int) - 1 - v6.toInt).toNat = 0 by omega, ej]
      exact ⟨fun z => absurd z (by show ¬ (0 : Int32) = 1000; decide), fun _ => ⟨by rw [e5, u1v]; rfl, fun z => absurd z (by omega)⟩⟩
  · have := (notleE e2 z120).mp c
    omega
/-- the pieces of the row are put into another one -/
theorem c_copy (hN : 4294967400 ≤ N) (hA : PcA a h g P) (hn : n ≤ 120) {x1 : Int32} {k2 : Nat} (hk2 : 203 ≤ k2) (e1 : x1.toInt = n) (hC : ∀ j : Nat, j ≤ n → CE n (pout h g t n P n) j a) {Q : Int32 → St → Prop} (hQ : ∀ (r : Int32) (τ : St), (∀ c i : Nat, c ≠ k2 → τ.1 c i = a.1 c i) → r = (if (pout h g t n P n).1 0 = 1000 then 0 else (pout h g t n P n).1 0) → (∀ k : Nat, (k : Int) < r.toInt → τ.1 k2 k = (pout h g t n P n).2 (pat h (pout h g t n P n).2 k)) → Q r τ) : fX6_copyPieces N x1 k2 Q a := by
  have z0 : (0 : Int32).toInt = 0 := by decide
  have z1 : (1 : Int32).toInt = 1 := by decide
  have z120 : (120 : Int32).toInt = 120 := by decide
  have hP := hA.2.1
  have G := pout_gd (h := h) (g := g) (t := t) hn hP n (Nat.le_refl _)
  rw [Nat.sub_self] at G
  unfold fX6_copyPieces
  by_cases cb : (pout h g t n P n).1 0 = 1000
  · have hn0 : 0 < n := by
      rcases Nat.eq_zero_or_pos n with e | e
      · rw [e] at cb
        exact absurd cb (by show ¬ (0 : Int32) = 1000; decide)
      · exact e
    have r0 : Q 0 a := hQ 0 a (fun _ _ _ => rfl) (by rw [if_pos cb]) (fun k hk => absurd hk (by omega))
    obtain ⟨M, rfl⟩ : ∃ m, N = m + 1 := ⟨N - 1, by omega⟩
    have e28 : a.1 28 (0 : Int32).toNatClampNeg = -1 := ((hC 0 (by omega)).1 cb).2
    refine ⟨fun _ => r0, fun _ => ⟨fun _ => r0, fun _ => ⟨fun _ => r0, fun _ => ⟨inE z0 (by omega) (by omega), fun v ev => ⟨fun _ => r0, fun z => absurd ?_ z⟩⟩⟩⟩⟩
    rw [ev, e28]
    decide
  · have bnd := G.val (j := 0) (by omega) (by omega)
    have bnd2 : 0 ≤ ((pout h g t n P n).1 0).toInt ∧ ((pout h g t n P n).1 0).toInt ≤ 120 := by
      rcases bnd with w | w
      · exact absurd w cb
      · omega
    refine lo2_i (fun (x y : Int32) (τ : St) => 0 ≤ x.toInt ∧ x.toInt ≤ ((pout h g t n P n).1 0).toInt ∧ y.toInt = (pat h (pout h g t n P n).2 x.toNatClampNeg : Nat) ∧ (∀ c i : Nat, c ≠ k2 → τ.1 c i = a.1 c i) ∧ ∀ k : Nat, (k : Int) < x.toInt → τ.1 k2 k = (pout h g t n P n).2 (pat h (pout h g t n P n).2 k)) (fun x _ _ => (200 - x.toInt).toNat) ?_ N 0 0 a ⟨by omega, by omega, rfl, fun _ _ _ => rfl, fun k hk => absurd hk (by omega)⟩ (by (try dsimp only); omega)
    intro rr x y τ hI ih
    obtain ⟨i1, i2, i3, i4, i5⟩ := hI
    have ex := clE (rfl : x.toInt = x.toInt) i1
    obtain ⟨a1, a2, a3⟩ := pat_ok G cb x.toNatClampNeg (by omega)
    have cy : y.toNatClampNeg = pat h (pout h g t n P n).2 x.toNatClampNeg := by have := clE i3 (by omega); omega
    unfold fX6_copyPieces_l5
    refine ⟨fun c => ?_, fun c => ?_⟩
    · have f := (leE e1 i3).mp c
      have en : pat h (pout h g t n P n).2 x.toNatClampNeg = n := by omega
      rw [en, G.1, z0] at a3
      have e : x = (pout h g t n P n).1 0 := Int32.toInt_inj.mp (by omega)
      exact hQ x τ i4 (by rw [if_neg cb]; exact e) i5
    · have f := (notleE e1 i3).mp c
      have hlt : x.toInt < ((pout h g t n P n).1 0).toInt := by
        rcases G.val (j := pat h (pout h g t n P n).2 x.toNatClampNeg) (by omega) (by omega) with w | w
        · exact absurd w a2
        · rcases G.2 _ (Nat.zero_le _) (show pat h (pout h g t n P n).2 x.toNatClampNeg < n by omega) with q | q
          · exact absurd q a2
          · omega
      obtain ⟨l1, l2, l3⟩ := pat_lt G cb (k := x.toNatClampNeg) (by omega)
      have e28 : τ.1 28 y.toNatClampNeg = (pout h g t n P n).2 (pat h (pout h g t n P n).2 x.toNatClampNeg) := by
        rw [i4 _ _ (by omega), cy]
        exact ((hC _ (by omega)).2 a2).2 l1
      refine ⟨fun c2 => ?_, fun _ => ⟨fun c2 => ?_, fun _ => ⟨inE i3 (by omega) (by omega), fun v ev => ?_⟩⟩⟩
      · have := (leE z120 i3).mp c2
        omega
      · have := (leE z120 (rfl : x.toInt = x.toInt)).mp c2
        omega
      · rw [e28] at ev
        rw [← ev] at l2 l3
        have cv := clE (rfl : v.toInt = v.toInt) l2
        obtain ⟨q1, q2, q3, _⟩ := hA.2.2 v.toNatClampNeg (by omega)
        have e21 : (τ.1 21 v.toNatClampNeg).toInt = h v.toNatClampNeg := by rw [i4 _ _ (by omega)]; exact q1
        have hin : vp_in v 60 := inE rfl (by omega) (by omega)
        refine ⟨fun c2 => ?_, fun _ => ⟨hin, fun _ => ⟨inE rfl (by omega) (by omega), fun s10 e10 v11 e11 => ⟨hin, fun v13 e13 => ?_⟩⟩, fun c2 => absurd ((leE z1 e21).mpr (by omega)) c2⟩⟩
        · have := (ltE (rfl : v.toInt = v.toInt) z0).mp c2
          omega
        · have f11 : v11.toInt = x.toInt + 1 := (congrArg Int32.toInt e11).trans (aOkE rfl z1 (by omega) (by omega))
          have c11 : v11.toNatClampNeg = x.toNatClampNeg + 1 := by have := clE f11 (by omega); omega
          have s21 : (s10.1 21 v.toNatClampNeg).toInt = h v.toNatClampNeg := by rw [e10, u1e (by omega)]; exact e21
          have f13 : v13.toInt = (pat h (pout h g t n P n).2 x.toNatClampNeg : Nat) + (h v.toNatClampNeg : Int) := (congrArg Int32.toInt e13).trans (aOkE i3 s21 (by omega) (by omega))
          refine ih v11 v13 s10 ⟨by omega, by omega, ?_, fun c i q => by rw [e10, u1e (fun z => q z.1)]; exact i4 c i q, fun k hk => ?_⟩ (by (try dsimp only); omega)
          · rw [c11, f13]
            show _ = ((pat h (pout h g t n P n).2 x.toNatClampNeg + h ((pout h g t n P n).2 (pat h (pout h g t n P n).2 x.toNatClampNeg)).toNatClampNeg : Nat) : Int)
            rw [← ev]
            omega
          · rw [e10]
            by_cases e : k = x.toNatClampNeg
            · rw [e, u1v, ev]
            · rw [u1e (by omega)]
              exact i5 k (by omega)
/-- the class reads what the reference reads -/
theorem pca_of (hs : a.1 6 5 = b.1 0 36) (hX : XPc a b) (hG : G2 b) : PcA a (dh b) (dg b) (b.1 0 36).toNatClampNeg := by
  have d := K2.g_0_36 (K2.self hG)
  have ed := clE (rfl : (b.1 0 36).toInt = (b.1 0 36).toInt) d.1
  refine ⟨by rw [hs]; omega, by omega, fun k hk => ?_⟩
  obtain ⟨p1, p2, p3, p4, p5, p6⟩ := hX k (by omega) (by omega)
  have e := dhE (K2.self hG) k
  refine ⟨by rw [p2]; exact e.1.symm, ?_, e.2, fun m hm => p4 m (by omega)⟩
  rcases p6 with q | q <;> omega
end SIM35
