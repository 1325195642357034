section SIM43
variable {N : Nat} {a b : St}
/-- what the parting of all texts may change -/
def FrX (σ τ : St) : Prop := ∀ c i : Nat, ¬ (c = 27 ∨ c = 28 ∨ c = 39 ∨ c = 41 ∨ 203 ≤ c) → τ.1 c i = σ.1 c i
/-- the parts of a text -/
def PT1 (b τ : St) (t : Nat) : Prop := (τ.1 39 t).toInt = cN b t ∧ ∀ i : Nat, i < cN b t → τ.1 (203 + t) i = tP b t i
theorem cN_le {σ0 : St} (hG : K2 σ0 b) (t : Nat) : cN b t ≤ 120 := by
  have := tR_le hG t
  unfold cN
  omega
theorem cN_P {σ0 : St} (hG : K2 σ0 b) {t k : Nat} (hk : k < cN b t) : 0 ≤ (tP b t k).toInt ∧ (tP b t k).toInt < (b.1 0 36).toInt := tP_lt hG (by unfold cN at hk; omega)
theorem c_fill (hN : 4294967400 ≤ N) {Q : St → Prop} (hQ : ∀ τ : St, (∀ c i : Nat, c ≠ 41 → τ.1 c i = a.1 c i) → (∀ i : Nat, i < 60 → τ.1 41 i = 0) → Q τ) : fJ7_fill_53178 N 41 60 0 Q a := by
  have z0 : (0 : Int32).toInt = 0 := by decide
  unfold fJ7_fill_53178
  intro v ev
  have fv : v.toInt = 60 := by rw [ev]; decide
  refine lo1_i (fun (y : Int32) (τ : St) => 0 ≤ y.toInt ∧ y.toInt ≤ 60 ∧ (∀ c i : Nat, c ≠ 41 → τ.1 c i = a.1 c i) ∧ ∀ i : Nat, (i : Int) < y.toInt → τ.1 41 i = 0) (fun y _ => (60 - y.toInt).toNat) ?_ N 0 a ⟨by omega, by omega, fun _ _ _ => rfl, fun i hi => absurd hi (by omega)⟩ (by (try dsimp only); omega)
  intro rr y τ hI ih
  obtain ⟨i1, i2, i3, i4⟩ := hI
  have ey := clE (rfl : y.toInt = y.toInt) i1
  unfold fJ7_fill_53178_l5
  refine ⟨fun c => ?_, fun c => ?_⟩
  · have := (leE fv (rfl : y.toInt = y.toInt)).mp c
    exact hQ τ i3 (fun i hi => i4 i (by omega))
  · have := (notleE fv (rfl : y.toInt = y.toInt)).mp c
    refine ⟨inE rfl (by omega) (by omega), fun s4 e4 v5 e5 => ?_⟩
    have f5 : v5.toInt = y.toInt + 1 := (congrArg Int32.toInt e5).trans (aOkE rfl (show (1 : Int32).toInt = 1 from by decide) (by omega) (by omega))
    refine ih v5 s4 ⟨by omega, by omega, fun c i q => by rw [e4, u1e (fun z => q z.1)]; exact i3 c i q, fun i hi => ?_⟩ (by (try dsimp only); omega)
    rw [e4]
    by_cases e : i = y.toNatClampNeg
    · rw [e, u1v]
    · rw [u1e (by omega)]; exact i4 i (by omega)
/-- the uses of one text -/
theorem c_uses (hN : 4294967400 ≤ N) {σ0 : St} (hG : K2 σ0 b) {r10 : Int32 → St → Prop} {x1 : Int32} {t : Nat} {U : Nat → Int32} (et : x1.toInt = t) (ht : t < 20) (hP : PT1 b a t) (hU : ∀ p : Nat, p < 60 → a.1 41 p = U p) {Q : St → Prop} (hr : ∀ (v : Int32) (τ : St), v.toInt = (t : Int) + 1 → (∀ c i : Nat, c ≠ 41 → τ.1 c i = a.1 c i) → (∀ p : Nat, p < 60 → τ.1 41 p = uI (tP b t) U (cN b t) p) → r10 v τ) : lo1 (fX5_partTexts_l77 N r10 x1 Q) N 0 a := by
  have z0 : (0 : Int32).toInt = 0 := by decide
  have z1 : (1 : Int32).toInt = 1 := by decide
  have c1 : x1.toNatClampNeg = t := by have := clE et (by omega); omega
  have hin : vp_in x1 20 := inE et (by omega) (by omega)
  have le := cN_le hG t
  have b36 := K2.g_0_36 hG
  refine lo1_i (fun (y : Int32) (τ : St) => 0 ≤ y.toInt ∧ y.toInt ≤ cN b t ∧ (∀ c i : Nat, c ≠ 41 → τ.1 c i = a.1 c i) ∧ ∀ p : Nat, p < 60 → τ.1 41 p = uI (tP b t) U y.toNatClampNeg p) (fun y _ => ((cN b t : Int) - y.toInt).toNat) ?_ N 0 a ⟨by omega, by omega, fun _ _ _ => rfl, hU⟩ (by (try dsimp only); omega)
  intro rr y τ hI ih
  obtain ⟨i1, i2, i3, i4⟩ := hI
  have ey := clE (rfl : y.toInt = y.toInt) i1
  have e39 : (τ.1 39 t).toInt = cN b t := by rw [i3 _ _ (by omega)]; exact hP.1
  unfold fX5_partTexts_l77
  rw [c1]
  refine ⟨hin, fun c v ev => ?_, fun c => ?_⟩
  · have f := (leE e39 (rfl : y.toInt = y.toInt)).mp c
    refine hr v τ ((congrArg Int32.toInt ev).trans (aOkE et z1 (by omega) (by omega))) i3 (fun p hp => ?_)
    rw [show cN b t = y.toNatClampNeg by omega]
    exact i4 p hp
  · have f := (notleE e39 (rfl : y.toInt = y.toInt)).mp c
    have eP : τ.1 (203 + t) y.toNatClampNeg = tP b t y.toNatClampNeg := by rw [i3 _ _ (by omega)]; exact hP.2 _ (by omega)
    have bP := cN_P hG (t := t) (k := y.toNatClampNeg) (by omega)
    have cP := clE (rfl : (tP b t y.toNatClampNeg).toInt = _) bP.1
    have hinP : vp_in (tP b t y.toNatClampNeg) 60 := inE rfl bP.1 (by omega)
    rw [eP]
    refine ⟨hin, inE rfl (by omega) (by omega), hinP, fun v19 e19 => ⟨hinP, fun s21 e21 v22 e22 => ?_⟩⟩
    have f22 : v22.toInt = y.toInt + 1 := (congrArg Int32.toInt e22).trans (aOkE rfl z1 (by omega) (by omega))
    have c22 : v22.toNatClampNeg = y.toNatClampNeg + 1 := by have := clE f22 (by omega); omega
    refine ih v22 s21 ⟨by omega, by omega, fun c i q => by rw [e21, u1e (fun z => q z.1)]; exact i3 c i q, fun p hp => ?_⟩ (by (try dsimp only); omega)
    rw [c22]
    show s21.1 41 p = upd (uI (tP b t) U y.toNatClampNeg) (tP b t y.toNatClampNeg).toNatClampNeg (uI (tP b t) U y.toNatClampNeg (tP b t y.toNatClampNeg).toNatClampNeg + 1) p
    by_cases e : p = (tP b t y.toNatClampNeg).toNatClampNeg
    · rw [e, up1, e21, u1v, e19, i4 _ (by omega)]
    · rw [up2 e, e21, u1e (by omega)]; exact i4 p hp
theorem c_partTexts (hN : 4294967400 ≤ N) (hs : a.1 6 5 = b.1 0 36) (hs7 : a.1 7 4 = b.1 0 41) (hX : XPc a b) (hT : XX a b) (hG : G2 b) {Q : St → Prop} (hQ : ∀ τ : St, FrX a τ → (∀ t : Nat, (t : Int) < (b.1 0 41).toInt → PT1 b τ t) → (∀ p : Nat, p < 60 → τ.1 41 p = uA b p) → Q τ) : fX5_partTexts N Q a := by
  have z0 : (0 : Int32).toInt = 0 := by decide
  have z1 : (1 : Int32).toInt = 1 := by decide
  have kG := K2.self hG
  have d41 := K2.q_0_41 kG
  have c41 := clE (rfl : (b.1 0 41).toInt = (b.1 0 41).toInt) d41.1
  unfold fX5_partTexts
  refine c_fill hN (fun s1 f1 g1 => ?_)
  refine lo1_i (fun (y : Int32) (τ : St) => 0 ≤ y.toInt ∧ y.toInt ≤ (b.1 0 41).toInt ∧ FrX a τ ∧ (∀ t : Nat, (t : Int) < y.toInt → PT1 b τ t) ∧ ∀ p : Nat, p < 60 → τ.1 41 p = uT b y.toNatClampNeg p) (fun y _ => ((b.1 0 41).toInt - y.toInt).toNat) ?_ N 0 s1 ⟨by omega, by omega, fun c i q => f1 c i (by omega), fun t ht => absurd ht (by omega), fun p hp => g1 p hp⟩ (by (try dsimp only); omega)
  intro rr y τ hI ih
  obtain ⟨i1, i2, i3, i4, i5⟩ := hI
  have ey := clE (rfl : y.toInt = y.toInt) i1
  have e74 : τ.1 7 4 = b.1 0 41 := by rw [i3 _ _ (by omega)]; exact hs7
  unfold fX5_partTexts_l10
  rw [e74]
  refine ⟨fun c => ?_, fun c => ?_⟩
  · have f := (leE (rfl : (b.1 0 41).toInt = _) (rfl : y.toInt = y.toInt)).mp c
    refine hQ τ i3 (fun t ht => i4 t (by omega)) (fun p hp => ?_)
    unfold uA
    rw [show (b.1 0 41).toNatClampNeg = y.toNatClampNeg by omega]
    exact i5 p hp
  · have f := (notleE (rfl : (b.1 0 41).toInt = _) (rfl : y.toInt = y.toInt)).mp c
    have hin : vp_in y 20 := inE rfl (by omega) (by omega)
    obtain ⟨t1, t2, t3, t4⟩ := hT y.toNatClampNeg (by omega) (by omega)
    have q21 := K2.q_21 kG y.toNatClampNeg
    have en := clE (rfl : (b.1 21 y.toNatClampNeg).toInt = _) q21.1
    have e24 : τ.1 24 y.toNatClampNeg = b.1 21 y.toNatClampNeg := by rw [i3 _ _ (by omega)]; exact t1
    have hA : PcA τ (dh b) (dg b) (b.1 0 36).toNatClampNeg := (pca_of hs hX hG).ext (fun c i q => i3 c i (by omega))
    rw [e24]
    refine ⟨hin, hin, c_part (t := dt b (nI y.toNatClampNeg)) hN hA (by omega) (n := (b.1 21 y.toNatClampNeg).toNatClampNeg) (fun j hj => ?_) (by omega) en.symm (fun s5 f5 ce => ⟨hin, hin, ?_⟩)⟩
    · rw [i3 _ _ (by omega), t4 j (by omega)]
      unfold dt
      rw [if_pos ((leE z0 (nI_toInt (by omega))).mpr (by omega)), clnI (by omega)]
    · have s24 : s5.1 24 y.toNatClampNeg = b.1 21 y.toNatClampNeg := by rw [f5 _ _ (by omega)]; exact e24
      rw [s24]
      refine c_copy hN (hA.ext (fun c i q => f5 c i (by omega))) (n := (b.1 21 y.toNatClampNeg).toNatClampNeg) (by omega) (by omega) en.symm ce (fun r s9 f9 er g9 => ⟨hin, fun s12 e12 => ?_⟩)
      have rN : r.toInt = cN b y.toNatClampNeg := by
        have bnd := tR_le kG y.toNatClampNeg
        have e : tR b y.toNatClampNeg = (if (pout (dh b) (dg b) (dt b (nI y.toNatClampNeg)) (b.1 21 y.toNatClampNeg).toNatClampNeg (b.1 0 36).toNatClampNeg (b.1 21 y.toNatClampNeg).toNatClampNeg).1 0 = 1000 then -1 else (pout (dh b) (dg b) (dt b (nI y.toNatClampNeg)) (b.1 21 y.toNatClampNeg).toNatClampNeg (b.1 0 36).toNatClampNeg (b.1 21 y.toNatClampNeg).toNatClampNeg).1 0) := rfl
        have G := pout_gd (h := dh b) (g := dg b) (t := dt b (nI y.toNatClampNeg)) (n := (b.1 21 y.toNatClampNeg).toNatClampNeg) (P := (b.1 0 36).toNatClampNeg) (by omega) hA.2.1 _ (Nat.le_refl _)
        have v := G.val (j := 0) (by omega) (by omega)
        unfold cN
        rw [er, e]
        by_cases cb : (pout (dh b) (dg b) (dt b (nI y.toNatClampNeg)) (b.1 21 y.toNatClampNeg).toNatClampNeg (b.1 0 36).toNatClampNeg (b.1 21 y.toNatClampNeg).toNatClampNeg).1 0 = 1000
        · rw [if_pos cb, if_pos cb]
          decide
        · rw [if_neg cb, if_neg cb]
          rcases v with w | w
          · exact absurd w cb
          · omega
      have frs : ∀ c i : Nat, ¬ (c = 27 ∨ c = 28 ∨ (c = 39 ∧ i = y.toNatClampNeg) ∨ c = 203 + y.toNatClampNeg) → s12.1 c i = τ.1 c i := fun c i q => by rw [e12, u1e (by omega), f9 _ _ (by omega), f5 _ _ (by omega)]
      have pt : PT1 b s12 y.toNatClampNeg := by
        refine ⟨by rw [e12, u1v]; exact rN, fun i hi => ?_⟩
        rw [e12, u1e (by omega), g9 i (by omega)]
        rfl
      refine c_uses hN kG (t := y.toNatClampNeg) ey.symm (by omega) pt (U := uT b y.toNatClampNeg) (fun p hp => by rw [frs _ _ (by omega)]; exact i5 p hp) (fun v s fv fs us => ?_)
      have cv : v.toNatClampNeg = y.toNatClampNeg + 1 := by have := clE fv (by omega); omega
      refine ih v s ⟨by omega, by omega, fun c i q => ?_, fun t ht => ?_, fun p hp => by rw [cv]; exact us p hp⟩ (by (try dsimp only); omega)
      · rw [fs _ _ (by omega), frs _ _ (by omega)]
        exact i3 c i q
      · by_cases e : t = y.toNatClampNeg
        · rw [e]
          exact ⟨by rw [fs _ _ (by omega)]; exact pt.1, fun i hi => by rw [fs _ _ (by omega)]; exact pt.2 i hi⟩
        · have o := i4 t (by omega)
          exact ⟨by rw [fs _ _ (by omega), frs _ _ (by omega)]; exact o.1, fun i hi => by rw [fs _ _ (by omega), frs _ _ (by omega)]; exact o.2 i hi⟩
end SIM43
