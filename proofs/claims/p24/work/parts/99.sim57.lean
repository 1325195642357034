section SIM57
variable {N : Nat} {a b σ0 ψ : St} {L n : Nat}
/-- the class's ways are the reference's -/
def WY (a ψ : St) (n : Nat) : Prop := (∀ i : Nat, i < n → (a.1 36 i).toInt = dpN ψ i) ∧ ∀ i : Nat, i < n → ∀ d : Nat, d < dpN ψ i → (((a.2 37 i) >>> ((nI d).toInt64 &&& 63)) &&& 1).toInt32 = bP ψ i d
theorem WY.ext {υ : St} (h : WY a ψ n) (h1 : ∀ i : Nat, υ.1 36 i = a.1 36 i) (h2 : υ.2 = a.2) : WY υ ψ n := ⟨fun i hi => by rw [h1]; exact h.1 i hi, fun i hi d hd => by rw [h2]; exact h.2 i hi d hd⟩
theorem wy_of {w : Int32} {base : Int} (hs : SP a L n L w) (h : Same b a ψ L n) (hT : TK b ψ L n) (hD : PD ψ L n L base) : WY a ψ n := by
  have t := hT.1
  refine ⟨fun i hi => ?_, fun i hi d hd => ?_⟩
  · have := dep_eq hs h hT hD (n - 1 - i) i (by omega)
    have := dep_le hT hD hi
    unfold dpN
    omega
  · have dl := dep_le hT hD hi
    have d0 := dep_le hT hD (i := 0) (by omega)
    have d64 : d < 64 := by unfold dpN at hd; omega
    rw [bit64 d64]
    have ce := code_eq hs h hT hD (by unfold dpN; omega) (n - 1 - i) i (by omega) d d64
    unfold bP
    by_cases q : (ψ.1 31 (ψ.1 32 (anc ψ i (dpN ψ i - (d + 1)))).toNatClampNeg).toInt = (anc ψ i (dpN ψ i - (d + 1)) : Nat)
    · rw [if_pos q, if_pos (ce.mpr ⟨hd, q⟩)]
    · rw [if_neg q, if_neg (fun z => q (ce.mp z).2)]
set_option maxHeartbeats 2000000 in
/-- one text: the class -/
theorem c_text1 (hN : 4294967400 ≤ N) {x1 x2 : Int32} {t A : Nat} {base : Int} {M : Nat → Int32} (et : x1.toInt = t) (e2 : x2.toInt = A) (ht : (t : Int) < (b.1 0 41).toInt) (hb : K2 σ0 b) (hT : TK b ψ L n) (hD : PD ψ L n L base) (hU : ∀ p : Nat, (p : Int) < (b.1 0 36).toInt → ψ.1 37 p = uA b p) (hS : Same b a ψ L n) (hW : WY a ψ n) (hP : PT1 b a t) (h40 : (a.1 40 t).toInt = txN b ψ t) (hA : A + 1 + txB b ψ t ≤ 4096) (hM : MC a M) {Q : St → Prop} (hQ : ∀ υ : St, FrM a υ → MC υ (TC A (txF b ψ t) (txB b ψ t) M) → Q υ) : fX5_putText N x1 x2 Q a := by
  have z0 : (0 : Int32).toInt = 0 := by decide
  have o1 : (1 : Int32).toInt = 1 := by decide
  have o7 : (7 : Int32).toInt = 7 := by decide
  have b41 := K2.q_0_41 hb
  have b36 := K2.g_0_36 hb
  have c1 : x1.toNatClampNeg = t := by have := clE et (by omega); omega
  have hin : vp_in x1 20 := inE et (by omega) (by omega)
  have t1 := hT.1
  have cle := cN_le hb t
  have bB := Bt_le hb hT hD (t := t) ht
  have eBN := txN_Bt hb hT hD (t := t) ht
  have hA' : A + 1 + (txN b ψ t + 7) / 8 ≤ 4096 := hA
  have eB : txB b ψ t = (txN b ψ t + 7) / 8 := rfl
  have e21 : (x2 + 1).toInt = (A : Int) + 1 := aOkE e2 o1 (by omega) (by omega)
  unfold fX5_putText
  refine c_put e2 (by omega) hM (fun s1 f1 m1 => ?_)
  refine lo1_i (fun (y : Int32) (υ : St) => 0 ≤ y.toInt ∧ y.toInt ≤ txB b ψ t ∧ FrM a υ ∧ MC υ (TC A (fun _ => 0) y.toNatClampNeg M)) (fun y _ => ((txB b ψ t : Int) - y.toInt).toNat) ?_ N 0 s1 ⟨by omega, by omega, f1, ?_⟩ (by (try dsimp only); omega)
  · intro rr y υ hI ih
    obtain ⟨i1, i2, fυ, mυ⟩ := hI
    have ey := clE (rfl : y.toInt = y.toInt) i1
    have g40 : (υ.1 40 t).toInt = txN b ψ t := by rw [fυ.1 _ _ (by omega)]; exact h40
    have g7 : (υ.1 40 t + 7).toInt = (txN b ψ t : Int) + 7 := aOkE g40 o7 (by omega) (by omega)
    have g8 : ((υ.1 40 t + 7) / 8).toInt = (txB b ψ t : Int) := by rw [id8 (by omega), g7]; omega
    unfold fX5_putText_l13
    rw [c1]
    refine ⟨hin, fun c => ?_, fun c => ?_⟩
    · have c' := (leE g8 (rfl : y.toInt = _)).mp c
      rw [show y.toNatClampNeg = txB b ψ t by omega] at mυ
      refine lo2_i (fun (x z : Int32) (ω : St) => 0 ≤ z.toInt ∧ z.toInt ≤ cN b t ∧ x.toInt = ((txS b ψ t z.toNatClampNeg).2 : Nat) ∧ FrM a ω ∧ MC ω (TC A (txS b ψ t z.toNatClampNeg).1 (txB b ψ t) M)) (fun _ z _ => ((cN b t : Int) - z.toInt).toNat) ?_ N 0 0 υ ⟨by omega, by omega, z0, fυ, mυ⟩ (by (try dsimp only); omega)
      intro r2 x z ω hI2 ih2
      obtain ⟨j1, j2, j3, fω, mω⟩ := hI2
      have ez := clE (rfl : z.toInt = z.toInt) j1
      obtain ⟨m, hm⟩ : ∃ m : Nat, z.toNatClampNeg = m := ⟨_, rfl⟩
      rw [hm] at ez j3 mω
      have g39 : (ω.1 39 t).toInt = cN b t := by rw [fω.1 _ _ (by omega)]; exact hP.1
      have sm := txS_bs hb hT hD ht m (by unfold cN at j2; omega)
      have d0 := dep_le hT hD (i := 0) (by omega)
      have eD0 : (ψ.1 35 0).toInt = dpN ψ 0 := by unfold dpN; omega
      unfold fX5_putText_l53
      rw [c1]
      refine ⟨hin, fun d => ?_, fun d => ?_⟩
      · have d' := (leE g39 (rfl : z.toInt = _)).mp d
        have emN : m = cN b t := by omega
        rw [emN] at j3 mω
        have sN : (txS b ψ t (cN b t)).2 + dpN ψ 0 = txN b ψ t := rfl
        have wω : WY ω ψ n := hW.ext (fun i => fω.1 _ _ (by omega)) fω.2
        refine c_bits hN (A := A) (l := 0) (m := (txS b ψ t (cN b t)).2) (nb := txB b ψ t) (D := dpN ψ 0) (β := bP ψ 0) (W := (txS b ψ t (cN b t)).1) (M := M) z0 (by omega) e21 j3 (wω.1 0 (by omega)) (by omega) (fun d hd => wω.2 0 (by omega) d hd) (by omega) (by omega) mω (fun r φ er fφ mφ => hQ φ (fω.tr fφ) mφ)
      · have d' := (notleE g39 (rfl : z.toInt = _)).mp d
        have hk : (m : Int) < (tR b t).toInt := by unfold cN at d' j2; omega
        have eP : ω.1 (203 + t) m = tP b t m := by rw [fω.1 _ _ (by omega)]; exact hP.2 m (by omega)
        have bP' := tP_lt hb hk
        have cP := clE (rfl : (tP b t m).toInt = _) bP'.1
        obtain ⟨l, l1, l2⟩ := leaf_ok hb hT ht hk
        have used : 1 ≤ (uA b (tP b t m).toNatClampNeg).toInt := by
          rw [← hU _ (by omega)]
          exact hT.2.2.2.2.2.2.2 t ht m hk
        have e42 : ω.1 42 (tP b t m).toNatClampNeg = ψ.1 36 (tP b t m).toNatClampNeg := by rw [fω.1 _ _ (by omega)]; exact hS.2.2.2.1 _ (by omega) used
        have cl : (ψ.1 36 (tP b t m).toNatClampNeg).toNatClampNeg = l := by have := clE l2 (by omega); omega
        have lT : lfT b ψ t m = l := cl
        have ts1 : txS b ψ t (m + 1) = (pa (bP ψ l) (txS b ψ t m).1 (txS b ψ t m).2 (dpN ψ l), (txS b ψ t m).2 + dpN ψ l) := by show (pa (bP ψ (lfT b ψ t m)) _ _ (dpN ψ (lfT b ψ t m)), _ + dpN ψ (lfT b ψ t m)) = _; rw [lT]
        have dl := dep_le hT hD (i := l) (by omega)
        have sm1 := txS_bs hb hT hD ht (m + 1) (by omega)
        have bm1 := bsum_mono hb hT hD (t := t) ht (m + 1) ((tR b t).toInt.toNat - (m + 1)) (by omega)
        rw [show m + 1 + ((tR b t).toInt.toNat - (m + 1)) = (tR b t).toInt.toNat by omega] at bm1
        have bm1' : bsum b ψ t (m + 1) ≤ Bt b ψ t := bm1
        rw [ts1] at sm1
        have sm1' : (((txS b ψ t m).2 + dpN ψ l : Nat) : Int) + (ψ.1 35 0).toInt = bsum b ψ t (m + 1) := sm1
        have wω : WY ω ψ n := hW.ext (fun i => fω.1 _ _ (by omega)) fω.2
        rw [hm, eP, e42]
        refine ⟨hin, inE rfl (by omega) (by omega), inE rfl bP'.1 (by omega), ?_⟩
        refine c_bits hN (A := A) (l := l) (m := (txS b ψ t m).2) (nb := txB b ψ t) (D := dpN ψ l) (β := bP ψ l) (W := (txS b ψ t m).1) (M := M) l2 (by omega) e21 j3 (wω.1 l (by omega)) (by unfold dpN; omega) (fun d hd => wω.2 l (by omega) d hd) (by omega) (by omega) mω (fun r φ er fφ mφ v13 e13 => ?_)
        have f13 : v13.toInt = z.toInt + 1 := (congrArg Int32.toInt e13).trans (aOkE rfl o1 (by omega) (by omega))
        have c13 : v13.toNatClampNeg = m + 1 := by have := clE f13 (by omega); omega
        refine ih2 r v13 φ ⟨by omega, by omega, ?_, fω.tr fφ, ?_⟩ (by (try dsimp only); omega)
        · rw [c13, ts1]; exact er
        · rw [c13, ts1]; exact mφ
    · have c' := (notleE g8 (rfl : y.toInt = _)).mp c
      have es : ((x2 + 1) + y).toInt = (A + 1 + y.toNatClampNeg : Nat) := (aOkE e21 (rfl : y.toInt = _) (by omega) (by omega)).trans (by omega)
      refine c_put es (by omega) mυ (fun s4 f4 m4 v5 e5 => ?_)
      have f5 : v5.toInt = y.toInt + 1 := (congrArg Int32.toInt e5).trans (aOkE rfl o1 (by omega) (by omega))
      have c5 : v5.toNatClampNeg = y.toNatClampNeg + 1 := by have := clE f5 (by omega); omega
      refine ih v5 s4 ⟨by omega, by omega, fυ.tr f4, ?_⟩ (by (try dsimp only); omega)
      rw [c5]
      refine m4.ext (fun q hq => ?_)
      unfold wB TC
      by_cases eq : q = A + 1 + y.toNatClampNeg
      · rw [eq, up1, if_neg (by omega), if_pos (by omega)]; rfl
      · rw [up2 eq]
        by_cases eA : q = A
        · rw [if_pos eA, if_pos eA]
        · rw [if_neg eA, if_neg eA]
          by_cases g : A + 1 ≤ q ∧ q < A + 1 + y.toNatClampNeg
          · rw [if_pos g, if_pos (by omega)]
          · rw [if_neg g, if_neg (by omega)]
  · refine m1.ext (fun q hq => ?_)
    unfold wB TC
    rw [show (0 : Int32).toNatClampNeg = 0 from rfl]
    by_cases eA : q = A
    · rw [eA, up1, if_pos rfl]; decide
    · rw [up2 eA, if_neg eA, if_neg (by omega)]
/-- all texts: the class -/
theorem c_texts (hN : 4294967400 ≤ N) {x1 : Int32} {A0 : Nat} {base : Int} {M : Nat → Int32} (e1 : x1.toInt = A0) (h7 : a.1 7 4 = b.1 0 41) (hb : K2 σ0 b) (hT : TK b ψ L n) (hD : PD ψ L n L base) (hU : ∀ p : Nat, (p : Int) < (b.1 0 36).toInt → ψ.1 37 p = uA b p) (hS : Same b a ψ L n) (hW : WY a ψ n) (hP : ∀ t : Nat, (t : Int) < (b.1 0 41).toInt → PT1 b a t ∧ (a.1 40 t).toInt = Bt b ψ t) (hA : (A0 : Int) + Et b ψ (b.1 0 41).toNatClampNeg ≤ 4096) (hM : MC a M) {Q : St → Prop} (hQ : ∀ υ : St, (∀ c i : Nat, c ≠ 12 → c ≠ 25 → c ≠ 26 → υ.1 c i = a.1 c i) → MC υ (txM b ψ A0 M (b.1 0 41).toNatClampNeg) → (∀ t : Nat, (t : Int) < (b.1 0 41).toInt → (υ.1 25 t).toInt = txA b ψ A0 t ∧ (υ.1 26 t).toInt = txN b ψ t) → Q υ) : fX5_putTexts N x1 Q a := by
  have z0 : (0 : Int32).toInt = 0 := by decide
  have o1 : (1 : Int32).toInt = 1 := by decide
  have o7 : (7 : Int32).toInt = 7 := by decide
  have b41 := K2.q_0_41 hb
  have e41 := clE (rfl : (b.1 0 41).toInt = (b.1 0 41).toInt) b41.1
  unfold fX5_putTexts
  refine lo2_i (fun (x y : Int32) (υ : St) => 0 ≤ y.toInt ∧ y.toInt ≤ (b.1 0 41).toInt ∧ x.toInt = txA b ψ A0 y.toNatClampNeg ∧ (∀ c i : Nat, c ≠ 12 → c ≠ 25 → c ≠ 26 → υ.1 c i = a.1 c i) ∧ υ.2 = a.2 ∧ MC υ (txM b ψ A0 M y.toNatClampNeg) ∧ (∀ t : Nat, (t : Int) < y.toInt → (υ.1 25 t).toInt = txA b ψ A0 t ∧ (υ.1 26 t).toInt = txN b ψ t)) (fun _ y _ => ((b.1 0 41).toInt - y.toInt).toNat) ?_ N x1 0 a ⟨by omega, by omega, e1, fun _ _ _ _ _ => rfl, rfl, hM, fun t ht => absurd ht (by omega)⟩ (by (try dsimp only); omega)
  intro rr x y υ hI ih
  obtain ⟨i1, i2, i3, i4, i4', i5, i6⟩ := hI
  have ey := clE (rfl : y.toInt = y.toInt) i1
  have e74 : υ.1 7 4 = b.1 0 41 := by rw [i4 _ _ (by decide) (by decide) (by decide)]; exact h7
  unfold fX5_putTexts_l4
  rw [e74]
  refine ⟨fun c => ?_, fun c => ?_⟩
  · have c' := (leE (rfl : (b.1 0 41).toInt = _) (rfl : y.toInt = _)).mp c
    rw [show y.toNatClampNeg = (b.1 0 41).toNatClampNeg by omega] at i5
    exact hQ υ i4 i5 (fun t ht => i6 t (by omega))
  · have c' := (notleE (rfl : (b.1 0 41).toInt = _) (rfl : y.toInt = _)).mp c
    have hin : vp_in y 20 := inE rfl (by omega) (by omega)
    obtain ⟨t, ht⟩ : ∃ t : Nat, y.toNatClampNeg = t := ⟨_, rfl⟩
    rw [ht] at ey i3 i5
    have bE := Et_mono hb hT hD (t + 1) ((b.1 0 41).toNatClampNeg - (t + 1)) (by omega)
    rw [show t + 1 + ((b.1 0 41).toNatClampNeg - (t + 1)) = (b.1 0 41).toNatClampNeg by omega] at bE
    have bE' : Et b ψ t + (1 + (Bt b ψ t + 7) / 8) ≤ Et b ψ (b.1 0 41).toNatClampNeg := bE
    have nE := (Et_nn hb hT hD t (by omega)).1
    have nB := Bt_le hb hT hD (t := t) (by omega)
    have aE := txA_Et (A0 := A0) hb hT hD t (by omega)
    have nN := txN_Bt hb hT hD (t := t) (by omega)
    have eB : txB b ψ t = (txN b ψ t + 7) / 8 := rfl
    obtain ⟨pt, p40⟩ := hP t (by omega)
    rw [ht]
    refine ⟨hin, fun s3 e3 => ⟨hin, fun v5 e5 => ⟨hin, fun s7 e7 => ?_⟩⟩⟩
    have f7 : ∀ c i : Nat, ¬ ((c = 25 ∨ c = 26) ∧ i = t) → s7.1 c i = υ.1 c i := fun c i q => by rw [e7, u1e (by omega), e3, u1e (by omega)]
    have g7 : ∀ c i : Nat, c ≠ 12 → c ≠ 25 → c ≠ 26 → s7.1 c i = a.1 c i := fun c i q1 q2 q3 => (f7 c i (by omega)).trans (i4 c i q1 q2 q3)
    have m7 : s7.2 = a.2 := by rw [e7, e3]; exact i4'
    have h40 : (s7.1 40 t).toInt = txN b ψ t := by rw [g7 _ _ (by decide) (by decide) (by decide), p40, nN]
    have v5I : v5.toInt = txN b ψ t := by rw [e5, e3, u1e (by omega), i4 _ _ (by decide) (by decide) (by decide), p40, nN]
    refine c_text1 hN (t := t) (A := txA b ψ A0 t) (M := txM b ψ A0 M t) (base := base) ey.symm i3 (by omega) hb hT hD hU (hS.ext (fun c i q => g7 c i (by omega) (by omega) (by omega)) (fun _ _ _ => rfl)) (hW.ext (fun i => g7 _ _ (by decide) (by decide) (by decide)) m7) ⟨by rw [g7 _ _ (by decide) (by decide) (by decide)]; exact pt.1, fun i hi => by rw [g7 _ _ (by omega) (by omega) (by omega)]; exact pt.2 i hi⟩ h40 (by omega) (fun i hi => by rw [f7 _ _ (by omega)]; exact i5 i hi) (fun s8 f8 m8 => ⟨hin, fun v10 e10 v11 e11 => ?_⟩)
    have k40 : (s8.1 40 t).toInt = txN b ψ t := by rw [f8.1 _ _ (by omega)]; exact h40
    have q7 : (s8.1 40 t + 7).toInt = (txN b ψ t : Int) + 7 := aOkE k40 o7 (by omega) (by omega)
    have q8 : ((s8.1 40 t + 7) / 8).toInt = (txB b ψ t : Int) := by rw [id8 (by omega), q7]; omega
    have f10 : v10.toInt = (txA b ψ A0 t : Int) + (1 + (txB b ψ t : Int)) := (congrArg Int32.toInt e10).trans (aOkE i3 (aOkE o1 q8 (by omega) (by omega)) (by omega) (by omega))
    have f11 : v11.toInt = y.toInt + 1 := (congrArg Int32.toInt e11).trans (aOkE rfl o1 (by omega) (by omega))
    have c11 : v11.toNatClampNeg = t + 1 := by have := clE f11 (by omega); omega
    refine ih v10 v11 s8 ⟨by omega, by omega, ?_, fun c i q1 q2 q3 => (f8.1 c i q1).trans (g7 c i q1 q2 q3), f8.2.trans m7, by rw [c11]; exact m8, fun t' ht' => ?_⟩ (by (try dsimp only); omega)
    · rw [c11, f10]
      show _ = ((txA b ψ A0 t + (1 + txB b ψ t) : Nat) : Int)
      omega
    · by_cases e : t' = t
      · rw [e, f8.1 _ _ (by decide), f8.1 _ _ (by decide), e7, u1v, u1e (by omega), e3, u1v]
        exact ⟨i3, v5I⟩
      · rw [f8.1 _ _ (by decide), f8.1 _ _ (by decide), f7 _ _ (by omega), f7 _ _ (by omega)]
        exact i6 t' (by omega)
/-- the pieces' bits: the class -/
theorem c_keep (hN : 4294967400 ≤ N) (hs : a.1 6 5 = b.1 0 36) (hb : K2 σ0 b) (hT : TK b ψ L n) (hS : Same b a ψ L n) (hE : L = (lfs b (b.1 0 36).toNatClampNeg).1) (hl : ∀ i : Nat, i < L → ψ.1 27 i = (lfs b (b.1 0 36).toNatClampNeg).2.1 i) {Q : St → Prop} (hQ : ∀ υ : St, (∀ c i : Nat, c ≠ 22 → ¬ (c = 4 ∧ i = 11) → υ.1 c i = a.1 c i) → υ.1 4 11 = a.1 36 0 → (∀ p : Nat, (p : Int) < (b.1 0 36).toInt → (1 ≤ (uA b p).toInt → υ.1 22 p = a.1 36 ((lfs b (b.1 0 36).toNatClampNeg).2.2.1 p).toNatClampNeg) ∧ (¬ 1 ≤ (uA b p).toInt → υ.1 22 p = a.1 22 p)) → Q υ) : fX5_keepBits N Q a := by
  have z0 : (0 : Int32).toInt = 0 := by decide
  have o1 : (1 : Int32).toInt = 1 := by decide
  have b36 := K2.g_0_36 hb
  have e36 := clE (rfl : (b.1 0 36).toInt = (b.1 0 36).toInt) b36.1
  have t1 := hT.1
  obtain ⟨v1, v2⟩ := lfs_inv b (b.1 0 36).toNatClampNeg (by omega)
  rw [← hE] at v1 v2
  obtain ⟨F, hF⟩ : ∃ F : Lfs, lfs b (b.1 0 36).toNatClampNeg = F := ⟨_, rfl⟩
  rw [hF] at v1 v2 hl hQ
  unfold fX5_keepBits
  rw [show (0 : Int32).toNatClampNeg = 0 from rfl]
  refine ⟨inE z0 (by omega) (by omega), fun w2 e2 s3 e3 => ?_⟩
  refine lo1_i (fun (y : Int32) (υ : St) => 1 ≤ y.toInt ∧ y.toInt ≤ L ∧ (∀ c i : Nat, c ≠ 22 → ¬ (c = 4 ∧ i = 11) → υ.1 c i = a.1 c i) ∧ υ.1 4 11 = a.1 36 0 ∧ (∀ p : Nat, (p : Int) < (b.1 0 36).toInt → (1 ≤ (uA b p).toInt → (F.2.2.1 p).toInt < y.toInt → υ.1 22 p = a.1 36 (F.2.2.1 p).toNatClampNeg) ∧ (¬ 1 ≤ (uA b p).toInt → υ.1 22 p = a.1 22 p))) (fun y _ => ((L : Int) - y.toInt).toNat) ?_ N 1 s3 ⟨by omega, by omega, fun c i q1 q2 => by rw [e3, u1e q2], by rw [e3, u1v, e2], fun p hp => ⟨fun u1 lt => ?_, fun _ => by rw [e3, u1e (by omega)]⟩⟩ (by (try dsimp only); omega)
  · intro rr y υ hI ih
    obtain ⟨i1, i2, i3, i4, i5⟩ := hI
    have ey := clE (rfl : y.toInt = y.toInt) (by omega)
    have g10 : (υ.1 9 10).toInt = L := by rw [i3 _ _ (by decide) (by omega)]; exact hS.2.2.2.2.1
    unfold fX5_keepBits_l15
    refine ⟨fun c => ?_, fun c => ?_⟩
    · have c' := (leE g10 (rfl : y.toInt = _)).mp c
      refine hQ υ i3 i4 (fun p hp => ⟨fun u => (i5 p hp).1 u ?_, (i5 p hp).2⟩)
      obtain ⟨i, q1, q2, q3, q4⟩ := v2 p (by omega) u
      rw [q3, nI_toInt (by omega)]
      omega
    · have c' := (notleE g10 (rfl : y.toInt = _)).mp c
      obtain ⟨i, hi⟩ : ∃ i : Nat, y.toNatClampNeg = i := ⟨_, rfl⟩
      rw [hi] at ey
      obtain ⟨p, q1, q2, q3, q4⟩ := v1 i (by omega) (by omega)
      have e34 : υ.1 34 i = nI p := by rw [i3 _ _ (by decide) (by omega), hS.2.2.1 i (by omega), hl i (by omega), q2]
      have nP : (nI p).toInt = p := nI_toInt (by omega)
      rw [hi]
      refine ⟨inE rfl (by omega) (by omega), fun v6 e6 => ?_⟩
      rw [e34] at e6
      have f6 : v6.toInt = p := by rw [e6]; exact nP
      have c6 : v6.toNatClampNeg = p := by have := clE f6 (by omega); omega
      have e65 : υ.1 6 5 = b.1 0 36 := by rw [i3 _ _ (by decide) (by omega)]; exact hs
      rw [e65]
      refine ⟨fun w => ?_, fun _ => ⟨fun w => ?_, fun _ => ⟨inE rfl (by omega) (by omega), fun v10 e10 => ⟨inE f6 (by omega) (by omega), fun s12 e12 => ?_⟩⟩⟩⟩
      · have := (ltE f6 z0).mp w
        omega
      · have := (leE (rfl : (b.1 0 36).toInt = _) f6).mp w
        omega
      · rw [c6] at e12
        intro v8 e8
        have f8 : v8.toInt = y.toInt + 1 := (congrArg Int32.toInt e8).trans (aOkE rfl o1 (by omega) (by omega))
        refine ih v8 s12 ⟨by omega, by omega, fun c j w1 w2 => by rw [e12, u1e (fun z => w1 z.1)]; exact i3 c j w1 w2, by rw [e12, u1e (by omega)]; exact i4, fun p' hp' => ⟨fun u lt => ?_, fun u => ?_⟩⟩ (by (try dsimp only); omega)
        · by_cases e : p' = p
          · rw [e, e12, u1v, e10, i3 _ _ (by decide) (by omega), q4, clnI (by omega)]
          · obtain ⟨i', r1, r2, r3, r4⟩ := v2 p' (by omega) u
            have ne : i' ≠ i := fun w => by
              rw [w, q2] at r4
              have := congrArg Int32.toInt r4
              rw [nI_toInt (by omega), nI_toInt (by omega)] at this
              omega
            rw [e12, u1e (by omega)]
            refine (i5 p' hp').1 u ?_
            rw [r3, nI_toInt (by omega)] at lt
            rw [r3, nI_toInt (by omega)]
            omega
        · have ne : p' ≠ p := fun w => by rw [w] at u; exact u q3
          rw [e12, u1e (by omega)]
          exact (i5 p' hp').2 u
  · obtain ⟨i, q1, q2, q3, q4⟩ := v2 p (by omega) u1
    rw [q3, nI_toInt (by omega)] at lt
    omega
end SIM57
