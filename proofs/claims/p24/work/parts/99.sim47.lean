theorem sh64 : ∀ d < 64, ((((nI d).toInt64 &&& 63).toBitVec.smod 64)) = BitVec.ofNat 64 d := by decide +kernel
theorem one64 : ∀ D < 64, ∀ d < 64, ((1 : Int64) <<< ((nI D).toInt64 &&& 63)).toBitVec.getLsbD d = decide (d = D) := by decide +kernel
theorem bit64 {c : Int64} {d : Nat} (hd : d < 64) : ((c >>> ((nI d).toInt64 &&& 63)) &&& 1).toInt32 = if c.toBitVec.getLsbD d then 1 else 0 := by
  have e : ((c >>> ((nI d).toInt64 &&& 63)) &&& 1) = if c.toBitVec.getLsbD d then 1 else 0 := by
    apply Int64.toBitVec_inj.mp
    rw [Int64.toBitVec_and, Int64.toBitVec_shiftRight, sh64 d hd]
    rw [show (1 : Int64).toBitVec = 1#64 from rfl, BitVec.and_one_eq_setWidth_ofBool_getLsbD]
    have g : (c.toBitVec.sshiftRight' (BitVec.ofNat 64 d)).getLsbD 0 = c.toBitVec.getLsbD d := by
      rw [BitVec.sshiftRight', BitVec.getLsbD_sshiftRight, BitVec.toNat_ofNat]
      simp [Nat.mod_eq_of_lt (show d < 18446744073709551616 by omega)]
      omega
    rw [g]
    cases c.toBitVec.getLsbD d <;> rfl
  rw [e]
  cases c.toBitVec.getLsbD d <;> rfl
theorem or64 {c e : Int64} {d : Nat} : (c ||| e).toBitVec.getLsbD d = (c.toBitVec.getLsbD d || e.toBitVec.getLsbD d) := by
  rw [Int64.toBitVec_or, BitVec.getLsbD_or]
section SIM47
variable {N : Nat} {a b τa τb : St} {L n : Nat}
/-- both sides have the same knots -/
def Same (b τa τb : St) (L n : Nat) : Prop := (∀ i : Nat, i < n → τa.1 33 i = τb.1 33 i) ∧ (∀ k : Nat, L ≤ k → k < n → τa.1 31 k = τb.1 30 k ∧ τa.1 32 k = τb.1 31 k) ∧ (∀ i : Nat, i < L → τa.1 34 i = τb.1 27 i) ∧ (∀ p : Nat, (p : Int) < (b.1 0 36).toInt → 1 ≤ (uA b p).toInt → τa.1 42 p = τb.1 36 p) ∧ (τa.1 9 10).toInt = L ∧ (τa.1 9 9).toInt = n
theorem Same.ext {υa υb : St} (h : Same b τa τb L n) (ha : ∀ c i : Nat, (31 ≤ c ∧ c ≤ 34) ∨ c = 42 ∨ c = 9 → υa.1 c i = τa.1 c i) (hb : ∀ c i : Nat, c = 27 ∨ c = 30 ∨ c = 31 ∨ c = 33 ∨ c = 36 → υb.1 c i = τb.1 c i) : Same b υa υb L n := by
  obtain ⟨h1, h2, h3, h4, h5, h6⟩ := h
  refine ⟨fun i hi => ?_, fun k k1 k2 => ?_, fun i hi => ?_, fun p p1 p2 => ?_, ?_, ?_⟩
  · rw [ha _ _ (by omega), hb _ _ (by omega)]; exact h1 i hi
  · rw [ha _ _ (by omega), hb _ _ (by omega), ha _ _ (by omega), hb _ _ (by omega)]; exact h2 k k1 k2
  · rw [ha _ _ (by omega), hb _ _ (by omega)]; exact h3 i hi
  · rw [ha _ _ (by omega), hb _ _ (by omega)]; exact h4 p p1 p2
  · rw [ha _ _ (by omega)]; exact h5
  · rw [ha _ _ (by omega)]; exact h6
theorem same_of {L' : Nat} (hc : EXc b τa L') (he : EX b τb L) (hT : TK b τb L n) : Same b τa τb L n ∧ L' = L := by
  obtain ⟨⟨c1, c2, c3⟩, c4, c5, c6⟩ := hc
  obtain ⟨e1, e2, e3, e4, e5⟩ := he
  have eL : L' = L := by rw [c1, e1]
  subst eL
  have en : n = 2 * L' - 1 := by have := hT.1; omega
  refine ⟨⟨fun i hi => ?_, fun k k1 k2 => ?_, fun i hi => ?_, fun p p1 p2 => ?_, c2, by have := hT.1; omega⟩, rfl⟩
  · rw [(c6 i (by omega)).2.2.1, (e5 i (by omega)).2.2.1]
  · have w1 := (c6 k (by omega)).2.2.2 k1
    have w2 := (e5 k (by omega)).2.2.2 k1
    exact ⟨w1.1.trans w2.1.symm, w1.2.trans w2.2.symm⟩
  · rw [c4 i hi, e3 i hi]
  · rw [c5 p p1 p2, e4 p p1 p2]
theorem Same.ct (h : Same b τa τb L n) (hT : TK b τb L n) : CTr τa L n (fun i => (τb.1 32 i).toNatClampNeg) := by
  intro k k1 k2
  obtain ⟨z, o, q1, q2, q3, q4, q5, q6, q7, q8, _⟩ := hT.2.1 k k1 k2
  have w := h.2.1 k k1 k2
  refine ⟨z, o, q1, q2, q3, by rw [w.1]; exact q4, by rw [w.2]; exact q5, ?_, ?_⟩
  · have := clE q7 (by omega); show (τb.1 32 z).toNatClampNeg = k; omega
  · have := clE q8 (by omega); show (τb.1 32 o).toNatClampNeg = k; omega
/-- a knot's place, depth and way stand by those of the one above -/
theorem SP.up {w : Int32} (hs : SP τa L n L w) (h : Same b τa τb L n) (hT : TK b τb L n) {i : Nat} (hi : i + 1 < n) : ∃ k z o : Nat, L ≤ k ∧ k < n ∧ i < k ∧ (τb.1 32 i).toInt = k ∧ (τb.1 30 k).toInt = z ∧ (τb.1 31 k).toInt = o ∧ z < k ∧ o < k ∧ z ≠ o ∧ (i = z ∨ i = o) ∧ SPk τa k z o := by
  obtain ⟨k, h1, h2, h3, h4, h5⟩ := hT.up hi
  obtain ⟨z, o, q1, q2, q3, q4, q5, _⟩ := hT.2.1 k h1 h2
  have wk := h.2.1 k h1 h2
  exact ⟨k, z, o, h1, h2, h3, h4, q4, q5, q1, q2, q3, by omega, hs.2 k z o h1 h1 h2 (by rw [wk.1]; exact q4) (by rw [wk.2]; exact q5)⟩
theorem dep_eq {w : Int32} {base : Int} (hs : SP τa L n L w) (h : Same b τa τb L n) (hT : TK b τb L n) (hD : PD τb L n L base) : ∀ d i : Nat, i + d + 1 = n → (τa.1 36 i).toInt = (τb.1 35 i).toInt := by
  intro d
  induction d using Nat.strongRecOn with
  | ind d ih =>
    intro i hi
    have z1 : (1 : Int32).toInt = 1 := by decide
    by_cases e : d = 0
    · rw [show i = n - 1 by omega, hs.1.2.1, hD.2.1]
      decide
    · obtain ⟨k, z, o, k1, k2, k3, k4, k5, k6, k7, k8, k9, k10, sp⟩ := hs.up h hT (i := i) (by omega)
      have g := hD.2.2.1 k z o k1 k1 k2 k5 k6
      have ihk := ih (n - 1 - k) (by omega) k (by omega)
      have bd := PD.bd hT hD (i := k) k2
      have t := hT.1
      have s1 : (τa.1 36 k + 1).toInt = (τa.1 36 k).toInt + 1 := aOkE rfl z1 (by omega) (by omega)
      rcases k10 with e | e
      · rw [e, sp.2.2.1, s1, ihk, g.2.2.1]
      · rw [e, sp.2.2.2.1, s1, ihk, g.2.2.2]
theorem pl_eq {w : Int32} {base : Int} (hs : SP τa L n L w) (h : Same b τa τb L n) (hT : TK b τb L n) (hD : PD τb L n L base) (hw : w.toInt = base) (h0 : 0 ≤ base) (h1 : base + (τb.1 33 (n - 1)).toInt ≤ 5000) : ∀ d i : Nat, i + d + 1 = n → (τa.1 35 i).toInt = (τb.1 34 i).toInt := by
  intro d
  induction d using Nat.strongRecOn with
  | ind d ih =>
    intro i hi
    have z9 : (9 : Int32).toInt = 9 := by decide
    by_cases e : d = 0
    · rw [show i = n - 1 by omega, hs.1.1, hD.1, hw]
    · obtain ⟨k, z, o, k1, k2, k3, k4, k5, k6, k7, k8, k9, k10, sp⟩ := hs.up h hT (i := i) (by omega)
      have g := hD.2.2.1 k z o k1 k1 k2 k5 k6
      have ihk := ih (n - 1 - k) (by omega) k (by omega)
      have bd := PD.bd hT hD (i := k) k2
      have bz := PD.bd hT hD (i := z) (by omega)
      have bo := PD.bd hT hD (i := o) (by omega)
      have sz := hT.2.2.2.1 z (by omega)
      have so := hT.2.2.2.1 o (by omega)
      have s33 := h.1 z (by omega)
      have s1 : (τa.1 35 k + 9).toInt = (τa.1 35 k).toInt + 9 := aOkE rfl z9 (by omega) (by omega)
      rcases k10 with e | e
      · rw [e, sp.1, s1, ihk, g.1]
      · have s2 : ((τa.1 35 k + 9) + τa.1 33 z).toInt = (τa.1 35 k).toInt + 9 + (τa.1 33 z).toInt := aOkE s1 rfl (by rw [s33]; omega) (by rw [s33]; omega)
        rw [e, sp.2.1, s2, ihk, g.2.1, s33]
/-- the knot so many above -/
def anc (τ : St) (i : Nat) : Nat → Nat
  | 0 => i
  | j + 1 => anc τ (τ.1 32 i).toNatClampNeg j
/-- is it the one for a bit 1 -/
def isO (τ : St) (k : Nat) : Prop := (τ.1 31 (τ.1 32 k).toNatClampNeg).toInt = k
def dpN (τ : St) (i : Nat) : Nat := (τ.1 35 i).toInt.toNat
theorem code_eq {w : Int32} {base : Int} (hs : SP τa L n L w) (h : Same b τa τb L n) (hT : TK b τb L n) (hD : PD τb L n L base) (hn : dpN τb 0 ≤ 1000) : ∀ d i : Nat, i + d + 1 = n → ∀ e : Nat, e < 64 → ((τa.2 37 i).toBitVec.getLsbD e = true ↔ e < dpN τb i ∧ isO τb (anc τb i (dpN τb i - (e + 1)))) := by
  intro d
  induction d using Nat.strongRecOn with
  | ind d ih =>
    intro i hi e he
    by_cases e0 : d = 0
    · have ei : i = n - 1 := by omega
      subst ei
      have d0 : dpN τb (n - 1) = 0 := by unfold dpN; rw [hD.2.1]; rfl
      rw [hs.1.2.2, d0]
      refine ⟨fun q => ?_, fun q => absurd q.1 (by omega)⟩
      rw [show (0 : Int64).toBitVec = 0#64 from rfl, BitVec.getLsbD_zero] at q
      exact absurd q (by decide)
    · obtain ⟨k, z, o, k1, k2, k3, k4, k5, k6, k7, k8, k9, k10, sp⟩ := hs.up h hT (i := i) (by omega)
      have g := hD.2.2.1 k z o k1 k1 k2 k5 k6
      have ihk := ih (n - 1 - k) (by omega) k (by omega) e he
      have bd := PD.bd hT hD (i := k) k2
      have t := hT.1
      have ck : (τb.1 32 i).toNatClampNeg = k := by have := clE k4 (by omega); omega
      have dk : dpN τb i = dpN τb k + 1 := by
        unfold dpN
        rcases k10 with q | q
        · rw [q, g.2.2.1]; omega
        · rw [q, g.2.2.2]; omega
      have dk60 : dpN τb k < 61 := by unfold dpN; have := hT.1; omega
      have io : isO τb i ↔ i = o := by
        unfold isO
        rw [ck, k6]
        omega
      have step : e < dpN τb k → anc τb i (dpN τb i - (e + 1)) = anc τb k (dpN τb k - (e + 1)) := by
        intro q
        rw [dk, show dpN τb k + 1 - (e + 1) = (dpN τb k - (e + 1)) + 1 by omega]
        show anc τb (τb.1 32 i).toNatClampNeg _ = _
        rw [ck]
      have last : e = dpN τb k → anc τb i (dpN τb i - (e + 1)) = i := by
        intro q
        rw [dk, show dpN τb k + 1 - (e + 1) = 0 by omega]
        rfl
      rcases k10 with q | q
      · have co : τa.2 37 i = τa.2 37 k := by rw [q]; exact sp.2.2.2.2.1
        rw [co, ihk]
        refine ⟨fun w => ⟨by omega, by rw [step w.1]; exact w.2⟩, fun w => ?_⟩
        by_cases el : e = dpN τb k
        · have w2 := w.2
          rw [last el] at w2
          exact absurd (io.mp w2) (by omega)
        · have lt : e < dpN τb k := by omega
          exact ⟨lt, by rw [← step lt]; exact w.2⟩
      · have de : (τa.1 36 k).toInt = (τb.1 35 k).toInt := dep_eq hs h hT hD (n - 1 - k) k (by omega)
        have ek : τa.1 36 k = nI (dpN τb k) := Int32.toInt_inj.mp (by rw [nI_toInt (by omega), de]; unfold dpN; omega)
        have co : τa.2 37 i = (τa.2 37 k) ||| (1 <<< ((nI (dpN τb k)).toInt64 &&& 63)) := by rw [q, sp.2.2.2.2.2, ek]
        rw [co, or64, one64 _ (by omega) e he, Bool.or_eq_true, ihk, decide_eq_true_iff]
        refine ⟨fun w => ?_, fun w => ?_⟩
        · rcases w with w | w
          · exact ⟨by omega, by rw [step w.1]; exact w.2⟩
          · exact ⟨by omega, by rw [last w]; exact io.mpr q⟩
        · by_cases el : e = dpN τb k
          · exact Or.inr el
          · have lt : e < dpN τb k := by omega
            exact Or.inl ⟨lt, by rw [← step lt]; exact w.2⟩
end SIM47
