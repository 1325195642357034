section SIM30
variable {X Y : St → St → Prop} {a b a' b' : St} {N : Nat} {x1 x2 : Int32}
/-- a piece -/
def PcE (a b : St) (p : Nat) : Prop := a.1 18 p = b.1 16 p ∧ a.1 21 p = b.1 18 p ∧ a.1 22 p = b.1 19 p ∧ (∀ m : Nat, (m : Int) < (b.1 18 p).toInt → a.1 (123 + p) m = dg b p m) ∧ (8 ≤ (b.1 16 p).toInt → a.1 19 p = b.1 17 (20 * p)) ∧ (((b.1 16 p = 2 ∨ b.1 16 p = 4 ∨ b.1 16 p = 8 ∨ b.1 16 p = 9) ∧ (b.1 18 p).toInt = 1) ∨ ((b.1 16 p = 3 ∨ b.1 16 p = 5) ∧ 2 ≤ (b.1 18 p).toInt))
/-- a text -/
def TxE (a b : St) (k : Nat) : Prop := a.1 24 k = b.1 21 k ∧ a.1 25 k = b.1 22 k ∧ a.1 26 k = b.1 23 k ∧ ∀ i : Nat, (i : Int) < (b.1 21 k).toInt → a.1 (183 + k) i = b.1 20 (120 * k + i)
def XPc (a b : St) : Prop := ∀ p : Nat, p < 60 → (p : Int) < (b.1 0 36).toInt → PcE a b p
def XX (a b : St) : Prop := ∀ k : Nat, k < 20 → (k : Int) < (b.1 0 41).toInt → TxE a b k
/-- the tape -/
def XU (a b : St) : Prop := ∀ i : Nat, (i : Int) < (b.1 0 3).toInt → (a.1 10 i) &&& 255 = b.1 2 i
def XL (a b : St) : Prop := XU a b ∧ XPc a b ∧ XX a b
/-- the line -/
def XN (a b : St) : Prop := a.1 0 7 = b.1 0 5 ∧ ∀ i : Nat, (i : Int) < (b.1 0 5).toInt → a.1 11 i = b.1 3 i
/-- the rest of the state between calls -/
def Xr (a b : St) : Prop := XN a b ∧ XL a b
/-- while a call begins: the class's line is empty, the reference's not yet -/
def Xc (n : Int32) (a b : St) : Prop := (a.1 0 7 = 0 ∧ b.1 0 5 = n) ∧ XL a b
theorem PcE.ext {p : Nat} (hp : p < 60) (h : PcE a b p) (ha : ∀ c i : Nat, ((18 ≤ c ∧ c ≤ 22) ∨ (123 ≤ c ∧ c < 183)) → a'.1 c i = a.1 c i) (hb : ∀ c i : Nat, 16 ≤ c ∧ c ≤ 19 → b'.1 c i = b.1 c i) : PcE a' b' p := by
  obtain ⟨h1, h2, h3, h4, h5, h6⟩ := h
  have e16 := hb 16 p (by omega)
  have e18 := hb 18 p (by omega)
  refine ⟨?_, ?_, ?_, fun m hm => ?_, fun hk => ?_, ?_⟩
  · rw [ha _ _ (by omega), e16]; exact h1
  · rw [ha _ _ (by omega), e18]; exact h2
  · rw [ha _ _ (by omega), hb _ _ (by omega)]; exact h3
  · rw [e18] at hm
    unfold dg
    rw [ha _ _ (by omega), e16, hb _ _ (by omega)]
    exact h4 m hm
  · rw [e16] at hk
    rw [ha _ _ (by omega), hb _ _ (by omega)]
    exact h5 hk
  · rw [e16, e18]; exact h6
theorem TxE.ext {k : Nat} (hk : k < 20) (h : TxE a b k) (ha : ∀ c i : Nat, ((24 ≤ c ∧ c ≤ 26) ∨ (183 ≤ c ∧ c < 203)) → a'.1 c i = a.1 c i) (hb : ∀ c i : Nat, 20 ≤ c ∧ c ≤ 23 → b'.1 c i = b.1 c i) : TxE a' b' k := by
  obtain ⟨h1, h2, h3, h4⟩ := h
  have e21 := hb 21 k (by omega)
  refine ⟨?_, ?_, ?_, fun i hi => ?_⟩
  · rw [ha _ _ (by omega), e21]; exact h1
  · rw [ha _ _ (by omega), hb _ _ (by omega)]; exact h2
  · rw [ha _ _ (by omega), hb _ _ (by omega)]; exact h3
  · rw [e21] at hi
    rw [ha _ _ (by omega), hb _ _ (by omega)]
    exact h4 i hi
theorem XPc.ext (h : XPc a b) (ha : ∀ c i : Nat, ((18 ≤ c ∧ c ≤ 22) ∨ (123 ≤ c ∧ c < 183)) → a'.1 c i = a.1 c i) (hb : ∀ c i : Nat, (16 ≤ c ∧ c ≤ 19) ∨ (c = 0 ∧ i = 36) → b'.1 c i = b.1 c i) : XPc a' b' := fun p h1 h2 => by
  rw [hb _ _ (by omega)] at h2
  exact (h p h1 h2).ext h1 ha (fun c i q => hb c i (Or.inl q))
theorem XX.ext (h : XX a b) (ha : ∀ c i : Nat, ((24 ≤ c ∧ c ≤ 26) ∨ (183 ≤ c ∧ c < 203)) → a'.1 c i = a.1 c i) (hb : ∀ c i : Nat, (20 ≤ c ∧ c ≤ 23) ∨ (c = 0 ∧ i = 41) → b'.1 c i = b.1 c i) : XX a' b' := fun k h1 h2 => by
  rw [hb _ _ (by omega)] at h2
  exact (h k h1 h2).ext h1 ha (fun c i q => hb c i (Or.inl q))
theorem XU.ext (h : XU a b) (ha : ∀ i : Nat, a'.1 10 i = a.1 10 i) (hb : ∀ c i : Nat, c = 2 ∨ (c = 0 ∧ i = 3) → b'.1 c i = b.1 c i) : XU a' b' := fun i hi => by
  rw [hb _ _ (by omega)] at hi
  rw [ha, hb _ _ (by omega)]
  exact h i hi
theorem XL.ext (h : XL a b) (ha : ∀ c i : Nat, (c = 10 ∨ (18 ≤ c ∧ c ≤ 26) ∨ (123 ≤ c ∧ c < 203)) → a'.1 c i = a.1 c i) (hb : ∀ c i : Nat, c = 2 ∨ (16 ≤ c ∧ c ≤ 23) ∨ (c = 0 ∧ (i = 3 ∨ i = 36 ∨ i = 41)) → b'.1 c i = b.1 c i) : XL a' b' :=
  ⟨h.1.ext (fun i => ha _ _ (by omega)) (fun c i q => hb c i (by omega)), h.2.1.ext (fun c i q => ha c i (by omega)) (fun c i q => hb c i (by omega)), h.2.2.ext (fun c i q => ha c i (by omega)) (fun c i q => hb c i (by omega))⟩
theorem XN.ext (h : XN a b) (ha : ∀ c i : Nat, c = 11 ∨ (c = 0 ∧ i = 7) → a'.1 c i = a.1 c i) (hb : ∀ c i : Nat, c = 3 ∨ (c = 0 ∧ i = 5) → b'.1 c i = b.1 c i) : XN a' b' := by
  refine ⟨by rw [ha _ _ (by omega), hb _ _ (by omega)]; exact h.1, fun i hi => ?_⟩
  rw [hb _ _ (by omega)] at hi
  rw [ha _ _ (by omega), hb _ _ (by omega)]
  exact h.2 i hi
theorem Xr.ext (h : Xr a b) (ha : ∀ c i : Nat, (c = 10 ∨ c = 11 ∨ (c = 0 ∧ i = 7) ∨ (18 ≤ c ∧ c ≤ 26) ∨ (123 ≤ c ∧ c < 203)) → a'.1 c i = a.1 c i) (hb : ∀ c i : Nat, c = 2 ∨ c = 3 ∨ (16 ≤ c ∧ c ≤ 23) ∨ (c = 0 ∧ (i = 3 ∨ i = 5 ∨ i = 36 ∨ i = 41)) → b'.1 c i = b.1 c i) : Xr a' b' :=
  ⟨h.1.ext (fun c i q => ha c i (by omega)) (fun c i q => hb c i (by omega)), h.2.ext (fun c i q => ha c i (by omega)) (fun c i q => hb c i (by omega))⟩
theorem Xc.ext {n : Int32} (h : Xc n a b) (ha : ∀ c i : Nat, (c = 10 ∨ (c = 0 ∧ i = 7) ∨ (18 ≤ c ∧ c ≤ 26) ∨ (123 ≤ c ∧ c < 203)) → a'.1 c i = a.1 c i) (hb : ∀ c i : Nat, c = 2 ∨ (16 ≤ c ∧ c ≤ 23) ∨ (c = 0 ∧ (i = 3 ∨ i = 5 ∨ i = 36 ∨ i = 41)) → b'.1 c i = b.1 c i) : Xc n a' b' :=
  ⟨⟨(ha _ _ (by omega)).trans h.1.1, (hb _ _ (by omega)).trans h.1.2⟩, h.2.ext (fun c i q => ha c i (by omega)) (fun c i q => hb c i (by omega))⟩
theorem Xr.xa : XA Xr := ⟨fun a b a' k h => h.ext (fun c i q => k c i (by unfold Xa; omega)) (fun _ _ _ => rfl), fun a b b' k _ h => h.ext (fun _ _ _ => rfl) (fun c i q => k c i (by unfold Xb; omega))⟩
theorem Xc.xa {n : Int32} : XA (Xc n) := ⟨fun a b a' k h => h.ext (fun c i q => k c i (by unfold Xa; omega)) (fun _ _ _ => rfl), fun a b b' k _ h => h.ext (fun _ _ _ => rfl) (fun c i q => k c i (by unfold Xb; omega))⟩
theorem Xr.xw : XW Xr := fun a b x v w h _ _ => h.ext (fun c i q => u1e (by omega)) (fun c i q => u1e (by omega))
theorem Xr.xc : XC Xr := fun a b a' b' k1 k2 _ h => h.ext (fun c i q => k1 c i (by omega)) (fun c i q => k2 c i (by omega))
/-- between calls, where machine and jobs stay -/
theorem Rbt.mv (h : Rbt X a b) (ha : ∀ c i : Nat, (c = 16 ∨ (c = 3 ∧ i = 11) ∨ (43 ≤ c ∧ c < 123)) → a'.1 c i = a.1 c i) (hb : ∀ c i : Nat, (6 ≤ c ∧ c ≤ 14) ∨ (c = 0 ∧ i = 14) → b'.1 c i = b.1 c i) (hs : Rs a' b') (hm : RM a' b') (hx : Y a' b') (hg : G2 b') : Rbt Y a' b' := by
  obtain ⟨h1, h2, h3, h4, h5, h6, h7⟩ := h
  refine ⟨hs, hm, ?_, hx, hg, (ha _ _ (by omega)).trans h6, fun j hj => ?_⟩
  · funext i
    rw [ha _ _ (by omega), hb _ _ (by omega)]
    exact congrFun h3 i
  · have hd := K2.g_0_14 (K2.self h5)
    rw [hb _ _ (by omega)] at hj
    exact (h7 j hj).ext (fun f => ha _ _ (by omega)) (fun i => ha _ _ (by omega)) (fun k k1 k2 k3 => hb _ _ (by omega)) (fun i _ => hb _ _ (by omega)) (g2_9 h5 j).2
/-- scalars of both sides by hand -/
theorem Rs.fr (h : Rs a b) (ha : ∀ q ∈ SC, a'.1 q.1 q.2.1 = a.1 q.1 q.2.1) (hb : ∀ q ∈ SC, b'.1 q.2.2.1 q.2.2.2 = b.1 q.2.2.1 q.2.2.2) : Rs a' b' := fun q hm => by
  rw [ha q hm, hb q hm]
  exact h q hm
theorem RM.fr (h : RM a b) (ha : ∀ i : Nat, a'.1 12 i = a.1 12 i) (hb : ∀ i : Nat, b'.1 1 i = b.1 1 i) : RM a' b' := fun x hx => by
  rw [ha, hb]
  exact h x hx
theorem SC_no2 : ∀ q ∈ SC, (q.1 = 2 → q.2.1 = 8) ∧ q.2.2.2 ≠ 7 ∧ q.2.2.2 ≠ 5 ∧ q.2.2.2 ≠ 9 ∧ (q.1 = 0 → q.2.1 = 6) := by decide
/-- the cells of the cache alone -/
theorem Rbt.cache (h : Rbt Xr a b) (ha : ∀ c i : Nat, ¬ (c = 13 ∨ c = 14 ∨ (c = 2 ∧ i ≠ 8)) → a'.1 c i = a.1 c i) : Rbt Xr a' b :=
  h.mv (fun c i q => ha c i (by omega)) (fun _ _ _ => rfl) (h.1.fr (fun q hm => ha _ _ (by have := SC_no2 q hm; have := SC_lt q hm; omega)) (fun _ _ => rfl)) (h.2.1.fr (fun i => ha _ _ (by omega)) (fun _ => rfl)) (h.2.2.2.1.ext (fun c i q => ha c i (by omega)) (fun _ _ _ => rfl)) h.2.2.2.2.1
theorem p_border (h : Rbt Xr a b) : fX11_border N x1 (fun r1 τ1 => fX12_border N x1 (fun r2 τ2 => r1 = r2 ∧ Rbt Xr τ1 τ2) b) a := by
  have z0 : (0 : Int32).toInt = 0 := by decide
  have zm : (4096 : Int32).toInt = 4096 := by decide
  have z0L : (0 : Int64).toInt = 0 := by decide
  have zmL : (4096 : Int64).toInt = 4096 := by decide
  have e64 : x1.toInt64.toInt = x1.toInt := i2lE rfl
  have e1 : a.1 1 1 = b.1 0 1 := h.1.at 1 1 0 1 (by decide)
  have no : (x1.toInt < 0 ∨ 4096 < x1.toInt) → fX12_border N x1 (fun r2 τ2 => -2 = r2 ∧ Rbt Xr a τ2) b := by
    intro w
    unfold fX12_border fX12_in
    refine ⟨fun _ => ⟨fun _ => ⟨rfl, h⟩, fun q => absurd rfl q⟩, fun w1 => ⟨fun _ => ⟨fun _ => ⟨rfl, h⟩, fun q => absurd rfl q⟩, fun w2 => ?_⟩⟩
    have := (notltE64 e64 z0L).mp w1
    have := (notltE64 zmL e64).mp w2
    omega
  unfold fX11_border
  refine ⟨fun c => no (Or.inl ?_), fun c => ⟨fun c2 => ?_, fun c2 => no (Or.inr ?_)⟩⟩
  · have := (ltE (rfl : x1.toInt = x1.toInt) z0).mp c
    omega
  · have c' := (notltE (rfl : x1.toInt = x1.toInt) z0).mp c
    have c2' := (leE (rfl : x1.toInt = x1.toInt) zm).mp c2
    intro v3 ev3 s4 e4 s5 e5 s6 e6 s7 e7
    unfold fX12_border fX12_in
    refine ⟨fun w => ?_, fun _ => ⟨fun w => ?_, fun _ => ⟨fun q => absurd q (by decide), fun _ w4 ew4 t5 f5 t6 f6 => ⟨by rw [ev3, ew4, e1], ?_⟩⟩⟩⟩
    · have := (ltE64 e64 z0L).mp w
      omega
    · have := (ltE64 zmL e64).mp w
      omega
    · have base : Rbt Xr (u1 a 1 1 x1) (u1 (u1 b 0 1 x1) 0 7 0) := by
        refine h.mv (fun c i q => u1e (by omega)) (fun c i q => (u1e (by omega)).trans (u1e (by omega))) ((h.1.ab (by decide)).b (by decide)) (h.2.1.fr (fun i => u1e (by omega)) (fun i => (u1e (by omega)).trans (u1e (by omega)))) (h.2.2.2.1.ext (fun c i q => u1e (by omega)) (fun c i q => (u1e (by omega)).trans (u1e (by omega)))) ?_
        refine (h.2.2.2.2.1.uf (by simp [Rg2, In32]; omega) (by decide)).uf (by simp [Rg2, In32] <;> decide) (by decide)
      rw [f6, f5]
      refine base.cache (fun c i q => ?_)
      rw [e7, u1e (by omega), e6, u1e (by omega), e5, u1e (by omega), e4]
  · have := (notleE (rfl : x1.toInt = x1.toInt) zm).mp c2
    omega
theorem p_bits (h : Rbt Xr a b) : fX11_bits N x1 (fun r1 τ1 => fX12_bits N x1 (fun r2 τ2 => r1 = r2 ∧ Rbt Xr τ1 τ2) b) a := by
  have z0 : (0 : Int32).toInt = 0 := by decide
  have z1 : (1 : Int32).toInt = 1 := by decide
  have z0L : (0 : Int64).toInt = 0 := by decide
  have e64 : x1.toInt64.toInt = x1.toInt := i2lE rfl
  have e1 : a.1 4 11 = b.1 0 46 := h.1.at 4 11 0 46 (by decide)
  have e2 : a.1 6 5 = b.1 0 36 := h.1.at 6 5 0 36 (by decide)
  have d := K2.g_0_36 (K2.self h.2.2.2.2.1)
  have f1 : ((b.1 0 36 - 1).toInt64).toInt = (b.1 0 36).toInt - 1 := i2lE (sOkE rfl z1 (by omega) (by omega))
  have no : ¬ x1 = -1 → (x1.toInt < 0 ∨ (b.1 0 36).toInt ≤ x1.toInt) → fX12_bits N x1 (fun r2 τ2 => -2 = r2 ∧ Rbt Xr a τ2) b := by
    intro n1 w
    unfold fX12_bits fX12_in
    refine ⟨fun w0 => absurd w0 n1, fun _ => ⟨fun _ => ⟨fun _ => ⟨rfl, h⟩, fun q => absurd rfl q⟩, fun w1 => ⟨fun _ => ⟨fun _ => ⟨rfl, h⟩, fun q => absurd rfl q⟩, fun w2 => ?_⟩⟩⟩
    have := (notltE64 e64 z0L).mp w1
    have := (notltE64 f1 e64).mp w2
    omega
  unfold fX11_bits
  rw [e2]
  refine ⟨fun c => ?_, fun c => ⟨fun c2 => no c (Or.inl ?_), fun c2 => ⟨fun c3 => ?_, fun c3 => no c (Or.inr ?_)⟩⟩⟩
  · unfold fX12_bits
    exact ⟨fun _ => ⟨e1, h⟩, fun w => absurd c w⟩
  · have := (ltE (rfl : x1.toInt = x1.toInt) z0).mp c2
    omega
  · have c' := (notltE (rfl : x1.toInt = x1.toInt) z0).mp c2
    have c2' := (ltE (rfl : x1.toInt = x1.toInt) (rfl : (b.1 0 36).toInt = (b.1 0 36).toInt)).mp c3
    have ex := clE (rfl : x1.toInt = x1.toInt) (by omega)
    have hin : vp_in x1 60 := inE (rfl : x1.toInt = x1.toInt) (by omega) (by omega)
    refine ⟨hin, ?_⟩
    unfold fX12_bits fX12_in
    refine ⟨fun w0 => absurd w0 c, fun _ => ⟨fun w => ?_, fun _ => ⟨fun w => ?_, fun _ => ⟨fun q => absurd q (by decide), fun _ => ⟨hin, (h.2.2.2.1.2.2.1 x1.toNatClampNeg (by omega) (by omega)).2.2.1, h⟩⟩⟩⟩⟩
    · have := (ltE64 e64 z0L).mp w
      omega
    · have := (ltE64 f1 e64).mp w
      omega
  · have := (notltE (rfl : x1.toInt = x1.toInt) (rfl : (b.1 0 36).toInt = (b.1 0 36).toInt)).mp c3
    omega
theorem p_sign (h : Rbt Xr a b) : fX11_sign N x1 (fun r1 τ1 => fX12_sign N x1 (fun r2 τ2 => r1 = r2 ∧ Rbt Xr τ1 τ2) b) a := by
  have zm : (120 : Int32).toInt = 120 := by decide
  have hx := h.2.2.2.1
  have e1 : a.1 0 7 = b.1 0 5 := hx.1.1
  have d := K2.g_0_5 (K2.self h.2.2.2.2.1)
  unfold fX11_sign
  rw [e1]
  refine ⟨fun c => ?_, fun c => ?_⟩
  · have c' := (ltE (rfl : (b.1 0 5).toInt = (b.1 0 5).toInt) zm).mp c
    have hin : vp_in (b.1 0 5) 120 := inE rfl (by omega) (by omega)
    have en := clE (rfl : (b.1 0 5).toInt = (b.1 0 5).toInt) d.1
    have ev : (b.1 0 5 + 1).toInt = (b.1 0 5).toInt + 1 := aOkE rfl (show (1 : Int32).toInt = 1 from by decide) (by omega) (by omega)
    refine ⟨hin, fun s3 e3 v4 e4 s5 e5 => ?_⟩
    unfold fX12_sign
    refine ⟨fun w => ?_, fun _ => ⟨hin, fun t3 f3 w4 f4 t5 f5 => ?_⟩⟩
    · rw [w, zm] at c'
      omega
    · have ee : v4 = w4 := by rw [e4, f4, e3, f3, u1e (by omega), u1e (by omega), e1]
      refine ⟨by rw [e5, f5, u1v, u1v, ee], ?_⟩
      have ew : w4 = b.1 0 5 + 1 := by rw [f4, f3, u1e (by omega)]
      rw [e5, f5, e3, f3, ee, ew]
      refine h.mv (fun c i q => (u1e (by omega)).trans (u1e (by omega))) (fun c i q => (u1e (by omega)).trans (u1e (by omega))) (((h.1.a8 (by omega)).a (by decide)).b1 (by omega) |>.b (by decide)) (h.2.1.fr (fun i => (u1e (by omega)).trans (u1e (by omega))) (fun i => (u1e (by omega)).trans (u1e (by omega)))) ⟨⟨by rw [u1v, u1v], fun i hi => ?_⟩, hx.2.ext (fun c i q => (u1e (by omega)).trans (u1e (by omega))) (fun c i q => (u1e (by omega)).trans (u1e (by omega)))⟩ ?_
      · rw [u1v, ev] at hi
        refine ((u1e (by omega)).trans ?_).trans (u1e (by omega)).symm
        by_cases e : i = (b.1 0 5).toNatClampNeg
        · rw [e, u1v, u1v]
        · rw [u1e (by omega), u1e (by omega)]
          exact hx.1.2 i (by omega)
      · exact (h.2.2.2.2.1.ua (by trivial) (by decide)).uf (by simp only [Rg2, In32]; omega) (by decide)
  · have c' := (notltE (rfl : (b.1 0 5).toInt = (b.1 0 5).toInt) zm).mp c
    have e : b.1 0 5 = 120 := Int32.toInt_inj.mp (by omega)
    unfold fX12_sign
    exact ⟨fun _ => ⟨rfl, h⟩, fun w => absurd e w⟩
end SIM30
