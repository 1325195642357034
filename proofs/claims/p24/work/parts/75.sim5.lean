section SIM5
variable {X : St → St → Prop} {a b a' b' : St}
theorem q_readX {N : Nat} (hX : XA X) (h : Ru X a b) {x : Int32} {y : Int64} (e : y.toInt = x.toInt) {Q1 : Int32 → St → Prop} (hQ : ∀ a' : St, Ru X a' (rds b y) → ((a' = a ∧ rds b y = b ∧ 0 ≤ x.toInt ∧ x.toInt ≤ 4095) ∨ ((rds b y).1 0 9 ≠ 0 ∧ a' = fl1 a 1 ∧ rdv b y = 0)) → 0 ≤ (rdv b y).toInt → (rdv b y).toInt ≤ 255 → Q1 (rdv b y) a') : fX2_readByte N x Q1 a := by
  by_cases c : 0 ≤ x.toInt ∧ x.toInt ≤ 4095
  · have e1 : rds b y = b := by unfold rds; rw [if_pos (by omega)]
    have ec := clE (rfl : x.toInt = x.toInt) c.1
    have hm := h.m x.toNatClampNeg (by omega)
    have e2 : rdv b y = (a.1 12 x.toNatClampNeg) &&& 255 := by
      unfold rdv
      rw [if_pos (by omega), show y.toInt.toNat = x.toNatClampNeg by omega]
      exact hm.symm
    have hb := and255 (a.1 12 x.toNatClampNeg)
    rw [e1, e2] at hQ
    exact c_readIn c.1 c.2 (hQ a h (Or.inl ⟨rfl, rfl, c.1, c.2⟩) hb.1 hb.2)
  · have e1 : rds b y = fl2 b 1 := by unfold rds; rw [if_neg (by omega)]
    have e2 : rdv b y = 0 := by unfold rdv; rw [if_neg (by omega)]
    have hf := h.fl hX (x := 1) (by decide) (by decide)
    rw [e1, e2] at hQ
    exact c_readOut (by omega) (hQ _ hf.1 (Or.inr ⟨hf.2, rfl, rfl⟩) (by decide) (by decide))
theorem q_fourX {N : Nat} (hX : XA X) (h : Ru X a b) {x : Int32} {y : Int64} (e : y.toInt = x.toInt ∨ ((x.toInt < 0 ∨ 4092 < x.toInt) ∧ (y.toInt < 0 ∨ 4092 < y.toInt) ∧ -8589934592 ≤ y.toInt ∧ y.toInt ≤ 8589934592)) {Q1 : Int32 → St → Prop} (hQ : ∀ (r : Int32) (a' : St), Ru X a' (f4s b y) → ((a' = a ∧ f4s b y = b ∧ r = f4v b y ∧ 0 ≤ x.toInt ∧ x.toInt ≤ 4092) ∨ ((f4s b y).1 0 9 ≠ 0 ∧ a' = fl1 a 1)) → Q1 r a') : fX2_readFour N x Q1 a := by
  have z0 : (0 : Int32).toInt = 0 := by decide
  have z1 : (1 : Int32).toInt = 1 := by decide
  have z2 : (2 : Int32).toInt = 2 := by decide
  have z3 : (3 : Int32).toInt = 3 := by decide
  have zm : (4092 : Int32).toInt = 4092 := by decide
  have bx := tB x
  unfold fX2_readFour fX3_hasFour fX3_fourOf
  by_cases c : 0 ≤ x.toInt ∧ x.toInt ≤ 4092
  · have e' : y.toInt = x.toInt := by
      rcases e with q | q
      · exact q
      · omega
    have n0 : ¬ x < 0 := fun q => by have := (ltE (rfl : x.toInt = x.toInt) z0).mp q; omega
    have n1 : ¬ 4092 < x := fun q => by have := (ltE zm (rfl : x.toInt = x.toInt)).mp q; omega
    have n2 : x ≤ 4092 := (leE (rfl : x.toInt = x.toInt) zm).mpr c.2
    have g1 : (x + 1).toInt = x.toInt + 1 := aOkE rfl z1 (by omega) (by omega)
    have g2 : (x + 2).toInt = x.toInt + 2 := aOkE rfl z2 (by omega) (by omega)
    have g3 : (x + 3).toInt = x.toInt + 3 := aOkE rfl z3 (by omega) (by omega)
    have c0 := clE (rfl : x.toInt = x.toInt) c.1
    have c1 := clE g1 (by omega)
    have c2 := clE g2 (by omega)
    have c3 := clE g3 (by omega)
    have f4 := f4_in (b := b) (y := y) (by omega) (by omega)
    refine ⟨fun q => absurd q n0, fun _ => ⟨fun q => absurd q n1, fun _ => ⟨fun q => absurd q (by decide), fun _ => ⟨fun q => absurd q n0, fun _ => ⟨fun _ => ⟨inE (rfl : x.toInt = x.toInt) (by omega) (by omega), inE g1 (by omega) (by omega), inE g2 (by omega) (by omega), inE g3 (by omega) (by omega), ?_⟩, fun q => absurd n2 q⟩⟩⟩⟩⟩
    rw [f4.1] at hQ
    refine hQ _ a h (Or.inl ⟨rfl, rfl, ?_, c.1, c.2⟩)
    rw [f4.2, four_eq, h.m _ (by omega), h.m _ (by omega), h.m _ (by omega), h.m _ (by omega)]
    rw [show x.toNatClampNeg = y.toInt.toNat by omega, show (x + 1).toNatClampNeg = y.toInt.toNat + 1 by omega, show (x + 2).toNatClampNeg = y.toInt.toNat + 2 by omega, show (x + 3).toNatClampNeg = y.toInt.toNat + 3 by omega]
  · have hf := h.fl hX (x := 1) (by decide) (by decide)
    have hy : (y.toInt < 0 ∨ 4092 < y.toInt) ∧ -8589934592 ≤ y.toInt ∧ y.toInt ≤ 8589934592 := by
      rcases e with q | q
      · omega
      · exact q.2
    rw [f4_out hy.1 hy.2.1 hy.2.2] at hQ
    have out : Q1 0 (fl1 a 1) := hQ 0 _ hf.1 (Or.inr ⟨hf.2, rfl⟩)
    refine ⟨fun _ => ⟨fun _ => c_fail out, fun q => absurd rfl q⟩, fun q => ⟨fun _ => ⟨fun _ => c_fail out, fun q => absurd rfl q⟩, fun q2 => ?_⟩⟩
    have := (notltE (rfl : x.toInt = x.toInt) z0).mp q
    have := (notltE zm (rfl : x.toInt = x.toInt)).mp q2
    omega
theorem fl2_2 {x : Int32} : (fl2 b x).2 = b.2 := by
  unfold fl2
  split <;> rfl
theorem fl2_ne {x : Int32} {c j : Nat} (h : ¬ (c = 0 ∧ j = 9)) : (fl2 b x).1 c j = b.1 c j := by
  unfold fl2
  split
  · exact u1e h
  · rfl
theorem fl1_ne {x : Int32} {c j : Nat} (h : ¬ (c = 3 ∧ j = 11)) : (fl1 a x).1 c j = a.1 c j := by
  unfold fl1
  split
  · exact u1e h
  · rfl
theorem rds_2 {y : Int64} : (rds b y).2 = b.2 := by
  unfold rds
  split
  · rfl
  · exact fl2_2
theorem rds_ne {y : Int64} {c j : Nat} (h : ¬ (c = 0 ∧ j = 9)) : (rds b y).1 c j = b.1 c j := by
  unfold rds
  split
  · rfl
  · exact fl2_ne h
theorem fl2_u2 {x : Int32} {v : Int64} : fl2 (u2 b 0 34 v) x = u2 (fl2 b x) 0 34 v := by
  unfold fl2
  by_cases c : b.1 0 9 = 0
  · rw [if_pos c, if_pos (show (u2 b 0 34 v).1 0 9 = 0 from c)]
    rfl
  · rw [if_neg c, if_neg (show ¬ (u2 b 0 34 v).1 0 9 = 0 from c)]
theorem rds_u2 {y v : Int64} : rds (u2 b 0 34 v) y = u2 (rds b y) 0 34 v := by
  unfold rds
  by_cases c : 0 ≤ y.toInt ∧ y.toInt ≤ 4095
  · rw [if_pos c, if_pos c]
  · rw [if_neg c, if_neg c, fl2_u2]
theorem rdv_u2 {y v : Int64} : rdv (u2 b 0 34 v) y = rdv b y := rfl
theorem f4s_u2 {y v : Int64} : f4s (u2 b 0 34 v) y = u2 (f4s b y) 0 34 v := by
  unfold f4s
  rw [rds_u2, rds_u2, rds_u2, rds_u2]
theorem f4v_u2 {y v : Int64} : f4v (u2 b 0 34 v) y = f4v b y := by
  unfold f4v
  rw [rds_u2, rds_u2, rds_u2, rdv_u2, rdv_u2, rdv_u2, rdv_u2]
theorem f4s_2 {y : Int64} : (f4s b y).2 = b.2 := by
  unfold f4s
  rw [rds_2, rds_2, rds_2, rds_2]
theorem f4s_ne {y : Int64} {c j : Nat} (h : ¬ (c = 0 ∧ j = 9)) : (f4s b y).1 c j = b.1 c j := by
  unfold f4s
  rw [rds_ne h, rds_ne h, rds_ne h, rds_ne h]
theorem u2_u2 {v w : Int64} : u2 (u2 b 0 34 v) 0 34 w = u2 b 0 34 w := by
  refine Prod.ext rfl ?_
  funext c j
  by_cases e : c = 0 ∧ j = 34
  · obtain ⟨rfl, rfl⟩ := e
    rw [u2_at, u2_at]
    show vp_updL (vp_updL (b.2 0) 34 v) 34 w 34 = vp_updL (b.2 0) 34 w 34
    simp [vp_updL]
  · rw [u2e e, u2e e, u2e e]
theorem u2v {v : Int64} : (u2 b 0 34 v).2 0 34 = v := by
  rw [u2_at]
  simp [vp_updL]
/-- within an order: job j's function, n arguments read -/
def Oq (X : St → St → Prop) (j : Nat) (n : (Nat → Int32) → Int32 → (Nat → Int32) → (Nat → Int32) → Prop) (a b : St) : Prop := Ru X a b ∧ (b.1 0 35).toInt = (j : Int) ∧ (b.1 0 9 = 0 → (b.2 0 34).toInt = (a.1 3 12).toInt ∧ (b.1 0 14).toInt = (j : Int) + 1 ∧ n (a.1 17) (a.1 3 6) (b.1 15) (b.1 6))
variable {j : Nat} {n : (Nat → Int32) → Int32 → (Nat → Int32) → (Nat → Int32) → Prop}
theorem Oq.nx (hX : XA X) (h : Oq X j n a b) {v : Int32} {w : Int64} (e : b.1 0 9 = 0 → w.toInt = v.toInt) : Oq X j n (u1 a 3 12 v) (u2 b 0 34 w) :=
  ⟨(h.1.ca hX (Or.inl ⟨rfl, Or.inr rfl⟩)).l hX, h.2.1, fun q => ⟨by rw [u2v, u1v]; exact e q, (h.2.2 q).2.1, by rw [u1_ne (by decide), u1e (by omega)]; exact (h.2.2 q).2.2⟩⟩
theorem Oq.fl (hX : XA X) (h : Oq X j n a b) {x : Int32} (h1 : 1 ≤ x.toInt) (h2 : x.toInt ≤ 9) : Oq X j n (fl1 a x) (fl2 b x) ∧ (fl2 b x).1 0 9 ≠ 0 := by
  have hf := h.1.fl hX h1 h2
  exact ⟨⟨hf.1, by rw [fl2_ne (by omega)]; exact h.2.1, fun q => absurd q hf.2⟩, hf.2⟩
/-- the reference reads the next byte -/
def nb (b : St) : St := u2 (rds b (b.2 0 34)) 0 34 (b.2 0 34 + 1)
theorem q_nextByte {N : Nat} (hX : XA X) (h : Oq X j n a b) (h0 : b.1 0 9 = 0) {Q1 : Int32 → St → Prop} (hQ : ∀ a' : St, Oq X j n a' (nb b) → 0 ≤ (rdv b (b.2 0 34)).toInt → (rdv b (b.2 0 34)).toInt ≤ 255 → ((nb b).1 0 9 ≠ 0 → rdv b (b.2 0 34) = 0) → ((nb b).1 0 9 = 0 → 0 ≤ (b.2 0 34).toInt ∧ (b.2 0 34).toInt ≤ 4095 ∧ ((nb b).2 0 34).toInt = (b.2 0 34).toInt + 1) → Q1 (rdv b (b.2 0 34)) a') : fX2_nextByte N Q1 a := by
  have z1 : (1 : Int32).toInt = 1 := by decide
  have z1L : (1 : Int64).toInt = 1 := by decide
  obtain ⟨e1, e2, e3⟩ := h.2.2 h0
  unfold fX2_nextByte
  refine q_readX hX h.1 (y := b.2 0 34) e1 (fun a1 h1 hh r0 r1 v ev s es => ?_)
  have n34 : (nb b).2 0 34 = b.2 0 34 + 1 := u2v
  rcases hh with ⟨ea, eb, x0, xm⟩ | ⟨hz, _, hr⟩
  · subst ea
    have f1 : v.toInt = (a1.1 3 12).toInt + 1 := (congrArg Int32.toInt ev).trans (aOkE rfl z1 (by omega) (by omega))
    have f2 : (b.2 0 34 + 1).toInt = (b.2 0 34).toInt + 1 := aOkE64 rfl z1L (by omega) (by omega)
    have enb : nb b = u2 b 0 34 (b.2 0 34 + 1) := by unfold nb; rw [eb]
    have hO := h.nx hX (v := v) (w := b.2 0 34 + 1) (fun _ => by omega)
    rw [← es, ← enb] at hO
    refine hQ s hO r0 r1 (fun z => ?_) (fun _ => ⟨by omega, by omega, by rw [n34]; omega⟩)
    rw [enb] at z
    exact absurd h0 z
  · have fz : (nb b).1 0 9 ≠ 0 := hz
    have hO : Oq X j n a1 (rds b (b.2 0 34)) := ⟨h1, by rw [rds_ne (by omega)]; exact h.2.1, fun q => absurd q hz⟩
    have hO2 := hO.nx hX (v := v) (w := b.2 0 34 + 1) (fun q => absurd q hz)
    rw [← es] at hO2
    exact hQ s hO2 r0 r1 (fun _ => hr) (fun q => absurd q fz)
/-- the class alone reads on behind a fault -/
theorem c_nextByteF {N : Nat} (hX : XA X) (h : Oq X j n a b) (hb : b.1 0 9 ≠ 0) {Q1 : Int32 → St → Prop} (hQ : ∀ (r : Int32) (a' : St), Oq X j n a' b → Q1 r a') : fX2_nextByte N Q1 a := by
  have fin : ∀ (r : Int32) (s : St), s = a → ∀ v : Int32, v = s.1 3 12 + 1 → ∀ t : St, t = u1 s 3 12 v → Q1 r t := by
    intro r s es v ev t et
    refine hQ r t ⟨?_, h.2.1, fun q => absurd q hb⟩
    rw [et, es]
    exact h.1.ca hX (Or.inl ⟨rfl, Or.inr rfl⟩)
  have fl : fl1 a 1 = a := if_neg (fun q => hb (h.1.f.symm.trans q))
  unfold fX2_nextByte
  by_cases c : 0 ≤ (a.1 3 12).toInt ∧ (a.1 3 12).toInt ≤ 4095
  · exact c_readIn c.1 c.2 (fin _ a rfl)
  · exact c_readOut (by omega) (fin _ _ fl)
theorem c_nextFourF {N : Nat} (hX : XA X) (h : Oq X j n a b) (hb : b.1 0 9 ≠ 0) {Q1 : Int32 → St → Prop} (hQ : ∀ (r : Int32) (a' : St), Oq X j n a' b → Q1 r a') : fX2_nextFour N Q1 a := by
  have fl : fl1 a 1 = a := if_neg (fun q => hb (h.1.f.symm.trans q))
  unfold fX2_nextFour
  refine q_fourX hX h.1 (y := (a.1 3 12).toInt64) (Or.inl (i2lE rfl)) (fun r a1 h1 hh v ev t et => ?_)
  have ea : a1 = a := by
    rcases hh with q | q
    · exact q.1
    · exact q.2.trans fl
  refine hQ r t ⟨?_, h.2.1, fun q => absurd q hb⟩
  rw [et, ea]
  exact h.1.ca hX (Or.inl ⟨rfl, Or.inr rfl⟩)
/-- is there such a local -/
theorem c_hasLocal {N : Nat} {k : Nat} {x : Int32} (h0 : 0 ≤ x.toInt) (h8 : (a.1 k 4).toInt ≤ 8) {Q : Int32 → St → Prop} (h1 : x.toInt < (a.1 k 4).toInt → Q 1 a) (h2 : ¬ x.toInt < (a.1 k 4).toInt → Q 0 a) : fX1_hasLocal N k x Q a := by
  have z0 : (0 : Int32).toInt = 0 := by decide
  have z8 : (8 : Int32).toInt = 8 := by decide
  unfold fX1_hasLocal
  refine ⟨fun c => ?_, fun _ => ⟨fun c => h2 ?_, fun c => ⟨fun c2 => ?_, fun _ => h1 ?_⟩⟩⟩
  · have := (ltE (rfl : x.toInt = x.toInt) z0).mp c
    omega
  · have := (leE (rfl : (a.1 k 4).toInt = (a.1 k 4).toInt) (rfl : x.toInt = x.toInt)).mp c
    omega
  · have := (notleE (rfl : (a.1 k 4).toInt = (a.1 k 4).toInt) (rfl : x.toInt = x.toInt)).mp c
    have := (leE z8 (rfl : x.toInt = x.toInt)).mp c2
    omega
  · have := (notleE (rfl : (a.1 k 4).toInt = (a.1 k 4).toInt) (rfl : x.toInt = x.toInt)).mp c
    omega
end SIM5
