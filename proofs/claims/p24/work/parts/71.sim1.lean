section SIM1
variable {X : St → St → Prop} {a b : St}
def rdv (b : St) (y : Int64) : Int32 := if 0 ≤ y.toInt ∧ y.toInt ≤ 4095 then b.1 1 y.toInt.toNat else 0
def rds (b : St) (y : Int64) : St := if 0 ≤ y.toInt ∧ y.toInt ≤ 4095 then b else fl2 b 1
theorem r_read {N : Nat} {y : Int64} {Q : Int32 → St → Prop} (hQ : Q (rdv b y) (rds b y)) : fX12_read N y Q b := by
  unfold rdv rds at hQ
  by_cases c : 0 ≤ y.toInt ∧ y.toInt ≤ 4095
  · rw [if_pos c, if_pos c] at hQ
    exact r_readIn c.1 c.2 hQ
  · rw [if_neg c, if_neg c] at hQ
    exact r_readOut (by omega) hQ
theorem fl2_fl2 (b : St) : fl2 (fl2 b 1) 1 = fl2 b 1 := by
  unfold fl2
  by_cases c : b.1 0 9 = 0
  · rw [if_pos c, u1v, if_neg (by decide)]
  · rw [if_neg c, if_neg c]
theorem rds_fl (b : St) (y : Int64) : rds (fl2 b 1) y = fl2 b 1 := by
  unfold rds
  split
  · rfl
  · exact fl2_fl2 b
def f4v (b : St) (y : Int64) : Int32 := (((((((((0 : Int32) <<< ((8 : Int32) &&& 31)) ||| rdv b (y + (0 : Int32).toInt64)) <<< ((8 : Int32) &&& 31)) ||| rdv (rds b (y + (0 : Int32).toInt64)) (y + (1 : Int32).toInt64)) <<< ((8 : Int32) &&& 31)) ||| rdv (rds (rds b (y + (0 : Int32).toInt64)) (y + (1 : Int32).toInt64)) (y + (2 : Int32).toInt64)) <<< ((8 : Int32) &&& 31)) ||| rdv (rds (rds (rds b (y + (0 : Int32).toInt64)) (y + (1 : Int32).toInt64)) (y + (2 : Int32).toInt64)) (y + (3 : Int32).toInt64))
def f4s (b : St) (y : Int64) : St := rds (rds (rds (rds b (y + (0 : Int32).toInt64)) (y + (1 : Int32).toInt64)) (y + (2 : Int32).toInt64)) (y + (3 : Int32).toInt64)
theorem r_four {N : Nat} (hN : 4294967400 ≤ N) {y : Int64} {Q : Int32 → St → Prop} (hQ : Q (f4v b y) (f4s b y)) : fX12_four N y Q b := by
  obtain ⟨M, eM⟩ : ∃ M : Nat, N = M + 5 := ⟨N - 5, by omega⟩
  have step : ∀ (n : Nat) (v k k' : Int32) (c : St), k.toInt < 4 → k' = k + 1 → lo2 (fX12_four_l5 N y Q) n ((v <<< ((8 : Int32) &&& 31)) ||| rdv c (y + k.toInt64)) k' (rds c (y + k.toInt64)) → lo2 (fX12_four_l5 N y Q) (n + 1) v k c := by
    intro n v k k' c hk ek h
    show fX12_four_l5 N y Q (lo2 (fX12_four_l5 N y Q) n) v k c
    unfold fX12_four_l5
    refine ⟨fun q => ?_, fun _ => r_read (fun v4 ev4 v5 ev5 => ?_)⟩
    · have := (leE (show (4 : Int32).toInt = 4 from by decide) (rfl : k.toInt = k.toInt)).mp q
      omega
    · rw [ev4, ev5, ← ek]
      exact h
  unfold fX12_four
  have key : lo2 (fX12_four_l5 N y Q) (M + 5) 0 0 b := by
    refine step (M + 4) 0 0 1 b (by decide) (by decide) ?_
    refine step (M + 3) _ 1 2 _ (by decide) (by decide) ?_
    refine step (M + 2) _ 2 3 _ (by decide) (by decide) ?_
    refine step (M + 1) _ 3 4 _ (by decide) (by decide) ?_
    show fX12_four_l5 N y Q _ _ 4 _
    unfold fX12_four_l5
    exact ⟨fun _ => hQ, fun q => absurd (by decide) q⟩
  rw [← eM] at key
  exact key
theorem k64 {y : Int64} {k : Int32} {n : Int} (hk : k.toInt = n) (h0 : 0 ≤ n) (h3 : n ≤ 3) (h1 : -8589934592 ≤ y.toInt) (h2 : y.toInt ≤ 8589934592) : (y + k.toInt64).toInt = y.toInt + n := aOkE64 rfl (i2lE hk) (by omega) (by omega)
theorem f4_in {y : Int64} (h1 : 0 ≤ y.toInt) (h2 : y.toInt ≤ 4092) : f4s b y = b ∧ f4v b y = (((((((((0 : Int32) <<< ((8 : Int32) &&& 31)) ||| b.1 1 y.toInt.toNat) <<< ((8 : Int32) &&& 31)) ||| b.1 1 (y.toInt.toNat + 1)) <<< ((8 : Int32) &&& 31)) ||| b.1 1 (y.toInt.toNat + 2)) <<< ((8 : Int32) &&& 31)) ||| b.1 1 (y.toInt.toNat + 3)) := by
  have e0 := k64 (y := y) (show (0 : Int32).toInt = 0 from by decide) (by omega) (by omega) (by omega) (by omega)
  have e1 := k64 (y := y) (show (1 : Int32).toInt = 1 from by decide) (by omega) (by omega) (by omega) (by omega)
  have e2 := k64 (y := y) (show (2 : Int32).toInt = 2 from by decide) (by omega) (by omega) (by omega) (by omega)
  have e3 := k64 (y := y) (show (3 : Int32).toInt = 3 from by decide) (by omega) (by omega) (by omega) (by omega)
  have s0 : rds b (y + (0 : Int32).toInt64) = b := by unfold rds; rw [if_pos (by omega)]
  have s1 : rds b (y + (1 : Int32).toInt64) = b := by unfold rds; rw [if_pos (by omega)]
  have s2 : rds b (y + (2 : Int32).toInt64) = b := by unfold rds; rw [if_pos (by omega)]
  have s3 : rds b (y + (3 : Int32).toInt64) = b := by unfold rds; rw [if_pos (by omega)]
  have v0 : rdv b (y + (0 : Int32).toInt64) = b.1 1 y.toInt.toNat := by unfold rdv; rw [if_pos (by omega), e0, show (y.toInt + 0).toNat = y.toInt.toNat by omega]
  have v1 : rdv b (y + (1 : Int32).toInt64) = b.1 1 (y.toInt.toNat + 1) := by unfold rdv; rw [if_pos (by omega), e1, show (y.toInt + 1).toNat = y.toInt.toNat + 1 by omega]
  have v2 : rdv b (y + (2 : Int32).toInt64) = b.1 1 (y.toInt.toNat + 2) := by unfold rdv; rw [if_pos (by omega), e2, show (y.toInt + 2).toNat = y.toInt.toNat + 2 by omega]
  have v3 : rdv b (y + (3 : Int32).toInt64) = b.1 1 (y.toInt.toNat + 3) := by unfold rdv; rw [if_pos (by omega), e3, show (y.toInt + 3).toNat = y.toInt.toNat + 3 by omega]
  refine ⟨?_, ?_⟩
  · unfold f4s
    rw [s0, s1, s2, s3]
  · unfold f4v
    rw [s0, s1, s2, v0, v1, v2, v3]
theorem f4_out {y : Int64} (h : y.toInt < 0 ∨ 4092 < y.toInt) (h1 : -8589934592 ≤ y.toInt) (h2 : y.toInt ≤ 8589934592) : f4s b y = fl2 b 1 := by
  have e0 := k64 (y := y) (show (0 : Int32).toInt = 0 from by decide) (by omega) (by omega) (by omega) (by omega)
  have e3 := k64 (y := y) (show (3 : Int32).toInt = 3 from by decide) (by omega) (by omega) (by omega) (by omega)
  have key : ∀ z : Int64, rds b z = b ∨ rds b z = fl2 b 1 := by
    intro z
    unfold rds
    split
    · exact Or.inl rfl
    · exact Or.inr rfl
  unfold f4s
  by_cases c : y.toInt < 0
  · have s0 : rds b (y + (0 : Int32).toInt64) = fl2 b 1 := by unfold rds; rw [if_neg (by omega)]
    rw [s0, rds_fl, rds_fl, rds_fl]
  · have s3 : ∀ z : St, z = b ∨ z = fl2 b 1 → rds z (y + (3 : Int32).toInt64) = fl2 b 1 := by
      intro z hz
      rcases hz with rfl | rfl
      · unfold rds; rw [if_neg (by omega)]
      · exact rds_fl _ _
    refine s3 _ ?_
    have two : ∀ z : St, z = b ∨ z = fl2 b 1 → ∀ y' : Int64, rds z y' = b ∨ rds z y' = fl2 b 1 := by
      intro z hz y'
      rcases hz with rfl | rfl
      · exact key y'
      · exact Or.inr (rds_fl _ _)
    exact two _ (two _ (two _ (Or.inl rfl) _) _) _
theorem shl2 (x : Int32) : (x <<< (8 : Int32)) <<< (8 : Int32) = x <<< (16 : Int32) := by
  apply Int32.toBitVec_inj.mp
  rw [Int32.toBitVec_shiftLeft, Int32.toBitVec_shiftLeft, Int32.toBitVec_shiftLeft]
  show (x.toBitVec <<< 8) <<< 8 = x.toBitVec <<< (8 + 8)
  rw [BitVec.shiftLeft_add]
theorem shl3 (x : Int32) : (x <<< (8 : Int32)) <<< (16 : Int32) = x <<< (24 : Int32) := by
  apply Int32.toBitVec_inj.mp
  rw [Int32.toBitVec_shiftLeft, Int32.toBitVec_shiftLeft, Int32.toBitVec_shiftLeft]
  show (x.toBitVec <<< 8) <<< 16 = x.toBitVec <<< (8 + 16)
  rw [BitVec.shiftLeft_add]
theorem four_eq (m0 m1 m2 m3 : Int32) : (((((((((0 : Int32) <<< ((8 : Int32) &&& 31)) ||| m0) <<< ((8 : Int32) &&& 31)) ||| m1) <<< ((8 : Int32) &&& 31)) ||| m2) <<< ((8 : Int32) &&& 31)) ||| m3) = ((((m0 <<< ((24 : Int32) &&& 31)) ||| (m1 <<< ((16 : Int32) &&& 31))) ||| (m2 <<< ((8 : Int32) &&& 31))) ||| m3) := by
  rw [show ((8 : Int32) &&& 31) = 8 from by decide, show ((16 : Int32) &&& 31) = 16 from by decide, show ((24 : Int32) &&& 31) = 24 from by decide, show ((0 : Int32) <<< (8 : Int32)) = 0 from by decide, Int32.zero_or]
  rw [Int32.shiftLeft_or, Int32.shiftLeft_or, Int32.shiftLeft_or, shl2, shl2, shl3]
/-- four bytes are read in step: where no fault stands behind it, the same answer -/
theorem q_four {N : Nat} (hN : 4294967400 ≤ N) (hX : XA X) (h : Ru X a b) {x : Int32} {y : Int64} (e : y.toInt = x.toInt) {Q1 : Int32 → St → Prop} (hQ : ∀ (r1 r2 : Int32) (a' b' : St), Ru X a' b' → ((a' = a ∧ b' = b ∧ r1 = r2 ∧ 0 ≤ x.toInt ∧ x.toInt ≤ 4092) ∨ (b'.1 0 9 ≠ 0 ∧ a' = fl1 a 1 ∧ b' = fl2 b 1)) → (∀ Q2 : Int32 → St → Prop, Q2 r2 b' → fX12_four N y Q2 b) → Q1 r1 a') : fX2_readFour N x Q1 a := by
  have z0 : (0 : Int32).toInt = 0 := by decide
  have z1 : (1 : Int32).toInt = 1 := by decide
  have z2 : (2 : Int32).toInt = 2 := by decide
  have z3 : (3 : Int32).toInt = 3 := by decide
  have zm : (4092 : Int32).toInt = 4092 := by decide
  have bx := tB x
  unfold fX2_readFour fX3_hasFour fX3_fourOf
  by_cases c : 0 ≤ x.toInt ∧ x.toInt ≤ 4092
  · have n0 : ¬ x < 0 := fun q => by have := (ltE (rfl : x.toInt = x.toInt) z0).mp q; omega
    have n1 : ¬ 4092 < x := fun q => by have := (ltE zm (rfl : x.toInt = x.toInt)).mp q; omega
    have n2 : x ≤ 4092 := (leE (rfl : x.toInt = x.toInt) zm).mpr c.2
    have g1 : (x + 1).toInt = x.toInt + 1 := aOkE rfl z1 (by omega) (by omega)
    have g2 : (x + 2).toInt = x.toInt + 2 := aOkE rfl z2 (by omega) (by omega)
    have g3 : (x + 3).toInt = x.toInt + 3 := aOkE rfl z3 (by omega) (by omega)
    have c0 := clE (rfl : x.toInt = x.toInt) c.1
    have c1 := clE g1 (by omega)
    have c2 := clE g2 (by omega)
    have c3 := clE g3 (by omega)
    have f4 := f4_in (b := b) (y := y) (by omega) (by omega)
    refine ⟨fun q => absurd q n0, fun _ => ⟨fun q => absurd q n1, fun _ => ⟨fun q => absurd q (by decide), fun _ => ⟨fun q => absurd q n0, fun _ => ⟨fun _ => ⟨inE (rfl : x.toInt = x.toInt) (by omega) (by omega), inE g1 (by omega) (by omega), inE g2 (by omega) (by omega), inE g3 (by omega) (by omega), ?_⟩, fun q => absurd n2 q⟩⟩⟩⟩⟩
    refine hQ _ (f4v b y) a b h (Or.inl ⟨rfl, rfl, ?_, c.1, c.2⟩) (fun Q2 q => r_four hN (by rw [f4.1]; exact q))
    rw [f4.2, four_eq, h.m _ (by omega), h.m _ (by omega), h.m _ (by omega), h.m _ (by omega)]
    rw [show x.toNatClampNeg = y.toInt.toNat by omega, show (x + 1).toNatClampNeg = y.toInt.toNat + 1 by omega, show (x + 2).toNatClampNeg = y.toInt.toNat + 2 by omega, show (x + 3).toNatClampNeg = y.toInt.toNat + 3 by omega]
  · have hf := h.fl hX (x := 1) (by decide) (by decide)
    have out : Q1 0 (fl1 a 1) := hQ 0 (f4v b y) _ _ hf.1 (Or.inr ⟨hf.2, rfl, rfl⟩) (fun Q2 q => r_four hN (by rw [f4_out (by omega) (by omega) (by omega)]; exact q))
    refine ⟨fun _ => ⟨fun _ => c_fail out, fun q => absurd rfl q⟩, fun q => ⟨fun _ => ⟨fun _ => c_fail out, fun q => absurd rfl q⟩, fun q2 => ?_⟩⟩
    have := (notltE (rfl : x.toInt = x.toInt) z0).mp q
    have := (notltE zm (rfl : x.toInt = x.toInt)).mp q2
    omega
end SIM1
