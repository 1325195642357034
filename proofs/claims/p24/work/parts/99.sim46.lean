section SIM46
variable {N : Nat} {a b : St}
theorem u2w {σ : St} {k j : Nat} {v : Int64} : (u2 σ k j v).2 k j = v := by rw [u2_at]; exact if_pos rfl
/-- two knots under each: ab tells the one above -/
def CTr (σ : St) (L n : Nat) (ab : Nat → Nat) : Prop := ∀ k : Nat, L ≤ k → k < n → ∃ z o : Nat, z < k ∧ o < k ∧ z ≠ o ∧ (σ.1 31 k).toInt = z ∧ (σ.1 32 k).toInt = o ∧ ab z = k ∧ ab o = k
def SPk (τ : St) (k z o : Nat) : Prop := τ.1 35 z = τ.1 35 k + 9 ∧ τ.1 35 o = (τ.1 35 k + 9) + τ.1 33 z ∧ τ.1 36 z = τ.1 36 k + 1 ∧ τ.1 36 o = τ.1 36 k + 1 ∧ τ.2 37 z = τ.2 37 k ∧ τ.2 37 o = (τ.2 37 k) ||| (1 <<< ((τ.1 36 k).toInt64 &&& 63))
def FrS (σ τ : St) : Prop := ∀ c i : Nat, c ≠ 35 → c ≠ 36 → τ.1 c i = σ.1 c i
/-- the class's knots are placed -/
def SP (τ : St) (L n m : Nat) (w : Int32) : Prop := (τ.1 35 (n - 1) = w ∧ τ.1 36 (n - 1) = 0 ∧ τ.2 37 (n - 1) = 0) ∧ ∀ k z o : Nat, m ≤ k → L ≤ k → k < n → (τ.1 31 k).toInt = z → (τ.1 32 k).toInt = o → SPk τ k z o
set_option maxHeartbeats 2000000 in
theorem c_spread (hN : 4294967400 ≤ N) {x : Int32} {L n : Nat} {ab : Nat → Nat} (hL : 1 ≤ L) (hLn : L ≤ n) (hn : n ≤ 121) (h9 : (a.1 9 9).toInt = n) (h10 : (a.1 9 10).toInt = L) (hC : CTr a L n ab) {Q : St → Prop} (hQ : ∀ τ : St, FrS a τ → SP τ L n L (x + 12) → Q τ) : fX0_spread N x Q a := by
  have z0 : (0 : Int32).toInt = 0 := by decide
  have z1 : (1 : Int32).toInt = 1 := by decide
  unfold fX0_spread
  refine ⟨fun c => ?_, fun _ v2 e2 v3 e3 => ?_⟩
  · rw [c, z0] at h9
    omega
  · have f2 : v2.toInt = (n : Int) - 1 := (congrArg Int32.toInt e2).trans (sOkE h9 z1 (by omega) (by omega))
    have c2 : v2.toNatClampNeg = n - 1 := by have := clE f2 (by omega); omega
    have hin : vp_in v2 121 := inE f2 (by omega) (by omega)
    rw [c2]
    refine ⟨hin, fun s5 e5 => ⟨hin, fun s7 e7 => ⟨hin, fun s9 e9 => ?_⟩⟩⟩
    refine lo1_i (fun (y : Int32) (τ : St) => (L : Int) - 1 ≤ y.toInt ∧ y.toInt ≤ (n : Int) - 1 ∧ FrS a τ ∧ SP τ L n (y.toInt + 1).toNat (x + 12)) (fun y _ => (y.toInt + 1).toNat) ?_ N v2 s9 ⟨by omega, by omega, fun c i q1 q2 => ?_, ⟨?_, ?_, ?_⟩, fun k z o q1 q2 q3 => absurd q1 (by omega)⟩ (by (try dsimp only); omega)
    · intro rr y τ hI ih
      obtain ⟨i1, i2, i3, i4, i5⟩ := hI
      have e10 : (τ.1 9 10).toInt = L := by rw [i3 _ _ (by decide) (by decide)]; exact h10
      unfold fX0_spread_l41
      refine ⟨fun c => ?_, fun c => ?_⟩
      · have f := (ltE (rfl : y.toInt = y.toInt) e10).mp c
        rw [show (y.toInt + 1).toNat = L by omega] at i5
        exact hQ τ i3 ⟨i4, i5⟩
      · have f := (notltE (rfl : y.toInt = y.toInt) e10).mp c
        have ey := clE (rfl : y.toInt = y.toInt) (by omega)
        obtain ⟨k, hk⟩ : ∃ k : Nat, y.toNatClampNeg = k := ⟨_, rfl⟩
        rw [hk] at ey
        obtain ⟨z, o, q1, q2, q3, q4, q5, q6, q7⟩ := hC k (by omega) (by omega)
        have g31 : (τ.1 31 k).toInt = z := by rw [i3 _ _ (by decide) (by decide)]; exact q4
        have g32 : (τ.1 32 k).toInt = o := by rw [i3 _ _ (by decide) (by decide)]; exact q5
        have cz : (τ.1 31 k).toNatClampNeg = z := by have := clE g31 (by omega); omega
        have co : (τ.1 32 k).toNatClampNeg = o := by have := clE g32 (by omega); omega
        have iny : vp_in y 121 := inE rfl (by omega) (by omega)
        have inz : vp_in (τ.1 31 k) 121 := inE g31 (by omega) (by omega)
        have ino : vp_in (τ.1 32 k) 121 := inE g32 (by omega) (by omega)
        rw [hk]
        refine ⟨iny, fun v12 e12 => ⟨iny, fun v14 e14 => ⟨iny, fun v16 e16 => ?_⟩⟩⟩
        rw [e12, e14, cz, co]
        refine ⟨inz, fun s18 e18 => ⟨inz, inz, fun v21 e21 => ⟨ino, fun s23 e23 => ⟨iny, fun v25 e25 => ⟨inz, fun s27 e27 => ⟨iny, fun v29 e29 => ⟨ino, fun s31 e31 => ⟨iny, fun v33 e33 => ⟨inz, fun s35 e35 => ⟨iny, iny, fun v38 e38 => ⟨ino, fun s40 e40 v41 e41 => ?_⟩⟩⟩⟩⟩⟩⟩⟩⟩⟩⟩
        have f41 : v41.toInt = y.toInt + -1 := (congrArg Int32.toInt e41).trans (aOkE rfl (show (-1 : Int32).toInt = -1 from by decide) (by omega) (by omega))
        have m40 : s40.1 = s31.1 := by rw [e40, e35]; rfl
        have A35 : ∀ i : Nat, i ≠ z → i ≠ o → s40.1 35 i = τ.1 35 i := fun i w1 w2 => by rw [m40, e31, u1e (by omega), e27, u1e (by omega), e23, u1e (by omega), e18, u1e (by omega)]
        have A36 : ∀ i : Nat, i ≠ z → i ≠ o → s40.1 36 i = τ.1 36 i := fun i w1 w2 => by rw [m40, e31, u1e (by omega), e27, u1e (by omega), e23, u1e (by omega), e18, u1e (by omega)]
        have A37 : ∀ i : Nat, i ≠ z → i ≠ o → s40.2 37 i = τ.2 37 i := fun i w1 w2 => by
          rw [e40, u2e (by omega), e35, u2e (by omega), e31, e27, e23, e18]
          rfl
        have Aoth : ∀ c i : Nat, c ≠ 35 → c ≠ 36 → s40.1 c i = τ.1 c i := fun c i w1 w2 => by rw [m40, e31, u1e (by omega), e27, u1e (by omega), e23, u1e (by omega), e18, u1e (by omega)]
        have d25 : v25 = τ.1 36 k + 1 := by rw [e25, e23, u1e (by omega), e18, u1e (by omega)]
        have d29 : v29 = τ.1 36 k + 1 := by rw [e29, e27, u1e (by omega), e23, u1e (by omega), e18, u1e (by omega)]
        have d33 : v33 = τ.2 37 k := by rw [e33, e31, e27, e23, e18]; rfl
        have d38 : v38 = (τ.2 37 k) ||| (1 <<< ((τ.1 36 k).toInt64 &&& 63)) := by
          rw [e38, e35, u2e (by omega)]
          have p1 : s31.2 37 k = τ.2 37 k := by rw [e31, e27, e23, e18]; rfl
          have p2 : (u2 s31 37 z v33).1 36 k = τ.1 36 k := by
            show s31.1 36 k = _
            rw [e31, u1e (by omega), e27, u1e (by omega), e23, u1e (by omega), e18, u1e (by omega)]
          rw [p1, p2]
        refine ih v41 s40 ⟨by omega, by omega, fun c i w1 w2 => (Aoth c i w1 w2).trans (i3 c i w1 w2), ⟨?_, ?_, ?_⟩, fun k' z' o' w1 w2 w3 w4 w5 => ?_⟩ (by (try dsimp only); omega)
        · rw [A35 _ (by omega) (by omega)]; exact i4.1
        · rw [A36 _ (by omega) (by omega)]; exact i4.2.1
        · rw [A37 _ (by omega) (by omega)]; exact i4.2.2
        · rw [Aoth _ _ (by decide) (by decide)] at w4 w5
          by_cases ek : k' = k
          · subst ek
            have ez : z' = z := by omega
            have eo : o' = o := by omega
            subst ez
            subst eo
            refine ⟨?_, ?_, ?_, ?_, ?_, ?_⟩
            · rw [A35 k' (by omega) (by omega), m40, e31, u1e (by omega), e27, u1e (by omega), e23, u1e (by omega), e18, u1v, e16]
            · rw [A35 k' (by omega) (by omega), Aoth 33 _ (by decide) (by decide), m40, e31, u1e (by omega), e27, u1e (by omega), e23, u1v, e21, e18, u1v, u1e (by omega), e16]
            · rw [A36 k' (by omega) (by omega), m40, e31, u1e (by omega), e27, u1v, d25]
            · rw [A36 k' (by omega) (by omega), m40, e31, u1v, d29]
            · rw [A37 k' (by omega) (by omega), e40, u2e (by omega), e35, u2w, d33]
            · rw [A37 k' (by omega) (by omega), A36 k' (by omega) (by omega), e40, u2w, d38]
          · have w1' : (y.toInt + 1).toNat ≤ k' := by omega
            obtain ⟨z2, o2, r1, r2, r3, r4, r5, r6, r7⟩ := hC k' w2 w3
            rw [i3 _ _ (by decide) (by decide)] at w4 w5
            have ez : z' = z2 := by omega
            have eo : o' = o2 := by omega
            subst ez
            subst eo
            have n1 : z' ≠ z := fun e => by rw [e] at r6; omega
            have n2 : z' ≠ o := fun e => by rw [e] at r6; omega
            have n3 : o' ≠ z := fun e => by rw [e] at r7; omega
            have n4 : o' ≠ o := fun e => by rw [e] at r7; omega
            obtain ⟨s1, s2, s3, s4, s5, s6⟩ := i5 k' z' o' w1' w2 w3 (by rw [i3 _ _ (by decide) (by decide)]; exact r4) (by rw [i3 _ _ (by decide) (by decide)]; exact r5)
            refine ⟨?_, ?_, ?_, ?_, ?_, ?_⟩
            · rw [A35 z' n1 n2, A35 k' (by omega) (by omega)]; exact s1
            · rw [A35 o' n3 n4, A35 k' (by omega) (by omega), Aoth 33 _ (by decide) (by decide)]; exact s2
            · rw [A36 z' n1 n2, A36 k' (by omega) (by omega)]; exact s3
            · rw [A36 o' n3 n4, A36 k' (by omega) (by omega)]; exact s4
            · rw [A37 z' n1 n2, A37 k' (by omega) (by omega)]; exact s5
            · rw [A37 o' n3 n4, A37 k' (by omega) (by omega), A36 k' (by omega) (by omega)]; exact s6
    · rw [e9]
      show s7.1 c i = _
      rw [e7, u1e (by omega), e5, u1e (by omega)]
    · rw [e9]
      show s7.1 35 (n - 1) = _
      rw [e7, u1e (by omega), e5, u1v, e3]
    · rw [e9]
      show s7.1 36 (n - 1) = _
      rw [e7, u1v]
    · rw [e9, u2w]
end SIM46
