set_option maxHeartbeats 2000000 in
/-- a piece's signs, laid from v2 + 1 on -/
theorem tX12_lay120 {N : Nat} (hN : 4294967400 ≤ N) {x3 x4 v12 : Int32} {v2 w S : Int} {p : Nat} {Q : St → Prop} {σ0 τ τ1 : St} (hx3 : 0 ≤ x3.toInt) (hx3' : x3.toInt ≤ 59) (ep : x3.toNatClampNeg = p) (hw : (x4 = 0 ∧ w = 4) ∨ (x4 ≠ 0 ∧ w = 1)) (h0 : 0 ≤ v2) (hS : v2 + S ≤ 4096) (hc : 0 ≤ (τ.1 18 p).toInt) (hc2 : (τ.1 18 p).toInt ≤ 20) (hs0 : 1 + w * (τ.1 18 p).toInt ≤ S) (hs3 : (τ.1 16 p).toInt = 3 → w = 1 ∧ 2 + (τ.1 18 p).toInt ≤ S) (hs5 : (τ.1 16 p).toInt = 5 → w = 4 ∧ 5 + 4 * (τ.1 18 p).toInt ≤ S) (e12 : v12.toInt = v2 + 1) (k1 : K2 σ0 τ1) (f1 : FrT τ τ1) (hQ : ∀ υ : St, K2 σ0 υ → FrT τ υ → Q υ) : lo2 (fX12_lay_l120 N x3 x4 Q) N v12 0 τ1 := by
  have z0 : (0 : Int32).toInt = 0 := by decide
  have o1 : (1 : Int32).toInt = 1 := by decide
  have o4 : (4 : Int32).toInt = 4 := by decide
  have o3 : (3 : Int32).toInt = 3 := by decide
  have o5 : (5 : Int32).toInt = 5 := by decide
  have o20 : (20 : Int32).toInt = 20 := by decide
  have hin3 : vp_in x3 60 := inE (rfl : x3.toInt = x3.toInt) (by omega) (by omega)
  obtain ⟨c, ec⟩ : ∃ c : Int, (τ.1 18 p).toInt = c := ⟨_, rfl⟩
  rw [ec] at hc hc2 hs0 hs3 hs5
  rcases hw with ⟨hw1, hw2⟩ | ⟨hw1, hw2⟩
  · subst hw2
    refine lo2_i (fun (x y : Int32) (υ : St) => K2 σ0 υ ∧ FrT τ υ ∧ 0 ≤ y.toInt ∧ y.toInt ≤ c ∧ x.toInt = v2 + 1 + 4 * y.toInt) (fun _ y _ => (2147483648 - y.toInt).toNat) ?_ N v12 0 τ1 ⟨k1, f1, by omega, by omega, by omega⟩ (by (try dsimp only); omega)
    intro rr x y υ hI ih
    obtain ⟨hυ, fυ, i1, i2, i3⟩ := hI
    unfold fX12_lay_l120
    rw [ep, fυ 18 p (by omega), fυ 16 p (by omega)]
    refine ⟨hin3, fun d => ⟨hin3, fun g => ?_, fun g => ?_⟩, fun d => ⟨fun g => ?_, fun g => absurd hw1 g⟩⟩
    · have g' := hs3 ((eqE rfl o3).mp g)
      omega
    · have d' := (leE ec (rfl : y.toInt = y.toInt)).mp d
      unfold fX12_lay_j208
      rw [ep, fυ 16 p (by omega)]
      refine ⟨hin3, fun q => ?_, fun q => hQ _ hυ fυ⟩
      have q' := hs5 ((eqE rfl o5).mp q)
      exact tX12_tellFour hN (by omega) (by omega) hυ (fun ω kω fω => hQ _ kω (fυ.tr fω))
    · have d' := (notleE ec (rfl : y.toInt = y.toInt)).mp d
      refine ⟨inE (aOkE (mOkE o20 (rfl : x3.toInt = x3.toInt) (by omega) (by omega)) (rfl : y.toInt = y.toInt) (by omega) (by omega)) (by omega) (by omega), ?_⟩
      refine tX12_tellFour hN (by omega) (by omega) hυ (fun ω kω fω => ?_)
      refine ⟨fun _ => ?_, fun q => absurd hw1 q⟩
      intro v22 ev22 v23 ev23
      have f22 : v22.toInt = x.toInt + 4 := (congrArg Int32.toInt ev22).trans (aOkE rfl o4 (by omega) (by omega))
      have f23 : v23.toInt = y.toInt + 1 := (congrArg Int32.toInt ev23).trans (aOkE rfl o1 (by omega) (by omega))
      exact ih v22 v23 ω ⟨kω, fυ.tr fω, by omega, by omega, by omega⟩ (by (try dsimp only); omega)
  · subst hw2
    refine lo2_i (fun (x y : Int32) (υ : St) => K2 σ0 υ ∧ FrT τ υ ∧ 0 ≤ y.toInt ∧ y.toInt ≤ c ∧ x.toInt = v2 + 1 + y.toInt) (fun _ y _ => (2147483648 - y.toInt).toNat) ?_ N v12 0 τ1 ⟨k1, f1, by omega, by omega, by omega⟩ (by (try dsimp only); omega)
    intro rr x y υ hI ih
    obtain ⟨hυ, fυ, i1, i2, i3⟩ := hI
    unfold fX12_lay_l120
    rw [ep, fυ 18 p (by omega), fυ 16 p (by omega)]
    refine ⟨hin3, fun d => ⟨hin3, fun g => ?_, fun g => ?_⟩, fun d => ⟨fun g => absurd g hw1, fun g => ?_⟩⟩
    · have d' := (leE ec (rfl : y.toInt = y.toInt)).mp d
      have g' := hs3 ((eqE rfl o3).mp g)
      refine tX12_tell (by omega) (by omega) hυ (fun ω kω fω => ?_)
      unfold fX12_lay_j208
      rw [ep, (fυ.tr fω) 16 p (by omega)]
      refine ⟨hin3, fun q => ?_, fun q => hQ _ kω (fυ.tr fω)⟩
      have q' := hs5 ((eqE rfl o5).mp q)
      omega
    · unfold fX12_lay_j208
      rw [ep, fυ 16 p (by omega)]
      refine ⟨hin3, fun q => ?_, fun q => hQ _ hυ fυ⟩
      have q' := hs5 ((eqE rfl o5).mp q)
      omega
    · have d' := (notleE ec (rfl : y.toInt = y.toInt)).mp d
      refine ⟨inE (aOkE (mOkE o20 (rfl : x3.toInt = x3.toInt) (by omega) (by omega)) (rfl : y.toInt = y.toInt) (by omega) (by omega)) (by omega) (by omega), ?_⟩
      refine tX12_tell (by omega) (by omega) hυ (fun ω kω fω => ?_)
      refine ⟨fun q => absurd q hw1, fun _ => ?_⟩
      intro v22 ev22 v23 ev23
      have f22 : v22.toInt = x.toInt + 1 := (congrArg Int32.toInt ev22).trans (aOkE rfl o1 (by omega) (by omega))
      have f23 : v23.toInt = y.toInt + 1 := (congrArg Int32.toInt ev23).trans (aOkE rfl o1 (by omega) (by omega))
      exact ih v22 v23 ω ⟨kω, fυ.tr fω, by omega, by omega, by omega⟩ (by (try dsimp only); omega)
theorem K2.q_30 {σ0 σ : St} (h : K2 σ0 σ) (j : Nat) : 0 ≤ (σ.1 30 j).toInt ∧ (σ.1 30 j).toInt ≤ 121 := h.1.1 30 j
theorem K2.q_31 {σ0 σ : St} (h : K2 σ0 σ) (j : Nat) : 0 ≤ (σ.1 31 j).toInt ∧ (σ.1 31 j).toInt ≤ 121 := h.1.1 31 j
theorem K2.q_36 {σ0 σ : St} (h : K2 σ0 σ) (j : Nat) : 0 ≤ (σ.1 36 j).toInt ∧ (σ.1 36 j).toInt ≤ 121 := h.1.1 36 j
set_option maxHeartbeats 2000000 in
theorem tX12_lay {N : Nat} (hN : 4294967400 ≤ N) {x1 : Int32} {Q : St → Prop} {σ0 σ τ : St} {L n : Nat} {base : Int} (hσ : K2 σ0 σ) (hτ : K2 σ0 τ) (pτ : Kp σ τ) (hT : TK σ τ L n) (hP : PD τ L n L base) (h0 : 0 ≤ base) (h1 : base + (τ.1 33 (n - 1)).toInt ≤ 4096) (hx : 0 ≤ x1.toInt) (hx2 : x1.toInt < n) (hQ : ∀ υ : St, K2 σ0 υ → FrT τ υ → Q υ) : fX12_lay N x1 Q τ := by
  have z0 : (0 : Int32).toInt = 0 := by decide
  have o1 : (1 : Int32).toInt = 1 := by decide
  have o5 : (5 : Int32).toInt = 5 := by decide
  have o3 : (3 : Int32).toInt = 3 := by decide
  have b36 := K2.g_0_36 hσ
  obtain ⟨⟨t1, t2, t3, t4, t5⟩, tk, ta, ts, tr, tl, _⟩ := id hT
  have ek := clE (rfl : x1.toInt = x1.toInt) hx
  obtain ⟨k, hk⟩ : ∃ k : Nat, x1.toNatClampNeg = k := ⟨_, rfl⟩
  rw [hk] at ek
  have bd := PD.bd hT hP (i := k) (by omega)
  have sk := ts k (by omega)
  have hin : vp_in x1 122 := inE (rfl : x1.toInt = x1.toInt) (by omega) (by omega)
  unfold fX12_lay
  rw [hk]
  refine ⟨hin, fun v2 ev2 => ⟨fun c => ⟨hin, fun d => ?_, fun d => ?_⟩, fun c => ?_⟩⟩
  · have f2 : v2.toInt = (τ.1 34 k).toInt := congrArg Int32.toInt ev2
    exact tX12_tell (by omega) (by omega) hτ hQ
  · have f2 : v2.toInt = (τ.1 34 k).toInt := congrArg Int32.toInt ev2
    have c' := (ltE (rfl : x1.toInt = x1.toInt) t1).mp c
    have k0 : k ≠ 0 := by
      intro w
      rw [w] at d
      exact d tl.1
    obtain ⟨l1, l2, l3⟩ := tl.2.2 k (by omega) (by omega)
    refine ⟨hin, fun v7 ev7 => ?_⟩
    rw [← ev7] at l1 l2 l3
    have e7 := clE (rfl : v7.toInt = v7.toInt) l1
    obtain ⟨p, ep⟩ : ∃ p : Nat, v7.toNatClampNeg = p := ⟨_, rfl⟩
    rw [ep] at e7 l3
    have hin7 : vp_in v7 60 := inE (rfl : v7.toInt = v7.toInt) (by omega) (by omega)
    have hPI := hσ.1.2.1 p (by omega)
    have b18 := K2.q_18 hσ p
    have r16 : τ.1 16 p = σ.1 16 p := pτ 16 p (by omega)
    have r18 : τ.1 18 p = σ.1 18 p := pτ 18 p (by omega)
    have hS : szf σ p = (τ.1 33 k).toInt := l3.symm
    unfold szf at hS
    rw [← r16, ← r18] at hS hPI
    rw [← r18] at b18
    have key : ∀ (x4 : Int32) (w : Int), (x4 = 0 ∧ w = 4 ∧ 3 < (τ.1 16 p).toInt) ∨ (x4 ≠ 0 ∧ w = 1 ∧ ¬ 3 < (τ.1 16 p).toInt) → fX12_lay_j101 N v2 v7 x4 Q τ := by
      intro x4 w hw
      unfold fX12_lay_j101
      refine ⟨hin7, tX12_tell (by omega) (by omega) hτ (fun τ1 k1 f1 => ?_)⟩
      intro v12 ev12
      have f12 : v12.toInt = v2.toInt + 1 := (congrArg Int32.toInt ev12).trans (aOkE rfl o1 (by omega) (by omega))
      refine tX12_lay120 hN (τ := τ) (v2 := v2.toInt) (w := w) (S := (τ.1 33 k).toInt) l1 (by omega) ep ?_ (by omega) (by omega) b18.1 b18.2 ?_ ?_ ?_ f12 k1 f1 hQ
      · rcases hw with ⟨a1, a2, _⟩ | ⟨a1, a2, _⟩
        · exact Or.inl ⟨a1, a2⟩
        · exact Or.inr ⟨a1, a2⟩
      · rw [← hS]
        rcases hw with ⟨_, a2, a3⟩ | ⟨_, a2, a3⟩
        · subst a2
          split <;> first | omega | (split <;> first | omega | (split <;> omega))
        · subst a2
          split <;> first | omega | (split <;> first | omega | (split <;> omega))
      · intro q
        rw [if_neg (by omega), if_pos q] at hS
        omega
      · intro q
        rw [if_neg (by omega), if_neg (by omega), if_pos q] at hS
        omega
    rw [ep]
    refine ⟨hin7, fun g => key 0 4 (Or.inl ⟨rfl, rfl, (ltE o3 rfl).mp g⟩), fun g => key 1 1 (Or.inr ⟨by decide, rfl, (notltE o3 rfl).mp g⟩)⟩
  · have f2 : v2.toInt = (τ.1 34 k).toInt := congrArg Int32.toInt ev2
    have c' := (notltE (rfl : x1.toInt = x1.toInt) t1).mp c
    obtain ⟨a, b, qa, qb, qab, q30, q31, q33, _⟩ := tk k (by omega) (by omega)
    have sa := ts a (by omega)
    have sb := ts b (by omega)
    have g1 : (v2 + 1).toInt = v2.toInt + 1 := aOkE rfl o1 (by omega) (by omega)
    have g5 : (v2 + 5).toInt = v2.toInt + 5 := aOkE rfl o5 (by omega) (by omega)
    refine tX12_tell (by omega) (by omega) hτ (fun τ1 k1 f1 => ?_)
    have b30 := K2.q_30 k1 k
    refine ⟨hin, inE (rfl : (τ1.1 30 k).toInt = (τ1.1 30 k).toInt) (by omega) (by omega), ?_⟩
    refine tX12_tellFour hN (by omega) (by omega) k1 (fun τ2 k2 f2' => ?_)
    have b31 := K2.q_31 k2 k
    refine ⟨hin, inE (rfl : (τ2.1 31 k).toInt = (τ2.1 31 k).toInt) (by omega) (by omega), ?_⟩
    exact tX12_tellFour hN (by omega) (by omega) k2 (fun τ3 k3 f3' => hQ _ k3 ((f1.tr f2').tr f3'))
