section SIM51
variable {N : Nat} {a b σ0 : St}
/-- the leaf of a text's piece -/
def lfT (b τ : St) (t k : Nat) : Nat := (τ.1 36 (tP b t k).toNatClampNeg).toNatClampNeg
/-- a text's bits, piece by piece: bytes, and how many bits -/
def txS (b τ : St) (t : Nat) : Nat → (Nat → Int32) × Nat
  | 0 => (fun _ => 0, 0)
  | k + 1 => (pa (bP τ (lfT b τ t k)) (txS b τ t k).1 (txS b τ t k).2 (dpN τ (lfT b τ t k)), (txS b τ t k).2 + dpN τ (lfT b τ t k))
def txF (b τ : St) (t : Nat) : Nat → Int32 := pa (bP τ 0) (txS b τ t (cN b t)).1 (txS b τ t (cN b t)).2 (dpN τ 0)
def txN (b τ : St) (t : Nat) : Nat := (txS b τ t (cN b t)).2 + dpN τ 0
def txB (b τ : St) (t : Nat) : Nat := (txN b τ t + 7) / 8
theorem txS_zw (b τ : St) (t : Nat) : ∀ k : Nat, ZW (txS b τ t k).1 (txS b τ t k).2
  | 0 => fun _ _ => rfl
  | k + 1 => pa_zw (txS_zw b τ t k) _
theorem txS_bs {τ : St} {L n t : Nat} {base : Int} (hb : K2 σ0 b) (hT : TK b τ L n) (hD : PD τ L n L base) (ht : (t : Int) < (b.1 0 41).toInt) : ∀ k : Nat, (k : Int) ≤ (tR b t).toInt ∨ k = 0 → ((txS b τ t k).2 : Int) + (τ.1 35 0).toInt = bsum b τ t k
  | 0, _ => by show ((0 : Nat) : Int) + _ = _; rw [Int.natCast_zero, Int.zero_add]; rfl
  | k + 1, hk => by
    have ih := txS_bs hb hT hD ht k (by omega)
    have dk := dp_ok hb hT hD ht (k := k) (by omega)
    show (((txS b τ t k).2 + dpN τ (lfT b τ t k) : Nat) : Int) + _ = bsum b τ t k + _
    unfold dpN lfT
    omega
theorem txN_Bt {τ : St} {L n t : Nat} {base : Int} (hb : K2 σ0 b) (hT : TK b τ L n) (hD : PD τ L n L base) (ht : (t : Int) < (b.1 0 41).toInt) : (txN b τ t : Int) = Bt b τ t := by
  have t1 := hT.1
  have h := txS_bs hb hT hD ht (cN b t) (by unfold cN; omega)
  have bd := PD.bd hT hD (i := 0) (by omega)
  show ((txS b τ t (cN b t)).2 + dpN τ 0 : Nat) = bsum b τ t (tR b t).toInt.toNat
  have e : cN b t = (tR b t).toInt.toNat := rfl
  rw [e] at h
  rw [e]
  unfold dpN
  omega
/-- where the texts lie, and the memory then -/
def txA (b τ : St) (A0 : Nat) : Nat → Nat
  | 0 => A0
  | t + 1 => txA b τ A0 t + (1 + txB b τ t)
def txM (b τ : St) (A0 : Nat) (M : Nat → Int32) : Nat → Nat → Int32
  | 0 => M
  | t + 1 => TC (txA b τ A0 t) (txF b τ t) (txB b τ t) (txM b τ A0 M t)
theorem txA_Et {τ : St} {L n A0 : Nat} {base : Int} (hb : K2 σ0 b) (hT : TK b τ L n) (hD : PD τ L n L base) : ∀ t : Nat, (t : Int) ≤ (b.1 0 41).toInt → (txA b τ A0 t : Int) = (A0 : Int) + Et b τ t
  | 0, _ => by show (A0 : Int) = (A0 : Int) + 0; omega
  | t + 1, ht => by
    have ih := txA_Et (A0 := A0) hb hT hD t (by omega)
    have e := txN_Bt hb hT hD (t := t) (by omega)
    show ((txA b τ A0 t + (1 + txB b τ t) : Nat) : Int) = (A0 : Int) + (Et b τ t + (1 + (Bt b τ t + 7) / 8))
    unfold txB
    omega
set_option maxHeartbeats 2000000 in
/-- one text: the reference -/
theorem e_text1 (hN : 4294967400 ≤ N) {r249 : Int32 → St → Prop} {x5 x6 : Int32} {t A : Nat} {base : Int} {Q : Int32 → St → Prop} {τ ω : St} {L n : Nat} {M : Nat → Int32} (et : x6.toInt = t) (hb : K2 σ0 b) (hT : TK b τ L n) (hD : PD τ L n L base) (h6 : (t : Int) < (b.1 0 41).toInt) (hA2 : A + 1 + txB b τ t ≤ 4096) (hω : K2 σ0 ω) (fω : FrC τ ω) (hp : ∀ k : Nat, (k : Int) < (tR b t).toInt → ω.1 26 k = tP b t k) (hB : BN ω (8 * ((A : Int) + 1))) (h23 : (ω.1 23 t).toInt = dpN τ 0) (hM : MR ω (wB M A 225))
    (hr : ∀ (v : Int32) (υ : St), v.toInt = (t : Int) + 1 → K2 σ0 υ → FrC τ υ → (υ.1 0 63).toInt = (A + (1 + txB b τ t) : Nat) → MR υ (TC A (txF b τ t) (txB b τ t) M) → (υ.1 23 t).toInt = txN b τ t → (∀ i : Nat, i ≠ t → υ.1 23 i = ω.1 23 i) → (∀ i : Nat, υ.1 22 i = ω.1 22 i) → r249 v υ) : lo1 (fX12_tree_l326 N r249 x5 x6 (tR b t) Q) N 0 ω := by
  have z0 : (0 : Int32).toInt = 0 := by decide
  have zc : (0 : Int32).toNatClampNeg = 0 := by decide
  have o1 : (1 : Int32).toInt = 1 := by decide
  have b41 := K2.q_0_41 hb
  have b36 := K2.g_0_36 hb
  have bR := tR_le hb t
  have c6 : x6.toNatClampNeg = t := by have := clE et (by omega); omega
  obtain ⟨t1, t2, t3, t4, t5⟩ := hT.1
  have bB := Bt_le hb hT hD (t := t) h6
  have eBN := txN_Bt hb hT hD (t := t) h6
  have bz := (PD.bd hT hD (i := 0) (by omega)).2.2.1
  have d0 : (τ.1 35 0).toInt = dpN τ 0 := by unfold dpN; omega
  have hin6 : vp_in x6 20 := inE et (by omega) (by omega)
  have cNe : cN b t = (tR b t).toInt.toNat := rfl
  unfold txB at hA2
  refine lo1_i (fun (y : Int32) (υ : St) => K2 σ0 υ ∧ FrC τ υ ∧ υ.1 26 = ω.1 26 ∧ 0 ≤ y.toInt ∧ (y.toInt = 0 ∨ y.toInt ≤ (tR b t).toInt) ∧ BN υ (8 * ((A : Int) + 1) + ((txS b τ t y.toNatClampNeg).2 : Nat)) ∧ MR υ (TM A (txS b τ t y.toNatClampNeg).1 (txS b τ t y.toNatClampNeg).2 M) ∧ (υ.1 23 t).toInt = ((txS b τ t y.toNatClampNeg).2 + dpN τ 0 : Nat) ∧ (∀ i : Nat, i ≠ t → υ.1 23 i = ω.1 23 i) ∧ (∀ i : Nat, υ.1 22 i = ω.1 22 i)) (fun y _ => (2147483648 - y.toInt).toNat) ?_ N 0 ω ⟨hω, fω, rfl, by omega, Or.inl z0, ?_, ?_, ?_, fun _ _ => rfl, fun _ => rfl⟩ (by (try dsimp only); omega)
  · intro rr y υ hI ih
    obtain ⟨hυ, fυ, u26, i1, i2, i3, i4, i5, i6, i7⟩ := hI
    have ey := clE (rfl : y.toInt = y.toInt) i1
    obtain ⟨m, hm⟩ : ∃ m : Nat, y.toNatClampNeg = m := ⟨_, rfl⟩
    rw [hm] at ey i3 i4 i5
    have r35 : υ.1 35 = τ.1 35 := funext (fun j => fυ 35 j (by omega))
    have r36 : υ.1 36 = τ.1 36 := funext (fun j => fυ 36 j (by omega))
    have sm := txS_bs hb hT hD h6 m (by omega)
    unfold fX12_tree_l326
    refine ⟨fun c => ?_, fun c => ?_⟩
    · have c' := (leE (rfl : (tR b t).toInt = (tR b t).toInt) (rfl : y.toInt = y.toInt)).mp c
      have em : m = cN b t := by omega
      rw [em] at i3 i4 i5
      have eB : (txS b τ t (cN b t)).2 + dpN τ 0 = txN b τ t := rfl
      refine e_way hN (A := A) (l := 0) hυ fυ hT hD (by omega) (by omega) i3 (by omega) (txS_zw b τ t _) i4 (fun ψ kψ fψ bψ mψ => ?_)
      rw [eB] at bψ mψ
      obtain ⟨p1, p2, p3, p4⟩ := bψ
      have fin : ∀ t0 : Int32, (t0.toInt = 0 ∧ (ψ.1 0 64).toInt ≤ 0) ∨ (t0.toInt = 1 ∧ ¬ (ψ.1 0 64).toInt ≤ 0) → fX12_tree_j404 N r249 x5 x6 t0 (ψ.1 0 63) Q ψ := by
        intro t0 ht0
        intro v40 ev40 σ41 e41 v42 ev42
        have f40 : v40.toInt = (ψ.1 0 63).toInt + t0.toInt := (congrArg Int32.toInt ev40).trans (aOkE rfl rfl (by omega) (by omega))
        have f42 : v42.toInt = (t : Int) + 1 := (congrArg Int32.toInt ev42).trans (aOkE et o1 (by omega) (by omega))
        refine hr v42 σ41 f42 (by rw [e41]; exact kψ.uf (Rg2.q_0_63 _) (by decide)) ((fυ.tr (FrC.ofB fψ)).u e41 (by omega)) ?_ ?_ ?_ (fun i hi => ?_) (fun i => ?_)
        · rw [rw1 e41, up1, f40]
          unfold txB
          omega
        · rw [← TM_TC (m := txN b τ t) (nb := txB b τ t) rfl]
          exact MR.fr mψ (fun i => by rw [e41, u1e (by omega)])
        · rw [e41, u1e (by omega), fψ 23 t (by omega)]
          exact i5
        · rw [e41, u1e (by omega), fψ 23 i (by omega)]
          exact i6 i hi
        · rw [e41, u1e (by omega), fψ 22 i (by omega)]
          exact i7 i
      exact ⟨fun q => fin 0 (Or.inl ⟨z0, (leE rfl z0).mp q⟩), fun q => fin 1 (Or.inr ⟨o1, (notleE rfl z0).mp q⟩)⟩
    · have c' := (notleE (rfl : (tR b t).toInt = (tR b t).toInt) (rfl : y.toInt = y.toInt)).mp c
      have e26 : υ.1 26 m = tP b t m := by rw [u26]; exact hp m (by omega)
      have bP' := tP_lt hb (t := t) (k := m) (by omega)
      have hinP : vp_in (tP b t m) 60 := inE (rfl : (tP b t m).toInt = (tP b t m).toInt) (by omega) (by omega)
      obtain ⟨l, l1, l2⟩ := leaf_ok hb hT (t := t) (k := m) h6 (by omega)
      have el : (τ.1 36 (tP b t m).toNatClampNeg).toNatClampNeg = l := by have := clE l2 (by omega); omega
      have lT : lfT b τ t m = l := el
      have hiny : vp_in y 120 := inE (rfl : y.toInt = y.toInt) (by omega) (by omega)
      have hinl : vp_in (τ.1 36 (tP b t m).toNatClampNeg) 122 := inE l2 (by omega) (by omega)
      have bm := bsum_mono hb hT hD (t := t) h6 (m + 1) ((tR b t).toInt.toNat - (m + 1)) (by omega)
      rw [show m + 1 + ((tR b t).toInt.toNat - (m + 1)) = (tR b t).toInt.toNat by omega] at bm
      have bm' : bsum b τ t (m + 1) ≤ Bt b τ t := bm
      have sm1 := txS_bs hb hT hD h6 (m + 1) (by omega)
      have s2 : (txS b τ t (m + 1)).2 = (txS b τ t m).2 + dpN τ l := by show (txS b τ t m).2 + dpN τ (lfT b τ t m) = _; rw [lT]
      have dl := (PD.bd hT hD (i := l) (by omega)).2.2
      have eDl : (τ.1 35 l).toInt = dpN τ l := by unfold dpN; omega
      rw [hm, e26, r36, c6, el, r35]
      refine ⟨hin6, hiny, hinP, hinl, fun v44 ev44 => ⟨hin6, fun σ46 e46 => ?_⟩⟩
      have f44 : v44.toInt = ((txS b τ t m).2 + dpN τ 0 : Nat) + (dpN τ l : Int) := (congrArg Int32.toInt ev44).trans (aOkE i5 eDl (by omega) (by omega))
      have k46 : K2 σ0 σ46 := by rw [e46]; exact hυ.ua (Rg2.q_23 _ _) (by decide)
      have f46 : FrC τ σ46 := fυ.u e46 (by omega)
      have s26 : σ46.1 26 = υ.1 26 := rwn e46 (by decide)
      have s36 : σ46.1 36 = τ.1 36 := (rwn e46 (by decide)).trans r36
      rw [s26, e26, s36]
      refine ⟨hiny, hinP, ?_⟩
      refine e_way hN (A := A) (m := (txS b τ t m).2) (l := l) (W := (txS b τ t m).1) (M := M) k46 f46 hT hD l2 (by omega) (i3.ext (kq e46 (by omega)) (kq e46 (by omega))) (by omega) (txS_zw b τ t m) (MR.fr i4 (fun i => by rw [e46, u1e (by omega)])) (fun ψ kψ fψ bψ mψ => ?_)
      intro v50 ev50
      have f50 : v50.toInt = y.toInt + 1 := (congrArg Int32.toInt ev50).trans (aOkE rfl o1 (by omega) (by omega))
      have e50 : v50.toNatClampNeg = m + 1 := by have := clE f50 (by omega); omega
      have ts1 : txS b τ t (m + 1) = (pa (bP τ l) (txS b τ t m).1 (txS b τ t m).2 (dpN τ l), (txS b τ t m).2 + dpN τ l) := by show (pa (bP τ (lfT b τ t m)) _ _ (dpN τ (lfT b τ t m)), _ + dpN τ (lfT b τ t m)) = _; rw [lT]
      refine ih v50 ψ ⟨kψ, f46.tr (FrC.ofB fψ), ?_, by omega, by omega, ?_, ?_, ?_, fun i hi => ?_, fun i => ?_⟩ (by (try dsimp only); omega)
      · rw [show ψ.1 26 = σ46.1 26 from funext (fun j => fψ 26 j (by omega)), s26, u26]
      · rw [e50, ts1]; exact bψ
      · rw [e50, ts1]; exact mψ
      · rw [e50, ts1, fψ 23 t (by omega), e46, u1v, f44]
        show _ = (((txS b τ t m).2 + dpN τ l + dpN τ 0 : Nat) : Int)
        omega
      · rw [fψ 23 i (by omega), e46, u1e (by omega)]
        exact i6 i hi
      · rw [fψ 22 i (by omega), e46, u1e (by omega)]
        exact i7 i
  · rw [zc]
    show BN ω (8 * ((A : Int) + 1) + ((0 : Nat) : Int))
    rw [Int.natCast_zero, Int.add_zero]
    exact hB
  · rw [zc]
    show MR ω (TM A (fun _ => 0) 0 M)
    refine hM.ext (fun i hi => ?_)
    unfold wB TM
    by_cases e : i = A
    · rw [e, up1, if_pos rfl]; decide
    · rw [up2 e, if_neg e, if_neg (by omega)]
  · rw [zc, h23]
    show (dpN τ 0 : Int) = ((0 + dpN τ 0 : Nat) : Int)
    omega
/-- the pieces' bits: the reference -/
theorem e_pieceBits (hN : 4294967400 ≤ N) {x5 : Int32} {Q : Int32 → St → Prop} {τ : St} (hτ : K2 σ0 τ) (hQ : ∀ υ : St, K2 σ0 υ → (∀ c i : Nat, c ≠ 19 → υ.1 c i = τ.1 c i) → (∀ p : Nat, (p : Int) < (τ.1 0 36).toInt → υ.1 19 p = if 1 ≤ (τ.1 37 p).toInt then τ.1 35 (τ.1 36 p).toNatClampNeg else τ.1 19 p) → Q x5 υ) : lo1 (fX12_tree_l427 N x5 Q) N 0 τ := by
  have z0 : (0 : Int32).toInt = 0 := by decide
  have o1 : (1 : Int32).toInt = 1 := by decide
  have b36 := K2.g_0_36 hτ
  refine lo1_i (fun (y : Int32) (υ : St) => K2 σ0 υ ∧ 0 ≤ y.toInt ∧ y.toInt ≤ (τ.1 0 36).toInt ∧ (∀ c i : Nat, c ≠ 19 → υ.1 c i = τ.1 c i) ∧ (∀ p : Nat, υ.1 19 p = if (p : Int) < y.toInt ∧ 1 ≤ (τ.1 37 p).toInt then τ.1 35 (τ.1 36 p).toNatClampNeg else τ.1 19 p)) (fun y _ => ((τ.1 0 36).toInt - y.toInt).toNat) ?_ N 0 τ ⟨hτ, by omega, by omega, fun _ _ _ => rfl, fun p => by rw [if_neg (by omega)]⟩ (by (try dsimp only); omega)
  intro rr y υ hI ih
  obtain ⟨hυ, i1, i2, i3, i4⟩ := hI
  have ey := clE (rfl : y.toInt = y.toInt) i1
  unfold fX12_tree_l427
  rw [i3 0 36 (by decide)]
  refine ⟨fun c => ?_, fun c => ?_⟩
  · have c' := (leE (rfl : (τ.1 0 36).toInt = _) (rfl : y.toInt = y.toInt)).mp c
    refine hQ υ hυ i3 (fun p hp => ?_)
    rw [i4 p]
    by_cases g : 1 ≤ (τ.1 37 p).toInt
    · rw [if_pos ⟨by omega, g⟩, if_pos g]
    · rw [if_neg (fun w => g w.2), if_neg g]
  · have c' := (notleE (rfl : (τ.1 0 36).toInt = _) (rfl : y.toInt = y.toInt)).mp c
    have hin : vp_in y 60 := inE (rfl : y.toInt = y.toInt) (by omega) (by omega)
    have go : ∀ t0 : Int32, t0 = (if 1 ≤ (τ.1 37 y.toNatClampNeg).toInt then τ.1 35 (τ.1 36 y.toNatClampNeg).toNatClampNeg else τ.1 19 y.toNatClampNeg) → fX12_tree_j474 N rr x5 y t0 y Q υ := by
      intro t0 ht0
      refine ⟨hin, fun σ28 e28 v29 ev29 => ?_⟩
      have f29 : v29.toInt = y.toInt + 1 := (congrArg Int32.toInt ev29).trans (aOkE rfl o1 (by omega) (by omega))
      refine ih v29 σ28 ⟨by rw [e28]; exact hυ.ua (by trivial) (by decide), by omega, by omega, fun c i q => by rw [e28, u1e (fun z => q z.1)]; exact i3 c i q, fun p => ?_⟩ (by (try dsimp only); omega)
      rw [e28]
      by_cases e : p = y.toNatClampNeg
      · rw [e, u1v, ht0]
        by_cases g : 1 ≤ (τ.1 37 y.toNatClampNeg).toInt
        · rw [if_pos g, if_pos ⟨by omega, g⟩]
        · rw [if_neg g, if_neg (fun w => g w.2)]
      · rw [u1e (by omega), i4 p]
        by_cases g : (p : Int) < y.toInt ∧ 1 ≤ (τ.1 37 p).toInt
        · rw [if_pos g, if_pos (by omega)]
        · rw [if_neg g, if_neg (fun w => g ⟨by omega, w.2⟩)]
    have bl := K2.q_36 hυ y.toNatClampNeg
    rw [i3 37 _ (by decide)]
    refine ⟨hin, fun d => ⟨hin, go _ ?_⟩, fun d => ⟨hin, inE (rfl : (υ.1 36 y.toNatClampNeg).toInt = _) (by omega) (by omega), go _ ?_⟩⟩
    · have := (leE (rfl : (τ.1 37 y.toNatClampNeg).toInt = _) z0).mp d
      rw [if_neg (by omega), i4, if_neg (by omega)]
    · have := (notleE (rfl : (τ.1 37 y.toNatClampNeg).toInt = _) z0).mp d
      rw [if_pos (by omega), i3 35 _ (by decide), i3 36 _ (by decide)]
end SIM51
