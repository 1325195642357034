section SIM56
variable {N : Nat} {a b σ0 τ : St} {L n : Nat}
/-- leaves and pieces, to and fro -/
theorem lfs_inv (σ : St) : ∀ y : Nat, y ≤ 60 → (∀ i : Nat, 1 ≤ i → i < (lfs σ y).1 → ∃ p : Nat, p < y ∧ (lfs σ y).2.1 i = nI p ∧ 1 ≤ (uA σ p).toInt ∧ (lfs σ y).2.2.1 p = nI i) ∧ (∀ p : Nat, p < y → 1 ≤ (uA σ p).toInt → ∃ i : Nat, 1 ≤ i ∧ i < (lfs σ y).1 ∧ (lfs σ y).2.2.1 p = nI i ∧ (lfs σ y).2.1 i = nI p)
  | 0, _ => ⟨fun i h1 h2 => absurd h2 (by show ¬ i < 1; omega), fun p hp => absurd hp (by omega)⟩
  | y + 1, hy => by
    obtain ⟨h1, h2⟩ := lfs_inv σ y (by omega)
    have hn := lfs_n σ y
    by_cases u : 1 ≤ (uA σ y).toInt
    · rw [lfs_yes u]
      refine ⟨fun i i1 i2 => ?_, fun p p1 p2 => ?_⟩
      · dsimp only at i2 ⊢
        by_cases e : i = (lfs σ y).1
        · exact ⟨y, by omega, by rw [e, up1], u, by rw [up1, e]⟩
        · obtain ⟨p, q1, q2, q3, q4⟩ := h1 i i1 (by omega)
          exact ⟨p, by omega, by rw [up2 e]; exact q2, q3, by rw [up2 (by omega)]; exact q4⟩
      · dsimp only
        by_cases e : p = y
        · exact ⟨(lfs σ y).1, hn.1, by omega, by rw [e, up1], by rw [up1, e]⟩
        · obtain ⟨i, q1, q2, q3, q4⟩ := h2 p (by omega) p2
          exact ⟨i, q1, by omega, by rw [up2 e]; exact q3, by rw [up2 (by omega)]; exact q4⟩
    · rw [lfs_no u]
      refine ⟨fun i i1 i2 => ?_, fun p p1 p2 => h2 p (Nat.lt_of_le_of_ne (by omega) (fun e => by rw [e] at p2; exact u p2)) p2⟩
      obtain ⟨p, q1, q2, q3, q4⟩ := h1 i i1 i2
      exact ⟨p, by omega, q2, q3, q4⟩
/-- no way is longer than there are leaves -/
theorem dep_le {base : Int} (hT : TK b τ L n) (hD : PD τ L n L base) {i : Nat} (hi : i < n) : 0 ≤ (τ.1 35 i).toInt ∧ (τ.1 35 i).toInt < L := by
  have t := hT.1
  have bd := PD.bd hT hD hi
  refine ⟨bd.2.2.1, ?_⟩
  by_cases e : i = n - 1
  · rw [e, hD.2.1]; omega
  · obtain ⟨k, k1, k2, k3, k4, k5⟩ := PD.dp hT hD (i := i) (by omega)
    have bk := PD.bd hT hD k2
    omega
/-- the bits of a text, counted: the class -/
theorem c_count (hN : 4294967400 ≤ N) {x1 : Int32} {t : Nat} {base : Int} (et : x1.toInt = t) (ht : (t : Int) < (b.1 0 41).toInt) (hb : K2 σ0 b) (hT : TK b τ L n) (hD : PD τ L n L base) (hE : EX b τ L) (hS : Same b a τ L n) (hd : ∀ i : Nat, i < n → (a.1 36 i).toInt = (τ.1 35 i).toInt) (hP : PT1 b a t) {Q : Int32 → St → Prop} (hQ : ∀ r : Int32, r.toInt = Bt b τ t → Q r a) : fX5_countBits N x1 Q a := by
  have z0 : (0 : Int32).toInt = 0 := by decide
  have o1 : (1 : Int32).toInt = 1 := by decide
  have b41 := K2.q_0_41 hb
  have b36 := K2.g_0_36 hb
  have c1 : x1.toNatClampNeg = t := by have := clE et (by omega); omega
  have hin : vp_in x1 20 := inE et (by omega) (by omega)
  have t1 := hT.1
  have cle := cN_le hb t
  have bB := Bt_le hb hT hD (t := t) ht
  unfold fX5_countBits
  rw [show (0 : Int32).toNatClampNeg = 0 from rfl]
  refine ⟨inE z0 (by omega) (by omega), fun v2 e2 => ?_⟩
  refine lo2_i (fun (x y : Int32) (υ : St) => υ = a ∧ 0 ≤ y.toInt ∧ y.toInt ≤ cN b t ∧ x.toInt = bsum b τ t y.toNatClampNeg) (fun _ y _ => ((cN b t : Int) - y.toInt).toNat) ?_ N v2 0 a ⟨rfl, by omega, by omega, by rw [e2, hd 0 (by omega)]; rfl⟩ (by (try dsimp only); omega)
  intro rr x y υ hI ih
  obtain ⟨rfl, i1, i2, i3⟩ := hI
  have ey := clE (rfl : y.toInt = y.toInt) i1
  obtain ⟨m, hm⟩ : ∃ m : Nat, y.toNatClampNeg = m := ⟨_, rfl⟩
  rw [hm] at ey i3
  unfold fX5_countBits_l12
  rw [c1]
  refine ⟨hin, fun c => ?_, fun c => ?_⟩
  · have c' := (leE hP.1 (rfl : y.toInt = _)).mp c
    refine hQ x ?_
    rw [i3, show m = cN b t by omega]
    rfl
  · have c' := (notleE hP.1 (rfl : y.toInt = _)).mp c
    have hk : (m : Int) < (tR b t).toInt := by unfold cN at c' i2; omega
    have eP : υ.1 (203 + t) m = tP b t m := hP.2 m (by omega)
    have bP := tP_lt hb hk
    have cP := clE (rfl : (tP b t m).toInt = _) bP.1
    obtain ⟨l, l1, l2⟩ := leaf_ok hb hT ht hk
    have used : 1 ≤ (uA b (tP b t m).toNatClampNeg).toInt := by
      rw [← hE.2.1 _ (by omega)]
      exact hT.2.2.2.2.2.2.2 t ht m hk
    have e42 : υ.1 42 (tP b t m).toNatClampNeg = τ.1 36 (tP b t m).toNatClampNeg := hS.2.2.2.1 _ (by omega) used
    have cl : (τ.1 36 (tP b t m).toNatClampNeg).toNatClampNeg = l := by have := clE l2 (by omega); omega
    have b0 := bsum_le hb hT hD (t := t) ht m (by omega)
    have dl := dep_le hT hD (i := l) (by omega)
    rw [hm, eP, e42, cl]
    refine ⟨hin, inE rfl (by omega) (by omega), inE rfl bP.1 (by omega), inE l2 (by omega) (by omega), fun v9 e9 v10 e10 => ?_⟩
    have f9 : v9.toInt = bsum b τ t m + (τ.1 35 l).toInt := (congrArg Int32.toInt e9).trans (aOkE i3 (hd l (by omega)) (by omega) (by omega))
    have f10 : v10.toInt = y.toInt + 1 := (congrArg Int32.toInt e10).trans (aOkE rfl o1 (by omega) (by omega))
    have c10 : v10.toNatClampNeg = m + 1 := by have := clE f10 (by omega); omega
    refine ih v9 v10 _ ⟨rfl, by omega, by omega, ?_⟩ (by (try dsimp only); omega)
    rw [c10, f9]
    show _ = bsum b τ t m + (τ.1 35 (τ.1 36 (tP b t m).toNatClampNeg).toNatClampNeg).toInt
    rw [cl]
/-- what the packing changes ahead of the laying -/
def FrZ (σ τ : St) : Prop := ∀ c i : Nat, ¬ ((27 ≤ c ∧ c ≤ 42) ∨ 203 ≤ c ∨ (c = 9 ∧ (i = 9 ∨ i = 10))) → τ.1 c i = σ.1 c i
set_option maxHeartbeats 2000000 in
theorem c_front (hN : 4294967400 ≤ N) {x1 : Int32} (hs : a.1 6 5 = b.1 0 36) (hs7 : a.1 7 4 = b.1 0 41) (hX : XPc a b) (hXX : XX a b) (hb : K2 σ0 b) (hT : TK b τ L n) (hE : EX b τ L) (hD : PD τ L n L 0) {Q : Int32 → St → Prop}
    (hQ : ∀ (x2 x3 : Int32) (υ : St), FrZ a υ → (∀ t : Nat, (t : Int) < (b.1 0 41).toInt → PT1 b υ t ∧ (υ.1 40 t).toInt = Bt b τ t) → Same b υ τ L n → SP υ L n L (x1 + 12) → x2.toInt = 12 + (τ.1 33 (n - 1)).toInt + Et b τ (b.1 0 41).toNatClampNeg → x3.toInt = sB b τ (b.1 0 41).toNatClampNeg → ((x1 ≤ (4096 - x2) → fX0_putNodes N x1 (fun σ_8 => fX0_size N (fun r_10 σ_9 => fX5_putTexts N (x1 + r_10) (fun σ_11 => fX5_keepBits N (fun σ_12 => fX8_dropIfTouched N x1 (x1 + x2) (fun σ_13 => Q x3 σ_13) σ_12) σ_11) σ_9) σ_8) υ) ∧ (¬ x1 ≤ (4096 - x2) → Q (-4) υ))) : fX5_pack N x1 Q a := by
  have z0 : (0 : Int32).toInt = 0 := by decide
  have o1 : (1 : Int32).toInt = 1 := by decide
  have o7 : (7 : Int32).toInt = 7 := by decide
  have o12 : (12 : Int32).toInt = 12 := by decide
  have b41 := K2.q_0_41 hb
  have e41 := clE (rfl : (b.1 0 41).toInt = (b.1 0 41).toInt) b41.1
  have t1 := hT.1
  have sr := hT.2.2.2.1 (n - 1) (by omega)
  have sr2 := hT.2.2.2.2.1
  unfold fX5_pack
  refine c_partTexts hN hs hs7 hX hXX hb.1 (fun s1 f1 pt1 u1' => ?_)
  refine c_grow (b := b) hN (by rw [f1 _ _ (by omega)]; exact hs) (by rw [f1 _ _ (by omega)]; exact hs7) (hX.ext (fun c i q => f1 c i (by omega)) (fun _ _ _ => rfl)) hb.1 u1' (fun s2 L' f2 ex => ?_)
  obtain ⟨sm2, eL⟩ := same_of ex hE hT
  refine c_spread hN (L := L) (n := n) (ab := fun i => (τ.1 32 i).toNatClampNeg) (by omega) (by omega) (by omega) sm2.2.2.2.2.2 sm2.2.2.2.2.1 (sm2.ct hT) (fun s3 f3 sp => ?_)
  have sm3 : Same b s3 τ L n := sm2.ext (fun c i q => f3 c i (by omega) (by omega)) (fun _ _ _ => rfl)
  have fz3 : FrZ a s3 := fun c i q => by rw [f3 _ _ (by omega) (by omega), f2 _ _ (by omega), f1 _ _ (by omega)]
  have dd : ∀ i : Nat, i < n → (s3.1 36 i).toInt = (τ.1 35 i).toInt := fun i hi => dep_eq sp sm3 hT hD (n - 1 - i) i (by omega)
  have pt3 : ∀ t : Nat, (t : Int) < (b.1 0 41).toInt → PT1 b s3 t := fun t ht => by
    have w := pt1 t ht
    exact ⟨by rw [f3 _ _ (by omega) (by omega), f2 _ _ (by omega)]; exact w.1, fun i hi => by rw [f3 _ _ (by omega) (by omega), f2 _ _ (by omega)]; exact w.2 i hi⟩
  have em : (s3.1 9 9 - 1).toInt = (n : Int) - 1 := sOkE sm3.2.2.2.2.2 o1 (by omega) (by omega)
  have cm : (s3.1 9 9 - 1).toNatClampNeg = n - 1 := by have := clE em (by omega); omega
  unfold fX0_size
  refine ⟨fun c => ?_, fun _ => ⟨inE em (by omega) (by omega), ?_⟩⟩
  · have := (leE sm3.2.2.2.2.2 z0).mp c
    omega
  rw [cm, sm3.1 _ (by omega)]
  have r5 : (12 + τ.1 33 (n - 1)).toInt = 12 + (τ.1 33 (n - 1)).toInt := aOkE o12 rfl (by omega) (by omega)
  refine lo3_i (fun (x2 x3 y : Int32) (υ : St) => 0 ≤ y.toInt ∧ y.toInt ≤ (b.1 0 41).toInt ∧ (∀ c i : Nat, c ≠ 40 → υ.1 c i = s3.1 c i) ∧ υ.2 = s3.2 ∧ (∀ t : Nat, (t : Int) < y.toInt → (υ.1 40 t).toInt = Bt b τ t) ∧ x2.toInt = 12 + (τ.1 33 (n - 1)).toInt + Et b τ y.toNatClampNeg ∧ x3.toInt = sB b τ y.toNatClampNeg) (fun _ _ y _ => ((b.1 0 41).toInt - y.toInt).toNat) ?_ N (12 + τ.1 33 (n - 1)) 0 0 s3 ⟨by omega, by omega, fun _ _ _ => rfl, rfl, fun t ht => absurd ht (by omega), by rw [r5]; show _ = _ + (0 : Int); omega, z0⟩ (by (try dsimp only); omega)
  intro rr x2 x3 y υ hI ih
  obtain ⟨i1, i2, i3, i3', i4, i5, i6⟩ := hI
  have ey := clE (rfl : y.toInt = y.toInt) i1
  have e74 : υ.1 7 4 = b.1 0 41 := by rw [i3 _ _ (by omega), fz3 _ _ (by omega)]; exact hs7
  have smυ : Same b υ τ L n := sm3.ext (fun c i q => i3 c i (by omega)) (fun _ _ _ => rfl)
  have spυ : SP υ L n L (x1 + 12) := by
    obtain ⟨⟨q1, q2, q3⟩, q4⟩ := sp
    refine ⟨⟨by rw [i3 _ _ (by omega)]; exact q1, by rw [i3 _ _ (by omega)]; exact q2, by rw [i3']; exact q3⟩, fun k z o k1 k2 k3 k4 k5 => ?_⟩
    rw [i3 _ _ (by omega)] at k4 k5
    obtain ⟨w1, w2, w3, w4, w5, w6⟩ := q4 k z o k1 k2 k3 k4 k5
    unfold SPk
    rw [i3 35 z (by omega), i3 35 k (by omega), i3 35 o (by omega), i3 33 z (by omega), i3 36 z (by omega), i3 36 k (by omega), i3 36 o (by omega), i3']
    exact ⟨w1, w2, w3, w4, w5, w6⟩
  have nE := Et_nn hb hT hD y.toNatClampNeg (by omega)
  have nS := sB_le hb hT hD y.toNatClampNeg (by omega)
  unfold fX5_pack_l29
  rw [e74]
  refine ⟨fun c => ?_, fun c => ?_⟩
  · have c' := (leE (rfl : (b.1 0 41).toInt = _) (rfl : y.toInt = _)).mp c
    have eT : y.toNatClampNeg = (b.1 0 41).toNatClampNeg := by omega
    rw [eT] at i5 i6
    refine hQ x2 x3 υ (fun c i q => by rw [i3 _ _ (by omega)]; exact fz3 c i q) (fun t ht => ⟨?_, i4 t (by omega)⟩) smυ spυ i5 i6
    have w := pt3 t ht
    exact ⟨by rw [i3 _ _ (by omega)]; exact w.1, fun i hi => by rw [i3 _ _ (by omega)]; exact w.2 i hi⟩
  · have c' := (notleE (rfl : (b.1 0 41).toInt = _) (rfl : y.toInt = _)).mp c
    have hin : vp_in y 20 := inE rfl (by omega) (by omega)
    have bB := Bt_le hb hT hD (t := y.toNatClampNeg) (by omega)
    have w := pt3 y.toNatClampNeg (by omega)
    refine c_count hN (t := y.toNatClampNeg) ey.symm (by omega) hb hT hD hE smυ (fun i hi => by rw [i3 _ _ (by omega)]; exact dd i hi) ⟨by rw [i3 _ _ (by omega)]; exact w.1, fun i hi => by rw [i3 _ _ (by omega)]; exact w.2 i hi⟩ (fun r er => ⟨hin, fun s17 e17 => ?_⟩)
    have v40 : s17.1 40 y.toNatClampNeg = r := by rw [e17, u1v]
    rw [v40]
    refine ⟨hin, fun v19 e19 => ⟨hin, fun v21 e21 v22 e22 => ?_⟩⟩
    have f19 : v19.toInt = sB b τ y.toNatClampNeg + Bt b τ y.toNatClampNeg := (congrArg Int32.toInt e19).trans (aOkE i6 er (by omega) (by omega))
    have g7 : (r + 7).toInt = Bt b τ y.toNatClampNeg + 7 := aOkE er o7 (by omega) (by omega)
    have g8 : ((r + 7) / 8).toInt = (Bt b τ y.toNatClampNeg + 7) / 8 := by rw [id8 (by omega), g7]
    have f21 : v21.toInt = 12 + (τ.1 33 (n - 1)).toInt + Et b τ y.toNatClampNeg + (1 + (Bt b τ y.toNatClampNeg + 7) / 8) := (congrArg Int32.toInt e21).trans (aOkE i5 (aOkE o1 g8 (by omega) (by omega)) (by omega) (by omega))
    have f22 : v22.toInt = y.toInt + 1 := (congrArg Int32.toInt e22).trans (aOkE rfl o1 (by omega) (by omega))
    have c22 : v22.toNatClampNeg = y.toNatClampNeg + 1 := by have := clE f22 (by omega); omega
    refine ih v21 v19 v22 s17 ⟨by omega, by omega, fun c i q => by rw [e17, u1e (fun z => q z.1)]; exact i3 c i q, by rw [e17]; exact i3', fun t ht => ?_, ?_, ?_⟩ (by (try dsimp only); omega)
    · by_cases e : t = y.toNatClampNeg
      · rw [e, v40]; exact er
      · rw [e17, u1e (by omega)]; exact i4 t (by omega)
    · rw [c22, f21]
      show _ = _ + (Et b τ y.toNatClampNeg + (1 + (Bt b τ y.toNatClampNeg + 7) / 8))
      omega
    · rw [c22, f19]
      rfl
end SIM56
