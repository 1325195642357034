section CACHE16
variable {a b cc σ0 : St} {N : Nat} {lo hi : Nat}
/-- the longs stay in the parting -/
theorem mk2_parted {x1 x2 : Int32} {σ τ0 : St} (h : σ.2 = τ0.2) : Mt (fun τ => τ.2 = τ0.2) (fun Q => fX12_parted N x1 x2 Q σ) := by
  have l251 : ∀ (u w : Int32) (σ : St), σ.2 = τ0.2 → Mt (fun τ => τ.2 = τ0.2) (fun Q => lo2 (fX12_parted_l251 N Q) N u w σ) := fun u w σ hF => Mt.lp2 (body := fun Q => fX12_parted_l251 N Q) (fun rc hr x y σ hF => Mt.nd (Mt.br (Mt.nd (Mt.ret hF)) (Mt.nd (Mt.al (Mt.nd (Mt.al (Mt.nd (Mt.nd (Mt.al (Mt.al (hr _ _ _ hF))))))))))) N u w σ hF
  unfold fX12_parted
  refine Mt.nd (Mt.al (Mt.al ?_))
  refine Mt.lp1 (body := fun Q => fX12_parted_l11 N x1 x2 Q) (fun r11 h11 x3 σ hF => ?_) N _ _ h
  refine Mt.br (Mt.nd (Mt.br (Mt.ret hF) (l251 _ _ _ hF))) (Mt.nd (Mt.al ?_))
  refine Mt.lp1 (body := fun Q => fX12_parted_l27 N (r11 Q) x1 x2 x3 Q) (fun r27 h27 x4 σ hF => ?_) N _ _ hF
  have j220 : ∀ (σ : St), σ.2 = τ0.2 → Mt (fun τ => τ.2 = τ0.2) (fun Q => fX12_parted_j220 N (r27 Q) (r11 Q) x1 x2 x3 x4 Q σ) := fun σ hF => Mt.al (h27 _ _ hF)
  have j204 : ∀ (x7 : Int32) (σ : St), σ.2 = τ0.2 → Mt (fun τ => τ.2 = τ0.2) (fun Q => fX12_parted_j204 N (r27 Q) (r11 Q) x1 x2 x3 x4 x7 Q σ) := fun x7 σ hF => Mt.nd (Mt.al (Mt.nd (Mt.al (j220 _ hF))))
  have j148 : ∀ (x5 x6 : Int32) (σ : St), σ.2 = τ0.2 → Mt (fun τ => τ.2 = τ0.2) (fun Q => fX12_parted_j148 N (r27 Q) (r11 Q) x1 x2 x3 x4 x5 x6 Q σ) := fun x5 x6 σ hF => Mt.br (j220 _ hF) (Mt.nd (Mt.al (Mt.nd (Mt.br (j204 _ _ hF) (Mt.nd (Mt.br (Mt.nd (Mt.nd (Mt.br (j220 _ hF) (j204 _ _ hF)))) (j220 _ hF)))))))
  have j73 : ∀ (x5 t0 : Int32) (σ : St), σ.2 = τ0.2 → Mt (fun τ => τ.2 = τ0.2) (fun Q => fX12_parted_j73 N (r27 Q) (r11 Q) x1 x2 x3 x4 x5 t0 Q σ) := by
    intro x5 t0 σ hF
    refine Mt.lp2 (body := fun Q => fX12_parted_l78 N (r27 Q) (r11 Q) x1 x2 x3 x4 x5 Q) (fun r78 h78 x6 x7 σ hF => ?_) N _ _ σ hF
    have j140 : ∀ (t0 : Int32) (σ : St), σ.2 = τ0.2 → Mt (fun τ => τ.2 = τ0.2) (fun Q => fX12_parted_j140 N (r78 Q) (r27 Q) (r11 Q) x1 x2 x3 x4 x5 x7 t0 Q σ) := fun t0 σ hF => Mt.al (h78 _ _ _ hF)
    have j120 : ∀ (t0 : Int32) (σ : St), σ.2 = τ0.2 → Mt (fun τ => τ.2 = τ0.2) (fun Q => fX12_parted_j120 N (r78 Q) (r27 Q) (r11 Q) x1 x2 x3 x4 x5 x7 t0 Q σ) := fun t0 σ hF => Mt.ca (mk_signOf hF) (fun r τ hτ => Mt.br (j140 _ _ hτ) (j140 _ _ hτ))
    exact Mt.br (j148 _ _ _ hF) (Mt.br (j148 _ _ _ hF) (Mt.br (Mt.nd (j120 _ _ hF)) (Mt.nd (j120 _ _ hF))))
  exact Mt.br (Mt.al (h11 _ _ hF)) (Mt.nd (Mt.al (Mt.br (j73 _ _ _ hF) (Mt.nd (Mt.br (j73 _ _ _ hF) (j73 _ _ _ hF))))))
/-- the pieces' bits: nothing else is changed -/
theorem e_pieceBitsL (hN : 4294967400 ≤ N) {x5 : Int32} {Q : Int32 → St → Prop} {τ : St} (hτ : K2 σ0 τ) (hQ : ∀ υ : St, (∀ c i : Nat, c ≠ 19 → υ.1 c i = τ.1 c i) → υ.2 = τ.2 → Q x5 υ) : lo1 (fX12_tree_l427 N x5 Q) N 0 τ := by
  have z0 : (0 : Int32).toInt = 0 := by decide
  have o1 : (1 : Int32).toInt = 1 := by decide
  have b36 := K2.g_0_36 hτ
  refine lo1_i (fun (y : Int32) (υ : St) => K2 σ0 υ ∧ 0 ≤ y.toInt ∧ (∀ c i : Nat, c ≠ 19 → υ.1 c i = τ.1 c i) ∧ υ.2 = τ.2) (fun y _ => (2147483648 - y.toInt).toNat) ?_ N 0 τ ⟨hτ, by omega, fun _ _ _ => rfl, rfl⟩ (by (try dsimp only); omega)
  intro rr y υ hI ih
  obtain ⟨hυ, i1, i3, i4⟩ := hI
  unfold fX12_tree_l427
  rw [i3 0 36 (by decide)]
  refine ⟨fun c => hQ υ i3 i4, fun c => ?_⟩
  have c' := (notleE (rfl : (τ.1 0 36).toInt = _) (rfl : y.toInt = y.toInt)).mp c
  have hin : vp_in y 60 := inE (rfl : y.toInt = y.toInt) (by omega) (by omega)
  have go : ∀ t0 : Int32, fX12_tree_j474 N rr x5 y t0 y Q υ := by
    intro t0
    refine ⟨hin, fun σ28 e28 v29 ev29 => ?_⟩
    have f29 : v29.toInt = y.toInt + 1 := (congrArg Int32.toInt ev29).trans (aOkE rfl o1 (by omega) (by omega))
    exact ih v29 σ28 ⟨by rw [e28]; exact hυ.ua (by trivial) (by decide), by omega, fun c i q => by rw [e28, u1e (fun z => q z.1)]; exact i3 c i q, by rw [e28]; exact i4⟩ (by (try dsimp only); omega)
  have bl := K2.q_36 hυ y.toNatClampNeg
  exact ⟨hin, fun d => ⟨hin, go _⟩, fun d => ⟨hin, inE (rfl : (υ.1 36 y.toNatClampNeg).toInt = _) (by omega) (by omega), go _⟩⟩
set_option maxHeartbeats 2000000 in
/-- all texts: the reference -/
theorem v_texts (hN : 4294967400 ≤ N) {x5 : Int32} {A0 : Nat} {base : Int} {Q : Int32 → St → Prop} {τ υ0 : St} {L n : Nat} {D : Nat → Prop} (hlo : lo ≤ A0) (hhi : (A0 : Int) + Et b τ (b.1 0 41).toNatClampNeg = hi) (h4096 : hi ≤ 4096) (hcc : 0 ≤ (cc.1 0 7).toInt) (hzz : 0 < (cc.1 0 7).toInt → 0 ≤ (cc.2 0 8).toInt ∧ (cc.2 0 8).toInt ≤ 100000) (hb : K2 σ0 b) (hυ0 : K2 σ0 υ0) (f0 : FrC τ υ0) (pτ : Kp b τ) (hT : TK b τ L n) (hD : PD τ L n L base) (hA2 : (A0 : Int) + Et b τ (b.1 0 41).toNatClampNeg ≤ 4096) (h63 : (υ0.1 0 63).toInt = A0) (hV : Vt cc lo hi υ0 D) (hQ : ∀ υ : St, Vt cc lo hi υ (iv D A0 hi) → Q x5 υ) : lo1 (fX12_tree_l249 N x5 Q) N 0 υ0 := by
  have z0 : (0 : Int32).toInt = 0 := by decide
  have zc : (0 : Int32).toNatClampNeg = 0 := by decide
  have o1 : (1 : Int32).toInt = 1 := by decide
  have b41 := K2.q_0_41 hb
  have e41 := clE (rfl : (b.1 0 41).toInt = (b.1 0 41).toInt) b41.1
  have hin0 : vp_in 0 122 := inE z0 (by omega) (by omega)
  refine lo1_i (fun (y : Int32) (υ : St) => K2 σ0 υ ∧ FrC τ υ ∧ 0 ≤ y.toInt ∧ y.toInt ≤ (b.1 0 41).toInt ∧ (υ.1 0 63).toInt = txA b τ A0 y.toNatClampNeg ∧ Vt cc lo hi υ (iv D A0 (txA b τ A0 y.toNatClampNeg))) (fun y _ => (2147483648 - y.toInt).toNat) ?_ N 0 υ0 ⟨hυ0, f0, by omega, by omega, h63, hV.ext rfl (fun _ _ => rfl) (fun x d => by rcases d with d | d; exact d; have d2 : (x : Int) < (A0 : Int) := d.2; omega)⟩ (by (try dsimp only); omega)
  intro rr y υ hI ih
  obtain ⟨hυ, fυ, i1, i2, i3, i4⟩ := hI
  have pυ : Kp b υ := FrC.kp pτ fυ
  have ey := clE (rfl : y.toInt = y.toInt) i1
  obtain ⟨t, ht⟩ : ∃ t : Nat, y.toNatClampNeg = t := ⟨_, rfl⟩
  have q41 : υ.1 0 41 = b.1 0 41 := pυ 0 41 (by omega)
  unfold fX12_tree_l249
  rw [q41]
  refine ⟨fun c => ⟨hin0, fun v21 ev21 σ22 e22 => ?_⟩, fun c => ?_⟩
  · have c' := (leE (rfl : (b.1 0 41).toInt = (b.1 0 41).toInt) (rfl : y.toInt = y.toInt)).mp c
    have eT : y.toNatClampNeg = (b.1 0 41).toNatClampNeg := by omega
    rw [eT] at i4
    have aE := txA_Et (A0 := A0) hb hT hD (b.1 0 41).toNatClampNeg (by omega)
    have g : ∀ c i : Nat, ¬ (c = 0 ∧ i = 46) → σ22.1 c i = υ.1 c i := fun c i q => by rw [e22, u1e q]
    refine e_pieceBitsL hN (by rw [e22]; exact hυ.uf (Rg2.q_0_46 _) (by decide)) (fun ω f1 f2 => hQ ω (i4.ext (f2.trans (by rw [e22]; rfl)) (fun i q => (f1 0 i (by decide)).trans (g 0 i (by omega))) (fun x d => ?_) (funext (fun j => (f1 1 j (by decide)).trans (g 1 j (by omega))))))
    rcases d with d | d
    · exact Or.inl d
    · exact Or.inr ⟨d.1, by have := d.2; omega⟩
  · have c' := (notleE (rfl : (b.1 0 41).toInt = (b.1 0 41).toInt) (rfl : y.toInt = y.toInt)).mp c
    have hin : vp_in y 20 := inE (rfl : y.toInt = y.toInt) (by omega) (by omega)
    refine ⟨hin, mk2_parted (σ := υ) (τ0 := υ) rfl (fun rP φ => rP = tR b y.toNatClampNeg ∧ K2 σ0 φ ∧ FrP υ φ ∧ ∀ k : Nat, (k : Int) < (tR b y.toNatClampNeg).toInt → φ.1 26 k = tP b y.toNatClampNeg k) _ (fun rP φ fφ2 hh => ?_) (tX12_parted hN i1 (by omega) hυ pυ (fun φ kφ fφ hp => ⟨rfl, kφ, fφ, hp⟩))⟩
    obtain ⟨erP, kφ, fφ, hp⟩ := hh
    rw [erP]
    rw [ht] at ey i3 i4 hp
    have bE := Et_mono hb hT hD (t + 1) ((b.1 0 41).toNatClampNeg - (t + 1)) (by omega)
    rw [show t + 1 + ((b.1 0 41).toNatClampNeg - (t + 1)) = (b.1 0 41).toNatClampNeg by omega] at bE
    have bE' : Et b τ t + (1 + (Bt b τ t + 7) / 8) ≤ Et b τ (b.1 0 41).toNatClampNeg := bE
    have nE := (Et_nn hb hT hD t (by omega)).1
    have nB := (Bt_le hb hT hD (t := t) (by omega)).1
    have aE := txA_Et (A0 := A0) hb hT hD t (by omega)
    have nN := txN_Bt hb hT hD (t := t) (by omega)
    have hA : txA b τ A0 t + 1 + txB b τ t ≤ 4096 := by unfold txB; omega
    have eB : txB b τ t = (txN b τ t + 7) / 8 := rfl
    have t1 := hT.1
    have bd0 := (PD.bd hT hD (i := 0) (by omega)).2.2.1
    have g63 : φ.1 0 63 = υ.1 0 63 := fφ 0 63 (by omega)
    rw [ht]
    intro v26 ev26
    refine ⟨hin, fun σ28 e28 => ⟨hin0, fun v30 ev30 => ⟨hin, fun σ32 e32 => ?_⟩⟩⟩
    have k28 : K2 σ0 σ28 := by rw [e28]; exact kφ.ua (Rg2.q_22 _ _) (by decide)
    have k32 : K2 σ0 σ32 := by rw [e32]; exact k28.ua (Rg2.q_23 _ _) (by decide)
    have f32 : FrC τ σ32 := ((fυ.tr (FrC.ofP fφ)).u e28 (by omega)).u e32 (by omega)
    have s63 : σ32.1 0 63 = υ.1 0 63 := by rw [kq e32 (by omega), kq e28 (by omega)]; exact g63
    have s26 : σ32.1 26 = φ.1 26 := by rw [rwn e32 (by decide), rwn e28 (by decide)]
    have v30E : v30 = τ.1 35 0 := by rw [ev30, zc, kq e28 (by omega), fφ 35 0 (by omega), fυ 35 0 (by omega)]
    rw [s63]
    refine v_put (j := txA b τ A0 t) i3 (by omega) (by omega) h4096 hcc hzz (i4.ext (by rw [e32, e28]; exact fφ2) (fun i q => by rw [e32, u1e (by omega), e28, u1e (by omega), fφ 0 i (by omega)]) (fun _ d => d) (funext (fun j => by rw [e32, u1e (by omega), e28, u1e (by omega), fφ 1 j (by omega)]))) k32 (fun σ33 k33 f33 m33 => ?_)
    intro v34 ev34 σ35 e35 σ36 e36
    have u63 : σ33.1 0 63 = υ.1 0 63 := (f33 0 63 (by omega)).trans s63
    rw [u63] at ev34
    have f34 : v34.toInt = (υ.1 0 63).toInt + 1 := (congrArg Int32.toInt ev34).trans (aOkE rfl o1 (by omega) (by omega))
    have k35 : K2 σ0 σ35 := by rw [e35]; exact k33.uf (Rg2.q_0_63 _) (by decide)
    have k36 : K2 σ0 σ36 := by rw [e36]; exact k35.uf (Rg2.q_0_64 _) (by decide)
    have w63 : σ36.1 0 63 = v34 := by rw [kq e36 (by omega), rw1 e35, up1]
    have w64 : σ36.1 0 64 = 0 := by rw [rw1 e36, up1]
    have w26 : σ36.1 26 = φ.1 26 := by rw [rwn e36 (by decide), rwn e35 (by decide), show σ33.1 26 = σ32.1 26 from funext (fun j => f33 26 j (by omega)), s26]
    have g36 : ∀ c i : Nat, c = 22 ∨ c = 23 → σ36.1 c i = σ32.1 c i := fun c i q => by rw [e36, u1e (by omega), e35, u1e (by omega)]; exact f33 c i (by omega)
    refine v_text1 hN (t := t) (A := txA b τ A0 t) (by omega) (by omega) h4096 hcc hzz ey.symm hb hT hD (by omega) hA k36 (((f32.tr (FrC.ofT f33)).u e35 (by omega)).u e36 (by omega)) (fun k hk => by rw [w26]; exact hp k hk) ?_ ?_ (m33.ext (by rw [e36, e35]; rfl) (fun i q => by rw [e36, u1e (by omega), e35, u1e (by omega)]) (fun _ d => d) ((rwn e36 (by decide)).trans (rwn e35 (by decide)))) (fun v ψ fv kψ fψ eψ mψ n23 o23 o22 => ?_)
    · unfold BN
      rw [w63, w64, z0]
      omega
    · rw [g36 23 t (by omega), e32, u1v, v30E]
      unfold dpN
      omega
    · have ev : v.toNatClampNeg = t + 1 := by have := clE fv (by omega); omega
      refine ih v ψ ⟨kψ, fψ, by omega, by omega, by rw [ev]; exact eψ, mψ.ext rfl (fun _ _ => rfl) (fun x d => ?_)⟩ (by (try dsimp only); omega)
      rw [ev] at d
      rcases d with d | d
      · exact Or.inl (Or.inl d)
      · have d2 : (x : Int) < ((txA b τ A0 t + (1 + txB b τ t) : Nat) : Int) := d.2
        by_cases w : x < txA b τ A0 t
        · exact Or.inl (Or.inr ⟨d.1, by omega⟩)
        · exact Or.inr ⟨by omega, by omega⟩
set_option maxHeartbeats 2000000 in
/-- the knots, then the texts: the reference -/
theorem v_lays (hN : 4294967400 ≤ N) {x1 x2 x5 : Int32} {Q : Int32 → St → Prop} {τ υ0 : St} {L n A : Nat} (hlo : lo = A) (hhi : (A : Int) + 12 + (τ.1 33 (n - 1)).toInt + Et b τ (b.1 0 41).toNatClampNeg = hi) (h4096 : hi ≤ 4096) (hcc : 0 ≤ (cc.1 0 7).toInt) (hzz : 0 < (cc.1 0 7).toInt → 0 ≤ (cc.2 0 8).toInt ∧ (cc.2 0 8).toInt ≤ 100000) (hb : K2 σ0 b) (hυ0 : K2 σ0 υ0) (f0 : FrC τ υ0) (pτ : Kp b τ) (hT : TK b τ L n) (h1 : x1.toInt = A) (h2 : x2.toInt + 1 = n) (hD : PD τ L n L ((A : Int) + 12)) (hE : (A : Int) + 12 + (τ.1 33 (n - 1)).toInt + Et b τ (b.1 0 41).toNatClampNeg ≤ 4096) (hV : Vt cc lo hi υ0 (fun x => lo ≤ x ∧ x < lo + 12)) (hQ : ∀ υ : St, Vt cc lo hi υ (fun x => lo ≤ x ∧ x < hi) → Q x5 υ) : lo1 (fX12_tree_l210 N x1 x2 x5 Q) N 0 υ0 := by
  have z0 : (0 : Int32).toInt = 0 := by decide
  have o1 : (1 : Int32).toInt = 1 := by decide
  have o12 : (12 : Int32).toInt = 12 := by decide
  have b41 := K2.q_0_41 hb
  have e41 := clE (rfl : (b.1 0 41).toInt = (b.1 0 41).toInt) b41.1
  obtain ⟨⟨t1, t2, t3, t4, t5⟩, tk, ta, ts, tr, tl, _⟩ := id hT
  have nE := (Et_nn hb hT hD (b.1 0 41).toNatClampNeg (by omega)).1
  have sr := ts (n - 1) (by omega)
  have c33 := clE (rfl : (τ.1 33 (n - 1)).toInt = _) (by omega)
  have e2 : x2.toNatClampNeg = n - 1 := by have := clE (rfl : x2.toInt = x2.toInt) (by omega); omega
  refine lo1_i (fun (y : Int32) (υ : St) => K2 σ0 υ ∧ FrC τ υ ∧ 0 ≤ y.toInt ∧ y.toInt ≤ n ∧ Vt cc lo hi υ (fun x => (lo ≤ x ∧ x < lo + 12) ∨ ∃ j : Nat, (j : Int) < y.toInt ∧ pl τ j ≤ x ∧ (x : Int) < (pl τ j : Int) + own τ L j)) (fun y _ => (2147483648 - y.toInt).toNat) ?_ N 0 υ0 ⟨hυ0, f0, by omega, by omega, hV.ext rfl (fun _ _ => rfl) (fun x d => by rcases d with d | ⟨j, j1, _⟩; exact d; omega)⟩ (by (try dsimp only); omega)
  intro rr y υ hI ih
  obtain ⟨hυ, fυ, i1, i2, i3⟩ := hI
  have ey := clE (rfl : y.toInt = y.toInt) i1
  have q50 : (υ.1 0 50).toInt = n := by rw [fυ 0 50 (by omega)]; exact t2
  unfold fX12_tree_l210
  refine ⟨fun c => ?_, fun c => ?_⟩
  · have c' := (leE q50 (rfl : y.toInt = y.toInt)).mp c
    have yn : y.toInt = n := by omega
    rw [yn] at i3
    refine ⟨inE (rfl : x2.toInt = x2.toInt) (by omega) (by omega), fun v17 ev17 σ18 e18 => ?_⟩
    rw [e2, fυ 33 _ (by omega)] at ev17
    have f17 : v17.toInt = (A : Int) + 12 + (τ.1 33 (n - 1)).toInt := (congrArg Int32.toInt ev17).trans (aOkE (aOkE h1 o12 (by omega) (by omega)) rfl (by omega) (by omega))
    refine v_texts hN (A0 := A + 12 + (τ.1 33 (n - 1)).toNatClampNeg) (τ := τ) (D := fun x => lo ≤ x ∧ x < A + 12 + (τ.1 33 (n - 1)).toNatClampNeg) (by omega) (by omega) h4096 hcc hzz hb (by rw [e18]; exact hυ.uf (Rg2.q_0_63 _) (by decide)) (fυ.u e18 (by omega)) pτ hT hD (by omega) (by rw [rw1 e18, up1, f17]; omega) (i3.ext (by rw [e18]; rfl) (fun i q => by rw [e18, u1e (by omega)]) (fun x d => ?_) (rwn e18 (by decide))) (fun υ v => hQ υ (v.ext rfl (fun _ _ => rfl) (fun x d => ?_)))
    · by_cases w : x < lo + 12
      · exact Or.inl ⟨d.1, w⟩
      · obtain ⟨j, j1, j2, j3⟩ := cover hT hD (n - 1) (by omega) x (by rw [hD.1]; omega) (by rw [hD.1]; have := d.2; omega)
        have bdj := PD.bd hT hD j1
        have cj := clE (rfl : (τ.1 34 j).toInt = _) (by omega)
        exact Or.inr ⟨j, by omega, by unfold pl; omega, by unfold pl; omega⟩
    · by_cases w : x < A + 12 + (τ.1 33 (n - 1)).toNatClampNeg
      · exact Or.inl ⟨d.1, w⟩
      · exact Or.inr ⟨by omega, by have := d.2; omega⟩
  · have c' := (notleE q50 (rfl : y.toInt = y.toInt)).mp c
    refine v_node hN (base := (A : Int) + 12) (by omega) (by omega) h4096 hcc hzz hb hυ fυ pτ hT hD ey.symm (by omega) i3 (fun ψ kψ fψ mψ => ?_)
    intro v20 ev20
    have f20 : v20.toInt = y.toInt + 1 := (congrArg Int32.toInt ev20).trans (aOkE rfl o1 (by omega) (by omega))
    have c20 : v20.toNatClampNeg = y.toNatClampNeg + 1 := by have := clE f20 (by omega); omega
    refine ih v20 ψ ⟨kψ, fυ.tr (FrC.ofT fψ), by omega, by omega, mψ.ext rfl (fun _ _ => rfl) (fun x d => ?_)⟩ (by (try dsimp only); omega)
    rcases d with d | ⟨j, j1, j2, j3⟩
    · exact Or.inl (Or.inl d)
    · by_cases w : j = y.toNatClampNeg
      · rw [w] at j2 j3
        exact Or.inr ⟨j2, j3⟩
      · exact Or.inl (Or.inr ⟨j, by omega, j2, j3⟩)
end CACHE16
