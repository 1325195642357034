section SIM41
theorem e_leaf {N : Nat} {x1 x2 x3 : Int32} {Q : St → Prop} {σ0 σ : St} (hk : (σ.1 0 50).toInt ≤ 121) (hσ : K2 σ0 σ) (hQ : ∀ τ : St, K2 σ0 τ → (∀ a b : Nat, ¬ (a = 27 ∨ a = 28 ∨ a = 29 ∨ a = 32 ∨ a = 33 ∨ (a = 0 ∧ b = 50)) → τ.1 a b = σ.1 a b) → (τ.1 0 50).toInt = (σ.1 0 50).toInt + 1 → τ.1 27 = upd (σ.1 27) (σ.1 0 50).toNatClampNeg x1 → τ.1 28 = upd (σ.1 28) (σ.1 0 50).toNatClampNeg x2 → τ.1 29 = upd (σ.1 29) (σ.1 0 50).toNatClampNeg 1 → τ.1 33 = upd (σ.1 33) (σ.1 0 50).toNatClampNeg x3 → τ.1 32 = upd (σ.1 32) (σ.1 0 50).toNatClampNeg (-1) → Q τ) : fX12_leaf N x1 x2 x3 Q σ := by
  have b := K2.q_0_50 hσ
  have hin : vp_in (σ.1 0 50) 122 := inE (rfl : (σ.1 0 50).toInt = (σ.1 0 50).toInt) (by omega) (by omega)
  unfold fX12_leaf
  refine ⟨hin, fun σ1 e1 => ?_⟩
  have q1 : σ1.1 0 50 = σ.1 0 50 := kq e1 (fun q => absurd q.1 (by decide))
  rw [q1]
  refine ⟨hin, fun σ2 e2 => ?_⟩
  have q2 : σ2.1 0 50 = σ.1 0 50 := (kq e2 (fun q => absurd q.1 (by decide))).trans q1
  rw [q2]
  refine ⟨hin, fun σ3 e3 => ?_⟩
  have q3 : σ3.1 0 50 = σ.1 0 50 := (kq e3 (fun q => absurd q.1 (by decide))).trans q2
  rw [q3]
  refine ⟨hin, fun σ4 e4 => ?_⟩
  have q4 : σ4.1 0 50 = σ.1 0 50 := (kq e4 (fun q => absurd q.1 (by decide))).trans q3
  rw [q4]
  refine ⟨hin, fun σ5 e5 => ?_⟩
  have q5 : σ5.1 0 50 = σ.1 0 50 := (kq e5 (fun q => absurd q.1 (by decide))).trans q4
  rw [q5]
  intro v ev σ6 e6
  have fv : v.toInt = (σ.1 0 50).toInt + 1 := (congrArg Int32.toInt ev).trans (aOkE rfl (show (1 : Int32).toInt = 1 from by decide) (by omega) (by omega))
  have hb : vp_nar .boolean 1 = 1 := by decide
  rw [hb] at e3
  have k1 : K2 σ0 σ1 := by rw [e1]; exact hσ.ua (Rg2.q_27 _ _) (by decide)
  have k2 : K2 σ0 σ2 := by rw [e2]; exact k1.ua (Rg2.q_28 _ _) (by decide)
  have k3 : K2 σ0 σ3 := by rw [e3]; exact k2.ua (Rg2.q_29 _ _) (by decide)
  have k4 : K2 σ0 σ4 := by rw [e4]; exact k3.ua (Rg2.q_33 _ _) (by decide)
  have k5 : K2 σ0 σ5 := by rw [e5]; exact k4.ua (Rg2.q_32 (by decide) (by decide)) (by decide)
  have k6 : K2 σ0 σ6 := by rw [e6]; exact k5.uf (Rg2.q_0_50 (by omega) (by omega)) (by decide)
  refine hQ σ6 k6 (fun a b q => ?_) ?_ ?_ ?_ ?_ ?_ ?_
  · rw [kq e6 (fun z => by omega), kq e5 (fun z => by omega), kq e4 (fun z => by omega), kq e3 (fun z => by omega), kq e2 (fun z => by omega), kq e1 (fun z => by omega)]
  · rw [e6, u1_at, up1]; exact fv
  · rw [e6, u1_ne (by decide), e5, u1_ne (by decide), e4, u1_ne (by decide), e3, u1_ne (by decide), e2, u1_ne (by decide), e1, u1_at]
  · rw [e6, u1_ne (by decide), e5, u1_ne (by decide), e4, u1_ne (by decide), e3, u1_ne (by decide), e2, u1_at, e1, u1_ne (by decide)]
  · rw [e6, u1_ne (by decide), e5, u1_ne (by decide), e4, u1_ne (by decide), e3, u1_at, e2, u1_ne (by decide), e1, u1_ne (by decide)]
  · rw [e6, u1_ne (by decide), e5, u1_ne (by decide), e4, u1_at, e3, u1_ne (by decide), e2, u1_ne (by decide), e1, u1_ne (by decide)]
  · rw [e6, u1_ne (by decide), e5, u1_at, e4, u1_ne (by decide), e3, u1_ne (by decide), e2, u1_ne (by decide), e1, u1_ne (by decide)]
set_option maxHeartbeats 2000000 in
theorem e_join155 {N : Nat} (hN : 4294967400 ≤ N) {Q : St → Prop} {σ0 τ0 : St} {L : Nat} (hL1 : 1 ≤ L) (hL2 : L ≤ 61) (h51 : (τ0.1 0 51).toInt = L) (h50 : (τ0.1 0 50).toInt = L) (k0 : K2 σ0 τ0) (hT : JT τ0 L L) {J0 : Jn} (hJ0 : JAg τ0 J0 L L)
    (hQ : ∀ τ : St, K2 σ0 τ → FrG τ0 τ L → (τ.1 0 50).toInt + 1 = 2 * (L : Int) → JT τ L (2 * L - 1) → JAg τ (jn L J0 (L - 1)) (2 * L - 1) L → Q τ) : lo1 (fX12_join_l155 N Q) N 1 τ0 := by
  have o1 : (1 : Int32).toInt = 1 := by decide
  have o9 : (9 : Int32).toInt = 9 := by decide
  have e0 : (τ0.1 0 50).toNatClampNeg = L := by have := clE h50 (by omega); omega
  refine lo1_i (fun (y : Int32) (τ : St) => K2 σ0 τ ∧ FrG τ0 τ L ∧ 1 ≤ y.toInt ∧ y.toInt ≤ L ∧ (τ.1 0 50).toInt = L + y.toInt - 1 ∧ JT τ L (τ.1 0 50).toNatClampNeg ∧ JAg τ (jn L J0 (y.toInt - 1).toNat) (τ.1 0 50).toNatClampNeg L) (fun y _ => ((L : Int) - y.toInt).toNat) ?_ N 1 τ0 ⟨k0, fun _ _ _ => rfl, by omega, by omega, by omega, by rw [e0]; exact hT, by rw [e0, o1]; exact hJ0⟩ (by (try dsimp only); omega)
  intro rr y τ hI ih
  obtain ⟨hτ, fr, i1, i2, i3, hJ, hE⟩ := hI
  have f51 : (τ.1 0 51).toInt = L := by rw [fr 0 51 (by omega)]; exact h51
  have en := clE (rfl : (τ.1 0 50).toInt = (τ.1 0 50).toInt) (by omega)
  obtain ⟨n, hn⟩ : ∃ n : Nat, (τ.1 0 50).toNatClampNeg = n := ⟨_, rfl⟩
  rw [hn] at hJ en hE
  unfold fX12_join_l155
  refine ⟨fun c => ?_, fun c => ?_⟩
  · have f := (leE f51 (rfl : y.toInt = y.toInt)).mp c
    exact hQ τ hτ fr (by omega) (by rw [show 2 * L - 1 = n by omega]; exact hJ) (by rw [show 2 * L - 1 = n by omega, show L - 1 = (y.toInt - 1).toNat by omega]; exact hE)
  · have f := (notleE f51 (rfl : y.toInt = y.toInt)).mp c
    have hc := hJ.1
    refine e_least hN hτ (by rw [hn]; omega) (fun ra τ1 a1 a2 a3 e1 la => ?_)
    have ea := clE (rfl : ra.toInt = ra.toInt) a1
    have hina : vp_in ra 122 := inE (rfl : ra.toInt = ra.toInt) (by omega) (by omega)
    obtain ⟨a, ha⟩ : ∃ a : Nat, ra.toNatClampNeg = a := ⟨_, rfl⟩
    rw [ha] at a3 ea e1
    have k1 : K2 σ0 τ1 := by rw [e1]; exact hτ.ua (Rg2.q_29 _ _) (by decide)
    have q1 : τ1.1 0 50 = τ.1 0 50 := kq e1 (fun z => absurd z.1 (by decide))
    have r1 : τ1.1 29 = upd (τ.1 29) a 0 := rw1 e1
    have hd := cnt_dn a3 n (by omega)
    refine e_least hN k1 (by rw [q1, hn, r1]; omega) (fun rb τ2 b1 b2 b3 e2 lb => ?_)
    rw [q1] at b2
    have eb := clE (rfl : rb.toInt = rb.toInt) b1
    have hinb : vp_in rb 122 := inE (rfl : rb.toInt = rb.toInt) (by omega) (by omega)
    obtain ⟨b, hb⟩ : ∃ b : Nat, rb.toNatClampNeg = b := ⟨_, rfl⟩
    rw [hb] at b3 eb e2
    rw [r1] at b3
    have hab : a ≠ b := by
      intro z
      rw [← z, up1] at b3
      exact b3 rfl
    rw [up2 (Ne.symm hab)] at b3
    have q2 : τ2.1 0 50 = τ.1 0 50 := (kq e2 (fun z => absurd z.1 (by decide))).trans q1
    have k2 : K2 σ0 τ2 := by rw [e2]; exact k1.ua (Rg2.q_29 _ _) (by decide)
    have hin50 : vp_in (τ.1 0 50) 122 := inE (rfl : (τ.1 0 50).toInt = (τ.1 0 50).toInt) (by omega) (by omega)
    rw [q2, hn]
    refine ⟨hin50, fun σ14 e14 => ?_⟩
    have q14 : σ14.1 0 50 = τ.1 0 50 := (kq e14 (fun z => absurd z.1 (by decide))).trans q2
    have k14 : K2 σ0 σ14 := by rw [e14]; exact k2.ua (Rg2.q_30 (by omega) (by omega)) (by decide)
    rw [q14, hn]
    refine ⟨hin50, fun σ16 e16 v17 ev17 => ?_⟩
    have q16 : σ16.1 0 50 = τ.1 0 50 := (kq e16 (fun z => absurd z.1 (by decide))).trans q14
    have k16 : K2 σ0 σ16 := by rw [e16]; exact k14.ua (Rg2.q_31 (by omega) (by omega)) (by decide)
    rw [q16] at ev17
    have f17 : v17.toInt = n := by rw [ev17]; omega
    rw [ha, hb]
    refine ⟨hina, fun σ19 e19 v20 ev20 => ?_⟩
    have q19 : σ19.1 0 50 = τ.1 0 50 := (kq e19 (fun z => absurd z.1 (by decide))).trans q16
    have k19 : K2 σ0 σ19 := by rw [e19]; exact k16.ua (Rg2.q_32 (by omega) (by omega)) (by decide)
    rw [q19, ← ev17] at ev20
    subst ev20
    refine ⟨hinb, fun σ22 e22 => ⟨hina, hinb, hina, hinb, ?_⟩⟩
    have q22 : σ22.1 0 50 = τ.1 0 50 := (kq e22 (fun z => absurd z.1 (by decide))).trans q19
    have k22 : K2 σ0 σ22 := by rw [e22]; exact k19.ua (Rg2.q_32 (by omega) (by omega)) (by decide)
    have r33 : σ22.1 33 = τ.1 33 := by rw [rwn e22 (by decide), rwn e19 (by decide), rwn e16 (by decide), rwn e14 (by decide), rwn e2 (by decide), rwn e1 (by decide)]
    have r29 : σ22.1 29 = upd (upd (τ.1 29) a 0) b 0 := by rw [rwn e22 (by decide), rwn e19 (by decide), rwn e16 (by decide), rwn e14 (by decide), rw1 e2, r1]
    have r30 : σ22.1 30 = upd (τ.1 30) n ra := by rw [rwn e22 (by decide), rwn e19 (by decide), rwn e16 (by decide), rw1 e14, rwn e2 (by decide), rwn e1 (by decide)]
    have r31 : σ22.1 31 = upd (τ.1 31) n rb := by rw [rwn e22 (by decide), rwn e19 (by decide), rw1 e16, rwn e14 (by decide), rwn e2 (by decide), rwn e1 (by decide)]
    have r32 : σ22.1 32 = upd (upd (τ.1 32) a v20) b v20 := by rw [rw1 e22, rw1 e19, rwn e16 (by decide), rwn e14 (by decide), rwn e2 (by decide), rwn e1 (by decide)]
    rw [r33]
    have sa := wsum_ge (s := τ.1 33) a3 (show a < n by omega) (fun j hj => by have := hJ.2.2.2.1 j hj; omega)
    have sb := wsum_ge (s := τ.1 33) b3 (show b < n by omega) (fun j hj => by have := hJ.2.2.2.1 j hj; omega)
    have ca := hJ.2.2.2.1 a (by omega)
    have cb := hJ.2.2.2.1 b (by omega)
    have cw := hJ.2.2.2.2.1
    have es : ((9 + τ.1 33 a) + τ.1 33 b).toInt = 9 + (τ.1 33 a).toInt + (τ.1 33 b).toInt := aOkE (aOkE o9 rfl (by omega) (by omega)) rfl (by omega) (by omega)
    refine e_leaf (by rw [q22]; omega) k22 (fun υ kυ fυ f50 f27 f28 f29 f33 f32 => ?_)
    rw [q22] at f50
    rw [q22, hn] at f27 f28 f29 f33 f32
    intro v ev
    have fv : v.toInt = y.toInt + 1 := (congrArg Int32.toInt ev).trans (aOkE rfl o1 (by omega) (by omega))
    have en' : (υ.1 0 50).toNatClampNeg = n + 1 := by have := clE f50 (by omega); omega
    have hJ' : JT υ L (n + 1) := by
      refine jt_step (τ := τ) (a := a) (b := b) (ra := ra) (rb := rb) (vn := v20) hJ (by omega) (by omega) (by omega) hab a3 b3 (by omega) (by omega) f17 es ?_ ?_ ?_ ?_ ?_
      · rw [f29, r29]
      · rw [show υ.1 30 = σ22.1 30 from funext (fun j => fυ 30 j (by omega)), r30]
      · rw [show υ.1 31 = σ22.1 31 from funext (fun j => fυ 31 j (by omega)), r31]
      · rw [f32, r32]
      · rw [f33, r33]
    have frυ : FrG τ0 υ L := by
      intro x z q
      have s22 : σ22.1 x z = τ.1 x z := by
        rw [kq e22 (fun w => by omega), kq e19 (fun w => by omega), kq e16 (fun w => by omega), kq e14 (fun w => by omega), kq e2 (fun w => by omega), kq e1 (fun w => by omega)]
      rw [← fr x z q, ← s22]
      by_cases x27 : x = 27
      · subst x27
        rw [f27, up2 (by omega)]
      · by_cases x33 : x = 33
        · subst x33
          rw [f33, up2 (by omega)]
        · exact fυ x z (by omega)
    have r28 : σ22.1 28 = τ.1 28 := by rw [rwn e22 (by decide), rwn e19 (by decide), rwn e16 (by decide), rwn e14 (by decide), rwn e2 (by decide), rwn e1 (by decide)]
    have lsa : ra = Jn.a n (jn L J0 (y.toInt - 1).toNat) := by
      rw [la, hn]
      exact ls_ext n (by omega) (fun i hi => ⟨by rw [(hE i hi).2.1], (hE i hi).1⟩)
    have lsb : rb = Jn.b n (jn L J0 (y.toInt - 1).toNat) := by
      rw [lb, q1, hn, r1, show τ1.1 28 = τ.1 28 from rwn e1 (by decide)]
      refine ls_ext n (by omega) (fun i hi => ⟨?_, (hE i hi).1⟩)
      rw [← lsa, ha]
      by_cases ei : i = a
      · rw [ei, up1, up1]
      · rw [up2 ei, up2 ei, (hE i hi).2.1]
    have hE' : JAg υ (jn L J0 (v.toInt - 1).toNat) (n + 1) L := by
      rw [show (v.toInt - 1).toNat = (y.toInt - 1).toNat + 1 by omega]
      show JAg υ (jst (L + (y.toInt - 1).toNat) (jn L J0 (y.toInt - 1).toNat)) (n + 1) L
      rw [show L + (y.toInt - 1).toNat = n by omega]
      intro i hi
      unfold jst
      dsimp only
      rw [← lsa, ← lsb, ha, hb, f28, f29, f33, r28, r29, r33, show υ.1 30 = σ22.1 30 from funext (fun j => fυ 30 j (by omega)), r30, show υ.1 31 = σ22.1 31 from funext (fun j => fυ 31 j (by omega)), r31]
      by_cases ei : i = n
      · subst ei
        have ea' := hE a (by omega)
        have eb' := hE b (by omega)
        refine ⟨?_, ?_, ?_, fun _ => ⟨?_, ?_⟩⟩
        · rw [up1, up1, ea'.1, eb'.1]
        · rw [up1, up1]
        · rw [up1, up1, ea'.2.2.1, eb'.2.2.1]
        · rw [up1, up1]
        · rw [up1, up1]
      · have ei' := hE i (by omega)
        refine ⟨?_, ?_, ?_, fun hL => ⟨?_, ?_⟩⟩
        · rw [up2 ei, up2 ei]; exact ei'.1
        · rw [up2 ei, up2 ei]
          by_cases eb2 : i = b
          · rw [eb2, up1, up1]
          · rw [up2 eb2, up2 eb2]
            by_cases ea2 : i = a
            · rw [ea2, up1, up1]
            · rw [up2 ea2, up2 ea2]; exact ei'.2.1
        · rw [up2 ei, up2 ei]; exact ei'.2.2.1
        · rw [up2 ei, up2 ei]; exact (ei'.2.2.2 hL).1
        · rw [up2 ei, up2 ei]; exact (ei'.2.2.2 hL).2
    exact ih v υ ⟨kυ, frυ, by omega, by omega, by omega, by rw [en']; exact hJ', by rw [en']; exact hE'⟩ (by (try dsimp only); omega)
end SIM41
