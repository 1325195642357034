section SIM58
variable {N : Nat} {a b : St} {x1 : Int32}
set_option maxHeartbeats 4000000 in
theorem p_tree (hN : 4294967400 ≤ N) (h : Rbt Xr a b) : fX11_tree N x1 (fun r1 τ1 => fX12_tree N x1 (fun r2 τ2 => r1 = r2 ∧ Rbt Xr τ1 τ2) b) a := by
  have z0 : (0 : Int32).toInt = 0 := by decide
  have o12 : (12 : Int32).toInt = 12 := by decide
  have zm : (4096 : Int32).toInt = 4096 := by decide
  have hG := h.2.2.2.2.1
  have hb : K2 b b := K2.self hG
  have hX := h.2.2.2.1
  have e74 : a.1 7 4 = b.1 0 41 := h.1.at 7 4 0 41 (by decide)
  have e65 : a.1 6 5 = b.1 0 36 := h.1.at 6 5 0 36 (by decide)
  have b41 := K2.q_0_41 hb
  have b36 := K2.g_0_36 hb
  have c41 := clE (rfl : (b.1 0 41).toInt = (b.1 0 41).toInt) b41.1
  obtain ⟨r, υ, hTR, run⟩ := dt_tree (N := N) (b := b) (x1 := x1) (TR b x1) (e_tree hN hb)
  unfold fX11_tree
  rw [e74]
  rcases hTR with ⟨q1, q2, q3⟩ | ⟨q1, q2, q3, q4⟩ | ⟨q1, q2, τ, L, n, fJ, pτ, hT, hE, hD, kυ, main⟩
  · refine ⟨fun c => ?_, fun _ => run _ ⟨q2.symm, by rw [q3]; exact h⟩⟩
    have := (leE z0 (rfl : x1.toInt = _)).mp c
    omega
  · exact ⟨fun _ => ⟨fun _ => run _ ⟨q3.symm, by rw [q4]; exact h⟩, fun w => absurd q2 w⟩, fun c => absurd ((leE z0 rfl).mpr q1) c⟩
  refine ⟨fun _ => ⟨fun w => absurd w q2, fun _ => ?_⟩, fun c => absurd ((leE z0 rfl).mpr q1) c⟩
  have t1 := hT.1
  have sr := hT.2.2.2.1 (n - 1) (by omega)
  have sr2 := hT.2.2.2.2.1
  have nE := Et_nn hb hT hD (b.1 0 41).toNatClampNeg (by omega)
  have bx := tB x1
  refine c_front hN e65 e74 hX.2.2.1 hX.2.2.2 hb hT hE hD (fun x2 x3 s fz pt sm sp ex2 ex3 => ?_)
  have es : (4096 - x2).toInt = 4096 - (12 + (τ.1 33 (n - 1)).toInt + Et b τ (b.1 0 41).toNatClampNeg) := sOkE zm ex2 (by omega) (by omega)
  rcases main with ⟨m1, m2, m3⟩ | ⟨m1, m2, ψ, pψ, hTψ, hDψ, fψ, ld⟩
  · refine ⟨fun c => ?_, fun _ => run _ ⟨m2.symm, ?_⟩⟩
    · have := (leE (rfl : x1.toInt = _) es).mp c
      omega
    · have fb : ∀ c i : Nat, ¬ ((24 ≤ c ∧ c ≤ 37) ∨ (c = 0 ∧ (i = 50 ∨ i = 51))) → υ.1 c i = b.1 c i := fun c i q => (m3 c i (by omega)).trans (fJ c i q)
      have sn : ∀ q ∈ SC, q.2.2.2 ≠ 50 ∧ q.2.2.2 ≠ 51 := by decide
      exact h.mv (fun c i q => fz c i (by omega)) (fun c i q => fb c i (by omega)) (h.1.fr (fun q hm => fz _ _ (by have := SC_lt q hm; omega)) (fun q hm => fb _ _ (by have := SC_lt q hm; have := sn q hm; omega))) (h.2.1.fr (fun i => fz _ _ (by omega)) (fun i => fb _ _ (by omega))) (hX.ext (fun c i q => fz c i (by omega)) (fun c i q => fb c i (by omega))) kυ.1
  · refine ⟨fun _ => ?_, fun c => ?_⟩
    · have cA := clE (rfl : x1.toInt = x1.toInt) q1
      have x12 : (x1 + 12).toInt = x1.toInt + 12 := aOkE rfl o12 (by omega) (by omega)
      have r33 : ψ.1 33 (n - 1) = τ.1 33 (n - 1) := fψ 33 _ (by omega)
      have smψ : Same b s ψ L n := sm.ext (fun _ _ _ => rfl) (fun c i q => fψ c i (by omega))
      have depu : ∀ i : Nat, i < n → (ψ.1 35 i).toInt = (τ.1 35 i).toInt := fun i hi => PD.uq hT hTψ (funext (fun j => fψ 32 j (by omega))) hD hDψ (n - 1 - i) i (by omega)
      have eE : Et b ψ (b.1 0 41).toNatClampNeg = Et b τ (b.1 0 41).toNatClampNeg := Et_ext hb hT (funext (fun j => fψ 36 j (by omega))) depu _ (by omega)
      have c33 := clE (rfl : (ψ.1 33 (n - 1)).toInt = _) (by rw [r33]; omega)
      have wy : WY s ψ n := wy_of sp smψ hTψ hDψ
      have pl : ∀ i : Nat, i < n → s.1 35 i = ψ.1 34 i := fun i hi => Int32.toInt_inj.mp (pl_eq sp smψ hTψ hDψ x12 (by omega) (by rw [r33]; omega) (n - 1 - i) i (by omega))
      have hU : ∀ p : Nat, (p : Int) < (b.1 0 36).toInt → ψ.1 37 p = uA b p := fun p hp => (fψ 37 p (by omega)).trans (hE.2.1 p hp)
      have mc0 : MC s (ψ.1 1) := fun i hi => by rw [fz _ _ (by omega), h.2.1 i hi, fψ 1 i (by omega), fJ 1 i (by omega)]
      refine c_nodes (τ := ψ) (A := x1.toNatClampNeg) (L := L) (n := n) (base := x1.toInt + 12) hN hb (hX.2.2.1.ext (fun c i q => fz c i (by omega)) (fun _ _ _ => rfl)) pψ hTψ hDψ smψ pl cA.symm (by omega) (by rw [r33]; omega) mc0 (fun s8 f8 m8 => ?_)
      have sm8 : Same b s8 ψ L n := smψ.ext (fun c i q => f8.1 c i (by omega)) (fun _ _ _ => rfl)
      have em : (s8.1 9 9 - 1).toInt = (n : Int) - 1 := sOkE sm8.2.2.2.2.2 (show (1 : Int32).toInt = 1 from by decide) (by omega) (by omega)
      have cm : (s8.1 9 9 - 1).toNatClampNeg = n - 1 := by have := clE em (by omega); omega
      unfold fX0_size
      refine ⟨fun c => ?_, fun _ => ⟨inE em (by omega) (by omega), ?_⟩⟩
      · have := (leE sm8.2.2.2.2.2 z0).mp c
        omega
      rw [cm, sm8.1 _ (by omega)]
      have e12 : (12 + ψ.1 33 (n - 1)).toInt = 12 + (ψ.1 33 (n - 1)).toInt := aOkE o12 rfl (by rw [r33]; omega) (by rw [r33]; omega)
      have eA0 : (x1 + (12 + ψ.1 33 (n - 1))).toInt = (x1.toNatClampNeg + 12 + (ψ.1 33 (n - 1)).toNatClampNeg : Nat) := (aOkE rfl e12 (by rw [r33]; omega) (by rw [r33]; omega)).trans (by omega)
      refine c_texts (ψ := ψ) (L := L) (n := n) hN eA0 (by rw [f8.1 _ _ (by omega), fz _ _ (by omega)]; exact e74) hb hTψ hDψ hU sm8 (wy.ext (fun i => f8.1 _ _ (by omega)) f8.2) (fun t ht => ?_) (by rw [eE]; rw [r33] at c33 ⊢; omega) m8 (fun s11 f11 m11 k11 => ?_)
      · obtain ⟨p1, p2⟩ := pt t ht
        refine ⟨⟨by rw [f8.1 _ _ (by omega)]; exact p1.1, fun i hi => by rw [f8.1 _ _ (by omega)]; exact p1.2 i hi⟩, ?_⟩
        rw [f8.1 _ _ (by omega), p2]
        exact (Bt_ext hb hT (funext (fun j => fψ 36 j (by omega))) depu ht).symm
      · have sm11 : Same b s11 ψ L n := sm8.ext (fun c i q => f11 c i (by omega) (by omega) (by omega)) (fun _ _ _ => rfl)
        have g11 : ∀ c i : Nat, ¬ (c = 12 ∨ c = 25 ∨ c = 26 ∨ (27 ≤ c ∧ c ≤ 42) ∨ 203 ≤ c ∨ (c = 9 ∧ (i = 9 ∨ i = 10))) → s11.1 c i = a.1 c i := fun c i q => by rw [f11 c i (by omega) (by omega) (by omega), f8.1 c i (by omega), fz c i (by omega)]
        have d36 : ∀ i : Nat, i < n → s11.1 36 i = ψ.1 35 i := fun i hi => by
          rw [f11 _ _ (by decide) (by decide) (by decide), f8.1 _ _ (by decide)]
          exact Int32.toInt_inj.mp (dep_eq sp smψ hTψ hDψ (n - 1 - i) i (by omega))
        refine c_keep (ψ := ψ) (L := L) (n := n) hN (by rw [g11 _ _ (by omega)]; exact e65) hb hTψ sm11 hE.1 (fun i hi => by rw [fψ 27 i (by omega)]; exact hE.2.2.1 i hi) (fun s12 f12 k4 k22 => ?_)
        obtain ⟨ld1, ld2, ld3, ld4, ld5⟩ := ld
        have fa : ∀ c i : Nat, ¬ (c = 12 ∨ c = 22 ∨ c = 25 ∨ c = 26 ∨ (27 ≤ c ∧ c ≤ 42) ∨ 203 ≤ c ∨ (c = 9 ∧ (i = 9 ∨ i = 10)) ∨ (c = 4 ∧ i = 11)) → s12.1 c i = a.1 c i := fun c i q => by rw [f12 c i (by omega) (by omega), g11 c i (by omega)]
        have fb : ∀ c i : Nat, ¬ (c = 1 ∨ c = 19 ∨ (22 ≤ c ∧ c ≤ 37) ∨ (c = 0 ∧ (i = 7 ∨ i = 46 ∨ i = 50 ∨ i = 51 ∨ i = 63 ∨ i = 64))) → υ.1 c i = b.1 c i := fun c i q => by rw [ld1 c i (by omega), fψ c i (by omega), fJ c i (by omega)]
        have base : Rbt Xr s12 υ := by
          have sn : ∀ q ∈ SC, (q.2.2.2 ≠ 50 ∧ q.2.2.2 ≠ 51 ∧ q.2.2.2 ≠ 63 ∧ q.2.2.2 ≠ 64) ∧ (q.1 = 4 → q = (4, 11, 0, 46)) ∧ (q.2.2.2 = 46 → q = (4, 11, 0, 46)) := by decide
          refine h.mv (fun c i q => fa c i (by omega)) (fun c i q => fb c i (by omega)) (fun q hm => ?_) (fun x hx => ?_) ⟨hX.1.ext (fun c i q => fa c i (by omega)) (fun c i q => fb c i (by omega)), hX.2.1.ext (fun i => fa _ _ (by omega)) (fun c i q => fb c i (by omega)), fun p p1 p2 => ?_, fun k k1 k2 => ?_⟩ kυ.1
          · obtain ⟨⟨n1, n2, n3, n4⟩, n5, n6⟩ := sn q hm
            have n7 := SC_no2 q hm
            have n8 := SC_lt q hm
            by_cases e : q = (4, 11, 0, 46)
            · rw [e]
              show s12.1 4 11 = υ.1 0 46
              rw [k4, ld4, d36 0 (by omega)]
            · have w4 : q.1 ≠ 4 := fun z => e (n5 z)
              have w46 : q.2.2.2 ≠ 46 := fun z => e (n6 z)
              rw [fa _ _ (by omega), fb _ _ (by omega)]
              exact h.1 q hm
          · rw [f12 _ _ (by decide) (by omega), m11 x hx, ld2 x hx]
          · rw [fb _ _ (by omega)] at p2
            obtain ⟨g1, g2, g3, g4, g5, g6⟩ := hX.2.2.1 p p1 p2
            refine ⟨by rw [fa _ _ (by omega), fb _ _ (by omega)]; exact g1, by rw [fa _ _ (by omega), fb _ _ (by omega)]; exact g2, ?_, fun m hm => ?_, fun hk => ?_, by rw [fb _ _ (by omega), fb _ _ (by omega)]; exact g6⟩
            · rw [ld5 p p2, hU p p2]
              by_cases u : 1 ≤ (uA b p).toInt
              · obtain ⟨l, l1, l2, l3, l4⟩ := (lfs_inv b (b.1 0 36).toNatClampNeg (by have := clE (rfl : (b.1 0 36).toInt = _) b36.1; omega)).2 p (by have := clE (rfl : (b.1 0 36).toInt = _) b36.1; omega) u
                rw [if_pos u, (k22 p p2).1 u, fψ 36 p (by omega), hE.2.2.2.1 p p2 u, l3, clnI (by have := hE.1; omega)]
                exact d36 l (by have := hE.1; omega)
              · rw [if_neg u, (k22 p p2).2 u, g11 _ _ (by omega), fψ 19 p (by omega), fJ 19 p (by omega)]
                exact g3
            · rw [fb _ _ (by omega)] at hm
              unfold dg
              rw [fa _ _ (by omega), fb _ _ (by omega), fb _ _ (by omega)]
              exact g4 m hm
            · rw [fb _ _ (by omega)] at hk
              rw [fa _ _ (by omega), fb _ _ (by omega)]
              exact g5 hk
          · rw [fb _ _ (by omega)] at k2
            obtain ⟨g1, g2, g3, g4⟩ := hX.2.2.2 k k1 k2
            have w1 := k11 k k2
            have w2 := ld3 k k2
            refine ⟨by rw [fa _ _ (by omega), fb _ _ (by omega)]; exact g1, ?_, ?_, fun i hi => ?_⟩
            · rw [f12 _ _ (by decide) (by omega)]
              exact Int32.toInt_inj.mp (w1.1.trans w2.1.symm)
            · rw [f12 _ _ (by decide) (by omega)]
              exact Int32.toInt_inj.mp (w1.2.trans w2.2.symm)
            · rw [fb _ _ (by omega)] at hi
              rw [fa _ _ (by omega), fb _ _ (by omega)]
              exact g4 i hi
        have er : x3 = r := Int32.toInt_inj.mp (ex3.trans m2.symm)
        unfold fX8_dropIfTouched fX8_drop
        refine ⟨fun _ => run _ ⟨er, base⟩, fun _ => ⟨fun _ => run _ ⟨er, base⟩, fun _ u1' g1 u2' g2 u3' g3 => run _ ⟨er, base.cache (fun c i q => ?_)⟩⟩⟩
        rw [g3, u1e (by omega), g2, u1e (by omega), g1, u1e (by omega)]
    · have := (notleE (rfl : x1.toInt = _) es).mp c
      omega
end SIM58
