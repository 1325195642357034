section SIM37
variable {N : Nat} {a b : St} {x1 x2 : Int32}
/-- the line is emptied on both sides -/
theorem Rbt.line (h : Rbt Xr a b) : Rbt Xr (u1 a 0 7 0) (u1 b 0 5 0) := by
  refine h.mv (fun c i q => u1e (by omega)) (fun c i q => u1e (by omega)) ((h.1.a (by decide)).b (by decide)) (h.2.1.fr (fun i => u1e (by omega)) (fun i => u1e (by omega))) ⟨⟨by rw [u1v, u1v], fun i hi => ?_⟩, h.2.2.2.1.2.ext (fun c i q => u1e (by omega)) (fun c i q => u1e (by omega))⟩ (h.2.2.2.2.1.uf (by simp [Rg2, In32]) (by decide))
  rw [u1v, show (0 : Int32).toInt = 0 from by decide] at hi
  omega
theorem p_text (hN : 4294967400 ≤ N) (h : Rbt Xr a b) : fX11_text N (fun r1 τ1 => fX12_text N (fun r2 τ2 => r1 = r2 ∧ Rbt Xr τ1 τ2) b) a := by
  have z0 : (0 : Int32).toInt = 0 := by decide
  have z1 : (1 : Int32).toInt = 1 := by decide
  have z20 : (20 : Int32).toInt = 20 := by decide
  have hX := h.2.2.2.1
  have hG := h.2.2.2.2.1
  have hL := h.line
  have e7 : a.1 0 7 = b.1 0 5 := hX.1.1
  have d := K2.g_0_5 (K2.self hG)
  have en := clE (rfl : (b.1 0 5).toInt = (b.1 0 5).toInt) d.1
  have hXL := hL.2.2.2.1
  unfold fX11_text
  intro v1 ev1 s2 es2
  have ev : v1 = b.1 0 5 := ev1.trans e7
  rw [es2]
  refine c_part (t := dt (u1 b 0 5 0) (-1)) hN (pca_of (hL.1.at 6 5 0 36 (by decide)) hXL.2.2.1 hL.2.2.2.2.1) (by omega) (n := (b.1 0 5).toNatClampNeg) (fun j hj => ?_) (by omega) (by rw [ev]; omega) (fun τ f _ => ?_)
  · rw [u1e (by omega), hX.1.2 j (by omega)]
    unfold dt
    rw [if_neg (by decide), u1e (by omega)]
  · have pr : (if (pout (dh (u1 b 0 5 0)) (dg (u1 b 0 5 0)) (dt (u1 b 0 5 0) (-1)) (b.1 0 5).toNatClampNeg ((u1 b 0 5 0).1 0 36).toNatClampNeg (b.1 0 5).toNatClampNeg).1 0 = 1000 then (-1 : Int32) else (pout (dh (u1 b 0 5 0)) (dg (u1 b 0 5 0)) (dt (u1 b 0 5 0) (-1)) (b.1 0 5).toNatClampNeg ((u1 b 0 5 0).1 0 36).toNatClampNeg (b.1 0 5).toNatClampNeg).1 0) = pR (u1 b 0 5 0) (-1) (b.1 0 5) := rfl
    rw [pr]
    have hm : ∀ υ : St, K2 (u1 b 0 5 0) υ → FrP (u1 b 0 5 0) υ → Rbt Xr τ υ := fun υ kυ fυ => hL.mv (fun c i q => f c i (by omega)) (fun c i q => fυ c i (by omega)) (hL.1.fr (fun q hm => f _ _ (by have := SC_lt q hm; omega)) (fun q hm => fυ _ _ (by have := SC_lt q hm; omega))) (hL.2.1.fr (fun i => f _ _ (by omega)) (fun i => fυ _ _ (by omega))) (hXL.ext (fun c i q => f c i (by omega)) (fun c i q => fυ c i (by omega))) kυ.1
    have ple := pR_le (x1 := -1) (x2 := b.1 0 5) (K2.self hL.2.2.2.2.1) d.1 d.2
    refine ⟨fun c => ?_, fun c => ?_⟩
    · unfold fX12_text
      intro w1 f1 t2 f2
      rw [f1, f2]
      refine sX12_partedX hN (by decide) d (K2.self hL.2.2.2.2.1) (fun r υ kυ fυ er _ => ⟨fun w => ?_, fun _ => ⟨rfl, hm υ kυ fυ⟩⟩)
      rw [er, c] at w
      exact absurd w (by decide)
    · have pos : 0 ≤ (pR (u1 b 0 5 0) (-1) (b.1 0 5)).toInt := by
        rcases Int.lt_or_le (pR (u1 b 0 5 0) (-1) (b.1 0 5)).toInt 0 with q | q
        · exact absurd (Int32.toInt_inj.mp (by rw [show (-1 : Int32).toInt = -1 from by decide]; omega)) c
        · exact q
      have ref : ∀ Q : Int32 → St → Prop, (∀ υ : St, K2 (u1 b 0 5 0) υ → FrP (u1 b 0 5 0) υ → ((υ.1 0 41) = 20 → Q (-4) υ) ∧ (¬ (υ.1 0 41) = 20 → lo1 (fX12_text_l36 N (b.1 0 5) Q) N 0 υ)) → fX12_text N Q b := by
        intro Q k
        unfold fX12_text
        intro w1 f1 t2 f2
        rw [f1, f2]
        refine sX12_partedX hN (by decide) d (K2.self hL.2.2.2.2.1) (fun r υ kυ fυ er _ => ⟨fun _ => k υ kυ fυ, fun w => absurd ?_ w⟩)
        rw [er]
        exact (leE z0 rfl).mpr pos
      have e74 : τ.1 7 4 = b.1 0 41 := by rw [f _ _ (by omega), u1e (by omega)]; exact h.1.at 7 4 0 41 (by decide)
      have d41 := K2.q_0_41 (K2.self hG)
      have c41 := clE (rfl : (b.1 0 41).toInt = (b.1 0 41).toInt) d41.1
      have u41 : ∀ υ : St, FrP (u1 b 0 5 0) υ → υ.1 0 41 = b.1 0 41 := fun υ fυ => by rw [fυ _ _ (by omega), u1e (by omega)]
      by_cases full : b.1 0 41 = 20
      · unfold fX10_add
        rw [e74]
        refine ⟨fun w => ?_, fun _ => ref _ (fun υ kυ fυ => ⟨fun _ => ⟨rfl, hm υ kυ fυ⟩, fun w => absurd ((u41 υ fυ).trans full) w⟩)⟩
        rw [full] at w
        exact absurd w (by decide)
      · have lt20 : (b.1 0 41).toInt < 20 := by
          rcases Int.lt_or_le (b.1 0 41).toInt 20 with q | q
          · exact q
          · exact absurd (Int32.toInt_inj.mp (by rw [z20]; omega)) full
        refine c_addT hN (T := (b.1 0 41).toNatClampNeg) (by rw [ev]; omega) (by rw [ev]; omega) (by rw [e74]; omega) (by omega) (fun τ1 g1 g2 g3 g4 g5 g6 => ref _ (fun υ kυ fυ => ⟨fun w => absurd ((u41 υ fυ).symm.trans w) full, fun _ => ?_⟩))
        refine e_addT hN (T := (b.1 0 41).toNatClampNeg) d.1 d.2 kυ (by rw [u41 υ fυ]; omega) (by omega) (fun τ2 k2 q1 q2 q3 q4 q5 q6 => ⟨by rw [e74, u41 υ fυ], ?_⟩)
        have M := hm υ kυ fυ
        have MX := M.2.2.2.1
        have fA : ∀ q ∈ SC, ¬ (q.1 = 7 ∧ q.2.1 = 4) → τ1.1 q.1 q.2.1 = τ.1 q.1 q.2.1 := fun q hm n => g1 _ _ (by have := SC_lt q hm; omega)
        have sB : ∀ q ∈ SC, (q.1 = 7 ∧ q.2.1 = 4 ↔ q.2.2.2 = 41) := by decide
        have s7 : ∀ q ∈ SC, q.1 = 7 → q = (7, 4, 0, 41) := by decide
        refine M.mv (fun c i q => g1 c i (by omega)) (fun c i q => q1 c i (by omega)) (fun q hm => ?_) (M.2.1.fr (fun i => g1 _ _ (by omega)) (fun i => q1 _ _ (by omega))) ⟨MX.1.ext (fun c i q => g1 c i (by omega)) (fun c i q => q1 c i (by omega)), MX.2.1.ext (fun i => g1 _ _ (by omega)) (fun c i q => q1 c i (by omega)), MX.2.2.1.ext (fun c i q => g1 c i (by omega)) (fun c i q => q1 c i (by omega)), fun k h1 h2 => ?_⟩ k2.1
        · by_cases e : q.1 = 7 ∧ q.2.1 = 4
          · rw [s7 q hm e.1]
            show τ1.1 7 4 = τ2.1 0 41
            rw [g6, q6, e74, u41 υ fυ]
          · have := sB q hm
            have := SC_lt q hm
            rw [fA q hm e, q1 _ _ (by omega)]
            exact M.1 q hm
        · by_cases e : k = (b.1 0 41).toNatClampNeg
          · subst e
            refine ⟨by rw [g3, q3, ev], by rw [g4, q4], by rw [g5, q5], fun i hi => ?_⟩
            rw [q3] at hi
            rw [g2 i (by rw [ev]; exact hi), q2 i hi, f _ _ (by omega), u1e (by omega), fυ _ _ (by omega), u1e (by omega)]
            exact hX.1.2 i hi
          · have hk : (k : Int) < (υ.1 0 41).toInt := by
              rw [q6, u41 υ fυ] at h2
              have := aOkE (rfl : (b.1 0 41).toInt = (b.1 0 41).toInt) z1 (by omega) (by omega)
              rw [u41 υ fυ]
              omega
            obtain ⟨t1, t2, t3, t4⟩ := MX.2.2.2 k h1 hk
            rw [u41 υ fυ] at hk
            refine ⟨by rw [g1 _ _ (by omega), q1 _ _ (by omega)]; exact t1, by rw [g1 _ _ (by omega), q1 _ _ (by omega)]; exact t2, by rw [g1 _ _ (by omega), q1 _ _ (by omega)]; exact t3, fun i hi => ?_⟩
            have l := K2.q_21 kυ k
            rw [q1 _ _ (by omega)] at hi
            rw [g1 _ _ (by omega), q1 _ _ (by omega)]
            exact t4 i hi
end SIM37
