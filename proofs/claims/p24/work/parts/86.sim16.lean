section SIM16
variable {X : St → St → Prop} {a b a' b' : St} {j N : Nat} {x : Int32} {Q1 : St → Prop}
theorem Rg2.r4 {c j : Nat} {v : Int32} (hc : c = 7 ∨ c = 8 ∨ c = 11 ∨ c = 12) : Rg2 c j v := by
  rcases hc with rfl | rfl | rfl | rfl <;> trivial
/-- a field of a job that is no number, on both sides -/
theorem Ru.jg (hX : XA X) (h : Ru X a b) (hj : j < 40) {f c : Nat} {v : Int32} (f1 : 1 ≤ f) (f7 : f ≤ 7) (hc : jr f = c) (hc4 : c = 7 ∨ c = 8 ∨ c = 11 ∨ c = 12) (hk : b.1 0 9 = 0 → b.1 6 j ≠ 4) : Ru X (u1 a (43 + j) f v) (u1 b c j v) := by
  refine h.jobs hX (fun k y q => u1e (by omega)) (fun k y q => u1e (by omega)) rfl (h.g.ua (Rg2.r4 hc4) (by omega)) (fun h0 y hy => ?_)
  rw [u1e (by omega)] at hy
  have d40 := h.d40
  have Jy := h.j h0 y hy
  by_cases ey : y = j
  · subst ey
    refine ⟨fun g g1 g2 => ?_, fun i hi => ?_, ?_, fun q => ?_⟩
    · by_cases e2 : g = f
      · rw [e2, hc, u1v, u1v]
      · have n7 : jr g ≠ c := fun w => e2 (jr_inj g1 g2 f1 f7 (w.trans hc.symm))
        rw [u1e (by omega), u1e (by omega)]
        exact Jy.1 g g1 g2
    · rw [u1e (by omega)] at hi
      rw [u1e (by omega), u1e (by omega)]
      exact Jy.2.1 i hi
    · rw [u1e (by omega)]
      exact Jy.2.2.1
    · rw [u1e (by omega)] at q
      exact absurd q (hk h0)
  · exact Jy.ext (fun f => u1e (by omega)) (fun i => u1e (by omega)) (fun k k1 k2 k3 => u1e (by omega)) (fun i _ => u1e (by omega)) (g2_9 h.g y).2
/-- a field of a job of the reference alone: behind a fault, or above the uppermost -/
theorem Ru.jF (hX : XA X) (h : Ru X a b) {c : Nat} {v : Int32} (hc4 : c = 7 ∨ c = 8 ∨ c = 11 ∨ c = 12) (hb : b.1 0 9 = 0 → (b.1 0 14).toInt ≤ (j : Int)) : Ru X a (u1 b c j v) := by
  refine h.jobs hX (fun _ _ _ => rfl) (fun k y q => u1e (by omega)) rfl (h.g.ua (Rg2.r4 hc4) (by omega)) (fun h0 y hy => ?_)
  rw [u1e (by omega)] at hy
  have := hb h0
  exact (h.j h0 y hy).ext (fun _ => rfl) (fun _ => rfl) (fun k k1 k2 k3 => u1e (by omega)) (fun i _ => u1e (by omega)) (g2_9 h.g y).2
/-- what the reference's branch leaves -/
def fb1 (b : St) (j : Nat) (r : Int32) : St := u1 (u1 (u1 b 12 j r) 11 j 0) 8 j (b.1 8 j + 1)
def fb2 (b : St) (j : Nat) (r : Int32) : St := if b.1 8 j + 1 = 8 then u1 (u1 (fb1 b j r) 8 j 0) 7 j (b.1 7 j + 1) else fb1 b j r
theorem r_106 (hN : 4294967400 ≤ N) {t0 t1 : Int64} (hx : x.toInt = (j : Int)) (hj : j < 40) {Q : St → Prop} (z : Q (fb2 (f4s b (t1 + t0)) j (f4v b (t1 + t0)))) : fX12_packed_j106 N x t0 t1 x Q b := by
  have cx := clE hx (by omega)
  have ex : x.toNatClampNeg = j := by omega
  have hin : vp_in x 40 := inE hx (by omega) (by omega)
  unfold fX12_packed_j106
  refine r_four hN ?_
  rw [ex]
  obtain ⟨b1, eb⟩ : ∃ b1 : St, f4s b (t1 + t0) = b1 := ⟨_, rfl⟩
  obtain ⟨r, er⟩ : ∃ r : Int32, f4v b (t1 + t0) = r := ⟨_, rfl⟩
  rw [eb, er] at z
  rw [eb, er]
  refine ⟨hin, fun s36 e36 => ⟨hin, fun s38 e38 => ⟨hin, fun v40 e40 => ⟨hin, fun s42 e42 => ⟨hin, fun q => ⟨hin, fun s46 e46 => ⟨hin, fun v48 e48 => ⟨hin, fun s50 e50 => ?_⟩⟩⟩, fun q => ?_⟩⟩⟩⟩⟩
  all_goals
    rw [show vp_nar .boolean 0 = 0 from by decide] at e38
    have k8 : s38.1 8 j = b1.1 8 j := by rw [e38, u1e (by omega), e36, u1e (by omega)]
    rw [k8] at e40
    have k42 : s42 = fb1 b1 j r := by rw [e42, e40, e38, e36]; rfl
    have k428 : s42.1 8 j = b1.1 8 j + 1 := by rw [e42, u1v, e40]
    rw [k428] at q
    unfold fb2 at z
  · rw [if_pos q] at z
    have k7 : s46.1 7 j = b1.1 7 j := by rw [e46, u1e (by omega), e42, u1e (by omega), e38, u1e (by omega), e36, u1e (by omega)]
    rw [k7] at e48
    rw [e50, e48, e46, k42]
    exact z
  · rw [if_neg q] at z
    rw [k42]
    exact z
theorem Ru.fb1F (hX : XA X) (h : Ru X a b) (hb : b.1 0 9 ≠ 0) {r : Int32} : Ru X a (fb1 b j r) := by
  unfold fb1
  refine ((h.jF hX (by omega) (fun q => absurd q hb)).jF hX (by omega) (fun q => ?_)).jF hX (by omega) (fun q => ?_)
  · rw [u1e (by omega)] at q
    exact absurd q hb
  · rw [u1e (by omega), u1e (by omega)] at q
    exact absurd q hb
theorem Ru.fb2F (hX : XA X) (h : Ru X a b) (hb : b.1 0 9 ≠ 0) {r : Int32} : Ru X a (fb2 b j r) := by
  have f1 : (fb1 b j r).1 0 9 = b.1 0 9 := by unfold fb1; rw [u1e (by omega), u1e (by omega), u1e (by omega)]
  unfold fb2
  split
  · refine ((h.fb1F hX hb).jF hX (by omega) (fun q => ?_)).jF hX (by omega) (fun q => ?_)
    · rw [f1] at q
      exact absurd q hb
    · rw [u1e (by omega), f1] at q
      exact absurd q hb
  · exact h.fb1F hX hb
/-- a branch, in step -/
theorem q_follow (hN : 4294967400 ≤ N) (hX : XA X) (h : Ru X a b) (h0 : b.1 0 9 = 0) (hd : (b.1 0 14).toInt = (j : Int) + 1) (hx : x.toInt = (j : Int)) (hk : b.1 6 j = 3) {t : Int32} (t0 : 0 ≤ t.toInt) (t1 : t.toInt ≤ 4095) (hQ : ∀ a' b' : St, Ru X a' b' → (∀ Q2 : St → Prop, Q2 b' → fX12_read N ((b.1 7 x.toNatClampNeg).toInt64) (fun r_29 σ_28 => vp_in x 40 ∧ ∀ v_31 : Int32, v_31 = (r_29 >>> ((σ_28.1 8 x.toNatClampNeg) &&& 31)) &&& 1 → ((v_31 = 0 → fX12_packed_j106 N x 1 t.toInt64 x Q2 σ_28) ∧ (¬ v_31 = 0 → fX12_packed_j106 N x 5 t.toInt64 x Q2 σ_28))) b) → Q1 a') : fX2_followBranch N (43 + j) t Q1 a := by
  have z1 : (1 : Int32).toInt = 1 := by decide
  have z4 : (4 : Int32).toInt = 4 := by decide
  have z1L : (1 : Int64).toInt = 1 := by decide
  have z5L : (5 : Int64).toInt = 5 := by decide
  have d40 := h.d40
  have cx := clE hx (by omega)
  have ex : x.toNatClampNeg = j := by omega
  have hin : vp_in x 40 := inE hx (by omega) (by omega)
  have J := h.j h0 j (by omega)
  have J2 : a.1 (43 + j) 2 = b.1 7 j := J.1 2 (by omega) (by omega)
  have J3 : a.1 (43 + j) 3 = b.1 8 j := J.1 3 (by omega) (by omega)
  have et : t.toInt64.toInt = t.toInt := i2lE rfl
  rw [ex] at hQ
  unfold fX2_followBranch
  rw [J2]
  refine q_readX hX h (y := (b.1 7 j).toInt64) (i2lE rfl) (fun a1 h1 hh r0 r255 v3 e3 => ?_)
  obtain ⟨r, er⟩ : ∃ r : Int32, rdv b (b.1 7 j).toInt64 = r := ⟨_, rfl⟩
  obtain ⟨b1, eb⟩ : ∃ b1 : St, rds b (b.1 7 j).toInt64 = b1 := ⟨_, rfl⟩
  have k13 : a1.1 (43 + j) 3 = b1.1 8 j := by
    rw [← eb, rds_ne (by omega)]
    rcases hh with g | g
    · rw [g.1]; exact J3
    · rw [g.2.1, fl1_ne (by omega)]; exact J3
  rw [er] at e3
  rw [eb] at h1
  rw [k13] at e3
  have bv : v3 = 0 ∨ v3 = 1 := by
    have g := and1 (r >>> (b1.1 8 j &&& 31))
    rw [← e3] at g
    have z0 : (0 : Int32).toInt = 0 := by decide
    have w : v3.toInt = 0 ∨ v3.toInt = 1 := by omega
    rcases w with w | w
    · exact Or.inl (Int32.toInt_inj.mp (by omega))
    · exact Or.inr (Int32.toInt_inj.mp (by omega))
  obtain ⟨k, hk5, ref⟩ : ∃ k : Int64, k.toInt = 1 + 4 * v3.toInt ∧ ∀ Q2 : St → Prop, fX12_packed_j106 N x k t.toInt64 x Q2 b1 → fX12_read N ((b.1 7 j).toInt64) (fun r_29 σ_28 => vp_in x 40 ∧ ∀ v_31 : Int32, v_31 = (r_29 >>> ((σ_28.1 8 j) &&& 31)) &&& 1 → ((v_31 = 0 → fX12_packed_j106 N x 1 t.toInt64 x Q2 σ_28) ∧ (¬ v_31 = 0 → fX12_packed_j106 N x 5 t.toInt64 x Q2 σ_28))) b := by
    rcases bv with q | q
    · refine ⟨1, by rw [q]; decide, fun Q2 z => r_read ?_⟩
      rw [er, eb]
      exact ⟨hin, fun v31 e31 => by rw [e31, ← e3]; exact ⟨fun _ => z, fun w => absurd q w⟩⟩
    · refine ⟨5, by rw [q]; decide, fun Q2 z => r_read ?_⟩
      rw [er, eb]
      exact ⟨hin, fun v31 e31 => by rw [e31, ← e3]; exact ⟨fun w => by rw [q] at w; exact absurd w (by decide), fun _ => z⟩⟩
  have b3 : 0 ≤ v3.toInt ∧ v3.toInt ≤ 1 := by rcases bv with q | q <;> (rw [q]; decide)
  have g1 : (t + 1).toInt = t.toInt + 1 := aOkE rfl z1 (by omega) (by omega)
  have g2 : (4 * v3).toInt = 4 * v3.toInt := mOkE z4 rfl (by omega) (by omega)
  have g3 : (t + 1 + 4 * v3).toInt = t.toInt + 1 + 4 * v3.toInt := aOkE g1 g2 (by omega) (by omega)
  have g4 : (t.toInt64 + k).toInt = t.toInt + (1 + 4 * v3.toInt) := aOkE64 et hk5 (by omega) (by omega)
  refine q_fourX hX h1 (y := t.toInt64 + k) (Or.inl (by omega)) (fun r5 a4 h4 hh4 => ?_)
  obtain ⟨b4, eb4⟩ : ∃ b4 : St, f4s b1 (t.toInt64 + k) = b4 := ⟨_, rfl⟩
  rw [eb4] at h4
  have kb : ∀ c i : Nat, ¬ (c = 0 ∧ i = 9) → b4.1 c i = b.1 c i := fun c i q => by rw [← eb4, f4s_ne q, ← eb, rds_ne q]
  rw [h4.f]
  refine ⟨fun c => ?_, fun c => ?_⟩
  · have e5 : r5 = f4v b1 (t.toInt64 + k) := by
      rcases hh4 with g | g
      · exact g.2.2.1
      · rw [eb4] at g
        exact absurd c g.1
    have n4 : b4.1 0 9 = 0 → b4.1 6 j ≠ 4 := fun _ q => by rw [kb 6 j (by omega), hk] at q; exact absurd q (by decide)
    have J4 := h4.j c j (by rw [kb 0 14 (by omega)]; omega)
    have J43 : a4.1 (43 + j) 3 = b4.1 8 j := J4.1 3 (by omega) (by omega)
    have J42 : a4.1 (43 + j) 2 = b4.1 7 j := J4.1 2 (by omega) (by omega)
    intro s7 e7 s8 e8 v9 e9 s10 e10
    have h7 := h4.jg hX (j := j) (by omega) (f := 6) (c := 12) (v := r5) (by omega) (by omega) rfl (by omega) n4
    rw [← e7] at h7
    have h8 := h7.jg hX (j := j) (by omega) (f := 5) (c := 11) (v := 0) (by omega) (by omega) rfl (by omega) (fun q => by rw [u1e (by omega)] at q; rw [u1e (by omega)]; exact n4 q)
    rw [← e8] at h8
    have k8 : s8.1 (43 + j) 3 = b4.1 8 j := by rw [e8, u1e (by omega), e7, u1e (by omega)]; exact J43
    rw [k8] at e9
    have h10 := h8.jg hX (j := j) (by omega) (f := 3) (c := 8) (v := v9) (by omega) (by omega) rfl (by omega) (fun q => by rw [u1e (by omega), u1e (by omega)] at q; rw [u1e (by omega), u1e (by omega)]; exact n4 q)
    rw [← e10] at h10
    have ef : u1 (u1 (u1 b4 12 j r5) 11 j 0) 8 j v9 = fb1 b4 j r5 := by rw [e9]; rfl
    rw [ef] at h10
    have k10 : s10.1 (43 + j) 3 = b4.1 8 j + 1 := by rw [e10, u1v, e9]
    rw [k10]
    have ref2 : ∀ Q2 : St → Prop, Q2 (fb2 b4 j r5) → _ := fun Q2 z => ref Q2 (r_106 hN hx (by omega) (by rw [eb4, ← e5]; exact z))
    refine ⟨fun q s12 e12 v13 e13 s14 e14 => ?_, fun q => ?_⟩
    · have f6 : (fb1 b4 j r5).1 6 j = b4.1 6 j := by unfold fb1; rw [u1e (by omega), u1e (by omega), u1e (by omega)]
      have f9 : (fb1 b4 j r5).1 0 9 = b4.1 0 9 := by unfold fb1; rw [u1e (by omega), u1e (by omega), u1e (by omega)]
      have h12 := h10.jg hX (j := j) (by omega) (f := 3) (c := 8) (v := 0) (by omega) (by omega) rfl (by omega) (fun _ => by rw [f6]; exact n4 c)
      rw [← e12] at h12
      have k12 : s12.1 (43 + j) 2 = b4.1 7 j := by rw [e12, u1e (by omega), e10, u1e (by omega), e8, u1e (by omega), e7, u1e (by omega)]; exact J42
      rw [k12] at e13
      have h14 := h12.jg hX (j := j) (by omega) (f := 2) (c := 7) (v := v13) (by omega) (by omega) rfl (by omega) (fun _ => by rw [u1e (by omega), f6]; exact n4 c)
      rw [← e14] at h14
      have ef2 : u1 (u1 (fb1 b4 j r5) 8 j 0) 7 j v13 = fb2 b4 j r5 := by unfold fb2; rw [if_pos q, e13]
      rw [ef2] at h14
      exact hQ _ _ h14 ref2
    · have ef2 : fb1 b4 j r5 = fb2 b4 j r5 := by unfold fb2; rw [if_neg q]
      rw [ef2] at h10
      exact hQ _ _ h10 ref2
  · exact hQ _ _ (h4.fb2F hX c) (fun Q2 z => ref Q2 (r_106 hN hx (by omega) (by rw [eb4]; exact z)))
end SIM16
