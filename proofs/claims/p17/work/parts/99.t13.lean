section CACHE13
variable {a b : St} {N : Nat} {k : Int} {x1 x2 : Int32}
/-- the class's cache behind the telling of the addresses from lo to hi -/
def DC (a : St) (lo hi : Int) (τ : St) : Prop := τ.1 2 3 = a.1 2 3 ∧ (∀ i : Nat, τ.1 13 i = a.1 13 i) ∧ (((∀ i : Nat, τ.1 2 i = a.1 2 i) ∧ ((a.1 2 6).toInt ≤ lo ∨ hi ≤ (a.1 2 5).toInt)) ∨ (τ.1 2 7 = 0 ∧ ¬ ((a.1 2 6).toInt ≤ lo ∨ hi ≤ (a.1 2 5).toInt)))
theorem c_drop {y1 y2 : Int32} {lo hi : Int} {s : St} (e1 : y1.toInt = lo) (e2 : y2.toInt = hi) (h2 : ∀ i : Nat, s.1 2 i = a.1 2 i) (h13 : ∀ i : Nat, s.1 13 i = a.1 13 i) {Q : St → Prop} (hQ : ∀ τ : St, (∀ c i : Nat, ¬ (c = 2 ∧ 5 ≤ i ∧ i ≤ 7) → τ.1 c i = s.1 c i) → DC a lo hi τ → Q τ) : fX8_dropIfTouched N y1 y2 Q s := by
  unfold fX8_dropIfTouched fX8_drop
  rw [h2, h2]
  refine ⟨fun c => hQ s (fun _ _ _ => rfl) ⟨h2 3, h13, Or.inl ⟨h2, Or.inl ((leE rfl e1).mp c)⟩⟩, fun c1 => ⟨fun c => hQ s (fun _ _ _ => rfl) ⟨h2 3, h13, Or.inl ⟨h2, Or.inr ((leE e2 rfl).mp c)⟩⟩, fun c2 t1 g1 t2 g2 t3 g3 => ?_⟩⟩
  have f : ∀ c i : Nat, ¬ (c = 2 ∧ 5 ≤ i ∧ i ≤ 7) → t3.1 c i = s.1 c i := fun c i q => by rw [g3, u1e (by omega), g2, u1e (by omega), g1, u1e (by omega)]
  refine hQ t3 f ⟨(f 2 3 (by omega)).trans (h2 3), fun i => (f 13 i (by omega)).trans (h13 i), Or.inr ⟨by rw [g3, u1v], fun q => ?_⟩⟩
  have := (notleE rfl e1).mp c1
  have := (notleE e2 rfl).mp c2
  omega
/-- what the class's load() leaves -/
def CL (a : St) (x1 : Int32) (τ : St) : Prop := (((a.1 0 6).toInt = 0 ∨ x1.toInt < 0 ∨ 4096 < x1.toInt + (a.1 0 6).toInt) ∧ (∀ c i : Nat, ¬ (c = 0 ∧ i = 6) → τ.1 c i = a.1 c i)) ∨ (0 < (a.1 0 6).toInt ∧ 0 ≤ x1.toInt ∧ x1.toInt + (a.1 0 6).toInt ≤ 4096 ∧ DC a x1.toInt (x1.toInt + (a.1 0 6).toInt) τ ∧ ∀ x : Nat, ¬ (x1.toInt ≤ (x : Int) ∧ (x : Int) < x1.toInt + (a.1 0 6).toInt) → τ.1 12 x = a.1 12 x)
theorem c_loadT (hg : ∀ c j : Nat, Rg1 c j (a.1 c j)) : fX11_load N x1 (fun _ τ => CL a x1 τ) a := by
  have z0 : (0 : Int32).toInt = 0 := by decide
  have zm : (4096 : Int32).toInt = 4096 := by decide
  have d := (hg 0 6).1 rfl
  unfold In32 at d
  have cn := clE (rfl : (a.1 0 6).toInt = _) d.1
  unfold fX11_load
  intro v ev s2 es2
  rw [ev]
  have fr : ∀ c i : Nat, ¬ (c = 0 ∧ i = 6) → s2.1 c i = a.1 c i := fun c i q => by rw [es2, u1e q]
  have es : (4096 - a.1 0 6).toInt = 4096 - (a.1 0 6).toInt := sOkE zm rfl (by omega) (by omega)
  refine ⟨fun c => Or.inl ⟨Or.inl (by rw [c]; exact z0), fr⟩, fun c => ⟨fun c2 => Or.inl ⟨Or.inr (Or.inl ?_), fr⟩, fun c2 => ⟨fun c3 => ?_, fun c3 => Or.inl ⟨Or.inr (Or.inr ?_), fr⟩⟩⟩⟩
  · have := (ltE (rfl : x1.toInt = _) z0).mp c2
    omega
  · have n0 : (a.1 0 6).toInt ≠ 0 := fun w => c (Int32.toInt_inj.mp (by rw [z0]; exact w))
    have q1 := (notltE (rfl : x1.toInt = x1.toInt) z0).mp c2
    have q2 := (leE (rfl : x1.toInt = x1.toInt) es).mp c3
    have cx := clE (rfl : x1.toInt = _) (by omega)
    refine ⟨⟨by decide, c2, fun w => ?_, ?_, ?_⟩, fun i => ?_, fun s7 e7 => ?_⟩
    · have := (ltE (rfl : (a.1 0 6).toInt = _) z0).mp w
      omega
    · rw [show (0 : Int32).toNatClampNeg = 0 from rfl]
      omega
    · omega
    · rw [fr 10 i (by omega)]
      have r := hg 10 i
      exact by_fit r.1 r.2
    · have f7 : ∀ c i : Nat, c ≠ 12 → s7.1 c i = s2.1 c i := fun c i q => by
        rw [e7]
        show (uc _ 12 _).1 c i = _
        rw [uc_ne q]
      have m7 : ∀ x : Nat, ¬ (x1.toInt ≤ (x : Int) ∧ (x : Int) < x1.toInt + (a.1 0 6).toInt) → s7.1 12 x = a.1 12 x := fun x q => by
        rw [e7]
        show (uc _ 12 _).1 12 x = _
        rw [uc_at]
        show (if x1.toNatClampNeg ≤ x ∧ x < x1.toNatClampNeg + (a.1 0 6).toNatClampNeg then _ else s2.1 12 x) = _
        rw [if_neg (by omega)]
        exact fr 12 x (by omega)
      have ea : (x1 + a.1 0 6).toInt = x1.toInt + (a.1 0 6).toInt := aOkE rfl rfl (by omega) (by omega)
      refine c_drop (a := a) (lo := x1.toInt) (hi := x1.toInt + (a.1 0 6).toInt) rfl ea (fun i => (f7 2 i (by decide)).trans (fr 2 i (by omega))) (fun i => (f7 13 i (by decide)).trans (fr 13 i (by omega))) (fun τ f dc => Or.inr ⟨by omega, by omega, by omega, dc, fun x q => ?_⟩)
      rw [f 12 x (by omega)]
      exact m7 x q
  · have := (notleE (rfl : x1.toInt = x1.toInt) es).mp c3
    omega
theorem r_load (hN : 4294967400 ≤ N) (hg : ∀ c j : Nat, Rg1 c j (a.1 c j)) (h : Rbt (X4 k) a b) : fX11_load N x1 (fun r1 τ1 => fX12_load N x1 (fun r2 τ2 => Rbt (X4 k) τ1 τ2) b) a := by
  obtain ⟨hB, hx, hc, hs, hk⟩ := h.2.2.2.1
  have e63 : a.1 0 6 = b.1 0 3 := h.1.at 0 6 0 3 (by decide)
  have d3 := K2.g_0_3 (K2.self h.2.2.2.2.1)
  refine cm_fX11_load (fun _ τ => CL a x1 τ) (fun r1 τ1 => fX12_load N x1 (fun r2 τ2 => Rbt Xr τ1 τ2) b) _ (fun r1 τ1 hcl hq => ?_) (c_loadT hg) (p_load hN hg h.xr)
  refine cm_fX12_load _ _ _ (fun r2 τ2 hr hv => ?_) hq (v_loadT hN h.2.2.2.2.1 hc.nn (hc.hz hB))
  have mem : ∀ x : Nat, x < 4096 → τ1.1 12 x = a.1 12 x → τ2.1 1 x = b.1 1 x := fun x hx q => by rw [← hr.2.1 x hx, q, h.2.1 x hx]
  rcases hcl with ⟨q1, q2⟩ | ⟨q1, q2, q3, q4, q5⟩
  · have hf : τ2.2 = b.2 ∧ τ2.1 0 6 = b.1 0 6 ∧ τ2.1 0 1 = b.1 0 1 ∧ τ2.1 0 7 = b.1 0 7 := by
      rcases hv with ⟨v0, v⟩ | v
      · refine ⟨v.1.1, v.2.1, v.2.2.1, ?_⟩
        rcases v.2.2.2 with w | ⟨w, x, w1, w2, w3⟩
        · exact w.1
        · rw [e63] at q1
          have := clE (rfl : (b.1 0 3).toInt = _) d3.1
          omega
      · exact ⟨v.2.2.2, v.2.2.1 6 (by omega), v.2.2.1 1 (by omega), v.2.2.1 7 (by omega)⟩
    obtain ⟨f1, f2, f3, f4⟩ := hf
    refine hr.imp ⟨by rw [f3]; exact hB, hr.2.2.2.1, hc.ext hB (fun i => q2 2 i (by omega)) (fun i q => ?_) (by rw [f1]) (fun x hx => mem x (by omega) (q2 12 x (by omega))), hs.ext (q2 2 3 (by omega)) (fun i => q2 13 i (by omega)), by rw [q2 2 3 (by omega)]; exact hk⟩
    rcases q with q | q | q
    · rw [q]; exact f3
    · rw [q]; exact f2
    · rw [q]; exact f4
  · rw [e63] at q1 q3 q4 q5
    have cx := clE (rfl : x1.toInt = _) q2
    have cn := clE (rfl : (b.1 0 3).toInt = _) (by omega)
    rcases hv with ⟨_, v⟩ | v
    · refine hr.imp ⟨by rw [v.2.2.1]; exact hB, hr.2.2.2.1, Cch.told (lo := x1.toNatClampNeg) (hi := x1.toNatClampNeg + (b.1 0 3).toNatClampNeg) hc hB v (fun x x1' x2' => mem x x1' (q5 x (by omega))) ?_ (by omega), hs.ext q4.1 q4.2.1, by rw [q4.1]; exact hk⟩
      rcases q4.2.2 with w | w
      · exact Or.inl ⟨w.1, by rcases w.2 with w | w; exact Or.inl (by omega); exact Or.inr (by omega)⟩
      · exact Or.inr ⟨w.1, fun z => w.2 (by rcases z with z | z; exact Or.inl (by omega); exact Or.inr (by omega))⟩
    · exact absurd ⟨q2, q3⟩ v.1
end CACHE13
