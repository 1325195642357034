section CACHE8
variable {a b a' b' : St} {N : Nat} {k k' : Int} {x1 x2 : Int32}
theorem Rbt.imp {X Y : St → St → Prop} (h : Rbt X a b) (hx : Y a b) : Rbt Y a b := ⟨h.1, h.2.1, h.2.2.1, hx, h.2.2.2.2.1, h.2.2.2.2.2.1, h.2.2.2.2.2.2⟩
theorem Rbt.xr (h : Rbt (X4 k) a b) : Rbt Xr a b := h.imp h.2.2.2.1.2.1
theorem X4.mono (h : X4 k a b) (hk : k ≤ k') : X4 k' a b := ⟨h.1, h.2.1, h.2.2.1, h.2.2.2.1, by have := h.2.2.2.2; omega⟩
theorem Rbt.mono4 (h : Rbt (X4 k) a b) (hk : k ≤ k') : Rbt (X4 k') a b := h.imp (h.2.2.2.1.mono hk)
theorem Rbt.lift (h : Rbt (X4 k) a b) (h2 : Rbt Xr a' b') (f1 : FA a a') (f2 : FB b b') : Rbt (X4 k) a' b' := by
  obtain ⟨q1, q2, q3, q4, q5⟩ := h.2.2.2.1
  refine h2.imp ⟨by rw [f2.2.1 1 (by omega)]; exact q1, h2.2.2.2.1, q3.ext q1 f1.1 (fun i w => f2.2.1 i w) (by rw [f2.2.2]) (fun x _ => f2.1 x), q4.ext (f1.1 3) f1.2, by rw [f1.1 3]; exact q5⟩
theorem FA.rf : FA a a := ⟨fun _ => rfl, fun _ => rfl⟩
theorem FB.rf : FB b b := ⟨fun _ => rfl, fun _ _ => rfl, rfl⟩
theorem r_feed (hN : 4294967400 ≤ N) {x2 : Int64} (h : Rbt (X4 k) a b) : fX11_feed N x1 x2 (fun r1 τ1 => fX12_feed N x1 x2 (fun r2 τ2 => r1 = r2 ∧ Rbt (X4 k) τ1 τ2) b) a :=
  fr_fX11_feed (a := a) FA.rf _ _ (fun r1 τ1 f1 hq => fr_fX12_feed (b := b) FB.rf _ _ (fun r2 τ2 f2 q => ⟨q.1, h.lift q.2 f1 f2⟩) hq) (p_feed hN h.xr)
theorem r_sign (h : Rbt (X4 k) a b) : fX11_sign N x1 (fun r1 τ1 => fX12_sign N x1 (fun r2 τ2 => r1 = r2 ∧ Rbt (X4 k) τ1 τ2) b) a :=
  fr_fX11_sign (a := a) FA.rf _ _ (fun r1 τ1 f1 hq => fr_fX12_sign (b := b) FB.rf _ _ (fun r2 τ2 f2 q => ⟨q.1, h.lift q.2 f1 f2⟩) hq) (p_sign h.xr)
theorem r_piece (hN : 4294967400 ≤ N) (h : Rbt (X4 k) a b) : fX11_piece N x1 (fun r1 τ1 => fX12_piece N x1 (fun r2 τ2 => r1 = r2 ∧ Rbt (X4 k) τ1 τ2) b) a :=
  fr_fX11_piece (a := a) FA.rf _ _ (fun r1 τ1 f1 hq => fr_fX12_piece (b := b) FB.rf _ _ (fun r2 τ2 f2 q => ⟨q.1, h.lift q.2 f1 f2⟩) hq) (p_piece hN h.xr)
theorem r_text (hN : 4294967400 ≤ N) (h : Rbt (X4 k) a b) : fX11_text N (fun r1 τ1 => fX12_text N (fun r2 τ2 => r1 = r2 ∧ Rbt (X4 k) τ1 τ2) b) a :=
  fr_fX11_text (a := a) FA.rf _ _ (fun r1 τ1 f1 hq => fr_fX12_text (b := b) FB.rf _ _ (fun r2 τ2 f2 q => ⟨q.1, h.lift q.2 f1 f2⟩) hq) (p_text hN h.xr)
theorem r_laid (hN : 4294967400 ≤ N) (h : Rbt (X4 k) a b) : fX11_laid N x1 x2 (fun r1 τ1 => fX12_laid N x1 x2 (fun r2 τ2 => r1 = r2 ∧ Rbt (X4 k) τ1 τ2) b) a :=
  fr_fX11_laid (a := a) FA.rf _ _ (fun r1 τ1 f1 hq => fr_fX12_laid (b := b) FB.rf _ _ (fun r2 τ2 f2 q => ⟨q.1, h.lift q.2 f1 f2⟩) hq) (p_laid hN h.xr)
theorem r_bits (h : Rbt (X4 k) a b) : fX11_bits N x1 (fun r1 τ1 => fX12_bits N x1 (fun r2 τ2 => r1 = r2 ∧ Rbt (X4 k) τ1 τ2) b) a :=
  fr_fX11_bits (a := a) FA.rf _ _ (fun r1 τ1 f1 hq => fr_fX12_bits (b := b) FB.rf _ _ (fun r2 τ2 f2 q => ⟨q.1, h.lift q.2 f1 f2⟩) hq) (p_bits h.xr)
theorem r_forget (h : Rbt (X4 k) a b) : fX11_forget N (fun r1 τ1 => fX12_forget N (fun r2 τ2 => r1 = r2 ∧ Rbt (X4 k) τ1 τ2) b) a :=
  fr_fX11_forget (a := a) FA.rf _ _ (fun r1 τ1 f1 hq => fr_fX12_forget (b := b) FB.rf _ _ (fun r2 τ2 f2 q => ⟨q.1, h.lift q.2 f1 f2⟩) hq) (p_forget h.xr)
/-- the border: the cache is dropped on both sides -/
theorem r_border (h : Rbt (X4 k) a b) : fX11_border N x1 (fun r1 τ1 => fX12_border N x1 (fun r2 τ2 => r1 = r2 ∧ Rbt (X4 k) τ1 τ2) b) a := by
  have z0 : (0 : Int32).toInt = 0 := by decide
  have zm : (4096 : Int32).toInt = 4096 := by decide
  have z0L : (0 : Int64).toInt = 0 := by decide
  have zmL : (4096 : Int64).toInt = 4096 := by decide
  have e64 : x1.toInt64.toInt = x1.toInt := i2lE rfl
  have e1 : a.1 1 1 = b.1 0 1 := h.1.at 1 1 0 1 (by decide)
  obtain ⟨hB, hx, hc, hs, hk⟩ := h.2.2.2.1
  have no : (x1.toInt < 0 ∨ 4096 < x1.toInt) → fX12_border N x1 (fun r2 τ2 => -2 = r2 ∧ Rbt (X4 k) a τ2) b := by
    intro w
    unfold fX12_border fX12_in
    refine ⟨fun _ => ⟨fun _ => ⟨rfl, h⟩, fun q => absurd rfl q⟩, fun w1 => ⟨fun _ => ⟨fun _ => ⟨rfl, h⟩, fun q => absurd rfl q⟩, fun w2 => ?_⟩⟩
    have := (notltE64 e64 z0L).mp w1
    have := (notltE64 zmL e64).mp w2
    omega
  unfold fX11_border
  refine ⟨fun c => no (Or.inl ?_), fun c => ⟨fun c2 => ?_, fun c2 => no (Or.inr ?_)⟩⟩
  · have := (ltE (rfl : x1.toInt = x1.toInt) z0).mp c
    omega
  · have c' := (notltE (rfl : x1.toInt = x1.toInt) z0).mp c
    have c2' := (leE (rfl : x1.toInt = x1.toInt) zm).mp c2
    intro v3 ev3 s4 e4 s5 e5 s6 e6 s7 e7
    unfold fX12_border fX12_in
    refine ⟨fun w => ?_, fun _ => ⟨fun w => ?_, fun _ => ⟨fun q => absurd q (by decide), fun _ w4 ew4 t5 f5 t6 f6 => ⟨by rw [ev3, ew4, e1], ?_⟩⟩⟩⟩
    · have := (ltE64 e64 z0L).mp w
      omega
    · have := (ltE64 zmL e64).mp w
      omega
    · have base : Rbt Xr (u1 a 1 1 x1) (u1 (u1 b 0 1 x1) 0 7 0) := by
        refine h.mv (fun c i q => u1e (by omega)) (fun c i q => (u1e (by omega)).trans (u1e (by omega))) ((h.1.ab (by decide)).b (by decide)) (h.2.1.fr (fun i => u1e (by omega)) (fun i => (u1e (by omega)).trans (u1e (by omega)))) (hx.ext (fun c i q => u1e (by omega)) (fun c i q => (u1e (by omega)).trans (u1e (by omega)))) ?_
        refine (h.2.2.2.2.1.uf (by simp [Rg2, In32]; omega) (by decide)).uf (by simp [Rg2, In32] <;> decide) (by decide)
      have fr : ∀ c i : Nat, ¬ (c = 2 ∧ 5 ≤ i ∧ i ≤ 7) → s7.1 c i = (u1 a 1 1 x1).1 c i := fun c i q => by rw [e7, u1e (by omega), e6, u1e (by omega), e5, u1e (by omega), e4]
      have R : Rbt Xr s7 (u1 (u1 b 0 1 x1) 0 7 0) := base.cache (fun c i q => fr c i (by omega))
      rw [f6, f5]
      refine R.imp ⟨?_, R.2.2.2.1, Or.inr ⟨?_, ?_, fun q => ?_⟩, hs.ext ?_ (fun i => ?_), ?_⟩
      · rw [u1e (by omega), u1v]; omega
      · rw [e7, u1v, u1v]
      · rw [u1v, z0]; exact Int.le_refl _
      · rw [u1v, z0] at q; omega
      · rw [fr 2 3 (by omega), u1e (by omega)]
      · rw [fr 13 i (by omega), u1e (by omega)]
      · rw [fr 2 3 (by omega), u1e (by omega)]; exact hk
  · have := (notleE (rfl : x1.toInt = x1.toInt) zm).mp c2
    omega
theorem r_table (hN : 4294967400 ≤ N) (hk : k < 1000000) (h : Rbt (X4 k) a b) : fX11_table N x1 (fun r1 τ1 => fX12_table N x1 (fun r2 τ2 => r1 = r2 ∧ Rbt (X4 (k + 1)) τ1 τ2) b) a := by
  have ed : a.1 3 7 = b.1 0 14 := h.1.at 3 7 0 14 (by decide)
  have hr := h.ru X4.xa
  unfold fX11_table
  rw [ed]
  refine ⟨fun c => ?_, fun c => ?_⟩
  · refine mk_tell (a := a) (x := x1) (fun s => Ft a x1 s → fX8_cachedNodes N (fun r_4 σ_3 => fX12_table N x1 (fun r2 τ2 => r_4 = r2 ∧ Rbt (X4 (k + 1)) σ_3 τ2) b) s) _ (fun s hF hs => hs hF) (X4.xt (k := k) hN a (u1 b 0 9 0) x1 hr u1v _ (fun a' b' h' run hF => ?_))
    have f0 : b'.1 0 9 = 0 := by rw [← h'.f, hF.1 3 11 (by omega)]; exact h.2.2.2.2.2.1
    have R := h'.rr f0
    refine c_cachedX hN hk h'.m h'.x (fun τ hc hx => ?_)
    unfold fX12_table
    refine ⟨fun _ t et => ?_, fun w => absurd c w⟩
    rw [et]
    refine run _ ⟨rfl, ?_⟩
    have Rc : Rbt Xr τ b' := Rbt.cache R.xr (fun c i q => hc c i (by omega))
    exact Rc.imp hx
  · unfold fX12_table
    exact ⟨fun w => absurd w c, fun _ => ⟨rfl, h.mono4 (by omega)⟩⟩
theorem r_told (hN : 4294967400 ≤ N) (hk : k < 1000000) (h : Rbt (X4 k) a b) : fX11_told N x1 (fun r1 τ1 => fX12_told N x1 (fun r2 τ2 => r1 = r2 ∧ Rbt (X4 (k + 1)) τ1 τ2) b) a := by
  have s := h.1
  have hm := h.mono4 (k' := k + 1) (by omega)
  unfold fX11_told
  refine ⟨fun c => ?_, fun c8 => ⟨fun c => ?_, fun c9 => ⟨fun c => ?_, fun c10 => ⟨fun c => ?_, fun c11 => ⟨fun c => ?_, fun c12 => ⟨fun c => ?_, fun c13 => ⟨fun c => ?_, fun c14 => ⟨fun c => ?_, fun c15 => ⟨fun c => ?_, fun c16 => ⟨fun c => ?_, fun c17 => ?_⟩⟩⟩⟩⟩⟩⟩⟩⟩⟩
  · subst c; simp [fX12_told]; exact ⟨s.at 3 9 0 12 (by decide), hm⟩
  · subst c; simp [fX12_told]; exact ⟨s.at 3 10 0 13 (by decide), hm⟩
  · subst c; simp [fX12_told]; exact ⟨s.at 2 8 0 6 (by decide), hm⟩
  · subst c; simp [fX12_told]; exact ⟨s.at 1 1 0 1 (by decide), hm⟩
  · subst c; simp [fX12_told]; exact ⟨s.at 3 8 0 24 (by decide), hm⟩
  · subst c; simp [fX12_told]; exact ⟨s.at 0 6 0 3 (by decide), hm⟩
  · subst c; simp [fX12_told]; exact ⟨h.2.2.2.1.2.1.1.1, hm⟩
  · subst c
    refine c_cachedX hN hk h.2.1 h.2.2.2.1 (fun τ hc hx => ?_)
    simp [fX12_told]
    exact Rbt.imp (Rbt.cache h.xr (fun c i q => hc c i (by omega))) hx
  · subst c; simp [fX12_told]; exact ⟨s.at 6 5 0 36 (by decide), hm⟩
  · subst c; simp [fX12_told]; exact ⟨s.at 7 4 0 41 (by decide), hm⟩
  · unfold fX9_tell
    refine ⟨fun c => ?_, fun c0 => ⟨fun c => ?_, fun c1 => ⟨fun c => ?_, fun c2 => ⟨fun c => ?_, fun c3 => ⟨fun c => ?_, fun c4 => ⟨fun c => ?_, fun c5 => ⟨fun c => ?_, fun c6 => ⟨fun c => ?_, fun c7 => ?_⟩⟩⟩⟩⟩⟩⟩⟩
    · subst c; simp [fX12_told]; exact ⟨s.at 5 0 0 25 (by decide), hm⟩
    · subst c; simp [fX12_told]; exact ⟨s.at 5 1 0 26 (by decide), hm⟩
    · subst c; simp [fX12_told]; exact ⟨s.at 5 2 0 27 (by decide), hm⟩
    · subst c; simp [fX12_told]; exact ⟨s.at 5 3 0 28 (by decide), hm⟩
    · subst c; simp [fX12_told]; exact ⟨s.at 5 4 0 29 (by decide), hm⟩
    · subst c; simp [fX12_told]; exact ⟨s.at 5 5 0 30 (by decide), hm⟩
    · subst c; simp [fX12_told]; exact ⟨s.at 5 6 0 31 (by decide), hm⟩
    · subst c; simp [fX12_told]; exact ⟨s.at 5 7 0 32 (by decide), hm⟩
    · unfold fX12_told
      simp only [c0, c1, c2, c3, c4, c5, c6, c7, c8, c9, c10, c11, c12, c13, c14, c15, c16, c17, false_implies, not_false_eq_true, true_implies, true_and, and_true]
      exact hm
end CACHE8
