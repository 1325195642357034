section CACHE14
variable {a b c σ0 : St} {N : Nat} {lo hi : Nat}
/-- addresses from k up to z, and those of D -/
def iv (D : Nat → Prop) (k : Nat) (z : Int) : Nat → Prop := fun x => D x ∨ (k ≤ x ∧ (x : Int) < z)
theorem v_piece (hN : 4294967400 ≤ N) {x3 v2 : Int32} {p k : Nat} {D : Nat → Prop} {Q : St → Prop} {τ : St} (hlo : lo ≤ k) (hhi : (k : Int) + szf b p ≤ hi) (h4096 : hi ≤ 4096) (hc : 0 ≤ (c.1 0 7).toInt) (hz : 0 < (c.1 0 7).toInt → 0 ≤ (c.2 0 8).toInt ∧ (c.2 0 8).toInt ≤ 100000) (ep : x3.toInt = p) (hp : p < 60) (e2 : v2.toInt = k) (pi : (b.1 16 p).toInt = 3 ∨ (b.1 16 p).toInt = 5 ∨ (((b.1 16 p).toInt = 2 ∨ (b.1 16 p).toInt = 4 ∨ (b.1 16 p).toInt = 8 ∨ (b.1 16 p).toInt = 9) ∧ (b.1 18 p).toInt = 1)) (hb : K2 σ0 b) (hτ : K2 σ0 τ) (fτ : ∀ c i : Nat, c = 16 ∨ c = 17 ∨ c = 18 → τ.1 c i = b.1 c i) (hV : Vt c lo hi τ D) {x4 : Int32} (h4 : (x4 = 0 ∧ 3 < (b.1 16 p).toInt) ∨ (x4 ≠ 0 ∧ (b.1 16 p).toInt ≤ 3)) (hQ : ∀ υ : St, K2 σ0 υ → FrT τ υ → Vt c lo hi υ (iv D k (k + szf b p)) → Q υ) : fX12_lay_j101 N v2 x3 x4 Q τ := by
  have z0 : (0 : Int32).toInt = 0 := by decide
  have o1 : (1 : Int32).toInt = 1 := by decide
  have o3 : (3 : Int32).toInt = 3 := by decide
  have o4 : (4 : Int32).toInt = 4 := by decide
  have o5 : (5 : Int32).toInt = 5 := by decide
  have o20 : (20 : Int32).toInt = 20 := by decide
  have cp : x3.toNatClampNeg = p := by have := clE ep (by omega); omega
  have hin : vp_in x3 60 := inE ep (by omega) (by omega)
  have dl := dhE hb p
  have q3 : b.1 16 p = 3 ↔ (b.1 16 p).toInt = 3 := eqE rfl o3
  have q5 : b.1 16 p = 5 ↔ (b.1 16 p).toInt = 5 := eqE rfl o5
  have sz := szf_le hb p
  unfold fX12_lay_j101
  rw [cp, fτ 16 p (by omega)]
  refine ⟨hin, v_put e2 hlo (by omega) h4096 hc hz hV hτ (fun s1 k1 f1 m1 v12 e12 => ?_)⟩
  have g1 : ∀ c i : Nat, c = 16 ∨ c = 17 ∨ c = 18 → s1.1 c i = b.1 c i := fun c i q => (f1 c i (by omega)).trans (fτ c i q)
  have f12 : v12.toInt = (k : Int) + 1 := (congrArg Int32.toInt e12).trans (aOkE e2 o1 (by omega) (by omega))
  have m1' : Vt c lo hi s1 (iv D k ((k : Int) + 1)) := m1.ext rfl (fun _ _ => rfl) (fun x d => by rcases d with d | d; exact Or.inl d; exact Or.inr (by omega))
  rcases h4 with ⟨hx, hk⟩ | ⟨hx, hk⟩
  · have eS : szf b p = 1 + 4 * (dh b p : Int) + (if (b.1 16 p).toInt = 5 then 4 else 0) := by
      unfold szf
      rw [if_neg (by omega), if_neg (by omega)]
      rcases pi with w | w | w
      · omega
      · rw [if_pos w, if_pos w]; omega
      · rw [if_neg (by omega), if_neg (by omega)]; omega
    refine lo2_i (fun (x y : Int32) (υ : St) => K2 σ0 υ ∧ FrT τ υ ∧ 0 ≤ y.toInt ∧ y.toInt ≤ dh b p ∧ x.toInt = (k : Int) + 1 + 4 * y.toInt ∧ Vt c lo hi υ (iv D k ((k : Int) + 1 + 4 * y.toInt))) (fun _ y _ => ((dh b p : Int) - y.toInt).toNat) ?_ N v12 0 s1 ⟨k1, f1, by omega, by omega, by omega, by rw [z0]; exact m1'⟩ (by (try dsimp only); omega)
    intro rr x y υ hI ih
    obtain ⟨hυ, fυ, i1, i2, i3, i4⟩ := hI
    have ey := clE (rfl : y.toInt = y.toInt) i1
    have gυ : ∀ c i : Nat, c = 16 ∨ c = 17 ∨ c = 18 → υ.1 c i = b.1 c i := fun c i q => (fυ c i (by omega)).trans (fτ c i q)
    have e18 : (υ.1 18 p).toInt = dh b p := by rw [gυ _ _ (by omega)]; omega
    unfold fX12_lay_l120
    rw [cp, gυ 16 p (by omega)]
    refine ⟨hin, fun d => ⟨hin, fun g => ?_, fun g => ?_⟩, fun d => ⟨fun _ => ?_, fun g => absurd hx g⟩⟩
    · have := q3.mp g
      omega
    · have d' := (leE e18 (rfl : y.toInt = y.toInt)).mp d
      unfold fX12_lay_j208
      rw [cp, gυ 16 p (by omega)]
      refine ⟨hin, fun q => ?_, fun q => hQ υ hυ fυ (i4.ext rfl (fun _ _ => rfl) (fun x d => ?_))⟩
      · have q' := q5.mp q
        rw [if_pos q'] at eS
        refine v_putF hN (j := k + 1 + 4 * dh b p) (by rw [i3]; omega) (by omega) (by omega) h4096 hc hz i4 hυ (fun ω kω fω mω => hQ ω kω (fυ.tr fω) (mω.ext rfl (fun _ _ => rfl) (fun x d => ?_)))
        rcases d with d | d
        · exact Or.inl (Or.inl d)
        · by_cases w : (x : Int) < (k : Int) + 1 + 4 * y.toInt
          · exact Or.inl (Or.inr ⟨d.1, w⟩)
          · exact Or.inr (by omega)
      · have nq : ¬ (b.1 16 p).toInt = 5 := fun w => q (q5.mpr w)
        rw [if_neg nq] at eS
        rcases d with d | d
        · exact Or.inl d
        · exact Or.inr ⟨d.1, by have := d.2; omega⟩
    · have d' := (notleE e18 (rfl : y.toInt = y.toInt)).mp d
      have es : (20 * x3 + y).toInt = 20 * (p : Int) + y.toInt := aOkE (mOkE o20 ep (by omega) (by omega)) rfl (by omega) (by omega)
      have cs : (20 * x3 + y).toNatClampNeg = 20 * p + y.toNatClampNeg := by have := clE es (by omega); omega
      have nn : (0 : Int) ≤ (if (b.1 16 p).toInt = 5 then 4 else 0) := by split <;> omega
      rw [cs, gυ 17 _ (by omega)]
      refine ⟨inE es (by omega) (by omega), v_putF hN (j := k + 1 + 4 * y.toNatClampNeg) (by rw [i3]; omega) (by omega) (by omega) h4096 hc hz i4 hυ (fun ω kω fω mω => ⟨fun _ => ?_, fun q => absurd hx q⟩)⟩
      intro v22 ev22 v23 ev23
      have f22 : v22.toInt = x.toInt + 4 := (congrArg Int32.toInt ev22).trans (aOkE rfl o4 (by omega) (by omega))
      have f23 : v23.toInt = y.toInt + 1 := (congrArg Int32.toInt ev23).trans (aOkE rfl o1 (by omega) (by omega))
      refine ih v22 v23 ω ⟨kω, fυ.tr fω, by omega, by omega, by omega, mω.ext rfl (fun _ _ => rfl) (fun x d => ?_)⟩ (by (try dsimp only); omega)
      rcases d with d | d
      · exact Or.inl (Or.inl d)
      · by_cases w : (x : Int) < (k : Int) + 1 + 4 * y.toInt
        · exact Or.inl (Or.inr ⟨d.1, w⟩)
        · exact Or.inr (by omega)
  · have eS : szf b p = 1 + (dh b p : Int) + (if (b.1 16 p).toInt = 3 then 1 else 0) := by
      unfold szf
      rcases pi with w | w | w
      · rw [if_neg (by omega), if_pos w, if_pos w]; omega
      · omega
      · rw [if_pos (by omega), if_neg (by omega)]; omega
    have nn : (0 : Int) ≤ (if (b.1 16 p).toInt = 3 then 1 else 0) := by split <;> omega
    refine lo2_i (fun (x y : Int32) (υ : St) => K2 σ0 υ ∧ FrT τ υ ∧ 0 ≤ y.toInt ∧ y.toInt ≤ dh b p ∧ x.toInt = (k : Int) + 1 + y.toInt ∧ Vt c lo hi υ (iv D k ((k : Int) + 1 + y.toInt))) (fun _ y _ => ((dh b p : Int) - y.toInt).toNat) ?_ N v12 0 s1 ⟨k1, f1, by omega, by omega, by omega, by rw [z0]; exact m1'⟩ (by (try dsimp only); omega)
    intro rr x y υ hI ih
    obtain ⟨hυ, fυ, i1, i2, i3, i4⟩ := hI
    have ey := clE (rfl : y.toInt = y.toInt) i1
    have gυ : ∀ c i : Nat, c = 16 ∨ c = 17 ∨ c = 18 → υ.1 c i = b.1 c i := fun c i q => (fυ c i (by omega)).trans (fτ c i q)
    have e18 : (υ.1 18 p).toInt = dh b p := by rw [gυ _ _ (by omega)]; omega
    unfold fX12_lay_l120
    rw [cp, gυ 16 p (by omega)]
    refine ⟨hin, fun d => ⟨hin, fun g => ?_, fun g => ?_⟩, fun d => ⟨fun g => absurd g hx, fun _ => ?_⟩⟩
    · have d' := (leE e18 (rfl : y.toInt = y.toInt)).mp d
      have g' := q3.mp g
      rw [if_pos g'] at eS
      refine v_put (j := k + 1 + dh b p) (by rw [i3]; omega) (by omega) (by omega) h4096 hc hz i4 hυ (fun ω kω fω mω => ?_)
      unfold fX12_lay_j208
      rw [cp, fω 16 p (by omega), gυ 16 p (by omega)]
      refine ⟨hin, fun q => ?_, fun q => hQ ω kω (fυ.tr fω) (mω.ext rfl (fun _ _ => rfl) (fun x d => ?_))⟩
      · have := q5.mp q
        omega
      · rcases d with d | d
        · exact Or.inl (Or.inl d)
        · by_cases w : (x : Int) < (k : Int) + 1 + y.toInt
          · exact Or.inl (Or.inr ⟨d.1, w⟩)
          · exact Or.inr (by omega)
    · have d' := (leE e18 (rfl : y.toInt = y.toInt)).mp d
      have nq : ¬ (b.1 16 p).toInt = 3 := fun w => g (q3.mpr w)
      rw [if_neg nq] at eS
      unfold fX12_lay_j208
      rw [cp, gυ 16 p (by omega)]
      refine ⟨hin, fun q => ?_, fun q => hQ υ hυ fυ (i4.ext rfl (fun _ _ => rfl) (fun x d => ?_))⟩
      · have := q5.mp q
        omega
      · rcases d with d | d
        · exact Or.inl d
        · exact Or.inr ⟨d.1, by have := d.2; omega⟩
    · have d' := (notleE e18 (rfl : y.toInt = y.toInt)).mp d
      have es : (20 * x3 + y).toInt = 20 * (p : Int) + y.toInt := aOkE (mOkE o20 ep (by omega) (by omega)) rfl (by omega) (by omega)
      have cs : (20 * x3 + y).toNatClampNeg = 20 * p + y.toNatClampNeg := by have := clE es (by omega); omega
      rw [cs, gυ 17 _ (by omega)]
      refine ⟨inE es (by omega) (by omega), v_put (j := k + 1 + y.toNatClampNeg) (by rw [i3]; omega) (by omega) (by omega) h4096 hc hz i4 hυ (fun ω kω fω mω => ⟨fun q => absurd q hx, fun _ => ?_⟩)⟩
      intro v22 ev22 v23 ev23
      have f22 : v22.toInt = x.toInt + 1 := (congrArg Int32.toInt ev22).trans (aOkE rfl o1 (by omega) (by omega))
      have f23 : v23.toInt = y.toInt + 1 := (congrArg Int32.toInt ev23).trans (aOkE rfl o1 (by omega) (by omega))
      refine ih v22 v23 ω ⟨kω, fυ.tr fω, by omega, by omega, by omega, mω.ext rfl (fun _ _ => rfl) (fun x d => ?_)⟩ (by (try dsimp only); omega)
      rcases d with d | d
      · exact Or.inl (Or.inl d)
      · by_cases w : (x : Int) < (k : Int) + 1 + y.toInt
        · exact Or.inl (Or.inr ⟨d.1, w⟩)
        · exact Or.inr (by omega)
/-- how many bytes a knot has of its own -/
def own (τ : St) (L k : Nat) : Int := if L ≤ k then 9 else (τ.1 33 k).toInt
theorem v_node (hN : 4294967400 ≤ N) {x1 : Int32} {k L n : Nat} {base : Int} {D : Nat → Prop} {Q : St → Prop} {τ υ : St} (hlo : (lo : Int) ≤ base) (hhi : base + (τ.1 33 (n - 1)).toInt ≤ hi) (h4096 : hi ≤ 4096) (hc : 0 ≤ (c.1 0 7).toInt) (hz : 0 < (c.1 0 7).toInt → 0 ≤ (c.2 0 8).toInt ∧ (c.2 0 8).toInt ≤ 100000) (hb : K2 σ0 b) (hυ : K2 σ0 υ) (hf : FrC τ υ) (pτ : Kp b τ) (hT : TK b τ L n) (hP : PD τ L n L base) (ek : x1.toInt = k) (hk : k < n) (hV : Vt c lo hi υ D) (hQ : ∀ ω : St, K2 σ0 ω → FrT υ ω → Vt c lo hi ω (iv D (pl τ k) ((pl τ k : Int) + own τ L k)) → Q ω) : fX12_lay N x1 Q υ := by
  have o1 : (1 : Int32).toInt = 1 := by decide
  have o3 : (3 : Int32).toInt = 3 := by decide
  have o5 : (5 : Int32).toInt = 5 := by decide
  have b36 := K2.g_0_36 hb
  obtain ⟨⟨t1, t2, t3, t4, t5⟩, tk, ta, ts, tr, tl, _⟩ := id hT
  have ck : x1.toNatClampNeg = k := by have := clE ek (by omega); omega
  have bd := PD.bd hT hP (i := k) hk
  have sk := ts k hk
  have hin : vp_in x1 122 := inE ek (by omega) (by omega)
  have e34 : ∀ i : Nat, υ.1 34 i = τ.1 34 i := fun i => hf 34 i (by omega)
  have cpl : (τ.1 34 k).toInt = (pl τ k : Nat) := (clE rfl (by omega)).symm
  have e51 : (υ.1 0 51).toInt = L := by rw [hf _ _ (by omega)]; exact t1
  unfold fX12_lay
  rw [ck, e34, hf 27 k (by omega)]
  refine ⟨hin, fun v2 ev2 => ⟨fun c => ⟨hin, fun d => ?_, fun d => ?_⟩, fun c => ?_⟩⟩
  · have c' := (ltE ek e51).mp c
    have k0 : k = 0 := by
      by_cases w : k = 0
      · exact w
      · have := (tl.2.2 k (by omega) (by omega)).1
        rw [d] at this
        exact absurd this (by decide)
    have s1 : (τ.1 33 k).toInt = 1 := by rw [k0]; exact tl.2.1
    rw [ev2]
    refine v_put cpl (by omega) (by omega) h4096 hc hz hV hυ (fun ω kω fω mω => hQ ω kω fω (mω.ext rfl (fun _ _ => rfl) (fun x q => ?_)))
    rcases q with q | q
    · exact Or.inl q
    · unfold own at q
      rw [if_neg (by omega), s1] at q
      exact Or.inr (by omega)
  · have c' := (ltE ek e51).mp c
    have k0 : k ≠ 0 := fun w => by rw [w] at d; exact d tl.1
    obtain ⟨l1, l2, l3⟩ := tl.2.2 k (by omega) (by omega)
    refine ⟨hin, fun v7 ev7 => ?_⟩
    have c7 := clE (rfl : (τ.1 27 k).toInt = _) l1
    have ep : v7.toInt = ((τ.1 27 k).toNatClampNeg : Nat) := by rw [ev7]; omega
    have cp : v7.toNatClampNeg = (τ.1 27 k).toNatClampNeg := by rw [ev7]
    have g : ∀ c i : Nat, c = 16 ∨ c = 17 ∨ c = 18 → υ.1 c i = b.1 c i := fun c i q => (hf c i (by omega)).trans (pτ c i (by omega))
    have key : ∀ x4 : Int32, ((x4 = 0 ∧ 3 < (b.1 16 (τ.1 27 k).toNatClampNeg).toInt) ∨ (x4 ≠ 0 ∧ (b.1 16 (τ.1 27 k).toNatClampNeg).toInt ≤ 3)) → fX12_lay_j101 N v2 v7 x4 Q υ := by
      intro x4 h4
      rw [ev2]
      refine v_piece (b := b) hN (by omega) (by rw [← l3]; omega) h4096 hc hz ep (by omega) cpl (hb.1.2.1 _ (by omega)) hb hυ g hV h4 (fun ω kω fω mω => hQ ω kω fω ?_)
      unfold own
      rw [if_neg (by omega), l3]
      exact mω
    rw [cp, g 16 _ (by omega)]
    refine ⟨inE ep (by omega) (by omega), fun q => key 0 (Or.inl ⟨rfl, (ltE o3 rfl).mp q⟩), fun q => key 1 (Or.inr ⟨by decide, ?_⟩)⟩
    have := (notltE o3 rfl).mp q
    omega
  · have c' := (notltE ek e51).mp c
    obtain ⟨z, o, qa, qb, qab, q30, q31, q33, _⟩ := tk k (by omega) hk
    have sa := ts z (by omega)
    have sb := ts o (by omega)
    have g1 : (τ.1 34 k + 1).toInt = (pl τ k + 1 : Nat) := aOkE cpl o1 (by omega) (by omega)
    have g5 : (τ.1 34 k + 5).toInt = (pl τ k + 5 : Nat) := aOkE cpl o5 (by omega) (by omega)
    rw [ev2]
    refine v_put cpl (by omega) (by omega) h4096 hc hz hV hυ (fun s1 k1 f1 m1 => ?_)
    rw [show s1.1 30 k = τ.1 30 k from (f1 _ _ (by omega)).trans (hf _ _ (by omega))]
    refine ⟨hin, inE q30 (by omega) (by omega), v_putF hN g1 (by omega) (by omega) h4096 hc hz m1 k1 (fun s2 k2 f2 m2 => ?_)⟩
    rw [show s2.1 31 k = τ.1 31 k from (f2 _ _ (by omega)).trans ((f1 _ _ (by omega)).trans (hf _ _ (by omega)))]
    refine ⟨hin, inE q31 (by omega) (by omega), v_putF hN g5 (by omega) (by omega) h4096 hc hz m2 k2 (fun s3 k3 f3 m3 => hQ s3 k3 ((f1.tr f2).tr f3) (m3.ext rfl (fun _ _ => rfl) (fun x q => ?_)))⟩
    rcases q with q | q
    · exact Or.inl (Or.inl (Or.inl q))
    · unfold own at q
      rw [if_pos (by omega)] at q
      by_cases w : x = pl τ k
      · exact Or.inl (Or.inl (Or.inr w))
      · by_cases w2 : x < pl τ k + 5
        · exact Or.inl (Or.inr (by omega))
        · exact Or.inr (by omega)
/-- every byte of a tree belongs to a knot -/
theorem cover {τ : St} {L n : Nat} {base : Int} (hT : TK b τ L n) (hP : PD τ L n L base) : ∀ k : Nat, k < n → ∀ x : Nat, (τ.1 34 k).toInt ≤ (x : Int) → (x : Int) < (τ.1 34 k).toInt + (τ.1 33 k).toInt → ∃ j : Nat, j < n ∧ (τ.1 34 j).toInt ≤ (x : Int) ∧ (x : Int) < (τ.1 34 j).toInt + own τ L j := by
  intro k
  induction k using Nat.strongRecOn with
  | ind k ih =>
    intro hk x h1 h2
    by_cases hL : L ≤ k
    · obtain ⟨z, o, qa, qb, qab, q30, q31, q33, _⟩ := hT.2.1 k hL hk
      have g := hP.2.2.1 k z o hL hL hk q30 q31
      by_cases w : (x : Int) < (τ.1 34 k).toInt + 9
      · refine ⟨k, hk, h1, ?_⟩
        unfold own
        rw [if_pos hL]
        exact w
      · by_cases w2 : (x : Int) < (τ.1 34 k).toInt + 9 + (τ.1 33 z).toInt
        · exact ih z qa (by omega) x (by omega) (by omega)
        · exact ih o qb (by omega) x (by omega) (by omega)
    · refine ⟨k, hk, h1, ?_⟩
      unfold own
      rw [if_neg hL]
      exact h2
end CACHE14
