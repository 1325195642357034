theorem rw1 {σ σ1 : St} {k j : Nat} {v : Int32} (e : σ1 = u1 σ k j v) : σ1.1 k = upd (σ.1 k) j v := by rw [e, u1_at]
theorem rwn {σ σ1 : St} {k j : Nat} {v : Int32} (e : σ1 = u1 σ k j v) {a : Nat} (h : a ≠ k) : σ1.1 a = σ.1 a := by rw [e, u1_ne h]
/-- what is kept through a packing: pieces and texts -/
def Kp (σ τ : St) : Prop := ∀ a b : Nat, (a = 3 ∨ a = 16 ∨ a = 17 ∨ a = 18 ∨ a = 20 ∨ a = 21 ∨ (a = 0 ∧ (b = 36 ∨ b = 41))) → τ.1 a b = σ.1 a b
theorem Kp.tr {σ τ υ : St} (h : Kp σ τ) (h2 : Kp τ υ) : Kp σ υ := fun a b q => (h2 a b q).trans (h a b q)
theorem Kp.rf (σ : St) : Kp σ σ := fun _ _ _ => rfl
theorem Kp.ofP {σ τ : St} (h : FrP σ τ) : Kp σ τ := fun a b q => h a b (by omega)
theorem Kp.ofT {σ τ : St} (h : FrT σ τ) : Kp σ τ := fun a b q => h a b (by omega)
theorem kp_dh {σ τ : St} (h : Kp σ τ) : dh τ = dh σ := by
  funext k
  show (τ.1 18 k).toNatClampNeg = (σ.1 18 k).toNatClampNeg
  rw [h 18 k (by omega)]
theorem kp_dg {σ τ : St} (h : Kp σ τ) : dg τ = dg σ := by
  funext k m
  unfold dg
  rw [h 16 k (by omega), h 17 (20 * k + m) (by omega)]
theorem kp_dt {σ τ : St} (h : Kp σ τ) (x : Int32) : dt τ x = dt σ x := by
  funext i
  unfold dt
  rw [h 20 _ (by omega), h 3 i (by omega)]
theorem kp_BY {σ τ : St} (h : Kp σ τ) (x1 x2 : Int32) : pBY τ x1 x2 = pBY σ x1 x2 := by
  unfold pBY
  rw [kp_dh h, kp_dg h, kp_dt h, h 0 36 (by omega)]
theorem kp_R {σ τ : St} (h : Kp σ τ) (x1 x2 : Int32) : pR τ x1 x2 = pR σ x1 x2 := by
  unfold pR
  rw [kp_BY h]
theorem kp_P {σ τ : St} (h : Kp σ τ) (x1 x2 : Int32) (k : Nat) : pP τ x1 x2 k = pP σ x1 x2 k := by
  unfold pP
  rw [kp_BY h, kp_dh h]
/-- the text t, parted: how many pieces, and which -/
def tR (σ : St) (t : Nat) : Int32 := pR σ (nI t) (σ.1 21 t)
def tP (σ : St) (t k : Nat) : Int32 := pP σ (nI t) (σ.1 21 t) k
theorem tR_le {σ0 σ : St} (h : K2 σ0 σ) (t : Nat) : -1 ≤ (tR σ t).toInt ∧ (tR σ t).toInt ≤ 120 := pR_le h (K2.q_21 h t).1 (K2.q_21 h t).2
theorem tP_lt {σ0 σ : St} (h : K2 σ0 σ) {t k : Nat} (hk : (k : Int) < (tR σ t).toInt) : 0 ≤ (tP σ t k).toInt ∧ (tP σ t k).toInt < (σ.1 0 36).toInt := pP_lt h (K2.q_21 h t).1 (K2.q_21 h t).2 hk
/-- the text x1, parted in a later state -/
theorem tX12_parted {N : Nat} (hN : 4294967400 ≤ N) {x1 : Int32} {Q : Int32 → St → Prop} {σ0 σ τ : St} (h1 : 0 ≤ x1.toInt) (h2 : x1.toInt ≤ 19) (hτ : K2 σ0 τ) (hk : Kp σ τ) (hQ : ∀ (υ : St), K2 σ0 υ → FrP τ υ → (∀ k : Nat, (k : Int) < (tR σ x1.toNatClampNeg).toInt → υ.1 26 k = tP σ x1.toNatClampNeg k) → Q (tR σ x1.toNatClampNeg) υ) : fX12_parted N x1 (τ.1 21 x1.toNatClampNeg) Q τ := by
  have b := K2.q_21 hτ x1.toNatClampNeg
  have e21 : τ.1 21 x1.toNatClampNeg = σ.1 21 x1.toNatClampNeg := hk 21 _ (by omega)
  have en := nIcl h1
  refine sX12_partedX hN ⟨by omega, h2⟩ b hτ (fun r υ kυ fυ er hp => ?_)
  have er' : r = tR σ x1.toNatClampNeg := by
    rw [er, kp_R hk, e21]
    show _ = pR σ (nI x1.toNatClampNeg) _
    rw [en]
  subst er'
  refine hQ υ kυ fυ (fun k hk' => ?_)
  rw [hp k hk', kp_P hk, e21]
  show _ = pP σ (nI x1.toNatClampNeg) _ k
  rw [en]
def szf (σ : St) (p : Nat) : Int := if (σ.1 16 p).toInt = 2 then 2 else if (σ.1 16 p).toInt = 3 then (σ.1 18 p).toInt + 2 else if (σ.1 16 p).toInt = 5 then 4 * (σ.1 18 p).toInt + 5 else 5
theorem szf_le {σ0 σ : St} (h : K2 σ0 σ) (p : Nat) : 2 ≤ szf σ p ∧ szf σ p ≤ 85 := by
  have b := K2.q_18 h p
  unfold szf
  split
  · omega
  · split
    · omega
    · split <;> omega
theorem szf_kp {σ τ : St} (h : Kp σ τ) (p : Nat) : szf τ p = szf σ p := by
  unfold szf
  rw [h 16 p (by omega), h 18 p (by omega)]
theorem tX12_sizeOf {N : Nat} {x1 : Int32} {Q : Int32 → St → Prop} {σ0 σ : St} (h1 : 0 ≤ x1.toInt) (h2 : x1.toInt ≤ 59) (hσ : K2 σ0 σ) (hQ : ∀ r : Int32, r.toInt = szf σ x1.toNatClampNeg → Q r σ) : fX12_sizeOf N x1 Q σ := by
  have hin : vp_in x1 60 := inE (rfl : x1.toInt = x1.toInt) (by omega) (by omega)
  have b := K2.q_18 hσ x1.toNatClampNeg
  have z2 : (2 : Int32).toInt = 2 := by decide
  have z3 : (3 : Int32).toInt = 3 := by decide
  have z4 : (4 : Int32).toInt = 4 := by decide
  have z5 : (5 : Int32).toInt = 5 := by decide
  unfold fX12_sizeOf
  refine ⟨hin, fun v ev => ⟨hin, fun u eu => ?_⟩⟩
  have fv : v.toInt = (σ.1 18 x1.toNatClampNeg).toInt := congrArg Int32.toInt ev
  have fu : u.toInt = (σ.1 16 x1.toNatClampNeg).toInt := congrArg Int32.toInt eu
  refine ⟨fun c => ?_, fun c => ⟨fun d => ?_, fun d => ⟨fun e => ?_, fun e => ?_⟩⟩⟩
  · have c' := (eqE fu z2).mp c
    exact hQ _ (by rw [z2]; unfold szf; rw [if_pos c'])
  · have c' := (noteqE fu z2).mp c
    have d' := (eqE fu z3).mp d
    exact hQ _ (by rw [aOkE fv z2 (by omega) (by omega)]; unfold szf; rw [if_neg c', if_pos d'])
  · have c' := (noteqE fu z2).mp c
    have d' := (noteqE fu z3).mp d
    have e' := (eqE fu z5).mp e
    exact hQ _ (by rw [aOkE (mOkE z4 fv (by omega) (by omega)) z5 (by omega) (by omega)]; unfold szf; rw [if_neg c', if_neg d', if_pos e'])
  · have c' := (noteqE fu z2).mp c
    have d' := (noteqE fu z3).mp d
    have e' := (noteqE fu z5).mp e
    exact hQ _ (by rw [z5]; unfold szf; rw [if_neg c', if_neg d', if_neg e'])
/-- the first n knots are leaves -/
def Lf (σ τ : St) (n : Nat) : Prop := τ.1 27 0 = -1 ∧ (τ.1 33 0).toInt = 1 ∧ ∀ i : Nat, 0 < i → i < n → 0 ≤ (τ.1 27 i).toInt ∧ (τ.1 27 i).toInt < (σ.1 0 36).toInt ∧ (τ.1 33 i).toInt = szf σ (τ.1 27 i).toNatClampNeg
/-- two knots under one -/
def JK (τ : St) (k : Nat) : Prop := ∃ a b : Nat, a < k ∧ b < k ∧ a ≠ b ∧ (τ.1 30 k).toInt = a ∧ (τ.1 31 k).toInt = b ∧ (τ.1 33 k).toInt = 9 + (τ.1 33 a).toInt + (τ.1 33 b).toInt ∧ (τ.1 32 a).toInt = k ∧ (τ.1 32 b).toInt = k ∧ τ.1 29 a = 0 ∧ τ.1 29 b = 0
def JA (τ : St) (L n i : Nat) : Prop := ∃ k : Nat, L ≤ k ∧ k < n ∧ (τ.1 32 i).toInt = k ∧ ((τ.1 30 k).toInt = i ∨ (τ.1 31 k).toInt = i)
def JT (τ : St) (L n : Nat) : Prop :=
  cnt (τ.1 29) n + n = 2 * L ∧ (∀ k : Nat, L ≤ k → k < n → JK τ k) ∧ (∀ i : Nat, i < n → τ.1 29 i = 0 → JA τ L n i) ∧ (∀ i : Nat, i < n → 1 ≤ (τ.1 33 i).toInt) ∧ wsum (τ.1 29) (τ.1 33) n ≤ 85 * (L : Int) + 9 * ((n : Int) - (L : Int)) ∧ τ.1 29 (n - 1) ≠ 0
theorem cnt_full {f : Nat → Int32} : ∀ n : Nat, (∀ i : Nat, i < n → f i ≠ 0) → cnt f n = n
  | 0, _ => rfl
  | n + 1, h => by
    show cnt f n + (if f n = 0 then 0 else 1) = n + 1
    rw [cnt_full n (fun i q => h i (by omega)), if_neg (h n (by omega))]
theorem wsum_le {f s : Nat → Int32} {c : Int} (hc : 0 ≤ c) : ∀ n : Nat, (∀ i : Nat, i < n → (s i).toInt ≤ c) → wsum f s n ≤ c * (n : Int)
  | 0, _ => by show (0 : Int) ≤ c * ((0 : Nat) : Int); simp
  | n + 1, h => by
    have h1 := wsum_le (f := f) hc n (fun i q => h i (by omega))
    have h2 := h n (by omega)
    have h3 : c * ((n + 1 : Nat) : Int) = c * (n : Int) + c := by rw [Int.natCast_add, Int.mul_add]; simp
    rw [h3]
    show wsum f s n + (if f n = 0 then 0 else (s n).toInt) ≤ _
    split <;> omega
theorem jt_step {τ υ : St} {L n a b : Nat} {ra rb vn s : Int32} (hT : JT τ L n) (hL : L ≤ n) (ha : a < n) (hb : b < n) (hab : a ≠ b) (ta : τ.1 29 a ≠ 0) (tb : τ.1 29 b ≠ 0) (era : ra.toInt = a) (erb : rb.toInt = b) (ev : vn.toInt = n) (es : s.toInt = 9 + (τ.1 33 a).toInt + (τ.1 33 b).toInt)
    (e29 : υ.1 29 = upd (upd (upd (τ.1 29) a 0) b 0) n 1) (e30 : υ.1 30 = upd (τ.1 30) n ra) (e31 : υ.1 31 = upd (τ.1 31) n rb) (e32 : υ.1 32 = upd (upd (upd (τ.1 32) a vn) b vn) n (-1)) (e33 : υ.1 33 = upd (τ.1 33) n s) : JT υ L (n + 1) := by
  obtain ⟨c1, c2, c3, c4, c5, c6⟩ := hT
  have z1 : (1 : Int32) ≠ 0 := by decide
  have w29 : ∀ i : Nat, i < n → υ.1 29 i = if i = a ∨ i = b then 0 else τ.1 29 i := by
    intro i hi
    rw [e29, up2 (by omega)]
    by_cases q : i = b
    · rw [q, up1, if_pos (Or.inr rfl)]
    · rw [up2 q]
      by_cases q2 : i = a
      · rw [q2, up1, if_pos (Or.inl rfl)]
      · rw [up2 q2, if_neg (by omega)]
  have w32 : ∀ i : Nat, i < n → υ.1 32 i = if i = a ∨ i = b then vn else τ.1 32 i := by
    intro i hi
    rw [e32, up2 (by omega)]
    by_cases q : i = b
    · rw [q, up1, if_pos (Or.inr rfl)]
    · rw [up2 q]
      by_cases q2 : i = a
      · rw [q2, up1, if_pos (Or.inl rfl)]
      · rw [up2 q2, if_neg (by omega)]
  have w33 : ∀ i : Nat, i < n → υ.1 33 i = τ.1 33 i := fun i hi => by rw [e33, up2 (by omega)]
  have w30 : ∀ i : Nat, i < n → υ.1 30 i = τ.1 30 i := fun i hi => by rw [e30, up2 (by omega)]
  have w31 : ∀ i : Nat, i < n → υ.1 31 i = τ.1 31 i := fun i hi => by rw [e31, up2 (by omega)]
  have v29 : υ.1 29 n = 1 := by rw [e29, up1]
  have v33 : υ.1 33 n = s := by rw [e33, up1]
  have v30 : υ.1 30 n = ra := by rw [e30, up1]
  have v31 : υ.1 31 n = rb := by rw [e31, up1]
  have ub : upd (τ.1 29) a 0 b ≠ 0 := by rw [up2 (Ne.symm hab)]; exact tb
  refine ⟨?_, ?_, ?_, ?_, ?_, ?_⟩
  · show cnt (υ.1 29) n + (if υ.1 29 n = 0 then 0 else 1) + (n + 1) = 2 * L
    rw [v29, if_neg z1, e29, cnt_ge n (Nat.le_refl n)]
    have h1 := cnt_dn ta n ha
    have h2 := cnt_dn ub n hb
    omega
  · intro k hk hk2
    by_cases e : k = n
    · rw [e]
      refine ⟨a, b, ha, hb, hab, ?_, ?_, ?_, ?_, ?_, ?_, ?_⟩
      · rw [v30]; exact era
      · rw [v31]; exact erb
      · rw [v33, w33 a ha, w33 b hb]; exact es
      · rw [w32 a ha, if_pos (Or.inl rfl)]; exact ev
      · rw [w32 b hb, if_pos (Or.inr rfl)]; exact ev
      · rw [w29 a ha, if_pos (Or.inl rfl)]
      · rw [w29 b hb, if_pos (Or.inr rfl)]
    · obtain ⟨a', b', q1, q2, q3, q4, q5, q6, q7, q8, q9, q10⟩ := c2 k hk (by omega)
      have na : ¬ (a' = a ∨ a' = b) := by
        rintro (z | z)
        · rw [z] at q9; exact ta q9
        · rw [z] at q9; exact tb q9
      have nb : ¬ (b' = a ∨ b' = b) := by
        rintro (z | z)
        · rw [z] at q10; exact ta q10
        · rw [z] at q10; exact tb q10
      refine ⟨a', b', q1, q2, q3, ?_, ?_, ?_, ?_, ?_, ?_, ?_⟩
      · rw [w30 k (by omega)]; exact q4
      · rw [w31 k (by omega)]; exact q5
      · rw [w33 k (by omega), w33 a' (by omega), w33 b' (by omega)]; exact q6
      · rw [w32 a' (by omega), if_neg na]; exact q7
      · rw [w32 b' (by omega), if_neg nb]; exact q8
      · rw [w29 a' (by omega), if_neg na]; exact q9
      · rw [w29 b' (by omega), if_neg nb]; exact q10
  · intro i hi h0
    have hin : i ≠ n := by
      intro q
      rw [q, v29] at h0
      exact z1 h0
    have hi' : i < n := by omega
    by_cases q : i = a ∨ i = b
    · refine ⟨n, by omega, by omega, ?_, ?_⟩
      · rw [w32 i hi', if_pos q]; exact ev
      · rcases q with q | q
        · left; rw [v30, q]; exact era
        · right; rw [v31, q]; exact erb
    · rw [w29 i hi', if_neg q] at h0
      obtain ⟨k, p1, p2, p3, p4⟩ := c3 i hi' h0
      refine ⟨k, p1, by omega, ?_, ?_⟩
      · rw [w32 i hi', if_neg q]; exact p3
      · rw [w30 k p2, w31 k p2]; exact p4
  · intro i hi
    by_cases e : i = n
    · have h1 := c4 a ha
      have h2 := c4 b hb
      rw [e, v33, es]
      omega
    · rw [w33 i (by omega)]; exact c4 i (by omega)
  · show wsum (υ.1 29) (υ.1 33) n + (if υ.1 29 n = 0 then 0 else (υ.1 33 n).toInt) ≤ _
    rw [v29, if_neg z1, v33, es]
    rw [wsum_ext (f := υ.1 29) (g := upd (upd (τ.1 29) a 0) b 0) (s := υ.1 33) (t := τ.1 33) n (fun i hi => by rw [e29, up2 (by omega)]) w33]
    rw [wsum_dn ub n hb, wsum_dn ta n ha]
    omega
  · show υ.1 29 (n + 1 - 1) ≠ 0
    rw [Nat.add_sub_cancel, v29]
    exact z1
/-- what the joining may change -/
def FrG (σ τ : St) (L : Nat) : Prop := ∀ a b : Nat, ¬ (a = 28 ∨ a = 29 ∨ a = 30 ∨ a = 31 ∨ a = 32 ∨ ((a = 27 ∨ a = 33) ∧ L ≤ b) ∨ (a = 0 ∧ b = 50)) → τ.1 a b = σ.1 a b
set_option maxHeartbeats 2000000 in
theorem tX12_join155 {N : Nat} (hN : 4294967400 ≤ N) {Q : St → Prop} {σ0 τ0 : St} {L : Nat} (hL1 : 1 ≤ L) (hL2 : L ≤ 61) (h51 : (τ0.1 0 51).toInt = L) (h50 : (τ0.1 0 50).toInt = L) (k0 : K2 σ0 τ0) (hT : JT τ0 L L)
    (hQ : ∀ τ : St, K2 σ0 τ → FrG τ0 τ L → (τ.1 0 50).toInt + 1 = 2 * (L : Int) → JT τ L (2 * L - 1) → Q τ) : lo1 (fX12_join_l155 N Q) N 1 τ0 := by
  have o1 : (1 : Int32).toInt = 1 := by decide
  have o9 : (9 : Int32).toInt = 9 := by decide
  have e0 : (τ0.1 0 50).toNatClampNeg = L := by have := clE h50 (by omega); omega
  refine lo1_i (fun (y : Int32) (τ : St) => K2 σ0 τ ∧ FrG τ0 τ L ∧ 1 ≤ y.toInt ∧ y.toInt ≤ L ∧ (τ.1 0 50).toInt = L + y.toInt - 1 ∧ JT τ L (τ.1 0 50).toNatClampNeg) (fun y _ => ((L : Int) - y.toInt).toNat) ?_ N 1 τ0 ⟨k0, fun _ _ _ => rfl, by omega, by omega, by omega, by rw [e0]; exact hT⟩ (by (try dsimp only); omega)
  intro rr y τ hI ih
  obtain ⟨hτ, fr, i1, i2, i3, hJ⟩ := hI
  have f51 : (τ.1 0 51).toInt = L := by rw [fr 0 51 (by omega)]; exact h51
  have en := clE (rfl : (τ.1 0 50).toInt = (τ.1 0 50).toInt) (by omega)
  obtain ⟨n, hn⟩ : ∃ n : Nat, (τ.1 0 50).toNatClampNeg = n := ⟨_, rfl⟩
  rw [hn] at hJ en
  unfold fX12_join_l155
  refine ⟨fun c => ?_, fun c => ?_⟩
  · have f := (leE f51 (rfl : y.toInt = y.toInt)).mp c
    exact hQ τ hτ fr (by omega) (by rw [show 2 * L - 1 = n by omega]; exact hJ)
  · have f := (notleE f51 (rfl : y.toInt = y.toInt)).mp c
    have hc := hJ.1
    refine tX12_least hN hτ (by rw [hn]; omega) (fun ra τ1 a1 a2 a3 e1 => ?_)
    have ea := clE (rfl : ra.toInt = ra.toInt) a1
    have hina : vp_in ra 122 := inE (rfl : ra.toInt = ra.toInt) (by omega) (by omega)
    obtain ⟨a, ha⟩ : ∃ a : Nat, ra.toNatClampNeg = a := ⟨_, rfl⟩
    rw [ha] at a3 ea e1
    have k1 : K2 σ0 τ1 := by rw [e1]; exact hτ.ua (Rg2.q_29 _ _) (by decide)
    have q1 : τ1.1 0 50 = τ.1 0 50 := kq e1 (fun z => absurd z.1 (by decide))
    have r1 : τ1.1 29 = upd (τ.1 29) a 0 := rw1 e1
    have hd := cnt_dn a3 n (by omega)
    refine tX12_least hN k1 (by rw [q1, hn, r1]; omega) (fun rb τ2 b1 b2 b3 e2 => ?_)
    rw [q1] at b2
    have eb := clE (rfl : rb.toInt = rb.toInt) b1
    have hinb : vp_in rb 122 := inE (rfl : rb.toInt = rb.toInt) (by omega) (by omega)
    obtain ⟨b, hb⟩ : ∃ b : Nat, rb.toNatClampNeg = b := ⟨_, rfl⟩
    rw [hb] at b3 eb e2
    rw [r1] at b3
    have hab : a ≠ b := by
      intro z
      rw [← z, up1] at b3
      exact b3 rfl
    rw [up2 (Ne.symm hab)] at b3
    have q2 : τ2.1 0 50 = τ.1 0 50 := (kq e2 (fun z => absurd z.1 (by decide))).trans q1
    have k2 : K2 σ0 τ2 := by rw [e2]; exact k1.ua (Rg2.q_29 _ _) (by decide)
    have hin50 : vp_in (τ.1 0 50) 122 := inE (rfl : (τ.1 0 50).toInt = (τ.1 0 50).toInt) (by omega) (by omega)
    rw [q2, hn]
    refine ⟨hin50, fun σ14 e14 => ?_⟩
    have q14 : σ14.1 0 50 = τ.1 0 50 := (kq e14 (fun z => absurd z.1 (by decide))).trans q2
    have k14 : K2 σ0 σ14 := by rw [e14]; exact k2.ua (Rg2.q_30 (by omega) (by omega)) (by decide)
    rw [q14, hn]
    refine ⟨hin50, fun σ16 e16 v17 ev17 => ?_⟩
    have q16 : σ16.1 0 50 = τ.1 0 50 := (kq e16 (fun z => absurd z.1 (by decide))).trans q14
    have k16 : K2 σ0 σ16 := by rw [e16]; exact k14.ua (Rg2.q_31 (by omega) (by omega)) (by decide)
    rw [q16] at ev17
    have f17 : v17.toInt = n := by rw [ev17]; omega
    rw [ha, hb]
    refine ⟨hina, fun σ19 e19 v20 ev20 => ?_⟩
    have q19 : σ19.1 0 50 = τ.1 0 50 := (kq e19 (fun z => absurd z.1 (by decide))).trans q16
    have k19 : K2 σ0 σ19 := by rw [e19]; exact k16.ua (Rg2.q_32 (by omega) (by omega)) (by decide)
    rw [q19, ← ev17] at ev20
    subst ev20
    refine ⟨hinb, fun σ22 e22 => ⟨hina, hinb, hina, hinb, ?_⟩⟩
    have q22 : σ22.1 0 50 = τ.1 0 50 := (kq e22 (fun z => absurd z.1 (by decide))).trans q19
    have k22 : K2 σ0 σ22 := by rw [e22]; exact k19.ua (Rg2.q_32 (by omega) (by omega)) (by decide)
    have r33 : σ22.1 33 = τ.1 33 := by rw [rwn e22 (by decide), rwn e19 (by decide), rwn e16 (by decide), rwn e14 (by decide), rwn e2 (by decide), rwn e1 (by decide)]
    have r29 : σ22.1 29 = upd (upd (τ.1 29) a 0) b 0 := by rw [rwn e22 (by decide), rwn e19 (by decide), rwn e16 (by decide), rwn e14 (by decide), rw1 e2, r1]
    have r30 : σ22.1 30 = upd (τ.1 30) n ra := by rw [rwn e22 (by decide), rwn e19 (by decide), rwn e16 (by decide), rw1 e14, rwn e2 (by decide), rwn e1 (by decide)]
    have r31 : σ22.1 31 = upd (τ.1 31) n rb := by rw [rwn e22 (by decide), rwn e19 (by decide), rw1 e16, rwn e14 (by decide), rwn e2 (by decide), rwn e1 (by decide)]
    have r32 : σ22.1 32 = upd (upd (τ.1 32) a v20) b v20 := by rw [rw1 e22, rw1 e19, rwn e16 (by decide), rwn e14 (by decide), rwn e2 (by decide), rwn e1 (by decide)]
    rw [r33]
    have sa := wsum_ge (s := τ.1 33) a3 (show a < n by omega) (fun j hj => by have := hJ.2.2.2.1 j hj; omega)
    have sb := wsum_ge (s := τ.1 33) b3 (show b < n by omega) (fun j hj => by have := hJ.2.2.2.1 j hj; omega)
    have ca := hJ.2.2.2.1 a (by omega)
    have cb := hJ.2.2.2.1 b (by omega)
    have cw := hJ.2.2.2.2.1
    have es : ((9 + τ.1 33 a) + τ.1 33 b).toInt = 9 + (τ.1 33 a).toInt + (τ.1 33 b).toInt := aOkE (aOkE o9 rfl (by omega) (by omega)) rfl (by omega) (by omega)
    refine tX12_leaf (by rw [q22]; omega) k22 (fun υ kυ fυ f50 f27 f29 f33 f32 => ?_)
    rw [q22] at f50
    rw [q22, hn] at f27 f29 f33 f32
    intro v ev
    have fv : v.toInt = y.toInt + 1 := (congrArg Int32.toInt ev).trans (aOkE rfl o1 (by omega) (by omega))
    have en' : (υ.1 0 50).toNatClampNeg = n + 1 := by have := clE f50 (by omega); omega
    have hJ' : JT υ L (n + 1) := by
      refine jt_step (τ := τ) (a := a) (b := b) (ra := ra) (rb := rb) (vn := v20) hJ (by omega) (by omega) (by omega) hab a3 b3 (by omega) (by omega) f17 es ?_ ?_ ?_ ?_ ?_
      · rw [f29, r29]
      · rw [show υ.1 30 = σ22.1 30 from funext (fun j => fυ 30 j (by omega)), r30]
      · rw [show υ.1 31 = σ22.1 31 from funext (fun j => fυ 31 j (by omega)), r31]
      · rw [f32, r32]
      · rw [f33, r33]
    have frυ : FrG τ0 υ L := by
      intro x z q
      have s22 : σ22.1 x z = τ.1 x z := by
        rw [kq e22 (fun w => by omega), kq e19 (fun w => by omega), kq e16 (fun w => by omega), kq e14 (fun w => by omega), kq e2 (fun w => by omega), kq e1 (fun w => by omega)]
      rw [← fr x z q, ← s22]
      by_cases x27 : x = 27
      · subst x27
        rw [f27, up2 (by omega)]
      · by_cases x33 : x = 33
        · subst x33
          rw [f33, up2 (by omega)]
        · exact fυ x z (by omega)
    exact ih v υ ⟨kυ, frυ, by omega, by omega, by omega, by rw [en']; exact hJ'⟩ (by (try dsimp only); omega)
