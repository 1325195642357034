section SIM49
variable {N : Nat} {a b σ0 : St}
theorem FrM.pc {υ : St} {p : Nat} (hp : p < 60) (h : PcE a b p) (f : FrM a υ) : PcE υ b p := h.ext hp (fun c i q => f.1 c i (by omega)) (fun _ _ _ => rfl)
/-- the class lays a piece -/
theorem c_piece (hN : 4294967400 ≤ N) {x2 x3 : Int32} {p k : Nat} {M : Nat → Int32} {Q : St → Prop} (ep : x2.toInt = p) (hp : p < 60) (e3 : x3.toInt = k) (hS : (k : Int) + szf b p ≤ 4096) (hX : PcE a b p) (hb : K2 σ0 b) (hM : MC a M) (hQ : ∀ υ : St, FrM a υ → MC υ (pW b p k M) → Q υ) : fX7_putNode N x2 x3 Q a := by
  have z0 : (0 : Int32).toInt = 0 := by decide
  have o1 : (1 : Int32).toInt = 1 := by decide
  have o4 : (4 : Int32).toInt = 4 := by decide
  have o20 : (20 : Int32).toInt = 20 := by decide
  have cp : x2.toNatClampNeg = p := by have := clE ep (by omega); omega
  have hin : vp_in x2 60 := inE ep (by omega) (by omega)
  have h0 : vp_in 0 20 := inE z0 (by omega) (by omega)
  have dl := dhE hb p
  obtain ⟨x18, x21, _, xs, xa, xk⟩ := hX
  have sg : ∀ υ : St, FrM a υ → b.1 16 p < 8 → ∀ m : Nat, m < dh b p → υ.1 (123 + p) m = hd b p m := by
    intro υ f lt m hm
    rw [f.1 _ _ (by omega), xs m (by omega)]
    unfold dg
    rw [if_pos lt]
    rfl
  have kk : (k : Int) + 2 ≤ 4096 := by
    unfold szf at hS
    split at hS <;> (try split at hS) <;> (try split at hS) <;> omega
  have e31 : (x3 + 1).toInt = (k + 1 : Nat) := aOkE e3 o1 (by omega) (by omega)
  unfold fX7_putNode
  rw [cp, x18]
  refine ⟨hin, c_put e3 (by omega) hM (fun s2 f2 m2 => ⟨hin, fun v4 e4 => ?_⟩)⟩
  have ev4 : v4 = b.1 16 p := by rw [e4, f2.1 _ _ (by omega)]; exact x18
  rw [ev4, show (0 : Int32).toNatClampNeg = 0 from rfl]
  refine ⟨fun c => ⟨hin, h0, ?_⟩, fun c2 => ⟨fun c => ?_, fun c3 => ⟨fun c => ⟨hin, h0, ?_⟩, fun c4 => ⟨fun c => ?_, fun c5 => ⟨hin, ?_⟩⟩⟩⟩⟩
  · have n1 : dh b p = 1 := by
      rcases xk with w | w
      · omega
      · rcases w.1 with q | q <;> exact absurd (c.symm.trans q) (by decide)
    rw [sg s2 f2 (by rw [c]; decide) 0 (by omega)]
    refine c_put e31 (by omega) m2 (fun s8 f8 m8 => hQ s8 (f2.tr f8) ?_)
    unfold pW
    rw [if_pos (by rw [c]; decide), if_neg (by rw [c]; decide), n1]
    exact m8
  · have hS3 : (k : Int) + 2 + dh b p ≤ 4096 := by
      unfold szf at hS
      rw [if_neg (by rw [c]; decide), if_pos (by rw [c]; decide)] at hS
      omega
    unfold fX7_putBytes
    refine lo1_i (fun (y : Int32) (υ : St) => FrM a υ ∧ 0 ≤ y.toInt ∧ y.toInt ≤ dh b p ∧ MC υ (rB (hd b p) (wB M k (b.1 16 p)) (k + 1) y.toNatClampNeg)) (fun y _ => ((dh b p : Int) - y.toInt).toNat) ?_ N 0 s2 ⟨f2, by omega, by omega, m2⟩ (by (try dsimp only); omega)
    intro rr y υ hI ih
    obtain ⟨fυ, i1, i2, i3⟩ := hI
    have ey := clE (rfl : y.toInt = y.toInt) i1
    have e21 : (υ.1 21 p).toInt = dh b p := by rw [fυ.1 _ _ (by omega), x21]; omega
    have fin : dh b p ≤ y.toInt → fX7_putBytes_j44 N x2 (x3 + 1) Q υ := by
      intro hle
      have eyd : y.toNatClampNeg = dh b p := by omega
      rw [eyd] at i3
      unfold fX7_putBytes_j44
      rw [cp]
      have es : ((x3 + 1) + υ.1 21 p).toInt = (k + 1 + dh b p : Nat) := aOkE e31 e21 (by omega) (by omega)
      refine ⟨hin, c_put es (by omega) i3 (fun s f m => hQ s (fυ.tr f) ?_)⟩
      unfold pW
      rw [if_pos (by rw [c]; decide), if_pos c]
      exact m
    unfold fX7_putBytes_l3
    rw [cp]
    refine ⟨hin, fun d => fin ((leE e21 rfl).mp d), fun d => ⟨fun d2 => ?_, fun _ => ⟨hin, inE rfl (by omega) ?_, ?_⟩⟩⟩
    · have := (notleE e21 (rfl : y.toInt = _)).mp d
      have := (leE o20 (rfl : y.toInt = _)).mp d2
      omega
    · have := (notleE e21 (rfl : y.toInt = _)).mp d
      omega
    · have d' := (notleE e21 (rfl : y.toInt = _)).mp d
      have es : ((x3 + 1) + y).toInt = (k + 1 + y.toNatClampNeg : Nat) := aOkE e31 (rfl : y.toInt = _) (by omega) (by omega) |>.trans (by omega)
      rw [sg υ fυ (by rw [c]; decide) _ (by omega)]
      refine c_put es (by omega) i3 (fun s f m v ev => ?_)
      have fv : v.toInt = y.toInt + 1 := (congrArg Int32.toInt ev).trans (aOkE rfl o1 (by omega) (by omega))
      have cv : v.toNatClampNeg = y.toNatClampNeg + 1 := by have := clE fv (by omega); omega
      exact ih v s ⟨fυ.tr f, by omega, by omega, by rw [cv]; exact m⟩ (by (try dsimp only); omega)
  · have n1 : dh b p = 1 := by
      rcases xk with w | w
      · omega
      · rcases w.1 with q | q <;> exact absurd (c.symm.trans q) (by decide)
    have hS4 : (k : Int) + 5 ≤ 4096 := by
      unfold szf at hS
      rw [if_neg (by rw [c]; decide), if_neg (by rw [c]; decide), if_neg (by rw [c]; decide)] at hS
      omega
    rw [sg s2 f2 (by rw [c]; decide) 0 (by omega)]
    refine c_putF e31 (by omega) m2 (fun s8 f8 m8 => hQ s8 (f2.tr f8) ?_)
    unfold pW
    rw [if_neg (by rw [c]; decide), if_neg (by rw [c]; decide), n1]
    exact m8
  · have hS5 : (k : Int) + 5 + 4 * dh b p ≤ 4096 := by
      unfold szf at hS
      rw [if_neg (by rw [c]; decide), if_neg (by rw [c]; decide), if_pos (by rw [c]; decide)] at hS
      omega
    unfold fX7_putFours
    refine lo1_i (fun (y : Int32) (υ : St) => FrM a υ ∧ 0 ≤ y.toInt ∧ y.toInt ≤ dh b p ∧ MC υ (rF (hd b p) (wB M k (b.1 16 p)) (k + 1) y.toNatClampNeg)) (fun y _ => ((dh b p : Int) - y.toInt).toNat) ?_ N 0 s2 ⟨f2, by omega, by omega, m2⟩ (by (try dsimp only); omega)
    intro rr y υ hI ih
    obtain ⟨fυ, i1, i2, i3⟩ := hI
    have ey := clE (rfl : y.toInt = y.toInt) i1
    have e21 : (υ.1 21 p).toInt = dh b p := by rw [fυ.1 _ _ (by omega), x21]; omega
    have fin : dh b p ≤ y.toInt → fX7_putFours_j46 N x2 (x3 + 1) Q υ := by
      intro hle
      have eyd : y.toNatClampNeg = dh b p := by omega
      rw [eyd] at i3
      unfold fX7_putFours_j46
      rw [cp]
      have es : ((x3 + 1) + 4 * υ.1 21 p).toInt = (k + 1 + 4 * dh b p : Nat) := (aOkE e31 (mOkE o4 e21 (by omega) (by omega)) (by omega) (by omega)).trans (by omega)
      refine ⟨hin, c_putF es (by omega) i3 (fun s f m => hQ s (fυ.tr f) ?_)⟩
      unfold pW
      rw [if_neg (by rw [c]; decide), if_pos c]
      exact m
    unfold fX7_putFours_l3
    rw [cp]
    refine ⟨hin, fun d => fin ((leE e21 rfl).mp d), fun d => ⟨fun d2 => ?_, fun _ => ⟨hin, inE rfl (by omega) ?_, ?_⟩⟩⟩
    · have := (notleE e21 (rfl : y.toInt = _)).mp d
      have := (leE o20 (rfl : y.toInt = _)).mp d2
      omega
    · have := (notleE e21 (rfl : y.toInt = _)).mp d
      omega
    · have d' := (notleE e21 (rfl : y.toInt = _)).mp d
      have es : ((x3 + 1) + 4 * y).toInt = (k + 1 + 4 * y.toNatClampNeg : Nat) := (aOkE e31 (mOkE o4 (rfl : y.toInt = _) (by omega) (by omega)) (by omega) (by omega)).trans (by omega)
      rw [sg υ fυ (by rw [c]; decide) _ (by omega)]
      refine c_putF es (by omega) i3 (fun s f m v ev => ?_)
      have fv : v.toInt = y.toInt + 1 := (congrArg Int32.toInt ev).trans (aOkE rfl o1 (by omega) (by omega))
      have cv : v.toNatClampNeg = y.toNatClampNeg + 1 := by have := clE fv (by omega); omega
      exact ih v s ⟨fυ.tr f, by omega, by omega, by rw [cv]; exact m⟩ (by (try dsimp only); omega)
  · have k8 : b.1 16 p = 8 ∨ b.1 16 p = 9 := by
      rcases xk with w | w
      · rcases w.1 with q | q | q | q
        · exact absurd q c2
        · exact absurd q c4
        · exact Or.inl q
        · exact Or.inr q
      · rcases w.1 with q | q
        · exact absurd q c3
        · exact absurd q c5
    have n1 : dh b p = 1 := by
      rcases xk with w | w
      · omega
      · rcases w.1 with q | q
        · exact absurd q c3
        · exact absurd q c5
    have i8 : 8 ≤ (b.1 16 p).toInt := by rcases k8 with q | q <;> rw [q] <;> decide
    have hS4 : (k : Int) + 5 ≤ 4096 := by
      unfold szf at hS
      rw [if_neg (by omega), if_neg (by omega), if_neg (by omega)] at hS
      omega
    have ea : s2.1 19 p = hd b p 0 := by rw [f2.1 _ _ (by omega)]; exact xa i8
    rw [ea]
    refine c_putF e31 (by omega) m2 (fun s8 f8 m8 => hQ s8 (f2.tr f8) ?_)
    unfold pW
    rw [if_neg (by omega), if_neg c5, n1]
    exact m8
/-- the nodes -/
def pl (τ : St) (k : Nat) : Nat := (τ.1 34 k).toNatClampNeg
def nW (b τ : St) (L k : Nat) (M : Nat → Int32) : Nat → Int32 :=
  if L ≤ k then wF (wF (wB M (pl τ k) 0) (pl τ k + 1) (τ.1 34 (τ.1 30 k).toNatClampNeg)) (pl τ k + 5) (τ.1 34 (τ.1 31 k).toNatClampNeg)
  else if τ.1 27 k = -1 then wB M (pl τ k) 1 else pW b (τ.1 27 k).toNatClampNeg (pl τ k) M
def nsW (b τ : St) (L : Nat) (M : Nat → Int32) : Nat → Nat → Int32
  | 0 => M
  | k + 1 => nW b τ L k (nsW b τ L M k)
/-- the reference lays a node: τ the state whose knots these are -/
theorem e_node (hN : 4294967400 ≤ N) {x1 : Int32} {k L n : Nat} {base : Int} {M : Nat → Int32} {Q : St → Prop} {τ υ : St} (hb : K2 σ0 b) (hυ : K2 σ0 υ) (hf : FrC τ υ) (pτ : Kp b τ) (hT : TK b τ L n) (hP : PD τ L n L base) (h0 : 0 ≤ base) (h1 : base + (τ.1 33 (n - 1)).toInt ≤ 4096) (ek : x1.toInt = k) (hk : k < n) (hM : MR υ M) (hQ : ∀ ω : St, K2 σ0 ω → FrT υ ω → MR ω (nW b τ L k M) → Q ω) : fX12_lay N x1 Q υ := by
  have o1 : (1 : Int32).toInt = 1 := by decide
  have o3 : (3 : Int32).toInt = 3 := by decide
  have o5 : (5 : Int32).toInt = 5 := by decide
  have b36 := K2.g_0_36 hb
  obtain ⟨⟨t1, t2, t3, t4, t5⟩, tk, ta, ts, tr, tl, _⟩ := id hT
  have ck : x1.toNatClampNeg = k := by have := clE ek (by omega); omega
  have bd := PD.bd hT hP (i := k) hk
  have sk := ts k hk
  have hin : vp_in x1 122 := inE ek (by omega) (by omega)
  have e34 : ∀ i : Nat, υ.1 34 i = τ.1 34 i := fun i => hf 34 i (by omega)
  have cpl : (τ.1 34 k).toInt = (pl τ k : Nat) := (clE rfl (by omega)).symm
  have e51 : (υ.1 0 51).toInt = L := by rw [hf _ _ (by omega)]; exact t1
  unfold fX12_lay
  rw [ck, e34, hf 27 k (by omega)]
  refine ⟨hin, fun v2 ev2 => ⟨fun c => ⟨hin, fun d => ?_, fun d => ?_⟩, fun c => ?_⟩⟩
  · have c' := (ltE ek e51).mp c
    rw [ev2]
    refine e_put cpl (by omega) hM hυ (fun ω kω fω mω => hQ ω kω fω ?_)
    unfold nW
    rw [if_neg (by omega), if_pos d]
    exact mω
  · have c' := (ltE ek e51).mp c
    have k0 : k ≠ 0 := fun w => by rw [w] at d; exact d tl.1
    obtain ⟨l1, l2, l3⟩ := tl.2.2 k (by omega) (by omega)
    refine ⟨hin, fun v7 ev7 => ?_⟩
    have c7 := clE (rfl : (τ.1 27 k).toInt = _) l1
    have ep : v7.toInt = ((τ.1 27 k).toNatClampNeg : Nat) := by rw [ev7]; omega
    have cp : v7.toNatClampNeg = (τ.1 27 k).toNatClampNeg := by rw [ev7]
    have g : ∀ c i : Nat, c = 16 ∨ c = 17 ∨ c = 18 → υ.1 c i = b.1 c i := fun c i q => (hf c i (by omega)).trans (pτ c i (by omega))
    have key : ∀ x4 : Int32, ((x4 = 0 ∧ 3 < (b.1 16 (τ.1 27 k).toNatClampNeg).toInt) ∨ (x4 ≠ 0 ∧ (b.1 16 (τ.1 27 k).toNatClampNeg).toInt ≤ 3)) → fX12_lay_j101 N v2 v7 x4 Q υ := by
      intro x4 h4
      rw [ev2]
      refine e_piece (b := b) hN ep (by omega) cpl (by rw [← l3]; omega) (hb.1.2.1 _ (by omega)) hb hυ g hM h4 (fun ω kω fω mω => hQ ω kω fω ?_)
      unfold nW
      rw [if_neg (by omega), if_neg d]
      exact mω
    rw [cp, g 16 _ (by omega)]
    refine ⟨inE ep (by omega) (by omega), fun q => key 0 (Or.inl ⟨rfl, (ltE o3 rfl).mp q⟩), fun q => key 1 (Or.inr ⟨by decide, ?_⟩)⟩
    have := (notltE o3 rfl).mp q
    omega
  · have c' := (notltE ek e51).mp c
    obtain ⟨z, o, qa, qb, qab, q30, q31, q33, _⟩ := tk k (by omega) hk
    have sa := ts z (by omega)
    have sb := ts o (by omega)
    have cz : (τ.1 30 k).toNatClampNeg = z := by have := clE q30 (by omega); omega
    have co : (τ.1 31 k).toNatClampNeg = o := by have := clE q31 (by omega); omega
    have g1 : (τ.1 34 k + 1).toInt = (pl τ k + 1 : Nat) := aOkE cpl o1 (by omega) (by omega)
    have g5 : (τ.1 34 k + 5).toInt = (pl τ k + 5 : Nat) := aOkE cpl o5 (by omega) (by omega)
    rw [ev2]
    refine e_put cpl (by omega) hM hυ (fun s1 k1 f1 m1 => ?_)
    rw [show s1.1 30 k = τ.1 30 k from (f1 _ _ (by omega)).trans (hf _ _ (by omega)), show s1.1 34 (τ.1 30 k).toNatClampNeg = τ.1 34 (τ.1 30 k).toNatClampNeg from (f1 _ _ (by omega)).trans (e34 _)]
    refine ⟨hin, inE q30 (by omega) (by omega), e_putF hN g1 (by omega) m1 k1 (fun s2 k2 f2 m2 => ?_)⟩
    rw [show s2.1 31 k = τ.1 31 k from (f2 _ _ (by omega)).trans ((f1 _ _ (by omega)).trans (hf _ _ (by omega))), show s2.1 34 (τ.1 31 k).toNatClampNeg = τ.1 34 (τ.1 31 k).toNatClampNeg from (f2 _ _ (by omega)).trans ((f1 _ _ (by omega)).trans (e34 _))]
    refine ⟨hin, inE q31 (by omega) (by omega), e_putF hN g5 (by omega) m2 k2 (fun s3 k3 f3 m3 => hQ s3 k3 ((f1.tr f2).tr f3) ?_)⟩
    unfold nW
    rw [if_pos (by omega)]
    exact m3
/-- the class lays all nodes -/
theorem c_nodes (hN : 4294967400 ≤ N) {x3 : Int32} {A L n : Nat} {base : Int} {M : Nat → Int32} {Q : St → Prop} {τ : St} (hb : K2 σ0 b) (hX : XPc a b) (pτ : Kp b τ) (hT : TK b τ L n) (hP : PD τ L n L base) (hS : Same b a τ L n) (hL : ∀ i : Nat, i < n → a.1 35 i = τ.1 34 i) (e3 : x3.toInt = A) (h0 : base = (A : Int) + 12) (h1 : base + (τ.1 33 (n - 1)).toInt ≤ 4096) (hM : MC a M) (hQ : ∀ υ : St, FrM a υ → MC υ (nsW b τ L (wF (wF (wF M A (12 + τ.1 33 (n - 1))) (A + 4) (τ.1 0 50)) (A + 8) (x3 + 12)) n) → Q υ) : fX0_putNodes N x3 Q a := by
  have z0 : (0 : Int32).toInt = 0 := by decide
  have o1 : (1 : Int32).toInt = 1 := by decide
  have o5 : (5 : Int32).toInt = 5 := by decide
  have b36 := K2.g_0_36 hb
  obtain ⟨⟨t1, t2, t3, t4, t5⟩, tk, ta, ts, tr, tl, _⟩ := id hT
  obtain ⟨s33, s3x, s34, _, s10, s9⟩ := hS
  have sr := ts (n - 1) (by omega)
  have e9 : a.1 9 9 = τ.1 0 50 := Int32.toInt_inj.mp (by rw [s9, t2])
  have em : (a.1 9 9 - 1).toInt = (n : Int) - 1 := sOkE s9 o1 (by omega) (by omega)
  have cm : (a.1 9 9 - 1).toNatClampNeg = n - 1 := by have := clE em (by omega); omega
  have a4 : (x3 + 4).toInt = (A + 4 : Nat) := aOkE e3 (show (4 : Int32).toInt = 4 from by decide) (by omega) (by omega)
  have a8 : (x3 + 8).toInt = (A + 8 : Nat) := aOkE e3 (show (8 : Int32).toInt = 8 from by decide) (by omega) (by omega)
  unfold fX0_putNodes fX0_size
  refine ⟨fun c => ?_, fun _ => ⟨inE em (by omega) (by omega), ?_⟩⟩
  · have := (leE s9 z0).mp c
    omega
  rw [cm, s33 _ (by omega)]
  refine c_putF e3 (by omega) hM (fun s3 f3 m3 => ?_)
  rw [show s3.1 9 9 = τ.1 0 50 from (f3.1 _ _ (by omega)).trans e9]
  refine c_putF a4 (by omega) m3 (fun s4 f4 m4 => c_putF a8 (by omega) m4 (fun s5 f5 m5 => ?_))
  refine lo1_i (fun (y : Int32) (υ : St) => 0 ≤ y.toInt ∧ y.toInt ≤ n ∧ FrM a υ ∧ MC υ (nsW b τ L (wF (wF (wF M A (12 + τ.1 33 (n - 1))) (A + 4) (τ.1 0 50)) (A + 8) (x3 + 12)) y.toNatClampNeg)) (fun y _ => ((n : Int) - y.toInt).toNat) ?_ N 0 s5 ⟨by omega, by omega, (f3.tr f4).tr f5, m5⟩ (by (try dsimp only); omega)
  intro rr y υ hI ih
  obtain ⟨i1, i2, fυ, mυ⟩ := hI
  have ey := clE (rfl : y.toInt = y.toInt) i1
  obtain ⟨k, hk⟩ : ∃ k : Nat, y.toNatClampNeg = k := ⟨_, rfl⟩
  rw [hk] at ey mυ
  have g9 : (υ.1 9 9).toInt = n := by rw [fυ.1 _ _ (by omega)]; exact s9
  have g10 : (υ.1 9 10).toInt = L := by rw [fυ.1 _ _ (by omega)]; exact s10
  unfold fX0_putNodes_l35
  refine ⟨fun c => ?_, fun c => ?_⟩
  · have c' := (leE g9 (rfl : y.toInt = _)).mp c
    rw [show k = n by omega] at mυ
    exact hQ υ fυ mυ
  · have c' := (notleE g9 (rfl : y.toInt = _)).mp c
    have hin : vp_in y 121 := inE rfl (by omega) (by omega)
    have bd := PD.bd hT hP (i := k) (by omega)
    have sk := ts k (by omega)
    have cpl : (τ.1 34 k).toInt = (pl τ k : Nat) := (clE rfl (by omega)).symm
    have p35 : ∀ i : Nat, i < n → υ.1 35 i = τ.1 34 i := fun i hi => (fυ.1 _ _ (by omega)).trans (hL i hi)
    have nxt : ∀ s : St, FrM υ s → MC s (nW b τ L k (nsW b τ L (wF (wF (wF M A (12 + τ.1 33 (n - 1))) (A + 4) (τ.1 0 50)) (A + 8) (x3 + 12)) k)) → fX0_putNodes_j107 N rr y Q s := by
      intro s fs ms v ev
      have fv : v.toInt = y.toInt + 1 := (congrArg Int32.toInt ev).trans (aOkE rfl o1 (by omega) (by omega))
      have cv : v.toNatClampNeg = k + 1 := by have := clE fv (by omega); omega
      exact ih v s ⟨by omega, by omega, fυ.tr fs, by rw [cv]; exact ms⟩ (by (try dsimp only); omega)
    rw [hk, p35 k (by omega)]
    refine ⟨fun d => ?_, fun d => ?_⟩
    · have d' := (ltE (rfl : y.toInt = _) g10).mp d
      have g34 : υ.1 34 k = τ.1 27 k := (fυ.1 _ _ (by omega)).trans (s34 k (by omega))
      rw [g34]
      by_cases k0 : k = 0
      · have m1 : τ.1 27 k = -1 := by rw [k0]; exact tl.1
        refine ⟨hin, fun q => ?_, fun _ => ⟨hin, c_put cpl (by omega) mυ (fun s fs ms => nxt s fs ?_)⟩⟩
        · rw [m1] at q
          exact absurd q (by decide)
        · unfold nW
          rw [if_neg (by omega), if_pos m1]
          exact ms
      · obtain ⟨l1, l2, l3⟩ := tl.2.2 k (by omega) (by omega)
        have c7 := clE (rfl : (τ.1 27 k).toInt = _) l1
        refine ⟨hin, fun _ => ⟨hin, hin, ?_⟩, fun q => absurd ((leE z0 rfl).mpr l1) q⟩
        refine c_piece (b := b) hN c7.symm (by omega) cpl (by rw [← l3]; omega) (FrM.pc (by omega) (hX _ (by omega) (by omega)) fυ) hb mυ (fun s fs ms => nxt s fs ?_)
        unfold nW
        rw [if_neg (by omega), if_neg (fun w => by rw [w] at l1; exact absurd l1 (by decide))]
        exact ms
    · have d' := (notltE (rfl : y.toInt = _) g10).mp d
      obtain ⟨z, o, qa, qb, qab, q30, q31, q33, _⟩ := tk k (by omega) (by omega)
      have sa := ts z (by omega)
      have sb := ts o (by omega)
      have cz : (τ.1 30 k).toNatClampNeg = z := by have := clE q30 (by omega); omega
      have co : (τ.1 31 k).toNatClampNeg = o := by have := clE q31 (by omega); omega
      have g1 : (τ.1 34 k + 1).toInt = (pl τ k + 1 : Nat) := aOkE cpl o1 (by omega) (by omega)
      have g5 : (τ.1 34 k + 5).toInt = (pl τ k + 5 : Nat) := aOkE cpl o5 (by omega) (by omega)
      have w := s3x k (by omega) (by omega)
      have h31 : ∀ s : St, FrM υ s → s.1 31 k = τ.1 30 k := fun s fs => (fs.1 _ _ (by omega)).trans ((fυ.1 _ _ (by omega)).trans w.1)
      have h32 : ∀ s : St, FrM υ s → s.1 32 k = τ.1 31 k := fun s fs => (fs.1 _ _ (by omega)).trans ((fυ.1 _ _ (by omega)).trans w.2)
      have h35 : ∀ s : St, FrM υ s → ∀ i : Nat, i < n → s.1 35 i = τ.1 34 i := fun s fs i hi => (fs.1 _ _ (by omega)).trans (p35 i hi)
      unfold fX0_putBranch
      rw [hk, p35 k (by omega)]
      refine ⟨hin, c_put cpl (by omega) mυ (fun s1 f1 m1 => ?_)⟩
      rw [h31 s1 f1, h35 s1 f1 k (by omega), h35 s1 f1 (τ.1 30 k).toNatClampNeg (by omega)]
      refine ⟨hin, hin, inE q30 (by omega) (by omega), c_putF g1 (by omega) m1 (fun s2 f2 m2 => ?_)⟩
      rw [h32 s2 (f1.tr f2), h35 s2 (f1.tr f2) k (by omega), h35 s2 (f1.tr f2) (τ.1 31 k).toNatClampNeg (by omega)]
      refine ⟨hin, hin, inE q31 (by omega) (by omega), c_putF g5 (by omega) m2 (fun s3 f3 m3 => nxt s3 ((f1.tr f2).tr f3) ?_)⟩
      unfold nW
      rw [if_pos (by omega)]
      exact m3
end SIM49
