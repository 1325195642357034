/-! the two sides in step: a is a state of the class, b one of the reference -/
/-- scalars that are the same on both sides: cell and place in the class, cell and place in the reference -/
def SC : List (Nat × Nat × Nat × Nat) := [(3, 7, 0, 14), (3, 8, 0, 24), (3, 9, 0, 12), (3, 10, 0, 13), (5, 0, 0, 25), (5, 1, 0, 26), (5, 2, 0, 27), (5, 3, 0, 28), (5, 4, 0, 29), (5, 5, 0, 30), (5, 6, 0, 31), (5, 7, 0, 32), (2, 8, 0, 6), (1, 1, 0, 1), (0, 6, 0, 3), (6, 5, 0, 36), (7, 4, 0, 41), (4, 11, 0, 46)]
def Rs (a b : St) : Prop := ∀ q ∈ SC, a.1 q.1 q.2.1 = b.1 q.2.2.1 q.2.2.2
theorem SC_inj : ∀ p ∈ SC, ∀ q ∈ SC, (p.1 = q.1 ∧ p.2.1 = q.2.1 ↔ p.2.2.1 = q.2.2.1 ∧ p.2.2.2 = q.2.2.2) := by decide
theorem SC_lt : ∀ q ∈ SC, q.1 ≤ 7 ∧ q.2.2.1 = 0 := by decide
theorem Rs.at {a b : St} (h : Rs a b) (k j k' j' : Nat) (hq : (k, j, k', j') ∈ SC) : a.1 k j = b.1 k' j' := h _ hq
theorem u1v {σ : St} {k j : Nat} {v : Int32} : (u1 σ k j v).1 k j = v := by rw [u1_at]; exact if_pos rfl
theorem u1e {σ : St} {k j : Nat} {v : Int32} {x y : Nat} (h : ¬ (x = k ∧ y = j)) : (u1 σ k j v).1 x y = σ.1 x y := kq rfl h
theorem Rs.ab {a b : St} (h : Rs a b) {k j k' j' : Nat} {v : Int32} (hq : (k, j, k', j') ∈ SC) : Rs (u1 a k j v) (u1 b k' j' v) := by
  intro q hm
  have hi := SC_inj q hm _ hq
  by_cases e : q.1 = k ∧ q.2.1 = j
  · have e2 := hi.mp e
    rw [e.1, e.2, e2.1, e2.2, u1v, u1v]
  · rw [u1e e, u1e (fun z => e (hi.mpr z))]
    exact h q hm
theorem Rs.a {a b : St} (h : Rs a b) {k j : Nat} {v : Int32} (hk : ∀ q ∈ SC, ¬ (q.1 = k ∧ q.2.1 = j)) : Rs (u1 a k j v) b := by
  intro q hm
  rw [u1e (hk q hm)]
  exact h q hm
theorem Rs.a8 {a b : St} (h : Rs a b) {k j : Nat} {v : Int32} (hk : 8 ≤ k) : Rs (u1 a k j v) b :=
  h.a (fun q hm z => by have := (SC_lt q hm).1; omega)
theorem Rs.b {a b : St} (h : Rs a b) {k j : Nat} {v : Int32} (hk : ∀ q ∈ SC, ¬ (q.2.2.1 = k ∧ q.2.2.2 = j)) : Rs a (u1 b k j v) := by
  intro q hm
  rw [u1e (hk q hm)]
  exact h q hm
theorem Rs.b1 {a b : St} (h : Rs a b) {k j : Nat} {v : Int32} (hk : 1 ≤ k) : Rs a (u1 b k j v) :=
  h.b (fun q hm z => by have := (SC_lt q hm).2; omega)
/-- the bytes -/
def RM (a b : St) : Prop := ∀ x : Nat, x < 4096 → (a.1 12 x) &&& 255 = b.1 1 x
theorem RM.ext {a b a' b' : St} (h : RM a b) (h1 : a'.1 12 = a.1 12) (h2 : b'.1 1 = b.1 1) : RM a' b' := fun x hx => by rw [h1, h2]; exact h x hx
/-- the reference's row of a job's field -/
def jr (f : Nat) : Nat := match f with
  | 1 => 6
  | 2 => 7
  | 3 => 8
  | 4 => 9
  | 5 => 11
  | 6 => 12
  | _ => 13
/-- how many signs a number has -/
def dgN (n : Nat) : Nat := if n < 10 then 1 else dgN (n / 10) + 1
def dgs (v : Int32) : Int := (if v.toInt < 0 then 1 else 0) + (dgN v.toInt.natAbs : Int)
theorem dgs_pos (v : Int32) : 0 ≤ dgs v := by
  unfold dgs
  split <;> omega
/-- what is known of a job: its kind, and of a number how much of it is out -/
def JKn (b : St) (j : Nat) : Prop := (0 ≤ (b.1 6 j).toInt ∧ (b.1 6 j).toInt ≤ 4) ∧ (b.1 6 j = 4 → 0 ≤ (b.1 8 j).toInt ∧ (b.1 8 j).toInt ≤ dgs (b.1 7 j))
theorem JKn.ext {b b' : St} {j : Nat} (h : JKn b j) (h6 : b'.1 6 j = b.1 6 j) (h7 : b'.1 7 j = b.1 7 j) (h8 : b'.1 8 j = b.1 8 j) : JKn b' j := by
  unfold JKn
  rw [h6, h7, h8]
  exact h
/-- one job -/
def JE (a b : St) (j : Nat) : Prop := (∀ f : Nat, 1 ≤ f → f ≤ 7 → a.1 (43 + j) f = b.1 (jr f) j) ∧ (∀ i : Nat, (i : Int) < (b.1 9 j).toInt → a.1 (83 + j) i = b.1 10 (8 * j + i)) ∧ JKn b j
def RJ (a b : St) : Prop := ∀ j : Nat, (j : Int) < (b.1 0 14).toInt → JE a b j
theorem jr_rg (f : Nat) : 6 ≤ jr f ∧ jr f ≤ 13 ∧ jr f ≠ 10 := by
  unfold jr
  split <;> decide
theorem jr_inj {f g : Nat} (h1 : 1 ≤ f) (h2 : f ≤ 7) (g1 : 1 ≤ g) (g2 : g ≤ 7) (h : jr f = jr g) : f = g := by
  have key : ∀ f < 8, ∀ g < 8, 1 ≤ f → 1 ≤ g → jr f = jr g → f = g := by decide
  exact key f (by omega) g (by omega) h1 g1 h
theorem JE.ext {a b a' b' : St} {j : Nat} (h : JE a b j) (h1 : ∀ f : Nat, a'.1 (43 + j) f = a.1 (43 + j) f) (h2 : ∀ i : Nat, a'.1 (83 + j) i = a.1 (83 + j) i) (h3 : ∀ k : Nat, 6 ≤ k → k ≤ 13 → k ≠ 10 → b'.1 k j = b.1 k j) (h4 : ∀ i : Nat, i < 8 → b'.1 10 (8 * j + i) = b.1 10 (8 * j + i)) (h8 : (b.1 9 j).toInt ≤ 8) : JE a' b' j := by
  refine ⟨fun f f1 f2 => ?_, fun i hi => ?_, h.2.2.ext (h3 6 (by omega) (by omega) (by omega)) (h3 7 (by omega) (by omega) (by omega)) (h3 8 (by omega) (by omega) (by omega))⟩
  · rw [h1, h3 _ (jr_rg f).1 (jr_rg f).2.1 (jr_rg f).2.2]; exact h.1 f f1 f2
  · rw [h3 9 (by omega) (by omega) (by omega)] at hi
    rw [h2, h4 i (by omega)]
    exact h.2.1 i hi
/-- what the rest of the state must bear -/
def Xa (k j : Nat) : Prop := (k = 3 ∧ 6 ≤ j) ∨ k = 5 ∨ k = 16 ∨ k = 17 ∨ (43 ≤ k ∧ k < 123)
def Xb (k j : Nat) : Prop := (k = 0 ∧ (j = 9 ∨ j = 12 ∨ j = 13 ∨ j = 14 ∨ (24 ≤ j ∧ j ≤ 32) ∨ j = 35)) ∨ (6 ≤ k ∧ k ≤ 15)
/-- what all but these cells bear -/
def XA (X : St → St → Prop) : Prop := (∀ a b a' : St, (∀ c j : Nat, ¬ Xa c j → a'.1 c j = a.1 c j) → X a b → X a' b) ∧ (∀ a b b' : St, (∀ c j : Nat, ¬ Xb c j → b'.1 c j = b.1 c j) → (∀ c j : Nat, ¬ (c = 0 ∧ j = 34) → b'.2 c j = b.2 c j) → X a b → X a b')
theorem XA.x1 {X : St → St → Prop} (hX : XA X) {a b : St} {k j : Nat} {v : Int32} (h : Xa k j) (hx : X a b) : X (u1 a k j v) b :=
  hX.1 a b _ (fun c i q => u1e (fun z => q (by rw [z.1, z.2]; exact h))) hx
theorem XA.x2 {X : St → St → Prop} (hX : XA X) {a b : St} {k j : Nat} {v : Int32} (h : Xb k j) (hx : X a b) : X a (u1 b k j v) :=
  hX.2 a b _ (fun c i q => u1e (fun z => q (by rw [z.1, z.2]; exact h))) (fun _ _ _ => rfl) hx
theorem u2e {σ : St} {k j : Nat} {v : Int64} {x y : Nat} (h : ¬ (x = k ∧ y = j)) : (u2 σ k j v).2 x y = σ.2 x y := by
  show (if x = k then vp_updL (σ.2 x) j v else σ.2 x) y = σ.2 x y
  by_cases e : x = k
  · rw [if_pos e]
    exact if_neg (fun z => h ⟨e, z⟩)
  · rw [if_neg e]
theorem XA.x3 {X : St → St → Prop} (hX : XA X) {a b : St} {v : Int64} (hx : X a b) : X a (u2 b 0 34 v) :=
  hX.2 a b _ (fun _ _ _ => rfl) (fun c j q => u2e q) hx
/-- both sides within a run: X the rest -/
def Ru (X : St → St → Prop) (a b : St) : Prop := Rs a b ∧ RM a b ∧ a.1 16 = b.1 14 ∧ X a b ∧ G2 b ∧ a.1 3 11 = b.1 0 9 ∧ (b.1 0 9 = 0 → RJ a b)
section SIM0
variable {X : St → St → Prop} {a b : St}
theorem Ru.s (h : Ru X a b) : Rs a b := h.1
theorem Ru.m (h : Ru X a b) : RM a b := h.2.1
theorem Ru.o (h : Ru X a b) : a.1 16 = b.1 14 := h.2.2.1
theorem Ru.x (h : Ru X a b) : X a b := h.2.2.2.1
theorem Ru.g (h : Ru X a b) : G2 b := h.2.2.2.2.1
theorem Ru.f (h : Ru X a b) : a.1 3 11 = b.1 0 9 := h.2.2.2.2.2.1
theorem Ru.j (h : Ru X a b) : b.1 0 9 = 0 → RJ a b := h.2.2.2.2.2.2
theorem Ru.k (h : Ru X a b) : K2 b b := K2.self h.g
theorem Ru.dep (h : Ru X a b) : a.1 3 7 = b.1 0 14 := h.s.at 3 7 0 14 (by decide)
theorem Ru.d40 (h : Ru X a b) : 0 ≤ (b.1 0 14).toInt ∧ (b.1 0 14).toInt ≤ 40 := K2.g_0_14 h.k
theorem g2_9 {b : St} (h : G2 b) (j : Nat) : 0 ≤ (b.1 9 j).toInt ∧ (b.1 9 j).toInt ≤ 8 := h.1 9 j
/-- a cell of the class alone that nobody looks at -/
theorem Ru.ca (hX : XA X) (h : Ru X a b) {k j : Nat} {v : Int32} (hk : (k = 3 ∧ (j = 6 ∨ j = 12)) ∨ k = 17) : Ru X (u1 a k j v) b := by
  refine ⟨?_, h.m.ext (u1_ne (by omega)) rfl, ?_, hX.x1 (by unfold Xa; omega) h.x, h.g, ?_, fun h0 j' hj => ?_⟩
  · rcases hk with ⟨rfl, rfl | rfl⟩ | rfl
    · exact h.s.a (by decide)
    · exact h.s.a (by decide)
    · exact h.s.a8 (by omega)
  · rw [u1_ne (by omega)]; exact h.o
  · rw [u1e (by omega)]; exact h.f
  · exact (h.j h0 j' hj).ext (fun f => u1e (by omega)) (fun i => u1e (by omega)) (fun _ _ _ _ => rfl) (fun _ _ => rfl) (g2_9 h.g j').2
/-- a cell of the reference alone that nobody looks at -/
theorem Ru.cb (hX : XA X) (h : Ru X a b) {k j : Nat} {v : Int32} (hr : Rg2 k j v) (hk : (k = 0 ∧ j = 35) ∨ k = 15) : Ru X a (u1 b k j v) := by
  refine ⟨?_, h.m.ext rfl (u1_ne (by omega)), ?_, hX.x2 (by unfold Xb; omega) h.x, h.g.u hr (by omega) (by omega), ?_, fun h0 j' hj => ?_⟩
  · rcases hk with ⟨rfl, rfl⟩ | rfl
    · exact h.s.b (by decide)
    · exact h.s.b1 (by omega)
  · rw [u1_ne (by omega)]; exact h.o
  · rw [u1e (by omega)]; exact h.f
  · rw [u1e (by omega)] at h0 hj
    exact (h.j h0 j' hj).ext (fun _ => rfl) (fun _ => rfl) (fun q q1 q2 q3 => u1e (by omega)) (fun i _ => u1e (by omega)) (g2_9 h.g j').2
theorem Ru.l (hX : XA X) (h : Ru X a b) {v : Int64} : Ru X a (u2 b 0 34 v) := ⟨h.s, h.m, h.o, hX.x3 h.x, h.g, h.f, h.j⟩
/-- a scalar on both sides -/
theorem Ru.ab (hX : XA X) (h : Ru X a b) {k j j' : Nat} {v : Int32} (hq : (k, j, 0, j') ∈ SC) (hk : (k = 3 ∧ 8 ≤ j ∧ j ≤ 10) ∨ k = 5) (hk' : (12 ≤ j' ∧ j' ≤ 13) ∨ (24 ≤ j' ∧ j' ≤ 32)) (hr : Rg2 0 j' v) : Ru X (u1 a k j v) (u1 b 0 j' v) := by
  refine ⟨h.s.ab hq, h.m.ext (u1_ne (by omega)) (u1_ne (by omega)), ?_, hX.x2 (by unfold Xb; omega) (hX.x1 (by unfold Xa; omega) h.x), h.g.uf hr (by omega), ?_, fun h0 j2 hj => ?_⟩
  · rw [u1_ne (by omega), u1_ne (by omega)]; exact h.o
  · rw [u1e (by omega), u1e (by omega)]; exact h.f
  · rw [u1e (by omega)] at h0 hj
    exact (h.j h0 j2 hj).ext (fun f => u1e (by omega)) (fun i => u1e (by omega)) (fun q q1 q2 q3 => u1e (by omega)) (fun i _ => u1e (by omega)) (g2_9 h.g j2).2
/-- a sign more in the row -/
theorem Ru.out (hX : XA X) (h : Ru X a b) {i : Nat} {v : Int32} : Ru X (u1 a 16 i v) (u1 b 14 i v) := by
  refine ⟨(h.s.a8 (by omega)).b1 (by omega), h.m.ext (u1_ne (by omega)) (u1_ne (by omega)), ?_, hX.x2 (by unfold Xb; omega) (hX.x1 (by unfold Xa; omega) h.x), h.g.ua (by trivial) (by decide), ?_, fun h0 j2 hj => ?_⟩
  · rw [u1_at, u1_at, h.o]
  · rw [u1e (by omega), u1e (by omega)]; exact h.f
  · rw [u1e (by omega)] at h0 hj
    exact (h.j h0 j2 hj).ext (fun f => u1e (by omega)) (fun i => u1e (by omega)) (fun q q1 q2 q3 => u1e (by omega)) (fun i _ => u1e (by omega)) (g2_9 h.g j2).2
/-- a fault, where there is none yet -/
def fl1 (a : St) (x : Int32) : St := if a.1 3 11 = 0 then u1 a 3 11 x else a
def fl2 (b : St) (x : Int32) : St := if b.1 0 9 = 0 then u1 b 0 9 x else b
theorem Ru.fl (hX : XA X) (h : Ru X a b) {x : Int32} (h1 : 1 ≤ x.toInt) (h2 : x.toInt ≤ 9) : Ru X (fl1 a x) (fl2 b x) ∧ (fl2 b x).1 0 9 ≠ 0 := by
  have hx : x ≠ 0 := fun z => by rw [z] at h1; exact absurd h1 (by decide)
  unfold fl1 fl2
  by_cases e : b.1 0 9 = 0
  · rw [if_pos (h.f.trans e), if_pos e]
    refine ⟨⟨(h.s.a (by decide)).b (by decide), h.m.ext (u1_ne (by decide)) (u1_ne (by decide)), ?_, hX.x2 (by unfold Xb; omega) (hX.x1 (by unfold Xa; omega) h.x), h.g.uf (Rg2.r_0_9 (by omega) (by omega)) (by decide), ?_, fun h0 => ?_⟩, ?_⟩
    · rw [u1_ne (by decide), u1_ne (by decide)]; exact h.o
    · rw [u1v, u1v]
    · rw [u1v] at h0
      exact absurd h0 hx
    · rw [u1v]; exact hx
  · rw [if_neg (fun z => e (h.f.symm.trans z)), if_neg e]
    exact ⟨h, e⟩
theorem u1_self (σ : St) (k j : Nat) : u1 σ k j (σ.1 k j) = σ := by
  have h : (u1 σ k j (σ.1 k j)).1 = σ.1 := by
    funext x y
    by_cases e : x = k ∧ y = j
    · obtain ⟨rfl, rfl⟩ := e
      exact u1v
    · exact u1e e
  exact Prod.ext h rfl
theorem c_fail {N : Nat} {x : Int32} {Q : St → Prop} (hQ : Q (fl1 a x)) : fX2_fail N x Q a := by
  unfold fX2_fail fl1 at *
  refine ⟨fun c σ e => ?_, fun c => ?_⟩
  · rw [if_pos c] at hQ
    rw [e]; exact hQ
  · rw [if_neg c] at hQ
    exact hQ
theorem r_fails {N : Nat} {x : Int32} {Q : St → Prop} (hQ : Q (fl2 b x)) : fX12_fails N x Q b := by
  unfold fX12_fails fX12_fails_j16 fl2 at *
  refine ⟨fun c σ e => ?_, fun c σ e => ?_⟩
  · rw [if_pos c] at hQ
    rw [e]; exact hQ
  · rw [if_neg c] at hQ
    rw [e, u1_self]; exact hQ
/-- a byte is read -/
theorem c_readIn {N : Nat} {x : Int32} {Q : Int32 → St → Prop} (h1 : 0 ≤ x.toInt) (h2 : x.toInt ≤ 4095) (hQ : Q ((a.1 12 x.toNatClampNeg) &&& 255) a) : fX2_readByte N x Q a := by
  have z0 : (0 : Int32).toInt = 0 := by decide
  have zm : (4096 : Int32).toInt = 4096 := by decide
  have n0 : ¬ x < 0 := fun c => by have := (ltE (rfl : x.toInt = x.toInt) z0).mp c; omega
  have n1 : ¬ 4096 ≤ x := fun c => by have := (leE zm (rfl : x.toInt = x.toInt)).mp c; omega
  unfold fX2_readByte fX3_has fX3_byteOf
  exact ⟨fun c => absurd c n0, fun _ => ⟨fun c => absurd c n1, fun _ => ⟨fun c => absurd c (by decide), fun _ => ⟨fun c => absurd c n0, fun _ => ⟨fun c => absurd c n1, fun _ => ⟨inE (rfl : x.toInt = x.toInt) (by omega) (by omega), hQ⟩⟩⟩⟩⟩⟩
theorem c_readOut {N : Nat} {x : Int32} {Q : Int32 → St → Prop} (h : x.toInt < 0 ∨ 4095 < x.toInt) (hQ : Q 0 (fl1 a 1)) : fX2_readByte N x Q a := by
  have z0 : (0 : Int32).toInt = 0 := by decide
  have zm : (4096 : Int32).toInt = 4096 := by decide
  unfold fX2_readByte fX3_has
  refine ⟨fun _ => ⟨fun _ => c_fail hQ, fun c => absurd rfl c⟩, fun c => ⟨fun _ => ⟨fun _ => c_fail hQ, fun c => absurd rfl c⟩, fun c2 => ?_⟩⟩
  have := (notltE (rfl : x.toInt = x.toInt) z0).mp c
  have := (notleE zm (rfl : x.toInt = x.toInt)).mp c2
  omega
theorem r_readIn {N : Nat} {x : Int64} {Q : Int32 → St → Prop} (h1 : 0 ≤ x.toInt) (h2 : x.toInt ≤ 4095) (hQ : Q (b.1 1 x.toInt.toNat) b) : fX12_read N x Q b := by
  have z0 : (0 : Int64).toInt = 0 := by decide
  have zm : (4095 : Int64).toInt = 4095 := by decide
  have e : x.toInt32.toInt = x.toInt := l2iE rfl (by omega) (by omega)
  have ec := clE e (by omega)
  unfold fX12_read fX12_in
  refine ⟨fun c => ?_, fun _ => ⟨fun c => ?_, fun _ => ⟨fun c => absurd c (by decide), fun _ => ⟨inE e (by omega) (by omega), ?_⟩⟩⟩⟩
  · have := (ltE64 (rfl : x.toInt = x.toInt) z0).mp c
    omega
  · have := (ltE64 zm (rfl : x.toInt = x.toInt)).mp c
    omega
  · rw [show x.toInt32.toNatClampNeg = x.toInt.toNat by omega]
    exact hQ
theorem r_readOut {N : Nat} {x : Int64} {Q : Int32 → St → Prop} (h : x.toInt < 0 ∨ 4095 < x.toInt) (hQ : Q 0 (fl2 b 1)) : fX12_read N x Q b := by
  have z0 : (0 : Int64).toInt = 0 := by decide
  have zm : (4095 : Int64).toInt = 4095 := by decide
  unfold fX12_read fX12_in
  refine ⟨fun _ => ⟨fun _ => r_fails hQ, fun c => absurd rfl c⟩, fun c => ⟨fun _ => ⟨fun _ => r_fails hQ, fun c => absurd rfl c⟩, fun c2 => ?_⟩⟩
  have := (notltE64 (rfl : x.toInt = x.toInt) z0).mp c
  have := (notltE64 zm (rfl : x.toInt = x.toInt)).mp c2
  omega
/-- reading in step: the same answer -/
theorem q_read {N : Nat} (hX : XA X) (h : Ru X a b) {x : Int32} {y : Int64} (e : y.toInt = x.toInt) {Q1 : Int32 → St → Prop} (hQ : ∀ (r : Int32) (a' b' : St), Ru X a' b' → ((a' = a ∧ b' = b ∧ 0 ≤ x.toInt ∧ x.toInt ≤ 4095) ∨ (r = 0 ∧ b'.1 0 9 ≠ 0 ∧ a' = fl1 a 1 ∧ b' = fl2 b 1)) → 0 ≤ r.toInt → r.toInt ≤ 255 → (∀ Q2 : Int32 → St → Prop, Q2 r b' → fX12_read N y Q2 b) → Q1 r a') : fX2_readByte N x Q1 a := by
  by_cases c : 0 ≤ x.toInt ∧ x.toInt ≤ 4095
  · have ec := clE (rfl : x.toInt = x.toInt) c.1
    have hm := h.m x.toNatClampNeg (by omega)
    have hb := and255 (a.1 12 x.toNatClampNeg)
    refine c_readIn c.1 c.2 (hQ _ a b h (Or.inl ⟨rfl, rfl, c.1, c.2⟩) hb.1 hb.2 (fun Q2 q => ?_))
    refine r_readIn (by omega) (by omega) ?_
    rw [show y.toInt.toNat = x.toNatClampNeg by omega, ← hm]
    exact q
  · have hf := h.fl hX (x := 1) (by decide) (by decide)
    exact c_readOut (by omega) (hQ 0 _ _ hf.1 (Or.inr ⟨rfl, hf.2, rfl, rfl⟩) (by decide) (by decide) (fun Q2 q => r_readOut (by omega) q))
end SIM0
