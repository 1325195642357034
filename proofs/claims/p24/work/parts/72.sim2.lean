section SIM2
variable {X : St → St → Prop} {a b : St}
/-- a job's fields, laid anew -/
def jb1 (a : St) (k : Nat) (x p : Int32) : St := u1 (u1 (u1 (u1 (u1 (u1 (u1 a k 1 x) k 2 p) k 3 0) k 4 0) k 5 1) k 6 0) k 7 255
def jb2 (b : St) (m : Nat) (x p : Int32) : St := u1 (u1 (u1 (u1 (u1 (u1 (u1 b 6 m x) 7 m p) 8 m 0) 9 m 0) 11 m 1) 12 m 0) 13 m 255
theorem jb1_ne {k : Nat} {x p : Int32} {c j : Nat} (h : c ≠ k) : (jb1 a k x p).1 c j = a.1 c j := by
  unfold jb1
  rw [u1e (by omega), u1e (by omega), u1e (by omega), u1e (by omega), u1e (by omega), u1e (by omega), u1e (by omega)]
theorem jb2_ne {m : Nat} {x p : Int32} {c j : Nat} (h : j ≠ m ∨ c < 6 ∨ 13 < c ∨ c = 10) : (jb2 b m x p).1 c j = b.1 c j := by
  unfold jb2
  rw [u1e (by omega), u1e (by omega), u1e (by omega), u1e (by omega), u1e (by omega), u1e (by omega), u1e (by omega)]
theorem jb_eq {k m : Nat} {x p : Int32} {f : Nat} (h1 : 1 ≤ f) (h2 : f ≤ 7) : (jb1 a k x p).1 k f = (jb2 b m x p).1 (jr f) m := by
  unfold jb1 jb2
  match f, h1, h2 with
  | 1, _, _ =>
    rw [u1e (by omega), u1e (by omega), u1e (by omega), u1e (by omega), u1e (by omega), u1e (by omega), u1v]
    show _ = (u1 _ 13 m 255).1 6 m
    rw [u1e (by omega), u1e (by omega), u1e (by omega), u1e (by omega), u1e (by omega), u1e (by omega), u1v]
  | 2, _, _ =>
    rw [u1e (by omega), u1e (by omega), u1e (by omega), u1e (by omega), u1e (by omega), u1v]
    show _ = (u1 _ 13 m 255).1 7 m
    rw [u1e (by omega), u1e (by omega), u1e (by omega), u1e (by omega), u1e (by omega), u1v]
  | 3, _, _ =>
    rw [u1e (by omega), u1e (by omega), u1e (by omega), u1e (by omega), u1v]
    show _ = (u1 _ 13 m 255).1 8 m
    rw [u1e (by omega), u1e (by omega), u1e (by omega), u1e (by omega), u1v]
  | 4, _, _ =>
    rw [u1e (by omega), u1e (by omega), u1e (by omega), u1v]
    show _ = (u1 _ 13 m 255).1 9 m
    rw [u1e (by omega), u1e (by omega), u1e (by omega), u1v]
  | 5, _, _ =>
    rw [u1e (by omega), u1e (by omega), u1v]
    show _ = (u1 _ 13 m 255).1 11 m
    rw [u1e (by omega), u1e (by omega), u1v]
  | 6, _, _ =>
    rw [u1e (by omega), u1v]
    show _ = (u1 _ 13 m 255).1 12 m
    rw [u1e (by omega), u1v]
  | 7, _, _ =>
    rw [u1v]
    show _ = (u1 _ 13 m 255).1 13 m
    rw [u1v]
theorem jb2_9 {m : Nat} {x p : Int32} : (jb2 b m x p).1 9 m = 0 := by
  unfold jb2
  rw [u1e (by omega), u1e (by omega), u1e (by omega), u1v]
theorem jb2_6 {m : Nat} {x p : Int32} : (jb2 b m x p).1 6 m = x := by
  unfold jb2
  rw [u1e (by omega), u1e (by omega), u1e (by omega), u1e (by omega), u1e (by omega), u1e (by omega), u1v]
theorem jb2_8 {m : Nat} {x p : Int32} : (jb2 b m x p).1 8 m = 0 := by
  unfold jb2
  rw [u1e (by omega), u1e (by omega), u1e (by omega), u1e (by omega), u1v]
theorem jb2_13 {m : Nat} {x p : Int32} : (jb2 b m x p).1 13 m = 255 := by
  unfold jb2
  rw [u1v]
theorem Rs.jb (h : Rs a b) {k m : Nat} {x p : Int32} (hk : 8 ≤ k) : Rs (jb1 a k x p) (jb2 b m x p) := by
  intro q hm
  have l := SC_lt q hm
  rw [jb1_ne (by omega), jb2_ne (by omega)]
  exact h q hm
theorem XA.jb (hX : XA X) (h : X a b) {k m : Nat} {x p : Int32} (hk : 43 ≤ k) (hk2 : k < 123) : X (jb1 a k x p) (jb2 b m x p) := by
  have h1 : X (jb1 a k x p) b := by
    unfold jb1
    have q : ∀ j : Nat, Xa k j := fun j => by unfold Xa; omega
    exact hX.x1 (q _) (hX.x1 (q _) (hX.x1 (q _) (hX.x1 (q _) (hX.x1 (q _) (hX.x1 (q _) (hX.x1 (q _) h))))))
  unfold jb2
  have q : ∀ c : Nat, 6 ≤ c → c ≤ 13 → Xb c m := fun c c1 c2 => by unfold Xb; omega
  exact hX.x2 (q _ (by omega) (by omega)) (hX.x2 (q _ (by omega) (by omega)) (hX.x2 (q _ (by omega) (by omega)) (hX.x2 (q _ (by omega) (by omega)) (hX.x2 (q _ (by omega) (by omega)) (hX.x2 (q _ (by omega) (by omega)) (hX.x2 (q _ (by omega) (by omega)) h1))))))
theorem K2.jb (h : K2 b b) {x p : Int32} : K2 b (jb2 b (b.1 0 14).toNatClampNeg x p) ∧ ((jb2 b (b.1 0 14).toNatClampNeg x p).1 13 0).toInt = 255 := by
  have h6 : K2 b (u1 (u1 (u1 (u1 (u1 (u1 b 6 (b.1 0 14).toNatClampNeg x) 7 (b.1 0 14).toNatClampNeg p) 8 (b.1 0 14).toNatClampNeg 0) 9 (b.1 0 14).toNatClampNeg 0) 11 (b.1 0 14).toNatClampNeg 1) 12 (b.1 0 14).toNatClampNeg 0) := by
    refine K2.ua (K2.ua (K2.ua (K2.ua (K2.ua (K2.ua h (by trivial) (by decide)) (by trivial) (by decide)) (by trivial) (by decide)) ?_ (by decide)) (by trivial) (by decide)) (by trivial) (by decide)
    exact ⟨by decide, by decide⟩
  refine ⟨?_, ?_⟩
  · unfold jb2
    exact h6.u13 (Or.inl (by decide))
  · refine K2.z13 h6 ?_
    unfold jb2
    congr 1
/-- a job begins, in step -/
theorem q_begin {N : Nat} (hX : XA X) (h : Ru X a b) {x p : Int32} (hx4 : 0 ≤ x.toInt ∧ x.toInt ≤ 4) {Q1 : St → Prop} (hQ : ∀ a' b' : St, Ru X a' b' → (b'.1 0 9 = 0 → b.1 0 9 = 0 ∧ (b'.1 0 14).toInt = (b.1 0 14).toInt + 1 ∧ (∀ c j : Nat, ¬ (c = 43 + (b.1 0 14).toNatClampNeg ∨ (c = 3 ∧ j = 7) ∨ c = 5) → a'.1 c j = a.1 c j) ∧ (∀ c j : Nat, (c = 10 ∨ c = 15) → b'.1 c j = b.1 c j)) → (∀ Q2 : St → Prop, Q2 b' → fX12_lays N x p Q2 b) → Q1 a') : fX2_begin N x p Q1 a := by
  have d40 := h.d40
  have z40 : (40 : Int32).toInt = 40 := by decide
  have z1 : (1 : Int32).toInt = 1 := by decide
  have hd := h.dep
  unfold fX2_begin
  rw [hd, h.f]
  by_cases c : b.1 0 9 = 0
  · refine ⟨fun _ => ⟨fun q => ?_, fun q => ?_⟩, fun q => absurd c q⟩
    · have q' := (ltE (rfl : (b.1 0 14).toInt = (b.1 0 14).toInt) z40).mp q
      have hin : vp_in (b.1 0 14) 40 := inE (rfl : (b.1 0 14).toInt = (b.1 0 14).toInt) (by omega) (by omega)
      have em := clE (rfl : (b.1 0 14).toInt = (b.1 0 14).toInt) d40.1
      obtain ⟨m, hm⟩ : ∃ m : Nat, (b.1 0 14).toNatClampNeg = m := ⟨_, rfl⟩
      have hK := K2.jb h.k (x := x) (p := p)
      rw [hm] at em hK
      rw [hm]
      refine ⟨hin, ?_⟩
      unfold fX1_reset
      intro s1 e1 s2 e2 s3 e3 s4 e4 s5 e5 s6 e6 s7 e7 v5 ev5 s8 e8 v7 ev7 s9 e9
      have E7 : s7 = jb1 a (43 + m) x p := by rw [e7, e6, e5, e4, e3, e2, e1]; rfl
      rw [E7, jb1_ne (by omega), hd] at ev5
      rw [E7] at e8
      have fv : v5.toInt = (b.1 0 14).toInt + 1 := (congrArg Int32.toInt ev5).trans (aOkE rfl z1 (by omega) (by omega))
      have e57 : s8.1 5 7 = b.1 0 32 := by
        rw [e8, u1e (by decide), jb1_ne (by omega)]
        exact h.s.at 5 7 0 32 (by decide)
      have e37 : s8.1 3 7 = v5 := by rw [e8, u1v]
      rw [e57, e37] at ev7
      obtain ⟨b', hb'⟩ : ∃ b' : St, b' = u1 (u1 (jb2 b m x p) 0 14 v5) 0 32 v7 := ⟨_, rfl⟩
      have b14 : b'.1 0 14 = v5 := by rw [hb', u1e (by decide), u1v]
      have b09 : b'.1 0 9 = b.1 0 9 := by rw [hb', u1e (by decide), u1e (by decide), jb2_ne (by omega)]
      have hS : Rs s9 b' := by
        rw [e9, e8, hb']
        exact ((h.s.jb (by omega)).ab (by decide)).ab (by decide)
      have hG : G2 b' := by
        rw [hb']
        exact ((hK.1.u14 (Rg2.r_0_14 (by omega) (by omega)) (Or.inr hK.2)).uf (by simp [Rg2]) (by decide)).1
      refine hQ s9 b' ⟨hS, ?_, ?_, ?_, hG, ?_, fun _ j hj => ?_⟩ (fun _ => ⟨c, by rw [b14]; exact fv, fun k j hkj => ?_, fun k j hkj => ?_⟩) (fun Q2 q2 => ?_)
      · refine h.m.ext ?_ ?_
        · funext y
          rw [e9, u1e (by omega), e8, u1e (by omega), jb1_ne (by omega)]
        · funext y
          rw [hb', u1e (by omega), u1e (by omega), jb2_ne (by omega)]
      · funext y
        rw [e9, u1e (by omega), e8, u1e (by omega), jb1_ne (by omega), hb', u1e (by omega), u1e (by omega), jb2_ne (by omega)]
        exact congrFun h.o y
      · rw [e9, e8, hb']
        exact hX.x2 (by unfold Xb; omega) (hX.x1 (by unfold Xa; omega) (hX.x2 (by unfold Xb; omega) (hX.x1 (by unfold Xa; omega) (hX.jb h.x (by omega) (by omega)))))
      · rw [b09, e9, u1e (by decide), e8, u1e (by decide), jb1_ne (by omega)]
        exact h.f
      · rw [b14, fv] at hj
        by_cases ej : j = m
        · subst ej
          refine ⟨fun f f1 f2 => ?_, fun i hi => ?_, ?_⟩
          · have r := jr_rg f
            rw [e9, u1e (by omega), e8, u1e (by omega), hb', u1e (by omega), u1e (by omega)]
            exact jb_eq f1 f2
          · rw [hb', u1e (by omega), u1e (by omega), jb2_9] at hi
            exact absurd hi (by have : (0 : Int32).toInt = 0 := by decide
                                omega)
          · have k6 : b'.1 6 j = x := by rw [hb', u1e (by omega), u1e (by omega)]; exact jb2_6
            have k8 : b'.1 8 j = 0 := by rw [hb', u1e (by omega), u1e (by omega)]; exact jb2_8
            refine ⟨by rw [k6]; exact hx4, fun _ => ?_⟩
            rw [k8]
            exact ⟨by decide, by have : (0 : Int32).toInt = 0 := by decide
                                 have := dgs_pos (b'.1 7 j)
                                 omega⟩
        · refine (h.j c j (by omega)).ext (fun f => ?_) (fun i => ?_) (fun k k1 k2 k3 => ?_) (fun i _ => ?_) (g2_9 h.g j).2
          · rw [e9, u1e (by omega), e8, u1e (by omega), jb1_ne (by omega)]
          · rw [e9, u1e (by omega), e8, u1e (by omega), jb1_ne (by omega)]
          · rw [hb', u1e (by omega), u1e (by omega), jb2_ne (by omega)]
          · rw [hb', u1e (by omega), u1e (by omega), jb2_ne (by omega)]
      · rw [e9, u1e (by omega), e8, u1e (by omega), jb1_ne (by omega)]
      · rw [hb', u1e (by omega), u1e (by omega), jb2_ne (by omega)]
      · unfold fX12_lays fX12_lays_j22
        have n40 : ¬ b.1 0 14 = 40 := fun z => by rw [z, z40] at q'; omega
        refine ⟨fun _ => ⟨fun z => absurd z n40, fun _ => ⟨fun _ => ?_, fun z => absurd c z⟩⟩, fun z => absurd c z⟩
        refine ⟨hin, fun t4 g4 => ?_⟩
        have k4 : t4.1 0 14 = b.1 0 14 := by rw [g4, u1e (by omega)]
        rw [k4]
        refine ⟨hin, fun t6 g6 => ?_⟩
        have k6 : t6.1 0 14 = b.1 0 14 := by rw [g6, u1e (by omega), k4]
        rw [k6]
        refine ⟨hin, fun t8 g8 => ?_⟩
        have k8 : t8.1 0 14 = b.1 0 14 := by rw [g8, u1e (by omega), k6]
        rw [k8]
        refine ⟨hin, fun t10 g10 => ?_⟩
        have k10 : t10.1 0 14 = b.1 0 14 := by rw [g10, u1e (by omega), k8]
        rw [k10]
        refine ⟨hin, fun t12 g12 => ?_⟩
        have k12 : t12.1 0 14 = b.1 0 14 := by rw [g12, u1e (by omega), k10]
        rw [k12]
        refine ⟨hin, fun t14 g14 => ?_⟩
        have k14 : t14.1 0 14 = b.1 0 14 := by rw [g14, u1e (by omega), k12]
        rw [k14]
        refine ⟨hin, fun t16 g16 v17 ev17 t18 g18 => ?_⟩
        have k16 : t16.1 0 14 = b.1 0 14 := by rw [g16, u1e (by omega), k14]
        rw [k16, ← ev5] at ev17
        rw [hm] at g4 g6 g8 g10 g12 g14 g16
        rw [show vp_nar .boolean 1 = 1 from by decide] at g12
        have E16 : t16 = jb2 b m x p := by rw [g16, g14, g12, g10, g8, g6, g4]; rfl
        rw [E16, ev17] at g18
        have k18 : t18.1 0 14 = v5 := by rw [g18, u1v]
        have k32 : t18.1 0 32 = b.1 0 32 := by rw [g18, u1e (by decide), jb2_ne (by omega)]
        rw [k18, k32]
        refine ⟨fun z t20 g20 => ?_, fun z t20 g20 => ?_⟩
        · have ez : v7 = b.1 0 32 := by rw [ev7, if_neg (by rw [Int32.not_lt]; exact z)]
          rw [← ez, g18, ← hb'] at g20
          rw [g20]; exact q2
        · have ez : v7 = v5 := by rw [ev7, if_pos (by rw [Int32.not_le] at z; exact z)]
          rw [← ez, g18, ← hb'] at g20
          rw [g20]; exact q2
    · have q' := (notltE (rfl : (b.1 0 14).toInt = (b.1 0 14).toInt) z40).mp q
      have hf := h.fl hX (x := 8) (by decide) (by decide)
      have e40 : b.1 0 14 = 40 := Int32.toInt_inj.mp (by omega)
      refine c_fail (hQ _ _ hf.1 (fun z => absurd z hf.2) (fun Q2 q2 => ?_))
      unfold fX12_lays
      refine ⟨fun _ => ⟨fun _ => r_fails ?_, fun z => absurd e40 z⟩, fun z => absurd c z⟩
      unfold fX12_lays_j22
      exact ⟨fun z => absurd z hf.2, fun _ => q2⟩
  · refine ⟨fun q => absurd q c, fun _ => hQ a b h (fun z => absurd z c) (fun Q2 q2 => ?_)⟩
    unfold fX12_lays fX12_lays_j22
    exact ⟨fun z => absurd z c, fun _ => ⟨fun z => absurd z c, fun _ => q2⟩⟩
/-- a string begins, in step -/
theorem q_string {N : Nat} (hX : XA X) (h : Ru X a b) {x : Int32} {Q1 : St → Prop} (hQ : ∀ a' b' : St, Ru X a' b' → (∀ Q2 : St → Prop, Q2 b' → fX12_prints N x Q2 b) → Q1 a') : fX2_beginString N x Q1 a := by
  have z224 : (224 : Int32).toInt = 224 := by decide
  have z226 : (226 : Int32).toInt = 226 := by decide
  have fin : ∀ (r : Int32) (b1 : St), b1.1 0 9 ≠ 0 → ∀ Q2 : St → Prop, Q2 b1 → fX12_prints_j26 N x r Q2 b1 := by
    intro r b1 hb Q2 q2
    have l : ∀ k p : Int32, fX12_lays N k p (fun s => Q2 s) b1 := by
      intro k p
      unfold fX12_lays fX12_lays_j22
      exact ⟨fun z => absurd z hb, fun _ => ⟨fun z => absurd z hb, fun _ => q2⟩⟩
    unfold fX12_prints_j26 fX12_prints_j50 fX12_prints_j66
    exact ⟨fun _ => ⟨fun _ => l _ _, fun _ => l _ _⟩, fun _ => ⟨fun _ => ⟨fun _ => l _ _, fun _ => l _ _⟩, fun _ => ⟨fun _ => l _ _, fun _ => l _ _⟩⟩⟩
  unfold fX2_beginString
  refine q_read (N := N) hX h (x := x) (y := x.toInt64) (i2lE rfl) (fun r a1 b1 h1 hh r0 r255 run => ?_)
  rw [h1.f]
  refine ⟨fun c => ?_, fun c => ?_⟩
  · have run2 : ∀ Q2 : St → Prop, fX12_prints_j26 N x r Q2 b1 → (224 ≤ r.toInt ∧ r.toInt ≤ 226) → fX12_prints N x Q2 b := by
      intro Q2 q2 hr
      unfold fX12_prints
      refine run _ ?_
      refine ⟨fun _ => ?_, fun z => absurd c z⟩
      unfold fX12_isString
      refine ⟨fun z => ?_, fun _ => ⟨fun z => ?_, fun _ => ⟨fun z => absurd z (by decide), fun _ => q2⟩⟩⟩
      · have := (ltE (rfl : r.toInt = r.toInt) z224).mp z
        omega
      · have := (ltE z226 (rfl : r.toInt = r.toInt)).mp z
        omega
    refine ⟨fun q => ?_, fun q => ⟨fun q2 => ?_, fun q2 => ⟨fun q3 => ?_, fun q3 => ?_⟩⟩⟩
    · refine q_begin hX h1 (by decide) (fun a' b' h' _ run' => hQ a' b' h' (fun Q2 z => run2 Q2 ?_ ?_))
      · subst q
        unfold fX12_prints_j26 fX12_prints_j50 fX12_prints_j66
        exact ⟨fun _ => ⟨fun w => absurd w (by decide), fun _ => run' _ z⟩, fun w => absurd rfl w⟩
      · subst q
        decide
    · refine q_begin hX h1 (by decide) (fun a' b' h' _ run' => hQ a' b' h' (fun Q2 z => run2 Q2 ?_ ?_))
      · subst q2
        unfold fX12_prints_j26 fX12_prints_j50 fX12_prints_j66
        exact ⟨fun w => absurd w (by decide), fun _ => ⟨fun w => absurd w (by decide), fun _ => ⟨fun w => absurd w (by decide), fun _ => run' _ z⟩⟩⟩
      · subst q2
        decide
    · refine q_begin hX h1 (by decide) (fun a' b' h' _ run' => hQ a' b' h' (fun Q2 z => run2 Q2 ?_ ?_))
      · subst q3
        unfold fX12_prints_j26 fX12_prints_j50 fX12_prints_j66
        exact ⟨fun w => absurd w (by decide), fun _ => ⟨fun _ => ⟨fun _ => run' _ z, fun w => absurd rfl w⟩, fun w => absurd rfl w⟩⟩
      · subst q3
        decide
    · have hf := h1.fl hX (x := 4) (by decide) (by decide)
      refine c_fail (hQ _ _ hf.1 (fun Q2 z => ?_))
      have n1 := ne_i z224 q
      have n2 := ne_i (show (225 : Int32).toInt = 225 from by decide) q2
      have n3 := ne_i z226 q3
      unfold fX12_prints
      refine run _ ⟨fun _ => ?_, fun w => absurd c w⟩
      unfold fX12_isString
      refine ⟨fun _ => ⟨fun _ => r_fails (fin r _ hf.2 Q2 z), fun w => absurd rfl w⟩, fun w => ⟨fun _ => ⟨fun _ => r_fails (fin r _ hf.2 Q2 z), fun w => absurd rfl w⟩, fun w2 => ?_⟩⟩
      have := (notltE (rfl : r.toInt = r.toInt) z224).mp w
      have := (notltE z226 (rfl : r.toInt = r.toInt)).mp w2
      omega
  · refine hQ a1 b1 h1 (fun Q2 z => ?_)
    unfold fX12_prints
    exact run _ ⟨fun w => absurd w c, fun _ => fin r b1 c Q2 z⟩
end SIM2
