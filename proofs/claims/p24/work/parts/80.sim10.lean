section SIM10
variable {X : St → St → Prop} {a b a' b' : St} {j N : Nat} {n : (Nat → Int32) → Int32 → (Nat → Int32) → (Nat → Int32) → Prop} {x1 op : Int32} {v1 w1 t1 d1 v2 w2 t2 d2 : Int32} {Q1 : St → Prop}
theorem q_122 (hN : 4294967400 ≤ N) (hX : XA X) (hT : XT N X) (hW : XW X) (h : Oq X j n a b) (hn : ∀ f c g k, n f c g k → k j = 0) (hj : j < 40) (hx1 : x1.toInt = (j : Int)) (h0 : 0 ≤ op.toInt) (h1 : op.toInt ≤ 17) (h6 : op ≠ 6) (hv : b.1 0 9 = 0 → v1 = v2 ∧ w1 = w2 ∧ t1 = t2 ∧ d1 = d2 ∧ (t2.toInt = 255 ∨ (0 ≤ t2.toInt ∧ t2.toInt < (b.1 9 j).toInt))) (hQ : ∀ a' b' : St, Ru X a' b' → (∀ Q2 : St → Prop, Q2 b' → fX12_order_j304 N x1 op v2 w2 0 t2 d2 Q2 b) → Q1 a') : fX2_doOrder_j122 N (43 + j) op v1 w1 t1 d1 Q1 a := by
  have tb := optab h0 h1 h6
  have hin : vp_in op 18 := inE (rfl : op.toInt = op.toInt) h0 (by omega)
  unfold fX2_doOrder_j122
  rw [h.1.f]
  refine ⟨fun c v17 e17 s18 e18 => ?_, fun c => hQ a b h.1 (fun Q2 z => e304 h.1.g c z)⟩
  obtain ⟨ev, ew, et, ed, ht⟩ := hv c
  subst ev
  subst ew
  subst et
  subst ed
  obtain ⟨e1, e2, e3⟩ := h.2.2 c
  have k6 : b.1 6 j = 0 := hn _ _ _ _ e3
  have k64 : b.1 0 9 = 0 → b.1 6 j ≠ 4 := fun _ q => by rw [k6] at q; exact absurd q (by decide)
  have nx : b.2 0 34 = (a.1 3 12).toInt64 := Int64.toInt_inj.mp (by rw [e1, i2lE rfl])
  have h18 := h.1.pl hX (j := j) hj k64 (v := v17)
  rw [← e18] at h18
  have cx := clE hx1 (by omega)
  have ref : ∀ (dd : Int32) (Q2 : St → Prop), fX12_does N op v1 w1 0 t1 Q2 (u1 b 7 j (a.1 3 12 + dd)) → fX12_order_j373 N op v1 w1 0 t1 dd (b.2 0 34) x1 Q2 b := by
    intro dd Q2 z
    unfold fX12_order_j373
    intro v23 e23
    rw [nx, Int64.toInt32_add, Int32.toInt32_toInt64, Int32.toInt32_toInt64] at e23
    refine ⟨inE hx1 (by omega) (by omega), fun s es => ?_⟩
    rw [es, e23, show x1.toNatClampNeg = j by omega]
    exact z
  have refN : ¬ ((op = 10 ∧ v1 = 0) ∨ (op = 11 ∧ ¬ v1 = 0) ∨ (op = 12 ∧ ¬ w1 ≤ v1)) → ∀ Q2 : St → Prop, fX12_does N op v1 w1 0 t1 Q2 (u1 b 7 j v17) → fX12_order_j304 N x1 op v1 w1 0 t1 d1 Q2 b := fun nl Q2 z => r304 c (fun w => absurd w nl) (fun _ => ref 0 Q2 (by rw [Int32.add_zero, ← e17]; exact z))
  have h35 : ((u1 b 7 j v17).1 0 35).toInt = (j : Int) := by rw [u1e (by omega)]; exact h.2.1
  have hd18 : ((u1 b 7 j v17).1 0 14).toInt = (j : Int) + 1 := by rw [u1e (by omega)]; exact e2
  have t18 : t1.toInt = 255 ∨ (0 ≤ t1.toInt ∧ t1.toInt < ((u1 b 7 j v17).1 9 j).toInt) := by rw [u1e (by omega)]; exact ht
  refine ⟨hin, fun c1 => ?_, fun c1 => ⟨hin, fun c2 => ?_, fun c2 => ?_⟩⟩
  · have g := tb.1.mp c1
    have nl : ¬ ((op = 10 ∧ v1 = 0) ∨ (op = 11 ∧ ¬ v1 = 0) ∨ (op = 12 ∧ ¬ w1 ≤ v1)) := by
      intro w
      rcases g with rfl | rfl | rfl | rfl | rfl | rfl
      all_goals (rcases w with w | w | w <;> exact absurd w.1 (by decide))
    unfold fX2_valueFor fX2_valueFor_j70
    rcases g with rfl | rfl | rfl | rfl | rfl | rfl
    · exact ⟨fun _ => q_putL hX h18 h35 hj (fun _ => hd18) (fun _ => ⟨rfl, t18⟩) (fun a' b' h' run => hQ a' b' h' (fun Q2 z => refN nl Q2 (does_7 (run _ z)))), fun q => absurd rfl q⟩
    · exact ⟨fun q => absurd q (by decide), fun _ => ⟨fun _ => q_putL hX h18 h35 hj (fun _ => hd18) (fun _ => ⟨rfl, t18⟩) (fun a' b' h' run => hQ a' b' h' (fun Q2 z => refN nl Q2 (does_8 (run _ z)))), fun q => absurd rfl q⟩⟩
    · exact ⟨fun q => absurd q (by decide), fun _ => ⟨fun q => absurd q (by decide), fun _ => ⟨fun _ => q_putL hX h18 h35 hj (fun _ => hd18) (fun _ => ⟨rfl, t18⟩) (fun a' b' h' run => hQ a' b' h' (fun Q2 z => refN nl Q2 (does_9 (run _ z)))), fun q => absurd rfl q⟩⟩⟩
    · exact ⟨fun q => absurd q (by decide), fun _ => ⟨fun q => absurd q (by decide), fun _ => ⟨fun q => absurd q (by decide), fun _ => ⟨fun _ => q_readX hX h18 (y := v1.toInt64) (i2lE rfl) (fun a5 h5 hh r0 r1 => q_putL hX h5 (by rw [rds_ne (by omega)]; exact h35) hj (fun _ => by rw [rds_ne (by omega)]; exact hd18) (fun _ => ⟨rfl, by rw [rds_ne (by omega)]; exact t18⟩) (fun a' b' h' run => hQ a' b' h' (fun Q2 z => refN nl Q2 (does_13 (r_read (run _ z)))))), fun q => absurd rfl q⟩⟩⟩⟩
    · exact ⟨fun q => absurd q (by decide), fun _ => ⟨fun q => absurd q (by decide), fun _ => ⟨fun q => absurd q (by decide), fun _ => ⟨fun q => absurd q (by decide), fun _ => ⟨fun _ => q_fourX hX h18 (y := v1.toInt64) (Or.inl (i2lE rfl)) (fun r5 a5 h5 hh => q_putL hX h5 (by rw [f4s_ne (by omega)]; exact h35) hj (fun _ => by rw [f4s_ne (by omega)]; exact hd18) (fun q => ⟨hh.elim (fun g => g.2.2.1) (fun g => absurd q g.1), by rw [f4s_ne (by omega)]; exact t18⟩) (fun a' b' h' run => hQ a' b' h' (fun Q2 z => refN nl Q2 (does_14 (r_four hN (run _ z)))))), fun q => absurd rfl q⟩⟩⟩⟩⟩
    · exact ⟨fun q => absurd q (by decide), fun _ => ⟨fun q => absurd q (by decide), fun _ => ⟨fun q => absurd q (by decide), fun _ => ⟨fun q => absurd q (by decide), fun _ => ⟨fun q => absurd q (by decide), fun _ => q_putL hX h18 h35 hj (fun _ => hd18) (fun _ => ⟨h18.s.at 2 8 0 6 (by decide), t18⟩) (fun a' b' h' run => hQ a' b' h' (fun Q2 z => refN nl Q2 (does_16 (run _ z))))⟩⟩⟩⟩⟩
  · have g := tb.2.1.mp c2
    have yes : ((op = 10 ∧ v1 = 0) ∨ (op = 11 ∧ ¬ v1 = 0) ∨ (op = 12 ∧ ¬ w1 ≤ v1)) → Q1 (u1 s18 (43 + j) 2 (s18.1 3 12 + d1)) := by
      intro w
      have k12 : s18.1 3 12 = a.1 3 12 := by rw [e18, u1e (by omega)]
      have o := h.1.pl hX (j := j) hj k64 (v := a.1 3 12 + d1)
      rw [k12, e18, u1_u1]
      refine hQ _ _ o (fun Q2 z => r304 c (fun _ => ref d1 Q2 ?_) (fun q => absurd w q))
      rcases g with rfl | rfl | rfl
      · exact does_10 z
      · exact does_11 z
      · exact does_12 z
    have no : ¬ ((op = 10 ∧ v1 = 0) ∨ (op = 11 ∧ ¬ v1 = 0) ∨ (op = 12 ∧ ¬ w1 ≤ v1)) → Q1 s18 := by
      intro w
      refine hQ _ _ h18 (fun Q2 z => refN w Q2 ?_)
      rcases g with rfl | rfl | rfl
      · exact does_10 z
      · exact does_11 z
      · exact does_12 z
    have Y : ((op = 10 ∧ v1 = 0) ∨ (op = 11 ∧ ¬ v1 = 0) ∨ (op = 12 ∧ ¬ w1 ≤ v1)) → (((1 : Int32) = 0 → Q1 s18) ∧ (¬ (1 : Int32) = 0 → ∀ v_27 : Int32, v_27 = (s18.1 3 12) + d1 → ∀ σ_28 : St, σ_28 = u1 s18 (43 + j) 2 v_27 → Q1 σ_28)) := fun w => ⟨fun q => absurd q (by decide), fun _ v e s es => by rw [es, e]; exact yes w⟩
    have Z : ¬ ((op = 10 ∧ v1 = 0) ∨ (op = 11 ∧ ¬ v1 = 0) ∨ (op = 12 ∧ ¬ w1 ≤ v1)) → (((0 : Int32) = 0 → Q1 s18) ∧ (¬ (0 : Int32) = 0 → ∀ v_27 : Int32, v_27 = (s18.1 3 12) + d1 → ∀ σ_28 : St, σ_28 = u1 s18 (43 + j) 2 v_27 → Q1 σ_28)) := fun w => ⟨fun _ => no w, fun q => absurd rfl q⟩
    unfold fX2_goesThere
    rcases g with rfl | rfl | rfl
    · exact ⟨fun _ => ⟨fun q => Y (Or.inl ⟨rfl, q⟩), fun q => Z (fun w => w.elim (fun w => q w.2) (fun w => w.elim (fun w => absurd w.1 (by decide)) (fun w => absurd w.1 (by decide))))⟩, fun q => absurd rfl q⟩
    · exact ⟨fun q => absurd q (by decide), fun _ => ⟨fun _ => ⟨fun q => Z (fun w => w.elim (fun w => absurd w.1 (by decide)) (fun w => w.elim (fun w => w.2 q) (fun w => absurd w.1 (by decide)))), fun q => Y (Or.inr (Or.inl ⟨rfl, q⟩))⟩, fun q => absurd rfl q⟩⟩
    · exact ⟨fun q => absurd q (by decide), fun _ => ⟨fun q => absurd q (by decide), fun _ => ⟨fun q => Z (fun w => w.elim (fun w => absurd w.1 (by decide)) (fun w => w.elim (fun w => absurd w.1 (by decide)) (fun w => w.2 q))), fun q => Y (Or.inr (Or.inr ⟨rfl, q⟩))⟩⟩⟩
  · have g1 := fun w => c1 (tb.1.mpr w)
    have g2 := fun w => c2 (tb.2.1.mpr w)
    have hop : op = 0 ∨ op = 1 ∨ op = 2 ∨ op = 3 ∨ op = 4 ∨ op = 5 ∨ op = 15 ∨ op = 17 := by
      rcases op18 h0 h1 with rfl | rfl | rfl | rfl | rfl | rfl | rfl | rfl | rfl | rfl | rfl | rfl | rfl | rfl | rfl | rfl | rfl | rfl
      all_goals first
        | decide
        | exact absurd rfl h6
        | exact absurd (by decide) g1
        | exact absurd (by decide) g2
    have nl : ¬ ((op = 10 ∧ v1 = 0) ∨ (op = 11 ∧ ¬ v1 = 0) ∨ (op = 12 ∧ ¬ w1 ≤ v1)) := fun w => g2 (w.elim (fun w => Or.inl w.1) (fun w => w.elim (fun w => Or.inr (Or.inl w.1)) (fun w => Or.inr (Or.inr w.1))))
    exact q_act hN hX hT hW h18 (by rw [u1e (by omega)]; exact c) h35 hd18 hop (fun a' b' h' run => hQ a' b' h' (fun Q2 z => refN nl Q2 (run _ z)))
theorem q_103 (hN : 4294967400 ≤ N) (hX : XA X) (hT : XT N X) (hW : XW X) (h : Oq X j n a b) (hn : ∀ f c g k, n f c g k → k j = 0) (hj : j < 40) (hx1 : x1.toInt = (j : Int)) (h0 : 0 ≤ op.toInt) (h1 : op.toInt ≤ 17) (h6 : op ≠ 6) (hv : b.1 0 9 = 0 → v1 = v2 ∧ w1 = w2 ∧ t1 = t2 ∧ (t2.toInt = 255 ∨ (0 ≤ t2.toInt ∧ t2.toInt < (b.1 9 j).toInt))) (hQ : ∀ a' b' : St, Ru X a' b' → (∀ Q2 : St → Prop, Q2 b' → fX12_order_j275 N x1 op v2 w2 0 t2 Q2 b) → Q1 a') : fX2_doOrder_j103 N (43 + j) op v1 w1 t1 Q1 a := by
  have z10 : (10 : Int32).toInt = 10 := by decide
  have z12 : (12 : Int32).toInt = 12 := by decide
  have z11 : (11 : Int32).toInt = 11 := by decide
  have tb := optab h0 h1 h6
  have hin : vp_in op 18 := inE (rfl : op.toInt = op.toInt) h0 (by omega)
  unfold fX2_doOrder_j103
  refine ⟨hin, fun c2 => ?_, fun c2 => ?_⟩
  · have g := tb.2.1.mp c2
    have r10 : ¬ op < 10 ∧ ¬ 12 < op := by rcases g with rfl | rfl | rfl <;> decide
    by_cases f : b.1 0 9 = 0
    · obtain ⟨ev, ew, et, ht⟩ := hv f
      refine q_way hX h f (fun d1 d2 a1 b1 h1' ed e9 run => q_122 hN hX hT hW h1' hn hj hx1 h0 h1 h6 (fun f1 => ⟨ev, ew, et, ed f1, by rw [e9]; exact ht⟩) (fun a' b' h' run2 => hQ a' b' h' (fun Q2 z => ?_)))
      exact ⟨fun q => absurd q r10.1, fun _ => ⟨fun q => absurd q r10.2, fun _ => ⟨fun _ => run _ (run2 _ z), fun q => absurd f q⟩⟩⟩
    · refine c_nextDistanceF hX h f (fun r a1 h1' => q_122 hN hX hT hW h1' hn hj hx1 h0 h1 h6 (v2 := v2) (w2 := w2) (t2 := t2) (d2 := 0) (fun q => absurd q f) (fun a' b' h' run2 => hQ a' b' h' (fun Q2 z => ?_)))
      exact ⟨fun q => absurd q r10.1, fun _ => ⟨fun q => absurd q r10.2, fun _ => ⟨fun q => absurd q f, fun _ => run2 _ z⟩⟩⟩
  · have g := fun w => c2 (tb.2.1.mpr w)
    refine q_122 hN hX hT hW h hn hj hx1 h0 h1 h6 (d2 := 0) (fun f => ⟨(hv f).1, (hv f).2.1, (hv f).2.2.1, rfl, (hv f).2.2.2⟩) (fun a' b' h' run2 => hQ a' b' h' (fun Q2 z => ?_))
    refine ⟨fun _ => run2 _ z, fun q => ⟨fun _ => run2 _ z, fun q2 => ?_⟩⟩
    have q' := (notltE (rfl : op.toInt = op.toInt) z10).mp q
    have q2' := (notltE z12 (rfl : op.toInt = op.toInt)).mp q2
    exfalso
    apply g
    have : op.toInt = 10 ∨ op.toInt = 11 ∨ op.toInt = 12 := by omega
    rcases this with w | w | w
    · exact Or.inl (Int32.toInt_inj.mp (by omega))
    · exact Or.inr (Or.inl (Int32.toInt_inj.mp (by omega)))
    · exact Or.inr (Or.inr (Int32.toInt_inj.mp (by omega)))
theorem q_81 (hN : 4294967400 ≤ N) (hX : XA X) (hT : XT N X) (hW : XW X) (h : Oq X j n a b) (hn : ∀ f c g k, n f c g k → k j = 0) (hj : j < 40) (hx1 : x1.toInt = (j : Int)) (h0 : 0 ≤ op.toInt) (h1 : op.toInt ≤ 17) (h6 : op ≠ 6) (hv : b.1 0 9 = 0 → v1 = v2 ∧ w1 = w2) (hQ : ∀ a' b' : St, Ru X a' b' → (∀ Q2 : St → Prop, Q2 b' → fX12_order_j216 N x1 op v2 w2 0 Q2 b) → Q1 a') : fX2_doOrder_j81 N (43 + j) op v1 w1 Q1 a := by
  have z255 : (255 : Int32).toInt = 255 := by decide
  have tb := optab h0 h1 h6
  have hin : vp_in op 18 := inE (rfl : op.toInt = op.toInt) h0 (by omega)
  unfold fX2_doOrder_j81
  refine ⟨hin, fun c1 => ?_, fun c1 => ?_⟩
  · have g := tb.1.mp c1
    by_cases f : b.1 0 9 = 0
    · obtain ⟨ev, ew⟩ := hv f
      refine q_target hX h hj f (fun r a1 b1 h1' r0 r255 ht run => q_103 hN hX hT hW h1' hn hj hx1 h0 h1 h6 (fun f1 => ⟨ev, ew, rfl, ht f1⟩) (fun a' b' h' run2 => hQ a' b' h' (fun Q2 z => ?_)))
      exact r216 h0 h1 (fun _ => ⟨fun q => absurd q (by decide), fun _ => ⟨fun _ => run _ (run2 _ z), fun q => absurd f q⟩⟩) (fun q => absurd (Or.inl g) q)
    · refine c_nextTargetF hX h f (fun r a1 h1' => q_103 hN hX hT hW h1' hn hj hx1 h0 h1 h6 (v2 := v2) (w2 := w2) (t2 := 255) (fun q => absurd q f) (fun a' b' h' run2 => hQ a' b' h' (fun Q2 z => ?_)))
      exact r216 h0 h1 (fun _ => ⟨fun q => absurd q (by decide), fun _ => ⟨fun q => absurd q f, fun _ => run2 _ z⟩⟩) (fun q => absurd (Or.inl g) q)
  · have g := fun w => c1 (tb.1.mpr w)
    refine q_103 hN hX hT hW h hn hj hx1 h0 h1 h6 (t2 := 255) (fun f => ⟨(hv f).1, (hv f).2, rfl, Or.inl z255⟩) (fun a' b' h' run2 => hQ a' b' h' (fun Q2 z => ?_))
    exact r216 h0 h1 (fun w => w.elim (fun w => absurd w g) (fun w => absurd w h6)) (fun _ => ⟨fun _ => run2 _ z, fun q => absurd rfl q⟩)
theorem q_62 (hN : 4294967400 ≤ N) (hX : XA X) (hT : XT N X) (hW : XW X) (h : Oq X j n a b) (hn : ∀ f c g k, n f c g k → k j = 0) (hj : j < 40) (hx1 : x1.toInt = (j : Int)) (h0 : 0 ≤ op.toInt) (h1 : op.toInt ≤ 17) (h6 : op ≠ 6) (hv : b.1 0 9 = 0 → v1 = v2) (hQ : ∀ a' b' : St, Ru X a' b' → (∀ Q2 : St → Prop, Q2 b' → fX12_order_j75 N x1 op v2 Q2 b) → Q1 a') : fX2_doOrder_j62 N (43 + j) op v1 Q1 a := by
  have tb := optab h0 h1 h6
  have hin : vp_in op 18 := inE (rfl : op.toInt = op.toInt) h0 (by omega)
  unfold fX2_doOrder_j62
  refine ⟨hin, fun c1 => ?_, fun c1 => ?_⟩
  · have g := tb.2.2.2.mp c1
    refine q_81 hN hX hT hW h hn hj hx1 h0 h1 h6 (w2 := 0) (fun f => ⟨hv f, rfl⟩) (fun a' b' h' run2 => hQ a' b' h' (fun Q2 z => ?_))
    exact r75 (fun w => absurd w g) (fun _ => ⟨fun _ => ⟨fun q => absurd q h6, fun _ => run2 _ z⟩, fun q => absurd rfl q⟩)
  · have g : (op = 4 ∨ op = 8 ∨ op = 9 ∨ op = 12 ∨ op = 15) := Classical.byContradiction (fun w => c1 (tb.2.2.2.mpr w))
    by_cases f : b.1 0 9 = 0
    · refine q_value hN hX h hj f (fun r1 r2 a1 b1 h1' er run => q_81 hN hX hT hW h1' hn hj hx1 h0 h1 h6 (fun f1 => ⟨hv f, er f1⟩) (fun a' b' h' run2 => hQ a' b' h' (fun Q2 z => ?_)))
      exact r75 (fun _ => ⟨fun q => absurd q (by decide), fun _ => ⟨fun _ => run _ ⟨fun q => absurd q h6, fun _ => run2 _ z⟩, fun q => absurd f q⟩⟩) (fun w => absurd g w)
    · refine c_nextValueF hX h f (fun r a1 h1' => q_81 hN hX hT hW h1' hn hj hx1 h0 h1 h6 (v2 := v2) (w2 := 0) (fun q => absurd q f) (fun a' b' h' run2 => hQ a' b' h' (fun Q2 z => ?_)))
      exact r75 (fun _ => ⟨fun q => absurd q (by decide), fun _ => ⟨fun q => absurd q f, fun _ => ⟨fun q => absurd q h6, fun _ => run2 _ z⟩⟩⟩) (fun w => absurd g w)
end SIM10
