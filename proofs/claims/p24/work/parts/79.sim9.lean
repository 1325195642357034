section SIM9
variable {X : St → St → Prop} {a b a' b' : St} {j n N : Nat} {x1 x2 x3 x5 x6 x8 x9 t0 op : Int32} {Q : St → Prop}
theorem op18 (h0 : 0 ≤ op.toInt) (h1 : op.toInt ≤ 17) : op = 0 ∨ op = 1 ∨ op = 2 ∨ op = 3 ∨ op = 4 ∨ op = 5 ∨ op = 6 ∨ op = 7 ∨ op = 8 ∨ op = 9 ∨ op = 10 ∨ op = 11 ∨ op = 12 ∨ op = 13 ∨ op = 14 ∨ op = 15 ∨ op = 16 ∨ op = 17 := by
  have q : op.toInt = 0 ∨ op.toInt = 1 ∨ op.toInt = 2 ∨ op.toInt = 3 ∨ op.toInt = 4 ∨ op.toInt = 5 ∨ op.toInt = 6 ∨ op.toInt = 7 ∨ op.toInt = 8 ∨ op.toInt = 9 ∨ op.toInt = 10 ∨ op.toInt = 11 ∨ op.toInt = 12 ∨ op.toInt = 13 ∨ op.toInt = 14 ∨ op.toInt = 15 ∨ op.toInt = 16 ∨ op.toInt = 17 := by omega
  rcases q with q | q | q | q | q | q | q | q | q | q | q | q | q | q | q | q | q | q
  · exact Or.inl (Int32.toInt_inj.mp (q.trans (show (0 : Int) = (0 : Int32).toInt from by decide)))
  · exact Or.inr (Or.inl (Int32.toInt_inj.mp (q.trans (show (1 : Int) = (1 : Int32).toInt from by decide))))
  · exact Or.inr (Or.inr (Or.inl (Int32.toInt_inj.mp (q.trans (show (2 : Int) = (2 : Int32).toInt from by decide)))))
  · exact Or.inr (Or.inr (Or.inr (Or.inl (Int32.toInt_inj.mp (q.trans (show (3 : Int) = (3 : Int32).toInt from by decide))))))
  · exact Or.inr (Or.inr (Or.inr (Or.inr (Or.inl (Int32.toInt_inj.mp (q.trans (show (4 : Int) = (4 : Int32).toInt from by decide)))))))
  · exact Or.inr (Or.inr (Or.inr (Or.inr (Or.inr (Or.inl (Int32.toInt_inj.mp (q.trans (show (5 : Int) = (5 : Int32).toInt from by decide))))))))
  · exact Or.inr (Or.inr (Or.inr (Or.inr (Or.inr (Or.inr (Or.inl (Int32.toInt_inj.mp (q.trans (show (6 : Int) = (6 : Int32).toInt from by decide)))))))))
  · exact Or.inr (Or.inr (Or.inr (Or.inr (Or.inr (Or.inr (Or.inr (Or.inl (Int32.toInt_inj.mp (q.trans (show (7 : Int) = (7 : Int32).toInt from by decide))))))))))
  · exact Or.inr (Or.inr (Or.inr (Or.inr (Or.inr (Or.inr (Or.inr (Or.inr (Or.inl (Int32.toInt_inj.mp (q.trans (show (8 : Int) = (8 : Int32).toInt from by decide)))))))))))
  · exact Or.inr (Or.inr (Or.inr (Or.inr (Or.inr (Or.inr (Or.inr (Or.inr (Or.inr (Or.inl (Int32.toInt_inj.mp (q.trans (show (9 : Int) = (9 : Int32).toInt from by decide))))))))))))
  · exact Or.inr (Or.inr (Or.inr (Or.inr (Or.inr (Or.inr (Or.inr (Or.inr (Or.inr (Or.inr (Or.inl (Int32.toInt_inj.mp (q.trans (show (10 : Int) = (10 : Int32).toInt from by decide)))))))))))))
  · exact Or.inr (Or.inr (Or.inr (Or.inr (Or.inr (Or.inr (Or.inr (Or.inr (Or.inr (Or.inr (Or.inr (Or.inl (Int32.toInt_inj.mp (q.trans (show (11 : Int) = (11 : Int32).toInt from by decide))))))))))))))
  · exact Or.inr (Or.inr (Or.inr (Or.inr (Or.inr (Or.inr (Or.inr (Or.inr (Or.inr (Or.inr (Or.inr (Or.inr (Or.inl (Int32.toInt_inj.mp (q.trans (show (12 : Int) = (12 : Int32).toInt from by decide)))))))))))))))
  · exact Or.inr (Or.inr (Or.inr (Or.inr (Or.inr (Or.inr (Or.inr (Or.inr (Or.inr (Or.inr (Or.inr (Or.inr (Or.inr (Or.inl (Int32.toInt_inj.mp (q.trans (show (13 : Int) = (13 : Int32).toInt from by decide))))))))))))))))
  · exact Or.inr (Or.inr (Or.inr (Or.inr (Or.inr (Or.inr (Or.inr (Or.inr (Or.inr (Or.inr (Or.inr (Or.inr (Or.inr (Or.inr (Or.inl (Int32.toInt_inj.mp (q.trans (show (14 : Int) = (14 : Int32).toInt from by decide)))))))))))))))))
  · exact Or.inr (Or.inr (Or.inr (Or.inr (Or.inr (Or.inr (Or.inr (Or.inr (Or.inr (Or.inr (Or.inr (Or.inr (Or.inr (Or.inr (Or.inr (Or.inl (Int32.toInt_inj.mp (q.trans (show (15 : Int) = (15 : Int32).toInt from by decide))))))))))))))))))
  · exact Or.inr (Or.inr (Or.inr (Or.inr (Or.inr (Or.inr (Or.inr (Or.inr (Or.inr (Or.inr (Or.inr (Or.inr (Or.inr (Or.inr (Or.inr (Or.inr (Or.inl (Int32.toInt_inj.mp (q.trans (show (16 : Int) = (16 : Int32).toInt from by decide)))))))))))))))))))
  · exact Or.inr (Or.inr (Or.inr (Or.inr (Or.inr (Or.inr (Or.inr (Or.inr (Or.inr (Or.inr (Or.inr (Or.inr (Or.inr (Or.inr (Or.inr (Or.inr (Or.inr (Int32.toInt_inj.mp (q.trans (show (17 : Int) = (17 : Int32).toInt from by decide)))))))))))))))))))
theorem optab (h0 : 0 ≤ op.toInt) (h1 : op.toInt ≤ 17) (h6 : op ≠ 6) : (jT op.toNatClampNeg = 1 ↔ (op = 7 ∨ op = 8 ∨ op = 9 ∨ op = 13 ∨ op = 14 ∨ op = 16)) ∧ (jT op.toNatClampNeg = 2 ↔ (op = 10 ∨ op = 11 ∨ op = 12)) ∧ (jV op.toNatClampNeg ≤ 0 ↔ (op = 16 ∨ op = 17)) ∧ (jV op.toNatClampNeg ≤ 1 ↔ ¬ (op = 4 ∨ op = 8 ∨ op = 9 ∨ op = 12 ∨ op = 15)) := by
  rcases op18 h0 h1 with rfl | rfl | rfl | rfl | rfl | rfl | rfl | rfl | rfl | rfl | rfl | rfl | rfl | rfl | rfl | rfl | rfl | rfl
  all_goals first
    | exact absurd rfl h6
    | decide
/-- the reference's order, once a fault stands -/
theorem e304 (hg : G2 b) (hb : b.1 0 9 ≠ 0) (q : Q b) : fX12_order_j304 N x1 x2 x3 x5 x6 x8 t0 Q b := ⟨fun w => absurd w (pos9 hg hb), fun _ => q⟩
theorem e275 (hg : G2 b) (hb : b.1 0 9 ≠ 0) (q : Q b) : fX12_order_j275 N x1 x2 x3 x5 x6 t0 Q b := ⟨fun _ => e304 hg hb q, fun _ => ⟨fun _ => e304 hg hb q, fun _ => ⟨fun w => absurd w hb, fun _ => e304 hg hb q⟩⟩⟩
theorem e251 (hg : G2 b) (hb : b.1 0 9 ≠ 0) (q : Q b) : fX12_order_j251 N x1 x2 x3 x5 x6 t0 Q b := ⟨fun _ => e275 hg hb q, fun _ => ⟨fun w => absurd w hb, fun _ => e275 hg hb q⟩⟩
theorem e228 (hg : G2 b) (hb : b.1 0 9 ≠ 0) (q : Q b) : fX12_order_j228 N x1 x2 x3 x5 x6 Q b := ⟨fun _ => e251 hg hb q, fun _ => ⟨fun _ => e251 hg hb q, fun _ => ⟨fun _ => e251 hg hb q, fun _ => e251 hg hb q⟩⟩⟩
theorem e216 (hg : G2 b) (hb : b.1 0 9 ≠ 0) (q : Q b) : fX12_order_j216 N x1 x2 x3 x5 x6 Q b := ⟨fun _ => e228 hg hb q, fun _ => ⟨fun _ => e251 hg hb q, fun _ => e228 hg hb q⟩⟩
theorem e182 (hN : 4294967400 ≤ N) (hg : G2 b) (hb : b.1 0 9 ≠ 0) (q : Q b) : fX12_order_j182 N x1 x2 x3 x5 x6 Q b := by
  obtain ⟨M, eM⟩ : ∃ M : Nat, N = M + 1 := ⟨N - 1, by omega⟩
  have key : ∀ K : Nat, lo1 (fX12_order_l185 N x1 x2 x3 x5 x6 Q) (K + 1) 0 b := fun K => ⟨fun _ => e216 hg hb q, fun _ => ⟨fun w => absurd w hb, fun _ => e216 hg hb q⟩⟩
  unfold fX12_order_j182
  have k := key M
  rw [← eM] at k
  exact k
/-- what a fault leaves of an order -/
def oF (x2 : Int32) (b : St) : St := if x2 = 6 then u2 b 0 34 (b.2 0 34 + 1) else b
theorem e132 (hN : 4294967400 ≤ N) (hg : G2 b) (hb : b.1 0 9 ≠ 0) (q : Q (oF x2 b)) : fX12_order_j132 N x1 x2 x3 t0 Q b := by
  unfold oF at q
  refine ⟨fun w => ?_, fun w => ?_⟩
  · rw [if_pos w] at q
    refine r_readF hb (fun v ev s es => ?_)
    rw [ev] at es
    rw [← es] at q
    have hs : s.1 0 9 ≠ 0 := by rw [es]; exact hb
    have gs : G2 s := by rw [es]; exact hg
    exact ⟨fun w => absurd w hs, fun _ => e182 hN gs hs q⟩
  · rw [if_neg w] at q
    exact e216 hg hb q
theorem e110 (hN : 4294967400 ≤ N) (hg : G2 b) (hb : b.1 0 9 ≠ 0) (q : Q (oF x2 b)) : fX12_order_j110 N x1 x2 x3 t0 Q b := ⟨fun _ => e132 hN hg hb q, fun _ => ⟨fun w => absurd w hb, fun _ => e132 hN hg hb q⟩⟩
theorem e75 (hN : 4294967400 ≤ N) (hg : G2 b) (hb : b.1 0 9 ≠ 0) (q : Q (oF x2 b)) : fX12_order_j75 N x1 x2 x3 Q b := ⟨fun _ => e110 hN hg hb q, fun _ => ⟨fun _ => e110 hN hg hb q, fun _ => ⟨fun _ => e110 hN hg hb q, fun _ => ⟨fun _ => e110 hN hg hb q, fun _ => ⟨fun _ => e110 hN hg hb q, fun _ => e110 hN hg hb q⟩⟩⟩⟩⟩
theorem e54 (hN : 4294967400 ≤ N) (hg : G2 b) (hb : b.1 0 9 ≠ 0) (q : Q (oF x2 b)) : fX12_order_j54 N x1 x2 Q b := ⟨fun _ => e75 hN hg hb q, fun _ => ⟨fun w => absurd w hb, fun _ => e75 hN hg hb q⟩⟩
theorem Ru.of6 (hX : XA X) (h : Ru X a b) : Ru X a (oF x2 b) := by
  unfold oF
  split
  · exact h.l hX
  · exact h
theorem r216 (h0 : 0 ≤ op.toInt) (h1 : op.toInt ≤ 17) (A : ((op = 7 ∨ op = 8 ∨ op = 9 ∨ op = 13 ∨ op = 14 ∨ op = 16) ∨ op = 6) → fX12_order_j251 N x1 op x3 x5 x6 1 Q b) (B : ¬ ((op = 7 ∨ op = 8 ∨ op = 9 ∨ op = 13 ∨ op = 14 ∨ op = 16) ∨ op = 6) → fX12_order_j251 N x1 op x3 x5 x6 0 Q b) : fX12_order_j216 N x1 op x3 x5 x6 Q b := by
  unfold fX12_order_j216 fX12_order_j228 fX12_order_j246
  rcases op18 h0 h1 with rfl | rfl | rfl | rfl | rfl | rfl | rfl | rfl | rfl | rfl | rfl | rfl | rfl | rfl | rfl | rfl | rfl | rfl
  all_goals (refine ⟨fun q1 => ⟨fun q2 => ?_, fun q3 => ⟨fun q4 => ?_, fun q5 => ⟨fun q6 => ?_, fun q7 => ?_⟩⟩⟩, fun q1 => ⟨fun q2 => ?_, fun q3 => ⟨fun q4 => ?_, fun q5 => ⟨fun q6 => ?_, fun q7 => ⟨fun q8 => ?_, fun q9 => ?_⟩⟩⟩⟩⟩)
  all_goals first
    | exact A (by decide)
    | exact B (by decide)
    | exact absurd q1 (by decide)
    | exact absurd q2 (by decide)
    | exact absurd q3 (by decide)
    | exact absurd q4 (by decide)
    | exact absurd q5 (by decide)
    | exact absurd q6 (by decide)
    | exact absurd q7 (by decide)
    | exact absurd q8 (by decide)
    | exact absurd q9 (by decide)
theorem r75 (h1 : (op = 4 ∨ op = 8 ∨ op = 9 ∨ op = 12 ∨ op = 15) → fX12_order_j110 N x1 op x3 1 Q b) (h2 : ¬ (op = 4 ∨ op = 8 ∨ op = 9 ∨ op = 12 ∨ op = 15) → fX12_order_j110 N x1 op x3 0 Q b) : fX12_order_j75 N x1 op x3 Q b :=
  ⟨fun q => h1 (Or.inl q), fun q1 => ⟨fun q => h1 (Or.inr (Or.inl q)), fun q2 => ⟨fun q => h1 (Or.inr (Or.inr (Or.inl q))), fun q3 => ⟨fun q => h1 (Or.inr (Or.inr (Or.inr (Or.inl q)))), fun q4 => ⟨fun q => h1 (Or.inr (Or.inr (Or.inr (Or.inr q)))), fun q5 => h2 (fun w => w.elim q1 (fun w => w.elim q2 (fun w => w.elim q3 (fun w => w.elim q4 q5))))⟩⟩⟩⟩⟩
theorem r304 (h0 : b.1 0 9 = 0) (h1 : ((op = 10 ∧ x3 = 0) ∨ (op = 11 ∧ ¬ x3 = 0) ∨ (op = 12 ∧ ¬ x5 ≤ x3)) → fX12_order_j373 N op x3 x5 x6 x8 t0 (b.2 0 34) x1 Q b) (h2 : ¬ ((op = 10 ∧ x3 = 0) ∨ (op = 11 ∧ ¬ x3 = 0) ∨ (op = 12 ∧ ¬ x5 ≤ x3)) → fX12_order_j373 N op x3 x5 x6 x8 0 (b.2 0 34) x1 Q b) : fX12_order_j304 N x1 op x3 x5 x6 x8 t0 Q b := by
  have k351 : ∀ c : Prop, (c → fX12_order_j373 N op x3 x5 x6 x8 t0 (b.2 0 34) x1 Q b) → c → fX12_order_j346 N x1 op x3 x5 x6 x8 t0 Q b := fun c f hc => ⟨fun w => absurd w (by decide), fun _ => f hc⟩
  have k350 : fX12_order_j373 N op x3 x5 x6 x8 0 (b.2 0 34) x1 Q b → fX12_order_j350 N x1 op x3 x5 x6 x8 t0 Q b := fun f => ⟨fun _ => f, fun w => absurd rfl w⟩
  have k334 : ¬ (op = 10 ∧ x3 = 0) → ¬ (op = 11 ∧ ¬ x3 = 0) → fX12_order_j334 N x1 op x3 x5 x6 x8 t0 Q b := fun n1 n2 => ⟨fun q12 => ⟨fun le => k350 (h2 (fun w => w.elim n1 (fun w => w.elim n2 (fun w => w.2 le)))), fun le => k351 _ h1 (Or.inr (Or.inr ⟨q12, le⟩))⟩, fun q12 => k350 (h2 (fun w => w.elim n1 (fun w => w.elim n2 (fun w => q12 w.1))))⟩
  have k324 : ¬ (op = 10 ∧ x3 = 0) → fX12_order_j324 N x1 op x3 x5 x6 x8 t0 Q b := fun n1 => ⟨fun q11 => ⟨fun z => k334 n1 (fun w => w.2 z), fun z => k351 _ h1 (Or.inr (Or.inl ⟨q11, z⟩))⟩, fun q11 => k334 n1 (fun w => q11 w.1)⟩
  exact ⟨fun _ => ⟨fun q10 => ⟨fun z => k351 _ h1 (Or.inl ⟨q10, z⟩), fun z => k324 (fun w => z w.2)⟩, fun q10 => k324 (fun w => q10 w.1)⟩, fun w => absurd (zer9 h0) w⟩
/-- the place of the uppermost job -/
theorem Ru.pl (hX : XA X) (h : Ru X a b) (hj : j < 40) (hk : b.1 0 9 = 0 → b.1 6 j ≠ 4) {v : Int32} : Ru X (u1 a (43 + j) 2 v) (u1 b 7 j v) := by
  refine h.jobs hX (fun c y q => u1e (by omega)) (fun c y q => u1e (by omega)) rfl (h.g.ua (by trivial) (by decide)) (fun h0 y hy => ?_)
  rw [u1e (by omega)] at hy
  have d40 := h.d40
  have Jy := h.j h0 y hy
  by_cases ey : y = j
  · subst ey
    refine ⟨fun f f1 f2 => ?_, fun i hi => ?_, ?_, fun q => ?_⟩
    · by_cases e2 : f = 2
      · subst e2
        show (u1 a (43 + y) 2 v).1 (43 + y) 2 = (u1 b 7 y v).1 7 y
        rw [u1v, u1v]
      · have n7 : jr f ≠ 7 := fun w => e2 (jr_inj f1 f2 (by omega) (by omega) (w.trans (show 7 = jr 2 from rfl)))
        rw [u1e (by omega), u1e (by omega)]
        exact Jy.1 f f1 f2
    · rw [u1e (by omega)] at hi
      rw [u1e (by omega), u1e (by omega)]
      exact Jy.2.1 i hi
    · rw [u1e (by omega)]
      exact Jy.2.2.1
    · rw [u1e (by omega)] at q
      exact absurd q (hk h0)
  · exact Jy.ext (fun f => u1e (by omega)) (fun i => u1e (by omega)) (fun c c1 c2 c3 => u1e (by omega)) (fun i _ => u1e (by omega)) (g2_9 h.g y).2
theorem u1_u1 {σ : St} {k i : Nat} {v w : Int32} : u1 (u1 σ k i v) k i w = u1 σ k i w := by
  refine Prod.ext ?_ rfl
  funext c y
  by_cases e : c = k ∧ y = i
  · obtain ⟨rfl, rfl⟩ := e
    rw [u1v, u1v]
  · rw [u1e e, u1e e, u1e e]
end SIM9
