section SIM8
variable {X : St → St → Prop} {a b a' b' : St} {j n : Nat}
variable {N : Nat} {v w k t : Int32} {Q : St → Prop}
theorem does_1 (z : fX12_gives N v Q b) : fX12_does N 1 v w k t Q b := by
  unfold fX12_does
  exact ⟨fun q => absurd q (by decide), fun _ => ⟨fun _ => z, fun q => absurd rfl q⟩⟩
theorem does_2 (z : fX12_prints N v Q b) : fX12_does N 2 v w k t Q b := by
  unfold fX12_does
  exact ⟨fun q => absurd q (by decide), fun _ => ⟨fun q => absurd q (by decide), fun _ => ⟨fun _ => z, fun q => absurd rfl q⟩⟩⟩
theorem does_3 (z : fX12_lays N 4 v Q b) : fX12_does N 3 v w k t Q b := by
  unfold fX12_does
  exact ⟨fun q => absurd q (by decide), fun _ => ⟨fun q => absurd q (by decide), fun _ => ⟨fun q => absurd q (by decide), fun _ => ⟨fun _ => z, fun q => absurd rfl q⟩⟩⟩⟩
theorem does_4 (z : fX12_in N v.toInt64 0 2 (fun r_35 σ_34 => ((r_35 = 0 → fX12_does_j122 N w 0 Q σ_34) ∧ (¬ r_35 = 0 → fX12_does_j122 N w v Q σ_34))) b) : fX12_does N 4 v w k t Q b := by
  unfold fX12_does
  exact ⟨fun q => absurd q (by decide), fun _ => ⟨fun q => absurd q (by decide), fun _ => ⟨fun q => absurd q (by decide), fun _ => ⟨fun q => absurd q (by decide), fun _ => ⟨fun _ => z, fun q => absurd rfl q⟩⟩⟩⟩⟩
theorem does_5 (z : fX12_lies N v Q b) : fX12_does N 5 v w k t Q b := by
  unfold fX12_does
  exact ⟨fun q => absurd q (by decide), fun _ => ⟨fun q => absurd q (by decide), fun _ => ⟨fun q => absurd q (by decide), fun _ => ⟨fun q => absurd q (by decide), fun _ => ⟨fun q => absurd q (by decide), fun _ => ⟨fun _ => z, fun q => absurd rfl q⟩⟩⟩⟩⟩⟩
theorem does_6 (z : fX12_called N v k t Q b) : fX12_does N 6 v w k t Q b := by
  unfold fX12_does
  exact ⟨fun q => absurd q (by decide), fun _ => ⟨fun q => absurd q (by decide), fun _ => ⟨fun q => absurd q (by decide), fun _ => ⟨fun q => absurd q (by decide), fun _ => ⟨fun q => absurd q (by decide), fun _ => ⟨fun q => absurd q (by decide), fun _ => ⟨fun _ => z, fun q => absurd rfl q⟩⟩⟩⟩⟩⟩⟩
theorem does_7 (z : fX12_put N t v Q b) : fX12_does N 7 v w k t Q b := by
  unfold fX12_does
  exact ⟨fun q => absurd q (by decide), fun _ => ⟨fun q => absurd q (by decide), fun _ => ⟨fun q => absurd q (by decide), fun _ => ⟨fun q => absurd q (by decide), fun _ => ⟨fun q => absurd q (by decide), fun _ => ⟨fun q => absurd q (by decide), fun _ => ⟨fun q => absurd q (by decide), fun _ => ⟨fun _ => z, fun q => absurd rfl q⟩⟩⟩⟩⟩⟩⟩⟩
theorem does_8 (z : fX12_put N t (v + w) Q b) : fX12_does N 8 v w k t Q b := by
  unfold fX12_does
  exact ⟨fun q => absurd q (by decide), fun _ => ⟨fun q => absurd q (by decide), fun _ => ⟨fun q => absurd q (by decide), fun _ => ⟨fun q => absurd q (by decide), fun _ => ⟨fun q => absurd q (by decide), fun _ => ⟨fun q => absurd q (by decide), fun _ => ⟨fun q => absurd q (by decide), fun _ => ⟨fun q => absurd q (by decide), fun _ => ⟨fun _ => z, fun q => absurd rfl q⟩⟩⟩⟩⟩⟩⟩⟩⟩
theorem does_9 (z : fX12_put N t (v - w) Q b) : fX12_does N 9 v w k t Q b := by
  unfold fX12_does
  exact ⟨fun q => absurd q (by decide), fun _ => ⟨fun q => absurd q (by decide), fun _ => ⟨fun q => absurd q (by decide), fun _ => ⟨fun q => absurd q (by decide), fun _ => ⟨fun q => absurd q (by decide), fun _ => ⟨fun q => absurd q (by decide), fun _ => ⟨fun q => absurd q (by decide), fun _ => ⟨fun q => absurd q (by decide), fun _ => ⟨fun q => absurd q (by decide), fun _ => ⟨fun _ => z, fun q => absurd rfl q⟩⟩⟩⟩⟩⟩⟩⟩⟩⟩
theorem does_13 (z : fX12_read N v.toInt64 (fun r σ => fX12_put N t r Q σ) b) : fX12_does N 13 v w k t Q b := by
  unfold fX12_does
  exact ⟨fun q => absurd q (by decide), fun _ => ⟨fun q => absurd q (by decide), fun _ => ⟨fun q => absurd q (by decide), fun _ => ⟨fun q => absurd q (by decide), fun _ => ⟨fun q => absurd q (by decide), fun _ => ⟨fun q => absurd q (by decide), fun _ => ⟨fun q => absurd q (by decide), fun _ => ⟨fun q => absurd q (by decide), fun _ => ⟨fun q => absurd q (by decide), fun _ => ⟨fun q => absurd q (by decide), fun _ => ⟨fun _ => z, fun q => absurd rfl q⟩⟩⟩⟩⟩⟩⟩⟩⟩⟩⟩
theorem does_14 (z : fX12_four N v.toInt64 (fun r σ => fX12_put N t r Q σ) b) : fX12_does N 14 v w k t Q b := by
  unfold fX12_does
  exact ⟨fun q => absurd q (by decide), fun _ => ⟨fun q => absurd q (by decide), fun _ => ⟨fun q => absurd q (by decide), fun _ => ⟨fun q => absurd q (by decide), fun _ => ⟨fun q => absurd q (by decide), fun _ => ⟨fun q => absurd q (by decide), fun _ => ⟨fun q => absurd q (by decide), fun _ => ⟨fun q => absurd q (by decide), fun _ => ⟨fun q => absurd q (by decide), fun _ => ⟨fun q => absurd q (by decide), fun _ => ⟨fun q => absurd q (by decide), fun _ => ⟨fun _ => z, fun q => absurd rfl q⟩⟩⟩⟩⟩⟩⟩⟩⟩⟩⟩⟩
theorem does_15 (z : ((v < (b.1 0 1) → fX12_fails N 7 Q b) ∧ (¬ v < (b.1 0 1) → ((v ≤ 4095 → ∀ v_20 : Int32, v_20 = w &&& 255 → vp_in v 4096 ∧ ∀ σ_22 : St, σ_22 = u1 b 1 v.toNatClampNeg v_20 → Q σ_22) ∧ (¬ v ≤ 4095 → fX12_fails N 7 Q b))))) : fX12_does N 15 v w k t Q b := by
  unfold fX12_does
  exact ⟨fun q => absurd q (by decide), fun _ => ⟨fun q => absurd q (by decide), fun _ => ⟨fun q => absurd q (by decide), fun _ => ⟨fun q => absurd q (by decide), fun _ => ⟨fun q => absurd q (by decide), fun _ => ⟨fun q => absurd q (by decide), fun _ => ⟨fun q => absurd q (by decide), fun _ => ⟨fun q => absurd q (by decide), fun _ => ⟨fun q => absurd q (by decide), fun _ => ⟨fun q => absurd q (by decide), fun _ => ⟨fun q => absurd q (by decide), fun _ => ⟨fun q => absurd q (by decide), fun _ => ⟨fun _ => z, fun q => absurd rfl q⟩⟩⟩⟩⟩⟩⟩⟩⟩⟩⟩⟩⟩
theorem does_16 (z : fX12_put N t (b.1 0 6) Q b) : fX12_does N 16 v w k t Q b := by
  unfold fX12_does
  exact ⟨fun q => absurd q (by decide), fun _ => ⟨fun q => absurd q (by decide), fun _ => ⟨fun q => absurd q (by decide), fun _ => ⟨fun q => absurd q (by decide), fun _ => ⟨fun q => absurd q (by decide), fun _ => ⟨fun q => absurd q (by decide), fun _ => ⟨fun q => absurd q (by decide), fun _ => ⟨fun q => absurd q (by decide), fun _ => ⟨fun q => absurd q (by decide), fun _ => ⟨fun q => absurd q (by decide), fun _ => ⟨fun q => absurd q (by decide), fun _ => ⟨fun q => absurd q (by decide), fun _ => ⟨fun q => absurd q (by decide), fun _ => ⟨fun _ => z, fun q => absurd rfl q⟩⟩⟩⟩⟩⟩⟩⟩⟩⟩⟩⟩⟩⟩
theorem does_17 (z : Q (u1 b 0 14 0)) : fX12_does N 17 v w k t Q b := by
  unfold fX12_does
  exact ⟨fun q => absurd q (by decide), fun _ => ⟨fun q => absurd q (by decide), fun _ => ⟨fun q => absurd q (by decide), fun _ => ⟨fun q => absurd q (by decide), fun _ => ⟨fun q => absurd q (by decide), fun _ => ⟨fun q => absurd q (by decide), fun _ => ⟨fun q => absurd q (by decide), fun _ => ⟨fun q => absurd q (by decide), fun _ => ⟨fun q => absurd q (by decide), fun _ => ⟨fun q => absurd q (by decide), fun _ => ⟨fun q => absurd q (by decide), fun _ => ⟨fun q => absurd q (by decide), fun _ => ⟨fun q => absurd q (by decide), fun _ => ⟨fun q => absurd q (by decide), fun _ => ⟨fun _ s es => by rw [es]; exact z, fun q => absurd rfl q⟩⟩⟩⟩⟩⟩⟩⟩⟩⟩⟩⟩⟩⟩⟩
theorem does_10 (z : Q b) : fX12_does N 10 v w k t Q b := by
  unfold fX12_does
  exact ⟨fun q => absurd q (by decide), fun _ => ⟨fun q => absurd q (by decide), fun _ => ⟨fun q => absurd q (by decide), fun _ => ⟨fun q => absurd q (by decide), fun _ => ⟨fun q => absurd q (by decide), fun _ => ⟨fun q => absurd q (by decide), fun _ => ⟨fun q => absurd q (by decide), fun _ => ⟨fun q => absurd q (by decide), fun _ => ⟨fun q => absurd q (by decide), fun _ => ⟨fun q => absurd q (by decide), fun _ => ⟨fun q => absurd q (by decide), fun _ => ⟨fun q => absurd q (by decide), fun _ => ⟨fun q => absurd q (by decide), fun _ => ⟨fun q => absurd q (by decide), fun _ => ⟨fun q => absurd q (by decide), fun _ => z⟩⟩⟩⟩⟩⟩⟩⟩⟩⟩⟩⟩⟩⟩⟩
theorem does_11 (z : Q b) : fX12_does N 11 v w k t Q b := by
  unfold fX12_does
  exact ⟨fun q => absurd q (by decide), fun _ => ⟨fun q => absurd q (by decide), fun _ => ⟨fun q => absurd q (by decide), fun _ => ⟨fun q => absurd q (by decide), fun _ => ⟨fun q => absurd q (by decide), fun _ => ⟨fun q => absurd q (by decide), fun _ => ⟨fun q => absurd q (by decide), fun _ => ⟨fun q => absurd q (by decide), fun _ => ⟨fun q => absurd q (by decide), fun _ => ⟨fun q => absurd q (by decide), fun _ => ⟨fun q => absurd q (by decide), fun _ => ⟨fun q => absurd q (by decide), fun _ => ⟨fun q => absurd q (by decide), fun _ => ⟨fun q => absurd q (by decide), fun _ => ⟨fun q => absurd q (by decide), fun _ => z⟩⟩⟩⟩⟩⟩⟩⟩⟩⟩⟩⟩⟩⟩⟩
theorem does_12 (z : Q b) : fX12_does N 12 v w k t Q b := by
  unfold fX12_does
  exact ⟨fun q => absurd q (by decide), fun _ => ⟨fun q => absurd q (by decide), fun _ => ⟨fun q => absurd q (by decide), fun _ => ⟨fun q => absurd q (by decide), fun _ => ⟨fun q => absurd q (by decide), fun _ => ⟨fun q => absurd q (by decide), fun _ => ⟨fun q => absurd q (by decide), fun _ => ⟨fun q => absurd q (by decide), fun _ => ⟨fun q => absurd q (by decide), fun _ => ⟨fun q => absurd q (by decide), fun _ => ⟨fun q => absurd q (by decide), fun _ => ⟨fun q => absurd q (by decide), fun _ => ⟨fun q => absurd q (by decide), fun _ => ⟨fun q => absurd q (by decide), fun _ => ⟨fun q => absurd q (by decide), fun _ => z⟩⟩⟩⟩⟩⟩⟩⟩⟩⟩⟩⟩⟩⟩⟩
theorem q_act (hN : 4294967400 ≤ N) (hX : XA X) (hT : XT N X) (hW : XW X) (h : Ru X a b) (h0 : b.1 0 9 = 0) (hm : (b.1 0 35).toInt = (j : Int)) (hd : (b.1 0 14).toInt = (j : Int) + 1) {op : Int32} (hop : op = 0 ∨ op = 1 ∨ op = 2 ∨ op = 3 ∨ op = 4 ∨ op = 5 ∨ op = 15 ∨ op = 17) {Q1 : St → Prop} (hQ : ∀ a' b' : St, Ru X a' b' → (∀ Q2 : St → Prop, Q2 b' → fX12_does N op v w k t Q2 b) → Q1 a') : fX2_act N (43 + j) op v w Q1 a := by
  have z0 : (0 : Int32).toInt = 0 := by decide
  have z2 : (2 : Int32).toInt = 2 := by decide
  have z0L : (0 : Int64).toInt = 0 := by decide
  have z2L : (2 : Int64).toInt = 2 := by decide
  have zm : (4095 : Int32).toInt = 4095 := by decide
  have zM : (4096 : Int32).toInt = 4096 := by decide
  unfold fX2_act
  refine ⟨fun c => ?_, fun c0 => ⟨fun c => ?_, fun c1 => ⟨fun c => ?_, fun c2 => ⟨fun c => ?_, fun c3 => ⟨fun c => ?_, fun c4 => ⟨fun c => ?_, fun c5 => ⟨fun c => ?_, fun c15 => ?_⟩⟩⟩⟩⟩⟩⟩
  · subst c
    exact q_end hX h h0 hm hd hQ
  · subst c
    exact q_give hN hX h (fun _ => rfl) (fun a' b' h' run => hQ a' b' h' (fun Q2 z => does_1 (run _ z)))
  · subst c
    exact q_string hX h (fun a' b' h' run => hQ a' b' h' (fun Q2 z => does_2 (run _ z)))
  · subst c
    exact q_begin hX h (by decide) (fun a' b' h' _ run => hQ a' b' h' (fun Q2 z => does_3 (run _ z)))
  · subst c
    have fin : ∀ u : Int32, (∀ Q2 : St → Prop, fX12_does_j122 N w u Q2 b → fX12_does N 4 v w k t Q2 b) → fX2_setSystem_j13 N w u Q1 a := by
      intro u run
      unfold fX2_setSystem_j13
      intro s4 e4 s5 e5
      have o := (h.ab hX (k := 3) (j := 9) (j' := 12) (v := u) (by decide) (by omega) (by omega) (by simp [Rg2])).ab hX (k := 3) (j := 10) (j' := 13) (v := w) (by decide) (by omega) (by omega) (by simp [Rg2])
      rw [← e4, ← e5] at o
      refine hQ _ _ o (fun Q2 z => run Q2 ?_)
      unfold fX12_does_j122
      intro t4 g4 t5 g5
      rw [g5, g4]
      exact z
    unfold fX2_setSystem fX2_isSystem
    have e64 : v.toInt64.toInt = v.toInt := i2lE rfl
    refine ⟨fun q => ⟨fun _ => fin 0 (fun Q2 z => does_4 ?_), fun q2 => absurd rfl q2⟩, fun q => ⟨fun q2 => ⟨fun _ => fin 0 (fun Q2 z => does_4 ?_), fun q3 => absurd rfl q3⟩, fun q2 => ⟨fun q3 => absurd q3 (by decide), fun _ => fin v (fun Q2 z => does_4 ?_)⟩⟩⟩
    · have q' := (ltE (rfl : v.toInt = v.toInt) z0).mp q
      unfold fX12_in
      refine ⟨fun _ => ⟨fun _ => z, fun y => absurd rfl y⟩, fun y => ⟨fun _ => ⟨fun _ => z, fun y => absurd rfl y⟩, fun _ => ?_⟩⟩
      have := (notltE64 e64 z0L).mp y
      omega
    · have q' := (ltE z2 (rfl : v.toInt = v.toInt)).mp q2
      unfold fX12_in
      refine ⟨fun _ => ⟨fun _ => z, fun y => absurd rfl y⟩, fun y => ⟨fun _ => ⟨fun _ => z, fun y => absurd rfl y⟩, fun y2 => ?_⟩⟩
      have := (notltE64 z2L e64).mp y2
      omega
    · have q1 := (notltE (rfl : v.toInt = v.toInt) z0).mp q
      have q3 := (notltE z2 (rfl : v.toInt = v.toInt)).mp q2
      unfold fX12_in
      refine ⟨fun y => ?_, fun _ => ⟨fun y => ?_, fun _ => ⟨fun y => absurd y (by decide), fun _ => z⟩⟩⟩
      · have := (ltE64 e64 z0L).mp y
        omega
      · have := (ltE64 z2L e64).mp y
        omega
  · subst c
    exact hT a b v h h0 _ (fun a' b' h' run => hQ a' b' h' (fun Q2 z => does_5 (run _ z)))
  · subst c
    have eb : a.1 1 1 = b.1 0 1 := h.s.at 1 1 0 1 (by decide)
    have bd := K2.g_0_1 h.k
    have hf := h.fl hX (x := 7) (by decide) (by decide)
    unfold fX2_writeByte fX2_writeByte_j22 fX3_has fX3_putByte
    rw [eb]
    refine ⟨fun q => c_fail (hQ _ _ hf.1 (fun Q2 z => does_15 ⟨fun _ => r_fails z, fun y => absurd q y⟩)), fun q => ?_⟩
    have q' := (notltE (rfl : v.toInt = v.toInt) (rfl : (b.1 0 1).toInt = (b.1 0 1).toInt)).mp q
    have n0 : ¬ v < 0 := fun y => by have := (ltE (rfl : v.toInt = v.toInt) z0).mp y; omega
    refine ⟨fun y => absurd y n0, fun _ => ⟨fun y => ⟨fun _ => c_fail (hQ _ _ hf.1 (fun Q2 z => does_15 ⟨fun y => absurd y q, fun _ => ⟨fun y2 => ?_, fun _ => r_fails z⟩⟩)), fun y2 => absurd rfl y2⟩, fun y => ⟨fun y2 => absurd y2 (by decide), fun _ => ⟨fun y2 => absurd y2 n0, fun _ => ⟨fun y2 => absurd y2 y, fun _ u eu => ⟨?_, fun s es => ?_⟩⟩⟩⟩⟩⟩
    · have := (leE zM (rfl : v.toInt = v.toInt)).mp y
      have := (leE (rfl : v.toInt = v.toInt) zm).mp y2
      omega
    · have := (notleE zM (rfl : v.toInt = v.toInt)).mp y
      exact inE (rfl : v.toInt = v.toInt) (by omega) (by omega)
    · have y' := (notleE zM (rfl : v.toInt = v.toInt)).mp y
      have cv := clE (rfl : v.toInt = v.toInt) (by omega)
      have o := h.wr hW (x := v.toNatClampNeg) (v := vp_nar .byte u) (w := w &&& 255) (by rw [eu]; exact nar255 w) (by omega) (by omega)
      rw [← es] at o
      refine hQ _ _ o (fun Q2 z => does_15 ⟨fun y => absurd y q, fun _ => ⟨fun _ u2 eu2 => ⟨inE (rfl : v.toInt = v.toInt) (by omega) (by omega), fun s2 es2 => ?_⟩, fun y2 => ?_⟩⟩)
      · rw [es2, eu2]
        exact z
      · have := (notleE (rfl : v.toInt = v.toInt) zm).mp y2
        omega
  · have e17 : op = 17 := by
      rcases hop with q | q | q | q | q | q | q | q
      · exact absurd q c0
      · exact absurd q c1
      · exact absurd q c2
      · exact absurd q c3
      · exact absurd q c4
      · exact absurd q c5
      · exact absurd q c15
      · exact q
    subst e17
    unfold fX2_act_j145
    intro s es
    have o := h.dp hX (v := 0) (by decide) (by have := h.d40; rw [z0]; omega)
    rw [← es] at o
    exact hQ _ _ o (fun Q2 z => does_17 z)
/-- a value goes to a local, in step -/
theorem q_putL (hX : XA X) (h : Ru X a b) (hm : (b.1 0 35).toInt = (j : Int)) (hj : j < 40) (hd : b.1 0 9 = 0 → (b.1 0 14).toInt = (j : Int) + 1) {t v1 v2 : Int32} (ht : b.1 0 9 = 0 → v1 = v2 ∧ (t.toInt = 255 ∨ (0 ≤ t.toInt ∧ t.toInt < (b.1 9 j).toInt))) {Q1 : St → Prop} (hQ : ∀ a' b' : St, Ru X a' b' → (∀ Q2 : St → Prop, Q2 b' → fX12_put N t v2 Q2 b) → Q1 a') : (((a.1 3 11) = 0 → fX1_setLocal N (43 + j) t v1 (fun σ_32 => Q1 σ_32) a) ∧ (¬ (a.1 3 11) = 0 → Q1 a)) := by
  have z8 : (8 : Int32).toInt = 8 := by decide
  have z255 : (255 : Int32).toInt = 255 := by decide
  rw [h.f]
  refine ⟨fun c => ?_, fun c => hQ a b h (fun Q2 z => ?_)⟩
  · obtain ⟨ev, ht2⟩ := ht c
    subst ev
    have r9 := g2_9 h.g j
    have hd' := hd c
    have J := h.j c j (by omega)
    have J4 : a.1 (43 + j) 4 = b.1 9 j := J.1 4 (by omega) (by omega)
    rcases ht2 with g | g
    · have e255 : t = 255 := Int32.toInt_inj.mp (by omega)
      refine c_setLocal (n := 255) (r := (b.1 9 j).toInt.toNat) (by omega) (by rw [J4]; omega) (by omega) ?_
      rw [if_neg (by omega)]
      refine hQ a b h (fun Q2 z => ?_)
      unfold fX12_put
      exact ⟨fun _ => ⟨fun _ => z, fun q => absurd e255 q⟩, fun q => absurd c q⟩
    · have n255 : ¬ t = 255 := fun q => by rw [q] at g; omega
      obtain ⟨m, em⟩ : ∃ m : Nat, t.toInt = (m : Int) := ⟨t.toInt.toNat, by omega⟩
      have g1 : (8 * (b.1 0 35)).toInt = 8 * (j : Int) := mOkE z8 hm (by omega) (by omega)
      have g2 : (8 * (b.1 0 35) + t).toInt = 8 * (j : Int) + m := aOkE g1 em (by omega) (by omega)
      have g2c := clE g2 (by omega)
      refine c_setLocal (n := m) (r := (b.1 9 j).toInt.toNat) em (by rw [J4]; omega) (by omega) ?_
      rw [if_pos (by omega), show 43 + j + 40 = 83 + j by omega]
      refine hQ _ (u1 b 10 (8 * j + m) v1) (h.jobs hX (fun c y q => u1e (by omega)) (fun c y q => u1e (by omega)) rfl (h.g.ua (by trivial) (by decide)) (fun _ y hy => ?_)) (fun Q2 z => ?_)
      · rw [u1e (by omega)] at hy
        have Jy := h.j c y hy
        by_cases ey : y = j
        · subst ey
          refine ⟨fun f f1 f2 => ?_, fun i hi => ?_, Jy.2.2.ext (u1e (by omega)) (u1e (by omega)) (u1e (by omega))⟩
          · have rg := jr_rg f
            rw [u1e (by omega), u1e (by omega)]
            exact Jy.1 f f1 f2
          · rw [u1e (by omega)] at hi
            by_cases ei : i = m
            · rw [ei, u1v, u1v]
            · rw [u1e (by omega), u1e (by omega)]
              exact Jy.2.1 i hi
        · exact Jy.ext (fun f => u1e (by omega)) (fun i => u1e (by omega)) (fun c c1 c2 c3 => u1e (by omega)) (fun i _ => u1e (by omega)) (g2_9 h.g y).2
      · unfold fX12_put
        refine ⟨fun _ => ⟨fun q => absurd q n255, fun _ => ⟨inE g2 (by omega) (by omega), fun s es => ?_⟩⟩, fun q => absurd c q⟩
        rw [es, show (8 * (b.1 0 35) + t).toNatClampNeg = 8 * j + m by omega]
        exact z
  · unfold fX12_put
    exact ⟨fun q => absurd q c, fun _ => z⟩
end SIM8
