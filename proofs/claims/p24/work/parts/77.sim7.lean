section SIM7
variable {X : St → St → Prop} {a b a' b' : St} {j n : Nat}
theorem b255 : ∀ i : Fin 32, 8 ≤ i.val → (255#32).getLsbD i.val = false := by decide
theorem byte255 (w : Int32) : (w.toInt8.toInt32) &&& 255 = w &&& 255 := by
  apply Int32.toBitVec_inj.mp
  rw [Int32.toBitVec_and, Int32.toBitVec_and, Int8.toBitVec_toInt32, Int32.toBitVec_toInt8]
  show (BitVec.signExtend 32 (BitVec.signExtend 8 w.toBitVec)) &&& 255#32 = w.toBitVec &&& 255#32
  ext i hi
  simp only [BitVec.getElem_and, BitVec.getElem_signExtend]
  by_cases c : i < 8
  · rw [dif_pos c, dif_pos hi]
  · have e : (255#32)[i] = false := by
      rw [← BitVec.getLsbD_eq_getElem hi]
      exact b255 ⟨i, hi⟩ (show 8 ≤ i by omega)
    rw [e, Bool.and_false, Bool.and_false]
theorem nar255 (w : Int32) : (vp_nar .byte (w.toInt8.toInt32)) &&& 255 = w &&& 255 := by
  show ((w.toInt8.toInt32).toInt8.toInt32) &&& 255 = w &&& 255
  rw [byte255, byte255]
/-- telling the tree, in step -/
def XT (N : Nat) (X : St → St → Prop) : Prop := ∀ (a b : St) (x : Int32), Ru X a b → b.1 0 9 = 0 → ∀ Q1 : St → Prop, (∀ a' b' : St, Ru X a' b' → (∀ Q2 : St → Prop, Q2 b' → fX12_lies N x Q2 b) → Q1 a') → fX8_tell N x Q1 a
/-- a byte above the border is written -/
def XW (X : St → St → Prop) : Prop := ∀ (a b : St) (x : Nat) (v w : Int32), X a b → (b.1 0 1).toInt ≤ (x : Int) → x < 4096 → X (u1 a 12 x v) (u1 b 1 x w)
theorem Ru.dp (hX : XA X) (h : Ru X a b) {v : Int32} (v0 : 0 ≤ v.toInt) (v1 : v.toInt ≤ (b.1 0 14).toInt) : Ru X (u1 a 3 7 v) (u1 b 0 14 v) := by
  have d40 := h.d40
  have hz : v.toInt = 0 ∨ (b.1 13 0).toInt = 255 := by
    rcases h.g.2.2 with q | q
    · exact Or.inl (by omega)
    · exact Or.inr q
  refine ⟨h.s.ab (by decide), h.m.ext (u1_ne (by decide)) (u1_ne (by decide)), ?_, hX.x2 (by unfold Xb; omega) (hX.x1 (by unfold Xa; omega) h.x), (h.k.u14 (Rg2.r_0_14 (by omega) (by omega)) hz).1, ?_, fun h0 i hi => ?_⟩
  · rw [u1_ne (by decide), u1_ne (by decide)]; exact h.o
  · rw [u1e (by omega), u1e (by omega)]; exact h.f
  · rw [u1e (by omega)] at h0
    rw [u1v] at hi
    exact (h.j h0 i (by omega)).ext (fun f => u1e (by omega)) (fun k => u1e (by omega)) (fun q q1 q2 q3 => u1e (by omega)) (fun k _ => u1e (by omega)) (g2_9 h.g i).2
theorem Ru.wr (hW : XW X) (h : Ru X a b) {x : Nat} {v w : Int32} (e : v &&& 255 = w) (hx : x < 4096) (hbd : (b.1 0 1).toInt ≤ (x : Int)) : Ru X (u1 a 12 x v) (u1 b 1 x w) := by
  have hw : 0 ≤ w.toInt ∧ w.toInt ≤ 255 := by rw [← e]; exact and255 v
  refine ⟨(h.s.a8 (by omega)).b1 (by omega), fun y hy => ?_, ?_, hW _ _ _ _ _ h.x hbd hx, h.g.ua (show Rg2 1 x w from ⟨hw.1, hw.2⟩) (by decide), ?_, fun h0 i hi => ?_⟩
  · by_cases c : y = x
    · rw [c, u1v, u1v, e]
    · rw [u1e (by omega), u1e (by omega)]
      exact h.m y hy
  · rw [u1_ne (by decide), u1_ne (by decide)]; exact h.o
  · rw [u1e (by omega), u1e (by omega)]; exact h.f
  · rw [u1e (by omega)] at h0 hi
    exact (h.j h0 i hi).ext (fun f => u1e (by omega)) (fun k => u1e (by omega)) (fun q q1 q2 q3 => u1e (by omega)) (fun k _ => u1e (by omega)) (g2_9 h.g i).2
/-- a function ends, in step -/
theorem q_end {N : Nat} (hX : XA X) (h : Ru X a b) (h0 : b.1 0 9 = 0) (hm : (b.1 0 35).toInt = (j : Int)) (hd : (b.1 0 14).toInt = (j : Int) + 1) {v w k t : Int32} {Q1 : St → Prop} (hQ : ∀ a' b' : St, Ru X a' b' → (∀ Q2 : St → Prop, Q2 b' → fX12_does N 0 v w k t Q2 b) → Q1 a') : fX2_endFunction N (43 + j) v Q1 a := by
  have z0 : (0 : Int32).toInt = 0 := by decide
  have z1 : (1 : Int32).toInt = 1 := by decide
  have z8 : (8 : Int32).toInt = 8 := by decide
  have z255 : (255 : Int32).toInt = 255 := by decide
  have d40 := h.d40
  have J := h.j h0 j (by omega)
  have J7 : a.1 (43 + j) 7 = b.1 13 j := J.1 7 (by omega) (by omega)
  have g13 := h.k.g13 (by omega) j
  have cj := clE hm (by omega)
  have f1 : (b.1 0 14 - 1).toInt = (j : Int) := (sOkE rfl z1 (by omega) (by omega)).trans (by omega)
  have hd1 := h.ab hX (k := 5) (j := 6) (j' := 31) (v := v) (by decide) (by omega) (by omega) (by simp [Rg2])
  have hd2 := hd1.dp hX (v := b.1 0 14 - 1) (by omega) (by rw [u1e (by omega)]; omega)
  obtain ⟨b2, eb2⟩ : ∃ b2 : St, b2 = u1 (u1 b 0 14 (b.1 0 14 - 1)) 0 31 v := ⟨_, rfl⟩
  have eb3 : u1 (u1 b 0 31 v) 0 14 (b.1 0 14 - 1) = b2 := by
    rw [eb2]
    refine Prod.ext ?_ rfl
    funext c i
    by_cases q1 : c = 0 ∧ i = 14
    · obtain ⟨rfl, rfl⟩ := q1
      rw [u1v, u1e (by omega), u1v]
    · rw [u1e q1]
      by_cases q2 : c = 0 ∧ i = 31
      · obtain ⟨rfl, rfl⟩ := q2
        rw [u1v, u1v]
      · rw [u1e q2, u1e q2, u1e q1]
  rw [eb3] at hd2
  have b214 : b2.1 0 14 = b.1 0 14 - 1 := by rw [eb2, u1e (by omega), u1v]
  have ref : ∀ Q2 : St → Prop, ((b.1 13 j = 255 → Q2 b2) ∧ (¬ b.1 13 j = 255 → vp_in ((8 * ((b2.1 0 14) - 1)) + b.1 13 j) 320 ∧ Q2 (u1 b2 10 ((8 * ((b2.1 0 14) - 1)) + b.1 13 j).toNatClampNeg v))) → fX12_does N 0 v w k t Q2 b := by
    intro Q2 z
    unfold fX12_does
    refine ⟨fun _ => ⟨inE hm (by omega) (by omega), fun v41 e41 v42 e42 s43 e43 s44 e44 => ?_⟩, fun q => absurd rfl q⟩
    rw [show (b.1 0 35).toNatClampNeg = j by omega] at e41
    have e44' : s44 = b2 := by rw [e44, e43, e42, eb2]
    rw [e44', e41]
    exact ⟨fun q => z.1 q, fun q => ⟨(z.2 q).1, fun s47 e47 => by rw [e47]; exact (z.2 q).2⟩⟩
  unfold fX2_endFunction
  intro s1 e1 v2 ev2 s3 e3
  have k1 : s1.1 3 7 = b.1 0 14 := by rw [e1, u1e (by omega)]; exact h.dep
  rw [k1] at ev2
  have es3 : s3 = u1 (u1 a 5 6 v) 3 7 (b.1 0 14 - 1) := by rw [e3, ev2, e1]
  rw [← es3] at hd2
  have k3 : s3.1 3 7 = b.1 0 14 - 1 := by rw [es3, u1v]
  have k37 : s3.1 (43 + j) 7 = b.1 13 j := by rw [es3, u1e (by omega), u1e (by omega)]; exact J7
  rw [k3, k37]
  refine ⟨fun q => ?_, fun q => ?_⟩
  · have := (leE f1 z0).mp q
    have e255 : b.1 13 j = 255 := by
      rcases g13 with g | g
      · exact Int32.toInt_inj.mp (by omega)
      · omega
    exact hQ s3 b2 hd2 (fun Q2 z => ref Q2 ⟨fun _ => z, fun w => absurd e255 w⟩)
  · have q' := (notleE f1 z0).mp q
    have f2 : (b.1 0 14 - 1 - 1).toInt = (j : Int) - 1 := sOkE f1 z1 (by omega) (by omega)
    have c2 := clE f2 (by omega)
    obtain ⟨i, hi⟩ : ∃ i : Nat, j = i + 1 := ⟨j - 1, by omega⟩
    refine ⟨inE f2 (by omega) (by omega), ?_⟩
    rw [show (b.1 0 14 - 1 - 1).toNatClampNeg = i by omega]
    have h20 : b2.1 0 9 = 0 := by rw [eb2, u1e (by omega), u1e (by omega)]; exact h0
    have Ji := hd2.j h20 i (by rw [b214]; omega)
    have Ji4 : s3.1 (43 + i) 4 = b2.1 9 i := Ji.1 4 (by omega) (by omega)
    have r9 := g2_9 hd2.g i
    rcases g13 with g | g
    · have e255 : b.1 13 j = 255 := Int32.toInt_inj.mp (by omega)
      refine c_setLocal (n := 255) (r := (b2.1 9 i).toInt.toNat) (by omega) (by rw [Ji4]; omega) (by omega) ?_
      rw [if_neg (by omega)]
      exact hQ s3 b2 hd2 (fun Q2 z => ref Q2 ⟨fun _ => z, fun w => absurd e255 w⟩)
    · have n255 : ¬ b.1 13 j = 255 := fun q => by rw [q] at g; omega
      have tc := clE (rfl : (b.1 13 j).toInt = (b.1 13 j).toInt) g.1
      obtain ⟨t, et⟩ : ∃ t : Nat, (b.1 13 j).toInt = (t : Int) := ⟨(b.1 13 j).toInt.toNat, by omega⟩
      have g1 : (8 * (b2.1 0 14 - 1)).toInt = 8 * ((j : Int) - 1) := mOkE z8 (by rw [b214]; exact f2) (by omega) (by omega)
      have g2 : (8 * (b2.1 0 14 - 1) + b.1 13 j).toInt = 8 * ((j : Int) - 1) + t := aOkE g1 et (by omega) (by omega)
      have g2c := clE g2 (by omega)
      have ref2 : ∀ Q2 : St → Prop, Q2 (u1 b2 10 (8 * i + t) v) → fX12_does N 0 v w k _ Q2 b := fun Q2 z => ref Q2 ⟨fun q => absurd q n255, fun _ => ⟨inE g2 (by omega) (by omega), by rw [show (8 * (b2.1 0 14 - 1) + b.1 13 j).toNatClampNeg = 8 * i + t by omega]; exact z⟩⟩
      refine c_setLocal (n := t) (r := (b2.1 9 i).toInt.toNat) et (by rw [Ji4]; omega) (by omega) ?_
      obtain ⟨s4, es4⟩ : ∃ s4 : St, s4 = (if t < (b2.1 9 i).toInt.toNat then u1 s3 (43 + i + 40) t v else s3) := ⟨_, rfl⟩
      rw [← es4]
      have k4 : ∀ c y : Nat, ¬ (c = 83 + i ∧ y = t) → s4.1 c y = s3.1 c y := by
        intro c y q
        rw [es4]
        split
        · exact u1e (by omega)
        · rfl
      refine hQ s4 _ (hd2.jobs hX (fun c y q => k4 c y (by omega)) (fun c y q => u1e (by omega)) rfl (hd2.g.ua (by trivial) (by decide)) (fun _ y hy => ?_)) ref2
      rw [u1e (by omega)] at hy
      have Jy := hd2.j h20 y hy
      by_cases ey : y = i
      · subst ey
        refine ⟨fun f f1 f2 => ?_, fun m hm2 => ?_, Jy.2.2.ext (u1e (by omega)) (u1e (by omega)) (u1e (by omega))⟩
        · have rg := jr_rg f
          rw [k4 _ _ (by omega), u1e (by omega)]
          exact Jy.1 f f1 f2
        · rw [u1e (by omega)] at hm2
          by_cases em : m = t
          · rw [em, u1v, es4, if_pos (by omega), show 43 + y + 40 = 83 + y by omega, u1v]
          · rw [k4 _ _ (by omega), u1e (by omega)]
            exact Jy.2.1 m hm2
      · have y40 := hd2.d40
        exact Jy.ext (fun f => k4 _ _ (by omega)) (fun m => k4 _ _ (by omega)) (fun c c1 c2 c3 => u1e (by omega)) (fun m _ => u1e (by omega)) (g2_9 hd2.g y).2
end SIM7
