section SIM17
variable {X : St → St → Prop} {a b a' b' : St} {j N : Nat} {th1 th2 nn nd : Int32} {Q1 : St → Prop}
theorem r_132F {Q : St → Prop} (hb : b.1 0 9 ≠ 0) (z : Q b) : fX12_thing_j132 N th2 nn Q b :=
  ⟨fun w => absurd w hb, fun _ => ⟨fun w => absurd w hb, fun _ => ⟨fun w => absurd w hb, fun _ => z⟩⟩⟩
theorem r_84F (hN : 4294967400 ≤ N) {Q : St → Prop} (hb : b.1 0 9 ≠ 0) (z : Q b) : fX12_thing_j84 N nd th2 nn Q b := by
  obtain ⟨M, eM⟩ : ∃ M : Nat, N = M + 1 := ⟨N - 1, by omega⟩
  have key : ∀ K : Nat, lo1 (fX12_thing_l87 N nd th2 nn Q) (K + 1) 0 b := fun K => ⟨fun _ => r_132F hb z, fun _ => ⟨fun w => absurd w hb, fun _ => r_132F hb z⟩⟩
  unfold fX12_thing_j84
  have k := key M
  rw [← eM] at k
  exact k
theorem r_57F (hN : 4294967400 ≤ N) {Q : St → Prop} (hb : b.1 0 9 ≠ 0) (z : Q b) : fX12_thing_j57 N nd th2 nn Q b :=
  ⟨fun w => absurd w hb, fun _ => r_84F hN hb z⟩
/-- the thing is entered, once its arguments are read -/
theorem q_tail (hN : 4294967400 ≤ N) (hX : XA X) (h : Ru X a b) (hv : b.1 0 9 = 0 → th1 = th2 ∧ a.1 3 6 = nn ∧ 0 ≤ nn.toInt ∧ nn.toInt ≤ 4 ∧ ∀ i : Nat, (i : Int) < nn.toInt → a.1 17 i = b.1 15 i) (hQ : ∀ a' b' : St, Ru X a' b' → (∀ Q2 : St → Prop, Q2 b' → fX12_thing_j132 N th2 nn Q2 b) → Q1 a') : fX2_enterThing_j57 N th1 Q1 a := by
  have z224 : (224 : Int32).toInt = 224 := by decide
  have z225 : (225 : Int32).toInt = 225 := by decide
  have z226 : (226 : Int32).toInt = 226 := by decide
  unfold fX2_enterThing_j57 fX2_enterThing_j73
  by_cases f : b.1 0 9 = 0
  · obtain ⟨et, hn, n0, n4, har⟩ := hv f
    subst et
    rw [h.f]
    refine ⟨fun _ => ?_, fun q => absurd f q⟩
    refine q_readX hX h (y := th1.toInt64) (i2lE rfl) (fun a1 h1 hh r0 r255 => ?_)
    have ref : ∀ Q2 : St → Prop, fX12_thing_j149 N th1 nn (rdv b th1.toInt64) Q2 (rds b th1.toInt64) → fX12_thing_j132 N th1 nn Q2 b := fun Q2 z => ⟨fun _ => r_read z, fun q => absurd f q⟩
    rw [h1.f]
    refine ⟨fun c => ?_, fun c => hQ _ _ h1 (fun Q2 z => ref Q2 ⟨fun w => absurd w c, fun _ => ⟨fun w => absurd w c, fun _ => z⟩⟩)⟩
    rcases hh with ⟨ea, eb, x0, xm⟩ | ⟨hz, _, _⟩
    · subst ea
      rw [eb] at ref
      obtain ⟨r, er⟩ : ∃ r : Int32, rdv b th1.toInt64 = r := ⟨_, rfl⟩
      rw [er] at ref r0 r255
      rw [er]
      have isS : ∀ Q2 : St → Prop, 224 ≤ r.toInt → r.toInt ≤ 226 → fX12_prints N th1 (fun σ => Q2 σ) b → fX12_thing_j149 N th1 nn r Q2 b := by
        intro Q2 g1 g2 z
        refine ⟨fun _ => ?_, fun q => absurd f q⟩
        unfold fX12_isString
        refine ⟨fun w => ?_, fun _ => ⟨fun w => ?_, fun _ => ⟨fun w => absurd w (by decide), fun _ => z⟩⟩⟩
        · have := (ltE (rfl : r.toInt = r.toInt) z224).mp w
          omega
        · have := (ltE z226 (rfl : r.toInt = r.toInt)).mp w
          omega
      have noS : ∀ Q2 : St → Prop, (r.toInt < 224 ∨ 226 < r.toInt) → fX12_called N th1 nn 255 (fun σ => Q2 σ) b → fX12_thing_j149 N th1 nn r Q2 b := by
        intro Q2 g z
        have k : fX12_thing_j174 N th1 nn Q2 b := ⟨fun _ => z, fun q => absurd f q⟩
        refine ⟨fun _ => ?_, fun q => absurd f q⟩
        unfold fX12_isString
        refine ⟨fun _ => ⟨fun _ => k, fun q => absurd rfl q⟩, fun w => ⟨fun _ => ⟨fun _ => k, fun q => absurd rfl q⟩, fun w2 => ?_⟩⟩
        have := (notltE (rfl : r.toInt = r.toInt) z224).mp w
        have := (notltE z226 (rfl : r.toInt = r.toInt)).mp w2
        omega
      have call : (r.toInt < 224) → fX2_enterThing_j99 N th1 Q1 a1 := by
        intro g
        unfold fX2_enterThing_j99
        exact q_called hN hX h hn n0 n4 har (Or.inl (by decide)) (fun a' b' h' run => hQ a' b' h' (fun Q2 z => ref Q2 (noS Q2 (Or.inl g) (run _ z))))
      refine ⟨fun q => call (by rw [q]; decide), fun q => ⟨fun q2 => call (by rw [q2]; decide), fun q2 => ?_⟩⟩
      by_cases g : 224 ≤ r.toInt ∧ r.toInt ≤ 226
      · exact q_string hX h (fun a' b' h' run => hQ a' b' h' (fun Q2 z => ref Q2 (isS Q2 g.1 g.2 (run _ z))))
      · have hf := h.fl hX (x := 4) (by decide) (by decide)
        have fin : Q1 (fl1 a1 4) := by
          refine hQ _ _ hf.1 (fun Q2 z => ref Q2 (noS Q2 (by omega) ?_))
          unfold fX12_called
          refine r_read ?_
          rw [er, eb]
          exact ⟨fun _ => ⟨fun w => absurd w q, fun _ => ⟨fun w => absurd w q2, fun _ => r_fails (r_j36F hf.1.g hf.2 z)⟩⟩, fun w => absurd f w⟩
        unfold fX2_beginString
        refine q_readX hX h (y := th1.toInt64) (i2lE rfl) (fun a5 h5 hh5 _ _ => ?_)
        rw [er]
        have ea5 : a5 = a1 := by
          rcases hh5 with g5 | g5
          · exact g5.1
          · exact absurd f (by rw [← eb]; exact g5.1)
        rw [ea5, h.f]
        refine ⟨fun _ => ⟨fun w => ?_, fun _ => ⟨fun w => ?_, fun _ => ⟨fun w => ?_, fun _ => c_fail fin⟩⟩⟩, fun w => absurd f w⟩
        · rw [w] at g; omega
        · rw [w] at g; omega
        · rw [w] at g; omega
    · exact absurd c hz
  · rw [h.f]
    exact ⟨fun q => absurd q f, fun _ => ⟨fun q => absurd q f, fun _ => hQ a b h (fun Q2 z => r_132F f z)⟩⟩
theorem c_rargsF (hX : XA X) (hb : b.1 0 9 ≠ 0) (hn4 : nn.toInt ≤ 4) (hQ : ∀ a' : St, Ru X a' b → Q1 a') : ∀ (m K i : Nat) (x3 : Int32) (a : St), x3.toInt = (i : Int) → nn.toInt - i ≤ (m : Int) → m < K → Ru X a b → lo1 (fX2_readArguments_l23 N nd nn Q1) K x3 a := by
  have z1 : (1 : Int32).toInt = 1 := by decide
  have done : ∀ a : St, Ru X a b → ∀ σ : St, σ = u1 a 3 6 nn → Q1 σ := fun a h σ e => by rw [e]; exact hQ _ (h.ca hX (Or.inl ⟨rfl, Or.inl rfl⟩))
  intro m
  induction m with
  | zero =>
    intro K i x3 a hx hm hK h
    obtain ⟨K', rfl⟩ : ∃ K' : Nat, K = K' + 1 := ⟨K - 1, by omega⟩
    refine ⟨fun _ => done a h, fun q => ?_⟩
    have := (notleE (rfl : nn.toInt = nn.toInt) hx).mp q
    omega
  | succ m ih =>
    intro K i x3 a hx hm hK h
    obtain ⟨K', rfl⟩ : ∃ K' : Nat, K = K' + 1 := ⟨K - 1, by omega⟩
    refine ⟨fun _ => done a h, fun q => ?_⟩
    have q' := (notleE (rfl : nn.toInt = nn.toInt) hx).mp q
    refine q_fourX hX h (y := (nd + 4 + 4 * x3).toInt64) (Or.inl (i2lE rfl)) (fun r a1 h1 hh => ⟨inE hx (by omega) (by omega), fun s es u eu => ?_⟩)
    have f : u.toInt = ((i + 1 : Nat) : Int) := (congrArg Int32.toInt eu).trans ((aOkE hx z1 (by omega) (by omega)).trans (by omega))
    refine ih K' (i + 1) u s f (by omega) (by omega) ?_
    rw [es]
    rw [f4s_f hb] at h1
    exact h1.ca hX (Or.inr rfl)
end SIM17
