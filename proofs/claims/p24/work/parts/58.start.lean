theorem Uw_sub {w : Cond} (h : w ∈ Uw) : w ∈ lw_tbl := (List.mem_filter.mp h).1
theorem gUU {c1 : Cond} (h : c1 ∈ Uw) : GoodIn Uw (c1 :: Uw) := by
  intro w hw
  have hm : w ∈ Uw := by
    rcases List.mem_cons.mp hw with e | e
    · rw [e]; exact h
    · exact e
  exact ⟨hm, good_of_word (Uw_good hm)⟩
def An (n : Nat) : Nat → Prop := fun q => n ≤ q
/-- the law's picture while its two objects are made: the new cells, one behind the other -/
def Ln (w : Wd) (L : List va_E) (s : State) (H : Heap) (locs : List Loc) : Prop :=
  H.size = s.heap.size + L.length ∧ (∀ (i : Nat) (e : va_E), L[i]? = some e → va_at w.1 vwCl (s.heap.size + i, e) H) ∧ va_S (An s.heap.size) s.heap H locs
section LAWN
variable {p : Program} {l : Launch} {e : Env} {R : Room} {s : State} {m : MethodId} {args : Array Value} {below : List Frame} {meth : Method} {c : Code} {H : Heap} {locs : List Loc} {cells slots : Nat} {Q : State → Prop}
variable {cc : ByteArray} {pc nL : Nat} {ls : Array Slot} {rest st0 : List Value} {w : Wd} {own : String} {L : List va_E}
theorem l_new (hx : p.tables.exec = Jvm.exec) (hb : c.code = cc) (hown : s.vm.findClass own = some m.cls) (hts : ∀ w ∈ Uw, w.before args s = true) (hK : va_K w.1 vwCl (tyW w) s) (hC : Ln w L s H locs) (q : Nat) (hq : s.heap.size + L.length = q) {C : String} {T : u_T} {NF ci' index : Nat} (hin : ∀ w ∈ u_ws C T NF, w ∈ Uw) (ty : Nat → FieldType) (hty : ∀ k, k < NF → parseFieldDescriptor (T k).2.2.1 = some (ty k)) (hcl : Cond.classLink own index C ∈ Uw) (hinst : Cond.instantiable C NF ∈ Uw) (hini : Cond.initialized C ∈ Uw) (hc : vwCl[ci']? = some (C, T, NF)) {fs' : List Value} (hfs : ∀ j, j < NF → defaultValue (ty j) = vp_V fs' j) (hcells : cells + 1 ≤ R.cells) (hslots : slots + NF ≤ R.slots) (hdg : decode cc pc = .ok (.new index, 3))
    (kk : ∀ H1 : Heap, Ln w (L ++ [.inr (ci', fs')]) s H1 locs → W p l e R s m args below meth c H1 locs (cells + 1) (slots + NF) Q (F0 m (pc + 3) ls (.ref q :: rest))) : W p l e R s m args below meth c H locs cells slots Q (F0 m pc ls rest) := by
  subst hq
  have hKn := hK.1 ci' _ hc
  obtain ⟨c1, c2, c3⟩ := hC
  refine W.newcK hx hb hown (hts _ hcl) (hts _ hinst) (hts _ hini) rfl hdg hcells hslots hKn.2.1 c1 fun H1 kC hkC e1 z1 o1 => ?_
  refine kk H1 ⟨by rw [z1, List.length_append]; rfl, fun i e hi => ?_, ⟨by omega, fun q q1 q2 => (o1 q (by omega)).trans (c3.2.1 q q1 q2), c3.2.2⟩⟩
  by_cases hl : i < L.length
  · rw [List.getElem?_append_left hl] at hi
    exact (c2 i e hi).kept (o1 _ (by show s.heap.size + i < _; omega))
  · rw [List.getElem?_append_right (by omega)] at hi
    have hz : i - L.length < 1 := (List.getElem?_eq_some_iff.mp hi).1
    rw [show i - L.length = 0 by omega] at hi
    cases hi
    rw [show s.heap.size + i = s.heap.size + L.length by omega]
    exact ⟨_, hc, (u_born ty hts hin hKn hkC e1 hty).to hfs⟩
theorem l_init (hx : p.tables.exec = Jvm.exec) (hb : c.code = cc) (hml : c.maxLocals = nL) (hown : s.vm.findClass own = some m.cls) (hts : ∀ w ∈ Uw, w.before args s = true) (hK : va_K w.1 vwCl (tyW w) s) (hX : Xw w s) {ci' : Nat} {bl fs' : List Value} {L' : List va_E} {y : MethodName} {bytes : ByteArray} {maxL index mc ms : Nat} {rm : Room} (hC : Ln w (L ++ [.inr (ci', bl)]) s H locs) (q : Nat) (hq : s.heap.size + L.length = q)
    (hM : KMet l y bytes maxL rm w q ci' bl fs' L' (q + 1) [] mc ms) (hk : Ck y bytes maxL none 0) (hnm : y.name = "<init>") (hinst : Cond.instanceMethod y ∈ Uw) (hlink : Cond.methodLink own index y ∈ Uw) (hrm : rm.cells = mc ∧ rm.slots = ms ∧ rm.frames + 1 ≤ R.frames ∧ 8 + (maxL + 11) + rm.locals ≤ R.locals) (hsize : ls.size = nL) (hst : st0 = .ref q :: rest) (hroom : (rest.map fun v => v.category).sum ≤ 8) (hdg : decode cc pc = .ok (.invokespecial index, 3)) (hf : cells + mc ≤ R.cells ∧ slots + ms ≤ R.slots)
    (kk : ∀ (H1 : Heap) (locs1 : List Loc), Ln w (L ++ (.inr (ci', fs') :: L')) s H1 locs1 → W p l e R s m args below meth c H1 locs1 (cells + mc) (slots + ms) Q (F0 m (pc + 3) ls rest)) : W p l e R s m args below meth c H locs cells slots Q (F0 m pc ls st0) := by
  subst hq
  obtain ⟨hcode, hin, hd⟩ := hk
  obtain ⟨c1, c3, c4⟩ := hC
  rw [List.length_append] at c1
  have c1' : H.size = s.heap.size + L.length + 1 := by rw [c1]; rfl
  have hpre : PreS s H (va_Pc [.ref (s.heap.size + L.length)] (CP w (s.heap.size + L.length) ci' bl (s.heap.size + L.length + 1))) [.ref (s.heap.size + L.length)] := by
    refine ⟨fun a U g mk h => ?_, fun U hU hW => ⟨rfl, by rw [hU, c1'], by omega, by rw [hU]; exact c3 L.length _ (by simp), va_K.moved hW.alike hK, hX.warm hW⟩⟩
    obtain ⟨g1, g2, g3, g4, g5, g6⟩ := h
    exact ⟨g1, g2, g3, g4, va_K.moved (u := U) (U := U.calling g mk a) (Vm.Alike.refl U.vm) g5, g6.same (U := U.calling g mk a) rfl⟩
  have hr := va_runI (As := []) (rest := rest) (locs := locs) (cells := cells) (slots := slots) (e := e) (R := R) (below := below) (meth := meth) (g := F0 m pc ls st0) ⟨hx, hb, hml, hown, hts⟩ hM ⟨callB_of 0 hts (gUU hcode) rfl hrm.1 hrm.2.1 (hts _ hin) (hts _ hlink) hd ⟨hrm.2.2.1, hrm.2.2.2⟩, hnm, hts _ hinst⟩ hpre rfl rfl hsize hst (lv_room hroom) hdg hf
  refine va_callv hr c4 (fun q _ hq => by rcases hq with hq | hq <;> (show s.heap.size ≤ q; omega)) (fun q hq => by rcases hq with hq | hq <;> (show s.heap.size ≤ q; omega)) (fun u t H1 locs1 ht _ _ hB hz hk hS => ?_)
  obtain ⟨d1, d2, d3⟩ := hB
  rw [ht] at d1 d2 d3
  have old : ∀ q : Nat, q < s.heap.size + L.length → H1[q]? = H[q]? := fun q hq => hk q (by omega) (fun z => by rcases z with z | z <;> omega)
  refine kk H1 locs1 ⟨by rw [d1, List.length_append, List.length_cons]; omega, fun i e hi => ?_, hS⟩
  by_cases hl : i < L.length
  · rw [List.getElem?_append_left hl] at hi
    exact (c3 i e (by rw [List.getElem?_append_left hl]; exact hi)).kept (old _ (by show s.heap.size + i < _; omega))
  · rw [List.getElem?_append_right (by omega)] at hi
    by_cases h0' : i = L.length
    · subst h0'
      rw [Nat.sub_self] at hi
      cases hi
      exact d2
    · rw [show i - L.length = (i - L.length - 1) + 1 by omega, List.getElem?_cons_succ] at hi
      have := d3 _ e hi
      rw [show s.heap.size + L.length + 1 + (i - L.length - 1) = s.heap.size + i by omega] at this
      exact this
end LAWN
theorem wd_ex {s : State} {args : Array Value} (hts0 : ∀ w ∈ lw_tbl, w.before args s = true) : ∃ (G : va_G) (cl : Nat → ClassId), ∀ ad : Nat → Nat, va_K G vwCl (tyW (G, ad, cl)) s ∧ Xw (G, ad, cl) s := by
  have hts : ∀ w ∈ Uw, w.before args s = true := fun w hw => hts0 w (Uw_sub hw)
  obtain ⟨c0, i0, k0⟩ := u_known hts iuX0 (hts0 (.instantiable "GlulxStrings$BestTree" 11) (inT2 _ (List.mem_of_getElem? (i := 60) rfl)))
  obtain ⟨c1, i1, k1⟩ := u_known hts iuX1 (hts0 (.instantiable "GlulxStrings$Job" 8) (inT1 _ (List.mem_of_getElem? (i := 126) rfl)))
  obtain ⟨c2, i2, k2⟩ := u_known hts iuX2 (hts0 (.instantiable "GlulxStrings$Machine" 13) (inT1 _ (List.mem_of_getElem? (i := 80) rfl)))
  obtain ⟨c3, i3, k3⟩ := u_known hts iuX3 (hts0 (.instantiable "GlulxStrings$Memory" 2) (inT1 _ (List.mem_of_getElem? (i := 25) rfl)))
  obtain ⟨c5, i5, k5⟩ := u_known hts iuX5 (hts0 (.instantiable "GlulxStrings$Packer" 12) (inT1 _ (List.mem_of_getElem? (i := 212) rfl)))
  obtain ⟨c6, i6, k6⟩ := u_known hts iuX6 (hts0 (.instantiable "GlulxStrings$Parting" 3) (inT2 _ (List.mem_of_getElem? (i := 44) rfl)))
  obtain ⟨c7, i7, k7⟩ := u_known hts iuX7 (hts0 (.instantiable "GlulxStrings$Pieces" 6) (inT1 _ (List.mem_of_getElem? (i := 218) rfl)))
  obtain ⟨c8, i8, k8⟩ := u_known hts iuX8 (hts0 (.instantiable "GlulxStrings$Table" 9) (inT1 _ (List.mem_of_getElem? (i := 43) rfl)))
  obtain ⟨c9, i9, k9⟩ := u_known hts iuX9 (hts0 (.instantiable "GlulxStrings$Tally" 8) (inT1 _ (List.mem_of_getElem? (i := 86) rfl)))
  obtain ⟨c10, i10, k10⟩ := u_known hts iuX10 (hts0 (.instantiable "GlulxStrings$Texts" 5) (inT2 _ (List.mem_of_getElem? (i := 11) rfl)))
  obtain ⟨c11, i11, k11⟩ := u_known hts iuX11 (hts0 (.instantiable "GlulxStrings" 8) (inT1 _ (List.mem_of_getElem? (i := 17) rfl)))
  obtain ⟨c12, i12, k12⟩ := u_known hts iuX12 (hts0 (.instantiable "GlulxStringsModel" 65) (inT4 _ (List.mem_of_getElem? (i := 173) rfl)))
  obtain ⟨aI, bI, dI, eI, fI, gI⟩ := Cond.arrayClass_spec (hts0 (.arrayClass .int) (inT1 _ (List.mem_of_getElem? (i := 78) rfl)))
  obtain ⟨aB, bB, dB, eB, fB, gB⟩ := Cond.arrayClass_spec (hts0 (.arrayClass .byte) (inT1 _ (List.mem_of_getElem? (i := 41) rfl)))
  obtain ⟨aZ, bZ, dZ, eZ, fZ, gZ⟩ := Cond.arrayClass_spec (hts0 (.arrayClass .boolean) (inT2 _ (List.mem_of_getElem? (i := 104) rfl)))
  obtain ⟨aJ, bJ, dJ, eJ, fJ, gJ⟩ := Cond.arrayClass_spec (hts0 (.arrayClass .long) (inT2 _ (List.mem_of_getElem? (i := 105) rfl)))
  have hjo : va_AO "GlulxStrings$Job" s := va_AO.of (hts0 (.arrayOver (.object "GlulxStrings$Job")) (inT1 _ (List.mem_of_getElem? (i := 125) rfl)))
  obtain ⟨jc1, jA, jk, j1, j2, j3, j4, j5⟩ := Cond.arrayOver_spec hjo
  obtain ⟨rc1, rA, rk, r1, r2, r3, r4, r5⟩ := arrayOverA_spec (hts0 (.arrayOver (.array .int)) (inT1 _ (List.mem_of_getElem? (i := 224) rfl)))
  have erc : rc1 = aI := Option.some.inj (r1.symm.trans eI)
  subst erc
  refine ⟨(fun k => match k with | 0 => c0 | 1 => c1 | 2 => c2 | 3 => c3 | 4 => c5 | 5 => c6 | 6 => c7 | 7 => c8 | 8 => c9 | 9 => c10 | 10 => c11 | _ => c12, fun k => match k with | 0 => i0 | 1 => i1 | 2 => i2 | 3 => i3 | 4 => i5 | 5 => i6 | 6 => i7 | 7 => i8 | 8 => i9 | 9 => i10 | 10 => i11 | _ => i12), fun k => match k with | 0 => rc1 | 1 => aB | 2 => aZ | 3 => aJ | 4 => jA | _ => rA, fun ad => ⟨⟨fun k q hq => ?_, fun k q hq => ?_⟩, ⟨rk, r3, r4⟩, hjo, fun q hq => ?_⟩⟩
  · match k, hq with
    | 0, hq => cases hq; exact k0
    | 1, hq => cases hq; exact k1
    | 2, hq => cases hq; exact k2
    | 3, hq => cases hq; exact k3
    | 4, hq => cases hq; exact k5
    | 5, hq => cases hq; exact k6
    | 6, hq => cases hq; exact k7
    | 7, hq => cases hq; exact k8
    | 8, hq => cases hq; exact k9
    | 9, hq => cases hq; exact k10
    | 10, hq => cases hq; exact k11
    | 11, hq => cases hq; exact k12
    | k + 12, hq => simp at hq
  · match k, hq with
    | 0, hq => cases hq; exact ⟨fun n z => ⟨(fun k h => by cases h), bI, fI, dI, gI⟩, eI⟩
    | 1, hq => cases hq; exact ⟨fun n z => ⟨(fun k h => by cases h), bB, fB, dB, gB⟩, eB⟩
    | 2, hq => cases hq; exact ⟨fun n z => ⟨(fun k h => by cases h), bZ, fZ, dZ, gZ⟩, eZ⟩
    | 3, hq => cases hq; exact ⟨fun n z => ⟨(fun k h => by cases h), bJ, fJ, dJ, gJ⟩, eJ⟩
    | 4, hq => cases hq; exact ⟨fun n z => ⟨(fun k h => by cases h), jk, j3, jc1, j4⟩, jk, jc1, j3, j4, j1, j5⟩
    | 5, hq => cases hq; exact ⟨fun n z => ⟨(fun k h => by cases h), rk, r3, rc1, r4⟩, r5⟩
    | k + 6, hq => simp [tyW] at hq
  · unfold nestL at hq
    simp only [List.mem_cons, List.not_mem_nil, or_false] at hq
    rcases hq with rfl | rfl | rfl | rfl | rfl | rfl
    · exact va_Nw.of rfl (hts0 _ (inT1 _ (List.mem_of_getElem? (i := 26) rfl)))
    · exact va_Nw.of rfl (hts0 _ (inT1 _ (List.mem_of_getElem? (i := 87) rfl)))
    · exact va_Nw.of rfl (hts0 _ (inT1 _ (List.mem_of_getElem? (i := 127) rfl)))
    · exact va_Nw.of rfl (hts0 _ (inT1 _ (List.mem_of_getElem? (i := 219) rfl)))
    · exact va_Nw.of rfl (hts0 _ (inT2 _ (List.mem_of_getElem? (i := 12) rfl)))
    · exact va_Nw.of rfl (hts0 _ (inT2 _ (List.mem_of_getElem? (i := 61) rfl)))
set_option maxRecDepth 100000 in
set_option maxHeartbeats 4000000 in
theorem st_VALUES {s : State} {args : Array Value} (hg : (Jvm.Cond.and given_1 narrow_1).before args s = true) (hts0 : ∀ w ∈ lw_tbl, w.before args s = true) : ∃ t : Nat, t < s.heap.size ∧ ∀ A : Nat → Prop, (∀ a : Nat, a < s.heap.size → ¬ A a) → va_Z "GlulxStrings$Machine" "VALUES" "[I" (.ref t) A s s.heap ∧ va_T .int t 18 (fun j => .int (jV j)) A s s.heap := by
  have hs := flat_of_before _ hg
  have harr : (Cond.arrayOf (Term.static "GlulxStrings$Machine" "VALUES" "[I") .int).before args s = true := hs _ (by decide +kernel)
  have hlen := va_eqt (hs (Cond.eq (.length (Term.static "GlulxStrings$Machine" "VALUES" "[I")) (.int 18)) (by decide +kernel))
  have hel : ∀ j : Nat, j < 18 → (Term.elem (Term.static "GlulxStrings$Machine" "VALUES" "[I") (.int (Int32.ofNat j))).eval args s none [] s = some (.int (jV j)) := by
    intro j hj
    match j, hj with
    | 0, _ => exact va_eqt (hs (Cond.eq (.elem (Term.static "GlulxStrings$Machine" "VALUES" "[I") (.int 0)) (.int 1)) (by decide +kernel))
    | 1, _ => exact va_eqt (hs (Cond.eq (.elem (Term.static "GlulxStrings$Machine" "VALUES" "[I") (.int 1)) (.int 1)) (by decide +kernel))
    | 2, _ => exact va_eqt (hs (Cond.eq (.elem (Term.static "GlulxStrings$Machine" "VALUES" "[I") (.int 2)) (.int 1)) (by decide +kernel))
    | 3, _ => exact va_eqt (hs (Cond.eq (.elem (Term.static "GlulxStrings$Machine" "VALUES" "[I") (.int 3)) (.int 1)) (by decide +kernel))
    | 4, _ => exact va_eqt (hs (Cond.eq (.elem (Term.static "GlulxStrings$Machine" "VALUES" "[I") (.int 4)) (.int 2)) (by decide +kernel))
    | 5, _ => exact va_eqt (hs (Cond.eq (.elem (Term.static "GlulxStrings$Machine" "VALUES" "[I") (.int 5)) (.int 1)) (by decide +kernel))
    | 6, _ => exact va_eqt (hs (Cond.eq (.elem (Term.static "GlulxStrings$Machine" "VALUES" "[I") (.int 6)) (.int 0)) (by decide +kernel))
    | 7, _ => exact va_eqt (hs (Cond.eq (.elem (Term.static "GlulxStrings$Machine" "VALUES" "[I") (.int 7)) (.int 1)) (by decide +kernel))
    | 8, _ => exact va_eqt (hs (Cond.eq (.elem (Term.static "GlulxStrings$Machine" "VALUES" "[I") (.int 8)) (.int 2)) (by decide +kernel))
    | 9, _ => exact va_eqt (hs (Cond.eq (.elem (Term.static "GlulxStrings$Machine" "VALUES" "[I") (.int 9)) (.int 2)) (by decide +kernel))
    | 10, _ => exact va_eqt (hs (Cond.eq (.elem (Term.static "GlulxStrings$Machine" "VALUES" "[I") (.int 10)) (.int 1)) (by decide +kernel))
    | 11, _ => exact va_eqt (hs (Cond.eq (.elem (Term.static "GlulxStrings$Machine" "VALUES" "[I") (.int 11)) (.int 1)) (by decide +kernel))
    | 12, _ => exact va_eqt (hs (Cond.eq (.elem (Term.static "GlulxStrings$Machine" "VALUES" "[I") (.int 12)) (.int 2)) (by decide +kernel))
    | 13, _ => exact va_eqt (hs (Cond.eq (.elem (Term.static "GlulxStrings$Machine" "VALUES" "[I") (.int 13)) (.int 1)) (by decide +kernel))
    | 14, _ => exact va_eqt (hs (Cond.eq (.elem (Term.static "GlulxStrings$Machine" "VALUES" "[I") (.int 14)) (.int 1)) (by decide +kernel))
    | 15, _ => exact va_eqt (hs (Cond.eq (.elem (Term.static "GlulxStrings$Machine" "VALUES" "[I") (.int 15)) (.int 2)) (by decide +kernel))
    | 16, _ => exact va_eqt (hs (Cond.eq (.elem (Term.static "GlulxStrings$Machine" "VALUES" "[I") (.int 16)) (.int 0)) (by decide +kernel))
    | 17, _ => exact va_eqt (hs (Cond.eq (.elem (Term.static "GlulxStrings$Machine" "VALUES" "[I") (.int 17)) (.int 0)) (by decide +kernel))
    | j + 18, h => exact absurd h (by omega)
  obtain ⟨t, ht, hT⟩ := va_Tof (A := fun _ => False) (by decide) harr hlen hel (fun _ _ h => h)
  have hlt : t < s.heap.size := by
    obtain ⟨cell, h1, -⟩ := hT
    exact (Array.getElem?_eq_some_iff.mp h1).1
  refine ⟨t, hlt, fun A hA => ⟨va_Zref (hts0 (.laysStatic "GlulxStrings$Machine" "VALUES" "[I") (inT3 _ (List.mem_of_getElem? (i := 117) rfl))) (hts0 (.initialized "GlulxStrings$Machine") (inT1 _ (List.mem_of_getElem? (i := 4) rfl))) ht hA, ?_⟩⟩
  obtain ⟨cell, h1, h2, h3, h4, h5, h6, -⟩ := hT
  exact ⟨cell, h1, h2, h3, h4, h5, h6, hA t hlt⟩
set_option maxRecDepth 100000 in
set_option maxHeartbeats 4000000 in
theorem st_TAILS {s : State} {args : Array Value} (hg : (Jvm.Cond.and given_1 narrow_1).before args s = true) (hts0 : ∀ w ∈ lw_tbl, w.before args s = true) : ∃ t : Nat, t < s.heap.size ∧ ∀ A : Nat → Prop, (∀ a : Nat, a < s.heap.size → ¬ A a) → va_Z "GlulxStrings$Machine" "TAILS" "[I" (.ref t) A s s.heap ∧ va_T .int t 18 (fun j => .int (jT j)) A s s.heap := by
  have hs := flat_of_before _ hg
  have harr : (Cond.arrayOf (Term.static "GlulxStrings$Machine" "TAILS" "[I") .int).before args s = true := hs _ (by decide +kernel)
  have hlen := va_eqt (hs (Cond.eq (.length (Term.static "GlulxStrings$Machine" "TAILS" "[I")) (.int 18)) (by decide +kernel))
  have hel : ∀ j : Nat, j < 18 → (Term.elem (Term.static "GlulxStrings$Machine" "TAILS" "[I") (.int (Int32.ofNat j))).eval args s none [] s = some (.int (jT j)) := by
    intro j hj
    match j, hj with
    | 0, _ => exact va_eqt (hs (Cond.eq (.elem (Term.static "GlulxStrings$Machine" "TAILS" "[I") (.int 0)) (.int 0)) (by decide +kernel))
    | 1, _ => exact va_eqt (hs (Cond.eq (.elem (Term.static "GlulxStrings$Machine" "TAILS" "[I") (.int 1)) (.int 0)) (by decide +kernel))
    | 2, _ => exact va_eqt (hs (Cond.eq (.elem (Term.static "GlulxStrings$Machine" "TAILS" "[I") (.int 2)) (.int 0)) (by decide +kernel))
    | 3, _ => exact va_eqt (hs (Cond.eq (.elem (Term.static "GlulxStrings$Machine" "TAILS" "[I") (.int 3)) (.int 0)) (by decide +kernel))
    | 4, _ => exact va_eqt (hs (Cond.eq (.elem (Term.static "GlulxStrings$Machine" "TAILS" "[I") (.int 4)) (.int 0)) (by decide +kernel))
    | 5, _ => exact va_eqt (hs (Cond.eq (.elem (Term.static "GlulxStrings$Machine" "TAILS" "[I") (.int 5)) (.int 0)) (by decide +kernel))
    | 6, _ => exact va_eqt (hs (Cond.eq (.elem (Term.static "GlulxStrings$Machine" "TAILS" "[I") (.int 6)) (.int 0)) (by decide +kernel))
    | 7, _ => exact va_eqt (hs (Cond.eq (.elem (Term.static "GlulxStrings$Machine" "TAILS" "[I") (.int 7)) (.int 1)) (by decide +kernel))
    | 8, _ => exact va_eqt (hs (Cond.eq (.elem (Term.static "GlulxStrings$Machine" "TAILS" "[I") (.int 8)) (.int 1)) (by decide +kernel))
    | 9, _ => exact va_eqt (hs (Cond.eq (.elem (Term.static "GlulxStrings$Machine" "TAILS" "[I") (.int 9)) (.int 1)) (by decide +kernel))
    | 10, _ => exact va_eqt (hs (Cond.eq (.elem (Term.static "GlulxStrings$Machine" "TAILS" "[I") (.int 10)) (.int 2)) (by decide +kernel))
    | 11, _ => exact va_eqt (hs (Cond.eq (.elem (Term.static "GlulxStrings$Machine" "TAILS" "[I") (.int 11)) (.int 2)) (by decide +kernel))
    | 12, _ => exact va_eqt (hs (Cond.eq (.elem (Term.static "GlulxStrings$Machine" "TAILS" "[I") (.int 12)) (.int 2)) (by decide +kernel))
    | 13, _ => exact va_eqt (hs (Cond.eq (.elem (Term.static "GlulxStrings$Machine" "TAILS" "[I") (.int 13)) (.int 1)) (by decide +kernel))
    | 14, _ => exact va_eqt (hs (Cond.eq (.elem (Term.static "GlulxStrings$Machine" "TAILS" "[I") (.int 14)) (.int 1)) (by decide +kernel))
    | 15, _ => exact va_eqt (hs (Cond.eq (.elem (Term.static "GlulxStrings$Machine" "TAILS" "[I") (.int 15)) (.int 0)) (by decide +kernel))
    | 16, _ => exact va_eqt (hs (Cond.eq (.elem (Term.static "GlulxStrings$Machine" "TAILS" "[I") (.int 16)) (.int 1)) (by decide +kernel))
    | 17, _ => exact va_eqt (hs (Cond.eq (.elem (Term.static "GlulxStrings$Machine" "TAILS" "[I") (.int 17)) (.int 0)) (by decide +kernel))
    | j + 18, h => exact absurd h (by omega)
  obtain ⟨t, ht, hT⟩ := va_Tof (A := fun _ => False) (by decide) harr hlen hel (fun _ _ h => h)
  have hlt : t < s.heap.size := by
    obtain ⟨cell, h1, -⟩ := hT
    exact (Array.getElem?_eq_some_iff.mp h1).1
  refine ⟨t, hlt, fun A hA => ⟨va_Zref (hts0 (.laysStatic "GlulxStrings$Machine" "TAILS" "[I") (inT3 _ (List.mem_of_getElem? (i := 119) rfl))) (hts0 (.initialized "GlulxStrings$Machine") (inT1 _ (List.mem_of_getElem? (i := 4) rfl))) ht hA, ?_⟩⟩
  obtain ⟨cell, h1, h2, h3, h4, h5, h6, -⟩ := hT
  exact ⟨cell, h1, h2, h3, h4, h5, h6, hA t hlt⟩
