/-! constructors: a cell h0 that is there, and new cells one behind the other from the heap's end on -/
def Ai (h0 n : Nat) : Nat → Prop := fun q => q = h0 ∨ n ≤ q
def nestL : List (String × Nat × MethodName × String) := [("GlulxStrings", 9, yX3_init, "GlulxStrings"), ("GlulxStrings$Machine", 11, yX9_init, "GlulxStrings"), ("GlulxStrings$Machine", 61, yX1_init, "GlulxStrings"), ("GlulxStrings$Packer", 11, yX7_init, "GlulxStrings"), ("GlulxStrings$Packer", 20, yX10_init, "GlulxStrings"), ("GlulxStrings$Packer", 36, yX0_init, "GlulxStrings")]
/-- what a constructor needs beside the classes: the class of rows of rows, rows of jobs, the private constructors' links -/
def Xw (w : Wd) (U : State) : Prop := (∃ kA : Class, U.vm.classes[w.2.2 5]? = some kA ∧ kA.kind = .array (w.2.2 0) (.array .int)) ∧ va_AO "GlulxStrings$Job" U ∧ ∀ q ∈ nestL, va_Nw (.methodLinkNest q.1 q.2.1 q.2.2.1 q.2.2.2) U
theorem Xw.warm {w : Wd} {s U : State} (hW : s.WarmedH U.vm) (h : Xw w s) : Xw w U := by
  obtain ⟨⟨kA, h1, h2⟩, h3, h4⟩ := h
  obtain ⟨k', hk', he⟩ := hW.alike.2.2 _ _ h1
  exact ⟨⟨k', hk', by rw [he]; exact h2⟩, va_AO.moved hW.alike h3, fun q hq => va_Nw.warmM hW (h4 q hq)⟩
theorem Xw.same {w : Wd} {s U : State} (hv : s.vm = U.vm) (h : Xw w s) : Xw w U := by
  obtain ⟨⟨kA, h1, h2⟩, h3, h4⟩ := h
  exact ⟨⟨kA, by rw [← hv]; exact h1, h2⟩, va_AO.moved (by rw [hv]; exact Vm.Alike.refl _) h3, fun q hq => va_Nw.same rfl hv (h4 q hq)⟩
def Ci (w : Wd) (cc : ByteArray) (nL : Nat) (own : String) (c0 : Cond) (p : Program) (s : State) (m : MethodId) (args : Array Value) (meth : Method) (c : Code) : Prop :=
  p.tables.exec = Jvm.exec ∧ c.code = cc ∧ c.maxLocals = nL ∧ s.vm.findClass own = some m.cls ∧ (∀ w ∈ c0 :: Uw, w.before args s = true) ∧ meth.sig.returnType = none ∧ meth.locks = false ∧ va_K w.1 vwCl (tyW w) s ∧ Xw w s ∧ meth.name = "<init>"
/-- the picture in a constructor: its own cell h0 with the fields fs, and the new cells L -/
def Cn (w : Wd) (h0 ci : Nat) (fs : List Value) (L : List va_E) (s : State) (H : Heap) (locs : List Loc) : Prop :=
  H.size = s.heap.size + L.length ∧ va_at w.1 vwCl (h0, .inr (ci, fs)) H ∧ (∀ (i : Nat) (e : va_E), L[i]? = some e → va_at w.1 vwCl (s.heap.size + i, e) H) ∧ va_S (Ai h0 s.heap.size) s.heap H locs ∧ h0 < s.heap.size
def CP (w : Wd) (h0 ci : Nat) (bl : List Value) (sz : Nat) (U : State) : Prop := U.heap.size = sz ∧ h0 < sz ∧ va_at w.1 vwCl (h0, .inr (ci, bl)) U.heap ∧ va_K w.1 vwCl (tyW w) U ∧ Xw w U
def CQ (w : Wd) (h0 ci : Nat) (fs : List Value) (L : List va_E) (sz : Nat) (_ : Unit) (t : State) : Prop := t.heap.size = sz + L.length ∧ va_at w.1 vwCl (h0, .inr (ci, fs)) t.heap ∧ ∀ (i : Nat) (e : va_E), L[i]? = some e → va_at w.1 vwCl (sz + i, e) t.heap
abbrev KQ (w : Wd) (h0 ci : Nat) (fs : List Value) (L : List va_E) (sz : Nat) : Array Value → State → Outcome → State → Prop := va_Qv (fun _ : Unit => True) (CQ w h0 ci fs L sz) (Ai h0 sz)
abbrev KMet (l : Launch) (y : MethodName) (cc : ByteArray) (maxL : Nat) (rm : Room) (w : Wd) (h0 ci : Nat) (bl fs : List Value) (L : List va_E) (sz : Nat) (As : List Value) (mc ms : Nat) : Prop := Met l y (.code y cc maxL none :: Uw) rm (va_Pc (.ref h0 :: As) (CP w h0 ci bl sz)) (KQ w h0 ci fs L sz) mc ms (Ai h0 sz)
theorem k_met {l : Launch} {y : MethodName} {cc : ByteArray} {maxL : Nat} {rm : Room} {w : Wd} {h0 ci : Nat} {bl fs : List Value} {L : List va_E} {sz : Nat} {As : List Value} {mc ms : Nat} (hy : plainName y.cls = true) (hn : y.name = "<init>") (hlen : (lg_sl (.ref h0 :: As)).length ≤ maxL)
    (body : ∀ (p : Program) (e : Env) (s : State) (m : MethodId) (below : List Frame) (meth : Method) (c : Code) (ls : Array Slot), Ci w cc maxL y.cls (.code y cc maxL none) p s m (Value.ref h0 :: As).toArray meth c → s.heap.size = sz → lv_has ls maxL (lv_args 0 (.ref h0 :: As)) → Cn w h0 ci bl [] s s.heap [] → W p l e rm s m (Value.ref h0 :: As).toArray below meth c s.heap [] 0 0 (MQ below (KQ w h0 ci fs L sz) (Value.ref h0 :: As).toArray s mc ms (Ai h0 sz)) (F0 m 0 ls [])) :
    KMet l y cc maxL rm w h0 ci bl fs L sz As mc ms := by
  refine Met.ofW (cc := cc) (maxL := maxL) (ret := none) hy rfl ?_
  intro p e s m args below meth c s₁ B hml hv
  obtain ⟨rfl, hz, hlt, ha, hK, hX⟩ := hv
  have hl := lv_entry (.ref h0 :: As) (n := maxL) hlen
  rw [lg_entry_eq]
  exact body p e s m below meth c _ ⟨B.exec, B.bytes, hml, findClass_of_methodNamed B.named, atoms_spec (ws := Cond.code y cc maxL none :: Uw) B.pre, B.returns, B.notSynchronized, hK, hX, (name_of_methodNamed B.named B.method).1.trans hn⟩ hz hl ⟨by simp, ha, fun i e h => by simp at h, va_S.rf, by rw [hz]; exact hlt⟩
theorem Cn.push {w : Wd} {h0 ci : Nat} {fs : List Value} {L : List va_E} {s : State} {H H1 : Heap} {locs : List Loc} (h : Cn w h0 ci fs L s H locs) {x : va_E} (z : H1.size = s.heap.size + L.length + 1) (o : ∀ q : Nat, q < s.heap.size + L.length → H1[q]? = H[q]?) (hx : va_at w.1 vwCl (s.heap.size + L.length, x) H1) : Cn w h0 ci fs (L ++ [x]) s H1 locs := by
  obtain ⟨c1, c2, c3, c4, c5⟩ := h
  refine ⟨by rw [z, List.length_append]; rfl, c2.kept (o h0 (by omega)), fun i e hi => ?_, ⟨by omega, fun q q1 q2 => (o q (by omega)).trans (c4.2.1 q q1 q2), c4.2.2⟩, c5⟩
  by_cases hl : i < L.length
  · rw [List.getElem?_append_left hl] at hi
    exact (c3 i e hi).kept (o _ (by show s.heap.size + i < _; omega))
  · rw [List.getElem?_append_right (by omega)] at hi
    have hz : i - L.length < 1 := (List.getElem?_eq_some_iff.mp hi).1
    rw [show i - L.length = 0 by omega] at hi
    cases hi
    rw [show s.heap.size + i = s.heap.size + L.length by omega]
    exact hx
theorem Cn.put {w : Wd} {h0 ci : Nat} {fs fs1 : List Value} {L : List va_E} {s : State} {H H1 : Heap} {locs : List Loc} {k : Nat} (h : Cn w h0 ci fs L s H locs) (z : H1.size = H.size) (o : ∀ q : Nat, q ≠ h0 → H1[q]? = H[q]?) (hx : va_at w.1 vwCl (h0, .inr (ci, fs1)) H1) : Cn w h0 ci fs1 L s H1 (locs ++ [⟨h0, k⟩]) := by
  obtain ⟨c1, c2, c3, c4, c5⟩ := h
  exact ⟨by rw [z]; exact c1, hx, fun i e hi => (c3 i e hi).kept (o _ (by show s.heap.size + i ≠ h0; omega)), c4.put z o (Or.inl rfl), c5⟩
theorem Cn.set {w : Wd} {h0 ci : Nat} {fs : List Value} {L : List va_E} {s : State} {H H1 : Heap} {locs : List Loc} {j k : Nat} {x : va_E} (h : Cn w h0 ci fs L s H locs) (hj : j < L.length) (z : H1.size = H.size) (o : ∀ q : Nat, q ≠ s.heap.size + j → H1[q]? = H[q]?) (hx : va_at w.1 vwCl (s.heap.size + j, x) H1) : Cn w h0 ci fs (L.set j x) s H1 (locs ++ [⟨s.heap.size + j, k⟩]) := by
  obtain ⟨c1, c2, c3, c4, c5⟩ := h
  refine ⟨by rw [z, List.length_set]; exact c1, c2.kept (o _ (by show h0 ≠ _; omega)), fun i e hi => ?_, c4.put z o (Or.inr (by omega)), c5⟩
  by_cases e1 : i = j
  · subst e1
    rw [List.getElem?_set_self hj] at hi
    cases hi
    exact hx
  · rw [List.getElem?_set_ne (Ne.symm e1)] at hi
    exact (c3 i e hi).kept (o _ (by show s.heap.size + i ≠ s.heap.size + j; omega))
section CTOR
variable {p : Program} {l : Launch} {e : Env} {R : Room} {s : State} {m : MethodId} {args : Array Value} {below : List Frame} {meth : Method} {c : Code} {H : Heap} {locs : List Loc} {cells slots : Nat} {Q : State → Prop}
variable {cc : ByteArray} {pc nL : Nat} {ls : Array Slot} {rest st0 : List Value} {w : Wd} {own : String} {c0 : Cond} {h0 ci : Nat} {fs : List Value} {L : List va_E}
theorem k_ret {sz : Nat} (E : Ci w cc nL own c0 p s m args meth c) (hC : Cn w h0 ci fs L s H locs) (hz : s.heap.size = sz) (hdg : decode cc pc = .ok (.return_, 1)) : W p l e R s m args below meth c H locs cells slots (MQ below (KQ w h0 ci fs L sz) args s cells slots (Ai h0 sz)) (F0 m pc ls []) := by
  subst hz
  exact W.vret E.1 E.2.1 E.2.2.2.2.2.1 (fun t ht hW => ⟨⟨(), rfl, trivial, by rw [ht]; exact hC.1, by rw [ht]; exact hC.2.1, by rw [ht]; exact hC.2.2.1⟩, hC.2.2.2.1.F ht⟩) hC.2.2.2.1.2.2 hdg E.2.2.2.2.2.2.1
theorem k_obj (E : Ci w cc nL own c0 p s m args meth c) (hC : Cn w h0 ci fs L s H locs) {idx : Nat} (hlink : Cond.methodLink own idx objectInit ∈ Uw) (hsize : ls.size = nL) (hdg : decode cc pc = .ok (.invokespecial idx, 3)) (hframes : 1 ≤ R.frames) (hlocals : (rest.map fun v => v.category).sum + 12 ≤ R.locals) (hi : Cond.instanceMethod objectInit ∈ Uw) (hc : Cond.code objectInit ⟨#[0xb1]⟩ 1 none ∈ Uw)
    (kk : W p l e R s m args below meth c H locs cells slots Q (F0 m (pc + 3) ls rest)) : W p l e R s m args below meth c H locs cells slots Q (F0 m pc ls (.ref h0 :: rest)) := by
  obtain ⟨hx, hb, hml, hown, hts, hr, hlk, hK, hX, hnm⟩ := E
  refine W.objInit hx hb hown (hts _ (Uin hlink)) (hts _ (Uin hi)) (hts _ (Uin hc)) rfl (hsize.trans hml.symm) rfl hdg hframes (by show 2 * 0 + _ + 12 ≤ _; omega) ?_
  exact W.eq (g2 := F0 m (pc + 3) ls rest) rfl kk
theorem k_newa (E : Ci w cc nL own c0 p s m args meth c) (hC : Cn w h0 ci fs L s H locs) (q : Nat) (hq : s.heap.size + L.length = q) {atype : ArrayType} {ty : FieldType} (hty : newarray.typeOf atype = ty) (t0 : Nat) (ht : (tyW w)[t0]? = some (w.2.2 t0, ty)) (hra : ∀ x, va_RA s x ty → s.vm.findClass ("[" ++ ty.toString) = some x) (harr : Cond.arrayClass ty ∈ Uw) {a0 : vp_A} {N' : Nat} (ha : ∀ cA : ClassId, vp_cell cA a0 = arrV cA N' (fun _ => defaultValue ty)) {n : Int32} (hn : ¬ n < 0) (hN : n.toNatClampNeg = N') (hbytes : N' * componentBytes ty ≤ 536870912) (hcells : cells + 1 ≤ R.cells) (hslots : slots + N' ≤ R.slots) (hdg : decode cc pc = .ok (.newarray atype, 2))
    (kk : ∀ H1 : Heap, Cn w h0 ci fs (L ++ [.inl (w.2.2 t0, a0)]) s H1 locs → W p l e R s m args below meth c H1 locs (cells + 1) (slots + N') Q (F0 m (pc + 2) ls (.ref q :: rest))) : W p l e R s m args below meth c H locs cells slots Q (F0 m pc ls (.int n :: rest)) := by
  subst hq
  obtain ⟨hx, hb, hml, hown, hts, hr, hlk, hK, hX, hnm⟩ := E
  subst hty
  refine va_newaK hx hb (hts _ (Uin harr)) rfl hdg rfl hn hN hbytes hcells hslots hC.1 fun H1 cA e1 z1 o1 hAr hNm => ?_
  have ecA : cA = w.2.2 t0 := Option.some.inj (hNm.symm.trans (hra _ (hK.2 t0 _ ht).2))
  subst ecA
  exact kk H1 (hC.push z1 o1 (by show H1[_]? = some (vp_cell _ _); rw [ha]; exact e1))
theorem k_put (E : Ci w cc nL own c0 p s m args meth c) (hC : Cn w h0 ci fs L s H locs) {C : String} {T : u_T} {NF index : Nat} (hin : ∀ w ∈ u_ws C T NF, w ∈ Uw) (ty0 : Nat → FieldType) (hty : ∀ k, k < NF → parseFieldDescriptor (T k).2.2.1 = some (ty0 k)) (hnm : ∀ a, a < NF → ∀ b, b < NF → a ≠ b → (T a).2.1 ≠ (T b).2.1) (hc : vwCl[ci]? = some (C, T, NF)) (k : Nat) (hk : k < NF) (hlink : Cond.fieldLink own index own (T k).2.1 (T k).2.2.1 ∈ Uw) (hown2 : (T k).1 = own) {v : Value} (hn : narrow (ty0 k) v = v) (hfit : fits (ty0 k) v = true) (hl : k < fs.length) (hdg : decode cc pc = .ok (.putfield index, 3))
    (kk : ∀ (H1 : Heap) (locs1 : List Loc), Cn w h0 ci (fs.set k v) L s H1 locs1 → W p l e R s m args below meth c H1 locs1 cells slots Q (F0 m (pc + 3) ls rest)) : W p l e R s m args below meth c H locs cells slots Q (F0 m pc ls (v :: .ref h0 :: rest)) := by
  obtain ⟨hx, hb, hml, hown, hts0, hr, hlk, hK, hX, hini⟩ := E
  have hts : ∀ w ∈ Uw, w.before args s = true := fun w hw => hts0 w (Uin hw)
  have hap := va_apart (own := own) hts hin ty0 hty hnm hK hc
  obtain ⟨r, h1, cell, q1, q2, q3, q4⟩ := hC.2.1
  have hr : r = (C, T, NF) := Option.some.inj (h1.symm.trans hc)
  subst hr
  obtain ⟨hS, hfc, kC, hkC, hkind⟩ := hK.1 ci _ hc
  obtain ⟨cf, kf, fi, f, hi, hsl⟩ := hS k hk
  have hlay := hts _ (hin _ (u_in_lay hk))
  unfold u_lay at hlay
  have hst := (u_facts hfc hkC (u_lays hts hin hk) hi).1
  have hi' : s.fieldFound? own (T k).2.1 (T k).2.2.1 = some (cf, kf, fi, f) := by rw [← hown2]; exact hi
  by_cases hfin : (T k).2.2.2 = true
  · rw [if_pos hfin] at hlay
    have hcf : m.cls = cf := by
      obtain ⟨_, _, c', _, _, _, -, -, hf', -, -, -, hown3, -⟩ := Cond.laysFinal_spec hlay
      have e1 : c' = cf := by have := hi.symm.trans hf'; simp at this; exact this.1.symm
      rw [hown2] at hown3
      rw [← e1]; exact Option.some.inj (hown.symm.trans hown3)
    have h6 := u_fits hfc hkC hkind (Or.inr hlay) hi (hty k hk) hn hfit
    refine W.putFinK hx hb hown (hts _ hlink) hi' hst hcf hini (by rw [q2]; exact h6) q1 q3 (by rw [hsl]; exact k2_hasslot (q4 k hk)) rfl rfl hdg fun H' e1 e2 e3 => ?_
    rw [hsl] at e1 ⊢
    exact kk H' _ (hC.put e2 e3 ⟨_, hc, t_OB.to (V := updV (vp_V fs) k v) ⟨_, e1, q2, q3, t_set q4 hap hk v⟩ (fun j _ => vp_updV_set hl v j)⟩)
  · rw [if_neg hfin] at hlay
    have h6 := u_store hfc hkC hkind hlay hi (hty k hk) hn hfit
    refine W.putK hx hb (f := f) ⟨hown, hts _ hlink, ⟨_, _, _, hi'⟩, hst⟩ (by rw [q2]; exact h6) q1 q3 (by rw [hsl]; exact k2_hasslot (q4 k hk)) rfl rfl hdg fun H' e1 e2 e3 => ?_
    rw [hsl] at e1 ⊢
    exact kk H' _ (hC.put e2 e3 ⟨_, hc, t_OB.to (V := updV (vp_V fs) k v) ⟨_, e1, q2, q3, t_set q4 hap hk v⟩ (fun j _ => vp_updV_set hl v j)⟩)
theorem k_get (E : Ci w cc nL own c0 p s m args meth c) (hC : Cn w h0 ci fs L s H locs) {C : String} {T : u_T} {NF index : Nat} (hin : ∀ w ∈ u_ws C T NF, w ∈ Uw) (hc : vwCl[ci]? = some (C, T, NF)) (k : Nat) (hk : k < NF) (hlink : Cond.fieldLink own index own (T k).2.1 (T k).2.2.1 ∈ Uw) (hown2 : (T k).1 = own) {v : Value} (hv : fs[k]? = some v) (hdg : decode cc pc = .ok (.getfield index, 3))
    (kk : W p l e R s m args below meth c H locs cells slots Q (F0 m (pc + 3) ls (v :: rest))) : W p l e R s m args below meth c H locs cells slots Q (F0 m pc ls (.ref h0 :: rest)) := by
  obtain ⟨hx, hb, hml, hown, hts0, hr, hlk, hK, hX, hini⟩ := E
  have hts : ∀ w ∈ Uw, w.before args s = true := fun w hw => hts0 w (Uin hw)
  have hP : va_P w.1 vwCl [(h0, .inr (ci, fs))] H := by
    intro k q hq
    have hz : k < 1 := (List.getElem?_eq_some_iff.mp hq).1
    rw [show k = 0 by omega] at hq
    cases hq
    exact hC.2.1
  exact va_get hx hb hts hin hown hK hP 0 rfl hc k hk (hts _ hlink) (fun x h => by rw [← hown2]; exact h) hv hdg kk
theorem k_new (E : Ci w cc nL own c0 p s m args meth c) (hC : Cn w h0 ci fs L s H locs) (q : Nat) (hq : s.heap.size + L.length = q) {C : String} {T : u_T} {NF ci' index : Nat} (hin : ∀ w ∈ u_ws C T NF, w ∈ Uw) (ty : Nat → FieldType) (hty : ∀ k, k < NF → parseFieldDescriptor (T k).2.2.1 = some (ty k)) (hcl : Cond.classLink own index C ∈ Uw) (hinst : Cond.instantiable C NF ∈ Uw) (hini : Cond.initialized C ∈ Uw) (hc : vwCl[ci']? = some (C, T, NF)) {fs' : List Value} (hfs : ∀ j, j < NF → defaultValue (ty j) = vp_V fs' j) (hcells : cells + 1 ≤ R.cells) (hslots : slots + NF ≤ R.slots) (hdg : decode cc pc = .ok (.new index, 3))
    (kk : ∀ H1 : Heap, Cn w h0 ci fs (L ++ [.inr (ci', fs')]) s H1 locs → W p l e R s m args below meth c H1 locs (cells + 1) (slots + NF) Q (F0 m (pc + 3) ls (.ref q :: rest))) : W p l e R s m args below meth c H locs cells slots Q (F0 m pc ls rest) := by
  subst hq
  obtain ⟨hx, hb, hml, hown, hts0, hr, hlk, hK, hX, hnm⟩ := E
  have hts : ∀ w ∈ Uw, w.before args s = true := fun w hw => hts0 w (Uin hw)
  have hKn := hK.1 ci' _ hc
  refine W.newcK hx hb hown (hts _ hcl) (hts _ hinst) (hts _ hini) rfl hdg hcells hslots hKn.2.1 hC.1 fun H1 kC hkC e1 z1 o1 => ?_
  exact kk H1 (hC.push z1 o1 ⟨_, hc, (u_born ty hts hin hKn hkC e1 hty).to hfs⟩)
/-- a call of the constructor of the newest object -/
theorem k_after {ci' : Nat} {bl fs' : List Value} {L' : List va_E} {mc ms : Nat} {a : Array Value} (hC : Cn w h0 ci fs (L ++ [.inr (ci', bl)]) s H locs)
    (hr : va_Run p l e R s m args below meth c H locs cells slots mc ms (F0 m pc ls st0) rest (KQ w (s.heap.size + L.length) ci' fs' L' (s.heap.size + L.length + 1) a) (Ai (s.heap.size + L.length) (s.heap.size + L.length + 1)))
    (kk : ∀ (H1 : Heap) (locs1 : List Loc), Cn w h0 ci fs (L ++ (.inr (ci', fs') :: L')) s H1 locs1 → W p l e R s m args below meth c H1 locs1 (cells + mc) (slots + ms) Q (F0 m (pc + 3) ls rest)) : W p l e R s m args below meth c H locs cells slots Q (F0 m pc ls st0) := by
  obtain ⟨c1, c2, c3, c4, c5⟩ := hC
  rw [List.length_append] at c1
  have c1' : H.size = s.heap.size + L.length + 1 := by rw [c1]; rfl
  refine va_callv hr c4 (fun q _ hq => Or.inr (by rcases hq with hq | hq <;> omega)) (fun q hq => Or.inr (by rcases hq with hq | hq <;> omega)) (fun u t H1 locs1 ht _ _ hB hz hk hS => ?_)
  obtain ⟨d1, d2, d3⟩ := hB
  rw [ht] at d1 d2 d3
  have old : ∀ q : Nat, q < s.heap.size + L.length → H1[q]? = H[q]? := fun q hq => hk q (by omega) (fun z => by rcases z with z | z <;> omega)
  refine kk H1 locs1 ⟨by rw [d1, List.length_append, List.length_cons]; omega, c2.kept (old h0 (by omega)), fun i e hi => ?_, hS, c5⟩
  by_cases hl : i < L.length
  · rw [List.getElem?_append_left hl] at hi
    exact (c3 i e (by rw [List.getElem?_append_left hl]; exact hi)).kept (old _ (by show s.heap.size + i < _; omega))
  · rw [List.getElem?_append_right (by omega)] at hi
    by_cases h0' : i = L.length
    · subst h0'
      rw [Nat.sub_self] at hi
      cases hi
      exact d2
    · rw [show i - L.length = (i - L.length - 1) + 1 by omega, List.getElem?_cons_succ] at hi
      have := d3 _ e hi
      rw [show s.heap.size + L.length + 1 + (i - L.length - 1) = s.heap.size + i by omega] at this
      exact this
theorem k_pre {ci' : Nat} {bl As : List Value} (hK : va_K w.1 vwCl (tyW w) s) (hX : Xw w s) (hC : Cn w h0 ci fs (L ++ [.inr (ci', bl)]) s H locs) : PreS s H (va_Pc (.ref (s.heap.size + L.length) :: As) (CP w (s.heap.size + L.length) ci' bl (s.heap.size + L.length + 1))) (.ref (s.heap.size + L.length) :: As) := by
  obtain ⟨c1, c2, c3, c4, c5⟩ := hC
  rw [List.length_append] at c1
  refine ⟨fun a U g mk h => ?_, fun U hU hW => ⟨rfl, by rw [hU, c1]; rfl, by omega, by rw [hU]; exact c3 L.length _ (by simp), va_K.moved hW.alike hK, hX.warm hW⟩⟩
  obtain ⟨g1, g2, g3, g4, g5, g6⟩ := h
  exact ⟨g1, g2, g3, g4, va_K.moved (u := U) (U := U.calling g mk a) (Vm.Alike.refl U.vm) g5, g6.same (U := U.calling g mk a) rfl⟩
theorem k_init (E : Ci w cc nL own c0 p s m args meth c) {ci' : Nat} {bl fs' As : List Value} {L' : List va_E} {y : MethodName} {bytes : ByteArray} {maxL n index mc ms : Nat} {rm : Room} (hC : Cn w h0 ci fs (L ++ [.inr (ci', bl)]) s H locs) (q : Nat) (hq : s.heap.size + L.length = q)
    (hM : KMet l y bytes maxL rm w q ci' bl fs' L' (q + 1) As mc ms) (hk : Ck y bytes maxL none n) (hnm : y.name = "<init>") (hinst : Cond.instanceMethod y ∈ Uw) (hlink : Cond.methodLink own index y ∈ Uw) (hrm : rm.cells = mc ∧ rm.slots = ms ∧ rm.frames + 1 ≤ R.frames ∧ 8 + (maxL + 11) + rm.locals ≤ R.locals) (hn : As.length = n) (hsize : ls.size = nL) (hst : st0 = As.reverse ++ .ref q :: rest) (hroom : (rest.map fun v => v.category).sum ≤ 8) (hdg : decode cc pc = .ok (.invokespecial index, 3)) (hf : cells + mc ≤ R.cells ∧ slots + ms ≤ R.slots)
    (kk : ∀ (H1 : Heap) (locs1 : List Loc), Cn w h0 ci fs (L ++ (.inr (ci', fs') :: L')) s H1 locs1 → W p l e R s m args below meth c H1 locs1 (cells + mc) (slots + ms) Q (F0 m (pc + 3) ls rest)) : W p l e R s m args below meth c H locs cells slots Q (F0 m pc ls st0) := by
  subst hq
  obtain ⟨hx, hb, hml, hown, hts, hr, hlk, hK, hX, hini⟩ := E
  obtain ⟨hcode, hin, hd⟩ := hk
  exact k_after hC (va_runI (As := As) (rest := rest) ⟨hx, hb, hml, hown, hts⟩ hM ⟨callB_of n hts (gU hcode) rfl hrm.1 hrm.2.1 (hts _ (Uin hin)) (hts _ (Uin hlink)) hd ⟨hrm.2.2.1, hrm.2.2.2⟩, hnm, hts _ (Uin hinst)⟩ (k_pre hK hX hC) rfl hn hsize hst (lv_room hroom) hdg hf) kk
theorem k_initN (E : Ci w cc nL own c0 p s m args meth c) {ci' : Nat} {bl fs' As : List Value} {L' : List va_E} {y : MethodName} {bytes : ByteArray} {maxL n index mc ms : Nat} {rm : Room} (hC : Cn w h0 ci fs (L ++ [.inr (ci', bl)]) s H locs) (q : Nat) (hq : s.heap.size + L.length = q)
    (hM : KMet l y bytes maxL rm w q ci' bl fs' L' (q + 1) As mc ms) (hk : Ck y bytes maxL none n) (hnm : y.name = "<init>") (hinst : Cond.instanceMethod y ∈ Uw) (hlink : (own, index, y, "GlulxStrings") ∈ nestL) (hrm : rm.cells = mc ∧ rm.slots = ms ∧ rm.frames + 1 ≤ R.frames ∧ 8 + (maxL + 11) + rm.locals ≤ R.locals) (hn : As.length = n) (hsize : ls.size = nL) (hst : st0 = As.reverse ++ .ref q :: rest) (hroom : (rest.map fun v => v.category).sum ≤ 8) (hdg : decode cc pc = .ok (.invokespecial index, 3)) (hf : cells + mc ≤ R.cells ∧ slots + ms ≤ R.slots)
    (kk : ∀ (H1 : Heap) (locs1 : List Loc), Cn w h0 ci fs (L ++ (.inr (ci', fs') :: L')) s H1 locs1 → W p l e R s m args below meth c H1 locs1 (cells + mc) (slots + ms) Q (F0 m (pc + 3) ls rest)) : W p l e R s m args below meth c H locs cells slots Q (F0 m pc ls st0) := by
  subst hq
  obtain ⟨hx, hb, hml, hown, hts, hr, hlk, hK, hX, hini⟩ := E
  obtain ⟨hcode, hin, hd⟩ := hk
  exact k_after hC (va_runIN (As := As) (rest := rest) (host := "GlulxStrings") ⟨hx, hb, hml, hown, hts⟩ hM ⟨va_cnB n hts (gU hcode) rfl hrm.1 hrm.2.1 (hX.2.2 _ hlink) (hts _ (Uin hin)) hd ⟨hrm.2.2.1, hrm.2.2.2⟩, hnm, hts _ (Uin hinst)⟩ (k_pre hK hX hC) rfl hn hsize hst (lv_room hroom) hdg hf) kk
/-- rows of rows of ints -/
theorem k_multi (E : Ci w cc nL own c0 p s m args meth c) (hC : Cn w h0 ci fs L s H locs) (q : Nat) (hq : s.heap.size + L.length = q) {index : Nat} (hcl : Cond.classLink own index "[[I" ∈ Uw) {n k : Int32} {N M : Nat} (hn : ¬ n < 0) (hk : ¬ k < 0) (eN : n.toNatClampNeg = N) (eM : k.toNatClampNeg = M) (hb1 : N * 4 ≤ 536870912) (hb2 : M * 4 ≤ 536870912) (hcells : cells + (1 + N) ≤ R.cells) (hslots : slots + (N + N * M) ≤ R.slots) (hdg : decode cc pc = .ok (.multianewarray index 2, 4))
    (kk : ∀ (H1 : Heap) (locs1 : List Loc), Cn w h0 ci fs (L ++ (.inl (w.2.2 5, N, .inr (.inr (.inr (.inr (fun i => if i < N then some (q + 1 + i) else none))))) :: List.replicate N (.inl (w.2.2 0, M, .inl (fun _ => 0))))) s H1 locs1 → W p l e R s m args below meth c H1 locs1 (cells + 1 + N) (slots + N + N * M) Q (F0 m (pc + 4) ls (.ref q :: rest))) : W p l e R s m args below meth c H locs cells slots Q (F0 m pc ls (.int k :: .int n :: rest)) := by
  subst hq
  obtain ⟨hx, hb, hml, hown, hts, hr, hlk, hK, hX, hini⟩ := E
  obtain ⟨⟨kA, hkA, hkindA⟩, -⟩ := hX
  obtain ⟨hA5, hR5⟩ := hK.2 5 (w.2.2 5, .array .int) rfl
  obtain ⟨hA0, hR0⟩ := hK.2 0 (w.2.2 0, .int) rfl
  obtain ⟨-, kC, hkC, c2, hkindC⟩ := hA0 0 (fun _ => .int 0)
  have hnm : s.vm.findClass "[[I" = some (w.2.2 5) := hR5
  refine m_multi (ty := .int) hx hb hown (hts _ (Uin hcl)) hnm hkA hkindA hkC hkindC rfl hdg rfl hn hk eN eM hb1 hb2 (by omega) rfl rfl hcells hslots hC.1 fun H1 z1 e1 e2 o1 => ?_
  obtain ⟨d1, d2, d3, d4, d5⟩ := hC
  refine kk H1 _ ⟨by rw [z1, List.length_append, List.length_cons, List.length_replicate]; omega, d2.kept (o1 h0 (by omega)), fun i x hi => ?_, ⟨by have := d4.1; omega, fun q q1 q2 => (o1 q (by omega)).trans (d4.2.1 q q1 q2), fun lq hq => ?_⟩, d5⟩
  · by_cases hl : i < L.length
    · rw [List.getElem?_append_left hl] at hi
      exact (d3 i x hi).kept (o1 _ (by show s.heap.size + i < _; omega))
    · rw [List.getElem?_append_right (by omega)] at hi
      by_cases h0' : i = L.length
      · subst h0'
        rw [Nat.sub_self] at hi
        cases hi
        show H1[_]? = some (vp_cell _ _)
        rw [vp_cell_q, e1]
        congr 2
        funext j
        by_cases hj : j < N
        · rw [if_pos hj, if_pos hj]; rfl
        · rw [if_neg hj, if_neg hj]; rfl
      · rw [show i - L.length = (i - L.length - 1) + 1 by omega, List.getElem?_cons_succ, List.getElem?_replicate] at hi
        by_cases hj : i - L.length - 1 < N
        · rw [if_pos hj] at hi
          cases hi
          have := e2 (i - L.length - 1) hj
          rw [show s.heap.size + L.length + 1 + (i - L.length - 1) = s.heap.size + i by omega] at this
          exact this
        · rw [if_neg hj] at hi
          cases hi
  · rcases List.mem_append.mp hq with hq | hq
    · exact d4.2.2 lq hq
    · obtain ⟨j, -, rfl⟩ := List.mem_map.mp hq
      exact Or.inr (by show s.heap.size ≤ s.heap.size + L.length; omega)
/-- a row of jobs, empty -/
theorem k_anew (E : Ci w cc nL own c0 p s m args meth c) (hC : Cn w h0 ci fs L s H locs) (q : Nat) (hq : s.heap.size + L.length = q) {index : Nat} (hcl : Cond.classLink own index "GlulxStrings$Job" ∈ Uw) {n : Int32} {N : Nat} (hn : ¬ n < 0) (eN : n.toNatClampNeg = N) (hb1 : N * 4 ≤ 536870912) (hcells : cells + 1 ≤ R.cells) (hslots : slots + N ≤ R.slots) (hdg : decode cc pc = .ok (.anewarray index, 3))
    (kk : ∀ H1 : Heap, Cn w h0 ci fs (L ++ [.inl (w.2.2 4, N, .inr (.inr (.inr (.inr (fun _ => none)))))]) s H1 locs → W p l e R s m args below meth c H1 locs (cells + 1) (slots + N) Q (F0 m (pc + 3) ls (.ref q :: rest))) : W p l e R s m args below meth c H locs cells slots Q (F0 m pc ls (.int n :: rest)) := by
  subst hq
  obtain ⟨hx, hb, hml, hown, hts, hr, hlk, hK, hX, hini⟩ := E
  obtain ⟨hA4, kA, comp, r1, r2, r3, r4⟩ := hK.2 4 (w.2.2 4, .object "GlulxStrings$Job") rfl
  subst eN
  refine W.anew hx hb hown (hts _ (Uin hcl)) (va_AO.use hX.2.1) rfl hdg rfl hn hb1 hcells hslots fun cA kA' comp' f1 f2 f3 f4 => ?_
  have ecA : cA = w.2.2 4 := Option.some.inj (f1.symm.trans r4)
  subst ecA
  generalize hH1 : H.push ({ cls := w.2.2 4, slots := Array.replicate n.toNatClampNeg .null, vm := .none } : Cell) = H1
  have z1 : H1.size = H.size + 1 := by rw [← hH1, Array.size_push]
  have e1 : H1[H.size]? = some (arrV (w.2.2 4) n.toNatClampNeg (fun _ => .null)) := by rw [← hH1, Array.getElem?_push_size, ← arrV_new]
  have o1 : ∀ q : Nat, q < H.size → H1[q]? = H[q]? := fun q hq => by rw [← hH1, Array.getElem?_push, if_neg (Nat.ne_of_lt hq)]
  rw [hC.1] at z1 e1 o1 ⊢
  exact kk H1 (hC.push z1 o1 (by show H1[_]? = some (vp_cell _ _); rw [vp_cell_q]; exact e1))
/-- a job is put into the row of jobs -/
theorem k_aast (E : Ci w cc nL own c0 p s m args meth c) (hC : Cn w h0 ci fs L s H locs) {j v N : Nat} {vs : List Value} {f : Nat → Option Nat} (hj : L[j]? = some (.inl (w.2.2 4, N, .inr (.inr (.inr (.inr f)))))) {jv : Nat} (hv : L[jv]? = some (.inr (1, vs))) (ev : s.heap.size + jv = v) {i : Int32} (hin : vp_in i N) (hdg : decode cc pc = .ok (.aastore, 1))
    (kk : ∀ (H1 : Heap) (locs1 : List Loc), Cn w h0 ci fs (L.set j (.inl (w.2.2 4, N, .inr (.inr (.inr (.inr (va_up f i.toNatClampNeg (some v)))))))) s H1 locs1 → W p l e R s m args below meth c H1 locs1 cells slots Q (F0 m (pc + 1) ls rest)) : W p l e R s m args below meth c H locs cells slots Q (F0 m pc ls (.ref v :: .int i :: .ref (s.heap.size + j) :: rest)) := by
  obtain ⟨hx, hb, hml, hown, hts, hr, hlk, hK, hX, hini⟩ := E
  have hlt : i.toNatClampNeg < N := Nat.not_le.mp fun q => hin (Or.inr q)
  have hi0 : ¬ i < 0 := fun q => hin (Or.inl q)
  obtain ⟨r', hr', cellV, g1, g2, g3, -⟩ := hC.2.2.1 jv _ hv
  have hcls := (hK.1 1 (RX1, TX1, 8) rfl).2
  obtain ⟨-, kA, comp, k1, k2, k3, -⟩ := hK.2 4 (w.2.2 4, .object "GlulxStrings$Job") rfl
  have hcomp : comp = w.1.1 1 := Option.some.inj (k3.symm.trans hcls.1)
  subst hcomp
  obtain ⟨kC, hkC, -⟩ := hcls.2
  have hjl : j < L.length := (List.getElem?_eq_some_iff.mp hj).1
  rw [ev] at g1
  refine W.aast hx hb (hC.2.2.1 j _ hj) (fun q h => by cases h) (fun h => by cases h) k1 k2 rfl hkC ⟨hi0, by show _ < (arrV _ _ _).slots.size; rw [arrV_size]; exact hlt⟩ g1 (fun q h => by rw [g3] at h; cases h) (by rw [g2]; exact hkC) (by rw [g2]; exact va_assign hcls) rfl rfl hdg fun H1 e z oq => ?_
  refine kk H1 _ (hC.set hjl z oq ?_)
  show H1[_]? = some (vp_cell _ _)
  rw [e]
  show some ((arrV _ _ _).setSlot _ _) = _
  rw [vp_cell_q, arrV_store]
  congr 2
  funext q
  by_cases hq : q = i.toNatClampNeg
  · subst hq
    simp [updV, va_up, va_rf]
  · simp [updV, va_up, hq]
end CTOR
