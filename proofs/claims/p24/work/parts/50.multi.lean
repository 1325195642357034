/-! rows of rows: 'multianewarray' of two dimensions, over the machine -/
/-- the outer row when i inner rows are laid: h its own address -/
def mo (c : ClassId) (N h i : Nat) : Cell := arrV c N (fun j => if j < i then .ref (h + 1 + j) else .null)
/-- the state when i inner rows are laid -/
def ms (T : State) (c comp : ClassId) (N M : Nat) (dv : Value) : Nat → State
  | 0 => T.pushCell (mo c N T.heap.size 0)
  | i + 1 => ((ms T c comp N M dv i).pushCell (arrV comp M (fun _ => dv))).setCell T.heap.size (mo c N T.heap.size (i + 1))
theorem mo_next (c : ClassId) (N h i : Nat) : (mo c N h i).setSlot i (.ref (h + 1 + i)) = mo c N h (i + 1) := by
  unfold mo
  rw [arrV_store]
  congr 1
  funext j
  unfold updV
  dsimp only
  by_cases e : j = i
  · subst e; simp
  · by_cases g : j < i
    · rw [if_neg e, if_pos g, if_pos (by omega)]
    · rw [if_neg e, if_neg g, if_neg (by omega)]
theorem ms_facts (T : State) (c comp : ClassId) (N M : Nat) (dv : Value) : ∀ i : Nat, (ms T c comp N M dv i).heap.size = T.heap.size + 1 + i ∧ (ms T c comp N M dv i).heap[T.heap.size]? = some (mo c N T.heap.size i) ∧ (ms T c comp N M dv i).vm = T.vm ∧ (ms T c comp N M dv i).slotsUsed = T.slotsUsed + N + i * M ∧ (∀ q : Nat, q < T.heap.size → (ms T c comp N M dv i).heap[q]? = T.heap[q]?) ∧ ∀ j : Nat, j < i → (ms T c comp N M dv i).heap[T.heap.size + 1 + j]? = some (arrV comp M (fun _ => dv))
  | 0 => by
    refine ⟨by simp [ms], by simp [ms], rfl, by simp [ms, mo, arrV], fun q hq => ?_, fun j hj => absurd hj (Nat.not_lt_zero _)⟩
    exact State.heap_pushCell_of_lt _ _ hq
  | i + 1 => by
    obtain ⟨a1, a2, a3, a4, a5, a6⟩ := ms_facts T c comp N M dv i
    have hlt : T.heap.size < (ms T c comp N M dv i).heap.size := by omega
    have hb : ((ms T c comp N M dv i).pushCell (arrV comp M (fun _ => dv))).heap[T.heap.size]? = some (mo c N T.heap.size i) := by
      rw [State.heap_pushCell_of_lt (h := hlt)]; exact a2
    refine ⟨?_, State.heap_setCell_self hb, by simp [ms, a3], ?_, fun q hq => ?_, fun j hj => ?_⟩
    · simp [ms, State.setCell, a1]; omega
    · simp [ms, a4, arrV, Nat.succ_mul]; omega
    · show (((ms T c comp N M dv i).pushCell (arrV comp M (fun _ => dv))).setCell T.heap.size _).heap[q]? = _
      rw [State.heap_setCell_other (Nat.ne_of_gt hq), State.heap_pushCell_of_lt (h := Nat.lt_trans hq hlt)]
      exact a5 q hq
    · show (((ms T c comp N M dv i).pushCell (arrV comp M (fun _ => dv))).setCell T.heap.size _).heap[T.heap.size + 1 + j]? = _
      rw [State.heap_setCell_other (show T.heap.size ≠ T.heap.size + 1 + j by omega)]
      by_cases g : j < i
      · rw [State.heap_pushCell_of_lt (h := (show T.heap.size + 1 + j < (ms T c comp N M dv i).heap.size by omega))]
        exact a6 j g
      · rw [show T.heap.size + 1 + j = (ms T c comp N M dv i).heap.size by omega]
        exact State.heap_pushCell_size _ _
theorem ms_top (T : State) (f : JFrame) (c comp : ClassId) (N M : Nat) (dv : Value) : ∀ i : Nat, ms (T.setTop f) c comp N M dv i = (ms T c comp N M dv i).setTop f
  | 0 => rfl
  | i + 1 => by simp only [ms, ms_top T f c comp N M dv i, State.heap_setTop, State.pushCell_setTop, State.setCell_setTop]
section MULTI
variable {E : CtlPost} {e : Env} {d : Bool} {acts : List Action} {s : State}
theorem m_new {c comp : ClassId} {k : Class} {type : FieldType} {len : Nat} {v : Value} (hk : s.vm.classes[c]? = some k) (hkind : k.kind = .array comp type) (hl : ¬ len > e.platform.arrayLengthLimit) (hh : ¬ len * componentBytes type > e.platform.maxHeapBytes) (hfit : fits type v = true) (hdef : v.isDefault = true) {Q : Addr → Pre}
    (h1 : s.heap.size < e.platform.maxCells) (h2 : s.slotsUsed + len ≤ e.platform.maxSlots) (hq : Q s.heap.size d acts (s.pushCell (arrV c len (fun _ => v)))) : wp (Jvm.newArray c len v) Q E e d acts s := by
  have hfits : ∀ i u, (Array.replicate len v)[i]? = some u → s.fitsSlot c .none i u = true := by
    intro i u hu
    simp only [Array.getElem?_replicate] at hu
    split at hu
    · cases hu; simp [State.fitsSlot, State.slotType?, hk, hkind, hfit]
    · cases hu
  have hda : allocActs (Array.replicate len v) s.heap.size acts = acts := by
    have hall : ((Array.replicate len v).all (·.isDefault)) = true := by
      rw [Array.all_replicate]; split <;> simp [hdef]
    unfold allocActs; rw [if_pos hall]
  simp only [Jvm.newArray, Jvm.arrayFits, wp_bind', W.ask, W.ite, hl, if_false, wp_pure', W.theClass, hk, hkind, hh, W.alloc, W.stop, Option.some.injEq, exists_eq_left', Array.size_replicate, hda]
  rw [if_neg (by omega)]
  rw [← arrV_new] at hq
  exact ⟨h1, h2, hfits, hq⟩
theorem m_row {comp cc : ClassId} {kc : Class} {type : FieldType} {m : Int32} (hkc : s.vm.classes[comp]? = some kc) (hkind : kc.kind = .array cc type) (hm : ¬ m < 0) (hl : ¬ m.toNatClampNeg > e.platform.arrayLengthLimit) (hh : ¬ m.toNatClampNeg * componentBytes type > e.platform.maxHeapBytes) (hdf : fits type (defaultValue type) = true) (hdd : (defaultValue type).isDefault = true)
    (h1 : s.heap.size < e.platform.maxCells) (h2 : s.slotsUsed + m.toNatClampNeg ≤ e.platform.maxSlots) {Q : Addr → Pre} (hq : Q s.heap.size d acts (s.pushCell (arrV comp m.toNatClampNeg (fun _ => defaultValue type)))) : wp (Op.multianewarray.make comp [m]) Q E e d acts s := by
  rw [Op.multianewarray.make]
  simp only [wp_bind', W.ite, hm, if_false, wp_pure', W.theClass, hkc, hkind, Option.some.injEq, exists_eq_left']
  exact m_new hkc hkind hl hh hdf hdd h1 h2 hq
theorem m_rows {c comp cc : ClassId} {k kc : Class} {type : FieldType} {n m : Int32} (hk : s.vm.classes[c]? = some k) (hkind : k.kind = .array comp (.array type)) (hkc : s.vm.classes[comp]? = some kc) (hkindc : kc.kind = .array cc type) (hn : ¬ n < 0) (hm : ¬ m < 0)
    (hl1 : ¬ n.toNatClampNeg > e.platform.arrayLengthLimit) (hh1 : ¬ n.toNatClampNeg * componentBytes (.array type) > e.platform.maxHeapBytes) (hl2 : ¬ m.toNatClampNeg > e.platform.arrayLengthLimit) (hh2 : ¬ m.toNatClampNeg * componentBytes type > e.platform.maxHeapBytes) (hdf : fits type (defaultValue type) = true) (hdd : (defaultValue type).isDefault = true)
    (hc : s.heap.size + 1 + n.toNatClampNeg ≤ e.platform.maxCells) (hs : s.slotsUsed + n.toNatClampNeg + n.toNatClampNeg * m.toNatClampNeg ≤ e.platform.maxSlots)
    {Q : Addr → Pre} (hq : ∀ d' acts', Q s.heap.size d' acts' (ms s c comp n.toNatClampNeg m.toNatClampNeg (defaultValue type) n.toNatClampNeg)) : wp (Op.multianewarray.make c [n, m]) Q E e d acts s := by
  have hfind : ([m].find? (· < 0)) = none := by simp [hm]
  have hrf : ∀ v : Value, (v = .null ∨ ∃ a, v = .ref a) → fits (.array type) v = true := by
    intro v hv
    rcases hv with rfl | ⟨a, rfl⟩ <;> rfl
  have hmul0 := Nat.zero_le (n.toNatClampNeg * m.toNatClampNeg)
  rw [Op.multianewarray.make]
  simp only [wp_bind', W.ite, hn, if_false, wp_pure', W.theClass, hk, hkind, Option.some.injEq, exists_eq_left']
  refine m_new hk hkind hl1 hh1 (hrf _ (Or.inl rfl)) rfl (by omega) (by omega) ?_
  simp only [hfind]
  rw [ite_self, wp_bind', Std.Legacy.Range.forIn_eq_forIn_range']
  have hsz : ([:n.toNatClampNeg] : Std.Legacy.Range).size = n.toNatClampNeg := by simp [Std.Legacy.Range.size]
  rw [hsz]
  show wp (forIn (List.range' 0 n.toNatClampNeg 1) PUnit.unit _) _ E e d acts _
  have h00 : s.pushCell (arrV c n.toNatClampNeg (fun _ => .null)) = ms s c comp n.toNatClampNeg m.toNatClampNeg (defaultValue type) 0 := by
    show _ = s.pushCell (mo c n.toNatClampNeg s.heap.size 0)
    unfold mo
    simp
  rw [h00]
  refine wp_forIn_inv (fun rest s' => ∃ i, i ≤ n.toNatClampNeg ∧ rest = List.range' i (n.toNatClampNeg - i) ∧ s' = ms s c comp n.toNatClampNeg m.toNatClampNeg (defaultValue type) i) _ _ ⟨0, Nat.zero_le _, rfl, rfl⟩ ?_ ?_
  · rintro x rest s' d' acts' Q' ⟨i, hi, hl, rfl⟩ hnext
    have hlt : i < n.toNatClampNeg := by
      rcases Nat.lt_or_ge i n.toNatClampNeg with h | h
      · exact h
      · rw [show n.toNatClampNeg - i = 0 from by omega] at hl; simp at hl
    obtain ⟨rfl, hrest⟩ : x = i ∧ rest = List.range' (i + 1) (n.toNatClampNeg - (i + 1)) := by
      rw [show n.toNatClampNeg - i = (n.toNatClampNeg - (i + 1)) + 1 from by omega, List.range'_succ] at hl
      exact ⟨(List.cons.inj hl).1, (List.cons.inj hl).2⟩
    obtain ⟨f1, f2, f3, f4, -, -⟩ := ms_facts s c comp n.toNatClampNeg m.toNatClampNeg (defaultValue type) x
    have hmul : x * m.toNatClampNeg + m.toNatClampNeg ≤ n.toNatClampNeg * m.toNatClampNeg := by
      have := Nat.mul_le_mul_right m.toNatClampNeg (show x + 1 ≤ n.toNatClampNeg from hlt)
      rw [Nat.succ_mul] at this; exact this
    simp only [wp_bind']
    refine m_row (by rw [f3]; exact hkc) hkindc hm hl2 hh2 hdf hdd (by rw [f1]; omega) (by rw [f4]; omega) ?_
    have hlt0 : s.heap.size < (ms s c comp n.toNatClampNeg m.toNatClampNeg (defaultValue type) x).heap.size := by rw [f1]; omega
    simp only [wp_bind', W.writeLoc, wp_pure']
    refine ⟨mo c n.toNatClampNeg s.heap.size x, by rw [State.heap_pushCell_of_lt (h := hlt0)]; exact f2, (fun h => by cases h), by show _ < (arrV _ _ _).slots.size; rw [arrV_size]; exact hlt, ?_, hnext _ _ _ ⟨x + 1, hlt, hrest, ?_⟩⟩
    · show State.fitsSlot _ c .none x _ = true
      simp [State.fitsSlot, State.slotType?, f3, hk, hkind, hrf _ (Or.inr ⟨_, rfl⟩)]
    · rw [f1, mo_next]; rfl
  · rintro s' d' acts' ⟨i, hi, hl, rfl⟩
    have hiN : i = n.toNatClampNeg := by
      rcases Nat.lt_or_ge i n.toNatClampNeg with h | h
      · rw [show n.toNatClampNeg - i = (n.toNatClampNeg - (i + 1)) + 1 from by omega, List.range'_succ] at hl; cases hl
      · omega
    subst hiN
    simp only [wp_pure']
    exact hq _ _
end MULTI
section MULTI2
variable {p : Program} {l : Launch} {e : Env} {R : Room} {s : State} {m : MethodId} {args : Array Value} {below : List Frame} {meth : Method} {c : Code} {H : Heap} {locs : List Loc} {cells slots : Nat} {Q : State → Prop}
theorem ms_stand {T : State} (X : Stand p l e R s m args below meth c T locs cells slots) (cA comp : ClassId) (N M : Nat) (dv : Value) : ∀ i : Nat, Stand p l e R s m args below meth c (ms T cA comp N M dv i) (locs ++ (List.range i).map fun j => (⟨T.heap.size, j⟩ : Loc)) (cells + 1 + i) (slots + N + i * M)
  | 0 => by
    have h := X.pushed (mo cA N T.heap.size 0)
    rw [show (mo cA N T.heap.size 0).slots.size = N from arrV_size _ _ _] at h
    simpa [ms] using h
  | i + 1 => by
    have Xi := ms_stand X cA comp N M dv i
    obtain ⟨f1, f2, f3, f4, -, -⟩ := ms_facts T cA comp N M dv i
    have hlt0 : T.heap.size < (ms T cA comp N M dv i).heap.size := by rw [f1]; omega
    have hcell : ((ms T cA comp N M dv i).pushCell (arrV comp M (fun _ => dv))).heap[T.heap.size]? = some (mo cA N T.heap.size i) := by rw [State.heap_pushCell_of_lt (h := hlt0)]; exact f2
    have h := (Xi.pushed (arrV comp M (fun _ => dv))).stored hcell i (.ref (T.heap.size + 1 + i))
    rw [arrV_size, mo_next] at h
    have e2 : (locs ++ (List.range (i + 1)).map fun j => (⟨T.heap.size, j⟩ : Loc)) = (locs ++ (List.range i).map fun j => (⟨T.heap.size, j⟩ : Loc)) ++ [⟨T.heap.size, i⟩] := by simp [List.range_succ, List.append_assoc]
    have e3 : slots + N + (i + 1) * M = slots + N + i * M + M := by rw [Nat.succ_mul]; omega
    rw [e2, e3]
    exact h
/-- the row: rows of k elements each, n of them; cA and comp the classes of the outer row and of the inner ones -/
theorem m_multi {cc : ByteArray} (hexec : p.tables.exec = Jvm.exec) (hb : c.code = cc) {own : String} {index : Nat} {ty : FieldType} {nm : String} (hown : s.vm.findClass own = some m.cls) (hclink : (Cond.classLink own index nm).before args s = true)
    {cA comp c2 : ClassId} {kA kC : Class} (hnm : s.vm.findClass nm = some cA) (hkA : s.vm.classes[cA]? = some kA) (hkindA : kA.kind = .array comp (.array ty)) (hkC : s.vm.classes[comp]? = some kC) (hkindC : kC.kind = .array c2 ty)
    {g : JFrame} (hg : g.method = m) (hdg : decode cc g.pc = .ok (.multianewarray index 2, 4)) {n k : Int32} {rest : List Value} (hstack : g.stack = .int k :: .int n :: rest)
    (hn : ¬ n < 0) (hk : ¬ k < 0) {N M : Nat} (eN : n.toNatClampNeg = N) (eM : k.toNatClampNeg = M) (hb1 : N * 4 ≤ 536870912) (hb2 : M * componentBytes ty ≤ 536870912) (hb3 : M ≤ 536870912) (hdf : fits ty (defaultValue ty) = true) (hdd : (defaultValue ty).isDefault = true)
    (hcells : cells + (1 + N) ≤ R.cells) (hslots : slots + (N + N * M) ≤ R.slots) {h : Nat} (hh : H.size = h)
    (kk : ∀ H' : Heap, H'.size = h + 1 + N → H'[h]? = some (arrV cA N (fun j => if j < N then .ref (h + 1 + j) else .null)) → (∀ j : Nat, j < N → H'[h + 1 + j]? = some (arrV comp M (fun _ => defaultValue ty))) → (∀ q : Nat, q < h → H'[q]? = H[q]?) → W p l e R s m args below meth c H' (locs ++ (List.range N).map fun j => (⟨h, j⟩ : Loc)) (cells + 1 + N) (slots + N + N * M) Q { g with pc := g.pc + 4, stack := .ref h :: rest }) : W p l e R s m args below meth c H locs cells slots Q g := by
  intro T hT X
  subst hT; subst hb; subst hg; subst hh; subst eN; subst eM
  have hpl : e.platform.magicAccessors = ({} : Platform).magicAccessors := by rw [X.admits.platform]
  obtain ⟨c0, hfc0, hcl⟩ := Cond.classLink_spec hown hclink e.platform hpl
  cases hnm.symm.trans hfc0
  obtain ⟨hg₁, hwarm₁, hready₁⟩ := State.classEntry (e := e) X.warmed hcl
  generalize T.vm.noted g.method.cls index (.cls cA) = vm₁ at hg₁ hwarm₁ hready₁
  have hal : s.vm.Alike vm₁ := hwarm₁.alike
  obtain ⟨kA₁, hkA₁, heA⟩ := hal.2.2 _ _ hkA
  obtain ⟨kC₁, hkC₁, heC⟩ := hal.2.2 _ _ hkC
  have hkindA₁ : kA₁.kind = .array comp (.array ty) := by rw [heA]; exact hkindA
  have hkindC₁ : kC₁.kind = .array c2 ty := by rw [heC]; exact hkindC
  have X₁ := X.noted hwarm₁
  obtain ⟨hr1, hr2⟩ := X.roomAbove hcells hslots
  have XF := ms_stand X₁ cA comp n.toNatClampNeg k.toNatClampNeg (defaultValue ty) n.toNatClampNeg
  obtain ⟨f1, f2, f3, f4, f5, f6⟩ := ms_facts (T.setVm vm₁) cA comp n.toNatClampNeg k.toNatClampNeg (defaultValue ty) n.toNatClampNeg
  obtain ⟨t', a1, b1⟩ := kk _ f1 f2 f6 f5 (ms (T.setVm vm₁) cA comp n.toNatClampNeg k.toNatClampNeg (defaultValue ty) n.toNatClampNeg) rfl XF
  refine ⟨t', ?_, b1⟩
  have hl1 : ¬ n.toNatClampNeg > e.platform.arrayLengthLimit := by rw [Launch.admits_arrayLengthLimit X.admits]; omega
  have hh1 : ¬ n.toNatClampNeg * componentBytes (.array ty) > e.platform.maxHeapBytes := by
    rw [Launch.admits_maxHeapBytes X.admits]; show ¬ n.toNatClampNeg * 4 > 536870912; omega
  have hl2 : ¬ k.toNatClampNeg > e.platform.arrayLengthLimit := by rw [Launch.admits_arrayLengthLimit X.admits]; omega
  have hh2 : ¬ k.toNatClampNeg * componentBytes ty > e.platform.maxHeapBytes := by rw [Launch.admits_maxHeapBytes X.admits]; omega
  jvm_step X.here [hexec, hdg]
  simp only [Op.multianewarray.sem, wp_bind', W.resolveClassAt_links (State.method?_setTop g X.here.top) hg₁]
  rw [W.popN, if_neg (by decide)]
  refine ⟨g, State.topJava?_setTop' (s := T.setVm vm₁) g X.here.top, [.int n, .int k], rest, rfl, hstack, ?_⟩
  simp only [List.mapM_cons, List.mapM_nil, wp_bind', wp_pure']
  refine m_rows (k := kA₁) (kc := kC₁) (comp := comp) (cc := c2) (type := ty) hkA₁ hkindA₁ hkC₁ hkindC₁ hn hk hl1 hh1 hl2 hh2 hdf hdd (by show T.heap.size + 1 + _ ≤ _; omega) (by show T.slotsUsed + _ + _ ≤ _; omega) (fun d' acts' => ?_)
  have eS : ((T.setTop g).setVm vm₁).setTop { g with stack := rest } = (T.setVm vm₁).setTop { g with stack := rest } := by
    show ((T.setVm vm₁).setTop g).setTop _ = _
    rw [State.setTop_setTop]
  rw [eS, ms_top]
  simp only [wp_bind', W.mark, W.pushRef, State.topJava?_setTop' _ XF.here.top, Option.some.injEq, exists_eq_left', State.setTop_setTop, State.heap_setTop]
  intro acts
  simp [jvm, XF.here.top]
  exact a1
end MULTI2
