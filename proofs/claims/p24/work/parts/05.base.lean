-- a world: where classes and slots lie, where the cells lie, the classes of its arrays; a state: ints and longs, by cell and place
abbrev Wd : Type := va_G × (Nat → Nat) × (Nat → ClassId)
abbrev St : Type := (Nat → Nat → Int32) × (Nat → Nat → Int64)
abbrev En : Type := Wd → (Nat → Int32) → (Nat → Int64) → Nat → va_E
def u1 (σ : St) (k j : Nat) (v : Int32) : St := (fun a => if a = k then upd (σ.1 a) j v else σ.1 a, σ.2)
def u2 (σ : St) (k j : Nat) (v : Int64) : St := (σ.1, fun a => if a = k then vp_updL (σ.2 a) j v else σ.2 a)
def uc (σ : St) (k : Nat) (f : Nat → Int32) : St := (fun a => if a = k then f else σ.1 a, σ.2)
theorem u1_at (σ : St) (k j : Nat) (v : Int32) : (u1 σ k j v).1 k = upd (σ.1 k) j v := if_pos rfl
theorem u1_ne {σ : St} {k j : Nat} {v : Int32} {a : Nat} (h : a ≠ k) : (u1 σ k j v).1 a = σ.1 a := if_neg h
theorem u2_at (σ : St) (k j : Nat) (v : Int64) : (u2 σ k j v).2 k = vp_updL (σ.2 k) j v := if_pos rfl
theorem u2_ne {σ : St} {k j : Nat} {v : Int64} {a : Nat} (h : a ≠ k) : (u2 σ k j v).2 a = σ.2 a := if_neg h
theorem uc_at (σ : St) (k : Nat) (f : Nat → Int32) : (uc σ k f).1 k = f := if_pos rfl
theorem uc_ne {σ : St} {k : Nat} {f : Nat → Int32} {a : Nat} (h : a ≠ k) : (uc σ k f).1 a = σ.1 a := if_neg h
def rg (N : Nat) (en : En) (w : Wd) (σ : St) : va_W := (List.range N).map (fun k => (w.2.1 k, en w (σ.1 k) (σ.2 k) k))
def Aw (N : Nat) (w : Wd) : Nat → Prop := fun q => ∃ k : Nat, k < N ∧ q = w.2.1 k
def Ij (N : Nat) (w : Wd) : Prop := ∀ i j : Nat, i < N → j < N → w.2.1 i = w.2.1 j → i = j
def tyW (w : Wd) : List (ClassId × FieldType) := [(w.2.2 0, .int), (w.2.2 1, .byte), (w.2.2 2, .boolean), (w.2.2 3, .long), (w.2.2 4, .object "GlulxStrings$Job"), (w.2.2 5, .array .int)]
theorem rg_at {N : Nat} {en : En} {w : Wd} {σ : St} {k : Nat} (h : k < N) : (rg N en w σ)[k]? = some (w.2.1 k, en w (σ.1 k) (σ.2 k) k) := by simp [rg, h]
theorem rg_ate {N : Nat} {en : En} {w : Wd} {σ : St} {k : Nat} {e : va_E} (h : k < N) (he : en w (σ.1 k) (σ.2 k) k = e) : (rg N en w σ)[k]? = some (w.2.1 k, e) := by rw [rg_at h, he]
theorem rg_len {N : Nat} {en : En} {w : Wd} {σ : St} : (rg N en w σ).length = N := by simp [rg]
theorem rg_set {N : Nat} {en : En} {w : Wd} {σ σ1 : St} {k : Nat} {e : va_E} (h : k < N) (he : en w (σ1.1 k) (σ1.2 k) k = e) (h1 : ∀ j, j ≠ k → σ1.1 j = σ.1 j) (h2 : ∀ j, j ≠ k → σ1.2 j = σ.2 j) : (rg N en w σ).set k (w.2.1 k, e) = rg N en w σ1 := by
  apply List.ext_getElem?
  intro i
  by_cases hi : i = k
  · subst hi
    rw [List.getElem?_set_self (by rw [rg_len]; exact h), rg_at h, he]
  · rw [List.getElem?_set_ne (Ne.symm hi)]
    by_cases hN : i < N
    · rw [rg_at hN, rg_at hN, h1 i hi, h2 i hi]
    · rw [List.getElem?_eq_none (by rw [rg_len]; omega), List.getElem?_eq_none (by rw [rg_len]; omega)]
theorem rg_D {N : Nat} {en : En} {w : Wd} {σ : St} (hI : Ij N w) : va_D (Aw N w) (rg N en w σ) := by
  have key : ∀ (k : Nat) (q : Nat × va_E), (rg N en w σ)[k]? = some q → k < N ∧ q.1 = w.2.1 k := by
    intro k q h
    have hk : k < N := by
      have := (List.getElem?_eq_some_iff.mp h).1
      rwa [rg_len] at this
    rw [rg_at hk] at h
    cases h
    exact ⟨hk, rfl⟩
  refine ⟨fun i j x y hi hj hxy => ?_, fun k q hk => ?_⟩
  · obtain ⟨a1, a2⟩ := key i x hi
    obtain ⟨b1, b2⟩ := key j y hj
    exact hI i j a1 b1 (by rw [← a2, ← b2]; exact hxy)
  · obtain ⟨a1, a2⟩ := key k q hk
    exact ⟨k, a1, a2⟩
/-- the heap H is the world's picture of σ, and since the method's start only the world's cells were written -/
def Rr (N : Nat) (en : En) (w : Wd) (σ : St) (s : State) (H : Heap) (locs : List Loc) : Prop := va_P w.1 vwCl (rg N en w σ) H ∧ va_S (Aw N w) s.heap H locs
/-- the picture as a contract's world -/
def Rp (N : Nat) (en : En) (w : Wd) (σ : St) (U : State) : Prop := va_P w.1 vwCl (rg N en w σ) U.heap ∧ va_K w.1 vwCl (tyW w) U
theorem Rp.blind {N : Nat} {en : En} {w : Wd} {σ : St} {av : List Value} {X : State → Prop} (hX : ∀ (U U' : State), U'.heap = U.heap → U.vm.Alike U'.vm → X U → X U') : FrameBlind (va_Pc av (fun U => Rp N en w σ U ∧ X U)) := by
  intro a U g mk h
  obtain ⟨h1, ⟨h2, h3⟩, h4⟩ := h
  exact ⟨h1, ⟨h2, va_K.moved (u := U) (U := U.calling g mk a) (Vm.Alike.refl U.vm) h3⟩, hX U _ rfl (Vm.Alike.refl U.vm) h4⟩
/-- a loop: fuel, the state of the loop, the body that may go round again -/
def lpX {α : Type} (body : (α → St → Prop) → α → St → Prop) : Nat → α → St → Prop
  | 0 => fun _ _ => False
  | n + 1 => fun x σ => body (lpX body n) x σ
theorem Uin {c0 : Cond} {w : Cond} (h : w ∈ Uw) : w ∈ c0 :: Uw := List.mem_cons_of_mem _ h
theorem gU {c0 c1 : Cond} (h : c1 ∈ Uw) : GoodIn (c0 :: Uw) (c1 :: Uw) := by
  intro w hw
  have hm : w ∈ Uw := by
    rcases List.mem_cons.mp hw with e | e
    · rw [e]; exact h
    · exact e
  exact ⟨List.mem_cons_of_mem _ hm, good_of_word (Uw_good hm)⟩
theorem gUs {c0 : Cond} {l : List Cond} {ws : List Cond} (hl : ∀ w ∈ l, w ∈ Uw) (h : GoodIn (c0 :: Uw) ws) : GoodIn (c0 :: Uw) (l ++ ws) := by
  intro w hw
  rcases List.mem_append.mp hw with e | e
  · exact ⟨List.mem_cons_of_mem _ (hl w e), good_of_word (Uw_good (hl w e))⟩
  · exact h w e
theorem gV {c0 c1 : Cond} {own C : String} {idx : Nat} {y : MethodName} (h1 : Cond.methodLink own idx y ∈ Uw) (h2 : Cond.instanceMethod y ∈ Uw) (h3 : Cond.selects C y y ∈ Uw) (h4 : Cond.initialized C ∈ Uw) (hc : c1 ∈ Uw) : GoodIn (c0 :: Uw) (wsV own idx C y (c1 :: Uw)) :=
  gUs (by intro w hw; simp only [List.mem_cons, List.not_mem_nil, or_false] at hw; rcases hw with e | e | e | e <;> (rw [e]; assumption)) (gU hc)
section BASE
variable {p : Program} {l : Launch} {e : Env} {R : Room} {s : State} {m : MethodId} {args : Array Value} {below : List Frame} {meth : Method} {c : Code} {H : Heap} {locs : List Loc} {cells slots : Nat} {Q : State → Prop}
variable {cc : ByteArray} {pc : Nat} {ls : Array Slot} {rest : List Value} {N : Nat} {en : En} {w : Wd} {σ : St}
/-- a field is read -/
theorem q_get (hx : p.tables.exec = Jvm.exec) (hb : c.code = cc) {own ref C : String} {T : u_T} {NF ci index : Nat} {Ts : List Cond} (hts : ∀ w ∈ Ts, w.before args s = true) (hin : ∀ w ∈ u_ws C T NF, w ∈ Ts) (hown : s.vm.findClass own = some m.cls) (hK : va_K w.1 vwCl (tyW w) s) (hR : Rr N en w σ s H locs) {k : Nat} (hk : k < N) {fs : List Value} (he : en w (σ.1 k) (σ.2 k) k = .inr (ci, fs)) (hc : vwCl[ci]? = some (C, T, NF)) (j : Nat) (hj : j < NF) (hlink : Cond.fieldLink own index ref (T j).2.1 (T j).2.2.1 ∈ Ts) (hsame : (T j).1 = ref) {v : Value} (hv : fs[j]? = some v) (hdg : decode cc pc = .ok (.getfield index, 3))
    (kk : W p l e R s m args below meth c H locs cells slots Q (F0 m (pc + 3) ls (v :: rest))) : W p l e R s m args below meth c H locs cells slots Q (F0 m pc ls (.ref (w.2.1 k) :: rest)) :=
  va_get hx hb hts hin hown hK hR.1 k (rg_ate hk he) hc j hj (hts _ hlink) (fun x h => by rw [← hsame]; exact h) hv hdg kk
/-- a field of numbers is written -/
theorem q_put (hx : p.tables.exec = Jvm.exec) (hb : c.code = cc) {own ref C : String} {T : u_T} {NF ci index : Nat} {Ts : List Cond} (hts : ∀ w ∈ Ts, w.before args s = true) (hin : ∀ w ∈ u_ws C T NF, w ∈ Ts) (ty0 : Nat → FieldType) (hty : ∀ k, k < NF → parseFieldDescriptor (T k).2.2.1 = some (ty0 k)) (hnm : ∀ a, a < NF → ∀ b, b < NF → a ≠ b → (T a).2.1 ≠ (T b).2.1) (hown : s.vm.findClass own = some m.cls) (hK : va_K w.1 vwCl (tyW w) s) (hI : Ij N w) (hR : Rr N en w σ s H locs) {k : Nat} (hk : k < N) {fs : List Value} (he : en w (σ.1 k) (σ.2 k) k = .inr (ci, fs)) (hc : vwCl[ci]? = some (C, T, NF)) (j : Nat) (hj : j < NF) (hlink : Cond.fieldLink own index ref (T j).2.1 (T j).2.2.1 ∈ Ts) (hsame : (T j).1 = ref) (hfin : (T j).2.2.2 = false) {v : Value} (hn : narrow (ty0 j) v = v) (hfit : fits (ty0 j) v = true) (hl : j < fs.length)
    {σ1 : St} (he1 : en w (σ1.1 k) (σ1.2 k) k = .inr (ci, fs.set j v)) (h1 : ∀ j, j ≠ k → σ1.1 j = σ.1 j) (h2 : ∀ j, j ≠ k → σ1.2 j = σ.2 j)
    (hdg : decode cc pc = .ok (.putfield index, 3)) (kk : ∀ (H1 : Heap) (locs1 : List Loc), Rr N en w σ1 s H1 locs1 → W p l e R s m args below meth c H1 locs1 cells slots Q (F0 m (pc + 3) ls rest)) : W p l e R s m args below meth c H locs cells slots Q (F0 m pc ls (v :: .ref (w.2.1 k) :: rest)) :=
  va_put hx hb hts hin ty0 hty hnm hown hK hR.1 (rg_D hI) hR.2 k (rg_ate hk he) hc j hj (hts _ hlink) (fun x h => by rw [← hsame]; exact h) hfin (hty j hj) hn hfit hl hdg (fun H1 locs1 hP _ hS => kk H1 locs1 ⟨by rw [← rg_set hk he1 h1 h2]; exact hP, hS⟩)
/-- an element is read: ints, bytes, booleans, longs, references -/
theorem q_iald (hx : p.tables.exec = Jvm.exec) (hb : c.code = cc) (hK : va_K w.1 vwCl (tyW w) s) (hR : Rr N en w σ s H locs) {k : Nat} (hk : k < N) {n : Nat} (he : en w (σ.1 k) (σ.2 k) k = .inl (w.2.2 0, n, .inl (σ.1 k))) {i : Int32} (hin : vp_in i n) (hdg : decode cc pc = .ok (.iaload, 1))
    (kk : W p l e R s m args below meth c H locs cells slots Q (F0 m (pc + 1) ls (.int (σ.1 k i.toNatClampNeg) :: rest))) : W p l e R s m args below meth c H locs cells slots Q (F0 m pc ls (.int i :: .ref (w.2.1 k) :: rest)) :=
  va_iald hx hb hK hR.1 k 0 (rg_ate hk he) rfl hin hdg kk
theorem q_bald (hx : p.tables.exec = Jvm.exec) (hb : c.code = cc) (hK : va_K w.1 vwCl (tyW w) s) (hR : Rr N en w σ s H locs) {k : Nat} (hk : k < N) {n : Nat} (he : en w (σ.1 k) (σ.2 k) k = .inl (w.2.2 1, n, .inl (σ.1 k))) {i : Int32} (hin : vp_in i n) (hdg : decode cc pc = .ok (.baload, 1))
    (kk : W p l e R s m args below meth c H locs cells slots Q (F0 m (pc + 1) ls (.int (σ.1 k i.toNatClampNeg) :: rest))) : W p l e R s m args below meth c H locs cells slots Q (F0 m pc ls (.int i :: .ref (w.2.1 k) :: rest)) :=
  va_bald hx hb hK hR.1 k 1 (rg_ate hk he) rfl hin hdg kk
theorem q_zald (hx : p.tables.exec = Jvm.exec) (hb : c.code = cc) (hK : va_K w.1 vwCl (tyW w) s) (hR : Rr N en w σ s H locs) {k : Nat} (hk : k < N) {n : Nat} (he : en w (σ.1 k) (σ.2 k) k = .inl (w.2.2 2, n, .inl (σ.1 k))) {i : Int32} (hin : vp_in i n) (hdg : decode cc pc = .ok (.baload, 1))
    (kk : W p l e R s m args below meth c H locs cells slots Q (F0 m (pc + 1) ls (.int (σ.1 k i.toNatClampNeg) :: rest))) : W p l e R s m args below meth c H locs cells slots Q (F0 m pc ls (.int i :: .ref (w.2.1 k) :: rest)) :=
  va_zald hx hb hK hR.1 k 2 (rg_ate hk he) rfl hin hdg kk
theorem q_lald (hx : p.tables.exec = Jvm.exec) (hb : c.code = cc) (hK : va_K w.1 vwCl (tyW w) s) (hR : Rr N en w σ s H locs) {k : Nat} (hk : k < N) {n : Nat} (he : en w (σ.1 k) (σ.2 k) k = .inl (w.2.2 3, n, .inr (.inl (σ.2 k)))) {i : Int32} (hin : vp_in i n) (hdg : decode cc pc = .ok (.laload, 1))
    (kk : W p l e R s m args below meth c H locs cells slots Q (F0 m (pc + 1) ls (.long (σ.2 k i.toNatClampNeg) :: rest))) : W p l e R s m args below meth c H locs cells slots Q (F0 m pc ls (.int i :: .ref (w.2.1 k) :: rest)) :=
  va_lald hx hb hK hR.1 k 3 (rg_ate hk he) rfl hin hdg kk
/-- an element of a row of references: rows and objects that lie side by side from the cell k0 on -/
theorem q_aald (hx : p.tables.exec = Jvm.exec) (hb : c.code = cc) (hK : va_K w.1 vwCl (tyW w) s) (hR : Rr N en w σ s H locs) {k : Nat} (hk : k < N) (t0 : Nat) {ty : FieldType} (ht : (tyW w)[t0]? = some (w.2.2 t0, ty)) (hty : ty.isReference = true) {n k0 : Nat} (he : en w (σ.1 k) (σ.2 k) k = .inl (w.2.2 t0, n, .inr (.inr (.inr (.inr (fun i => if i < n then some (w.2.1 (k0 + i)) else none)))))) {i : Int32} (hin : vp_in i n) (hdg : decode cc pc = .ok (.aaload, 1))
    (kk : W p l e R s m args below meth c H locs cells slots Q (F0 m (pc + 1) ls (.ref (w.2.1 (k0 + i.toNatClampNeg)) :: rest))) : W p l e R s m args below meth c H locs cells slots Q (F0 m pc ls (.int i :: .ref (w.2.1 k) :: rest)) := by
  have hlt : i.toNatClampNeg < n := Nat.not_le.mp fun q => hin (Or.inr q)
  refine W.aald (v := .ref (w.2.1 (k0 + i.toNatClampNeg))) (ty := ty) hx hb (hR.1 k _ (rg_ate hk he)) ((hK.2 t0 _ ht).1 n (fun j => va_rf (if j < n then some (w.2.1 (k0 + j)) else none))) hty (fun q => by cases q) (by show ¬ (i < 0 ∨ (arrV _ _ _).slots.size ≤ _); rw [arrV_size]; exact hin) (by show (arrV _ _ _).slots[_]? = _; rw [arrV_read _ _ hlt]; simp [va_rf, hlt]) rfl rfl hdg kk
/-- an element is written -/
theorem q_iast (hx : p.tables.exec = Jvm.exec) (hb : c.code = cc) (hK : va_K w.1 vwCl (tyW w) s) (hI : Ij N w) (hR : Rr N en w σ s H locs) {k : Nat} (hk : k < N) {n : Nat} (he : ∀ f, en w f (σ.2 k) k = .inl (w.2.2 0, n, .inl f)) {i x : Int32} (hin : vp_in i n) (hdg : decode cc pc = .ok (.iastore, 1))
    (kk : ∀ (H1 : Heap) (locs1 : List Loc) (σ1 : St), σ1 = u1 σ k i.toNatClampNeg x → Rr N en w σ1 s H1 locs1 → W p l e R s m args below meth c H1 locs1 cells slots Q (F0 m (pc + 1) ls rest)) : W p l e R s m args below meth c H locs cells slots Q (F0 m pc ls (.int x :: .int i :: .ref (w.2.1 k) :: rest)) :=
  va_iast hx hb hK hR.1 (rg_D hI) hR.2 k 0 (rg_ate hk (he _)) rfl hin hdg (fun H1 locs1 hP _ hS => kk H1 locs1 _ rfl ⟨by rw [rg_set (σ := σ) (σ1 := u1 σ k i.toNatClampNeg x) (e := .inl (w.2.2 0, n, .inl (upd (σ.1 k) i.toNatClampNeg x))) hk (by rw [u1_at]; exact he _) (fun j hj => u1_ne hj) (fun _ _ => rfl)] at hP; exact hP, hS⟩)
theorem q_bast (hx : p.tables.exec = Jvm.exec) (hb : c.code = cc) (hK : va_K w.1 vwCl (tyW w) s) (hI : Ij N w) (hR : Rr N en w σ s H locs) {k : Nat} (hk : k < N) {n : Nat} (he : ∀ f, en w f (σ.2 k) k = .inl (w.2.2 1, n, .inl f)) {i x : Int32} (hin : vp_in i n) (hdg : decode cc pc = .ok (.bastore, 1))
    (kk : ∀ (H1 : Heap) (locs1 : List Loc) (σ1 : St), σ1 = u1 σ k i.toNatClampNeg (vp_nar .byte x) → Rr N en w σ1 s H1 locs1 → W p l e R s m args below meth c H1 locs1 cells slots Q (F0 m (pc + 1) ls rest)) : W p l e R s m args below meth c H locs cells slots Q (F0 m pc ls (.int x :: .int i :: .ref (w.2.1 k) :: rest)) :=
  va_bast hx hb hK hR.1 (rg_D hI) hR.2 k 1 (rg_ate hk (he _)) rfl hin hdg (fun H1 locs1 hP _ hS => kk H1 locs1 _ rfl ⟨by rw [rg_set (σ := σ) (σ1 := u1 σ k i.toNatClampNeg (vp_nar .byte x)) (e := .inl (w.2.2 1, n, .inl (upd (σ.1 k) i.toNatClampNeg (vp_nar .byte x)))) hk (by rw [u1_at]; exact he _) (fun j hj => u1_ne hj) (fun _ _ => rfl)] at hP; exact hP, hS⟩)
theorem q_zast (hx : p.tables.exec = Jvm.exec) (hb : c.code = cc) (hK : va_K w.1 vwCl (tyW w) s) (hI : Ij N w) (hR : Rr N en w σ s H locs) {k : Nat} (hk : k < N) {n : Nat} (he : ∀ f, en w f (σ.2 k) k = .inl (w.2.2 2, n, .inl f)) {i x : Int32} (hin : vp_in i n) (hdg : decode cc pc = .ok (.bastore, 1))
    (kk : ∀ (H1 : Heap) (locs1 : List Loc) (σ1 : St), σ1 = u1 σ k i.toNatClampNeg (vp_nar .boolean x) → Rr N en w σ1 s H1 locs1 → W p l e R s m args below meth c H1 locs1 cells slots Q (F0 m (pc + 1) ls rest)) : W p l e R s m args below meth c H locs cells slots Q (F0 m pc ls (.int x :: .int i :: .ref (w.2.1 k) :: rest)) :=
  va_zast hx hb hK hR.1 (rg_D hI) hR.2 k 2 (rg_ate hk (he _)) rfl hin hdg (fun H1 locs1 hP _ hS => kk H1 locs1 _ rfl ⟨by rw [rg_set (σ := σ) (σ1 := u1 σ k i.toNatClampNeg (vp_nar .boolean x)) (e := .inl (w.2.2 2, n, .inl (upd (σ.1 k) i.toNatClampNeg (vp_nar .boolean x)))) hk (by rw [u1_at]; exact he _) (fun j hj => u1_ne hj) (fun _ _ => rfl)] at hP; exact hP, hS⟩)
theorem q_last (hx : p.tables.exec = Jvm.exec) (hb : c.code = cc) (hK : va_K w.1 vwCl (tyW w) s) (hI : Ij N w) (hR : Rr N en w σ s H locs) {k : Nat} (hk : k < N) {n : Nat} (he : ∀ f, en w (σ.1 k) f k = .inl (w.2.2 3, n, .inr (.inl f))) {i : Int32} {x : Int64} (hin : vp_in i n) (hdg : decode cc pc = .ok (.lastore, 1))
    (kk : ∀ (H1 : Heap) (locs1 : List Loc) (σ1 : St), σ1 = u2 σ k i.toNatClampNeg x → Rr N en w σ1 s H1 locs1 → W p l e R s m args below meth c H1 locs1 cells slots Q (F0 m (pc + 1) ls rest)) : W p l e R s m args below meth c H locs cells slots Q (F0 m pc ls (.long x :: .int i :: .ref (w.2.1 k) :: rest)) :=
  va_last hx hb hK hR.1 (rg_D hI) hR.2 k 3 (rg_ate hk (he _)) rfl hin hdg (fun H1 locs1 hP _ hS => kk H1 locs1 _ rfl ⟨by rw [rg_set (σ := σ) (σ1 := u2 σ k i.toNatClampNeg x) (e := .inl (w.2.2 3, n, .inr (.inl (vp_updL (σ.2 k) i.toNatClampNeg x)))) hk (by rw [u2_at]; exact he _) (fun _ _ => rfl) (fun j hj => u2_ne hj)] at hP; exact hP, hS⟩)
end BASE
def Cx (N : Nat) (w : Wd) (X : State → Prop) (cc : ByteArray) (nL : Nat) (own : String) (c0 : Cond) (ret : Option FieldType) (p : Program) (s : State) (m : MethodId) (args : Array Value) (meth : Method) (c : Code) : Prop :=
  p.tables.exec = Jvm.exec ∧ c.code = cc ∧ c.maxLocals = nL ∧ s.vm.findClass own = some m.cls ∧ (∀ w ∈ c0 :: Uw, w.before args s = true) ∧ meth.sig.returnType = ret ∧ meth.locks = false ∧ va_K w.1 vwCl (tyW w) s ∧ Ij N w ∧ X s
/-- what X says stays, where the world's cells alone were written -/
def XP (N : Nat) (w : Wd) (X : State → Prop) : Prop := ∀ u U : State, u.heap.size ≤ U.heap.size → (∀ q : Nat, q < u.heap.size → ¬ Aw N w q → U.heap[q]? = u.heap[q]?) → u.vm.Alike U.vm → X u → X U
theorem q_met {l : Launch} {y : MethodName} {cc : ByteArray} {maxL : Nat} {ret : Option FieldType} {rm : Room} {N : Nat} {en : En} {w : Wd} {X : State → Prop} {σ : St} {av : List Value} {Qc : Array Value → State → Outcome → State → Prop} (hy : plainName y.cls = true) (hlen : (lg_sl av).length ≤ maxL) (hI : Ij N w)
    (body : ∀ (p : Program) (e : Env) (s : State) (m : MethodId) (below : List Frame) (meth : Method) (c : Code) (ls : Array Slot), Cx N w X cc maxL y.cls (.code y cc maxL ret) ret p s m av.toArray meth c → lv_has ls maxL (lv_args 0 av) → Rr N en w σ s s.heap [] → W p l e rm s m av.toArray below meth c s.heap [] 0 0 (MQ below Qc av.toArray s 0 0 (Aw N w)) (F0 m 0 ls [])) :
    Met l y (.code y cc maxL ret :: Uw) rm (va_Pc av (fun U => Rp N en w σ U ∧ X U)) Qc 0 0 (Aw N w) := by
  refine Met.ofW (cc := cc) (maxL := maxL) (ret := ret) hy rfl ?_
  intro p e s m args below meth c s₁ B hml hv
  obtain ⟨rfl, ⟨hP, hK⟩, hX⟩ := hv
  have hl := lv_entry av (n := maxL) hlen
  rw [lg_entry_eq]
  exact body p e s m below meth c _ ⟨B.exec, B.bytes, hml, findClass_of_methodNamed B.named, atoms_spec (ws := Cond.code y cc maxL ret :: Uw) B.pre, B.returns, B.notSynchronized, hK, hI, hX⟩ hl ⟨hP, va_S.rf⟩
def Ck (y : MethodName) (bytes : ByteArray) (maxL : Nat) (ret : Option FieldType) (n : Nat) : Prop := Cond.code y bytes maxL ret ∈ Uw ∧ Cond.initialized y.cls ∈ Uw ∧ y.cls ≠ "java/lang/invoke/MethodHandle" ∧ y.cls ≠ "java/lang/invoke/VarHandle" ∧ (parseMethodDescriptor y.desc).map (fun d => d.parameters.length) = some n
def Cv (y : MethodName) : Prop := Cond.instanceMethod y ∈ Uw ∧ Cond.selects y.cls y y ∈ Uw
def Rc (N : Nat) (en : En) (w : Wd) (k : Nat) (C : String) : Prop := k < N ∧ ∀ (f : Nat → Int32) (g : Nat → Int64), ∃ (ci : Nat) (fs : List Value) (q : vw_C), en w f g k = .inr (ci, fs) ∧ vwCl[ci]? = some q ∧ q.1 = C
def Rm (rm R : Room) (maxL : Nat) : Prop := rm.cells = 0 ∧ rm.slots = 0 ∧ rm.frames + 1 ≤ R.frames ∧ 8 + (maxL + 11) + rm.locals ≤ R.locals
theorem Cx.pre {N : Nat} {en : En} {w : Wd} {X : State → Prop} {σ : St} {s : State} {H : Heap} {locs : List Loc} {av : List Value} (hXP : XP N w X) (hX : X s) (hK : va_K w.1 vwCl (tyW w) s) (hR : Rr N en w σ s H locs) : ∀ U : State, U.heap = H → s.WarmedH U.vm → va_Pc av (fun U => Rp N en w σ U ∧ X U) av.toArray U :=
  fun U hU hW => ⟨rfl, ⟨by rw [hU]; exact hR.1, va_K.moved hW.alike hK⟩, hXP s U (by rw [hU]; exact hR.2.1) (fun q h1 h2 => by rw [hU]; exact hR.2.2.1 q h1 h2) hW.alike hX⟩
theorem XP.blind {N : Nat} {en : En} {w : Wd} {X : State → Prop} {σ : St} {av : List Value} (hXP : XP N w X) : FrameBlind (va_Pc av (fun U => Rp N en w σ U ∧ X U)) :=
  Rp.blind (fun U U' h1 h2 hx => hXP U U' (by rw [h1]; exact Nat.le_refl _) (fun q _ _ => by rw [h1]) h2 hx)
section BASE2
variable {p : Program} {l : Launch} {e : Env} {R : Room} {s : State} {m : MethodId} {args : Array Value} {below : List Frame} {meth : Method} {c : Code} {H : Heap} {locs : List Loc} {Q : State → Prop}
variable {cc : ByteArray} {pc : Nat} {ls : Array Slot} {rest st0 : List Value} {N : Nat} {en : En} {w : Wd} {σ : St} {X : State → Prop}
variable {nL : Nat} {own : String} {c0 : Cond} {ret0 : Option FieldType}
theorem q_iret {Qr : Int32 → St → Prop} (E : Cx N w X cc nL own c0 (some .int) p s m args meth c) (hR : Rr N en w σ s H locs) {v : Int32} (hq : Qr v σ) (hdg : decode cc pc = .ok (.ireturn, 1)) :
    W p l e R s m args below meth c H locs 0 0 (MQ below (va_Qi Qr (Rp N en w) (Aw N w)) args s 0 0 (Aw N w)) (F0 m pc ls [.int v]) :=
  W.iret E.1 E.2.1 E.2.2.2.2.2.1 (fun t ht hW => ⟨⟨v, σ, rfl, hq, by rw [ht]; exact hR.1, va_K.moved hW.alike E.2.2.2.2.2.2.2.1⟩, hR.2.F ht⟩) hR.2.2.2 hdg E.2.2.2.2.2.2.1
theorem q_zret {Qr : Int32 → St → Prop} (E : Cx N w X cc nL own c0 (some .boolean) p s m args meth c) (hR : Rr N en w σ s H locs) {v : Int32} (hq : Qr v σ) (hn : narrow .boolean (.int v) = .int v) (hdg : decode cc pc = .ok (.ireturn, 1)) :
    W p l e R s m args below meth c H locs 0 0 (MQ below (va_Qi Qr (Rp N en w) (Aw N w)) args s 0 0 (Aw N w)) (F0 m pc ls [.int v]) :=
  W.zret E.1 E.2.1 E.2.2.2.2.2.1 hn (fun t ht hW => ⟨⟨v, σ, rfl, hq, by rw [ht]; exact hR.1, va_K.moved hW.alike E.2.2.2.2.2.2.2.1⟩, hR.2.F ht⟩) hR.2.2.2 hdg E.2.2.2.2.2.2.1
theorem q_lret {Qr : Int64 → St → Prop} (E : Cx N w X cc nL own c0 (some .long) p s m args meth c) (hR : Rr N en w σ s H locs) {v : Int64} (hq : Qr v σ) (hdg : decode cc pc = .ok (.lreturn, 1)) :
    W p l e R s m args below meth c H locs 0 0 (MQ below (va_Ql Qr (Rp N en w) (Aw N w)) args s 0 0 (Aw N w)) (F0 m pc ls [.long v]) :=
  W.lret E.1 E.2.1 E.2.2.2.2.2.1 (fun t ht hW => ⟨⟨v, σ, rfl, hq, by rw [ht]; exact hR.1, va_K.moved hW.alike E.2.2.2.2.2.2.2.1⟩, hR.2.F ht⟩) hR.2.2.2 hdg E.2.2.2.2.2.2.1
theorem q_vret {Qr : St → Prop} (E : Cx N w X cc nL own c0 none p s m args meth c) (hR : Rr N en w σ s H locs) (hq : Qr σ) (hdg : decode cc pc = .ok (.return_, 1)) :
    W p l e R s m args below meth c H locs 0 0 (MQ below (va_Qv Qr (Rp N en w) (Aw N w)) args s 0 0 (Aw N w)) (F0 m pc ls []) :=
  W.vret E.1 E.2.1 E.2.2.2.2.2.1 (fun t ht hW => ⟨⟨σ, rfl, hq, by rw [ht]; exact hR.1, va_K.moved hW.alike E.2.2.2.2.2.2.2.1⟩, hR.2.F ht⟩) hR.2.2.2 hdg E.2.2.2.2.2.2.1
variable {y : MethodName} {bytes : ByteArray} {maxL n index k : Nat} {ret : Option FieldType} {rm : Room}
theorem q_rV {Qc : Array Value → State → Outcome → State → Prop} (E : Cx N w X cc nL own c0 ret0 p s m args meth c) (hXP : XP N w X) {As : List Value} (hM : Met l y (.code y bytes maxL ret :: Uw) rm (va_Pc (.ref (w.2.1 k) :: As) (fun U => Rp N en w σ U ∧ X U)) Qc 0 0 (Aw N w)) (hk : Ck y bytes maxL ret n) (hv : Cv y) (hlink : Cond.methodLink own index y ∈ Uw) (hrm : Rm rm R maxL) (hR : Rr N en w σ s H locs) (hc : Rc N en w k y.cls) (hn : As.length = n) (hsize : ls.size = nL) (hst : st0 = As.reverse ++ .ref (w.2.1 k) :: rest) (hroom : (rest.map fun v => v.category).sum ≤ 8) (hdg : decode cc pc = .ok (.invokevirtual index, 3)) :
    va_Run p l e R s m args below meth c H locs 0 0 0 0 (F0 m pc ls st0) rest (Qc (Value.ref (w.2.1 k) :: As).toArray) (Aw N w) := by
  obtain ⟨hx, hb, hml, hown, hts, -, -, hK, hI, hX⟩ := E
  obtain ⟨hcode, hini, hd⟩ := hk
  obtain ⟨hkN, hc⟩ := hc
  obtain ⟨ci, fs, q, he, hq, hqC⟩ := hc (σ.1 k) (σ.2 k)
  have hrecv := va_recv hK hR.1 hq (rg_ate hkN he)
  rw [hqC] at hrecv
  exact va_runV (As := As) (rest := rest) ⟨hx, hb, hml, hown, hts⟩ hM ⟨callB_of n hts (gU hcode) rfl hrm.1 hrm.2.1 (hts _ (Uin hini)) (hts _ (Uin hlink)) hd ⟨hrm.2.2.1, hrm.2.2.2⟩, hts _ (Uin hv.1), hts _ (Uin hv.2)⟩ ⟨hXP.blind, hrecv, Cx.pre hXP hX hK hR⟩ rfl hn hsize hst (lv_room hroom) hdg ⟨Nat.zero_le _, Nat.zero_le _⟩
theorem q_rS {Qc : Array Value → State → Outcome → State → Prop} (E : Cx N w X cc nL own c0 ret0 p s m args meth c) (hXP : XP N w X) {As : List Value} (hM : Met l y (.code y bytes maxL ret :: Uw) rm (va_Pc As (fun U => Rp N en w σ U ∧ X U)) Qc 0 0 (Aw N w)) (hk : Ck y bytes maxL ret n) (hv : Cond.static y ∈ Uw) (hlink : Cond.methodLink own index y ∈ Uw) (hrm : Rm rm R maxL) (hR : Rr N en w σ s H locs) (hn : As.length = n) (hsize : ls.size = nL) (hst : st0 = As.reverse ++ rest) (hroom : (rest.map fun v => v.category).sum ≤ 8) (hdg : decode cc pc = .ok (.invokestatic index, 3)) :
    va_Run p l e R s m args below meth c H locs 0 0 0 0 (F0 m pc ls st0) rest (Qc As.toArray) (Aw N w) := by
  obtain ⟨hx, hb, hml, hown, hts, -, -, hK, hI, hX⟩ := E
  obtain ⟨hcode, hini, hd⟩ := hk
  exact va_runS (As := As) (rest := rest) ⟨hx, hb, hml, hown, hts⟩ hM ⟨callB_of n hts (gU hcode) rfl hrm.1 hrm.2.1 (hts _ (Uin hini)) (hts _ (Uin hlink)) hd ⟨hrm.2.2.1, hrm.2.2.2⟩, hts _ (Uin hv)⟩ ⟨hXP.blind, Cx.pre hXP hX hK hR⟩ rfl hn hsize hst (lv_room hroom) hdg ⟨Nat.zero_le _, Nat.zero_le _⟩
theorem q_ci {Qr : Int32 → St → Prop} {a : Array Value} (hR : Rr N en w σ s H locs) (hr : va_Run p l e R s m args below meth c H locs 0 0 0 0 (F0 m pc ls st0) rest (va_Qi Qr (Rp N en w) (Aw N w) a) (Aw N w)) (kk : ∀ (r : Int32) (σ1 : St) (H1 : Heap) (locs1 : List Loc), Qr r σ1 → Rr N en w σ1 s H1 locs1 → W p l e R s m args below meth c H1 locs1 0 0 Q (F0 m (pc + 3) ls (.int r :: rest))) : W p l e R s m args below meth c H locs 0 0 Q (F0 m pc ls st0) :=
  va_calli hr hR.2 (fun _ _ h => h) (fun _ h => h) (fun r u t H1 locs1 ht _ hp hB _ _ hS => kk r u H1 locs1 hp ⟨by rw [← ht]; exact hB.1, hS⟩)
theorem q_cl {Qr : Int64 → St → Prop} {a : Array Value} (hR : Rr N en w σ s H locs) (hr : va_Run p l e R s m args below meth c H locs 0 0 0 0 (F0 m pc ls st0) rest (va_Ql Qr (Rp N en w) (Aw N w) a) (Aw N w)) (kk : ∀ (r : Int64) (σ1 : St) (H1 : Heap) (locs1 : List Loc), Qr r σ1 → Rr N en w σ1 s H1 locs1 → W p l e R s m args below meth c H1 locs1 0 0 Q (F0 m (pc + 3) ls (.long r :: rest))) : W p l e R s m args below meth c H locs 0 0 Q (F0 m pc ls st0) :=
  va_calll hr hR.2 (fun _ _ h => h) (fun _ h => h) (fun r u t H1 locs1 ht _ hp hB _ _ hS => kk r u H1 locs1 hp ⟨by rw [← ht]; exact hB.1, hS⟩)
theorem q_cv {Qr : St → Prop} {a : Array Value} (hR : Rr N en w σ s H locs) (hr : va_Run p l e R s m args below meth c H locs 0 0 0 0 (F0 m pc ls st0) rest (va_Qv Qr (Rp N en w) (Aw N w) a) (Aw N w)) (kk : ∀ (σ1 : St) (H1 : Heap) (locs1 : List Loc), Qr σ1 → Rr N en w σ1 s H1 locs1 → W p l e R s m args below meth c H1 locs1 0 0 Q (F0 m (pc + 3) ls rest)) : W p l e R s m args below meth c H locs 0 0 Q (F0 m pc ls st0) :=
  va_callv hr hR.2 (fun _ _ h => h) (fun _ h => h) (fun u t H1 locs1 ht _ hp hB _ _ hS => kk u H1 locs1 hp ⟨by rw [← ht]; exact hB.1, hS⟩)
-- two longs compared, and the branch on it
theorem lc_lt (x y : Int64) : lg_cmp x y < 0 ↔ x < y := by
  unfold lg_cmp
  by_cases h1 : y < x
  · simp [h1]; simp only [Int64.lt_iff_toInt_lt, Int64.le_iff_toInt_le] at *; omega
  · by_cases h2 : x = y
    · subst h2; simp
    · simp [h1, h2]
      have : x.toInt ≠ y.toInt := fun q => h2 (Int64.toInt_inj.mp q)
      simp only [Int64.lt_iff_toInt_lt] at *; omega
theorem lc_gt (x y : Int64) : 0 < lg_cmp x y ↔ y < x := by
  unfold lg_cmp
  by_cases h1 : y < x
  · simp [h1]
  · by_cases h2 : x = y
    · subst h2; simp
    · simp [h1, h2]
theorem lc_le (x y : Int64) : lg_cmp x y ≤ 0 ↔ x ≤ y := by
  have h := lc_gt x y
  rw [← Int32.not_lt, h, Int64.not_lt]
theorem lc_ge (x y : Int64) : 0 ≤ lg_cmp x y ↔ y ≤ x := by
  have h := lc_lt x y
  rw [← Int32.not_lt, h, Int64.not_lt]
theorem lc_eq (x y : Int64) : lg_cmp x y = 0 ↔ x = y := by
  unfold lg_cmp
  by_cases h1 : y < x
  · simp [h1]; intro h; subst h; exact absurd h1 Int64.lt_irrefl
  · by_cases h2 : x = y
    · subst h2; simp
    · simp [h1, h2]
end BASE2
def lo0 (body : (St → Prop) → St → Prop) : Nat → St → Prop
  | 0 => fun _ => False
  | n + 1 => fun σ => body (lo0 body n) σ
def lo1 {A : Type} (body : (A → St → Prop) → A → St → Prop) : Nat → A → St → Prop
  | 0 => fun _ _ => False
  | n + 1 => fun a σ => body (lo1 body n) a σ
def lo2 {A B : Type} (body : (A → B → St → Prop) → A → B → St → Prop) : Nat → A → B → St → Prop
  | 0 => fun _ _ _ => False
  | n + 1 => fun a b σ => body (lo2 body n) a b σ
def lo3 {A B C : Type} (body : (A → B → C → St → Prop) → A → B → C → St → Prop) : Nat → A → B → C → St → Prop
  | 0 => fun _ _ _ _ => False
  | n + 1 => fun a b c σ => body (lo3 body n) a b c σ
def lo4 {A B C D : Type} (body : (A → B → C → D → St → Prop) → A → B → C → D → St → Prop) : Nat → A → B → C → D → St → Prop
  | 0 => fun _ _ _ _ _ => False
  | n + 1 => fun a b c d σ => body (lo4 body n) a b c d σ
theorem ne_i {x v : Int32} {n : Int} (hv : v.toInt = n) (h : ¬ x = v) : ¬ x.toInt = n := fun q => h (Int32.toInt_inj.mp (q.trans hv.symm))
