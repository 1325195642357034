/-- both worlds in the law's heap -/
def Rl (w1 w2 : Wd) (σ1 σ2 : St) (s : State) (H : Heap) (locs : List Loc) : Prop := va_P w1.1 vwCl (rg 223 ev1 w1 σ1) H ∧ va_P w2.1 vwCl (rg 38 ev2 w2 σ2) H ∧ va_S (An s.heap.size) s.heap H locs
def Lx (w1 w2 : Wd) (b L : Nat) (xs : Nat → Int32) (p : Program) (s : State) (m : MethodId) (args : Array Value) (meth : Method) (c : Code) : Prop :=
  p.tables.exec = Jvm.exec ∧ c.code = code ∧ c.maxLocals = 4 ∧ s.vm.findClass R_law = some m.cls ∧ (∀ w ∈ Uw, w.before args s = true) ∧ va_X b L xs s s.heap ∧ b < s.heap.size ∧ va_K w1.1 vwCl (tyW w1) s ∧ va_K w2.1 vwCl (tyW w2) s ∧ X1 w1 s ∧ (∀ q : Nat, Aw 223 w1 q → s.heap.size ≤ q) ∧ (∀ q : Nat, Aw 38 w2 q → s.heap.size ≤ q) ∧ (∀ q : Nat, Aw 223 w1 q → ¬ Aw 38 w2 q) ∧ Ij 223 w1 ∧ Ij 38 w2
theorem rg_in {N : Nat} {en : En} {w : Wd} {σ : St} {k : Nat} {q : Nat × va_E} (h : (rg N en w σ)[k]? = some q) : Aw N w q.1 := by
  have hk : k < N := by
    have := (List.getElem?_eq_some_iff.mp h).1
    rwa [rg_len] at this
  rw [rg_at hk] at h
  cases h
  exact ⟨k, hk, rfl⟩
section LAWC
variable {p : Program} {l : Launch} {e : Env} {R : Room} {s : State} {m : MethodId} {args : Array Value} {below : List Frame} {meth : Method} {c : Code} {H : Heap} {locs : List Loc} {cells slots : Nat} {Q : State → Prop}
variable {pc : Nat} {ls : Array Slot} {rest st0 : List Value} {w1 w2 : Wd} {σ1 σ2 : St} {b L : Nat} {xs : Nat → Int32}
theorem l1_call (E : Lx w1 w2 b L xs p s m args meth c) (hR : Rl w1 w2 σ1 σ2 s H locs) {Qr : Int32 → St → Prop} {As : List Value} {y : MethodName} {bytes : ByteArray} {maxL n index : Nat} {rm : Room} (hM : Met l y (.code y bytes maxL (some .int) :: Uw) rm (va_Pc (.ref (w1.2.1 0) :: As) (fun U => Rp 223 ev1 w1 σ1 U ∧ X1 w1 U)) (va_Qi Qr (Rp 223 ev1 w1) (Aw 223 w1)) 0 0 (Aw 223 w1)) (hk : Ck y bytes maxL (some .int) n) (hv : Cv y) (hlink : Cond.methodLink R_law index y ∈ Uw) (hrm : Rm rm R maxL) (hc : y.cls = RX11) (hn : As.length = n) (hsize : ls.size = 4) (hst : st0 = As.reverse ++ .ref (w1.2.1 0) :: rest) (hroom : (rest.map fun v => v.category).sum ≤ 8) (hdg : decode code pc = .ok (.invokevirtual index, 3)) (hf : cells ≤ R.cells ∧ slots ≤ R.slots)
    (kk : ∀ (r : Int32) (τ : St) (H1 : Heap) (locs1 : List Loc), Qr r τ → Rl w1 w2 τ σ2 s H1 locs1 → W p l e R s m args below meth c H1 locs1 cells slots Q (F0 m (pc + 3) ls (.int r :: rest))) : W p l e R s m args below meth c H locs cells slots Q (F0 m pc ls st0) := by
  obtain ⟨hx, hb, hml, hown, hts, hX0, hbl, hK1, hK2, hX1, hA1, hA2, hdis, hI1, hI2⟩ := E
  obtain ⟨hP1, hP2, hS⟩ := hR
  obtain ⟨hcode, hini, hd⟩ := hk
  have hrecv := va_recv hK1 hP1 (show vwCl[10]? = some (RX11, TX11, 8) from rfl) (rg_ate (k := 0) (by decide) rfl)
  rw [show ((RX11, TX11, 8) : vw_C).1 = y.cls from hc.symm] at hrecv
  have hpre : ∀ U : State, U.heap = H → s.WarmedH U.vm → va_Pc (.ref (w1.2.1 0) :: As) (fun U => Rp 223 ev1 w1 σ1 U ∧ X1 w1 U) (Value.ref (w1.2.1 0) :: As).toArray U := fun U hU hW => ⟨rfl, ⟨by rw [hU]; exact hP1, va_K.moved hW.alike hK1⟩, xp1 w1 s U (by rw [hU]; exact hS.1) (fun q h1 h2 => by rw [hU]; exact hS.2.1 q h1 (fun z => absurd h1 (Nat.not_lt.mpr z))) hW.alike hX1⟩
  have hr := va_runV (As := As) (rest := rest) (locs := locs) (cells := cells) (slots := slots) (e := e) (R := R) (below := below) (meth := meth) (g := F0 m pc ls st0) ⟨hx, hb, hml, hown, hts⟩ hM ⟨callB_of n hts (gUU hcode) rfl hrm.1 hrm.2.1 (hts _ hini) (hts _ hlink) hd ⟨hrm.2.2.1, hrm.2.2.2⟩, hts _ hv.1, hts _ hv.2⟩ ⟨(xp1 w1).blind, hrecv, hpre⟩ rfl hn hsize hst (lv_room hroom) hdg hf
  refine va_calli hr hS (fun q _ h => hA1 q h) (fun q h => hA1 q h) (fun r u t H1 locs1 ht _ hp hB hz hk hS1 => ?_)
  exact kk r u H1 locs1 hp ⟨by rw [← ht]; exact hB.1, hP2.kept (fun k q hq => hk q.1 ((hP2 k q hq).lt) (fun z => hdis _ z (rg_in hq))), hS1⟩
theorem l2_call (E : Lx w1 w2 b L xs p s m args meth c) (hR : Rl w1 w2 σ1 σ2 s H locs) {Qr : Int32 → St → Prop} {As : List Value} {y : MethodName} {bytes : ByteArray} {maxL n index : Nat} {rm : Room} (hM : Met l y (.code y bytes maxL (some .int) :: Uw) rm (va_Pc (.ref (w2.2.1 0) :: As) (fun U => Rp 38 ev2 w2 σ2 U ∧ X2 U)) (va_Qi Qr (Rp 38 ev2 w2) (Aw 38 w2)) 0 0 (Aw 38 w2)) (hk : Ck y bytes maxL (some .int) n) (hv : Cv y) (hlink : Cond.methodLink R_law index y ∈ Uw) (hrm : Rm rm R maxL) (hc : y.cls = RX12) (hn : As.length = n) (hsize : ls.size = 4) (hst : st0 = As.reverse ++ .ref (w2.2.1 0) :: rest) (hroom : (rest.map fun v => v.category).sum ≤ 8) (hdg : decode code pc = .ok (.invokevirtual index, 3)) (hf : cells ≤ R.cells ∧ slots ≤ R.slots)
    (kk : ∀ (r : Int32) (τ : St) (H1 : Heap) (locs1 : List Loc), Qr r τ → Rl w1 w2 σ1 τ s H1 locs1 → W p l e R s m args below meth c H1 locs1 cells slots Q (F0 m (pc + 3) ls (.int r :: rest))) : W p l e R s m args below meth c H locs cells slots Q (F0 m pc ls st0) := by
  obtain ⟨hx, hb, hml, hown, hts, hX0, hbl, hK1, hK2, hX1, hA1, hA2, hdis, hI1, hI2⟩ := E
  obtain ⟨hP1, hP2, hS⟩ := hR
  obtain ⟨hcode, hini, hd⟩ := hk
  have hrecv := va_recv hK2 hP2 (show vwCl[11]? = some (RX12, TX12, 65) from rfl) (rg_ate (k := 0) (by decide) rfl)
  rw [show ((RX12, TX12, 65) : vw_C).1 = y.cls from hc.symm] at hrecv
  have hpre : ∀ U : State, U.heap = H → s.WarmedH U.vm → va_Pc (.ref (w2.2.1 0) :: As) (fun U => Rp 38 ev2 w2 σ2 U ∧ X2 U) (Value.ref (w2.2.1 0) :: As).toArray U := fun U hU hW => ⟨rfl, ⟨by rw [hU]; exact hP2, va_K.moved hW.alike hK2⟩, trivial⟩
  have hr := va_runV (As := As) (rest := rest) (locs := locs) (cells := cells) (slots := slots) (e := e) (R := R) (below := below) (meth := meth) (g := F0 m pc ls st0) ⟨hx, hb, hml, hown, hts⟩ hM ⟨callB_of n hts (gUU hcode) rfl hrm.1 hrm.2.1 (hts _ hini) (hts _ hlink) hd ⟨hrm.2.2.1, hrm.2.2.2⟩, hts _ hv.1, hts _ hv.2⟩ ⟨(xp2 w2).blind, hrecv, hpre⟩ rfl hn hsize hst (lv_room hroom) hdg hf
  refine va_calli hr hS (fun q _ h => hA2 q h) (fun q h => hA2 q h) (fun r u t H1 locs1 ht _ hp hB hz hk hS1 => ?_)
  exact kk r u H1 locs1 hp ⟨hP1.kept (fun k q hq => hk q.1 ((hP1 k q hq).lt) (fun z => hdis _ (rg_in hq) z)), by rw [← ht]; exact hB.1, hS1⟩
end LAWC
/-- what is known of both objects between the law's calls -/
def GI (σ1 σ2 : St) : Prop := (∀ a b : Nat, Rg1 a b (σ1.1 a b)) ∧ Rbt Xr σ1 σ2
theorem ckX11_feed : Ck yX11_feed cX11_feed 5 (some .int) 2 := ⟨Uw_of (inT2 _ (List.mem_of_getElem? (i := 176) rfl)) rfl, Uw_of (inT1 _ (List.mem_of_getElem? (i := 1) rfl)) rfl, by decide, by decide, by decide +kernel⟩
theorem cvX11_feed : Cv yX11_feed := ⟨Uw_of (inT2 _ (List.mem_of_getElem? (i := 174) rfl)) rfl, Uw_of (inT2 _ (List.mem_of_getElem? (i := 175) rfl)) rfl⟩
def SB_feed (x1 : Int32) (x2 : Int64) (r1 : Int32) (τ1 : St) (r2 : Int32) (τ2 : St) : Prop := r1 = r2 ∧ Rbt Xr τ1 τ2
def SA_feed (σ2 : St) (x1 : Int32) (x2 : Int64) (r1 : Int32) (τ1 : St) : Prop := (∀ a b : Nat, Rg1 a b (τ1.1 a b)) ∧ fX12_feed 4294967400 x1 x2 (SB_feed x1 x2 r1 τ1) σ2
theorem m11_feed (l : Launch) (w : Wd) (hI : Ij 223 w) {σ σ2 : St} (g : GI σ σ2) (x1 : Int32) (x2 : Int64) : Met l yX11_feed (.code yX11_feed cX11_feed 5 (some .int) :: Uw) rmX11_feed (va_Pc [.ref (w.2.1 0), .int x1, .long x2] (fun U => Rp 223 ev1 w σ U ∧ (X1 w) U)) (va_Qi (SA_feed σ2 x1 x2) (Rp 223 ev1 w) (Aw 223 w)) 0 0 (Aw 223 w) :=
  cX11_feed_met l w hI 4294967400 x1 x2 (SA_feed σ2 x1 x2) σ (cm_fX11_feed (fun _ τ => ∀ a b : Nat, Rg1 a b (τ.1 a b)) (fun r1 τ1 => fX12_feed 4294967400 x1 x2 (SB_feed x1 x2 r1 τ1) σ2) (SA_feed σ2 x1 x2) (fun _ _ h1 h2 => ⟨h1, h2⟩) (sX11_feed (Nat.le_refl _) g.1 (fun _ => g.1) (fun _ _ _ => g.1) (fun _ _ _ τ gτ _ _ => gτ)) (p_feed (Nat.le_refl _) g.2))
theorem ckX11_load : Ck yX11_load cX11_load 3 (some .int) 1 := ⟨Uw_of (inT2 _ (List.mem_of_getElem? (i := 180) rfl)) rfl, Uw_of (inT1 _ (List.mem_of_getElem? (i := 1) rfl)) rfl, by decide, by decide, by decide +kernel⟩
theorem cvX11_load : Cv yX11_load := ⟨Uw_of (inT2 _ (List.mem_of_getElem? (i := 178) rfl)) rfl, Uw_of (inT2 _ (List.mem_of_getElem? (i := 179) rfl)) rfl⟩
def SB_load (x1 : Int32) (r1 : Int32) (τ1 : St) (r2 : Int32) (τ2 : St) : Prop := Rbt Xr τ1 τ2
def SA_load (σ2 : St) (x1 : Int32) (r1 : Int32) (τ1 : St) : Prop := (∀ a b : Nat, Rg1 a b (τ1.1 a b)) ∧ fX12_load 4294967400 x1 (SB_load x1 r1 τ1) σ2
theorem m11_load (l : Launch) (w : Wd) (hI : Ij 223 w) {σ σ2 : St} (g : GI σ σ2) (x1 : Int32) : Met l yX11_load (.code yX11_load cX11_load 3 (some .int) :: Uw) rmX11_load (va_Pc [.ref (w.2.1 0), .int x1] (fun U => Rp 223 ev1 w σ U ∧ (X1 w) U)) (va_Qi (SA_load σ2 x1) (Rp 223 ev1 w) (Aw 223 w)) 0 0 (Aw 223 w) :=
  cX11_load_met l w hI 4294967400 x1 (SA_load σ2 x1) σ (cm_fX11_load (fun _ τ => ∀ a b : Nat, Rg1 a b (τ.1 a b)) (fun r1 τ1 => fX12_load 4294967400 x1 (SB_load x1 r1 τ1) σ2) (SA_load σ2 x1) (fun _ _ h1 h2 => ⟨h1, h2⟩) (sX11_load (Nat.le_refl _) g.1 (fun _ τ gτ _ _ => gτ)) (p_load (Nat.le_refl _) g.1 g.2))
theorem ckX11_border : Ck yX11_border cX11_border 3 (some .int) 1 := ⟨Uw_of (inT2 _ (List.mem_of_getElem? (i := 195) rfl)) rfl, Uw_of (inT1 _ (List.mem_of_getElem? (i := 1) rfl)) rfl, by decide, by decide, by decide +kernel⟩
theorem cvX11_border : Cv yX11_border := ⟨Uw_of (inT2 _ (List.mem_of_getElem? (i := 193) rfl)) rfl, Uw_of (inT2 _ (List.mem_of_getElem? (i := 194) rfl)) rfl⟩
def SB_border (x1 : Int32) (r1 : Int32) (τ1 : St) (r2 : Int32) (τ2 : St) : Prop := r1 = r2 ∧ Rbt Xr τ1 τ2
def SA_border (σ2 : St) (x1 : Int32) (r1 : Int32) (τ1 : St) : Prop := (∀ a b : Nat, Rg1 a b (τ1.1 a b)) ∧ fX12_border 4294967400 x1 (SB_border x1 r1 τ1) σ2
theorem m11_border (l : Launch) (w : Wd) (hI : Ij 223 w) {σ σ2 : St} (g : GI σ σ2) (x1 : Int32) : Met l yX11_border (.code yX11_border cX11_border 3 (some .int) :: Uw) rmX11_border (va_Pc [.ref (w.2.1 0), .int x1] (fun U => Rp 223 ev1 w σ U ∧ (X1 w) U)) (va_Qi (SA_border σ2 x1) (Rp 223 ev1 w) (Aw 223 w)) 0 0 (Aw 223 w) :=
  cX11_border_met l w hI 4294967400 x1 (SA_border σ2 x1) σ (cm_fX11_border (fun _ τ => ∀ a b : Nat, Rg1 a b (τ.1 a b)) (fun r1 τ1 => fX12_border 4294967400 x1 (SB_border x1 r1 τ1) σ2) (SA_border σ2 x1) (fun _ _ h1 h2 => ⟨h1, h2⟩) (sX11_border (Nat.le_refl _) g.1 (fun _ => g.1) (fun _ _ τ gτ _ _ => gτ)) (p_border g.2))
theorem ckX11_byteAt : Ck yX11_byteAt cX11_byteAt 2 (some .int) 1 := ⟨Uw_of (inT2 _ (List.mem_of_getElem? (i := 200) rfl)) rfl, Uw_of (inT1 _ (List.mem_of_getElem? (i := 1) rfl)) rfl, by decide, by decide, by decide +kernel⟩
theorem cvX11_byteAt : Cv yX11_byteAt := ⟨Uw_of (inT2 _ (List.mem_of_getElem? (i := 198) rfl)) rfl, Uw_of (inT2 _ (List.mem_of_getElem? (i := 199) rfl)) rfl⟩
def SB_byteAt (x1 : Int32) (r1 : Int32) (τ1 : St) (r2 : Int32) (τ2 : St) : Prop := r1 = r2 ∧ Rbt Xr τ1 τ2
def SA_byteAt (σ2 : St) (x1 : Int32) (r1 : Int32) (τ1 : St) : Prop := (∀ a b : Nat, Rg1 a b (τ1.1 a b)) ∧ fX12_byteAt 4294967400 x1 (SB_byteAt x1 r1 τ1) σ2
theorem m11_byteAt (l : Launch) (w : Wd) (hI : Ij 223 w) {σ σ2 : St} (g : GI σ σ2) (x1 : Int32) : Met l yX11_byteAt (.code yX11_byteAt cX11_byteAt 2 (some .int) :: Uw) rmX11_byteAt (va_Pc [.ref (w.2.1 0), .int x1] (fun U => Rp 223 ev1 w σ U ∧ (X1 w) U)) (va_Qi (SA_byteAt σ2 x1) (Rp 223 ev1 w) (Aw 223 w)) 0 0 (Aw 223 w) :=
  cX11_byteAt_met l w hI 4294967400 x1 (SA_byteAt σ2 x1) σ (cm_fX11_byteAt (fun _ τ => ∀ a b : Nat, Rg1 a b (τ.1 a b)) (fun r1 τ1 => fX12_byteAt 4294967400 x1 (SB_byteAt x1 r1 τ1) σ2) (SA_byteAt σ2 x1) (fun _ _ h1 h2 => ⟨h1, h2⟩) (sX11_byteAt (Nat.le_refl _) (K1.self g.1) (fun _ _ => g.1)) (p_byteAt g.2))
theorem ckX11_table : Ck yX11_table cX11_table 2 (some .int) 1 := ⟨Uw_of (inT2 _ (List.mem_of_getElem? (i := 212) rfl)) rfl, Uw_of (inT1 _ (List.mem_of_getElem? (i := 1) rfl)) rfl, by decide, by decide, by decide +kernel⟩
theorem cvX11_table : Cv yX11_table := ⟨Uw_of (inT2 _ (List.mem_of_getElem? (i := 210) rfl)) rfl, Uw_of (inT2 _ (List.mem_of_getElem? (i := 211) rfl)) rfl⟩
def SB_table (x1 : Int32) (r1 : Int32) (τ1 : St) (r2 : Int32) (τ2 : St) : Prop := Rbt Xr τ1 τ2
def SA_table (σ2 : St) (x1 : Int32) (r1 : Int32) (τ1 : St) : Prop := (∀ a b : Nat, Rg1 a b (τ1.1 a b)) ∧ fX12_table 4294967400 x1 (SB_table x1 r1 τ1) σ2
theorem m11_table (l : Launch) (w : Wd) (hI : Ij 223 w) {σ σ2 : St} (g : GI σ σ2) (x1 : Int32) : Met l yX11_table (.code yX11_table cX11_table 2 (some .int) :: Uw) rmX11_table (va_Pc [.ref (w.2.1 0), .int x1] (fun U => Rp 223 ev1 w σ U ∧ (X1 w) U)) (va_Qi (SA_table σ2 x1) (Rp 223 ev1 w) (Aw 223 w)) 0 0 (Aw 223 w) :=
  cX11_table_met l w hI 4294967400 x1 (SA_table σ2 x1) σ (cm_fX11_table (fun _ τ => ∀ a b : Nat, Rg1 a b (τ.1 a b)) (fun r1 τ1 => fX12_table 4294967400 x1 (SB_table x1 r1 τ1) σ2) (SA_table σ2 x1) (fun _ _ h1 h2 => ⟨h1, h2⟩) (sX11_table (Nat.le_refl _) (K1.self g.1) (fun _ τ k _ _ => k.1)) (p_table (Nat.le_refl _) g.1 g.2))
theorem ckX11_system : Ck yX11_system cX11_system 3 (some .int) 2 := ⟨Uw_of (inT3 _ (List.mem_of_getElem? (i := 14) rfl)) rfl, Uw_of (inT1 _ (List.mem_of_getElem? (i := 1) rfl)) rfl, by decide, by decide, by decide +kernel⟩
theorem cvX11_system : Cv yX11_system := ⟨Uw_of (inT3 _ (List.mem_of_getElem? (i := 12) rfl)) rfl, Uw_of (inT3 _ (List.mem_of_getElem? (i := 13) rfl)) rfl⟩
def SB_system (x1 : Int32) (x2 : Int32) (r1 : Int32) (τ1 : St) (r2 : Int32) (τ2 : St) : Prop := r1 = r2 ∧ Rbt Xr τ1 τ2
def SA_system (σ2 : St) (x1 : Int32) (x2 : Int32) (r1 : Int32) (τ1 : St) : Prop := (∀ a b : Nat, Rg1 a b (τ1.1 a b)) ∧ fX12_system 4294967400 x1 x2 (SB_system x1 x2 r1 τ1) σ2
theorem m11_system (l : Launch) (w : Wd) (hI : Ij 223 w) {σ σ2 : St} (g : GI σ σ2) (x1 : Int32) (x2 : Int32) : Met l yX11_system (.code yX11_system cX11_system 3 (some .int) :: Uw) rmX11_system (va_Pc [.ref (w.2.1 0), .int x1, .int x2] (fun U => Rp 223 ev1 w σ U ∧ (X1 w) U)) (va_Qi (SA_system σ2 x1 x2) (Rp 223 ev1 w) (Aw 223 w)) 0 0 (Aw 223 w) :=
  cX11_system_met l w hI 4294967400 x1 x2 (SA_system σ2 x1 x2) σ (cm_fX11_system (fun _ τ => ∀ a b : Nat, Rg1 a b (τ.1 a b)) (fun r1 τ1 => fX12_system 4294967400 x1 x2 (SB_system x1 x2 r1 τ1) σ2) (SA_system σ2 x1 x2) (fun _ _ h1 h2 => ⟨h1, h2⟩) (sX11_system (Nat.le_refl _) (K1.self g.1) (fun _ τ k _ _ => k.1)) (p_system Xr.xa g.2))
theorem ckX11_print : Ck yX11_print cX11_print 3 (some .int) 2 := ⟨Uw_of (inT3 _ (List.mem_of_getElem? (i := 26) rfl)) rfl, Uw_of (inT1 _ (List.mem_of_getElem? (i := 1) rfl)) rfl, by decide, by decide, by decide +kernel⟩
theorem cvX11_print : Cv yX11_print := ⟨Uw_of (inT3 _ (List.mem_of_getElem? (i := 24) rfl)) rfl, Uw_of (inT3 _ (List.mem_of_getElem? (i := 25) rfl)) rfl⟩
def SB_print (x1 : Int32) (x2 : Int32) (r1 : Int32) (τ1 : St) (r2 : Int32) (τ2 : St) : Prop := r1 = r2 ∧ Rbt Xr τ1 τ2
def SA_print (σ2 : St) (x1 : Int32) (x2 : Int32) (r1 : Int32) (τ1 : St) : Prop := (∀ a b : Nat, Rg1 a b (τ1.1 a b)) ∧ fX12_print 4294967400 x1 x2 (SB_print x1 x2 r1 τ1) σ2
theorem m11_print (l : Launch) (w : Wd) (hI : Ij 223 w) {σ σ2 : St} (g : GI σ σ2) (x1 : Int32) (x2 : Int32) : Met l yX11_print (.code yX11_print cX11_print 3 (some .int) :: Uw) rmX11_print (va_Pc [.ref (w.2.1 0), .int x1, .int x2] (fun U => Rp 223 ev1 w σ U ∧ (X1 w) U)) (va_Qi (SA_print σ2 x1 x2) (Rp 223 ev1 w) (Aw 223 w)) 0 0 (Aw 223 w) :=
  cX11_print_met l w hI 4294967400 x1 x2 (SA_print σ2 x1 x2) σ (cm_fX11_print (fun _ τ => ∀ a b : Nat, Rg1 a b (τ.1 a b)) (fun r1 τ1 => fX12_print 4294967400 x1 x2 (SB_print x1 x2 r1 τ1) σ2) (SA_print σ2 x1 x2) (fun _ _ h1 h2 => ⟨h1, h2⟩) (sX11_print (Nat.le_refl _) (K1.self g.1) (fun _ τ k _ _ => k.1)) (p_print (Nat.le_refl _) Xr.xa (xt_of (Nat.le_refl _) Xr.xc) Xr.xw g.2))
theorem ckX11_number : Ck yX11_number cX11_number 3 (some .int) 2 := ⟨Uw_of (inT3 _ (List.mem_of_getElem? (i := 204) rfl)) rfl, Uw_of (inT1 _ (List.mem_of_getElem? (i := 1) rfl)) rfl, by decide, by decide, by decide +kernel⟩
theorem cvX11_number : Cv yX11_number := ⟨Uw_of (inT3 _ (List.mem_of_getElem? (i := 202) rfl)) rfl, Uw_of (inT3 _ (List.mem_of_getElem? (i := 203) rfl)) rfl⟩
def SB_number (x1 : Int32) (x2 : Int32) (r1 : Int32) (τ1 : St) (r2 : Int32) (τ2 : St) : Prop := r1 = r2 ∧ Rbt Xr τ1 τ2
def SA_number (σ2 : St) (x1 : Int32) (x2 : Int32) (r1 : Int32) (τ1 : St) : Prop := (∀ a b : Nat, Rg1 a b (τ1.1 a b)) ∧ fX12_number 4294967400 x1 x2 (SB_number x1 x2 r1 τ1) σ2
theorem m11_number (l : Launch) (w : Wd) (hI : Ij 223 w) {σ σ2 : St} (g : GI σ σ2) (x1 : Int32) (x2 : Int32) : Met l yX11_number (.code yX11_number cX11_number 3 (some .int) :: Uw) rmX11_number (va_Pc [.ref (w.2.1 0), .int x1, .int x2] (fun U => Rp 223 ev1 w σ U ∧ (X1 w) U)) (va_Qi (SA_number σ2 x1 x2) (Rp 223 ev1 w) (Aw 223 w)) 0 0 (Aw 223 w) :=
  cX11_number_met l w hI 4294967400 x1 x2 (SA_number σ2 x1 x2) σ (cm_fX11_number (fun _ τ => ∀ a b : Nat, Rg1 a b (τ.1 a b)) (fun r1 τ1 => fX12_number 4294967400 x1 x2 (SB_number x1 x2 r1 τ1) σ2) (SA_number σ2 x1 x2) (fun _ _ h1 h2 => ⟨h1, h2⟩) (sX11_number (Nat.le_refl _) (K1.self g.1) (fun _ τ k _ _ => k.1)) (p_number (Nat.le_refl _) Xr.xa (xt_of (Nat.le_refl _) Xr.xc) Xr.xw g.2))
theorem ckX11_call : Ck yX11_call cX11_call 3 (some .int) 2 := ⟨Uw_of (inT3 _ (List.mem_of_getElem? (i := 209) rfl)) rfl, Uw_of (inT1 _ (List.mem_of_getElem? (i := 1) rfl)) rfl, by decide, by decide, by decide +kernel⟩
theorem cvX11_call : Cv yX11_call := ⟨Uw_of (inT3 _ (List.mem_of_getElem? (i := 207) rfl)) rfl, Uw_of (inT3 _ (List.mem_of_getElem? (i := 208) rfl)) rfl⟩
def SB_call (x1 : Int32) (x2 : Int32) (r1 : Int32) (τ1 : St) (r2 : Int32) (τ2 : St) : Prop := r1 = r2 ∧ Rbt Xr τ1 τ2
def SA_call (σ2 : St) (x1 : Int32) (x2 : Int32) (r1 : Int32) (τ1 : St) : Prop := (∀ a b : Nat, Rg1 a b (τ1.1 a b)) ∧ fX12_call 4294967400 x1 x2 (SB_call x1 x2 r1 τ1) σ2
theorem m11_call (l : Launch) (w : Wd) (hI : Ij 223 w) {σ σ2 : St} (g : GI σ σ2) (x1 : Int32) (x2 : Int32) : Met l yX11_call (.code yX11_call cX11_call 3 (some .int) :: Uw) rmX11_call (va_Pc [.ref (w.2.1 0), .int x1, .int x2] (fun U => Rp 223 ev1 w σ U ∧ (X1 w) U)) (va_Qi (SA_call σ2 x1 x2) (Rp 223 ev1 w) (Aw 223 w)) 0 0 (Aw 223 w) :=
  cX11_call_met l w hI 4294967400 x1 x2 (SA_call σ2 x1 x2) σ (cm_fX11_call (fun _ τ => ∀ a b : Nat, Rg1 a b (τ.1 a b)) (fun r1 τ1 => fX12_call 4294967400 x1 x2 (SB_call x1 x2 r1 τ1) σ2) (SA_call σ2 x1 x2) (fun _ _ h1 h2 => ⟨h1, h2⟩) (sX11_call (Nat.le_refl _) (K1.self g.1) (fun _ τ k _ _ => k.1)) (p_call (Nat.le_refl _) g.2))
theorem ckX11_resume : Ck yX11_resume cX11_resume 2 (some .int) 1 := ⟨Uw_of (inT3 _ (List.mem_of_getElem? (i := 218) rfl)) rfl, Uw_of (inT1 _ (List.mem_of_getElem? (i := 1) rfl)) rfl, by decide, by decide, by decide +kernel⟩
theorem cvX11_resume : Cv yX11_resume := ⟨Uw_of (inT3 _ (List.mem_of_getElem? (i := 216) rfl)) rfl, Uw_of (inT3 _ (List.mem_of_getElem? (i := 217) rfl)) rfl⟩
def SB_resume (x1 : Int32) (r1 : Int32) (τ1 : St) (r2 : Int32) (τ2 : St) : Prop := r1 = r2 ∧ Rbt Xr τ1 τ2
def SA_resume (σ2 : St) (x1 : Int32) (r1 : Int32) (τ1 : St) : Prop := (∀ a b : Nat, Rg1 a b (τ1.1 a b)) ∧ fX12_resume 4294967400 x1 (SB_resume x1 r1 τ1) σ2
theorem m11_resume (l : Launch) (w : Wd) (hI : Ij 223 w) {σ σ2 : St} (g : GI σ σ2) (x1 : Int32) : Met l yX11_resume (.code yX11_resume cX11_resume 2 (some .int) :: Uw) rmX11_resume (va_Pc [.ref (w.2.1 0), .int x1] (fun U => Rp 223 ev1 w σ U ∧ (X1 w) U)) (va_Qi (SA_resume σ2 x1) (Rp 223 ev1 w) (Aw 223 w)) 0 0 (Aw 223 w) :=
  cX11_resume_met l w hI 4294967400 x1 (SA_resume σ2 x1) σ (cm_fX11_resume (fun _ τ => ∀ a b : Nat, Rg1 a b (τ.1 a b)) (fun r1 τ1 => fX12_resume 4294967400 x1 (SB_resume x1 r1 τ1) σ2) (SA_resume σ2 x1) (fun _ _ h1 h2 => ⟨h1, h2⟩) (sX11_resume (Nat.le_refl _) (K1.self g.1) (fun _ τ k _ _ => k.1)) (p_resume (Nat.le_refl _) Xr.xa (xt_of (Nat.le_refl _) Xr.xc) Xr.xw g.2))
theorem ckX11_stop : Ck yX11_stop cX11_stop 2 (some .int) 0 := ⟨Uw_of (inT3 _ (List.mem_of_getElem? (i := 222) rfl)) rfl, Uw_of (inT1 _ (List.mem_of_getElem? (i := 1) rfl)) rfl, by decide, by decide, by decide +kernel⟩
theorem cvX11_stop : Cv yX11_stop := ⟨Uw_of (inT3 _ (List.mem_of_getElem? (i := 220) rfl)) rfl, Uw_of (inT3 _ (List.mem_of_getElem? (i := 221) rfl)) rfl⟩
def SB_stop (r1 : Int32) (τ1 : St) (r2 : Int32) (τ2 : St) : Prop := r1 = r2 ∧ Rbt Xr τ1 τ2
def SA_stop (σ2 : St) (r1 : Int32) (τ1 : St) : Prop := (∀ a b : Nat, Rg1 a b (τ1.1 a b)) ∧ fX12_stop 4294967400  (SB_stop  r1 τ1) σ2
theorem m11_stop (l : Launch) (w : Wd) (hI : Ij 223 w) {σ σ2 : St} (g : GI σ σ2)  : Met l yX11_stop (.code yX11_stop cX11_stop 2 (some .int) :: Uw) rmX11_stop (va_Pc [.ref (w.2.1 0)] (fun U => Rp 223 ev1 w σ U ∧ (X1 w) U)) (va_Qi (SA_stop σ2 ) (Rp 223 ev1 w) (Aw 223 w)) 0 0 (Aw 223 w) :=
  cX11_stop_met l w hI 4294967400  (SA_stop σ2 ) σ (cm_fX11_stop (fun _ τ => ∀ a b : Nat, Rg1 a b (τ.1 a b)) (fun r1 τ1 => fX12_stop 4294967400  (SB_stop  r1 τ1) σ2) (SA_stop σ2 ) (fun _ _ h1 h2 => ⟨h1, h2⟩) (sX11_stop (Nat.le_refl _) (K1.self g.1) (fun _ τ k _ _ => k.1)) (p_stop Xr.xa g.2))
theorem ckX11_jobs : Ck yX11_jobs cX11_jobs 1 (some .int) 0 := ⟨Uw_of (inT3 _ (List.mem_of_getElem? (i := 226) rfl)) rfl, Uw_of (inT1 _ (List.mem_of_getElem? (i := 1) rfl)) rfl, by decide, by decide, by decide +kernel⟩
theorem cvX11_jobs : Cv yX11_jobs := ⟨Uw_of (inT3 _ (List.mem_of_getElem? (i := 224) rfl)) rfl, Uw_of (inT3 _ (List.mem_of_getElem? (i := 225) rfl)) rfl⟩
def SB_jobs (r1 : Int32) (τ1 : St) (r2 : Int32) (τ2 : St) : Prop := r1 = r2 ∧ Rbt Xr τ1 τ2
def SA_jobs (σ2 : St) (r1 : Int32) (τ1 : St) : Prop := (∀ a b : Nat, Rg1 a b (τ1.1 a b)) ∧ fX12_jobs 4294967400  (SB_jobs  r1 τ1) σ2
theorem m11_jobs (l : Launch) (w : Wd) (hI : Ij 223 w) {σ σ2 : St} (g : GI σ σ2)  : Met l yX11_jobs (.code yX11_jobs cX11_jobs 1 (some .int) :: Uw) rmX11_jobs (va_Pc [.ref (w.2.1 0)] (fun U => Rp 223 ev1 w σ U ∧ (X1 w) U)) (va_Qi (SA_jobs σ2 ) (Rp 223 ev1 w) (Aw 223 w)) 0 0 (Aw 223 w) :=
  cX11_jobs_met l w hI 4294967400  (SA_jobs σ2 ) σ (cm_fX11_jobs (fun _ τ => ∀ a b : Nat, Rg1 a b (τ.1 a b)) (fun r1 τ1 => fX12_jobs 4294967400  (SB_jobs  r1 τ1) σ2) (SA_jobs σ2 ) (fun _ _ h1 h2 => ⟨h1, h2⟩) (sX11_jobs (Nat.le_refl _) (K1.self g.1) (fun _ _ => g.1)) (p_jobs g.2))
theorem ckX11_job : Ck yX11_job cX11_job 3 (some .int) 2 := ⟨Uw_of (inT3 _ (List.mem_of_getElem? (i := 230) rfl)) rfl, Uw_of (inT1 _ (List.mem_of_getElem? (i := 1) rfl)) rfl, by decide, by decide, by decide +kernel⟩
theorem cvX11_job : Cv yX11_job := ⟨Uw_of (inT3 _ (List.mem_of_getElem? (i := 228) rfl)) rfl, Uw_of (inT3 _ (List.mem_of_getElem? (i := 229) rfl)) rfl⟩
def SB_job (x1 : Int32) (x2 : Int32) (r1 : Int32) (τ1 : St) (r2 : Int32) (τ2 : St) : Prop := r1 = r2 ∧ Rbt Xr τ1 τ2
def SA_job (σ2 : St) (x1 : Int32) (x2 : Int32) (r1 : Int32) (τ1 : St) : Prop := (∀ a b : Nat, Rg1 a b (τ1.1 a b)) ∧ fX12_job 4294967400 x1 x2 (SB_job x1 x2 r1 τ1) σ2
theorem m11_job (l : Launch) (w : Wd) (hI : Ij 223 w) {σ σ2 : St} (g : GI σ σ2) (x1 : Int32) (x2 : Int32) : Met l yX11_job (.code yX11_job cX11_job 3 (some .int) :: Uw) rmX11_job (va_Pc [.ref (w.2.1 0), .int x1, .int x2] (fun U => Rp 223 ev1 w σ U ∧ (X1 w) U)) (va_Qi (SA_job σ2 x1 x2) (Rp 223 ev1 w) (Aw 223 w)) 0 0 (Aw 223 w) :=
  cX11_job_met l w hI 4294967400 x1 x2 (SA_job σ2 x1 x2) σ (cm_fX11_job (fun _ τ => ∀ a b : Nat, Rg1 a b (τ.1 a b)) (fun r1 τ1 => fX12_job 4294967400 x1 x2 (SB_job x1 x2 r1 τ1) σ2) (SA_job σ2 x1 x2) (fun _ _ h1 h2 => ⟨h1, h2⟩) (sX11_job (Nat.le_refl _) (K1.self g.1) (fun _ _ => g.1)) (p_job g.2))
theorem ckX11_at : Ck yX11_at cX11_at 2 (some .int) 1 := ⟨Uw_of (inT4 _ (List.mem_of_getElem? (i := 3) rfl)) rfl, Uw_of (inT1 _ (List.mem_of_getElem? (i := 1) rfl)) rfl, by decide, by decide, by decide +kernel⟩
theorem cvX11_at : Cv yX11_at := ⟨Uw_of (inT4 _ (List.mem_of_getElem? (i := 1) rfl)) rfl, Uw_of (inT4 _ (List.mem_of_getElem? (i := 2) rfl)) rfl⟩
def SB_at (x1 : Int32) (r1 : Int32) (τ1 : St) (r2 : Int32) (τ2 : St) : Prop := r1 = r2 ∧ Rbt Xr τ1 τ2
def SA_at (σ2 : St) (x1 : Int32) (r1 : Int32) (τ1 : St) : Prop := (∀ a b : Nat, Rg1 a b (τ1.1 a b)) ∧ fX12_at 4294967400 x1 (SB_at x1 r1 τ1) σ2
theorem m11_at (l : Launch) (w : Wd) (hI : Ij 223 w) {σ σ2 : St} (g : GI σ σ2) (x1 : Int32) : Met l yX11_at (.code yX11_at cX11_at 2 (some .int) :: Uw) rmX11_at (va_Pc [.ref (w.2.1 0), .int x1] (fun U => Rp 223 ev1 w σ U ∧ (X1 w) U)) (va_Qi (SA_at σ2 x1) (Rp 223 ev1 w) (Aw 223 w)) 0 0 (Aw 223 w) :=
  cX11_at_met l w hI 4294967400 x1 (SA_at σ2 x1) σ (cm_fX11_at (fun _ τ => ∀ a b : Nat, Rg1 a b (τ.1 a b)) (fun r1 τ1 => fX12_at 4294967400 x1 (SB_at x1 r1 τ1) σ2) (SA_at σ2 x1) (fun _ _ h1 h2 => ⟨h1, h2⟩) (sX11_at (Nat.le_refl _) (K1.self g.1) (fun _ _ => g.1)) (p_at g.2))
theorem ckX11_clear : Ck yX11_clear cX11_clear 2 (some .int) 0 := ⟨Uw_of (inT4 _ (List.mem_of_getElem? (i := 7) rfl)) rfl, Uw_of (inT1 _ (List.mem_of_getElem? (i := 1) rfl)) rfl, by decide, by decide, by decide +kernel⟩
theorem cvX11_clear : Cv yX11_clear := ⟨Uw_of (inT4 _ (List.mem_of_getElem? (i := 5) rfl)) rfl, Uw_of (inT4 _ (List.mem_of_getElem? (i := 6) rfl)) rfl⟩
def SB_clear (r1 : Int32) (τ1 : St) (r2 : Int32) (τ2 : St) : Prop := r1 = r2 ∧ Rbt Xr τ1 τ2
def SA_clear (σ2 : St) (r1 : Int32) (τ1 : St) : Prop := (∀ a b : Nat, Rg1 a b (τ1.1 a b)) ∧ fX12_clear 4294967400  (SB_clear  r1 τ1) σ2
theorem m11_clear (l : Launch) (w : Wd) (hI : Ij 223 w) {σ σ2 : St} (g : GI σ σ2)  : Met l yX11_clear (.code yX11_clear cX11_clear 2 (some .int) :: Uw) rmX11_clear (va_Pc [.ref (w.2.1 0)] (fun U => Rp 223 ev1 w σ U ∧ (X1 w) U)) (va_Qi (SA_clear σ2 ) (Rp 223 ev1 w) (Aw 223 w)) 0 0 (Aw 223 w) :=
  cX11_clear_met l w hI 4294967400  (SA_clear σ2 ) σ (cm_fX11_clear (fun _ τ => ∀ a b : Nat, Rg1 a b (τ.1 a b)) (fun r1 τ1 => fX12_clear 4294967400  (SB_clear  r1 τ1) σ2) (SA_clear σ2 ) (fun _ _ h1 h2 => ⟨h1, h2⟩) (sX11_clear (Nat.le_refl _) (K1.self g.1) (fun _ τ k _ _ => k.1)) (p_clear Xr.xa g.2))
theorem ckX11_told : Ck yX11_told cX11_told 2 (some .int) 1 := ⟨Uw_of (inT4 _ (List.mem_of_getElem? (i := 11) rfl)) rfl, Uw_of (inT1 _ (List.mem_of_getElem? (i := 1) rfl)) rfl, by decide, by decide, by decide +kernel⟩
theorem cvX11_told : Cv yX11_told := ⟨Uw_of (inT4 _ (List.mem_of_getElem? (i := 9) rfl)) rfl, Uw_of (inT4 _ (List.mem_of_getElem? (i := 10) rfl)) rfl⟩
def SB_told (x1 : Int32) (r1 : Int32) (τ1 : St) (r2 : Int32) (τ2 : St) : Prop := (x1 ≠ 15 → r1 = r2) ∧ Rbt Xr τ1 τ2
def SA_told (σ2 : St) (x1 : Int32) (r1 : Int32) (τ1 : St) : Prop := (∀ a b : Nat, Rg1 a b (τ1.1 a b)) ∧ fX12_told 4294967400 x1 (SB_told x1 r1 τ1) σ2
theorem m11_told (l : Launch) (w : Wd) (hI : Ij 223 w) {σ σ2 : St} (g : GI σ σ2) (x1 : Int32) : Met l yX11_told (.code yX11_told cX11_told 2 (some .int) :: Uw) rmX11_told (va_Pc [.ref (w.2.1 0), .int x1] (fun U => Rp 223 ev1 w σ U ∧ (X1 w) U)) (va_Qi (SA_told σ2 x1) (Rp 223 ev1 w) (Aw 223 w)) 0 0 (Aw 223 w) :=
  cX11_told_met l w hI 4294967400 x1 (SA_told σ2 x1) σ (cm_fX11_told (fun _ τ => ∀ a b : Nat, Rg1 a b (τ.1 a b)) (fun r1 τ1 => fX12_told 4294967400 x1 (SB_told x1 r1 τ1) σ2) (SA_told σ2 x1) (fun _ _ h1 h2 => ⟨h1, h2⟩) (sX11_told (Nat.le_refl _) (K1.self g.1) (fun _ τ k _ _ => k.1)) (p_told (Nat.le_refl _) g.1 g.2))
theorem ckX11_sign : Ck yX11_sign cX11_sign 2 (some .int) 1 := ⟨Uw_of (inT4 _ (List.mem_of_getElem? (i := 19) rfl)) rfl, Uw_of (inT1 _ (List.mem_of_getElem? (i := 1) rfl)) rfl, by decide, by decide, by decide +kernel⟩
theorem cvX11_sign : Cv yX11_sign := ⟨Uw_of (inT4 _ (List.mem_of_getElem? (i := 17) rfl)) rfl, Uw_of (inT4 _ (List.mem_of_getElem? (i := 18) rfl)) rfl⟩
def SB_sign (x1 : Int32) (r1 : Int32) (τ1 : St) (r2 : Int32) (τ2 : St) : Prop := r1 = r2 ∧ Rbt Xr τ1 τ2
def SA_sign (σ2 : St) (x1 : Int32) (r1 : Int32) (τ1 : St) : Prop := (∀ a b : Nat, Rg1 a b (τ1.1 a b)) ∧ fX12_sign 4294967400 x1 (SB_sign x1 r1 τ1) σ2
theorem m11_sign (l : Launch) (w : Wd) (hI : Ij 223 w) {σ σ2 : St} (g : GI σ σ2) (x1 : Int32) : Met l yX11_sign (.code yX11_sign cX11_sign 2 (some .int) :: Uw) rmX11_sign (va_Pc [.ref (w.2.1 0), .int x1] (fun U => Rp 223 ev1 w σ U ∧ (X1 w) U)) (va_Qi (SA_sign σ2 x1) (Rp 223 ev1 w) (Aw 223 w)) 0 0 (Aw 223 w) :=
  cX11_sign_met l w hI 4294967400 x1 (SA_sign σ2 x1) σ (cm_fX11_sign (fun _ τ => ∀ a b : Nat, Rg1 a b (τ.1 a b)) (fun r1 τ1 => fX12_sign 4294967400 x1 (SB_sign x1 r1 τ1) σ2) (SA_sign σ2 x1) (fun _ _ h1 h2 => ⟨h1, h2⟩) (sX11_sign (Nat.le_refl _) (K1.self g.1) (fun _ τ k _ _ => k.1)) (p_sign g.2))
theorem ckX11_piece : Ck yX11_piece cX11_piece 3 (some .int) 1 := ⟨Uw_of (inT4 _ (List.mem_of_getElem? (i := 23) rfl)) rfl, Uw_of (inT1 _ (List.mem_of_getElem? (i := 1) rfl)) rfl, by decide, by decide, by decide +kernel⟩
theorem cvX11_piece : Cv yX11_piece := ⟨Uw_of (inT4 _ (List.mem_of_getElem? (i := 21) rfl)) rfl, Uw_of (inT4 _ (List.mem_of_getElem? (i := 22) rfl)) rfl⟩
def SB_piece (x1 : Int32) (r1 : Int32) (τ1 : St) (r2 : Int32) (τ2 : St) : Prop := r1 = r2 ∧ Rbt Xr τ1 τ2
def SA_piece (σ2 : St) (x1 : Int32) (r1 : Int32) (τ1 : St) : Prop := (∀ a b : Nat, Rg1 a b (τ1.1 a b)) ∧ fX12_piece 4294967400 x1 (SB_piece x1 r1 τ1) σ2
theorem m11_piece (l : Launch) (w : Wd) (hI : Ij 223 w) {σ σ2 : St} (g : GI σ σ2) (x1 : Int32) : Met l yX11_piece (.code yX11_piece cX11_piece 3 (some .int) :: Uw) rmX11_piece (va_Pc [.ref (w.2.1 0), .int x1] (fun U => Rp 223 ev1 w σ U ∧ (X1 w) U)) (va_Qi (SA_piece σ2 x1) (Rp 223 ev1 w) (Aw 223 w)) 0 0 (Aw 223 w) :=
  cX11_piece_met l w hI 4294967400 x1 (SA_piece σ2 x1) σ (cm_fX11_piece (fun _ τ => ∀ a b : Nat, Rg1 a b (τ.1 a b)) (fun r1 τ1 => fX12_piece 4294967400 x1 (SB_piece x1 r1 τ1) σ2) (SA_piece σ2 x1) (fun _ _ h1 h2 => ⟨h1, h2⟩) (sX11_piece (Nat.le_refl _) (K1.self g.1) (fun _ τ k _ _ => k.1)) (p_piece (Nat.le_refl _) g.2))
theorem ckX11_text : Ck yX11_text cX11_text 2 (some .int) 0 := ⟨Uw_of (inT4 _ (List.mem_of_getElem? (i := 37) rfl)) rfl, Uw_of (inT1 _ (List.mem_of_getElem? (i := 1) rfl)) rfl, by decide, by decide, by decide +kernel⟩
theorem cvX11_text : Cv yX11_text := ⟨Uw_of (inT4 _ (List.mem_of_getElem? (i := 35) rfl)) rfl, Uw_of (inT4 _ (List.mem_of_getElem? (i := 36) rfl)) rfl⟩
def SB_text (r1 : Int32) (τ1 : St) (r2 : Int32) (τ2 : St) : Prop := r1 = r2 ∧ Rbt Xr τ1 τ2
def SA_text (σ2 : St) (r1 : Int32) (τ1 : St) : Prop := (∀ a b : Nat, Rg1 a b (τ1.1 a b)) ∧ fX12_text 4294967400  (SB_text  r1 τ1) σ2
theorem m11_text (l : Launch) (w : Wd) (hI : Ij 223 w) {σ σ2 : St} (g : GI σ σ2)  : Met l yX11_text (.code yX11_text cX11_text 2 (some .int) :: Uw) rmX11_text (va_Pc [.ref (w.2.1 0)] (fun U => Rp 223 ev1 w σ U ∧ (X1 w) U)) (va_Qi (SA_text σ2 ) (Rp 223 ev1 w) (Aw 223 w)) 0 0 (Aw 223 w) :=
  cX11_text_met l w hI 4294967400  (SA_text σ2 ) σ (cm_fX11_text (fun _ τ => ∀ a b : Nat, Rg1 a b (τ.1 a b)) (fun r1 τ1 => fX12_text 4294967400  (SB_text  r1 τ1) σ2) (SA_text σ2 ) (fun _ _ h1 h2 => ⟨h1, h2⟩) (sX11_text (Nat.le_refl _) (K1.self g.1) (fun _ τ k _ _ => k.1)) (p_text (Nat.le_refl _) g.2))
theorem ckX11_tree : Ck yX11_tree cX11_tree 2 (some .int) 1 := ⟨Uw_of (inT4 _ (List.mem_of_getElem? (i := 57) rfl)) rfl, Uw_of (inT1 _ (List.mem_of_getElem? (i := 1) rfl)) rfl, by decide, by decide, by decide +kernel⟩
theorem cvX11_tree : Cv yX11_tree := ⟨Uw_of (inT4 _ (List.mem_of_getElem? (i := 55) rfl)) rfl, Uw_of (inT4 _ (List.mem_of_getElem? (i := 56) rfl)) rfl⟩
def SB_tree (x1 : Int32) (r1 : Int32) (τ1 : St) (r2 : Int32) (τ2 : St) : Prop := r1 = r2 ∧ Rbt Xr τ1 τ2
def SA_tree (σ2 : St) (x1 : Int32) (r1 : Int32) (τ1 : St) : Prop := (∀ a b : Nat, Rg1 a b (τ1.1 a b)) ∧ fX12_tree 4294967400 x1 (SB_tree x1 r1 τ1) σ2
theorem m11_tree (l : Launch) (w : Wd) (hI : Ij 223 w) {σ σ2 : St} (g : GI σ σ2) (x1 : Int32) : Met l yX11_tree (.code yX11_tree cX11_tree 2 (some .int) :: Uw) rmX11_tree (va_Pc [.ref (w.2.1 0), .int x1] (fun U => Rp 223 ev1 w σ U ∧ (X1 w) U)) (va_Qi (SA_tree σ2 x1) (Rp 223 ev1 w) (Aw 223 w)) 0 0 (Aw 223 w) :=
  cX11_tree_met l w hI 4294967400 x1 (SA_tree σ2 x1) σ (cm_fX11_tree (fun _ τ => ∀ a b : Nat, Rg1 a b (τ.1 a b)) (fun r1 τ1 => fX12_tree 4294967400 x1 (SB_tree x1 r1 τ1) σ2) (SA_tree σ2 x1) (fun _ _ h1 h2 => ⟨h1, h2⟩) (sX11_tree (Nat.le_refl _) (K1.self g.1) (fun _ τ k _ _ => k.1)) (p_tree (Nat.le_refl _) g.2))
theorem ckX11_laid : Ck yX11_laid cX11_laid 3 (some .int) 2 := ⟨Uw_of (inT4 _ (List.mem_of_getElem? (i := 163) rfl)) rfl, Uw_of (inT1 _ (List.mem_of_getElem? (i := 1) rfl)) rfl, by decide, by decide, by decide +kernel⟩
theorem cvX11_laid : Cv yX11_laid := ⟨Uw_of (inT4 _ (List.mem_of_getElem? (i := 161) rfl)) rfl, Uw_of (inT4 _ (List.mem_of_getElem? (i := 162) rfl)) rfl⟩
def SB_laid (x1 : Int32) (x2 : Int32) (r1 : Int32) (τ1 : St) (r2 : Int32) (τ2 : St) : Prop := r1 = r2 ∧ Rbt Xr τ1 τ2
def SA_laid (σ2 : St) (x1 : Int32) (x2 : Int32) (r1 : Int32) (τ1 : St) : Prop := (∀ a b : Nat, Rg1 a b (τ1.1 a b)) ∧ fX12_laid 4294967400 x1 x2 (SB_laid x1 x2 r1 τ1) σ2
theorem m11_laid (l : Launch) (w : Wd) (hI : Ij 223 w) {σ σ2 : St} (g : GI σ σ2) (x1 : Int32) (x2 : Int32) : Met l yX11_laid (.code yX11_laid cX11_laid 3 (some .int) :: Uw) rmX11_laid (va_Pc [.ref (w.2.1 0), .int x1, .int x2] (fun U => Rp 223 ev1 w σ U ∧ (X1 w) U)) (va_Qi (SA_laid σ2 x1 x2) (Rp 223 ev1 w) (Aw 223 w)) 0 0 (Aw 223 w) :=
  cX11_laid_met l w hI 4294967400 x1 x2 (SA_laid σ2 x1 x2) σ (cm_fX11_laid (fun _ τ => ∀ a b : Nat, Rg1 a b (τ.1 a b)) (fun r1 τ1 => fX12_laid 4294967400 x1 x2 (SB_laid x1 x2 r1 τ1) σ2) (SA_laid σ2 x1 x2) (fun _ _ h1 h2 => ⟨h1, h2⟩) (sX11_laid (Nat.le_refl _) (K1.self g.1) (fun _ τ k _ _ => k.1)) (p_laid (Nat.le_refl _) g.2))
theorem ckX11_bits : Ck yX11_bits cX11_bits 2 (some .int) 1 := ⟨Uw_of (inT4 _ (List.mem_of_getElem? (i := 167) rfl)) rfl, Uw_of (inT1 _ (List.mem_of_getElem? (i := 1) rfl)) rfl, by decide, by decide, by decide +kernel⟩
theorem cvX11_bits : Cv yX11_bits := ⟨Uw_of (inT4 _ (List.mem_of_getElem? (i := 165) rfl)) rfl, Uw_of (inT4 _ (List.mem_of_getElem? (i := 166) rfl)) rfl⟩
def SB_bits (x1 : Int32) (r1 : Int32) (τ1 : St) (r2 : Int32) (τ2 : St) : Prop := r1 = r2 ∧ Rbt Xr τ1 τ2
def SA_bits (σ2 : St) (x1 : Int32) (r1 : Int32) (τ1 : St) : Prop := (∀ a b : Nat, Rg1 a b (τ1.1 a b)) ∧ fX12_bits 4294967400 x1 (SB_bits x1 r1 τ1) σ2
theorem m11_bits (l : Launch) (w : Wd) (hI : Ij 223 w) {σ σ2 : St} (g : GI σ σ2) (x1 : Int32) : Met l yX11_bits (.code yX11_bits cX11_bits 2 (some .int) :: Uw) rmX11_bits (va_Pc [.ref (w.2.1 0), .int x1] (fun U => Rp 223 ev1 w σ U ∧ (X1 w) U)) (va_Qi (SA_bits σ2 x1) (Rp 223 ev1 w) (Aw 223 w)) 0 0 (Aw 223 w) :=
  cX11_bits_met l w hI 4294967400 x1 (SA_bits σ2 x1) σ (cm_fX11_bits (fun _ τ => ∀ a b : Nat, Rg1 a b (τ.1 a b)) (fun r1 τ1 => fX12_bits 4294967400 x1 (SB_bits x1 r1 τ1) σ2) (SA_bits σ2 x1) (fun _ _ h1 h2 => ⟨h1, h2⟩) (sX11_bits (Nat.le_refl _) (K1.self g.1) (fun _ _ => g.1)) (p_bits g.2))
theorem ckX11_forget : Ck yX11_forget cX11_forget 2 (some .int) 0 := ⟨Uw_of (inT4 _ (List.mem_of_getElem? (i := 171) rfl)) rfl, Uw_of (inT1 _ (List.mem_of_getElem? (i := 1) rfl)) rfl, by decide, by decide, by decide +kernel⟩
theorem cvX11_forget : Cv yX11_forget := ⟨Uw_of (inT4 _ (List.mem_of_getElem? (i := 169) rfl)) rfl, Uw_of (inT4 _ (List.mem_of_getElem? (i := 170) rfl)) rfl⟩
def SB_forget (r1 : Int32) (τ1 : St) (r2 : Int32) (τ2 : St) : Prop := r1 = r2 ∧ Rbt Xr τ1 τ2
def SA_forget (σ2 : St) (r1 : Int32) (τ1 : St) : Prop := (∀ a b : Nat, Rg1 a b (τ1.1 a b)) ∧ fX12_forget 4294967400  (SB_forget  r1 τ1) σ2
theorem m11_forget (l : Launch) (w : Wd) (hI : Ij 223 w) {σ σ2 : St} (g : GI σ σ2)  : Met l yX11_forget (.code yX11_forget cX11_forget 2 (some .int) :: Uw) rmX11_forget (va_Pc [.ref (w.2.1 0)] (fun U => Rp 223 ev1 w σ U ∧ (X1 w) U)) (va_Qi (SA_forget σ2 ) (Rp 223 ev1 w) (Aw 223 w)) 0 0 (Aw 223 w) :=
  cX11_forget_met l w hI 4294967400  (SA_forget σ2 ) σ (cm_fX11_forget (fun _ τ => ∀ a b : Nat, Rg1 a b (τ.1 a b)) (fun r1 τ1 => fX12_forget 4294967400  (SB_forget  r1 τ1) σ2) (SA_forget σ2 ) (fun _ _ h1 h2 => ⟨h1, h2⟩) (sX11_forget (Nat.le_refl _) (K1.self g.1) (fun _ τ k _ _ => k.1)) (p_forget g.2))
theorem ckX12_feed : Ck yX12_feed cX12_feed 5 (some .int) 2 := ⟨Uw_of (inT5 _ (List.mem_of_getElem? (i := 137) rfl)) rfl, Uw_of (inT1 _ (List.mem_of_getElem? (i := 12) rfl)) rfl, by decide, by decide, by decide +kernel⟩
theorem cvX12_feed : Cv yX12_feed := ⟨Uw_of (inT5 _ (List.mem_of_getElem? (i := 135) rfl)) rfl, Uw_of (inT5 _ (List.mem_of_getElem? (i := 136) rfl)) rfl⟩
theorem m12_feed (l : Launch) (w : Wd) (hI : Ij 38 w) {σ : St} {Qp : Int32 → St → Prop} (x1 : Int32) (x2 : Int64) (hq : fX12_feed 4294967400 x1 x2 Qp σ) : Met l yX12_feed (.code yX12_feed cX12_feed 5 (some .int) :: Uw) rmX12_feed (va_Pc [.ref (w.2.1 0), .int x1, .long x2] (fun U => Rp 38 ev2 w σ U ∧ X2 U)) (va_Qi (Qp) (Rp 38 ev2 w) (Aw 38 w)) 0 0 (Aw 38 w) :=
  cX12_feed_met l w hI 4294967400 x1 x2 Qp σ hq
theorem ckX12_load : Ck yX12_load cX12_load 4 (some .int) 1 := ⟨Uw_of (inT5 _ (List.mem_of_getElem? (i := 146) rfl)) rfl, Uw_of (inT1 _ (List.mem_of_getElem? (i := 12) rfl)) rfl, by decide, by decide, by decide +kernel⟩
theorem cvX12_load : Cv yX12_load := ⟨Uw_of (inT5 _ (List.mem_of_getElem? (i := 144) rfl)) rfl, Uw_of (inT5 _ (List.mem_of_getElem? (i := 145) rfl)) rfl⟩
theorem m12_load (l : Launch) (w : Wd) (hI : Ij 38 w) {σ : St} {Qp : Int32 → St → Prop} (x1 : Int32) (hq : fX12_load 4294967400 x1 Qp σ) : Met l yX12_load (.code yX12_load cX12_load 4 (some .int) :: Uw) rmX12_load (va_Pc [.ref (w.2.1 0), .int x1] (fun U => Rp 38 ev2 w σ U ∧ X2 U)) (va_Qi (Qp) (Rp 38 ev2 w) (Aw 38 w)) 0 0 (Aw 38 w) :=
  cX12_load_met l w hI 4294967400 x1 Qp σ hq
theorem ckX12_border : Ck yX12_border cX12_border 3 (some .int) 1 := ⟨Uw_of (inT5 _ (List.mem_of_getElem? (i := 155) rfl)) rfl, Uw_of (inT1 _ (List.mem_of_getElem? (i := 12) rfl)) rfl, by decide, by decide, by decide +kernel⟩
theorem cvX12_border : Cv yX12_border := ⟨Uw_of (inT5 _ (List.mem_of_getElem? (i := 153) rfl)) rfl, Uw_of (inT5 _ (List.mem_of_getElem? (i := 154) rfl)) rfl⟩
theorem m12_border (l : Launch) (w : Wd) (hI : Ij 38 w) {σ : St} {Qp : Int32 → St → Prop} (x1 : Int32) (hq : fX12_border 4294967400 x1 Qp σ) : Met l yX12_border (.code yX12_border cX12_border 3 (some .int) :: Uw) rmX12_border (va_Pc [.ref (w.2.1 0), .int x1] (fun U => Rp 38 ev2 w σ U ∧ X2 U)) (va_Qi (Qp) (Rp 38 ev2 w) (Aw 38 w)) 0 0 (Aw 38 w) :=
  cX12_border_met l w hI 4294967400 x1 Qp σ hq
theorem ckX12_byteAt : Ck yX12_byteAt cX12_byteAt 2 (some .int) 1 := ⟨Uw_of (inT5 _ (List.mem_of_getElem? (i := 159) rfl)) rfl, Uw_of (inT1 _ (List.mem_of_getElem? (i := 12) rfl)) rfl, by decide, by decide, by decide +kernel⟩
theorem cvX12_byteAt : Cv yX12_byteAt := ⟨Uw_of (inT5 _ (List.mem_of_getElem? (i := 157) rfl)) rfl, Uw_of (inT5 _ (List.mem_of_getElem? (i := 158) rfl)) rfl⟩
theorem m12_byteAt (l : Launch) (w : Wd) (hI : Ij 38 w) {σ : St} {Qp : Int32 → St → Prop} (x1 : Int32) (hq : fX12_byteAt 4294967400 x1 Qp σ) : Met l yX12_byteAt (.code yX12_byteAt cX12_byteAt 2 (some .int) :: Uw) rmX12_byteAt (va_Pc [.ref (w.2.1 0), .int x1] (fun U => Rp 38 ev2 w σ U ∧ X2 U)) (va_Qi (Qp) (Rp 38 ev2 w) (Aw 38 w)) 0 0 (Aw 38 w) :=
  cX12_byteAt_met l w hI 4294967400 x1 Qp σ hq
theorem ckX12_table : Ck yX12_table cX12_table 2 (some .int) 1 := ⟨Uw_of (inT5 _ (List.mem_of_getElem? (i := 164) rfl)) rfl, Uw_of (inT1 _ (List.mem_of_getElem? (i := 12) rfl)) rfl, by decide, by decide, by decide +kernel⟩
theorem cvX12_table : Cv yX12_table := ⟨Uw_of (inT5 _ (List.mem_of_getElem? (i := 162) rfl)) rfl, Uw_of (inT5 _ (List.mem_of_getElem? (i := 163) rfl)) rfl⟩
theorem m12_table (l : Launch) (w : Wd) (hI : Ij 38 w) {σ : St} {Qp : Int32 → St → Prop} (x1 : Int32) (hq : fX12_table 4294967400 x1 Qp σ) : Met l yX12_table (.code yX12_table cX12_table 2 (some .int) :: Uw) rmX12_table (va_Pc [.ref (w.2.1 0), .int x1] (fun U => Rp 38 ev2 w σ U ∧ X2 U)) (va_Qi (Qp) (Rp 38 ev2 w) (Aw 38 w)) 0 0 (Aw 38 w) :=
  cX12_table_met l w hI 4294967400 x1 Qp σ hq
theorem ckX12_system : Ck yX12_system cX12_system 3 (some .int) 2 := ⟨Uw_of (inT5 _ (List.mem_of_getElem? (i := 193) rfl)) rfl, Uw_of (inT1 _ (List.mem_of_getElem? (i := 12) rfl)) rfl, by decide, by decide, by decide +kernel⟩
theorem cvX12_system : Cv yX12_system := ⟨Uw_of (inT5 _ (List.mem_of_getElem? (i := 191) rfl)) rfl, Uw_of (inT5 _ (List.mem_of_getElem? (i := 192) rfl)) rfl⟩
theorem m12_system (l : Launch) (w : Wd) (hI : Ij 38 w) {σ : St} {Qp : Int32 → St → Prop} (x1 : Int32) (x2 : Int32) (hq : fX12_system 4294967400 x1 x2 Qp σ) : Met l yX12_system (.code yX12_system cX12_system 3 (some .int) :: Uw) rmX12_system (va_Pc [.ref (w.2.1 0), .int x1, .int x2] (fun U => Rp 38 ev2 w σ U ∧ X2 U)) (va_Qi (Qp) (Rp 38 ev2 w) (Aw 38 w)) 0 0 (Aw 38 w) :=
  cX12_system_met l w hI 4294967400 x1 x2 Qp σ hq
theorem ckX12_print : Ck yX12_print cX12_print 3 (some .int) 2 := ⟨Uw_of (inT5 _ (List.mem_of_getElem? (i := 198) rfl)) rfl, Uw_of (inT1 _ (List.mem_of_getElem? (i := 12) rfl)) rfl, by decide, by decide, by decide +kernel⟩
theorem cvX12_print : Cv yX12_print := ⟨Uw_of (inT5 _ (List.mem_of_getElem? (i := 196) rfl)) rfl, Uw_of (inT5 _ (List.mem_of_getElem? (i := 197) rfl)) rfl⟩
theorem m12_print (l : Launch) (w : Wd) (hI : Ij 38 w) {σ : St} {Qp : Int32 → St → Prop} (x1 : Int32) (x2 : Int32) (hq : fX12_print 4294967400 x1 x2 Qp σ) : Met l yX12_print (.code yX12_print cX12_print 3 (some .int) :: Uw) rmX12_print (va_Pc [.ref (w.2.1 0), .int x1, .int x2] (fun U => Rp 38 ev2 w σ U ∧ X2 U)) (va_Qi (Qp) (Rp 38 ev2 w) (Aw 38 w)) 0 0 (Aw 38 w) :=
  cX12_print_met l w hI 4294967400 x1 x2 Qp σ hq
theorem ckX12_number : Ck yX12_number cX12_number 3 (some .int) 2 := ⟨Uw_of (inT6 _ (List.mem_of_getElem? (i := 33) rfl)) rfl, Uw_of (inT1 _ (List.mem_of_getElem? (i := 12) rfl)) rfl, by decide, by decide, by decide +kernel⟩
theorem cvX12_number : Cv yX12_number := ⟨Uw_of (inT6 _ (List.mem_of_getElem? (i := 31) rfl)) rfl, Uw_of (inT6 _ (List.mem_of_getElem? (i := 32) rfl)) rfl⟩
theorem m12_number (l : Launch) (w : Wd) (hI : Ij 38 w) {σ : St} {Qp : Int32 → St → Prop} (x1 : Int32) (x2 : Int32) (hq : fX12_number 4294967400 x1 x2 Qp σ) : Met l yX12_number (.code yX12_number cX12_number 3 (some .int) :: Uw) rmX12_number (va_Pc [.ref (w.2.1 0), .int x1, .int x2] (fun U => Rp 38 ev2 w σ U ∧ X2 U)) (va_Qi (Qp) (Rp 38 ev2 w) (Aw 38 w)) 0 0 (Aw 38 w) :=
  cX12_number_met l w hI 4294967400 x1 x2 Qp σ hq
theorem ckX12_call : Ck yX12_call cX12_call 4 (some .int) 2 := ⟨Uw_of (inT6 _ (List.mem_of_getElem? (i := 37) rfl)) rfl, Uw_of (inT1 _ (List.mem_of_getElem? (i := 12) rfl)) rfl, by decide, by decide, by decide +kernel⟩
theorem cvX12_call : Cv yX12_call := ⟨Uw_of (inT6 _ (List.mem_of_getElem? (i := 35) rfl)) rfl, Uw_of (inT6 _ (List.mem_of_getElem? (i := 36) rfl)) rfl⟩
theorem m12_call (l : Launch) (w : Wd) (hI : Ij 38 w) {σ : St} {Qp : Int32 → St → Prop} (x1 : Int32) (x2 : Int32) (hq : fX12_call 4294967400 x1 x2 Qp σ) : Met l yX12_call (.code yX12_call cX12_call 4 (some .int) :: Uw) rmX12_call (va_Pc [.ref (w.2.1 0), .int x1, .int x2] (fun U => Rp 38 ev2 w σ U ∧ X2 U)) (va_Qi (Qp) (Rp 38 ev2 w) (Aw 38 w)) 0 0 (Aw 38 w) :=
  cX12_call_met l w hI 4294967400 x1 x2 Qp σ hq
theorem ckX12_resume : Ck yX12_resume cX12_resume 2 (some .int) 1 := ⟨Uw_of (inT6 _ (List.mem_of_getElem? (i := 41) rfl)) rfl, Uw_of (inT1 _ (List.mem_of_getElem? (i := 12) rfl)) rfl, by decide, by decide, by decide +kernel⟩
theorem cvX12_resume : Cv yX12_resume := ⟨Uw_of (inT6 _ (List.mem_of_getElem? (i := 39) rfl)) rfl, Uw_of (inT6 _ (List.mem_of_getElem? (i := 40) rfl)) rfl⟩
theorem m12_resume (l : Launch) (w : Wd) (hI : Ij 38 w) {σ : St} {Qp : Int32 → St → Prop} (x1 : Int32) (hq : fX12_resume 4294967400 x1 Qp σ) : Met l yX12_resume (.code yX12_resume cX12_resume 2 (some .int) :: Uw) rmX12_resume (va_Pc [.ref (w.2.1 0), .int x1] (fun U => Rp 38 ev2 w σ U ∧ X2 U)) (va_Qi (Qp) (Rp 38 ev2 w) (Aw 38 w)) 0 0 (Aw 38 w) :=
  cX12_resume_met l w hI 4294967400 x1 Qp σ hq
theorem ckX12_stop : Ck yX12_stop cX12_stop 2 (some .int) 0 := ⟨Uw_of (inT6 _ (List.mem_of_getElem? (i := 45) rfl)) rfl, Uw_of (inT1 _ (List.mem_of_getElem? (i := 12) rfl)) rfl, by decide, by decide, by decide +kernel⟩
theorem cvX12_stop : Cv yX12_stop := ⟨Uw_of (inT6 _ (List.mem_of_getElem? (i := 43) rfl)) rfl, Uw_of (inT6 _ (List.mem_of_getElem? (i := 44) rfl)) rfl⟩
theorem m12_stop (l : Launch) (w : Wd) (hI : Ij 38 w) {σ : St} {Qp : Int32 → St → Prop}  (hq : fX12_stop 4294967400  Qp σ) : Met l yX12_stop (.code yX12_stop cX12_stop 2 (some .int) :: Uw) rmX12_stop (va_Pc [.ref (w.2.1 0)] (fun U => Rp 38 ev2 w σ U ∧ X2 U)) (va_Qi (Qp) (Rp 38 ev2 w) (Aw 38 w)) 0 0 (Aw 38 w) :=
  cX12_stop_met l w hI 4294967400  Qp σ hq
theorem ckX12_jobs : Ck yX12_jobs cX12_jobs 1 (some .int) 0 := ⟨Uw_of (inT6 _ (List.mem_of_getElem? (i := 49) rfl)) rfl, Uw_of (inT1 _ (List.mem_of_getElem? (i := 12) rfl)) rfl, by decide, by decide, by decide +kernel⟩
theorem cvX12_jobs : Cv yX12_jobs := ⟨Uw_of (inT6 _ (List.mem_of_getElem? (i := 47) rfl)) rfl, Uw_of (inT6 _ (List.mem_of_getElem? (i := 48) rfl)) rfl⟩
theorem m12_jobs (l : Launch) (w : Wd) (hI : Ij 38 w) {σ : St} {Qp : Int32 → St → Prop}  (hq : fX12_jobs 4294967400  Qp σ) : Met l yX12_jobs (.code yX12_jobs cX12_jobs 1 (some .int) :: Uw) rmX12_jobs (va_Pc [.ref (w.2.1 0)] (fun U => Rp 38 ev2 w σ U ∧ X2 U)) (va_Qi (Qp) (Rp 38 ev2 w) (Aw 38 w)) 0 0 (Aw 38 w) :=
  cX12_jobs_met l w hI 4294967400  Qp σ hq
theorem ckX12_job : Ck yX12_job cX12_job 3 (some .int) 2 := ⟨Uw_of (inT6 _ (List.mem_of_getElem? (i := 53) rfl)) rfl, Uw_of (inT1 _ (List.mem_of_getElem? (i := 12) rfl)) rfl, by decide, by decide, by decide +kernel⟩
theorem cvX12_job : Cv yX12_job := ⟨Uw_of (inT6 _ (List.mem_of_getElem? (i := 51) rfl)) rfl, Uw_of (inT6 _ (List.mem_of_getElem? (i := 52) rfl)) rfl⟩
theorem m12_job (l : Launch) (w : Wd) (hI : Ij 38 w) {σ : St} {Qp : Int32 → St → Prop} (x1 : Int32) (x2 : Int32) (hq : fX12_job 4294967400 x1 x2 Qp σ) : Met l yX12_job (.code yX12_job cX12_job 3 (some .int) :: Uw) rmX12_job (va_Pc [.ref (w.2.1 0), .int x1, .int x2] (fun U => Rp 38 ev2 w σ U ∧ X2 U)) (va_Qi (Qp) (Rp 38 ev2 w) (Aw 38 w)) 0 0 (Aw 38 w) :=
  cX12_job_met l w hI 4294967400 x1 x2 Qp σ hq
theorem ckX12_at : Ck yX12_at cX12_at 2 (some .int) 1 := ⟨Uw_of (inT6 _ (List.mem_of_getElem? (i := 57) rfl)) rfl, Uw_of (inT1 _ (List.mem_of_getElem? (i := 12) rfl)) rfl, by decide, by decide, by decide +kernel⟩
theorem cvX12_at : Cv yX12_at := ⟨Uw_of (inT6 _ (List.mem_of_getElem? (i := 55) rfl)) rfl, Uw_of (inT6 _ (List.mem_of_getElem? (i := 56) rfl)) rfl⟩
theorem m12_at (l : Launch) (w : Wd) (hI : Ij 38 w) {σ : St} {Qp : Int32 → St → Prop} (x1 : Int32) (hq : fX12_at 4294967400 x1 Qp σ) : Met l yX12_at (.code yX12_at cX12_at 2 (some .int) :: Uw) rmX12_at (va_Pc [.ref (w.2.1 0), .int x1] (fun U => Rp 38 ev2 w σ U ∧ X2 U)) (va_Qi (Qp) (Rp 38 ev2 w) (Aw 38 w)) 0 0 (Aw 38 w) :=
  cX12_at_met l w hI 4294967400 x1 Qp σ hq
theorem ckX12_clear : Ck yX12_clear cX12_clear 2 (some .int) 0 := ⟨Uw_of (inT6 _ (List.mem_of_getElem? (i := 61) rfl)) rfl, Uw_of (inT1 _ (List.mem_of_getElem? (i := 12) rfl)) rfl, by decide, by decide, by decide +kernel⟩
theorem cvX12_clear : Cv yX12_clear := ⟨Uw_of (inT6 _ (List.mem_of_getElem? (i := 59) rfl)) rfl, Uw_of (inT6 _ (List.mem_of_getElem? (i := 60) rfl)) rfl⟩
theorem m12_clear (l : Launch) (w : Wd) (hI : Ij 38 w) {σ : St} {Qp : Int32 → St → Prop}  (hq : fX12_clear 4294967400  Qp σ) : Met l yX12_clear (.code yX12_clear cX12_clear 2 (some .int) :: Uw) rmX12_clear (va_Pc [.ref (w.2.1 0)] (fun U => Rp 38 ev2 w σ U ∧ X2 U)) (va_Qi (Qp) (Rp 38 ev2 w) (Aw 38 w)) 0 0 (Aw 38 w) :=
  cX12_clear_met l w hI 4294967400  Qp σ hq
theorem ckX12_told : Ck yX12_told cX12_told 2 (some .int) 1 := ⟨Uw_of (inT6 _ (List.mem_of_getElem? (i := 65) rfl)) rfl, Uw_of (inT1 _ (List.mem_of_getElem? (i := 12) rfl)) rfl, by decide, by decide, by decide +kernel⟩
theorem cvX12_told : Cv yX12_told := ⟨Uw_of (inT6 _ (List.mem_of_getElem? (i := 63) rfl)) rfl, Uw_of (inT6 _ (List.mem_of_getElem? (i := 64) rfl)) rfl⟩
theorem m12_told (l : Launch) (w : Wd) (hI : Ij 38 w) {σ : St} {Qp : Int32 → St → Prop} (x1 : Int32) (hq : fX12_told 4294967400 x1 Qp σ) : Met l yX12_told (.code yX12_told cX12_told 2 (some .int) :: Uw) rmX12_told (va_Pc [.ref (w.2.1 0), .int x1] (fun U => Rp 38 ev2 w σ U ∧ X2 U)) (va_Qi (Qp) (Rp 38 ev2 w) (Aw 38 w)) 0 0 (Aw 38 w) :=
  cX12_told_met l w hI 4294967400 x1 Qp σ hq
theorem ckX12_sign : Ck yX12_sign cX12_sign 2 (some .int) 1 := ⟨Uw_of (inT6 _ (List.mem_of_getElem? (i := 69) rfl)) rfl, Uw_of (inT1 _ (List.mem_of_getElem? (i := 12) rfl)) rfl, by decide, by decide, by decide +kernel⟩
theorem cvX12_sign : Cv yX12_sign := ⟨Uw_of (inT6 _ (List.mem_of_getElem? (i := 67) rfl)) rfl, Uw_of (inT6 _ (List.mem_of_getElem? (i := 68) rfl)) rfl⟩
theorem m12_sign (l : Launch) (w : Wd) (hI : Ij 38 w) {σ : St} {Qp : Int32 → St → Prop} (x1 : Int32) (hq : fX12_sign 4294967400 x1 Qp σ) : Met l yX12_sign (.code yX12_sign cX12_sign 2 (some .int) :: Uw) rmX12_sign (va_Pc [.ref (w.2.1 0), .int x1] (fun U => Rp 38 ev2 w σ U ∧ X2 U)) (va_Qi (Qp) (Rp 38 ev2 w) (Aw 38 w)) 0 0 (Aw 38 w) :=
  cX12_sign_met l w hI 4294967400 x1 Qp σ hq
theorem ckX12_piece : Ck yX12_piece cX12_piece 5 (some .int) 1 := ⟨Uw_of (inT6 _ (List.mem_of_getElem? (i := 73) rfl)) rfl, Uw_of (inT1 _ (List.mem_of_getElem? (i := 12) rfl)) rfl, by decide, by decide, by decide +kernel⟩
theorem cvX12_piece : Cv yX12_piece := ⟨Uw_of (inT6 _ (List.mem_of_getElem? (i := 71) rfl)) rfl, Uw_of (inT6 _ (List.mem_of_getElem? (i := 72) rfl)) rfl⟩
theorem m12_piece (l : Launch) (w : Wd) (hI : Ij 38 w) {σ : St} {Qp : Int32 → St → Prop} (x1 : Int32) (hq : fX12_piece 4294967400 x1 Qp σ) : Met l yX12_piece (.code yX12_piece cX12_piece 5 (some .int) :: Uw) rmX12_piece (va_Pc [.ref (w.2.1 0), .int x1] (fun U => Rp 38 ev2 w σ U ∧ X2 U)) (va_Qi (Qp) (Rp 38 ev2 w) (Aw 38 w)) 0 0 (Aw 38 w) :=
  cX12_piece_met l w hI 4294967400 x1 Qp σ hq
theorem ckX12_text : Ck yX12_text cX12_text 3 (some .int) 0 := ⟨Uw_of (inT6 _ (List.mem_of_getElem? (i := 78) rfl)) rfl, Uw_of (inT1 _ (List.mem_of_getElem? (i := 12) rfl)) rfl, by decide, by decide, by decide +kernel⟩
theorem cvX12_text : Cv yX12_text := ⟨Uw_of (inT6 _ (List.mem_of_getElem? (i := 76) rfl)) rfl, Uw_of (inT6 _ (List.mem_of_getElem? (i := 77) rfl)) rfl⟩
theorem m12_text (l : Launch) (w : Wd) (hI : Ij 38 w) {σ : St} {Qp : Int32 → St → Prop}  (hq : fX12_text 4294967400  Qp σ) : Met l yX12_text (.code yX12_text cX12_text 3 (some .int) :: Uw) rmX12_text (va_Pc [.ref (w.2.1 0)] (fun U => Rp 38 ev2 w σ U ∧ X2 U)) (va_Qi (Qp) (Rp 38 ev2 w) (Aw 38 w)) 0 0 (Aw 38 w) :=
  cX12_text_met l w hI 4294967400  Qp σ hq
theorem ckX12_tree : Ck yX12_tree cX12_tree 10 (some .int) 1 := ⟨Uw_of (inT6 _ (List.mem_of_getElem? (i := 90) rfl)) rfl, Uw_of (inT1 _ (List.mem_of_getElem? (i := 12) rfl)) rfl, by decide, by decide, by decide +kernel⟩
theorem cvX12_tree : Cv yX12_tree := ⟨Uw_of (inT6 _ (List.mem_of_getElem? (i := 88) rfl)) rfl, Uw_of (inT6 _ (List.mem_of_getElem? (i := 89) rfl)) rfl⟩
theorem m12_tree (l : Launch) (w : Wd) (hI : Ij 38 w) {σ : St} {Qp : Int32 → St → Prop} (x1 : Int32) (hq : fX12_tree 4294967400 x1 Qp σ) : Met l yX12_tree (.code yX12_tree cX12_tree 10 (some .int) :: Uw) rmX12_tree (va_Pc [.ref (w.2.1 0), .int x1] (fun U => Rp 38 ev2 w σ U ∧ X2 U)) (va_Qi (Qp) (Rp 38 ev2 w) (Aw 38 w)) 0 0 (Aw 38 w) :=
  cX12_tree_met l w hI 4294967400 x1 Qp σ hq
theorem ckX12_laid : Ck yX12_laid cX12_laid 3 (some .int) 2 := ⟨Uw_of (inT6 _ (List.mem_of_getElem? (i := 126) rfl)) rfl, Uw_of (inT1 _ (List.mem_of_getElem? (i := 12) rfl)) rfl, by decide, by decide, by decide +kernel⟩
theorem cvX12_laid : Cv yX12_laid := ⟨Uw_of (inT6 _ (List.mem_of_getElem? (i := 124) rfl)) rfl, Uw_of (inT6 _ (List.mem_of_getElem? (i := 125) rfl)) rfl⟩
theorem m12_laid (l : Launch) (w : Wd) (hI : Ij 38 w) {σ : St} {Qp : Int32 → St → Prop} (x1 : Int32) (x2 : Int32) (hq : fX12_laid 4294967400 x1 x2 Qp σ) : Met l yX12_laid (.code yX12_laid cX12_laid 3 (some .int) :: Uw) rmX12_laid (va_Pc [.ref (w.2.1 0), .int x1, .int x2] (fun U => Rp 38 ev2 w σ U ∧ X2 U)) (va_Qi (Qp) (Rp 38 ev2 w) (Aw 38 w)) 0 0 (Aw 38 w) :=
  cX12_laid_met l w hI 4294967400 x1 x2 Qp σ hq
theorem ckX12_bits : Ck yX12_bits cX12_bits 2 (some .int) 1 := ⟨Uw_of (inT6 _ (List.mem_of_getElem? (i := 130) rfl)) rfl, Uw_of (inT1 _ (List.mem_of_getElem? (i := 12) rfl)) rfl, by decide, by decide, by decide +kernel⟩
theorem cvX12_bits : Cv yX12_bits := ⟨Uw_of (inT6 _ (List.mem_of_getElem? (i := 128) rfl)) rfl, Uw_of (inT6 _ (List.mem_of_getElem? (i := 129) rfl)) rfl⟩
theorem m12_bits (l : Launch) (w : Wd) (hI : Ij 38 w) {σ : St} {Qp : Int32 → St → Prop} (x1 : Int32) (hq : fX12_bits 4294967400 x1 Qp σ) : Met l yX12_bits (.code yX12_bits cX12_bits 2 (some .int) :: Uw) rmX12_bits (va_Pc [.ref (w.2.1 0), .int x1] (fun U => Rp 38 ev2 w σ U ∧ X2 U)) (va_Qi (Qp) (Rp 38 ev2 w) (Aw 38 w)) 0 0 (Aw 38 w) :=
  cX12_bits_met l w hI 4294967400 x1 Qp σ hq
theorem ckX12_forget : Ck yX12_forget cX12_forget 2 (some .int) 0 := ⟨Uw_of (inT6 _ (List.mem_of_getElem? (i := 134) rfl)) rfl, Uw_of (inT1 _ (List.mem_of_getElem? (i := 12) rfl)) rfl, by decide, by decide, by decide +kernel⟩
theorem cvX12_forget : Cv yX12_forget := ⟨Uw_of (inT6 _ (List.mem_of_getElem? (i := 132) rfl)) rfl, Uw_of (inT6 _ (List.mem_of_getElem? (i := 133) rfl)) rfl⟩
theorem m12_forget (l : Launch) (w : Wd) (hI : Ij 38 w) {σ : St} {Qp : Int32 → St → Prop}  (hq : fX12_forget 4294967400  Qp σ) : Met l yX12_forget (.code yX12_forget cX12_forget 2 (some .int) :: Uw) rmX12_forget (va_Pc [.ref (w.2.1 0)] (fun U => Rp 38 ev2 w σ U ∧ X2 U)) (va_Qi (Qp) (Rp 38 ev2 w) (Aw 38 w)) 0 0 (Aw 38 w) :=
  cX12_forget_met l w hI 4294967400  Qp σ hq
theorem ml_c : Cond.constantLong "GlulxStringsLaw" 13 (4294967295 : Int64) ∈ Uw := Uw_of (inT6 _ (List.mem_of_getElem? (i := 135) rfl)) rfl
