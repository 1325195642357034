-- GlulxStrings$Machine
theorem ku_code2 : Cond.code yX2_init cX2_init 4 none ∈ Uw := Uw_of (inT1 _ (List.mem_of_getElem? (i := 83) rfl)) rfl
def blX2 : List Value := [.null, .null, .null, .null, .null, .null, .int 0, .int 0, .int 0, .int 0, .int 0, .int 0, .int 0]
def fsX2 (a1 a2 sz : Nat) : List Value := [.ref a1, .ref a2, .ref (sz + 0), .ref (sz + 1), .ref (sz + 2), .ref (sz + 3), .int 0, .int 0, .int 0, .int 0, .int 0, .int 0, .int 0]
/-- the row of jobs, i of them laid -/
def jrow (w : Wd) (sz i : Nat) : va_E := .inl (w.2.2 4, 40, .inr (.inr (.inr (.inr (fun j => if j < i then some (sz + 4 + 2 * j) else none)))))
/-- the jobs laid, each with its locals -/
def jc (w : Wd) (sz : Nat) : Nat → List va_E
  | 0 => []
  | i + 1 => jc w sz i ++ (.inr (1, fsX1 (sz + 4 + 2 * i + 1)) :: LX1 w (sz + 4 + 2 * i + 1))
def Lm (w : Wd) (sz i : Nat) : List va_E := [.inr (8, fsX9 (sz + 0 + 1)), jrow w sz i, .inl (w.2.2 0, (1000, .inl (fun _ => 0))), .inl (w.2.2 0, (4, .inl (fun _ => 0)))] ++ jc w sz i
theorem len_jc (w : Wd) (sz : Nat) : ∀ i : Nat, (jc w sz i).length = 2 * i
  | 0 => rfl
  | i + 1 => by
    show (jc w sz i ++ (_ :: LX1 w _)).length = _
    rw [List.length_append, List.length_cons, lenX1, len_jc w sz i]
    omega
theorem len_Lm (w : Wd) (sz i : Nat) : (Lm w sz i).length = 4 + 2 * i := by
  unfold Lm
  rw [List.length_append, len_jc]
  rfl
def LX2 (w : Wd) (_ _ sz : Nat) : List va_E := Lm w sz 40
theorem lenX2 (w : Wd) (a1 a2 sz : Nat) : (LX2 w a1 a2 sz).length = 84 := len_Lm w sz 40
abbrev rmX2_init : Room := { frames := 2, cells := 84, slots := 1692, locals := 32 }
theorem Lm_next (w : Wd) (sz i k : Nat) (hk : k = i) : (Lm w sz i ++ (.inr (1, fsX1 (sz + 4 + 2 * i + 1)) :: LX1 w (sz + 4 + 2 * i + 1))).set 1 (.inl (w.2.2 4, 40, .inr (.inr (.inr (.inr (va_up (fun j => if j < i then some (sz + 4 + 2 * j) else none) k (some (sz + 4 + 2 * i)))))))) = Lm w sz (i + 1) := by
  subst hk
  have hf : va_up (fun j => if j < k then some (sz + 4 + 2 * j) else none) k (some (sz + 4 + 2 * k)) = fun j => if j < k + 1 then some (sz + 4 + 2 * j) else none := by
    funext j
    unfold va_up
    dsimp only
    by_cases e : j = k
    · rw [if_pos e, if_pos (by omega), e]
    · by_cases g : j < k
      · rw [if_neg e, if_pos g, if_pos (by omega)]
      · rw [if_neg e, if_neg g, if_neg (by omega)]
  rw [hf]
  rfl
set_option maxHeartbeats 4000000 in
set_option maxRecDepth 100000 in
theorem kX2_loop {p : Program} {e : Env} {s : State} {m : MethodId} {args : Array Value} {below : List Frame} {meth : Method} {c : Code} (l : Launch) (w : Wd) (h0 a1 a2 : Nat) (E : Ci w cX2_init 4 RX2 (.code yX2_init cX2_init 4 none) p s m args meth c) : ∀ (n i : Nat) (x : Int32) (H : Heap) (locs : List Loc) (ls : Array Slot), i + n = 40 → x.toInt = i → lv_has ls 4 [(3, .int x), (0, .ref h0), (1, .ref a1), (2, .ref a2)] → Cn w h0 2 (fsX2 a1 a2 s.heap.size) (Lm w s.heap.size i) s H locs → W p l e rmX2_init s m args below meth c H locs (4 + 2 * i) (1052 + 16 * i) (MQ below (KQ w h0 2 (fsX2 a1 a2 s.heap.size) (LX2 w a1 a2 s.heap.size) s.heap.size) args s 84 1692 (Ai h0 s.heap.size)) (F0 m 87 ls []) := by
  obtain ⟨hx, hb, hml, hown, hts, -⟩ := id E
  intro n
  induction n with
  | zero =>
    intro i x H locs ls hi hxi hl hC
    have ei : i = 40 := by omega
    subst ei
    refine lv_iload_n (pc := 87) hx hb dX2_init_87 rfl (lv_at hl 0 rfl) ?_
    refine lv_bipush (pc := 88) (v := 40) hx hb dX2_init_88 (by decide) ?_
    refine lv_icmp_ge (pc := 90) (tgt := 112) hx hb dX2_init_90 (by decide) (fun c_2 => ?_) (fun c_2 => ?_)
    · exact k_ret (pc := 112) (L := LX2 w a1 a2 s.heap.size) E hC rfl dX2_init_112
    · exact absurd ((leE (show (40 : Int32).toInt = 40 from by decide) hxi).mpr (by omega)) c_2
  | succ n ih =>
    intro i x H locs ls hi hxi hl hC
    refine lv_iload_n (pc := 87) hx hb dX2_init_87 rfl (lv_at hl 0 rfl) ?_
    refine lv_bipush (pc := 88) (v := 40) hx hb dX2_init_88 (by decide) ?_
    refine lv_icmp_ge (pc := 90) (tgt := 112) hx hb dX2_init_90 (by decide) (fun c_2 => ?_) (fun c_2 => ?_)
    · have := (leE (show (40 : Int32).toInt = 40 from by decide) hxi).mp c_2
      omega
    · refine lv_aload_n (pc := 93) hx hb dX2_init_93 rfl (lv_at hl 1 rfl) ?_
      refine k_get (pc := 94) E hC iuX2 rfl 3 (Nat.le_of_ble_eq_true rfl) ku175 rfl (v := .ref (s.heap.size + 1)) rfl dX2_init_94 ?_
      refine lv_iload_n (pc := 97) hx hb dX2_init_97 rfl (lv_at hl 0 rfl) ?_
      refine k_new (pc := 98) (ci' := 1) (fs' := blX1) E hC (s.heap.size + 4 + 2 * i) (by rw [len_Lm]; omega) iuX1 tyX1 tyX1_ok ku167 ku169 ku171 rfl (by decide +kernel) (by show _ ≤ 84; omega) (by show _ ≤ 1692; omega) dX2_init_98 (fun H hC => ?_)
      refine lv_dup (pc := 101) hx hb dX2_init_101 rfl ?_
      refine k_initN (pc := 102) (As := []) (n := 0) E hC (s.heap.size + 4 + 2 * i) (by rw [len_Lm]; omega) (kX1_init l w (s.heap.size + 4 + 2 * i) (s.heap.size + 4 + 2 * i + 1)) ⟨ku_code1, ku171, by decide, by decide, by decide +kernel⟩ rfl ku173 (by decide) ⟨rfl, rfl, Nat.le_of_ble_eq_true rfl, Nat.le_of_ble_eq_true rfl⟩ rfl hl.1 rfl (Nat.le_of_ble_eq_true rfl) dX2_init_102 ⟨by show _ ≤ 84; omega, by show _ ≤ 1692; omega⟩ (fun H locs hC => ?_)
      have hcl := clE hxi (by omega)
      have hjv : (Lm w s.heap.size i ++ (.inr (1, fsX1 (s.heap.size + 4 + 2 * i + 1)) :: LX1 w (s.heap.size + 4 + 2 * i + 1)))[4 + 2 * i]? = some (.inr (1, fsX1 (s.heap.size + 4 + 2 * i + 1))) := by
        rw [List.getElem?_append_right (by rw [len_Lm]; omega), len_Lm, Nat.sub_self]
        rfl
      refine k_aast (pc := 105) (j := 1) (N := 40) (f := fun j => if j < i then some (s.heap.size + 4 + 2 * j) else none) E hC rfl hjv (by omega) (inE hxi (by omega) (by omega)) dX2_init_105 (fun H locs hC => ?_)
      rw [Lm_next w s.heap.size i _ (by omega)] at hC
      have hv : (x + 1).toInt = ((i + 1 : Nat) : Int) := (aOkE hxi (show (1 : Int32).toInt = 1 from by decide) (by omega) (by omega)).trans (by omega)
      refine lv_iinc (pc := 106) (v := x + 1) (lv' := [(3, .int (x + 1)), (0, .ref h0), (1, .ref a1), (2, .ref a2)]) hx hb dX2_init_106 hl (k := 0) rfl rfl (by decide) rfl (fun ls hl => ?_)
      refine lv_goto (pc := 109) (tgt := 87) hx hb dX2_init_109 (by decide) ?_
      refine W.widen (k := 4 + 2 * (i + 1)) (n := 1052 + 16 * (i + 1)) (by omega) (by omega) ?_
      exact ih (i + 1) (x + 1) H locs ls (by omega) hv hl hC
set_option maxHeartbeats 4000000 in
set_option maxRecDepth 100000 in
theorem kX2_init (l : Launch) (w : Wd) (h0 sz : Nat) (a1 : Nat) (a2 : Nat) : KMet l yX2_init cX2_init 4 rmX2_init w h0 2 blX2 (fsX2 a1 a2 sz) (LX2 w a1 a2 sz) sz [.ref a1, .ref a2] 84 1692 := by
  refine k_met (by decide) rfl (Nat.le_of_ble_eq_true rfl) (fun p e s m below meth c ls E hz hl hC => ?_)
  subst hz
  obtain ⟨hx, hb, hml, hown, hts, -⟩ := id E
  replace hl : lv_has ls 4 [(0, .ref h0), (1, .ref a1), (2, .ref a2)] := hl
  refine lv_aload_n (pc := 0) hx hb dX2_init_0 rfl (lv_at hl 0 rfl) ?_
  refine k_obj (pc := 1) E hC ku165 hl.1 dX2_init_1 (Nat.le_of_ble_eq_true rfl) (Nat.le_of_ble_eq_true rfl) ku1 kuobj ?_
  refine lv_aload_n (pc := 4) hx hb dX2_init_4 rfl (lv_at hl 0 rfl) ?_
  refine k_new (pc := 5) (ci' := 8) (fs' := blX9) E hC (s.heap.size + 0) rfl iuX9 tyX9 tyX9_ok ku166 ku168 ku170 rfl (by decide +kernel) (Nat.le_of_ble_eq_true rfl) (Nat.le_of_ble_eq_true rfl) dX2_init_5 (fun H hC => ?_)
  refine lv_dup (pc := 8) hx hb dX2_init_8 rfl ?_
  refine k_initN (pc := 9) (As := []) (n := 0) E hC (s.heap.size + 0) rfl (kX9_init l w (s.heap.size + 0) (s.heap.size + 0 + 1)) ⟨ku_code9, ku170, by decide, by decide, by decide +kernel⟩ rfl ku172 (by decide) ⟨rfl, rfl, Nat.le_of_ble_eq_true rfl, Nat.le_of_ble_eq_true rfl⟩ rfl hl.1 rfl (Nat.le_of_ble_eq_true rfl) dX2_init_9 ⟨Nat.le_of_ble_eq_true rfl, Nat.le_of_ble_eq_true rfl⟩ (fun H locs hC => ?_)
  replace hC : Cn w h0 2 blX2 [.inr (8, fsX9 (s.heap.size + 0 + 1))] s H locs := hC
  refine k_put (pc := 12) E hC iuX2 tyX2 tyX2_ok nmX2 rfl 2 (Nat.le_of_ble_eq_true rfl) ku174 rfl rfl rfl (Nat.le_of_ble_eq_true rfl) dX2_init_12 (fun H locs hC => ?_)
  refine lv_aload_n (pc := 15) hx hb dX2_init_15 rfl (lv_at hl 0 rfl) ?_
  refine lv_bipush (pc := 16) (v := 40) hx hb dX2_init_16 (by decide) ?_
  refine k_anew (pc := 18) (N := 40) E hC (s.heap.size + 1) rfl ku167 (by decide) rfl (Nat.le_of_ble_eq_true rfl) (Nat.le_of_ble_eq_true rfl) (Nat.le_of_ble_eq_true rfl) dX2_init_18 (fun H hC => ?_)
  refine k_put (pc := 21) E hC iuX2 tyX2 tyX2_ok nmX2 rfl 3 (Nat.le_of_ble_eq_true rfl) ku175 rfl rfl rfl (Nat.le_of_ble_eq_true rfl) dX2_init_21 (fun H locs hC => ?_)
  refine lv_aload_n (pc := 24) hx hb dX2_init_24 rfl (lv_at hl 0 rfl) ?_
  refine lv_sipush (pc := 25) (v := 1000) hx hb dX2_init_25 (by decide) ?_
  refine k_newa (pc := 28) (ty := .int) (a0 := (1000, .inl (fun _ => 0))) E hC (s.heap.size + 2) rfl rfl 0 rfl (fun _ h => h) ku6 (fun _ => rfl) (by decide) rfl (Nat.le_of_ble_eq_true rfl) (Nat.le_of_ble_eq_true rfl) (Nat.le_of_ble_eq_true rfl) dX2_init_28 (fun H hC => ?_)
  refine k_put (pc := 30) E hC iuX2 tyX2 tyX2_ok nmX2 rfl 4 (Nat.le_of_ble_eq_true rfl) ku176 rfl rfl rfl (Nat.le_of_ble_eq_true rfl) dX2_init_30 (fun H locs hC => ?_)
  refine lv_aload_n (pc := 33) hx hb dX2_init_33 rfl (lv_at hl 0 rfl) ?_
  refine lv_iconst (pc := 34) (v := 4) hx hb dX2_init_34 (by decide) ?_
  refine k_newa (pc := 35) (ty := .int) (a0 := (4, .inl (fun _ => 0))) E hC (s.heap.size + 3) rfl rfl 0 rfl (fun _ h => h) ku6 (fun _ => rfl) (by decide) rfl (Nat.le_of_ble_eq_true rfl) (Nat.le_of_ble_eq_true rfl) (Nat.le_of_ble_eq_true rfl) dX2_init_35 (fun H hC => ?_)
  refine k_put (pc := 37) E hC iuX2 tyX2 tyX2_ok nmX2 rfl 5 (Nat.le_of_ble_eq_true rfl) ku177 rfl rfl rfl (Nat.le_of_ble_eq_true rfl) dX2_init_37 (fun H locs hC => ?_)
  refine lv_aload_n (pc := 40) hx hb dX2_init_40 rfl (lv_at hl 0 rfl) ?_
  refine lv_iconst (pc := 41) (v := 0) hx hb dX2_init_41 (by decide) ?_
  refine k_put (pc := 42) E hC iuX2 tyX2 tyX2_ok nmX2 rfl 6 (Nat.le_of_ble_eq_true rfl) ku178 rfl rfl rfl (Nat.le_of_ble_eq_true rfl) dX2_init_42 (fun H locs hC => ?_)
  refine lv_aload_n (pc := 45) hx hb dX2_init_45 rfl (lv_at hl 0 rfl) ?_
  refine lv_iconst (pc := 46) (v := 0) hx hb dX2_init_46 (by decide) ?_
  refine k_put (pc := 47) E hC iuX2 tyX2 tyX2_ok nmX2 rfl 7 (Nat.le_of_ble_eq_true rfl) ku179 rfl rfl rfl (Nat.le_of_ble_eq_true rfl) dX2_init_47 (fun H locs hC => ?_)
  refine lv_aload_n (pc := 50) hx hb dX2_init_50 rfl (lv_at hl 0 rfl) ?_
  refine lv_iconst (pc := 51) (v := 0) hx hb dX2_init_51 (by decide) ?_
  refine k_put (pc := 52) E hC iuX2 tyX2 tyX2_ok nmX2 rfl 8 (Nat.le_of_ble_eq_true rfl) ku180 rfl rfl rfl (Nat.le_of_ble_eq_true rfl) dX2_init_52 (fun H locs hC => ?_)
  refine lv_aload_n (pc := 55) hx hb dX2_init_55 rfl (lv_at hl 0 rfl) ?_
  refine lv_iconst (pc := 56) (v := 0) hx hb dX2_init_56 (by decide) ?_
  refine k_put (pc := 57) E hC iuX2 tyX2 tyX2_ok nmX2 rfl 9 (Nat.le_of_ble_eq_true rfl) ku181 rfl rfl rfl (Nat.le_of_ble_eq_true rfl) dX2_init_57 (fun H locs hC => ?_)
  refine lv_aload_n (pc := 60) hx hb dX2_init_60 rfl (lv_at hl 0 rfl) ?_
  refine lv_iconst (pc := 61) (v := 0) hx hb dX2_init_61 (by decide) ?_
  refine k_put (pc := 62) E hC iuX2 tyX2 tyX2_ok nmX2 rfl 10 (Nat.le_of_ble_eq_true rfl) ku182 rfl rfl rfl (Nat.le_of_ble_eq_true rfl) dX2_init_62 (fun H locs hC => ?_)
  refine lv_aload_n (pc := 65) hx hb dX2_init_65 rfl (lv_at hl 0 rfl) ?_
  refine lv_iconst (pc := 66) (v := 0) hx hb dX2_init_66 (by decide) ?_
  refine k_put (pc := 67) E hC iuX2 tyX2 tyX2_ok nmX2 rfl 11 (Nat.le_of_ble_eq_true rfl) ku183 rfl rfl rfl (Nat.le_of_ble_eq_true rfl) dX2_init_67 (fun H locs hC => ?_)
  refine lv_aload_n (pc := 70) hx hb dX2_init_70 rfl (lv_at hl 0 rfl) ?_
  refine lv_iconst (pc := 71) (v := 0) hx hb dX2_init_71 (by decide) ?_
  refine k_put (pc := 72) E hC iuX2 tyX2 tyX2_ok nmX2 rfl 12 (Nat.le_of_ble_eq_true rfl) ku184 rfl rfl rfl (Nat.le_of_ble_eq_true rfl) dX2_init_72 (fun H locs hC => ?_)
  refine lv_aload_n (pc := 75) hx hb dX2_init_75 rfl (lv_at hl 0 rfl) ?_
  refine lv_aload_n (pc := 76) hx hb dX2_init_76 rfl (lv_at hl 1 rfl) ?_
  refine k_put (pc := 77) E hC iuX2 tyX2 tyX2_ok nmX2 rfl 0 (Nat.le_of_ble_eq_true rfl) ku185 rfl rfl rfl (Nat.le_of_ble_eq_true rfl) dX2_init_77 (fun H locs hC => ?_)
  refine lv_aload_n (pc := 80) hx hb dX2_init_80 rfl (lv_at hl 0 rfl) ?_
  refine lv_aload_n (pc := 81) hx hb dX2_init_81 rfl (lv_at hl 2 rfl) ?_
  refine k_put (pc := 82) E hC iuX2 tyX2 tyX2_ok nmX2 rfl 1 (Nat.le_of_ble_eq_true rfl) ku186 rfl rfl rfl (Nat.le_of_ble_eq_true rfl) dX2_init_82 (fun H locs hC => ?_)
  refine lv_iconst (pc := 85) (v := 0) hx hb dX2_init_85 (by decide) ?_
  refine lv_istore_n (pc := 86) (lv' := [(3, .int 0), (0, .ref h0), (1, .ref a1), (2, .ref a2)]) hx hb dX2_init_86 rfl hl (by decide) rfl (fun ls hl => ?_)
  have hC' : Cn w h0 2 (fsX2 a1 a2 s.heap.size) (Lm w s.heap.size 0) s H locs := by
    have hj : jrow w s.heap.size 0 = .inl (w.2.2 4, 40, .inr (.inr (.inr (.inr (fun _ => none))))) := by
      unfold jrow
      congr
    unfold Lm
    rw [hj]
    exact hC
  exact kX2_loop l w h0 a1 a2 E 40 0 0 H locs ls rfl rfl hl hC'
