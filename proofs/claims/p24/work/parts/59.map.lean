theorem gA {α : Type} {l1 l2 : List α} {n i : Nat} {x : α} (hl : l1.length = n) (h : l2[i]? = some x) : (l1 ++ l2)[n + i]? = some x := by
  subst hl
  rw [List.getElem?_append_right (by omega), show l1.length + i - l1.length = i by omega]
  exact h
theorem gB {α : Type} {l1 l2 : List α} {i : Nat} {x : α} (h : l1[i]? = some x) : (l1 ++ l2)[i]? = some x := by
  have hl : i < l1.length := (List.getElem?_eq_some_iff.mp h).1
  rw [List.getElem?_append_left hl]
  exact h
theorem gC {α : Type} {l : List α} {i : Nat} {x y : α} (h : l[i]? = some x) : (y :: l)[i + 1]? = some x := by
  rw [List.getElem?_cons_succ]
  exact h
theorem gR {α : Type} {n i : Nat} {x : α} (h : i < n) : (List.replicate n x)[i]? = some x := by
  rw [List.getElem?_replicate, if_pos h]
theorem L7c0 {w : Wd} {sz : Nat} {i : Nat} {e : va_E} (h : ([.inl (w.2.2 0, (60, .inl (fun _ => 0)))] : List va_E)[i]? = some e) : (LX7 w sz)[0 + i]? = some e := by
  unfold LX7
  exact (gB (gB (gB (gB (gA (by first | (simp only [List.length_append, List.length_cons, List.length_nil, List.length_replicate, lenX3, lenX8, lenX9, lenX1, lenX2, lenX7, lenX10, lenX6, lenX0, lenX5]; done) | (simp only [List.length_append, List.length_cons, List.length_nil, List.length_replicate, lenX3, lenX8, lenX9, lenX1, lenX2, lenX7, lenX10, lenX6, lenX0, lenX5]; omega)) h)))))
theorem L7c1 {w : Wd} {sz : Nat} {i : Nat} {e : va_E} (h : ([.inl (w.2.2 0, (60, .inl (fun _ => 0)))] : List va_E)[i]? = some e) : (LX7 w sz)[1 + i]? = some e := by
  unfold LX7
  exact (gB (gB (gB (gA (by first | (simp only [List.length_append, List.length_cons, List.length_nil, List.length_replicate, lenX3, lenX8, lenX9, lenX1, lenX2, lenX7, lenX10, lenX6, lenX0, lenX5]; done) | (simp only [List.length_append, List.length_cons, List.length_nil, List.length_replicate, lenX3, lenX8, lenX9, lenX1, lenX2, lenX7, lenX10, lenX6, lenX0, lenX5]; omega)) h))))
theorem L7c2 {w : Wd} {sz : Nat} {i : Nat} {e : va_E} (h : ((.inl (w.2.2 5, 60, .inr (.inr (.inr (.inr (fun i => if i < 60 then some (sz + 2 + 1 + i) else none))))) :: List.replicate 60 (.inl (w.2.2 0, 20, .inl (fun _ => 0)))) : List va_E)[i]? = some e) : (LX7 w sz)[2 + i]? = some e := by
  unfold LX7
  exact (gB (gB (gA (by first | (simp only [List.length_append, List.length_cons, List.length_nil, List.length_replicate, lenX3, lenX8, lenX9, lenX1, lenX2, lenX7, lenX10, lenX6, lenX0, lenX5]; done) | (simp only [List.length_append, List.length_cons, List.length_nil, List.length_replicate, lenX3, lenX8, lenX9, lenX1, lenX2, lenX7, lenX10, lenX6, lenX0, lenX5]; omega)) h)))
theorem L7c3 {w : Wd} {sz : Nat} {i : Nat} {e : va_E} (h : ([.inl (w.2.2 0, (60, .inl (fun _ => 0)))] : List va_E)[i]? = some e) : (LX7 w sz)[63 + i]? = some e := by
  unfold LX7
  exact (gB (gA (by first | (simp only [List.length_append, List.length_cons, List.length_nil, List.length_replicate, lenX3, lenX8, lenX9, lenX1, lenX2, lenX7, lenX10, lenX6, lenX0, lenX5]; done) | (simp only [List.length_append, List.length_cons, List.length_nil, List.length_replicate, lenX3, lenX8, lenX9, lenX1, lenX2, lenX7, lenX10, lenX6, lenX0, lenX5]; omega)) h))
theorem L7c4 {w : Wd} {sz : Nat} {i : Nat} {e : va_E} (h : ([.inl (w.2.2 0, (60, .inl (fun _ => 0)))] : List va_E)[i]? = some e) : (LX7 w sz)[64 + i]? = some e := by
  unfold LX7
  exact (gA (by first | (simp only [List.length_append, List.length_cons, List.length_nil, List.length_replicate, lenX3, lenX8, lenX9, lenX1, lenX2, lenX7, lenX10, lenX6, lenX0, lenX5]; done) | (simp only [List.length_append, List.length_cons, List.length_nil, List.length_replicate, lenX3, lenX8, lenX9, lenX1, lenX2, lenX7, lenX10, lenX6, lenX0, lenX5]; omega)) h)
theorem L10c0 {w : Wd} {sz : Nat} {i : Nat} {e : va_E} (h : ((.inl (w.2.2 5, 20, .inr (.inr (.inr (.inr (fun i => if i < 20 then some (sz + 0 + 1 + i) else none))))) :: List.replicate 20 (.inl (w.2.2 0, 120, .inl (fun _ => 0)))) : List va_E)[i]? = some e) : (LX10 w sz)[0 + i]? = some e := by
  unfold LX10
  exact (gB (gB (gB (gA (by first | (simp only [List.length_append, List.length_cons, List.length_nil, List.length_replicate, lenX3, lenX8, lenX9, lenX1, lenX2, lenX7, lenX10, lenX6, lenX0, lenX5]; done) | (simp only [List.length_append, List.length_cons, List.length_nil, List.length_replicate, lenX3, lenX8, lenX9, lenX1, lenX2, lenX7, lenX10, lenX6, lenX0, lenX5]; omega)) h))))
theorem L10c1 {w : Wd} {sz : Nat} {i : Nat} {e : va_E} (h : ([.inl (w.2.2 0, (20, .inl (fun _ => 0)))] : List va_E)[i]? = some e) : (LX10 w sz)[21 + i]? = some e := by
  unfold LX10
  exact (gB (gB (gA (by first | (simp only [List.length_append, List.length_cons, List.length_nil, List.length_replicate, lenX3, lenX8, lenX9, lenX1, lenX2, lenX7, lenX10, lenX6, lenX0, lenX5]; done) | (simp only [List.length_append, List.length_cons, List.length_nil, List.length_replicate, lenX3, lenX8, lenX9, lenX1, lenX2, lenX7, lenX10, lenX6, lenX0, lenX5]; omega)) h)))
theorem L10c2 {w : Wd} {sz : Nat} {i : Nat} {e : va_E} (h : ([.inl (w.2.2 0, (20, .inl (fun _ => 0)))] : List va_E)[i]? = some e) : (LX10 w sz)[22 + i]? = some e := by
  unfold LX10
  exact (gB (gA (by first | (simp only [List.length_append, List.length_cons, List.length_nil, List.length_replicate, lenX3, lenX8, lenX9, lenX1, lenX2, lenX7, lenX10, lenX6, lenX0, lenX5]; done) | (simp only [List.length_append, List.length_cons, List.length_nil, List.length_replicate, lenX3, lenX8, lenX9, lenX1, lenX2, lenX7, lenX10, lenX6, lenX0, lenX5]; omega)) h))
theorem L10c3 {w : Wd} {sz : Nat} {i : Nat} {e : va_E} (h : ([.inl (w.2.2 0, (20, .inl (fun _ => 0)))] : List va_E)[i]? = some e) : (LX10 w sz)[23 + i]? = some e := by
  unfold LX10
  exact (gA (by first | (simp only [List.length_append, List.length_cons, List.length_nil, List.length_replicate, lenX3, lenX8, lenX9, lenX1, lenX2, lenX7, lenX10, lenX6, lenX0, lenX5]; done) | (simp only [List.length_append, List.length_cons, List.length_nil, List.length_replicate, lenX3, lenX8, lenX9, lenX1, lenX2, lenX7, lenX10, lenX6, lenX0, lenX5]; omega)) h)
theorem L5c0 {w : Wd} {a1 : Nat} {a2 : Nat} {sz : Nat} {i : Nat} {e : va_E} (h : ((.inr (6, fsX7 (sz + 0 + 1)) :: LX7 w (sz + 0 + 1)) : List va_E)[i]? = some e) : (LX5 w a1 a2 sz)[0 + i]? = some e := by
  unfold LX5
  exact (gB (gB (gB (gB (gB (gB (gB (gB (gA (by first | (simp only [List.length_append, List.length_cons, List.length_nil, List.length_replicate, lenX3, lenX8, lenX9, lenX1, lenX2, lenX7, lenX10, lenX6, lenX0, lenX5]; done) | (simp only [List.length_append, List.length_cons, List.length_nil, List.length_replicate, lenX3, lenX8, lenX9, lenX1, lenX2, lenX7, lenX10, lenX6, lenX0, lenX5]; omega)) h)))))))))
theorem L5c1 {w : Wd} {a1 : Nat} {a2 : Nat} {sz : Nat} {i : Nat} {e : va_E} (h : ((.inr (9, fsX10 (sz + 66 + 1)) :: LX10 w (sz + 66 + 1)) : List va_E)[i]? = some e) : (LX5 w a1 a2 sz)[66 + i]? = some e := by
  unfold LX5
  exact (gB (gB (gB (gB (gB (gB (gB (gA (by first | (simp only [List.length_append, List.length_cons, List.length_nil, List.length_replicate, lenX3, lenX8, lenX9, lenX1, lenX2, lenX7, lenX10, lenX6, lenX0, lenX5]; done) | (simp only [List.length_append, List.length_cons, List.length_nil, List.length_replicate, lenX3, lenX8, lenX9, lenX1, lenX2, lenX7, lenX10, lenX6, lenX0, lenX5]; omega)) h))))))))
theorem L5c2 {w : Wd} {a1 : Nat} {a2 : Nat} {sz : Nat} {i : Nat} {e : va_E} (h : ((.inr (5, fsX6 (sz + 0) (sz + 91 + 1)) :: LX6 w (sz + 0) (sz + 91 + 1)) : List va_E)[i]? = some e) : (LX5 w a1 a2 sz)[91 + i]? = some e := by
  unfold LX5
  exact (gB (gB (gB (gB (gB (gB (gA (by first | (simp only [List.length_append, List.length_cons, List.length_nil, List.length_replicate, lenX3, lenX8, lenX9, lenX1, lenX2, lenX7, lenX10, lenX6, lenX0, lenX5]; done) | (simp only [List.length_append, List.length_cons, List.length_nil, List.length_replicate, lenX3, lenX8, lenX9, lenX1, lenX2, lenX7, lenX10, lenX6, lenX0, lenX5]; omega)) h)))))))
theorem L5c3 {w : Wd} {a1 : Nat} {a2 : Nat} {sz : Nat} {i : Nat} {e : va_E} (h : ((.inr (0, fsX0 (sz + 94 + 1)) :: LX0 w (sz + 94 + 1)) : List va_E)[i]? = some e) : (LX5 w a1 a2 sz)[94 + i]? = some e := by
  unfold LX5
  exact (gB (gB (gB (gB (gB (gA (by first | (simp only [List.length_append, List.length_cons, List.length_nil, List.length_replicate, lenX3, lenX8, lenX9, lenX1, lenX2, lenX7, lenX10, lenX6, lenX0, lenX5]; done) | (simp only [List.length_append, List.length_cons, List.length_nil, List.length_replicate, lenX3, lenX8, lenX9, lenX1, lenX2, lenX7, lenX10, lenX6, lenX0, lenX5]; omega)) h))))))
theorem L5c4 {w : Wd} {a1 : Nat} {a2 : Nat} {sz : Nat} {i : Nat} {e : va_E} (h : ((.inl (w.2.2 5, 20, .inr (.inr (.inr (.inr (fun i => if i < 20 then some (sz + 104 + 1 + i) else none))))) :: List.replicate 20 (.inl (w.2.2 0, 120, .inl (fun _ => 0)))) : List va_E)[i]? = some e) : (LX5 w a1 a2 sz)[104 + i]? = some e := by
  unfold LX5
  exact (gB (gB (gB (gB (gA (by first | (simp only [List.length_append, List.length_cons, List.length_nil, List.length_replicate, lenX3, lenX8, lenX9, lenX1, lenX2, lenX7, lenX10, lenX6, lenX0, lenX5]; done) | (simp only [List.length_append, List.length_cons, List.length_nil, List.length_replicate, lenX3, lenX8, lenX9, lenX1, lenX2, lenX7, lenX10, lenX6, lenX0, lenX5]; omega)) h)))))
theorem L5c5 {w : Wd} {a1 : Nat} {a2 : Nat} {sz : Nat} {i : Nat} {e : va_E} (h : ([.inl (w.2.2 0, (20, .inl (fun _ => 0)))] : List va_E)[i]? = some e) : (LX5 w a1 a2 sz)[125 + i]? = some e := by
  unfold LX5
  exact (gB (gB (gB (gA (by first | (simp only [List.length_append, List.length_cons, List.length_nil, List.length_replicate, lenX3, lenX8, lenX9, lenX1, lenX2, lenX7, lenX10, lenX6, lenX0, lenX5]; done) | (simp only [List.length_append, List.length_cons, List.length_nil, List.length_replicate, lenX3, lenX8, lenX9, lenX1, lenX2, lenX7, lenX10, lenX6, lenX0, lenX5]; omega)) h))))
theorem L5c6 {w : Wd} {a1 : Nat} {a2 : Nat} {sz : Nat} {i : Nat} {e : va_E} (h : ([.inl (w.2.2 0, (20, .inl (fun _ => 0)))] : List va_E)[i]? = some e) : (LX5 w a1 a2 sz)[126 + i]? = some e := by
  unfold LX5
  exact (gB (gB (gA (by first | (simp only [List.length_append, List.length_cons, List.length_nil, List.length_replicate, lenX3, lenX8, lenX9, lenX1, lenX2, lenX7, lenX10, lenX6, lenX0, lenX5]; done) | (simp only [List.length_append, List.length_cons, List.length_nil, List.length_replicate, lenX3, lenX8, lenX9, lenX1, lenX2, lenX7, lenX10, lenX6, lenX0, lenX5]; omega)) h)))
theorem L5c7 {w : Wd} {a1 : Nat} {a2 : Nat} {sz : Nat} {i : Nat} {e : va_E} (h : ([.inl (w.2.2 0, (60, .inl (fun _ => 0)))] : List va_E)[i]? = some e) : (LX5 w a1 a2 sz)[127 + i]? = some e := by
  unfold LX5
  exact (gB (gA (by first | (simp only [List.length_append, List.length_cons, List.length_nil, List.length_replicate, lenX3, lenX8, lenX9, lenX1, lenX2, lenX7, lenX10, lenX6, lenX0, lenX5]; done) | (simp only [List.length_append, List.length_cons, List.length_nil, List.length_replicate, lenX3, lenX8, lenX9, lenX1, lenX2, lenX7, lenX10, lenX6, lenX0, lenX5]; omega)) h))
theorem L5c8 {w : Wd} {a1 : Nat} {a2 : Nat} {sz : Nat} {i : Nat} {e : va_E} (h : ([.inl (w.2.2 0, (60, .inl (fun _ => 0)))] : List va_E)[i]? = some e) : (LX5 w a1 a2 sz)[128 + i]? = some e := by
  unfold LX5
  exact (gA (by first | (simp only [List.length_append, List.length_cons, List.length_nil, List.length_replicate, lenX3, lenX8, lenX9, lenX1, lenX2, lenX7, lenX10, lenX6, lenX0, lenX5]; done) | (simp only [List.length_append, List.length_cons, List.length_nil, List.length_replicate, lenX3, lenX8, lenX9, lenX1, lenX2, lenX7, lenX10, lenX6, lenX0, lenX5]; omega)) h)
theorem L11c0 {w : Wd} {sz : Nat} {i : Nat} {e : va_E} (h : ((.inr (3, fsX3 (sz + 0 + 1)) :: LX3 w (sz + 0 + 1)) : List va_E)[i]? = some e) : (LX11 w sz)[0 + i]? = some e := by
  unfold LX11
  exact (gB (gB (gB (gB (gB (gA (by first | (simp only [List.length_append, List.length_cons, List.length_nil, List.length_replicate, lenX3, lenX8, lenX9, lenX1, lenX2, lenX7, lenX10, lenX6, lenX0, lenX5]; done) | (simp only [List.length_append, List.length_cons, List.length_nil, List.length_replicate, lenX3, lenX8, lenX9, lenX1, lenX2, lenX7, lenX10, lenX6, lenX0, lenX5]; omega)) h))))))
theorem L11c1 {w : Wd} {sz : Nat} {i : Nat} {e : va_E} (h : ((.inr (7, fsX8 (sz + 0) (sz + 2 + 1)) :: LX8 w (sz + 0) (sz + 2 + 1)) : List va_E)[i]? = some e) : (LX11 w sz)[2 + i]? = some e := by
  unfold LX11
  exact (gB (gB (gB (gB (gA (by first | (simp only [List.length_append, List.length_cons, List.length_nil, List.length_replicate, lenX3, lenX8, lenX9, lenX1, lenX2, lenX7, lenX10, lenX6, lenX0, lenX5]; done) | (simp only [List.length_append, List.length_cons, List.length_nil, List.length_replicate, lenX3, lenX8, lenX9, lenX1, lenX2, lenX7, lenX10, lenX6, lenX0, lenX5]; omega)) h)))))
theorem L11c2 {w : Wd} {sz : Nat} {i : Nat} {e : va_E} (h : ((.inr (2, fsX2 (sz + 0) (sz + 2) (sz + 5 + 1)) :: LX2 w (sz + 0) (sz + 2) (sz + 5 + 1)) : List va_E)[i]? = some e) : (LX11 w sz)[5 + i]? = some e := by
  unfold LX11
  exact (gB (gB (gB (gA (by first | (simp only [List.length_append, List.length_cons, List.length_nil, List.length_replicate, lenX3, lenX8, lenX9, lenX1, lenX2, lenX7, lenX10, lenX6, lenX0, lenX5]; done) | (simp only [List.length_append, List.length_cons, List.length_nil, List.length_replicate, lenX3, lenX8, lenX9, lenX1, lenX2, lenX7, lenX10, lenX6, lenX0, lenX5]; omega)) h))))
theorem L11c3 {w : Wd} {sz : Nat} {i : Nat} {e : va_E} (h : ((.inr (4, fsX5 (sz + 0) (sz + 2) (sz + 90 + 1)) :: LX5 w (sz + 0) (sz + 2) (sz + 90 + 1)) : List va_E)[i]? = some e) : (LX11 w sz)[90 + i]? = some e := by
  unfold LX11
  exact (gB (gB (gA (by first | (simp only [List.length_append, List.length_cons, List.length_nil, List.length_replicate, lenX3, lenX8, lenX9, lenX1, lenX2, lenX7, lenX10, lenX6, lenX0, lenX5]; done) | (simp only [List.length_append, List.length_cons, List.length_nil, List.length_replicate, lenX3, lenX8, lenX9, lenX1, lenX2, lenX7, lenX10, lenX6, lenX0, lenX5]; omega)) h)))
theorem L11c4 {w : Wd} {sz : Nat} {i : Nat} {e : va_E} (h : ([.inl (w.2.2 1, (600, .inl (fun _ => 0)))] : List va_E)[i]? = some e) : (LX11 w sz)[220 + i]? = some e := by
  unfold LX11
  exact (gB (gA (by first | (simp only [List.length_append, List.length_cons, List.length_nil, List.length_replicate, lenX3, lenX8, lenX9, lenX1, lenX2, lenX7, lenX10, lenX6, lenX0, lenX5]; done) | (simp only [List.length_append, List.length_cons, List.length_nil, List.length_replicate, lenX3, lenX8, lenX9, lenX1, lenX2, lenX7, lenX10, lenX6, lenX0, lenX5]; omega)) h))
theorem L11c5 {w : Wd} {sz : Nat} {i : Nat} {e : va_E} (h : ([.inl (w.2.2 0, (120, .inl (fun _ => 0)))] : List va_E)[i]? = some e) : (LX11 w sz)[221 + i]? = some e := by
  unfold LX11
  exact (gA (by first | (simp only [List.length_append, List.length_cons, List.length_nil, List.length_replicate, lenX3, lenX8, lenX9, lenX1, lenX2, lenX7, lenX10, lenX6, lenX0, lenX5]; done) | (simp only [List.length_append, List.length_cons, List.length_nil, List.length_replicate, lenX3, lenX8, lenX9, lenX1, lenX2, lenX7, lenX10, lenX6, lenX0, lenX5]; omega)) h)
theorem jc_at (w : Wd) (sz : Nat) : ∀ n j : Nat, j < n → (jc w sz n)[2 * j]? = some (.inr (1, fsX1 (sz + 4 + 2 * j + 1))) ∧ (jc w sz n)[2 * j + 1]? = some (.inl (w.2.2 0, 8, .inl (fun _ => 0)))
  | 0, j, h => absurd h (Nat.not_lt_zero _)
  | n + 1, j, h => by
    by_cases e : j < n
    · have ih := jc_at w sz n j e
      exact ⟨gB ih.1, gB ih.2⟩
    · have ej : j = n := by omega
      subst ej
      exact ⟨gA (n := 2 * j) (i := 0) (len_jc w sz j) rfl, gA (n := 2 * j) (i := 1) (len_jc w sz j) rfl⟩
/-- where the cells lie: n the class object's place, t1 and t2 those of the static rows -/
def ad1 (n t1 t2 : Nat) : Nat → Nat
  | 0 => n + 0
  | 1 => n + 0 + 1 + 0
  | 2 => n + 0 + 1 + 2
  | 3 => n + 0 + 1 + 5
  | 4 => n + 0 + 1 + 90
  | 5 => n + 0 + 1 + 5 + 1 + 0
  | 6 => n + 0 + 1 + 90 + 1 + 0
  | 7 => n + 0 + 1 + 90 + 1 + 66
  | 8 => n + 0 + 1 + 90 + 1 + 91
  | 9 => n + 0 + 1 + 90 + 1 + 94
  | 10 => n + 0 + 1 + 220
  | 11 => n + 0 + 1 + 221
  | 12 => n + 0 + 1 + 0 + 1 + 0
  | 13 => n + 0 + 1 + 2 + 1 + 0
  | 14 => n + 0 + 1 + 2 + 1 + 1
  | 15 => n + 0 + 1 + 5 + 1 + 1
  | 16 => n + 0 + 1 + 5 + 1 + 2
  | 17 => n + 0 + 1 + 5 + 1 + 3
  | 18 => n + 0 + 1 + 90 + 1 + 0 + 1 + 0
  | 19 => n + 0 + 1 + 90 + 1 + 0 + 1 + 1
  | 20 => n + 0 + 1 + 90 + 1 + 0 + 1 + 2
  | 21 => n + 0 + 1 + 90 + 1 + 0 + 1 + 63
  | 22 => n + 0 + 1 + 90 + 1 + 0 + 1 + 64
  | 23 => n + 0 + 1 + 90 + 1 + 66 + 1 + 0
  | 24 => n + 0 + 1 + 90 + 1 + 66 + 1 + 21
  | 25 => n + 0 + 1 + 90 + 1 + 66 + 1 + 22
  | 26 => n + 0 + 1 + 90 + 1 + 66 + 1 + 23
  | 27 => n + 0 + 1 + 90 + 1 + 91 + 1 + 0
  | 28 => n + 0 + 1 + 90 + 1 + 91 + 1 + 1
  | 29 => n + 0 + 1 + 90 + 1 + 94 + 1 + 0
  | 30 => n + 0 + 1 + 90 + 1 + 94 + 1 + 1
  | 31 => n + 0 + 1 + 90 + 1 + 94 + 1 + 2
  | 32 => n + 0 + 1 + 90 + 1 + 94 + 1 + 3
  | 33 => n + 0 + 1 + 90 + 1 + 94 + 1 + 4
  | 34 => n + 0 + 1 + 90 + 1 + 94 + 1 + 5
  | 35 => n + 0 + 1 + 90 + 1 + 94 + 1 + 6
  | 36 => n + 0 + 1 + 90 + 1 + 94 + 1 + 7
  | 37 => n + 0 + 1 + 90 + 1 + 94 + 1 + 8
  | 38 => n + 0 + 1 + 90 + 1 + 104
  | 39 => n + 0 + 1 + 90 + 1 + 125
  | 40 => n + 0 + 1 + 90 + 1 + 126
  | 41 => n + 0 + 1 + 90 + 1 + 127
  | 42 => n + 0 + 1 + 90 + 1 + 128
  | k + 43 => if k < 40 then n + 0 + 1 + 5 + 1 + 4 + 2 * k else if k < 80 then n + 0 + 1 + 5 + 1 + 4 + 2 * (k - 40) + 1 + 0 else if k < 140 then n + 0 + 1 + 90 + 1 + 0 + 1 + 2 + 1 + (k - 80) else if k < 160 then n + 0 + 1 + 90 + 1 + 66 + 1 + 0 + 1 + (k - 140) else if k < 180 then n + 0 + 1 + 90 + 1 + 104 + 1 + (k - 160) else if k = 957 then t1 else t2
def off1 : Nat → Nat
  | 0 => 0
  | 1 => 1
  | 2 => 3
  | 3 => 6
  | 4 => 91
  | 5 => 7
  | 6 => 92
  | 7 => 158
  | 8 => 183
  | 9 => 186
  | 10 => 221
  | 11 => 222
  | 12 => 2
  | 13 => 4
  | 14 => 5
  | 15 => 8
  | 16 => 9
  | 17 => 10
  | 18 => 93
  | 19 => 94
  | 20 => 95
  | 21 => 156
  | 22 => 157
  | 23 => 159
  | 24 => 180
  | 25 => 181
  | 26 => 182
  | 27 => 184
  | 28 => 185
  | 29 => 187
  | 30 => 188
  | 31 => 189
  | 32 => 190
  | 33 => 191
  | 34 => 192
  | 35 => 193
  | 36 => 194
  | 37 => 195
  | 38 => 196
  | 39 => 217
  | 40 => 218
  | 41 => 219
  | 42 => 220
  | k + 43 => if k < 40 then 11 + 2 * k else if k < 80 then 12 + 2 * (k - 40) else if k < 140 then 96 + (k - 80) else if k < 160 then 160 + (k - 140) else 197 + (k - 160)
theorem ad1_off (n t1 t2 : Nat) : ∀ k : Nat, k < 223 → ad1 n t1 t2 k = n + off1 k := by
  intro k hk
  match k, hk with
  | 0, _ => (show n + 0 = n + 0); omega
  | 1, _ => (show n + 0 + 1 + 0 = n + 1); omega
  | 2, _ => (show n + 0 + 1 + 2 = n + 3); omega
  | 3, _ => (show n + 0 + 1 + 5 = n + 6); omega
  | 4, _ => (show n + 0 + 1 + 90 = n + 91); omega
  | 5, _ => (show n + 0 + 1 + 5 + 1 + 0 = n + 7); omega
  | 6, _ => (show n + 0 + 1 + 90 + 1 + 0 = n + 92); omega
  | 7, _ => (show n + 0 + 1 + 90 + 1 + 66 = n + 158); omega
  | 8, _ => (show n + 0 + 1 + 90 + 1 + 91 = n + 183); omega
  | 9, _ => (show n + 0 + 1 + 90 + 1 + 94 = n + 186); omega
  | 10, _ => (show n + 0 + 1 + 220 = n + 221); omega
  | 11, _ => (show n + 0 + 1 + 221 = n + 222); omega
  | 12, _ => (show n + 0 + 1 + 0 + 1 + 0 = n + 2); omega
  | 13, _ => (show n + 0 + 1 + 2 + 1 + 0 = n + 4); omega
  | 14, _ => (show n + 0 + 1 + 2 + 1 + 1 = n + 5); omega
  | 15, _ => (show n + 0 + 1 + 5 + 1 + 1 = n + 8); omega
  | 16, _ => (show n + 0 + 1 + 5 + 1 + 2 = n + 9); omega
  | 17, _ => (show n + 0 + 1 + 5 + 1 + 3 = n + 10); omega
  | 18, _ => (show n + 0 + 1 + 90 + 1 + 0 + 1 + 0 = n + 93); omega
  | 19, _ => (show n + 0 + 1 + 90 + 1 + 0 + 1 + 1 = n + 94); omega
  | 20, _ => (show n + 0 + 1 + 90 + 1 + 0 + 1 + 2 = n + 95); omega
  | 21, _ => (show n + 0 + 1 + 90 + 1 + 0 + 1 + 63 = n + 156); omega
  | 22, _ => (show n + 0 + 1 + 90 + 1 + 0 + 1 + 64 = n + 157); omega
  | 23, _ => (show n + 0 + 1 + 90 + 1 + 66 + 1 + 0 = n + 159); omega
  | 24, _ => (show n + 0 + 1 + 90 + 1 + 66 + 1 + 21 = n + 180); omega
  | 25, _ => (show n + 0 + 1 + 90 + 1 + 66 + 1 + 22 = n + 181); omega
  | 26, _ => (show n + 0 + 1 + 90 + 1 + 66 + 1 + 23 = n + 182); omega
  | 27, _ => (show n + 0 + 1 + 90 + 1 + 91 + 1 + 0 = n + 184); omega
  | 28, _ => (show n + 0 + 1 + 90 + 1 + 91 + 1 + 1 = n + 185); omega
  | 29, _ => (show n + 0 + 1 + 90 + 1 + 94 + 1 + 0 = n + 187); omega
  | 30, _ => (show n + 0 + 1 + 90 + 1 + 94 + 1 + 1 = n + 188); omega
  | 31, _ => (show n + 0 + 1 + 90 + 1 + 94 + 1 + 2 = n + 189); omega
  | 32, _ => (show n + 0 + 1 + 90 + 1 + 94 + 1 + 3 = n + 190); omega
  | 33, _ => (show n + 0 + 1 + 90 + 1 + 94 + 1 + 4 = n + 191); omega
  | 34, _ => (show n + 0 + 1 + 90 + 1 + 94 + 1 + 5 = n + 192); omega
  | 35, _ => (show n + 0 + 1 + 90 + 1 + 94 + 1 + 6 = n + 193); omega
  | 36, _ => (show n + 0 + 1 + 90 + 1 + 94 + 1 + 7 = n + 194); omega
  | 37, _ => (show n + 0 + 1 + 90 + 1 + 94 + 1 + 8 = n + 195); omega
  | 38, _ => (show n + 0 + 1 + 90 + 1 + 104 = n + 196); omega
  | 39, _ => (show n + 0 + 1 + 90 + 1 + 125 = n + 217); omega
  | 40, _ => (show n + 0 + 1 + 90 + 1 + 126 = n + 218); omega
  | 41, _ => (show n + 0 + 1 + 90 + 1 + 127 = n + 219); omega
  | 42, _ => (show n + 0 + 1 + 90 + 1 + 128 = n + 220); omega
  | k + 43, hk =>
    unfold ad1 off1
    dsimp only
    split
    · omega
    · split
      · omega
      · split
        · omega
        · split
          · omega
          · split
            · omega
            · omega
def inv1 (i : Nat) : Nat := ([0, 1, 12, 2, 13, 14, 3, 5, 15, 16, 17, 43, 83, 44, 84, 45, 85, 46, 86, 47, 87, 48, 88, 49, 89, 50, 90, 51, 91, 52, 92, 53, 93, 54, 94, 55, 95, 56, 96, 57, 97, 58, 98, 59, 99, 60, 100, 61, 101, 62, 102, 63, 103, 64, 104, 65, 105, 66, 106, 67, 107, 68, 108, 69, 109, 70, 110, 71, 111, 72, 112, 73, 113, 74, 114, 75, 115, 76, 116, 77, 117, 78, 118, 79, 119, 80, 120, 81, 121, 82, 122, 4, 6, 18, 19, 20, 123, 124, 125, 126, 127, 128, 129, 130, 131, 132, 133, 134, 135, 136, 137, 138, 139, 140, 141, 142, 143, 144, 145, 146, 147, 148, 149, 150, 151, 152, 153, 154, 155, 156, 157, 158, 159, 160, 161, 162, 163, 164, 165, 166, 167, 168, 169, 170, 171, 172, 173, 174, 175, 176, 177, 178, 179, 180, 181, 182, 21, 22, 7, 23, 183, 184, 185, 186, 187, 188, 189, 190, 191, 192, 193, 194, 195, 196, 197, 198, 199, 200, 201, 202, 24, 25, 26, 8, 27, 28, 9, 29, 30, 31, 32, 33, 34, 35, 36, 37, 38, 203, 204, 205, 206, 207, 208, 209, 210, 211, 212, 213, 214, 215, 216, 217, 218, 219, 220, 221, 222, 39, 40, 41, 42, 10, 11] : List Nat).getD i 0
theorem off1_inj {i j : Nat} (hi : i < 223) (hj : j < 223) (h : off1 i = off1 j) : i = j := by
  have key : ∀ k : Nat, k < 223 → inv1 (off1 k) = k := by decide +kernel
  rw [← key i hi, ← key j hj, h]
theorem off1_lt : ∀ k : Nat, k < 223 → off1 k < 223 := by decide +kernel
def i1 (k j : Nat) : Int32 := match k with
  | 4 => if j = 11 then -1 else 0
  | k + 43 => if k < 40 then (if j = 5 then 1 else if j = 7 then 255 else 0) else 0
  | _ => 0
def σ1i : St := (i1, fun _ _ => 0)
abbrev La (w : Wd) (n : Nat) : List va_E := .inr (10, fsX11 (n + 0 + 1)) :: LX11 w (n + 0 + 1)
theorem e20 (G : va_G) (cl : Nat → ClassId) (n t1 t2 : Nat) (f : Nat → Int32) (g : Nat → Int64) : ev1 (G, ad1 n t1 t2, cl) f g 20 = .inl (cl 5, 60, .inr (.inr (.inr (.inr (fun i => if i < 60 then some (n + 0 + 1 + 90 + 1 + 0 + 1 + 2 + 1 + i) else none))))) := by
  have hf : (fun i => if i < 60 then some (ad1 n t1 t2 (123 + i)) else none) = fun i => if i < 60 then some (n + 0 + 1 + 90 + 1 + 0 + 1 + 2 + 1 + i) else none := by
    funext i
    by_cases h : i < 60
    · rw [if_pos h, if_pos h, ad1_off n t1 t2 (123 + i) (by omega)]
      congr 1
      rw [show 123 + i = (80 + i) + 43 by omega]
      unfold off1
      dsimp only
      rw [if_neg (by omega), if_neg (by omega), if_pos (by omega)]; omega
    · rw [if_neg h, if_neg h]
  show (Sum.inl (cl 5, 60, .inr (.inr (.inr (.inr (fun i => if i < 60 then some (ad1 n t1 t2 (123 + i)) else none))))) : va_E) = _
  rw [hf]
theorem e23 (G : va_G) (cl : Nat → ClassId) (n t1 t2 : Nat) (f : Nat → Int32) (g : Nat → Int64) : ev1 (G, ad1 n t1 t2, cl) f g 23 = .inl (cl 5, 20, .inr (.inr (.inr (.inr (fun i => if i < 20 then some (n + 0 + 1 + 90 + 1 + 66 + 1 + 0 + 1 + i) else none))))) := by
  have hf : (fun i => if i < 20 then some (ad1 n t1 t2 (183 + i)) else none) = fun i => if i < 20 then some (n + 0 + 1 + 90 + 1 + 66 + 1 + 0 + 1 + i) else none := by
    funext i
    by_cases h : i < 20
    · rw [if_pos h, if_pos h, ad1_off n t1 t2 (183 + i) (by omega)]
      congr 1
      rw [show 183 + i = (140 + i) + 43 by omega]
      unfold off1
      dsimp only
      rw [if_neg (by omega), if_neg (by omega), if_neg (by omega), if_pos (by omega)]; omega
    · rw [if_neg h, if_neg h]
  show (Sum.inl (cl 5, 20, .inr (.inr (.inr (.inr (fun i => if i < 20 then some (ad1 n t1 t2 (183 + i)) else none))))) : va_E) = _
  rw [hf]
theorem e38 (G : va_G) (cl : Nat → ClassId) (n t1 t2 : Nat) (f : Nat → Int32) (g : Nat → Int64) : ev1 (G, ad1 n t1 t2, cl) f g 38 = .inl (cl 5, 20, .inr (.inr (.inr (.inr (fun i => if i < 20 then some (n + 0 + 1 + 90 + 1 + 104 + 1 + i) else none))))) := by
  have hf : (fun i => if i < 20 then some (ad1 n t1 t2 (203 + i)) else none) = fun i => if i < 20 then some (n + 0 + 1 + 90 + 1 + 104 + 1 + i) else none := by
    funext i
    by_cases h : i < 20
    · rw [if_pos h, if_pos h, ad1_off n t1 t2 (203 + i) (by omega)]
      congr 1
      rw [show 203 + i = (160 + i) + 43 by omega]
      unfold off1
      dsimp only
      rw [if_neg (by omega), if_neg (by omega), if_neg (by omega), if_neg (by omega)]; omega
    · rw [if_neg h, if_neg h]
  show (Sum.inl (cl 5, 20, .inr (.inr (.inr (.inr (fun i => if i < 20 then some (ad1 n t1 t2 (203 + i)) else none))))) : va_E) = _
  rw [hf]
theorem e15 (G : va_G) (cl : Nat → ClassId) (n t1 t2 : Nat) (f : Nat → Int32) (g : Nat → Int64) : ev1 (G, ad1 n t1 t2, cl) f g 15 = .inl (cl 4, 40, .inr (.inr (.inr (.inr (fun i => if i < 40 then some (n + 0 + 1 + 5 + 1 + 4 + 2 * i) else none))))) := by
  have hf : (fun i => if i < 40 then some (ad1 n t1 t2 (43 + i)) else none) = fun i => if i < 40 then some (n + 0 + 1 + 5 + 1 + 4 + 2 * i) else none := by
    funext i
    by_cases h : i < 40
    · rw [if_pos h, if_pos h, ad1_off n t1 t2 (43 + i) (by omega)]
      congr 1
      rw [show 43 + i = (0 + i) + 43 by omega]
      unfold off1
      dsimp only
      rw [if_pos (by omega)]; omega
    · rw [if_neg h, if_neg h]
  show (Sum.inl (cl 4, 40, .inr (.inr (.inr (.inr (fun i => if i < 40 then some (ad1 n t1 t2 (43 + i)) else none))))) : va_E) = _
  rw [hf]
set_option maxRecDepth 100000 in
set_option maxHeartbeats 4000000 in
theorem map1 (G : va_G) (cl : Nat → ClassId) (n t1 t2 : Nat) : ∀ k : Nat, k < 223 → (La (G, ad1 n t1 t2, cl) n)[off1 k]? = some (ev1 (G, ad1 n t1 t2, cl) (σ1i.1 k) (σ1i.2 k) k) := by
  intro k hk
  match k, hk with
  | 0, _ => exact rfl
  | 1, _ => exact gC (L11c0 (i := 0) rfl)
  | 2, _ => exact gC (L11c1 (i := 0) rfl)
  | 3, _ => exact gC (L11c2 (i := 0) rfl)
  | 4, _ => exact gC (L11c3 (i := 0) rfl)
  | 5, _ => exact gC (L11c2 (i := 1) (gC (i := 0) rfl))
  | 6, _ => exact gC (L11c3 (i := 1) (gC (L5c0 (i := 0) rfl)))
  | 7, _ => exact gC (L11c3 (i := 67) (gC (L5c1 (i := 0) rfl)))
  | 8, _ => exact gC (L11c3 (i := 92) (gC (L5c2 (i := 0) rfl)))
  | 9, _ => exact gC (L11c3 (i := 95) (gC (L5c3 (i := 0) rfl)))
  | 10, _ => exact gC (L11c4 (i := 0) rfl)
  | 11, _ => exact gC (L11c5 (i := 0) rfl)
  | 12, _ => exact gC (L11c0 (i := 1) (gC (i := 0) rfl))
  | 13, _ => exact gC (L11c1 (i := 1) (gC (i := 0) rfl))
  | 14, _ => exact gC (L11c1 (i := 2) (gC (i := 1) rfl))
  | 15, _ => rw [e15]; exact gC (L11c2 (i := 2) (gC (i := 1) rfl))
  | 16, _ => exact gC (L11c2 (i := 3) (gC (i := 2) rfl))
  | 17, _ => exact gC (L11c2 (i := 4) (gC (i := 3) rfl))
  | 18, _ => exact gC (L11c3 (i := 2) (gC (L5c0 (i := 1) (gC (L7c0 (i := 0) rfl)))))
  | 19, _ => exact gC (L11c3 (i := 3) (gC (L5c0 (i := 2) (gC (L7c1 (i := 0) rfl)))))
  | 20, _ => rw [e20]; exact gC (L11c3 (i := 4) (gC (L5c0 (i := 3) (gC (L7c2 (i := 0) rfl)))))
  | 21, _ => exact gC (L11c3 (i := 65) (gC (L5c0 (i := 64) (gC (L7c3 (i := 0) rfl)))))
  | 22, _ => exact gC (L11c3 (i := 66) (gC (L5c0 (i := 65) (gC (L7c4 (i := 0) rfl)))))
  | 23, _ => rw [e23]; exact gC (L11c3 (i := 68) (gC (L5c1 (i := 1) (gC (L10c0 (i := 0) rfl)))))
  | 24, _ => exact gC (L11c3 (i := 89) (gC (L5c1 (i := 22) (gC (L10c1 (i := 0) rfl)))))
  | 25, _ => exact gC (L11c3 (i := 90) (gC (L5c1 (i := 23) (gC (L10c2 (i := 0) rfl)))))
  | 26, _ => exact gC (L11c3 (i := 91) (gC (L5c1 (i := 24) (gC (L10c3 (i := 0) rfl)))))
  | 27, _ => exact gC (L11c3 (i := 93) (gC (L5c2 (i := 1) (gC (i := 0) rfl))))
  | 28, _ => exact gC (L11c3 (i := 94) (gC (L5c2 (i := 2) (gC (i := 1) rfl))))
  | 29, _ => exact gC (L11c3 (i := 96) (gC (L5c3 (i := 1) (gC (i := 0) rfl))))
  | 30, _ => exact gC (L11c3 (i := 97) (gC (L5c3 (i := 2) (gC (i := 1) rfl))))
  | 31, _ => exact gC (L11c3 (i := 98) (gC (L5c3 (i := 3) (gC (i := 2) rfl))))
  | 32, _ => exact gC (L11c3 (i := 99) (gC (L5c3 (i := 4) (gC (i := 3) rfl))))
  | 33, _ => exact gC (L11c3 (i := 100) (gC (L5c3 (i := 5) (gC (i := 4) rfl))))
  | 34, _ => exact gC (L11c3 (i := 101) (gC (L5c3 (i := 6) (gC (i := 5) rfl))))
  | 35, _ => exact gC (L11c3 (i := 102) (gC (L5c3 (i := 7) (gC (i := 6) rfl))))
  | 36, _ => exact gC (L11c3 (i := 103) (gC (L5c3 (i := 8) (gC (i := 7) rfl))))
  | 37, _ => exact gC (L11c3 (i := 104) (gC (L5c3 (i := 9) (gC (i := 8) rfl))))
  | 38, _ => rw [e38]; exact gC (L11c3 (i := 105) (gC (L5c4 (i := 0) rfl)))
  | 39, _ => exact gC (L11c3 (i := 126) (gC (L5c5 (i := 0) rfl)))
  | 40, _ => exact gC (L11c3 (i := 127) (gC (L5c6 (i := 0) rfl)))
  | 41, _ => exact gC (L11c3 (i := 128) (gC (L5c7 (i := 0) rfl)))
  | 42, _ => exact gC (L11c3 (i := 129) (gC (L5c8 (i := 0) rfl)))
  | k + 43, hk =>
    by_cases h1 : k < 40
    · have e1 : ev1 (G, ad1 n t1 t2, cl) (σ1i.1 (k + 43)) (σ1i.2 (k + 43)) (k + 43) = .inr (1, fsX1 (n + 0 + 1 + 5 + 1 + 4 + 2 * k + 1)) := by
        rw [ev1_job ⟨by omega, by omega⟩]
        have ea : ad1 n t1 t2 (k + 43 + 40) = n + 0 + 1 + 5 + 1 + 4 + 2 * k + 1 + 0 := by
          rw [ad1_off n t1 t2 (k + 43 + 40) (by omega), show k + 43 + 40 = (k + 40) + 43 by omega]
          unfold off1
          dsimp only
          rw [if_neg (by omega), if_pos (by omega)]
          omega
        have ei : ∀ j : Nat, σ1i.1 (k + 43) j = if j = 5 then 1 else if j = 7 then 255 else 0 := by
          intro j
          show (if k < 40 then _ else _) = _
          rw [if_pos h1]
        show (Sum.inr (1, [.ref (ad1 n t1 t2 (k + 43 + 40)), .int (σ1i.1 (k + 43) 1), .int (σ1i.1 (k + 43) 2), .int (σ1i.1 (k + 43) 3), .int (σ1i.1 (k + 43) 4), .int (σ1i.1 (k + 43) 5), .int (σ1i.1 (k + 43) 6), .int (σ1i.1 (k + 43) 7)]) : va_E) = _
        rw [ea, ei, ei, ei, ei, ei, ei, ei]
        rfl
      have eo : off1 (k + 43) = 11 + 2 * k := by
        unfold off1
        dsimp only
        rw [if_pos h1]
      rw [e1, eo, show 11 + 2 * k = (5 + ((4 + 2 * k) + 1)) + 1 by omega]
      exact gC (L11c2 (gC (gA (n := 4) rfl (jc_at _ _ 40 k h1).1)))
    · have ez : σ1i.1 (k + 43) = fun _ => 0 := by
        funext j
        show (if k < 40 then _ else _) = _
        rw [if_neg h1]
      rw [ez]
      by_cases h2 : k < 80
      · have eo : off1 (k + 43) = 12 + 2 * (k - 40) := by
          unfold off1
          dsimp only
          rw [if_neg h1, if_pos h2]
        have e1 : ev1 (G, ad1 n t1 t2, cl) (fun _ => 0) (σ1i.2 (k + 43)) (k + 43) = .inl (cl 0, 8, .inl (fun _ => 0)) := by
          show (if k < 40 then _ else if k < 80 then _ else _) = _
          rw [if_neg h1, if_pos h2]
        rw [e1, eo, show 12 + 2 * (k - 40) = (5 + ((4 + (2 * (k - 40) + 1)) + 1)) + 1 by omega]
        exact gC (L11c2 (gC (gA (n := 4) rfl (jc_at _ _ 40 (k - 40) (by omega)).2)))
      · by_cases h3 : k < 140
        · have eo : off1 (k + 43) = 96 + (k - 80) := by
            unfold off1
            dsimp only
            rw [if_neg h1, if_neg h2, if_pos h3]
          have e1 : ev1 (G, ad1 n t1 t2, cl) (fun _ => 0) (σ1i.2 (k + 43)) (k + 43) = .inl (cl 0, 20, .inl (fun _ => 0)) := by
            show (if k < 40 then _ else if k < 80 then _ else if k < 140 then _ else _) = _
            rw [if_neg h1, if_neg h2, if_pos h3]
          rw [e1, eo, show 96 + (k - 80) = (90 + ((0 + ((2 + ((k - 80) + 1)) + 1)) + 1)) + 1 by omega]
          exact gC (L11c3 (gC (L5c0 (gC (L7c2 (gC (gR (by omega))))))))
        · have e1 : ev1 (G, ad1 n t1 t2, cl) (fun _ => 0) (σ1i.2 (k + 43)) (k + 43) = .inl (cl 0, 120, .inl (fun _ => 0)) := by
            show (if k < 40 then _ else if k < 80 then _ else if k < 140 then _ else _) = _
            rw [if_neg h1, if_neg h2, if_neg h3]
          rw [e1]
          by_cases h4 : k < 160
          · have eo : off1 (k + 43) = 160 + (k - 140) := by
              unfold off1
              dsimp only
              rw [if_neg h1, if_neg h2, if_neg h3, if_pos h4]
            rw [eo, show 160 + (k - 140) = (90 + ((66 + ((0 + ((k - 140) + 1)) + 1)) + 1)) + 1 by omega]
            exact gC (L11c3 (gC (L5c1 (gC (L10c0 (gC (gR (by omega))))))))
          · have eo : off1 (k + 43) = 197 + (k - 160) := by
              unfold off1
              dsimp only
              rw [if_neg h1, if_neg h2, if_neg h3, if_neg h4]
            rw [eo, show 197 + (k - 160) = (90 + ((104 + ((k - 160) + 1)) + 1)) + 1 by omega]
            exact gC (L11c3 (gC (L5c4 (gC (gR (by omega))))))
/-- where the reference's cells lie -/
def ad2 (n : Nat) : Nat → Nat
  | 0 => n
  | k + 1 => n + 1 + k
theorem ad2_off (n k : Nat) : ad2 n k = n + k := by
  cases k with
  | zero => rfl
  | succ k => show n + 1 + k = n + (k + 1); omega
def i2 (k j : Nat) : Int32 := match k with
  | 0 => if j = 46 then -1 else 0
  | _ => 0
def σ2i : St := (i2, fun _ _ => 0)
abbrev Lb (w : Wd) (n : Nat) : List va_E := .inr (11, fsX12 (n + 1)) :: LX12 w (n + 1)
set_option maxRecDepth 100000 in
set_option maxHeartbeats 4000000 in
theorem map2 (G : va_G) (cl : Nat → ClassId) (n : Nat) : ∀ k : Nat, k < 38 → (Lb (G, ad2 n, cl) n)[k]? = some (ev2 (G, ad2 n, cl) (σ2i.1 k) (σ2i.2 k) k) := by
  intro k hk
  match k, hk with
  | 0, _ => rfl
  | 1, _ => rfl
  | 2, _ => rfl
  | 3, _ => rfl
  | 4, _ => rfl
  | 5, _ => rfl
  | 6, _ => rfl
  | 7, _ => rfl
  | 8, _ => rfl
  | 9, _ => rfl
  | 10, _ => rfl
  | 11, _ => rfl
  | 12, _ => rfl
  | 13, _ => rfl
  | 14, _ => rfl
  | 15, _ => rfl
  | 16, _ => rfl
  | 17, _ => rfl
  | 18, _ => rfl
  | 19, _ => rfl
  | 20, _ => rfl
  | 21, _ => rfl
  | 22, _ => rfl
  | 23, _ => rfl
  | 24, _ => rfl
  | 25, _ => rfl
  | 26, _ => rfl
  | 27, _ => rfl
  | 28, _ => rfl
  | 29, _ => rfl
  | 30, _ => rfl
  | 31, _ => rfl
  | 32, _ => rfl
  | 33, _ => rfl
  | 34, _ => rfl
  | 35, _ => rfl
  | 36, _ => rfl
  | 37, _ => rfl
  | k + 38, h => exact absurd h (by omega)
