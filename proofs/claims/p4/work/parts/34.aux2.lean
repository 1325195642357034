/-- the reference: which numbers a place may hold -/
def Rg2 (k j : Nat) (v : Int32) : Prop := match k with
  | 0 => (j = 1 → In32 0 4096 v) ∧ (j = 3 → In32 0 600 v) ∧ (j = 5 → In32 0 120 v) ∧ (j = 14 → In32 0 40 v) ∧ (j = 24 → In32 0 1000 v) ∧ (j = 35 → In32 0 39 v) ∧ (j = 36 → In32 0 60 v) ∧ (j = 41 → In32 0 20 v) ∧ (j = 50 → In32 0 122 v) ∧ (j = 51 → In32 0 61 v) ∧ (j = 64 → In32 0 7 v)
  | 1 => In32 (0) 255 v
  | 9 => In32 (0) 8 v
  | 13 => v.toInt = 255 ∨ (0 ≤ v.toInt ∧ v.toInt ≤ 7 ∧ 1 ≤ j)
  | 18 => In32 (0) 20 v
  | 21 => In32 (0) 120 v
  | 25 => In32 (0) 59 v
  | 26 => In32 (0) 59 v
  | 30 => In32 (0) 121 v
  | 31 => In32 (0) 121 v
  | 32 => In32 (-1) 121 v
  | 36 => In32 (0) 121 v
  | _ => True
/-- a good state of the reference, in which border and tape count are those of σ0 -/
def K2 (σ0 σ : St) : Prop := (∀ k j : Nat, Rg2 k j (σ.1 k j)) ∧ σ.1 0 1 = σ0.1 0 1 ∧ σ.1 0 3 = σ0.1 0 3
theorem K2.u {σ0 σ : St} (h : K2 σ0 σ) {k j : Nat} {v : Int32} (hr : Rg2 k j v) (h1 : ¬ (k = 0 ∧ j = 1)) (h2 : ¬ (k = 0 ∧ j = 3)) : K2 σ0 (u1 σ k j v) := by
  refine ⟨fun a b => ?_, ?_, ?_⟩
  · by_cases ha : a = k ∧ b = j
    · obtain ⟨rfl, rfl⟩ := ha
      rw [u1_at, show upd (σ.1 a) b v b = v from if_pos rfl]
      exact hr
    · rw [kq rfl ha]; exact h.1 a b
  · rw [kq rfl (fun q => h1 ⟨q.1.symm, q.2.symm⟩)]; exact h.2.1
  · rw [kq rfl (fun q => h2 ⟨q.1.symm, q.2.symm⟩)]; exact h.2.2
theorem K2.l {σ0 σ : St} (h : K2 σ0 σ) {k j : Nat} {v : Int64} : K2 σ0 (u2 σ k j v) := h
theorem clE {x : Int32} {E : Int} (h : x.toInt = E) (h0 : 0 ≤ E) : (x.toNatClampNeg : Int) = E := by
  have : x.toNatClampNeg = x.toInt.toNat := rfl
  omega
theorem Rg2.r13 {j : Nat} {v : Int32} (h : v.toInt = 255 ∨ (0 ≤ v.toInt ∧ v.toInt ≤ 7 ∧ 1 ≤ j)) : Rg2 13 j v := h
theorem K2.g13 {σ0 σ : St} (h : K2 σ0 σ) (j : Nat) : (σ.1 13 j).toInt = 255 ∨ (0 ≤ (σ.1 13 j).toInt ∧ (σ.1 13 j).toInt ≤ 7 ∧ 1 ≤ j) := h.1 13 j
theorem tB64 (a : Int64) : -9223372036854775808 ≤ a.toInt ∧ a.toInt < 9223372036854775808 := ⟨by have := a.le_toInt; omega, by have := a.toInt_lt; omega⟩
theorem aOkE64 {a b : Int64} {A B : Int} (ha : a.toInt = A) (hb : b.toInt = B) (h1 : -9223372036854775808 ≤ A + B) (h2 : A + B < 9223372036854775808) : (a + b).toInt = A + B := by
  subst ha; subst hb
  rw [Int64.toInt_add, Int.bmod_def]
  split <;> omega
theorem sOkE64 {a b : Int64} {A B : Int} (ha : a.toInt = A) (hb : b.toInt = B) (h1 : -9223372036854775808 ≤ A - B) (h2 : A - B < 9223372036854775808) : (a - b).toInt = A - B := by
  subst ha; subst hb
  rw [Int64.toInt_sub, Int.bmod_def]
  split <;> omega
theorem mOkE64 {a b : Int64} {A B : Int} (ha : a.toInt = A) (hb : b.toInt = B) (h1 : -9223372036854775808 ≤ A * B) (h2 : A * B < 9223372036854775808) : (a * b).toInt = A * B := by
  subst ha; subst hb
  rw [Int64.toInt_mul, Int.bmod_def]
  split <;> omega
theorem i2lE {x : Int32} {E : Int} (h : x.toInt = E) : x.toInt64.toInt = E := by rw [Int32.toInt_toInt64]; exact h
theorem l2iE {x : Int64} {E : Int} (h : x.toInt = E) (h1 : -2147483648 ≤ E) (h2 : E < 2147483648) : x.toInt32.toInt = E := by
  subst h
  rw [Int64.toInt_toInt32, Int.bmod_def]
  split <;> omega
theorem ltE64 {x y : Int64} {A B : Int} (hx : x.toInt = A) (hy : y.toInt = B) : x < y ↔ A < B := by subst hx; subst hy; exact Int64.lt_iff_toInt_lt
theorem leE64 {x y : Int64} {A B : Int} (hx : x.toInt = A) (hy : y.toInt = B) : x ≤ y ↔ A ≤ B := by subst hx; subst hy; exact Int64.le_iff_toInt_le
theorem eqE64 {x y : Int64} {A B : Int} (hx : x.toInt = A) (hy : y.toInt = B) : x = y ↔ A = B := by subst hx; subst hy; exact Int64.toInt_inj.symm
theorem notltE64 {x y : Int64} {A B : Int} (hx : x.toInt = A) (hy : y.toInt = B) : ¬ x < y ↔ ¬ A < B := not_congr (ltE64 hx hy)
theorem notleE64 {x y : Int64} {A B : Int} (hx : x.toInt = A) (hy : y.toInt = B) : ¬ x ≤ y ↔ ¬ A ≤ B := not_congr (leE64 hx hy)
theorem noteqE64 {x y : Int64} {A B : Int} (hx : x.toInt = A) (hy : y.toInt = B) : ¬ x = y ↔ ¬ A = B := not_congr (eqE64 hx hy)
theorem leP64 {x : Int64} {E lo : Int} (h : x.toInt = E) (h1 : lo ≤ E) : lo ≤ x.toInt := by rw [h]; exact h1
theorem geP64 {x : Int64} {E hi : Int} (h : x.toInt = E) (h1 : E ≤ hi) : x.toInt ≤ hi := by rw [h]; exact h1
theorem K2.g_0_14 {σ0 σ : St} (h : K2 σ0 σ) : 0 ≤ (σ.1 0 14).toInt ∧ (σ.1 0 14).toInt ≤ 40 := by
  have := h.1 0 14
  simpa [Rg2, In32] using this
theorem K2.g_0_24 {σ0 σ : St} (h : K2 σ0 σ) : 0 ≤ (σ.1 0 24).toInt ∧ (σ.1 0 24).toInt ≤ 1000 := by
  have := h.1 0 24
  simpa [Rg2, In32] using this
theorem K2.g_0_35 {σ0 σ : St} (h : K2 σ0 σ) : 0 ≤ (σ.1 0 35).toInt ∧ (σ.1 0 35).toInt ≤ 39 := by
  have := h.1 0 35
  simpa [Rg2, In32] using this
theorem K2.g_0_36 {σ0 σ : St} (h : K2 σ0 σ) : 0 ≤ (σ.1 0 36).toInt ∧ (σ.1 0 36).toInt ≤ 60 := by
  have := h.1 0 36
  simpa [Rg2, In32] using this
theorem K2.g_0_5 {σ0 σ : St} (h : K2 σ0 σ) : 0 ≤ (σ.1 0 5).toInt ∧ (σ.1 0 5).toInt ≤ 120 := by
  have := h.1 0 5
  simpa [Rg2, In32] using this
theorem K2.ga_1 {σ0 σ : St} (h : K2 σ0 σ) (j : Nat) : 0 ≤ (σ.1 1 j).toInt ∧ (σ.1 1 j).toInt ≤ 255 := h.1 1 j
theorem K2.ga_9 {σ0 σ : St} (h : K2 σ0 σ) (j : Nat) : 0 ≤ (σ.1 9 j).toInt ∧ (σ.1 9 j).toInt ≤ 8 := h.1 9 j
theorem Rg2.r_0_14 {v : Int32} (h1 : 0 ≤ v.toInt) (h2 : v.toInt ≤ 40) : Rg2 0 14 v := by simp [Rg2, In32]; omega
theorem Rg2.r_0_24 {v : Int32} (h1 : 0 ≤ v.toInt) (h2 : v.toInt ≤ 1000) : Rg2 0 24 v := by simp [Rg2, In32]; omega
theorem Rg2.r_0_36 {v : Int32} (h1 : 0 ≤ v.toInt) (h2 : v.toInt ≤ 60) : Rg2 0 36 v := by simp [Rg2, In32]; omega
theorem Rg2.r_0_41 {v : Int32} (h1 : 0 ≤ v.toInt) (h2 : v.toInt ≤ 20) : Rg2 0 41 v := by simp [Rg2, In32]; omega
theorem Rg2.r_0_5 {v : Int32} (h1 : 0 ≤ v.toInt) (h2 : v.toInt ≤ 120) : Rg2 0 5 v := by simp [Rg2, In32]; omega
theorem Rg2.ra_1 {j : Nat} {v : Int32} (h1 : 0 ≤ v.toInt) (h2 : v.toInt ≤ 255) : Rg2 1 j v := ⟨h1, h2⟩
theorem Rg2.ra_9 {j : Nat} {v : Int32} (h1 : 0 ≤ v.toInt) (h2 : v.toInt ≤ 8) : Rg2 9 j v := ⟨h1, h2⟩
theorem Rg2.u_0_12 (v : Int32) : Rg2 0 12 v := by simp [Rg2]
theorem Rg2.u_0_13 (v : Int32) : Rg2 0 13 v := by simp [Rg2]
theorem Rg2.u_0_29 (v : Int32) : Rg2 0 29 v := by simp [Rg2]
theorem Rg2.u_0_30 (v : Int32) : Rg2 0 30 v := by simp [Rg2]
theorem Rg2.u_0_32 (v : Int32) : Rg2 0 32 v := by simp [Rg2]
theorem Rg2.u_0_7 (v : Int32) : Rg2 0 7 v := by simp [Rg2]
theorem Rg2.u_0_9 (v : Int32) : Rg2 0 9 v := by simp [Rg2]
theorem Rg2.ra_10 (j : Nat) (v : Int32) : Rg2 10 j v := trivial
theorem Rg2.ra_11 (j : Nat) (v : Int32) : Rg2 11 j v := trivial
theorem Rg2.ra_12 (j : Nat) (v : Int32) : Rg2 12 j v := trivial
theorem Rg2.ra_3 (j : Nat) (v : Int32) : Rg2 3 j v := trivial
theorem Rg2.ra_6 (j : Nat) (v : Int32) : Rg2 6 j v := trivial
theorem Rg2.ra_7 (j : Nat) (v : Int32) : Rg2 7 j v := trivial
theorem Rg2.ra_8 (j : Nat) (v : Int32) : Rg2 8 j v := trivial
