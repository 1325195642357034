/-- the reference: which numbers a place may hold -/
def Rg2 (k j : Nat) (v : Int32) : Prop := match k with
  | 0 => (j = 1 → In32 0 4096 v) ∧ (j = 3 → In32 0 600 v) ∧ (j = 5 → In32 0 120 v) ∧ (j = 9 → In32 0 9 v) ∧ (j = 14 → In32 0 40 v) ∧ (j = 24 → In32 0 1000 v) ∧ (j = 35 → In32 0 39 v) ∧ (j = 36 → In32 0 60 v) ∧ (j = 41 → In32 0 20 v) ∧ (j = 50 → In32 0 122 v) ∧ (j = 51 → In32 0 61 v)
  | 1 => In32 (0) 255 v
  | 9 => In32 (0) 8 v
  | 13 => v.toInt = 255 ∨ (0 ≤ v.toInt ∧ v.toInt ≤ 7)
  | 18 => In32 (0) 20 v
  | 21 => In32 (0) 120 v
  | 25 => In32 (0) 59 v
  | 26 => In32 (0) 59 v
  | 30 => In32 (0) 121 v
  | 31 => In32 (0) 121 v
  | 32 => In32 (-1) 121 v
  | 36 => In32 (0) 121 v
  | _ => True
/-- the told pieces: their kinds, and one sign where the kind asks for one -/
def PI (σ : St) : Prop := ∀ p : Nat, (p : Int) < (σ.1 0 36).toInt → ((σ.1 16 p).toInt = 3 ∨ (σ.1 16 p).toInt = 5 ∨ (((σ.1 16 p).toInt = 2 ∨ (σ.1 16 p).toInt = 4 ∨ (σ.1 16 p).toInt = 8 ∨ (σ.1 16 p).toInt = 9) ∧ (σ.1 18 p).toInt = 1))
/-- the first job has nowhere to give its result to -/
def ZI (σ : St) : Prop := (σ.1 0 14).toInt = 0 ∨ (σ.1 13 0).toInt = 255
theorem ZI.ext {σ τ : St} (h : ZI σ) (h1 : τ.1 0 14 = σ.1 0 14) (h2 : τ.1 13 0 = σ.1 13 0) : ZI τ := by
  unfold ZI
  rw [h1, h2]
  exact h
def G2 (σ : St) : Prop := (∀ k j : Nat, Rg2 k j (σ.1 k j)) ∧ PI σ ∧ ZI σ
/-- a good state of the reference, in which border and tape count are those of σ0 -/
def K2 (σ0 σ : St) : Prop := G2 σ ∧ σ.1 0 1 = σ0.1 0 1 ∧ σ.1 0 3 = σ0.1 0 3
theorem PI.ext {σ τ : St} (h : PI σ) (h1 : τ.1 0 36 = σ.1 0 36) (h2 : τ.1 16 = σ.1 16) (h3 : τ.1 18 = σ.1 18) : PI τ := by
  intro p hp
  rw [h1] at hp
  rw [h2, h3]
  exact h p hp
theorem Gr2 {σ : St} (h : ∀ a b : Nat, Rg2 a b (σ.1 a b)) {k j : Nat} {v : Int32} (hr : Rg2 k j v) : ∀ a b : Nat, Rg2 a b ((u1 σ k j v).1 a b) := by
  intro a b
  by_cases ha : a = k ∧ b = j
  · obtain ⟨rfl, rfl⟩ := ha
    rw [u1_at, show upd (σ.1 a) b v b = v from if_pos rfl]
    exact hr
  · rw [kq rfl ha]; exact h a b
theorem G2.u {σ : St} (h : G2 σ) {k j : Nat} {v : Int32} (hr : Rg2 k j v) (h3 : (k ≠ 16 ∧ k ≠ 18) ∧ ¬ (k = 0 ∧ j = 36)) (h4 : k ≠ 13 ∧ ¬ (k = 0 ∧ j = 14) := by first | decide | exact ⟨by decide, fun q => absurd q.1 (by decide)⟩ | exact ⟨by decide, fun q => absurd q.2 (by decide)⟩) : G2 (u1 σ k j v) :=
  ⟨Gr2 h.1 hr, h.2.1.ext (kq rfl (fun q => h3.2 ⟨q.1.symm, q.2.symm⟩)) (u1_ne (Ne.symm h3.1.1)) (u1_ne (Ne.symm h3.1.2)), h.2.2.ext (kq rfl (fun q => h4.2 ⟨q.1.symm, q.2.symm⟩)) (kq rfl (fun q => h4.1 q.1.symm))⟩
theorem K2.u {σ0 σ : St} (h : K2 σ0 σ) {k j : Nat} {v : Int32} (hr : Rg2 k j v) (h1 : ¬ (k = 0 ∧ j = 1)) (h2 : ¬ (k = 0 ∧ j = 3)) (h3 : (k ≠ 16 ∧ k ≠ 18) ∧ ¬ (k = 0 ∧ j = 36)) (h4 : k ≠ 13 ∧ ¬ (k = 0 ∧ j = 14) := by first | decide | exact ⟨by decide, fun q => absurd q.1 (by decide)⟩ | exact ⟨by decide, fun q => absurd q.2 (by decide)⟩) : K2 σ0 (u1 σ k j v) := by
  refine ⟨h.1.u hr h3 h4, ?_, ?_⟩
  · rw [kq rfl (fun q => h1 ⟨q.1.symm, q.2.symm⟩)]; exact h.2.1
  · rw [kq rfl (fun q => h2 ⟨q.1.symm, q.2.symm⟩)]; exact h.2.2
theorem K2.l {σ0 σ : St} (h : K2 σ0 σ) {k j : Nat} {v : Int64} : K2 σ0 (u2 σ k j v) := h
theorem clE {x : Int32} {E : Int} (h : x.toInt = E) (h0 : 0 ≤ E) : (x.toNatClampNeg : Int) = E := by
  have : x.toNatClampNeg = x.toInt.toNat := rfl
  omega
theorem Rg2.r13 {j : Nat} {v : Int32} (h : v.toInt = 255 ∨ (0 ≤ v.toInt ∧ v.toInt ≤ 7 ∧ 1 ≤ j)) : Rg2 13 j v := by
  rcases h with h | h
  · exact Or.inl h
  · exact Or.inr ⟨h.1, h.2.1⟩
theorem K2.Zz {σ0 σ : St} (h : K2 σ0 σ) : ZI σ := h.1.2.2
theorem K2.u13 {σ0 σ : St} (h : K2 σ0 σ) {j : Nat} {v : Int32} (hv : v.toInt = 255 ∨ (0 ≤ v.toInt ∧ v.toInt ≤ 7 ∧ 1 ≤ j)) : K2 σ0 (u1 σ 13 j v) := by
  refine ⟨⟨Gr2 h.1.1 (Rg2.r13 hv), h.1.2.1.ext (kq rfl (fun q => absurd q.1 (by decide))) (u1_ne (by decide)) (u1_ne (by decide)), ?_⟩, ?_, ?_⟩
  · have e14 : (u1 σ 13 j v).1 0 14 = σ.1 0 14 := kq rfl (fun q => absurd q.1 (by decide))
    by_cases hj : j = 0
    · subst hj
      right
      rw [u1_at, show upd (σ.1 13) 0 v 0 = v from if_pos rfl]
      rcases hv with hv | hv
      · exact hv
      · exact absurd hv.2.2 (by decide)
    · exact h.1.2.2.ext e14 (kq rfl (fun q => hj q.2.symm))
  · rw [kq rfl (fun q => absurd q.1 (by decide))]; exact h.2.1
  · rw [kq rfl (fun q => absurd q.1 (by decide))]; exact h.2.2
theorem K2.u14 {σ0 σ : St} (h : K2 σ0 σ) {v : Int32} (hr : Rg2 0 14 v) (hz : v.toInt = 0 ∨ (σ.1 13 0).toInt = 255) : K2 σ0 (u1 σ 0 14 v) := by
  refine ⟨⟨Gr2 h.1.1 hr, h.1.2.1.ext (kq rfl (fun q => absurd q.2 (by decide))) (u1_ne (by decide)) (u1_ne (by decide)), ?_⟩, ?_, ?_⟩
  · unfold ZI
    rw [u1_at, show upd (σ.1 0) 14 v 14 = v from if_pos rfl, u1_ne (by decide)]
    exact hz
  · rw [kq rfl (fun q => absurd q.2 (by decide))]; exact h.2.1
  · rw [kq rfl (fun q => absurd q.2 (by decide))]; exact h.2.2
theorem K2.z13 {σ0 σ σ1 : St} (h : K2 σ0 σ) (e : σ1 = u1 σ 13 (σ.1 0 14).toNatClampNeg 255) : (σ1.1 13 0).toInt = 255 := by
  have z : (255 : Int32).toInt = 255 := by decide
  rw [e, u1_at]
  by_cases h0 : 0 = (σ.1 0 14).toNatClampNeg
  · rw [← h0, show upd (σ.1 13) 0 255 0 = 255 from if_pos rfl]; exact z
  · rw [show upd (σ.1 13) (σ.1 0 14).toNatClampNeg 255 0 = σ.1 13 0 from if_neg h0]
    rcases h.Zz with q | q
    · have := clE q (Int.le_refl 0)
      omega
    · exact q
theorem K2.g13 {σ0 σ : St} (h : K2 σ0 σ) (hm : 1 ≤ (σ.1 0 14).toInt) (j : Nat) : (σ.1 13 j).toInt = 255 ∨ (0 ≤ (σ.1 13 j).toInt ∧ (σ.1 13 j).toInt ≤ 7 ∧ 1 ≤ j) := by
  by_cases hj : j = 0
  · subst hj
    rcases h.Zz with q | q
    · omega
    · exact Or.inl q
  · have h1 : (σ.1 13 j).toInt = 255 ∨ (0 ≤ (σ.1 13 j).toInt ∧ (σ.1 13 j).toInt ≤ 7) := h.1.1 13 j
    rcases h1 with q | q
    · exact Or.inl q
    · exact Or.inr ⟨q.1, q.2, by omega⟩
theorem tB64 (a : Int64) : -9223372036854775808 ≤ a.toInt ∧ a.toInt < 9223372036854775808 := ⟨by have := a.le_toInt; omega, by have := a.toInt_lt; omega⟩
theorem aOkE64 {a b : Int64} {A B : Int} (ha : a.toInt = A) (hb : b.toInt = B) (h1 : -9223372036854775808 ≤ A + B) (h2 : A + B < 9223372036854775808) : (a + b).toInt = A + B := by
  subst ha; subst hb
  rw [Int64.toInt_add, Int.bmod_def]
  split <;> omega
theorem sOkE64 {a b : Int64} {A B : Int} (ha : a.toInt = A) (hb : b.toInt = B) (h1 : -9223372036854775808 ≤ A - B) (h2 : A - B < 9223372036854775808) : (a - b).toInt = A - B := by
  subst ha; subst hb
  rw [Int64.toInt_sub, Int.bmod_def]
  split <;> omega
theorem mOkE64 {a b : Int64} {A B : Int} (ha : a.toInt = A) (hb : b.toInt = B) (h1 : -9223372036854775808 ≤ A * B) (h2 : A * B < 9223372036854775808) : (a * b).toInt = A * B := by
  subst ha; subst hb
  rw [Int64.toInt_mul, Int.bmod_def]
  split <;> omega
theorem i2lE {x : Int32} {E : Int} (h : x.toInt = E) : x.toInt64.toInt = E := by rw [Int32.toInt_toInt64]; exact h
theorem l2iE {x : Int64} {E : Int} (h : x.toInt = E) (h1 : -2147483648 ≤ E) (h2 : E < 2147483648) : x.toInt32.toInt = E := by
  subst h
  rw [Int64.toInt_toInt32, Int.bmod_def]
  split <;> omega
theorem ltE64 {x y : Int64} {A B : Int} (hx : x.toInt = A) (hy : y.toInt = B) : x < y ↔ A < B := by subst hx; subst hy; exact Int64.lt_iff_toInt_lt
theorem leE64 {x y : Int64} {A B : Int} (hx : x.toInt = A) (hy : y.toInt = B) : x ≤ y ↔ A ≤ B := by subst hx; subst hy; exact Int64.le_iff_toInt_le
theorem eqE64 {x y : Int64} {A B : Int} (hx : x.toInt = A) (hy : y.toInt = B) : x = y ↔ A = B := by subst hx; subst hy; exact Int64.toInt_inj.symm
theorem notltE64 {x y : Int64} {A B : Int} (hx : x.toInt = A) (hy : y.toInt = B) : ¬ x < y ↔ ¬ A < B := not_congr (ltE64 hx hy)
theorem notleE64 {x y : Int64} {A B : Int} (hx : x.toInt = A) (hy : y.toInt = B) : ¬ x ≤ y ↔ ¬ A ≤ B := not_congr (leE64 hx hy)
theorem noteqE64 {x y : Int64} {A B : Int} (hx : x.toInt = A) (hy : y.toInt = B) : ¬ x = y ↔ ¬ A = B := not_congr (eqE64 hx hy)
theorem leP64 {x : Int64} {E lo : Int} (h : x.toInt = E) (h1 : lo ≤ E) : lo ≤ x.toInt := by rw [h]; exact h1
theorem geP64 {x : Int64} {E hi : Int} (h : x.toInt = E) (h1 : E ≤ hi) : x.toInt ≤ hi := by rw [h]; exact h1
theorem K2.g_0_1 {σ0 σ : St} (h : K2 σ0 σ) : 0 ≤ (σ.1 0 1).toInt ∧ (σ.1 0 1).toInt ≤ 4096 := by
  have := h.1.1 0 1
  simpa [Rg2, In32] using this
theorem K2.g_0_14 {σ0 σ : St} (h : K2 σ0 σ) : 0 ≤ (σ.1 0 14).toInt ∧ (σ.1 0 14).toInt ≤ 40 := by
  have := h.1.1 0 14
  simpa [Rg2, In32] using this
theorem K2.g_0_24 {σ0 σ : St} (h : K2 σ0 σ) : 0 ≤ (σ.1 0 24).toInt ∧ (σ.1 0 24).toInt ≤ 1000 := by
  have := h.1.1 0 24
  simpa [Rg2, In32] using this
theorem K2.g_0_3 {σ0 σ : St} (h : K2 σ0 σ) : 0 ≤ (σ.1 0 3).toInt ∧ (σ.1 0 3).toInt ≤ 600 := by
  have := h.1.1 0 3
  simpa [Rg2, In32] using this
theorem K2.g_0_35 {σ0 σ : St} (h : K2 σ0 σ) : 0 ≤ (σ.1 0 35).toInt ∧ (σ.1 0 35).toInt ≤ 39 := by
  have := h.1.1 0 35
  simpa [Rg2, In32] using this
theorem K2.g_0_36 {σ0 σ : St} (h : K2 σ0 σ) : 0 ≤ (σ.1 0 36).toInt ∧ (σ.1 0 36).toInt ≤ 60 := by
  have := h.1.1 0 36
  simpa [Rg2, In32] using this
theorem K2.g_0_41 {σ0 σ : St} (h : K2 σ0 σ) : 0 ≤ (σ.1 0 41).toInt ∧ (σ.1 0 41).toInt ≤ 20 := by
  have := h.1.1 0 41
  simpa [Rg2, In32] using this
theorem K2.g_0_5 {σ0 σ : St} (h : K2 σ0 σ) : 0 ≤ (σ.1 0 5).toInt ∧ (σ.1 0 5).toInt ≤ 120 := by
  have := h.1.1 0 5
  simpa [Rg2, In32] using this
theorem K2.g_0_50 {σ0 σ : St} (h : K2 σ0 σ) : 0 ≤ (σ.1 0 50).toInt ∧ (σ.1 0 50).toInt ≤ 122 := by
  have := h.1.1 0 50
  simpa [Rg2, In32] using this
theorem K2.g_0_51 {σ0 σ : St} (h : K2 σ0 σ) : 0 ≤ (σ.1 0 51).toInt ∧ (σ.1 0 51).toInt ≤ 61 := by
  have := h.1.1 0 51
  simpa [Rg2, In32] using this
theorem K2.g_0_9 {σ0 σ : St} (h : K2 σ0 σ) : 0 ≤ (σ.1 0 9).toInt ∧ (σ.1 0 9).toInt ≤ 9 := by
  have := h.1.1 0 9
  simpa [Rg2, In32] using this
theorem K2.ga_1 {σ0 σ : St} (h : K2 σ0 σ) (j : Nat) : 0 ≤ (σ.1 1 j).toInt ∧ (σ.1 1 j).toInt ≤ 255   := h.1.1 1 j
theorem K2.ga_18 {σ0 σ : St} (h : K2 σ0 σ) (j : Nat) : 0 ≤ (σ.1 18 j).toInt ∧ (σ.1 18 j).toInt ≤ 20   := h.1.1 18 j
theorem K2.ga_21 {σ0 σ : St} (h : K2 σ0 σ) (j : Nat) : 0 ≤ (σ.1 21 j).toInt ∧ (σ.1 21 j).toInt ≤ 120   := h.1.1 21 j
theorem K2.ga_25 {σ0 σ : St} (h : K2 σ0 σ) (j : Nat) : 0 ≤ (σ.1 25 j).toInt ∧ (σ.1 25 j).toInt ≤ 59   := h.1.1 25 j
theorem K2.ga_26 {σ0 σ : St} (h : K2 σ0 σ) (j : Nat) : 0 ≤ (σ.1 26 j).toInt ∧ (σ.1 26 j).toInt ≤ 59   := h.1.1 26 j
theorem K2.ga_30 {σ0 σ : St} (h : K2 σ0 σ) (j : Nat) : 0 ≤ (σ.1 30 j).toInt ∧ (σ.1 30 j).toInt ≤ 121   := h.1.1 30 j
theorem K2.ga_31 {σ0 σ : St} (h : K2 σ0 σ) (j : Nat) : 0 ≤ (σ.1 31 j).toInt ∧ (σ.1 31 j).toInt ≤ 121   := h.1.1 31 j
theorem K2.ga_36 {σ0 σ : St} (h : K2 σ0 σ) (j : Nat) : 0 ≤ (σ.1 36 j).toInt ∧ (σ.1 36 j).toInt ≤ 121   := h.1.1 36 j
theorem K2.ga_9 {σ0 σ : St} (h : K2 σ0 σ) (j : Nat) : 0 ≤ (σ.1 9 j).toInt ∧ (σ.1 9 j).toInt ≤ 8   := h.1.1 9 j
theorem Rg2.r_0_1 {v : Int32} (h1 : 0 ≤ v.toInt) (h2 : v.toInt ≤ 4096) : Rg2 0 1 v := by simp [Rg2, In32]; omega
theorem Rg2.r_0_14 {v : Int32} (h1 : 0 ≤ v.toInt) (h2 : v.toInt ≤ 40) : Rg2 0 14 v := by simp [Rg2, In32]; omega
theorem Rg2.r_0_24 {v : Int32} (h1 : 0 ≤ v.toInt) (h2 : v.toInt ≤ 1000) : Rg2 0 24 v := by simp [Rg2, In32]; omega
theorem Rg2.r_0_3 {v : Int32} (h1 : 0 ≤ v.toInt) (h2 : v.toInt ≤ 600) : Rg2 0 3 v := by simp [Rg2, In32]; omega
theorem Rg2.r_0_35 {v : Int32} (h1 : 0 ≤ v.toInt) (h2 : v.toInt ≤ 39) : Rg2 0 35 v := by simp [Rg2, In32]; omega
theorem Rg2.r_0_36 {v : Int32} (h1 : 0 ≤ v.toInt) (h2 : v.toInt ≤ 60) : Rg2 0 36 v := by simp [Rg2, In32]; omega
theorem Rg2.r_0_41 {v : Int32} (h1 : 0 ≤ v.toInt) (h2 : v.toInt ≤ 20) : Rg2 0 41 v := by simp [Rg2, In32]; omega
theorem Rg2.r_0_5 {v : Int32} (h1 : 0 ≤ v.toInt) (h2 : v.toInt ≤ 120) : Rg2 0 5 v := by simp [Rg2, In32]; omega
theorem Rg2.r_0_50 {v : Int32} (h1 : 0 ≤ v.toInt) (h2 : v.toInt ≤ 122) : Rg2 0 50 v := by simp [Rg2, In32]; omega
theorem Rg2.r_0_51 {v : Int32} (h1 : 0 ≤ v.toInt) (h2 : v.toInt ≤ 61) : Rg2 0 51 v := by simp [Rg2, In32]; omega
theorem Rg2.r_0_9 {v : Int32} (h1 : 0 ≤ v.toInt) (h2 : v.toInt ≤ 9) : Rg2 0 9 v := by simp [Rg2, In32]; omega
theorem Rg2.ra_1 {j : Nat} {v : Int32} (h1 : 0 ≤ v.toInt) (h2 : v.toInt ≤ 255) : Rg2 1 j v := ⟨h1, h2⟩
theorem Rg2.ra_21 {j : Nat} {v : Int32} (h1 : 0 ≤ v.toInt) (h2 : v.toInt ≤ 120) : Rg2 21 j v := ⟨h1, h2⟩
theorem Rg2.ra_25 {j : Nat} {v : Int32} (h1 : 0 ≤ v.toInt) (h2 : v.toInt ≤ 59) : Rg2 25 j v := ⟨h1, h2⟩
theorem Rg2.ra_26 {j : Nat} {v : Int32} (h1 : 0 ≤ v.toInt) (h2 : v.toInt ≤ 59) : Rg2 26 j v := ⟨h1, h2⟩
theorem Rg2.ra_30 {j : Nat} {v : Int32} (h1 : 0 ≤ v.toInt) (h2 : v.toInt ≤ 121) : Rg2 30 j v := ⟨h1, h2⟩
theorem Rg2.ra_31 {j : Nat} {v : Int32} (h1 : 0 ≤ v.toInt) (h2 : v.toInt ≤ 121) : Rg2 31 j v := ⟨h1, h2⟩
theorem Rg2.ra_32 {j : Nat} {v : Int32} (h1 : -1 ≤ v.toInt) (h2 : v.toInt ≤ 121) : Rg2 32 j v := ⟨h1, h2⟩
theorem Rg2.ra_36 {j : Nat} {v : Int32} (h1 : 0 ≤ v.toInt) (h2 : v.toInt ≤ 121) : Rg2 36 j v := ⟨h1, h2⟩
theorem Rg2.ra_9 {j : Nat} {v : Int32} (h1 : 0 ≤ v.toInt) (h2 : v.toInt ≤ 8) : Rg2 9 j v := ⟨h1, h2⟩
theorem Rg2.u_0_12 (v : Int32) : Rg2 0 12 v := by simp [Rg2]
theorem Rg2.u_0_13 (v : Int32) : Rg2 0 13 v := by simp [Rg2]
theorem Rg2.u_0_25 (v : Int32) : Rg2 0 25 v := by simp [Rg2]
theorem Rg2.u_0_26 (v : Int32) : Rg2 0 26 v := by simp [Rg2]
theorem Rg2.u_0_27 (v : Int32) : Rg2 0 27 v := by simp [Rg2]
theorem Rg2.u_0_28 (v : Int32) : Rg2 0 28 v := by simp [Rg2]
theorem Rg2.u_0_29 (v : Int32) : Rg2 0 29 v := by simp [Rg2]
theorem Rg2.u_0_30 (v : Int32) : Rg2 0 30 v := by simp [Rg2]
theorem Rg2.u_0_31 (v : Int32) : Rg2 0 31 v := by simp [Rg2]
theorem Rg2.u_0_32 (v : Int32) : Rg2 0 32 v := by simp [Rg2]
theorem Rg2.u_0_46 (v : Int32) : Rg2 0 46 v := by simp [Rg2]
theorem Rg2.u_0_6 (v : Int32) : Rg2 0 6 v := by simp [Rg2]
theorem Rg2.u_0_63 (v : Int32) : Rg2 0 63 v := by simp [Rg2]
theorem Rg2.u_0_64 (v : Int32) : Rg2 0 64 v := by simp [Rg2]
theorem Rg2.u_0_7 (v : Int32) : Rg2 0 7 v := by simp [Rg2]
theorem Rg2.ra_10 (j : Nat) (v : Int32) : Rg2 10 j v := trivial
theorem Rg2.ra_11 (j : Nat) (v : Int32) : Rg2 11 j v := trivial
theorem Rg2.ra_12 (j : Nat) (v : Int32) : Rg2 12 j v := trivial
theorem Rg2.ra_14 (j : Nat) (v : Int32) : Rg2 14 j v := trivial
theorem Rg2.ra_15 (j : Nat) (v : Int32) : Rg2 15 j v := trivial
theorem Rg2.ra_16 (j : Nat) (v : Int32) : Rg2 16 j v := trivial
theorem Rg2.ra_19 (j : Nat) (v : Int32) : Rg2 19 j v := trivial
theorem Rg2.ra_2 (j : Nat) (v : Int32) : Rg2 2 j v := trivial
theorem Rg2.ra_20 (j : Nat) (v : Int32) : Rg2 20 j v := trivial
theorem Rg2.ra_22 (j : Nat) (v : Int32) : Rg2 22 j v := trivial
theorem Rg2.ra_23 (j : Nat) (v : Int32) : Rg2 23 j v := trivial
theorem Rg2.ra_24 (j : Nat) (v : Int32) : Rg2 24 j v := trivial
theorem Rg2.ra_27 (j : Nat) (v : Int32) : Rg2 27 j v := trivial
theorem Rg2.ra_28 (j : Nat) (v : Int32) : Rg2 28 j v := trivial
theorem Rg2.ra_29 (j : Nat) (v : Int32) : Rg2 29 j v := trivial
theorem Rg2.ra_3 (j : Nat) (v : Int32) : Rg2 3 j v := trivial
theorem Rg2.ra_33 (j : Nat) (v : Int32) : Rg2 33 j v := trivial
theorem Rg2.ra_34 (j : Nat) (v : Int32) : Rg2 34 j v := trivial
theorem Rg2.ra_35 (j : Nat) (v : Int32) : Rg2 35 j v := trivial
theorem Rg2.ra_37 (j : Nat) (v : Int32) : Rg2 37 j v := trivial
theorem Rg2.ra_4 (j : Nat) (v : Int32) : Rg2 4 j v := trivial
theorem Rg2.ra_5 (j : Nat) (v : Int32) : Rg2 5 j v := trivial
theorem Rg2.ra_6 (j : Nat) (v : Int32) : Rg2 6 j v := trivial
theorem Rg2.ra_7 (j : Nat) (v : Int32) : Rg2 7 j v := trivial
theorem Rg2.ra_8 (j : Nat) (v : Int32) : Rg2 8 j v := trivial
