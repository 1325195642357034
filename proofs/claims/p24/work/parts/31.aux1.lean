theorem aOkE {a b : Int32} {A B : Int} (ha : a.toInt = A) (hb : b.toInt = B) (h1 : -2147483648 ≤ A + B) (h2 : A + B < 2147483648) : (a + b).toInt = A + B := by subst ha; subst hb; exact aOk h1 h2
theorem sOkE {a b : Int32} {A B : Int} (ha : a.toInt = A) (hb : b.toInt = B) (h1 : -2147483648 ≤ A - B) (h2 : A - B < 2147483648) : (a - b).toInt = A - B := by subst ha; subst hb; exact sOk h1 h2
theorem mOkE {a b : Int32} {A B : Int} (ha : a.toInt = A) (hb : b.toInt = B) (h1 : -2147483648 ≤ A * B) (h2 : A * B < 2147483648) : (a * b).toInt = A * B := by
  subst ha; subst hb
  rw [Int32.toInt_mul, Int.bmod_def]
  split <;> omega
theorem ltE {x y : Int32} {A B : Int} (hx : x.toInt = A) (hy : y.toInt = B) : x < y ↔ A < B := by subst hx; subst hy; exact Int32.lt_iff_toInt_lt
theorem leE {x y : Int32} {A B : Int} (hx : x.toInt = A) (hy : y.toInt = B) : x ≤ y ↔ A ≤ B := by subst hx; subst hy; exact Int32.le_iff_toInt_le
theorem eqE {x y : Int32} {A B : Int} (hx : x.toInt = A) (hy : y.toInt = B) : x = y ↔ A = B := by subst hx; subst hy; exact Int32.toInt_inj.symm
theorem notltE {x y : Int32} {A B : Int} (hx : x.toInt = A) (hy : y.toInt = B) : ¬ x < y ↔ ¬ A < B := not_congr (ltE hx hy)
theorem notleE {x y : Int32} {A B : Int} (hx : x.toInt = A) (hy : y.toInt = B) : ¬ x ≤ y ↔ ¬ A ≤ B := not_congr (leE hx hy)
theorem noteqE {x y : Int32} {A B : Int} (hx : x.toInt = A) (hy : y.toInt = B) : ¬ x = y ↔ ¬ A = B := not_congr (eqE hx hy)
theorem inE {x : Int32} {E : Int} {n : Nat} (h : x.toInt = E) (h1 : 0 ≤ E) (h2 : E < n) : vp_in x n := inI (by rw [h]; exact h1) (by rw [h]; exact h2)
theorem leP {x : Int32} {E lo : Int} (h : x.toInt = E) (h1 : lo ≤ E) : lo ≤ x.toInt := by rw [h]; exact h1
theorem geP {x : Int32} {E hi : Int} (h : x.toInt = E) (h1 : E ≤ hi) : x.toInt ≤ hi := by rw [h]; exact h1
theorem K1.gp {σ0 σ : St} (h : K1 σ0 σ) (n j : Nat) : 0 ≤ (σ.1 (203 + n) j).toInt ∧ (σ.1 (203 + n) j).toInt ≤ 59 := by
  have h1 := h.1 (203 + n) j
  unfold Rg1 at h1
  split at h1 <;> first | omega | exact h1 (by omega)
theorem dec1 {y : Int32} (h : -2147483648 < y.toInt) : (y + (-1)).toInt = y.toInt - 1 := by
  have h1 : (-1 : Int32).toInt = -1 := by decide
  have h2 := tB y
  rw [aOk (by rw [h1]; omega) (by rw [h1]; omega), h1]
  omega
theorem kq {σ σ1 : St} {k j : Nat} {v : Int32} {a b : Nat} (e : σ1 = u1 σ k j v) (h : ¬ (a = k ∧ b = j)) : σ1.1 a b = σ.1 a b := by
  rw [e]
  by_cases ha : a = k
  · subst ha
    rw [u1_at]
    exact if_neg (fun q => h ⟨rfl, q⟩)
  · rw [u1_ne ha]
theorem kq2 {σ σ1 : St} {k j : Nat} {v : Int64} {a b : Nat} (e : σ1 = u2 σ k j v) : σ1.1 a b = σ.1 a b := by rw [e]; rfl
theorem and255 (x : Int32) : 0 ≤ (x &&& 255).toInt ∧ (x &&& 255).toInt ≤ 255 := by
  obtain ⟨j, hj, e⟩ := pk_andE x (m := 255) 8 (by decide)
  rw [e, nI_toInt (by omega)]
  omega
theorem and1 (x : Int32) : 0 ≤ (x &&& 1).toInt ∧ (x &&& 1).toInt ≤ 1 := by
  obtain ⟨j, hj, e⟩ := pk_andE x (m := 1) 1 (by decide)
  rw [e, nI_toInt (by omega)]
  omega
theorem vp_lt {i : Int32} {n : Nat} (h : vp_in i n) : i.toNatClampNeg < n := Nat.not_le.mp fun q => h (Or.inr q)
theorem by8 (v : Int32) : In32 (-128) 127 v.toInt8.toInt32 := by
  have h1 := v.toInt8.toInt_lt
  have h2 := v.toInt8.le_toInt
  have h3 : v.toInt8.toInt32.toInt = v.toInt8.toInt := Int8.toInt_toInt32 _
  refine ⟨?_, ?_⟩ <;> omega
theorem nb01 {r : Int32} (h1 : 0 ≤ r.toInt) (h2 : r.toInt ≤ 1) : narrow .boolean (.int r) = .int r := by
  have h : r = 0 ∨ r = 1 := by
    rcases (show r.toInt = 0 ∨ r.toInt = 1 by omega) with h | h
    · exact Or.inl (Int32.toInt_inj.mp h)
    · exact Or.inr (Int32.toInt_inj.mp h)
  rcases h with rfl | rfl <;> rfl
theorem jobK_b {k : Nat} (h : jobK k) : 43 ≤ k ∧ k < 83 := h
theorem loc8_b {k : Nat} (h : loc8 k) : 83 ≤ k ∧ k < 123 := h
theorem r20_b {k : Nat} (h : r20 k) : 123 ≤ k ∧ k < 183 := h
theorem r120_b {k : Nat} (h : r120 k) : k = 11 ∨ (183 ≤ k ∧ k < 223) := h
theorem rg_un {k j : Nat} {v : Int32} (h1 : 43 ≤ k) (h2 : k < 203) : Rg1 k j v := by
  unfold Rg1
  split <;> first | omega | (intro h; omega)
theorem rg_jobK {k j : Nat} {v : Int32} (h : jobK k) : Rg1 k j v := rg_un h.1 (by have := h.2; omega)
theorem rg_loc8 {k j : Nat} {v : Int32} (h : loc8 k) : Rg1 k j v := rg_un (by have := h.1; omega) (by have := h.2; omega)
theorem rg_r20 {k j : Nat} {v : Int32} (h : r20 k) : Rg1 k j v := rg_un (by have := h.1; omega) (by have := h.2; omega)
theorem rg_t20 {n j : Nat} {v : Int32} (h : n < 20) : Rg1 (183 + n) j v := rg_un (by omega) (by omega)
theorem rg_r120 {k j : Nat} {v : Int32} (h : r120 k) (h1 : 0 ≤ v.toInt) (h2 : v.toInt ≤ 59) : Rg1 k j v := by
  rcases h with rfl | ⟨h3, h4⟩
  · intro h; omega
  · by_cases h5 : k < 203
    · exact rg_un (by omega) h5
    · unfold Rg1
      split <;> first | omega | exact fun _ => ⟨h1, h2⟩
theorem K1.g_0_7 {σ0 σ : St} (h : K1 σ0 σ) : 0 ≤ (σ.1 0 7).toInt ∧ (σ.1 0 7).toInt ≤ 120 := by
  have := h.1 0 7
  simpa [Rg1, In32] using this
theorem K1.g_1_1 {σ0 σ : St} (h : K1 σ0 σ) : 0 ≤ (σ.1 1 1).toInt ∧ (σ.1 1 1).toInt ≤ 4096 := by
  have := h.1 1 1
  simpa [Rg1, In32] using this
theorem K1.g_2_4 {σ0 σ : St} (h : K1 σ0 σ) : 0 ≤ (σ.1 2 4).toInt ∧ (σ.1 2 4).toInt ≤ 4096 := by
  have := h.1 2 4
  simpa [Rg1, In32] using this
theorem K1.g_2_5 {σ0 σ : St} (h : K1 σ0 σ) : 0 ≤ (σ.1 2 5).toInt ∧ (σ.1 2 5).toInt ≤ 4096 := by
  have := h.1 2 5
  simpa [Rg1, In32] using this
theorem K1.g_2_6 {σ0 σ : St} (h : K1 σ0 σ) : 0 ≤ (σ.1 2 6).toInt ∧ (σ.1 2 6).toInt ≤ 4096 := by
  have := h.1 2 6
  simpa [Rg1, In32] using this
theorem K1.g_3_6 {σ0 σ : St} (h : K1 σ0 σ) : 0 ≤ (σ.1 3 6).toInt ∧ (σ.1 3 6).toInt ≤ 4 := by
  have := h.1 3 6
  simpa [Rg1, In32] using this
theorem K1.g_3_7 {σ0 σ : St} (h : K1 σ0 σ) : 0 ≤ (σ.1 3 7).toInt ∧ (σ.1 3 7).toInt ≤ 40 := by
  have := h.1 3 7
  simpa [Rg1, In32] using this
theorem K1.g_3_8 {σ0 σ : St} (h : K1 σ0 σ) : 0 ≤ (σ.1 3 8).toInt ∧ (σ.1 3 8).toInt ≤ 1000 := by
  have := h.1 3 8
  simpa [Rg1, In32] using this
theorem K1.g_6_5 {σ0 σ : St} (h : K1 σ0 σ) : 0 ≤ (σ.1 6 5).toInt ∧ (σ.1 6 5).toInt ≤ 60 := by
  have := h.1 6 5
  simpa [Rg1, In32] using this
theorem K1.g_7_4 {σ0 σ : St} (h : K1 σ0 σ) : 0 ≤ (σ.1 7 4).toInt ∧ (σ.1 7 4).toInt ≤ 20 := by
  have := h.1 7 4
  simpa [Rg1, In32] using this
theorem K1.g_9_10 {σ0 σ : St} (h : K1 σ0 σ) : 0 ≤ (σ.1 9 10).toInt ∧ (σ.1 9 10).toInt ≤ 121 := by
  have := h.1 9 10
  simpa [Rg1, In32] using this
theorem K1.g_9_9 {σ0 σ : St} (h : K1 σ0 σ) : 0 ≤ (σ.1 9 9).toInt ∧ (σ.1 9 9).toInt ≤ 121 := by
  have := h.1 9 9
  simpa [Rg1, In32] using this
theorem K1.ga_21 {σ0 σ : St} (h : K1 σ0 σ) (j : Nat) : 0 ≤ (σ.1 21 j).toInt ∧ (σ.1 21 j).toInt ≤ 20 := h.1 21 j
theorem K1.ga_28 {σ0 σ : St} (h : K1 σ0 σ) (j : Nat) : -1 ≤ (σ.1 28 j).toInt ∧ (σ.1 28 j).toInt ≤ 59 := h.1 28 j
theorem K1.ga_31 {σ0 σ : St} (h : K1 σ0 σ) (j : Nat) : 0 ≤ (σ.1 31 j).toInt ∧ (σ.1 31 j).toInt ≤ 120 := h.1 31 j
theorem K1.ga_32 {σ0 σ : St} (h : K1 σ0 σ) (j : Nat) : 0 ≤ (σ.1 32 j).toInt ∧ (σ.1 32 j).toInt ≤ 120 := h.1 32 j
theorem K1.ga_34 {σ0 σ : St} (h : K1 σ0 σ) (j : Nat) : -1 ≤ (σ.1 34 j).toInt ∧ (σ.1 34 j).toInt ≤ 59 := h.1 34 j
theorem K1.ga_39 {σ0 σ : St} (h : K1 σ0 σ) (j : Nat) : 0 ≤ (σ.1 39 j).toInt ∧ (σ.1 39 j).toInt ≤ 120 := h.1 39 j
theorem K1.ga_42 {σ0 σ : St} (h : K1 σ0 σ) (j : Nat) : 0 ≤ (σ.1 42 j).toInt ∧ (σ.1 42 j).toInt ≤ 120 := h.1 42 j
theorem Rg1.r_0_7 {v : Int32} (h1 : 0 ≤ v.toInt) (h2 : v.toInt ≤ 120) : Rg1 0 7 v := by simp [Rg1, In32]; omega
theorem Rg1.r_2_4 {v : Int32} (h1 : 0 ≤ v.toInt) (h2 : v.toInt ≤ 4096) : Rg1 2 4 v := by simp [Rg1, In32]; omega
theorem Rg1.r_2_5 {v : Int32} (h1 : 0 ≤ v.toInt) (h2 : v.toInt ≤ 4096) : Rg1 2 5 v := by simp [Rg1, In32]; omega
theorem Rg1.r_2_6 {v : Int32} (h1 : 0 ≤ v.toInt) (h2 : v.toInt ≤ 4096) : Rg1 2 6 v := by simp [Rg1, In32]; omega
theorem Rg1.r_3_6 {v : Int32} (h1 : 0 ≤ v.toInt) (h2 : v.toInt ≤ 4) : Rg1 3 6 v := by simp [Rg1, In32]; omega
theorem Rg1.r_3_7 {v : Int32} (h1 : 0 ≤ v.toInt) (h2 : v.toInt ≤ 40) : Rg1 3 7 v := by simp [Rg1, In32]; omega
theorem Rg1.r_3_8 {v : Int32} (h1 : 0 ≤ v.toInt) (h2 : v.toInt ≤ 1000) : Rg1 3 8 v := by simp [Rg1, In32]; omega
theorem Rg1.r_6_5 {v : Int32} (h1 : 0 ≤ v.toInt) (h2 : v.toInt ≤ 60) : Rg1 6 5 v := by simp [Rg1, In32]; omega
theorem Rg1.r_7_4 {v : Int32} (h1 : 0 ≤ v.toInt) (h2 : v.toInt ≤ 20) : Rg1 7 4 v := by simp [Rg1, In32]; omega
theorem Rg1.r_9_10 {v : Int32} (h1 : 0 ≤ v.toInt) (h2 : v.toInt ≤ 121) : Rg1 9 10 v := by simp [Rg1, In32]; omega
theorem Rg1.r_9_9 {v : Int32} (h1 : 0 ≤ v.toInt) (h2 : v.toInt ≤ 121) : Rg1 9 9 v := by simp [Rg1, In32]; omega
theorem Rg1.ra_21 {j : Nat} {v : Int32} (h1 : 0 ≤ v.toInt) (h2 : v.toInt ≤ 20) : Rg1 21 j v := ⟨h1, h2⟩
theorem Rg1.ra_28 {j : Nat} {v : Int32} (h1 : -1 ≤ v.toInt) (h2 : v.toInt ≤ 59) : Rg1 28 j v := ⟨h1, h2⟩
theorem Rg1.ra_31 {j : Nat} {v : Int32} (h1 : 0 ≤ v.toInt) (h2 : v.toInt ≤ 120) : Rg1 31 j v := ⟨h1, h2⟩
theorem Rg1.ra_32 {j : Nat} {v : Int32} (h1 : 0 ≤ v.toInt) (h2 : v.toInt ≤ 120) : Rg1 32 j v := ⟨h1, h2⟩
theorem Rg1.ra_34 {j : Nat} {v : Int32} (h1 : -1 ≤ v.toInt) (h2 : v.toInt ≤ 59) : Rg1 34 j v := ⟨h1, h2⟩
theorem Rg1.ra_39 {j : Nat} {v : Int32} (h1 : 0 ≤ v.toInt) (h2 : v.toInt ≤ 120) : Rg1 39 j v := ⟨h1, h2⟩
theorem Rg1.ra_42 {j : Nat} {v : Int32} (h1 : 0 ≤ v.toInt) (h2 : v.toInt ≤ 120) : Rg1 42 j v := ⟨h1, h2⟩
theorem Rg1.u_2_3 (v : Int32) : Rg1 2 3 v := by simp [Rg1]
theorem Rg1.u_2_7 (v : Int32) : Rg1 2 7 v := by simp [Rg1]
theorem Rg1.u_2_8 (v : Int32) : Rg1 2 8 v := by simp [Rg1]
theorem Rg1.u_3_10 (v : Int32) : Rg1 3 10 v := by simp [Rg1]
theorem Rg1.u_3_11 (v : Int32) : Rg1 3 11 v := by simp [Rg1]
theorem Rg1.u_3_12 (v : Int32) : Rg1 3 12 v := by simp [Rg1]
theorem Rg1.u_3_9 (v : Int32) : Rg1 3 9 v := by simp [Rg1]
theorem Rg1.u_4_11 (v : Int32) : Rg1 4 11 v := by simp [Rg1]
theorem Rg1.u_5_0 (v : Int32) : Rg1 5 0 v := by simp [Rg1]
theorem Rg1.u_5_1 (v : Int32) : Rg1 5 1 v := by simp [Rg1]
theorem Rg1.u_5_2 (v : Int32) : Rg1 5 2 v := by simp [Rg1]
theorem Rg1.u_5_3 (v : Int32) : Rg1 5 3 v := by simp [Rg1]
theorem Rg1.u_5_4 (v : Int32) : Rg1 5 4 v := by simp [Rg1]
theorem Rg1.u_5_5 (v : Int32) : Rg1 5 5 v := by simp [Rg1]
theorem Rg1.u_5_6 (v : Int32) : Rg1 5 6 v := by simp [Rg1]
theorem Rg1.u_5_7 (v : Int32) : Rg1 5 7 v := by simp [Rg1]
theorem Rg1.ra_11 (j : Nat) (v : Int32) : Rg1 11 j v := by simp [Rg1]
theorem Rg1.ra_12 (j : Nat) (v : Int32) : Rg1 12 j v := by simp [Rg1]
theorem Rg1.ra_13 (j : Nat) (v : Int32) : Rg1 13 j v := by simp [Rg1]
theorem Rg1.ra_14 (j : Nat) (v : Int32) : Rg1 14 j v := by simp [Rg1]
theorem Rg1.ra_16 (j : Nat) (v : Int32) : Rg1 16 j v := by simp [Rg1]
theorem Rg1.ra_17 (j : Nat) (v : Int32) : Rg1 17 j v := by simp [Rg1]
theorem Rg1.ra_18 (j : Nat) (v : Int32) : Rg1 18 j v := by simp [Rg1]
theorem Rg1.ra_19 (j : Nat) (v : Int32) : Rg1 19 j v := by simp [Rg1]
theorem Rg1.ra_22 (j : Nat) (v : Int32) : Rg1 22 j v := by simp [Rg1]
theorem Rg1.ra_24 (j : Nat) (v : Int32) : Rg1 24 j v := by simp [Rg1]
theorem Rg1.ra_25 (j : Nat) (v : Int32) : Rg1 25 j v := by simp [Rg1]
theorem Rg1.ra_26 (j : Nat) (v : Int32) : Rg1 26 j v := by simp [Rg1]
theorem Rg1.ra_27 (j : Nat) (v : Int32) : Rg1 27 j v := by simp [Rg1]
theorem Rg1.ra_29 (j : Nat) (v : Int32) : Rg1 29 j v := by simp [Rg1]
theorem Rg1.ra_30 (j : Nat) (v : Int32) : Rg1 30 j v := by simp [Rg1]
theorem Rg1.ra_33 (j : Nat) (v : Int32) : Rg1 33 j v := by simp [Rg1]
theorem Rg1.ra_35 (j : Nat) (v : Int32) : Rg1 35 j v := by simp [Rg1]
theorem Rg1.ra_36 (j : Nat) (v : Int32) : Rg1 36 j v := by simp [Rg1]
theorem Rg1.ra_40 (j : Nat) (v : Int32) : Rg1 40 j v := by simp [Rg1]
theorem Rg1.ra_41 (j : Nat) (v : Int32) : Rg1 41 j v := by simp [Rg1]
