def In32 (lo hi : Int) (v : Int32) : Prop := lo ≤ v.toInt ∧ v.toInt ≤ hi
/-- the class: which numbers a place may hold -/
def Rg1 (k j : Nat) (v : Int32) : Prop := match k with
  | 0 => (j = 6 → In32 0 600 v) ∧ (j = 7 → In32 0 120 v)
  | 1 => j = 1 → In32 0 4096 v
  | 2 => (j = 4 → In32 0 4096 v) ∧ (j = 5 → In32 0 4096 v) ∧ (j = 6 → In32 0 4096 v)
  | 3 => (j = 6 → In32 0 4 v) ∧ (j = 7 → In32 0 40 v) ∧ (j = 8 → In32 0 1000 v)
  | 6 => j = 5 → In32 0 60 v
  | 7 => j = 4 → In32 0 20 v
  | 9 => (j = 9 → In32 0 121 v) ∧ (j = 10 → In32 0 121 v)
  | 10 => In32 (-128) 127 v
  | 21 => In32 0 20 v
  | 28 => In32 (-1) 59 v
  | 31 => In32 0 120 v
  | 32 => In32 0 120 v
  | 34 => In32 (-1) 59 v
  | 39 => In32 0 120 v
  | 42 => In32 0 120 v
  | k => 203 ≤ k → In32 0 59 v
/-- a good state of the class, in which border and tape count are those of σ0 -/
def K1 (σ0 σ : St) : Prop := (∀ k j : Nat, Rg1 k j (σ.1 k j)) ∧ σ.1 1 1 = σ0.1 1 1 ∧ σ.1 0 6 = σ0.1 0 6
theorem K1.u {σ0 σ : St} (h : K1 σ0 σ) {k j : Nat} {v : Int32} (hr : Rg1 k j v) (h1 : ¬ (k = 1 ∧ j = 1)) (h2 : ¬ (k = 0 ∧ j = 6)) : K1 σ0 (u1 σ k j v) := by
  have key : ∀ a b : Nat, (u1 σ k j v).1 a b = if a = k ∧ b = j then v else σ.1 a b := by
    intro a b
    by_cases ha : a = k
    · subst ha
      rw [u1_at]
      by_cases hb : b = j
      · subst hb; simp [upd]
      · simp [upd, hb]
    · rw [u1_ne ha]; simp [ha]
  refine ⟨fun a b => ?_, ?_, ?_⟩
  · rw [key]
    by_cases hab : a = k ∧ b = j
    · rw [if_pos hab, hab.1, hab.2]; exact hr
    · rw [if_neg hab]; exact h.1 a b
  · rw [key, if_neg (fun q => h1 ⟨q.1.symm, q.2.symm⟩)]; exact h.2.1
  · rw [key, if_neg (fun q => h2 ⟨q.1.symm, q.2.symm⟩)]; exact h.2.2
theorem K1.l {σ0 σ : St} (h : K1 σ0 σ) {k j : Nat} {v : Int64} : K1 σ0 (u2 σ k j v) := h
/-- sums and differences of two ints: the whole numbers, or one turn away from them -/
theorem tA (a b : Int32) : ((a + b).toInt = a.toInt + b.toInt ∨ (a + b).toInt = a.toInt + b.toInt - 4294967296 ∨ (a + b).toInt = a.toInt + b.toInt + 4294967296) := by
  have := Int32.toInt_add a b
  have h1 := a.toInt_lt; have h2 := a.le_toInt; have h3 := b.toInt_lt; have h4 := b.le_toInt
  rw [this]
  simp only [Int.bmod_def]
  split <;> omega
theorem tS (a b : Int32) : ((a - b).toInt = a.toInt - b.toInt ∨ (a - b).toInt = a.toInt - b.toInt - 4294967296 ∨ (a - b).toInt = a.toInt - b.toInt + 4294967296) := by
  have := Int32.toInt_sub a b
  have h1 := a.toInt_lt; have h2 := a.le_toInt; have h3 := b.toInt_lt; have h4 := b.le_toInt
  rw [this]
  simp only [Int.bmod_def]
  split <;> omega
theorem tB (a : Int32) : -2147483648 ≤ a.toInt ∧ a.toInt < 2147483648 := ⟨by have := a.le_toInt; omega, by have := a.toInt_lt; omega⟩
theorem aOk {a b : Int32} (h1 : -2147483648 ≤ a.toInt + b.toInt) (h2 : a.toInt + b.toInt < 2147483648) : (a + b).toInt = a.toInt + b.toInt := by
  have := tA a b; have := tB (a + b); omega
theorem sOk {a b : Int32} (h1 : -2147483648 ≤ a.toInt - b.toInt) (h2 : a.toInt - b.toInt < 2147483648) : (a - b).toInt = a.toInt - b.toInt := by
  have := tS a b; have := tB (a - b); omega
theorem inI {x : Int32} {n : Nat} (h1 : 0 ≤ x.toInt) (h2 : x.toInt < n) : vp_in x n := vp_in_iff.mpr ⟨h1, h2⟩
/-- loops: a measure that falls -/
theorem lo1_i {A : Type} {body : (A → St → Prop) → A → St → Prop} (I : A → St → Prop) (μ : A → St → Nat) (hs : ∀ r a σ, I a σ → (∀ b τ, I b τ → μ b τ < μ a σ → r b τ) → body r a σ) : ∀ (n : Nat) (a : A) (σ : St), I a σ → μ a σ < n → lo1 body n a σ := by
  intro n
  induction n with
  | zero => intro a σ _ h; omega
  | succ n ih => intro a σ hI h; exact hs _ a σ hI (fun b τ hb hm => ih b τ hb (by omega))
theorem lo0_i {body : (St → Prop) → St → Prop} (I : St → Prop) (μ : St → Nat) (hs : ∀ r σ, I σ → (∀ τ, I τ → μ τ < μ σ → r τ) → body r σ) : ∀ (n : Nat) (σ : St), I σ → μ σ < n → lo0 body n σ := by
  intro n
  induction n with
  | zero => intro σ _ h; omega
  | succ n ih => intro σ hI h; exact hs _ σ hI (fun τ hb hm => ih τ hb (by omega))
theorem lo2_i {A B : Type} {body : (A → B → St → Prop) → A → B → St → Prop} (I : A → B → St → Prop) (μ : A → B → St → Nat) (hs : ∀ r a b σ, I a b σ → (∀ a' b' τ, I a' b' τ → μ a' b' τ < μ a b σ → r a' b' τ) → body r a b σ) : ∀ (n : Nat) (a : A) (b : B) (σ : St), I a b σ → μ a b σ < n → lo2 body n a b σ := by
  intro n
  induction n with
  | zero => intro a b σ _ h; omega
  | succ n ih => intro a b σ hI h; exact hs _ a b σ hI (fun a' b' τ hb hm => ih a' b' τ hb (by omega))
theorem lo3_i {A B C : Type} {body : (A → B → C → St → Prop) → A → B → C → St → Prop} (I : A → B → C → St → Prop) (μ : A → B → C → St → Nat) (hs : ∀ r a b c σ, I a b c σ → (∀ a' b' c' τ, I a' b' c' τ → μ a' b' c' τ < μ a b c σ → r a' b' c' τ) → body r a b c σ) : ∀ (n : Nat) (a : A) (b : B) (c : C) (σ : St), I a b c σ → μ a b c σ < n → lo3 body n a b c σ := by
  intro n
  induction n with
  | zero => intro a b c σ _ h; omega
  | succ n ih => intro a b c σ hI h; exact hs _ a b c σ hI (fun a' b' c' τ hb hm => ih a' b' c' τ hb (by omega))
theorem lo4_i {A B C D : Type} {body : (A → B → C → D → St → Prop) → A → B → C → D → St → Prop} (I : A → B → C → D → St → Prop) (μ : A → B → C → D → St → Nat) (hs : ∀ r a b c d σ, I a b c d σ → (∀ a' b' c' d' τ, I a' b' c' d' τ → μ a' b' c' d' τ < μ a b c d σ → r a' b' c' d' τ) → body r a b c d σ) : ∀ (n : Nat) (a : A) (b : B) (c : C) (d : D) (σ : St), I a b c d σ → μ a b c d σ < n → lo4 body n a b c d σ := by
  intro n
  induction n with
  | zero => intro a b c d σ _ h; omega
  | succ n ih => intro a b c d σ hI h; exact hs _ a b c d σ hI (fun a' b' c' d' τ hb hm => ih a' b' c' d' τ hb (by omega))
