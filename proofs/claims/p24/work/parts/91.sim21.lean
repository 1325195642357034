section SIM21
/-- one end alone: with an answer, and without -/
def Dt {A : Type} (f : (A → St → Prop) → Prop) : Prop := ∀ P : A → St → Prop, f P → ∃ (r : A) (τ : St), P r τ ∧ ∀ Q : A → St → Prop, Q r τ → f Q
def D0 (f : (St → Prop) → Prop) : Prop := ∀ P : St → Prop, f P → ∃ τ : St, P τ ∧ ∀ Q : St → Prop, Q τ → f Q
variable {A B : Type} {σ : St} {c p : Prop}
theorem Dt.ret {r : A} : Dt (fun Q => Q r σ) := fun _ h => ⟨r, σ, h, fun _ q => q⟩
theorem D0.ret : D0 (fun Q => Q σ) := fun _ h => ⟨σ, h, fun _ q => q⟩
theorem Dt.br {f g : (A → St → Prop) → Prop} (hf : Dt f) (hg : Dt g) : Dt (fun Q => (c → f Q) ∧ (¬ c → g Q)) := by
  intro P h
  by_cases k : c
  · obtain ⟨r, τ, h1, h2⟩ := hf P (h.1 k)
    exact ⟨r, τ, h1, fun Q q => ⟨fun _ => h2 Q q, fun w => absurd k w⟩⟩
  · obtain ⟨r, τ, h1, h2⟩ := hg P (h.2 k)
    exact ⟨r, τ, h1, fun Q q => ⟨fun w => absurd w k, fun _ => h2 Q q⟩⟩
theorem D0.br {f g : (St → Prop) → Prop} (hf : D0 f) (hg : D0 g) : D0 (fun Q => (c → f Q) ∧ (¬ c → g Q)) := by
  intro P h
  by_cases k : c
  · obtain ⟨τ, h1, h2⟩ := hf P (h.1 k)
    exact ⟨τ, h1, fun Q q => ⟨fun _ => h2 Q q, fun w => absurd k w⟩⟩
  · obtain ⟨τ, h1, h2⟩ := hg P (h.2 k)
    exact ⟨τ, h1, fun Q q => ⟨fun w => absurd w k, fun _ => h2 Q q⟩⟩
theorem Dt.nd {f : (A → St → Prop) → Prop} (hf : Dt f) : Dt (fun Q => p ∧ f Q) := by
  intro P h
  obtain ⟨r, τ, h1, h2⟩ := hf P h.2
  exact ⟨r, τ, h1, fun Q q => ⟨h.1, h2 Q q⟩⟩
theorem D0.nd {f : (St → Prop) → Prop} (hf : D0 f) : D0 (fun Q => p ∧ f Q) := by
  intro P h
  obtain ⟨τ, h1, h2⟩ := hf P h.2
  exact ⟨τ, h1, fun Q q => ⟨h.1, h2 Q q⟩⟩
theorem Dt.al {e : B} {f : B → (A → St → Prop) → Prop} (hf : Dt (f e)) : Dt (fun Q => ∀ v : B, v = e → f v Q) := by
  intro P h
  obtain ⟨r, τ, h1, h2⟩ := hf P (h e rfl)
  exact ⟨r, τ, h1, fun Q q v ev => by rw [ev]; exact h2 Q q⟩
theorem D0.al {e : B} {f : B → (St → Prop) → Prop} (hf : D0 (f e)) : D0 (fun Q => ∀ v : B, v = e → f v Q) := by
  intro P h
  obtain ⟨τ, h1, h2⟩ := hf P (h e rfl)
  exact ⟨τ, h1, fun Q q v ev => by rw [ev]; exact h2 Q q⟩
theorem Dt.ca {f : (B → St → Prop) → Prop} {k : B → St → (A → St → Prop) → Prop} (hf : Dt f) (hk : ∀ (r : B) (τ : St), Dt (k r τ)) : Dt (fun Q => f (fun r τ => k r τ Q)) := by
  intro P h
  obtain ⟨r, τ, h1, h2⟩ := hf _ h
  obtain ⟨r', τ', h3, h4⟩ := hk r τ P h1
  exact ⟨r', τ', h3, fun Q q => h2 _ (h4 Q q)⟩
theorem D0.ca {f : (B → St → Prop) → Prop} {k : B → St → (St → Prop) → Prop} (hf : Dt f) (hk : ∀ (r : B) (τ : St), D0 (k r τ)) : D0 (fun Q => f (fun r τ => k r τ Q)) := by
  intro P h
  obtain ⟨r, τ, h1, h2⟩ := hf _ h
  obtain ⟨τ', h3, h4⟩ := hk r τ P h1
  exact ⟨τ', h3, fun Q q => h2 _ (h4 Q q)⟩
theorem Dt.cv {f : (St → Prop) → Prop} {k : St → (A → St → Prop) → Prop} (hf : D0 f) (hk : ∀ τ : St, Dt (k τ)) : Dt (fun Q => f (fun τ => k τ Q)) := by
  intro P h
  obtain ⟨τ, h1, h2⟩ := hf _ h
  obtain ⟨r', τ', h3, h4⟩ := hk τ P h1
  exact ⟨r', τ', h3, fun Q q => h2 _ (h4 Q q)⟩
theorem D0.cv {f : (St → Prop) → Prop} {k : St → (St → Prop) → Prop} (hf : D0 f) (hk : ∀ τ : St, D0 (k τ)) : D0 (fun Q => f (fun τ => k τ Q)) := by
  intro P h
  obtain ⟨τ, h1, h2⟩ := hf _ h
  obtain ⟨τ', h3, h4⟩ := hk τ P h1
  exact ⟨τ', h3, fun Q q => h2 _ (h4 Q q)⟩
theorem Dt.lp1 {T : Type} {body : (A → St → Prop) → (T → St → Prop) → T → St → Prop} (h : ∀ rc : (A → St → Prop) → T → St → Prop, (∀ (x : T) (σ : St), Dt (fun Q => rc Q x σ)) → ∀ (x : T) (σ : St), Dt (fun Q => body Q (rc Q) x σ)) : ∀ (n : Nat) (x : T) (σ : St), Dt (fun Q => lo1 (body Q) n x σ) := by
  intro n
  induction n with
  | zero => intro x σ P hP; exact hP.elim
  | succ n ih => intro x σ; exact h (fun Q => lo1 (body Q) n) ih x σ
end SIM21
section SIM21b
variable {A : Type}
theorem D0.lp1 {T : Type} {body : (St → Prop) → (T → St → Prop) → T → St → Prop} (h : ∀ rc : (St → Prop) → T → St → Prop, (∀ (x : T) (σ : St), D0 (fun Q => rc Q x σ)) → ∀ (x : T) (σ : St), D0 (fun Q => body Q (rc Q) x σ)) : ∀ (n : Nat) (x : T) (σ : St), D0 (fun Q => lo1 (body Q) n x σ) := by
  intro n
  induction n with
  | zero => intro x σ P hP; exact hP.elim
  | succ n ih => intro x σ; exact h (fun Q => lo1 (body Q) n) ih x σ
theorem D0.lp2 {T U : Type} {body : (St → Prop) → (T → U → St → Prop) → T → U → St → Prop} (h : ∀ rc : (St → Prop) → T → U → St → Prop, (∀ (x : T) (y : U) (σ : St), D0 (fun Q => rc Q x y σ)) → ∀ (x : T) (y : U) (σ : St), D0 (fun Q => body Q (rc Q) x y σ)) : ∀ (n : Nat) (x : T) (y : U) (σ : St), D0 (fun Q => lo2 (body Q) n x y σ) := by
  intro n
  induction n with
  | zero => intro x y σ P hP; exact hP.elim
  | succ n ih => intro x y σ; exact h (fun Q => lo2 (body Q) n) ih x y σ
theorem Dt.lp2 {T U : Type} {body : (A → St → Prop) → (T → U → St → Prop) → T → U → St → Prop} (h : ∀ rc : (A → St → Prop) → T → U → St → Prop, (∀ (x : T) (y : U) (σ : St), Dt (fun Q => rc Q x y σ)) → ∀ (x : T) (y : U) (σ : St), Dt (fun Q => body Q (rc Q) x y σ)) : ∀ (n : Nat) (x : T) (y : U) (σ : St), Dt (fun Q => lo2 (body Q) n x y σ) := by
  intro n
  induction n with
  | zero => intro x y σ P hP; exact hP.elim
  | succ n ih => intro x y σ; exact h (fun Q => lo2 (body Q) n) ih x y σ
theorem dt_fails {N : Nat} {x : Int32} {b : St} : D0 (fun Q => fX12_fails N x Q b) := D0.br (D0.al D0.ret) (D0.al D0.ret)
theorem dt_in {N : Nat} {x y z : Int64} {b : St} : Dt (fun Q => fX12_in N x y z Q b) := Dt.br Dt.ret (Dt.br Dt.ret Dt.ret)
theorem dt_read {N : Nat} {y : Int64} {b : St} : Dt (fun Q => fX12_read N y Q b) := by
  unfold fX12_read
  exact Dt.ca dt_in (fun r τ => Dt.br (Dt.cv dt_fails (fun τ => Dt.ret)) (Dt.nd Dt.ret))
theorem dt_four {N : Nat} {y : Int64} {b : St} : Dt (fun Q => fX12_four N y Q b) := by
  unfold fX12_four
  refine Dt.lp2 (body := fun Q => fX12_four_l5 N y Q) (fun rc hr x z σ => ?_) N 0 0 b
  unfold fX12_four_l5
  exact Dt.br Dt.ret (Dt.ca dt_read (fun r τ => Dt.al (Dt.al (hr _ _ _))))
theorem dt_endOf {N : Nat} {x : Int32} {y : Int64} {b : St} : Dt (fun Q => fX12_endOf N x y Q b) := by
  unfold fX12_endOf
  have j110 : ∀ b : St, Dt (fun Q => fX12_endOf_j110 N x y Q b) := fun b => Dt.br (Dt.ca dt_four (fun r τ => Dt.ca dt_in (fun r2 τ2 => Dt.br Dt.ret Dt.ret))) Dt.ret
  have l20 : ∀ (v : Int64) (b : St), Dt (fun Q => lo1 (fX12_endOf_l20 N y Q) N v b) := fun v b => Dt.lp1 (body := fun Q => fX12_endOf_l20 N y Q) (fun rc hr x σ => Dt.br Dt.ret (Dt.nd (Dt.br Dt.ret (Dt.al (hr _ _))))) N v b
  have l58 : ∀ (v : Int64) (b : St), Dt (fun Q => lo1 (fX12_endOf_l58 N y Q) N v b) := fun v b => Dt.lp1 (body := fun Q => fX12_endOf_l58 N y Q) (fun rc hr x σ => Dt.br Dt.ret (Dt.ca dt_four (fun r τ => Dt.br Dt.ret (Dt.al (hr _ _))))) N v b
  exact Dt.nd (Dt.al (Dt.al (Dt.br (l20 _ _) (Dt.br (l58 _ _) (Dt.br (j110 _) (Dt.br (j110 _) (Dt.br Dt.ret (Dt.br Dt.ret (Dt.br Dt.ret (Dt.br Dt.ret (Dt.br Dt.ret (Dt.br Dt.ret Dt.ret))))))))))))
theorem dt_lies {N : Nat} {x : Int32} {b : St} : D0 (fun Q => fX12_lies N x Q b) := by
  have l112 : ∀ (v : Int64) (u w : Int32) (b : St), D0 (fun Q => lo2 (fX12_lies_l112 N x v Q) N u w b) := by
    intro v u w b
    refine D0.lp2 (body := fun Q => fX12_lies_l112 N x v Q) (fun rc hr p q σ => ?_) N u w b
    refine D0.br (D0.al D0.ret) (D0.al (D0.nd (D0.al (D0.ca dt_in (fun r τ => D0.br (hr _ _ _) (D0.nd (D0.br ?_ (hr _ _ _))))))))
    refine D0.nd (D0.al (D0.ca dt_endOf (fun r2 τ2 => D0.br (hr _ _ _) (D0.br (hr _ _ _) (D0.al (D0.nd (D0.br ?_ (hr _ _ _))))))))
    exact D0.ca dt_four (fun r3 τ3 => D0.nd (D0.al (D0.ca dt_four (fun r4 τ4 => D0.nd (D0.al (D0.al (hr _ _ _)))))))
  have l68 : ∀ (v : Int64) (u : Int32) (b : St), D0 (fun Q => lo1 (fX12_lies_l68 N x v Q) N u b) := fun v u b => D0.lp1 (body := fun Q => fX12_lies_l68 N x v Q) (fun rc hr y σ => D0.br (D0.ca dt_four (fun r τ => D0.nd (D0.al (l112 _ _ _ _)))) (D0.nd (D0.al (D0.al (hr _ _))))) N u b
  unfold fX12_lies
  exact D0.al (D0.al (D0.br D0.ret (D0.br (D0.ca dt_four (fun r τ => D0.al (D0.br D0.ret (D0.br (D0.al (l68 _ _ _)) D0.ret)))) D0.ret)))
end SIM21b
