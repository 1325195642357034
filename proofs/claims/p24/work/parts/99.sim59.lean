section CM
/-- two proofs of one run -/
def C0 (f : (St → Prop) → Prop) : Prop := ∀ P Q R : St → Prop, (∀ τ : St, P τ → Q τ → R τ) → f P → f Q → f R
def Ct {A : Type} (f : (A → St → Prop) → Prop) : Prop := ∀ P Q R : A → St → Prop, (∀ (r : A) (τ : St), P r τ → Q r τ → R r τ) → f P → f Q → f R
variable {A B : Type} {σ : St} {c p : Prop}
theorem Ct.ret {r : A} : Ct (fun Q => Q r σ) := fun _ _ _ k a b => k r σ a b
theorem C0.ret : C0 (fun Q => Q σ) := fun _ _ _ k a b => k σ a b
theorem Ct.br {f g : (A → St → Prop) → Prop} (hf : Ct f) (hg : Ct g) : Ct (fun Q => (c → f Q) ∧ (¬ c → g Q)) := fun P Q R k a b => ⟨fun w => hf P Q R k (a.1 w) (b.1 w), fun w => hg P Q R k (a.2 w) (b.2 w)⟩
theorem C0.br {f g : (St → Prop) → Prop} (hf : C0 f) (hg : C0 g) : C0 (fun Q => (c → f Q) ∧ (¬ c → g Q)) := fun P Q R k a b => ⟨fun w => hf P Q R k (a.1 w) (b.1 w), fun w => hg P Q R k (a.2 w) (b.2 w)⟩
theorem Ct.nd {f : (A → St → Prop) → Prop} (hf : Ct f) : Ct (fun Q => p ∧ f Q) := fun P Q R k a b => ⟨a.1, hf P Q R k a.2 b.2⟩
theorem C0.nd {f : (St → Prop) → Prop} (hf : C0 f) : C0 (fun Q => p ∧ f Q) := fun P Q R k a b => ⟨a.1, hf P Q R k a.2 b.2⟩
theorem Ct.al {e : B} {f : B → (A → St → Prop) → Prop} (hf : Ct (f e)) : Ct (fun Q => ∀ v : B, v = e → f v Q) := fun P Q R k a b v ev => by rw [ev]; exact hf P Q R k (a e rfl) (b e rfl)
theorem C0.al {e : B} {f : B → (St → Prop) → Prop} (hf : C0 (f e)) : C0 (fun Q => ∀ v : B, v = e → f v Q) := fun P Q R k a b v ev => by rw [ev]; exact hf P Q R k (a e rfl) (b e rfl)
theorem Ct.ca {f : (B → St → Prop) → Prop} {k : B → St → (A → St → Prop) → Prop} (hf : Ct f) (hk : ∀ (r : B) (τ : St), Ct (k r τ)) : Ct (fun Q => f (fun r τ => k r τ Q)) := fun P Q R w a b => hf _ _ _ (fun r τ x y => hk r τ P Q R w x y) a b
theorem C0.ca {f : (B → St → Prop) → Prop} {k : B → St → (St → Prop) → Prop} (hf : Ct f) (hk : ∀ (r : B) (τ : St), C0 (k r τ)) : C0 (fun Q => f (fun r τ => k r τ Q)) := fun P Q R w a b => hf _ _ _ (fun r τ x y => hk r τ P Q R w x y) a b
theorem Ct.cv {f : (St → Prop) → Prop} {k : St → (A → St → Prop) → Prop} (hf : C0 f) (hk : ∀ τ : St, Ct (k τ)) : Ct (fun Q => f (fun τ => k τ Q)) := fun P Q R w a b => hf _ _ _ (fun τ x y => hk τ P Q R w x y) a b
theorem C0.cv {f : (St → Prop) → Prop} {k : St → (St → Prop) → Prop} (hf : C0 f) (hk : ∀ τ : St, C0 (k τ)) : C0 (fun Q => f (fun τ => k τ Q)) := fun P Q R w a b => hf _ _ _ (fun τ x y => hk τ P Q R w x y) a b
end CM
theorem Ct.lp0 {A : Type} {body : (A → St → Prop) → (St → Prop) → St → Prop} (h : ∀ rc : (A → St → Prop) → St → Prop, (∀ (σ : St), Ct (fun Q => rc Q σ)) → ∀ (σ : St), Ct (fun Q => body Q (rc Q) σ)) : ∀ (n : Nat) (σ : St), Ct (fun Q => lo0 (body Q) n σ) := by
  intro n
  induction n with
  | zero => intro σ P Q R k a _; exact a.elim
  | succ n ih => intro σ; exact h (fun Q => lo0 (body Q) n) ih σ
theorem C0.lp0 {body : (St → Prop) → (St → Prop) → St → Prop} (h : ∀ rc : (St → Prop) → St → Prop, (∀ (σ : St), C0 (fun Q => rc Q σ)) → ∀ (σ : St), C0 (fun Q => body Q (rc Q) σ)) : ∀ (n : Nat) (σ : St), C0 (fun Q => lo0 (body Q) n σ) := by
  intro n
  induction n with
  | zero => intro σ P Q R k a _; exact a.elim
  | succ n ih => intro σ; exact h (fun Q => lo0 (body Q) n) ih σ
theorem Ct.lp1 {A : Type} {T : Type} {body : (A → St → Prop) → (T → St → Prop) → T → St → Prop} (h : ∀ rc : (A → St → Prop) → T → St → Prop, (∀ (x0 : T) (σ : St), Ct (fun Q => rc Q x0 σ)) → ∀ (x0 : T) (σ : St), Ct (fun Q => body Q (rc Q) x0 σ)) : ∀ (n : Nat) (x0 : T) (σ : St), Ct (fun Q => lo1 (body Q) n x0 σ) := by
  intro n
  induction n with
  | zero => intro x0 σ P Q R k a _; exact a.elim
  | succ n ih => intro x0 σ; exact h (fun Q => lo1 (body Q) n) ih x0 σ
theorem C0.lp1 {T : Type} {body : (St → Prop) → (T → St → Prop) → T → St → Prop} (h : ∀ rc : (St → Prop) → T → St → Prop, (∀ (x0 : T) (σ : St), C0 (fun Q => rc Q x0 σ)) → ∀ (x0 : T) (σ : St), C0 (fun Q => body Q (rc Q) x0 σ)) : ∀ (n : Nat) (x0 : T) (σ : St), C0 (fun Q => lo1 (body Q) n x0 σ) := by
  intro n
  induction n with
  | zero => intro x0 σ P Q R k a _; exact a.elim
  | succ n ih => intro x0 σ; exact h (fun Q => lo1 (body Q) n) ih x0 σ
theorem Ct.lp2 {A : Type} {T U : Type} {body : (A → St → Prop) → (T → U → St → Prop) → T → U → St → Prop} (h : ∀ rc : (A → St → Prop) → T → U → St → Prop, (∀ (x0 : T) (x1 : U) (σ : St), Ct (fun Q => rc Q x0 x1 σ)) → ∀ (x0 : T) (x1 : U) (σ : St), Ct (fun Q => body Q (rc Q) x0 x1 σ)) : ∀ (n : Nat) (x0 : T) (x1 : U) (σ : St), Ct (fun Q => lo2 (body Q) n x0 x1 σ) := by
  intro n
  induction n with
  | zero => intro x0 x1 σ P Q R k a _; exact a.elim
  | succ n ih => intro x0 x1 σ; exact h (fun Q => lo2 (body Q) n) ih x0 x1 σ
theorem C0.lp2 {T U : Type} {body : (St → Prop) → (T → U → St → Prop) → T → U → St → Prop} (h : ∀ rc : (St → Prop) → T → U → St → Prop, (∀ (x0 : T) (x1 : U) (σ : St), C0 (fun Q => rc Q x0 x1 σ)) → ∀ (x0 : T) (x1 : U) (σ : St), C0 (fun Q => body Q (rc Q) x0 x1 σ)) : ∀ (n : Nat) (x0 : T) (x1 : U) (σ : St), C0 (fun Q => lo2 (body Q) n x0 x1 σ) := by
  intro n
  induction n with
  | zero => intro x0 x1 σ P Q R k a _; exact a.elim
  | succ n ih => intro x0 x1 σ; exact h (fun Q => lo2 (body Q) n) ih x0 x1 σ
theorem Ct.lp3 {A : Type} {T U V : Type} {body : (A → St → Prop) → (T → U → V → St → Prop) → T → U → V → St → Prop} (h : ∀ rc : (A → St → Prop) → T → U → V → St → Prop, (∀ (x0 : T) (x1 : U) (x2 : V) (σ : St), Ct (fun Q => rc Q x0 x1 x2 σ)) → ∀ (x0 : T) (x1 : U) (x2 : V) (σ : St), Ct (fun Q => body Q (rc Q) x0 x1 x2 σ)) : ∀ (n : Nat) (x0 : T) (x1 : U) (x2 : V) (σ : St), Ct (fun Q => lo3 (body Q) n x0 x1 x2 σ) := by
  intro n
  induction n with
  | zero => intro x0 x1 x2 σ P Q R k a _; exact a.elim
  | succ n ih => intro x0 x1 x2 σ; exact h (fun Q => lo3 (body Q) n) ih x0 x1 x2 σ
theorem C0.lp3 {T U V : Type} {body : (St → Prop) → (T → U → V → St → Prop) → T → U → V → St → Prop} (h : ∀ rc : (St → Prop) → T → U → V → St → Prop, (∀ (x0 : T) (x1 : U) (x2 : V) (σ : St), C0 (fun Q => rc Q x0 x1 x2 σ)) → ∀ (x0 : T) (x1 : U) (x2 : V) (σ : St), C0 (fun Q => body Q (rc Q) x0 x1 x2 σ)) : ∀ (n : Nat) (x0 : T) (x1 : U) (x2 : V) (σ : St), C0 (fun Q => lo3 (body Q) n x0 x1 x2 σ) := by
  intro n
  induction n with
  | zero => intro x0 x1 x2 σ P Q R k a _; exact a.elim
  | succ n ih => intro x0 x1 x2 σ; exact h (fun Q => lo3 (body Q) n) ih x0 x1 x2 σ
theorem Ct.lp4 {A : Type} {T U V W4 : Type} {body : (A → St → Prop) → (T → U → V → W4 → St → Prop) → T → U → V → W4 → St → Prop} (h : ∀ rc : (A → St → Prop) → T → U → V → W4 → St → Prop, (∀ (x0 : T) (x1 : U) (x2 : V) (x3 : W4) (σ : St), Ct (fun Q => rc Q x0 x1 x2 x3 σ)) → ∀ (x0 : T) (x1 : U) (x2 : V) (x3 : W4) (σ : St), Ct (fun Q => body Q (rc Q) x0 x1 x2 x3 σ)) : ∀ (n : Nat) (x0 : T) (x1 : U) (x2 : V) (x3 : W4) (σ : St), Ct (fun Q => lo4 (body Q) n x0 x1 x2 x3 σ) := by
  intro n
  induction n with
  | zero => intro x0 x1 x2 x3 σ P Q R k a _; exact a.elim
  | succ n ih => intro x0 x1 x2 x3 σ; exact h (fun Q => lo4 (body Q) n) ih x0 x1 x2 x3 σ
theorem C0.lp4 {T U V W4 : Type} {body : (St → Prop) → (T → U → V → W4 → St → Prop) → T → U → V → W4 → St → Prop} (h : ∀ rc : (St → Prop) → T → U → V → W4 → St → Prop, (∀ (x0 : T) (x1 : U) (x2 : V) (x3 : W4) (σ : St), C0 (fun Q => rc Q x0 x1 x2 x3 σ)) → ∀ (x0 : T) (x1 : U) (x2 : V) (x3 : W4) (σ : St), C0 (fun Q => body Q (rc Q) x0 x1 x2 x3 σ)) : ∀ (n : Nat) (x0 : T) (x1 : U) (x2 : V) (x3 : W4) (σ : St), C0 (fun Q => lo4 (body Q) n x0 x1 x2 x3 σ) := by
  intro n
  induction n with
  | zero => intro x0 x1 x2 x3 σ P Q R k a _; exact a.elim
  | succ n ih => intro x0 x1 x2 x3 σ; exact h (fun Q => lo4 (body Q) n) ih x0 x1 x2 x3 σ
set_option maxHeartbeats 1000000 in
theorem cm_fX11_feed_l34 {N : Nat} {x2 : Int64} {x4 : Int32} {σ : St} {Rr34 : (Int32 → St → Prop) → Int32 → St → Prop} (hr34 : ∀ (y0 : Int32) (σ : St), Ct (fun Q => Rr34 Q y0 σ)) : Ct (fun Q => fX11_feed_l34 N x2 Q (Rr34 Q) x4 σ) := by
  unfold fX11_feed_l34
  repeat' (first | with_reducible exact Ct.ret | with_reducible exact hr34 _ _ | with_reducible refine Ct.br ?_ ?_ | with_reducible refine Ct.al ?_ | with_reducible refine Ct.nd ?_)
set_option maxHeartbeats 1000000 in
theorem cm_fX11_feed {N : Nat} {x1 : Int32} {x2 : Int64} {σ : St} : Ct (fun Q => fX11_feed N x1 x2 Q σ) := by
  unfold fX11_feed
  repeat' (first | with_reducible exact Ct.ret | with_reducible exact Ct.lp1 (fun rc hr v0 σ => cm_fX11_feed_l34 hr) _ _ _ | with_reducible refine Ct.br ?_ ?_ | with_reducible refine Ct.al ?_ | with_reducible refine Ct.nd ?_)
set_option maxHeartbeats 1000000 in
theorem cm_fX8_drop {N : Nat} {σ : St} : C0 (fun Q => fX8_drop N Q σ) := by
  unfold fX8_drop
  repeat' (first | with_reducible exact C0.ret | with_reducible refine C0.br ?_ ?_ | with_reducible refine C0.al ?_ | with_reducible refine C0.nd ?_)
set_option maxHeartbeats 1000000 in
theorem cm_fX8_dropIfTouched {N : Nat} {x1 : Int32} {x2 : Int32} {σ : St} : C0 (fun Q => fX8_dropIfTouched N x1 x2 Q σ) := by
  unfold fX8_dropIfTouched
  repeat' (first | with_reducible exact C0.ret | with_reducible refine C0.br ?_ ?_ | with_reducible refine C0.al ?_ | with_reducible refine C0.cv cm_fX8_drop (fun _ => ?_) | with_reducible refine C0.nd ?_)
set_option maxHeartbeats 1000000 in
theorem cm_fX11_load {N : Nat} {x1 : Int32} {σ : St} : Ct (fun Q => fX11_load N x1 Q σ) := by
  unfold fX11_load
  repeat' (first | with_reducible exact Ct.ret | with_reducible refine Ct.br ?_ ?_ | with_reducible refine Ct.al ?_ | with_reducible refine Ct.cv cm_fX8_dropIfTouched (fun _ => ?_) | with_reducible refine Ct.nd ?_)
set_option maxHeartbeats 1000000 in
theorem cm_fX11_border {N : Nat} {x1 : Int32} {σ : St} : Ct (fun Q => fX11_border N x1 Q σ) := by
  unfold fX11_border
  repeat' (first | with_reducible exact Ct.ret | with_reducible refine Ct.br ?_ ?_ | with_reducible refine Ct.al ?_ | with_reducible refine Ct.cv cm_fX8_drop (fun _ => ?_) | with_reducible refine Ct.nd ?_)
set_option maxHeartbeats 1000000 in
theorem cm_fX3_has {N : Nat} {x1 : Int32} {σ : St} : Ct (fun Q => fX3_has N x1 Q σ) := by
  unfold fX3_has
  repeat' (first | with_reducible exact Ct.ret | with_reducible refine Ct.br ?_ ?_ | with_reducible refine Ct.al ?_ | with_reducible refine Ct.nd ?_)
set_option maxHeartbeats 1000000 in
theorem cm_fX3_byteOf {N : Nat} {x1 : Int32} {σ : St} : Ct (fun Q => fX3_byteOf N x1 Q σ) := by
  unfold fX3_byteOf
  repeat' (first | with_reducible exact Ct.ret | with_reducible refine Ct.br ?_ ?_ | with_reducible refine Ct.al ?_ | with_reducible refine Ct.nd ?_)
set_option maxHeartbeats 1000000 in
theorem cm_fX11_byteAt {N : Nat} {x1 : Int32} {σ : St} : Ct (fun Q => fX11_byteAt N x1 Q σ) := by
  unfold fX11_byteAt
  repeat' (first | with_reducible exact Ct.ret | with_reducible refine Ct.br ?_ ?_ | with_reducible refine Ct.al ?_ | with_reducible refine Ct.ca cm_fX3_has (fun _ _ => ?_) | with_reducible refine Ct.ca cm_fX3_byteOf (fun _ _ => ?_) | with_reducible refine Ct.nd ?_)
set_option maxHeartbeats 1000000 in
theorem cm_fX3_fourOf {N : Nat} {x1 : Int32} {σ : St} : Ct (fun Q => fX3_fourOf N x1 Q σ) := by
  unfold fX3_fourOf
  repeat' (first | with_reducible exact Ct.ret | with_reducible refine Ct.br ?_ ?_ | with_reducible refine Ct.al ?_ | with_reducible refine Ct.nd ?_)
set_option maxHeartbeats 1000000 in
theorem cm_fX8_tell {N : Nat} {x1 : Int32} {σ : St} : C0 (fun Q => fX8_tell N x1 Q σ) := by
  unfold fX8_tell
  repeat' (first | with_reducible exact C0.ret | with_reducible refine C0.br ?_ ?_ | with_reducible refine C0.al ?_ | with_reducible refine C0.cv cm_fX8_drop (fun _ => ?_) | with_reducible refine C0.ca cm_fX3_fourOf (fun _ _ => ?_) | with_reducible refine C0.nd ?_)
set_option maxHeartbeats 1000000 in
theorem cm_fX8_hasEndOfBytes_l2 {N : Nat} {x2 : Int32} {σ : St} {Rr2 : (Int32 → St → Prop) → Int32 → St → Prop} (hr2 : ∀ (y0 : Int32) (σ : St), Ct (fun Q => Rr2 Q y0 σ)) : Ct (fun Q => fX8_hasEndOfBytes_l2 N Q (Rr2 Q) x2 σ) := by
  unfold fX8_hasEndOfBytes_l2
  repeat' (first | with_reducible exact Ct.ret | with_reducible exact hr2 _ _ | with_reducible refine Ct.br ?_ ?_ | with_reducible refine Ct.al ?_ | with_reducible refine Ct.ca cm_fX3_byteOf (fun _ _ => ?_) | with_reducible refine Ct.nd ?_)
set_option maxHeartbeats 1000000 in
theorem cm_fX8_hasEndOfBytes {N : Nat} {x1 : Int32} {σ : St} : Ct (fun Q => fX8_hasEndOfBytes N x1 Q σ) := by
  unfold fX8_hasEndOfBytes
  repeat' (first | with_reducible exact Ct.ret | with_reducible exact Ct.lp1 (fun rc hr v0 σ => cm_fX8_hasEndOfBytes_l2 hr) _ _ _ | with_reducible refine Ct.br ?_ ?_ | with_reducible refine Ct.al ?_ | with_reducible refine Ct.nd ?_)
set_option maxHeartbeats 1000000 in
theorem cm_fX8_hasEndOfFours_l2 {N : Nat} {x2 : Int32} {σ : St} {Rr2 : (Int32 → St → Prop) → Int32 → St → Prop} (hr2 : ∀ (y0 : Int32) (σ : St), Ct (fun Q => Rr2 Q y0 σ)) : Ct (fun Q => fX8_hasEndOfFours_l2 N Q (Rr2 Q) x2 σ) := by
  unfold fX8_hasEndOfFours_l2
  repeat' (first | with_reducible exact Ct.ret | with_reducible exact hr2 _ _ | with_reducible refine Ct.br ?_ ?_ | with_reducible refine Ct.al ?_ | with_reducible refine Ct.ca cm_fX3_fourOf (fun _ _ => ?_) | with_reducible refine Ct.nd ?_)
set_option maxHeartbeats 1000000 in
theorem cm_fX8_hasEndOfFours {N : Nat} {x1 : Int32} {σ : St} : Ct (fun Q => fX8_hasEndOfFours N x1 Q σ) := by
  unfold fX8_hasEndOfFours
  repeat' (first | with_reducible exact Ct.ret | with_reducible exact Ct.lp1 (fun rc hr v0 σ => cm_fX8_hasEndOfFours_l2 hr) _ _ _ | with_reducible refine Ct.br ?_ ?_ | with_reducible refine Ct.al ?_ | with_reducible refine Ct.nd ?_)
set_option maxHeartbeats 1000000 in
theorem cm_fX8_argumentBytes {N : Nat} {x1 : Int32} {σ : St} : Ct (fun Q => fX8_argumentBytes N x1 Q σ) := by
  unfold fX8_argumentBytes
  repeat' (first | with_reducible exact Ct.ret | with_reducible refine Ct.br ?_ ?_ | with_reducible refine Ct.al ?_ | with_reducible refine Ct.ca cm_fX3_fourOf (fun _ _ => ?_) | with_reducible refine Ct.nd ?_)
set_option maxHeartbeats 1000000 in
theorem cm_fX8_isWhole_j109 {N : Nat} {x2 : Int32} {σ : St} : Ct (fun Q => fX8_isWhole_j109 N x2 Q σ) := by
  unfold fX8_isWhole_j109
  repeat' (first | with_reducible exact Ct.ret | with_reducible refine Ct.br ?_ ?_ | with_reducible refine Ct.al ?_ | with_reducible refine Ct.nd ?_)
set_option maxHeartbeats 1000000 in
theorem cm_fX8_isWhole_j128 {N : Nat} {x1 : Int32} {x2 : Int32} {σ : St} : Ct (fun Q => fX8_isWhole_j128 N x1 x2 Q σ) := by
  unfold fX8_isWhole_j128
  repeat' (first | with_reducible exact Ct.ret | with_reducible refine Ct.br ?_ ?_ | with_reducible refine Ct.al ?_ | with_reducible refine Ct.ca cm_fX8_argumentBytes (fun _ _ => ?_) | with_reducible refine Ct.nd ?_)
set_option maxHeartbeats 1000000 in
theorem cm_fX8_isWhole {N : Nat} {x1 : Int32} {σ : St} : Ct (fun Q => fX8_isWhole N x1 Q σ) := by
  unfold fX8_isWhole
  repeat' (first | with_reducible exact Ct.ret | with_reducible exact cm_fX8_isWhole_j109 | with_reducible exact cm_fX8_isWhole_j128 | with_reducible refine Ct.br ?_ ?_ | with_reducible refine Ct.al ?_ | with_reducible refine Ct.ca cm_fX3_byteOf (fun _ _ => ?_) | with_reducible refine Ct.ca cm_fX8_hasEndOfBytes (fun _ _ => ?_) | with_reducible refine Ct.ca cm_fX8_isWhole_j109 (fun _ _ => ?_) | with_reducible refine Ct.ca cm_fX8_hasEndOfFours (fun _ _ => ?_) | with_reducible refine Ct.ca cm_fX8_isWhole_j128 (fun _ _ => ?_) | with_reducible refine Ct.nd ?_)
set_option maxHeartbeats 1000000 in
theorem cm_fX8_find {N : Nat} {x1 : Int32} {σ : St} : C0 (fun Q => fX8_find N x1 Q σ) := by
  unfold fX8_find
  repeat' (first | with_reducible exact C0.ret | with_reducible refine C0.br ?_ ?_ | with_reducible refine C0.al ?_ | with_reducible refine C0.ca cm_fX3_has (fun _ _ => ?_) | with_reducible refine C0.ca cm_fX8_isWhole (fun _ _ => ?_) | with_reducible refine C0.nd ?_)
set_option maxHeartbeats 1000000 in
theorem cm_fX8_countNodes_j102 {N : Nat} {σ : St} : Ct (fun Q => fX8_countNodes_j102 N Q σ) := by
  unfold fX8_countNodes_j102
  repeat' (first | with_reducible exact Ct.ret | with_reducible refine Ct.br ?_ ?_ | with_reducible refine Ct.al ?_ | with_reducible refine Ct.nd ?_)
set_option maxHeartbeats 1000000 in
theorem cm_fX8_countNodes_j96 {N : Nat} {x1 : Int32} {σ : St} {Rr35 : (Int32 → St → Prop) → Int32 → St → Prop} (hr35 : ∀ (y0 : Int32) (σ : St), Ct (fun Q => Rr35 Q y0 σ)) : Ct (fun Q => fX8_countNodes_j96 N (Rr35 Q) x1 Q σ) := by
  unfold fX8_countNodes_j96
  repeat' (first | with_reducible exact Ct.ret | with_reducible exact hr35 _ _ | with_reducible refine Ct.br ?_ ?_ | with_reducible refine Ct.al ?_ | with_reducible refine Ct.nd ?_)
set_option maxHeartbeats 1000000 in
theorem cm_fX8_countNodes_l35 {N : Nat} {x1 : Int32} {σ : St} {Rr35 : (Int32 → St → Prop) → Int32 → St → Prop} (hr35 : ∀ (y0 : Int32) (σ : St), Ct (fun Q => Rr35 Q y0 σ)) : Ct (fun Q => fX8_countNodes_l35 N Q (Rr35 Q) x1 σ) := by
  unfold fX8_countNodes_l35
  repeat' (first | with_reducible exact Ct.ret | with_reducible exact hr35 _ _ | with_reducible exact cm_fX8_countNodes_j102 | with_reducible exact cm_fX8_countNodes_j96 hr35 | with_reducible refine Ct.br ?_ ?_ | with_reducible refine Ct.al ?_ | with_reducible refine Ct.ca cm_fX8_countNodes_j102 (fun _ _ => ?_) | with_reducible refine Ct.ca cm_fX3_byteOf (fun _ _ => ?_) | with_reducible refine Ct.ca cm_fX3_fourOf (fun _ _ => ?_) | with_reducible refine Ct.cv cm_fX8_find (fun _ => ?_) | with_reducible refine Ct.nd ?_)
set_option maxHeartbeats 1000000 in
theorem cm_fX8_countNodes {N : Nat} {σ : St} : Ct (fun Q => fX8_countNodes N Q σ) := by
  unfold fX8_countNodes
  repeat' (first | with_reducible exact Ct.ret | with_reducible exact Ct.lp1 (fun rc hr v0 σ => cm_fX8_countNodes_l35 hr) _ _ _ | with_reducible refine Ct.br ?_ ?_ | with_reducible refine Ct.al ?_ | with_reducible refine Ct.ca cm_fX3_fourOf (fun _ _ => ?_) | with_reducible refine Ct.cv cm_fX8_find (fun _ => ?_) | with_reducible refine Ct.nd ?_)
set_option maxHeartbeats 1000000 in
theorem cm_fX8_cachedNodes_j16 {N : Nat} {σ : St} : Ct (fun Q => fX8_cachedNodes_j16 N Q σ) := by
  unfold fX8_cachedNodes_j16
  repeat' (first | with_reducible exact Ct.ret | with_reducible refine Ct.br ?_ ?_ | with_reducible refine Ct.al ?_ | with_reducible refine Ct.nd ?_)
set_option maxHeartbeats 1000000 in
theorem cm_fX8_cachedNodes {N : Nat} {σ : St} : Ct (fun Q => fX8_cachedNodes N Q σ) := by
  unfold fX8_cachedNodes
  repeat' (first | with_reducible exact Ct.ret | with_reducible exact cm_fX8_cachedNodes_j16 | with_reducible refine Ct.br ?_ ?_ | with_reducible refine Ct.al ?_ | with_reducible refine Ct.ca cm_fX8_countNodes (fun _ _ => ?_) | with_reducible refine Ct.ca cm_fX8_cachedNodes_j16 (fun _ _ => ?_) | with_reducible refine Ct.nd ?_)
set_option maxHeartbeats 1000000 in
theorem cm_fX11_table {N : Nat} {x1 : Int32} {σ : St} : Ct (fun Q => fX11_table N x1 Q σ) := by
  unfold fX11_table
  repeat' (first | with_reducible exact Ct.ret | with_reducible refine Ct.br ?_ ?_ | with_reducible refine Ct.al ?_ | with_reducible refine Ct.cv cm_fX8_tell (fun _ => ?_) | with_reducible refine Ct.ca cm_fX8_cachedNodes (fun _ _ => ?_) | with_reducible refine Ct.nd ?_)
set_option maxHeartbeats 1000000 in
theorem cm_fX2_isSystem {N : Nat} {x0 : Int32} {σ : St} : Ct (fun Q => fX2_isSystem N x0 Q σ) := by
  unfold fX2_isSystem
  repeat' (first | with_reducible exact Ct.ret | with_reducible refine Ct.br ?_ ?_ | with_reducible refine Ct.al ?_ | with_reducible refine Ct.nd ?_)
set_option maxHeartbeats 1000000 in
theorem cm_fX2_setSystem_j13 {N : Nat} {x2 : Int32} {t0 : Int32} {σ : St} : C0 (fun Q => fX2_setSystem_j13 N x2 t0 Q σ) := by
  unfold fX2_setSystem_j13
  repeat' (first | with_reducible exact C0.ret | with_reducible refine C0.br ?_ ?_ | with_reducible refine C0.al ?_ | with_reducible refine C0.nd ?_)
set_option maxHeartbeats 1000000 in
theorem cm_fX2_setSystem {N : Nat} {x1 : Int32} {x2 : Int32} {σ : St} : C0 (fun Q => fX2_setSystem N x1 x2 Q σ) := by
  unfold fX2_setSystem
  repeat' (first | with_reducible exact C0.ret | with_reducible exact cm_fX2_setSystem_j13 | with_reducible refine C0.br ?_ ?_ | with_reducible refine C0.al ?_ | with_reducible refine C0.ca cm_fX2_isSystem (fun _ _ => ?_) | with_reducible refine C0.cv cm_fX2_setSystem_j13 (fun _ => ?_) | with_reducible refine C0.nd ?_)
set_option maxHeartbeats 1000000 in
theorem cm_fX11_system {N : Nat} {x1 : Int32} {x2 : Int32} {σ : St} : Ct (fun Q => fX11_system N x1 x2 Q σ) := by
  unfold fX11_system
  repeat' (first | with_reducible exact Ct.ret | with_reducible refine Ct.br ?_ ?_ | with_reducible refine Ct.al ?_ | with_reducible refine Ct.ca cm_fX2_isSystem (fun _ _ => ?_) | with_reducible refine Ct.cv cm_fX2_setSystem (fun _ => ?_) | with_reducible refine Ct.nd ?_)
set_option maxHeartbeats 1000000 in
theorem cm_fX11_isStepCount {N : Nat} {x0 : Int32} {σ : St} : Ct (fun Q => fX11_isStepCount N x0 Q σ) := by
  unfold fX11_isStepCount
  repeat' (first | with_reducible exact Ct.ret | with_reducible refine Ct.br ?_ ?_ | with_reducible refine Ct.al ?_ | with_reducible refine Ct.nd ?_)
set_option maxHeartbeats 1000000 in
theorem cm_fX2_fail {N : Nat} {x1 : Int32} {σ : St} : C0 (fun Q => fX2_fail N x1 Q σ) := by
  unfold fX2_fail
  repeat' (first | with_reducible exact C0.ret | with_reducible refine C0.br ?_ ?_ | with_reducible refine C0.al ?_ | with_reducible refine C0.nd ?_)
set_option maxHeartbeats 1000000 in
theorem cm_fX2_readByte {N : Nat} {x1 : Int32} {σ : St} : Ct (fun Q => fX2_readByte N x1 Q σ) := by
  unfold fX2_readByte
  repeat' (first | with_reducible exact Ct.ret | with_reducible refine Ct.br ?_ ?_ | with_reducible refine Ct.al ?_ | with_reducible refine Ct.ca cm_fX3_has (fun _ _ => ?_) | with_reducible refine Ct.cv cm_fX2_fail (fun _ => ?_) | with_reducible refine Ct.ca cm_fX3_byteOf (fun _ _ => ?_) | with_reducible refine Ct.nd ?_)
set_option maxHeartbeats 1000000 in
theorem cm_fX1_reset {N : Nat} {k0 : Nat} {x1 : Int32} {x2 : Int32} {σ : St} : C0 (fun Q => fX1_reset N k0 x1 x2 Q σ) := by
  unfold fX1_reset
  repeat' (first | with_reducible exact C0.ret | with_reducible refine C0.br ?_ ?_ | with_reducible refine C0.al ?_ | with_reducible refine C0.nd ?_)
set_option maxHeartbeats 1000000 in
theorem cm_fX2_begin {N : Nat} {x1 : Int32} {x2 : Int32} {σ : St} : C0 (fun Q => fX2_begin N x1 x2 Q σ) := by
  unfold fX2_begin
  repeat' (first | with_reducible exact C0.ret | with_reducible refine C0.br ?_ ?_ | with_reducible refine C0.al ?_ | with_reducible refine C0.cv cm_fX1_reset (fun _ => ?_) | with_reducible refine C0.cv cm_fX2_fail (fun _ => ?_) | with_reducible refine C0.nd ?_)
set_option maxHeartbeats 1000000 in
theorem cm_fX2_beginString {N : Nat} {x1 : Int32} {σ : St} : C0 (fun Q => fX2_beginString N x1 Q σ) := by
  unfold fX2_beginString
  repeat' (first | with_reducible exact C0.ret | with_reducible refine C0.br ?_ ?_ | with_reducible refine C0.al ?_ | with_reducible refine C0.ca cm_fX2_readByte (fun _ _ => ?_) | with_reducible refine C0.cv cm_fX2_begin (fun _ => ?_) | with_reducible refine C0.cv cm_fX2_fail (fun _ => ?_) | with_reducible refine C0.nd ?_)
set_option maxHeartbeats 1000000 in
theorem cm_fX2_nextByte {N : Nat} {σ : St} : Ct (fun Q => fX2_nextByte N Q σ) := by
  unfold fX2_nextByte
  repeat' (first | with_reducible exact Ct.ret | with_reducible refine Ct.br ?_ ?_ | with_reducible refine Ct.al ?_ | with_reducible refine Ct.ca cm_fX2_readByte (fun _ _ => ?_) | with_reducible refine Ct.nd ?_)
set_option maxHeartbeats 1000000 in
theorem cm_fX3_hasFour {N : Nat} {x1 : Int32} {σ : St} : Ct (fun Q => fX3_hasFour N x1 Q σ) := by
  unfold fX3_hasFour
  repeat' (first | with_reducible exact Ct.ret | with_reducible refine Ct.br ?_ ?_ | with_reducible refine Ct.al ?_ | with_reducible refine Ct.nd ?_)
set_option maxHeartbeats 1000000 in
theorem cm_fX2_readFour {N : Nat} {x1 : Int32} {σ : St} : Ct (fun Q => fX2_readFour N x1 Q σ) := by
  unfold fX2_readFour
  repeat' (first | with_reducible exact Ct.ret | with_reducible refine Ct.br ?_ ?_ | with_reducible refine Ct.al ?_ | with_reducible refine Ct.ca cm_fX3_hasFour (fun _ _ => ?_) | with_reducible refine Ct.cv cm_fX2_fail (fun _ => ?_) | with_reducible refine Ct.ca cm_fX3_fourOf (fun _ _ => ?_) | with_reducible refine Ct.nd ?_)
set_option maxHeartbeats 1000000 in
theorem cm_fX2_nextFour {N : Nat} {σ : St} : Ct (fun Q => fX2_nextFour N Q σ) := by
  unfold fX2_nextFour
  repeat' (first | with_reducible exact Ct.ret | with_reducible refine Ct.br ?_ ?_ | with_reducible refine Ct.al ?_ | with_reducible refine Ct.ca cm_fX2_readFour (fun _ _ => ?_) | with_reducible refine Ct.nd ?_)
set_option maxHeartbeats 1000000 in
theorem cm_fX1_hasLocal {N : Nat} {k0 : Nat} {x1 : Int32} {σ : St} : Ct (fun Q => fX1_hasLocal N k0 x1 Q σ) := by
  unfold fX1_hasLocal
  repeat' (first | with_reducible exact Ct.ret | with_reducible refine Ct.br ?_ ?_ | with_reducible refine Ct.al ?_ | with_reducible refine Ct.nd ?_)
set_option maxHeartbeats 1000000 in
theorem cm_fX2_localOf {N : Nat} {k1 : Nat} {x2 : Int32} {σ : St} : Ct (fun Q => fX2_localOf N k1 x2 Q σ) := by
  unfold fX2_localOf
  repeat' (first | with_reducible exact Ct.ret | with_reducible refine Ct.br ?_ ?_ | with_reducible refine Ct.al ?_ | with_reducible refine Ct.ca cm_fX1_hasLocal (fun _ _ => ?_) | with_reducible refine Ct.cv cm_fX2_fail (fun _ => ?_) | with_reducible refine Ct.nd ?_)
set_option maxHeartbeats 1000000 in
theorem cm_fX2_nextValue {N : Nat} {k1 : Nat} {σ : St} : Ct (fun Q => fX2_nextValue N k1 Q σ) := by
  unfold fX2_nextValue
  repeat' (first | with_reducible exact Ct.ret | with_reducible refine Ct.br ?_ ?_ | with_reducible refine Ct.al ?_ | with_reducible refine Ct.ca cm_fX2_nextByte (fun _ _ => ?_) | with_reducible refine Ct.ca cm_fX2_nextFour (fun _ _ => ?_) | with_reducible refine Ct.ca cm_fX2_localOf (fun _ _ => ?_) | with_reducible refine Ct.cv cm_fX2_fail (fun _ => ?_) | with_reducible refine Ct.nd ?_)
set_option maxHeartbeats 1000000 in
theorem cm_fX2_nextTarget {N : Nat} {k1 : Nat} {σ : St} : Ct (fun Q => fX2_nextTarget N k1 Q σ) := by
  unfold fX2_nextTarget
  repeat' (first | with_reducible exact Ct.ret | with_reducible refine Ct.br ?_ ?_ | with_reducible refine Ct.al ?_ | with_reducible refine Ct.ca cm_fX2_nextByte (fun _ _ => ?_) | with_reducible refine Ct.ca cm_fX1_hasLocal (fun _ _ => ?_) | with_reducible refine Ct.cv cm_fX2_fail (fun _ => ?_) | with_reducible refine Ct.nd ?_)
set_option maxHeartbeats 1000000 in
theorem cm_fJ7_fill_53178_l5 {N : Nat} {k0 : Nat} {n0 : Nat} {x1 : Int32} {x3 : Int32} {x2 : Int32} {σ : St} {Rr5 : (St → Prop) → Int32 → St → Prop} (hr5 : ∀ (y0 : Int32) (σ : St), C0 (fun Q => Rr5 Q y0 σ)) : C0 (fun Q => fJ7_fill_53178_l5 N k0 n0 x1 x3 Q (Rr5 Q) x2 σ) := by
  unfold fJ7_fill_53178_l5
  repeat' (first | with_reducible exact C0.ret | with_reducible exact hr5 _ _ | with_reducible refine C0.br ?_ ?_ | with_reducible refine C0.al ?_ | with_reducible refine C0.nd ?_)
set_option maxHeartbeats 1000000 in
theorem cm_fJ7_fill_53178 {N : Nat} {k0 : Nat} {n0 : Nat} {x1 : Int32} {σ : St} : C0 (fun Q => fJ7_fill_53178 N k0 n0 x1 Q σ) := by
  unfold fJ7_fill_53178
  repeat' (first | with_reducible exact C0.ret | with_reducible exact C0.lp1 (fun rc hr v0 σ => cm_fJ7_fill_53178_l5 hr) _ _ _ | with_reducible refine C0.br ?_ ?_ | with_reducible refine C0.al ?_ | with_reducible refine C0.nd ?_)
set_option maxHeartbeats 1000000 in
theorem cm_fX1_setLocal {N : Nat} {k0 : Nat} {x1 : Int32} {x2 : Int32} {σ : St} : C0 (fun Q => fX1_setLocal N k0 x1 x2 Q σ) := by
  unfold fX1_setLocal
  repeat' (first | with_reducible exact C0.ret | with_reducible refine C0.br ?_ ?_ | with_reducible refine C0.al ?_ | with_reducible refine C0.nd ?_)
set_option maxHeartbeats 1000000 in
theorem cm_fX2_fillLocals_l28 {N : Nat} {k1 : Nat} {x3 : Int32} {x4 : Int32} {σ : St} {Rr28 : (St → Prop) → Int32 → St → Prop} (hr28 : ∀ (y0 : Int32) (σ : St), C0 (fun Q => Rr28 Q y0 σ)) : C0 (fun Q => fX2_fillLocals_l28 N k1 x3 Q (Rr28 Q) x4 σ) := by
  unfold fX2_fillLocals_l28
  repeat' (first | with_reducible exact C0.ret | with_reducible exact hr28 _ _ | with_reducible refine C0.br ?_ ?_ | with_reducible refine C0.al ?_ | with_reducible refine C0.cv cm_fX1_setLocal (fun _ => ?_) | with_reducible refine C0.nd ?_)
set_option maxHeartbeats 1000000 in
theorem cm_fX2_fillLocals_j25 {N : Nat} {k1 : Nat} {x3 : Int32} {σ : St} : C0 (fun Q => fX2_fillLocals_j25 N k1 x3 Q σ) := by
  unfold fX2_fillLocals_j25
  repeat' (first | with_reducible exact C0.ret | with_reducible exact C0.lp1 (fun rc hr v0 σ => cm_fX2_fillLocals_l28 hr) _ _ _ | with_reducible refine C0.br ?_ ?_ | with_reducible refine C0.al ?_ | with_reducible refine C0.nd ?_)
set_option maxHeartbeats 1000000 in
theorem cm_fX2_fillLocals {N : Nat} {k1 : Nat} {x2 : Int32} {σ : St} : C0 (fun Q => fX2_fillLocals N k1 x2 Q σ) := by
  unfold fX2_fillLocals
  repeat' (first | with_reducible exact C0.ret | with_reducible exact cm_fX2_fillLocals_j25 | with_reducible refine C0.br ?_ ?_ | with_reducible refine C0.al ?_ | with_reducible refine C0.cv cm_fJ7_fill_53178 (fun _ => ?_) | with_reducible refine C0.cv cm_fX2_fillLocals_j25 (fun _ => ?_) | with_reducible refine C0.cv cm_fX1_setLocal (fun _ => ?_) | with_reducible refine C0.nd ?_)
set_option maxHeartbeats 1000000 in
theorem cm_fX2_callFunction_j119 {N : Nat} {t0 : Int32} {kt1 : Nat} {σ : St} : C0 (fun Q => fX2_callFunction_j119 N t0 kt1 Q σ) := by
  unfold fX2_callFunction_j119
  repeat' (first | with_reducible exact C0.ret | with_reducible refine C0.br ?_ ?_ | with_reducible refine C0.al ?_ | with_reducible refine C0.cv cm_fX2_fillLocals (fun _ => ?_) | with_reducible refine C0.nd ?_)
set_option maxHeartbeats 1000000 in
theorem cm_fX2_callFunction_j55 {N : Nat} {x1 : Int32} {x2 : Int32} {x3 : Int32} {x4 : Int32} {σ : St} : C0 (fun Q => fX2_callFunction_j55 N x1 x2 x3 x4 Q σ) := by
  unfold fX2_callFunction_j55
  repeat' (first | with_reducible exact C0.ret | with_reducible exact cm_fX2_callFunction_j119 | with_reducible refine C0.br ?_ ?_ | with_reducible refine C0.al ?_ | with_reducible refine C0.cv cm_fX2_begin (fun _ => ?_) | with_reducible refine C0.cv cm_fX2_callFunction_j119 (fun _ => ?_) | with_reducible refine C0.nd ?_)
set_option maxHeartbeats 1000000 in
theorem cm_fX2_callFunction_j34 {N : Nat} {x1 : Int32} {x2 : Int32} {x3 : Int32} {σ : St} : C0 (fun Q => fX2_callFunction_j34 N x1 x2 x3 Q σ) := by
  unfold fX2_callFunction_j34
  repeat' (first | with_reducible exact C0.ret | with_reducible exact cm_fX2_callFunction_j55 | with_reducible refine C0.br ?_ ?_ | with_reducible refine C0.al ?_ | with_reducible refine C0.ca cm_fX2_readByte (fun _ _ => ?_) | with_reducible refine C0.cv cm_fX2_callFunction_j55 (fun _ => ?_) | with_reducible refine C0.cv cm_fX2_fail (fun _ => ?_) | with_reducible refine C0.nd ?_)
set_option maxHeartbeats 1000000 in
theorem cm_fX2_callFunction {N : Nat} {x1 : Int32} {x2 : Int32} {σ : St} : C0 (fun Q => fX2_callFunction N x1 x2 Q σ) := by
  unfold fX2_callFunction
  repeat' (first | with_reducible exact C0.ret | with_reducible exact cm_fX2_callFunction_j34 | with_reducible refine C0.br ?_ ?_ | with_reducible refine C0.al ?_ | with_reducible refine C0.ca cm_fX2_readByte (fun _ _ => ?_) | with_reducible refine C0.cv cm_fX2_callFunction_j34 (fun _ => ?_) | with_reducible refine C0.cv cm_fX2_fail (fun _ => ?_) | with_reducible refine C0.nd ?_)
set_option maxHeartbeats 1000000 in
theorem cm_fX2_doCallOrder_l33 {N : Nat} {k1 : Nat} {x2 : Int32} {x3 : Int32} {x4 : Int32} {σ : St} {Rr33 : (St → Prop) → Int32 → St → Prop} (hr33 : ∀ (y0 : Int32) (σ : St), C0 (fun Q => Rr33 Q y0 σ)) : C0 (fun Q => fX2_doCallOrder_l33 N k1 x2 x3 Q (Rr33 Q) x4 σ) := by
  unfold fX2_doCallOrder_l33
  repeat' (first | with_reducible exact C0.ret | with_reducible exact hr33 _ _ | with_reducible refine C0.br ?_ ?_ | with_reducible refine C0.al ?_ | with_reducible refine C0.ca cm_fX2_nextTarget (fun _ _ => ?_) | with_reducible refine C0.cv cm_fX2_callFunction (fun _ => ?_) | with_reducible refine C0.ca cm_fX2_nextValue (fun _ _ => ?_) | with_reducible refine C0.nd ?_)
set_option maxHeartbeats 1000000 in
theorem cm_fX2_doCallOrder_j22 {N : Nat} {k1 : Nat} {x2 : Int32} {x3 : Int32} {σ : St} : C0 (fun Q => fX2_doCallOrder_j22 N k1 x2 x3 Q σ) := by
  unfold fX2_doCallOrder_j22
  repeat' (first | with_reducible exact C0.ret | with_reducible exact C0.lp1 (fun rc hr v0 σ => cm_fX2_doCallOrder_l33 hr) _ _ _ | with_reducible refine C0.br ?_ ?_ | with_reducible refine C0.al ?_ | with_reducible refine C0.nd ?_)
set_option maxHeartbeats 1000000 in
theorem cm_fX2_doCallOrder {N : Nat} {k1 : Nat} {σ : St} : C0 (fun Q => fX2_doCallOrder N k1 Q σ) := by
  unfold fX2_doCallOrder
  repeat' (first | with_reducible exact C0.ret | with_reducible exact cm_fX2_doCallOrder_j22 | with_reducible refine C0.br ?_ ?_ | with_reducible refine C0.al ?_ | with_reducible refine C0.ca cm_fX2_nextValue (fun _ _ => ?_) | with_reducible refine C0.ca cm_fX2_nextByte (fun _ _ => ?_) | with_reducible refine C0.cv cm_fX2_doCallOrder_j22 (fun _ => ?_) | with_reducible refine C0.cv cm_fX2_fail (fun _ => ?_) | with_reducible refine C0.nd ?_)
set_option maxHeartbeats 1000000 in
theorem cm_fX2_nextDistance {N : Nat} {σ : St} : Ct (fun Q => fX2_nextDistance N Q σ) := by
  unfold fX2_nextDistance
  repeat' (first | with_reducible exact Ct.ret | with_reducible refine Ct.br ?_ ?_ | with_reducible refine Ct.al ?_ | with_reducible refine Ct.ca cm_fX2_nextByte (fun _ _ => ?_) | with_reducible refine Ct.nd ?_)
set_option maxHeartbeats 1000000 in
theorem cm_fX2_valueFor_j70 {N : Nat} {σ : St} : Ct (fun Q => fX2_valueFor_j70 N Q σ) := by
  unfold fX2_valueFor_j70
  repeat' (first | with_reducible exact Ct.ret | with_reducible refine Ct.br ?_ ?_ | with_reducible refine Ct.al ?_ | with_reducible refine Ct.nd ?_)
set_option maxHeartbeats 1000000 in
theorem cm_fX2_valueFor {N : Nat} {x1 : Int32} {x2 : Int32} {x3 : Int32} {σ : St} : Ct (fun Q => fX2_valueFor N x1 x2 x3 Q σ) := by
  unfold fX2_valueFor
  repeat' (first | with_reducible exact Ct.ret | with_reducible exact cm_fX2_valueFor_j70 | with_reducible refine Ct.br ?_ ?_ | with_reducible refine Ct.al ?_ | with_reducible refine Ct.ca cm_fX2_readByte (fun _ _ => ?_) | with_reducible refine Ct.ca cm_fX2_readFour (fun _ _ => ?_) | with_reducible refine Ct.ca cm_fX2_valueFor_j70 (fun _ _ => ?_) | with_reducible refine Ct.nd ?_)
set_option maxHeartbeats 1000000 in
theorem cm_fX2_goesThere {N : Nat} {x0 : Int32} {x1 : Int32} {x2 : Int32} {σ : St} : Ct (fun Q => fX2_goesThere N x0 x1 x2 Q σ) := by
  unfold fX2_goesThere
  repeat' (first | with_reducible exact Ct.ret | with_reducible refine Ct.br ?_ ?_ | with_reducible refine Ct.al ?_ | with_reducible refine Ct.nd ?_)
set_option maxHeartbeats 1000000 in
theorem cm_fX2_endFunction {N : Nat} {k1 : Nat} {x2 : Int32} {σ : St} : C0 (fun Q => fX2_endFunction N k1 x2 Q σ) := by
  unfold fX2_endFunction
  repeat' (first | with_reducible exact C0.ret | with_reducible refine C0.br ?_ ?_ | with_reducible refine C0.al ?_ | with_reducible refine C0.cv cm_fX1_setLocal (fun _ => ?_) | with_reducible refine C0.nd ?_)
set_option maxHeartbeats 1000000 in
theorem cm_fX2_putOut {N : Nat} {x1 : Int32} {σ : St} : C0 (fun Q => fX2_putOut N x1 Q σ) := by
  unfold fX2_putOut
  repeat' (first | with_reducible exact C0.ret | with_reducible refine C0.br ?_ ?_ | with_reducible refine C0.al ?_ | with_reducible refine C0.cv cm_fX2_fail (fun _ => ?_) | with_reducible refine C0.nd ?_)
set_option maxHeartbeats 1000000 in
theorem cm_fX2_give {N : Nat} {x1 : Int32} {σ : St} : C0 (fun Q => fX2_give N x1 Q σ) := by
  unfold fX2_give
  repeat' (first | with_reducible exact C0.ret | with_reducible refine C0.br ?_ ?_ | with_reducible refine C0.al ?_ | with_reducible refine C0.cv cm_fX2_putOut (fun _ => ?_) | with_reducible refine C0.cv cm_fX2_callFunction (fun _ => ?_) | with_reducible refine C0.nd ?_)
set_option maxHeartbeats 1000000 in
theorem cm_fX3_putByte {N : Nat} {x1 : Int32} {x2 : Int32} {σ : St} : C0 (fun Q => fX3_putByte N x1 x2 Q σ) := by
  unfold fX3_putByte
  repeat' (first | with_reducible exact C0.ret | with_reducible refine C0.br ?_ ?_ | with_reducible refine C0.al ?_ | with_reducible refine C0.nd ?_)
set_option maxHeartbeats 1000000 in
theorem cm_fX2_writeByte_j22 {N : Nat} {σ : St} : C0 (fun Q => fX2_writeByte_j22 N Q σ) := by
  unfold fX2_writeByte_j22
  repeat' (first | with_reducible exact C0.ret | with_reducible refine C0.br ?_ ?_ | with_reducible refine C0.al ?_ | with_reducible refine C0.cv cm_fX2_fail (fun _ => ?_) | with_reducible refine C0.nd ?_)
set_option maxHeartbeats 1000000 in
theorem cm_fX2_writeByte {N : Nat} {x1 : Int32} {x2 : Int32} {σ : St} : C0 (fun Q => fX2_writeByte N x1 x2 Q σ) := by
  unfold fX2_writeByte
  repeat' (first | with_reducible exact C0.ret | with_reducible exact cm_fX2_writeByte_j22 | with_reducible refine C0.br ?_ ?_ | with_reducible refine C0.al ?_ | with_reducible refine C0.cv cm_fX2_writeByte_j22 (fun _ => ?_) | with_reducible refine C0.ca cm_fX3_has (fun _ _ => ?_) | with_reducible refine C0.cv cm_fX3_putByte (fun _ => ?_) | with_reducible refine C0.nd ?_)
set_option maxHeartbeats 1000000 in
theorem cm_fX2_act_j145 {N : Nat} {σ : St} : C0 (fun Q => fX2_act_j145 N Q σ) := by
  unfold fX2_act_j145
  repeat' (first | with_reducible exact C0.ret | with_reducible refine C0.br ?_ ?_ | with_reducible refine C0.al ?_ | with_reducible refine C0.nd ?_)
set_option maxHeartbeats 1000000 in
theorem cm_fX2_act {N : Nat} {k1 : Nat} {x2 : Int32} {x3 : Int32} {x4 : Int32} {σ : St} : C0 (fun Q => fX2_act N k1 x2 x3 x4 Q σ) := by
  unfold fX2_act
  repeat' (first | with_reducible exact C0.ret | with_reducible exact cm_fX2_act_j145 | with_reducible refine C0.br ?_ ?_ | with_reducible refine C0.al ?_ | with_reducible refine C0.cv cm_fX2_endFunction (fun _ => ?_) | with_reducible refine C0.cv cm_fX2_give (fun _ => ?_) | with_reducible refine C0.cv cm_fX2_beginString (fun _ => ?_) | with_reducible refine C0.cv cm_fX2_begin (fun _ => ?_) | with_reducible refine C0.cv cm_fX2_setSystem (fun _ => ?_) | with_reducible refine C0.cv cm_fX8_tell (fun _ => ?_) | with_reducible refine C0.cv cm_fX2_writeByte (fun _ => ?_) | with_reducible refine C0.cv cm_fX2_act_j145 (fun _ => ?_) | with_reducible refine C0.nd ?_)
set_option maxHeartbeats 1000000 in
theorem cm_fX2_doOrder_j174 {N : Nat} {σ : St} : C0 (fun Q => fX2_doOrder_j174 N Q σ) := by
  unfold fX2_doOrder_j174
  repeat' (first | with_reducible exact C0.ret | with_reducible refine C0.br ?_ ?_ | with_reducible refine C0.al ?_ | with_reducible refine C0.nd ?_)
set_option maxHeartbeats 1000000 in
theorem cm_fX2_doOrder_j122 {N : Nat} {k1 : Nat} {x2 : Int32} {x3 : Int32} {x4 : Int32} {x5 : Int32} {t0 : Int32} {σ : St} : C0 (fun Q => fX2_doOrder_j122 N k1 x2 x3 x4 x5 t0 Q σ) := by
  unfold fX2_doOrder_j122
  repeat' (first | with_reducible exact C0.ret | with_reducible exact cm_fX2_doOrder_j174 | with_reducible refine C0.br ?_ ?_ | with_reducible refine C0.al ?_ | with_reducible refine C0.ca cm_fX2_valueFor (fun _ _ => ?_) | with_reducible refine C0.cv cm_fX1_setLocal (fun _ => ?_) | with_reducible refine C0.cv cm_fX2_doOrder_j174 (fun _ => ?_) | with_reducible refine C0.ca cm_fX2_goesThere (fun _ _ => ?_) | with_reducible refine C0.cv cm_fX2_act (fun _ => ?_) | with_reducible refine C0.nd ?_)
set_option maxHeartbeats 1000000 in
theorem cm_fX2_doOrder_j103 {N : Nat} {k1 : Nat} {x2 : Int32} {x3 : Int32} {x4 : Int32} {t0 : Int32} {σ : St} : C0 (fun Q => fX2_doOrder_j103 N k1 x2 x3 x4 t0 Q σ) := by
  unfold fX2_doOrder_j103
  repeat' (first | with_reducible exact C0.ret | with_reducible exact cm_fX2_doOrder_j122 | with_reducible refine C0.br ?_ ?_ | with_reducible refine C0.al ?_ | with_reducible refine C0.ca cm_fX2_nextDistance (fun _ _ => ?_) | with_reducible refine C0.cv cm_fX2_doOrder_j122 (fun _ => ?_) | with_reducible refine C0.nd ?_)
set_option maxHeartbeats 1000000 in
theorem cm_fX2_doOrder_j81 {N : Nat} {k1 : Nat} {x2 : Int32} {x3 : Int32} {t0 : Int32} {σ : St} : C0 (fun Q => fX2_doOrder_j81 N k1 x2 x3 t0 Q σ) := by
  unfold fX2_doOrder_j81
  repeat' (first | with_reducible exact C0.ret | with_reducible exact cm_fX2_doOrder_j103 | with_reducible refine C0.br ?_ ?_ | with_reducible refine C0.al ?_ | with_reducible refine C0.ca cm_fX2_nextTarget (fun _ _ => ?_) | with_reducible refine C0.cv cm_fX2_doOrder_j103 (fun _ => ?_) | with_reducible refine C0.nd ?_)
set_option maxHeartbeats 1000000 in
theorem cm_fX2_doOrder_j62 {N : Nat} {k1 : Nat} {x2 : Int32} {t0 : Int32} {σ : St} : C0 (fun Q => fX2_doOrder_j62 N k1 x2 t0 Q σ) := by
  unfold fX2_doOrder_j62
  repeat' (first | with_reducible exact C0.ret | with_reducible exact cm_fX2_doOrder_j81 | with_reducible refine C0.br ?_ ?_ | with_reducible refine C0.al ?_ | with_reducible refine C0.cv cm_fX2_doOrder_j81 (fun _ => ?_) | with_reducible refine C0.ca cm_fX2_nextValue (fun _ _ => ?_) | with_reducible refine C0.nd ?_)
set_option maxHeartbeats 1000000 in
theorem cm_fX2_doOrder_j25 {N : Nat} {k1 : Nat} {x2 : Int32} {σ : St} : C0 (fun Q => fX2_doOrder_j25 N k1 x2 Q σ) := by
  unfold fX2_doOrder_j25
  repeat' (first | with_reducible exact C0.ret | with_reducible exact cm_fX2_doOrder_j62 | with_reducible refine C0.br ?_ ?_ | with_reducible refine C0.al ?_ | with_reducible refine C0.cv cm_fX2_doCallOrder (fun _ => ?_) | with_reducible refine C0.cv cm_fX2_doOrder_j62 (fun _ => ?_) | with_reducible refine C0.ca cm_fX2_nextValue (fun _ _ => ?_) | with_reducible refine C0.nd ?_)
set_option maxHeartbeats 1000000 in
theorem cm_fX2_doOrder {N : Nat} {k1 : Nat} {σ : St} : C0 (fun Q => fX2_doOrder N k1 Q σ) := by
  unfold fX2_doOrder
  repeat' (first | with_reducible exact C0.ret | with_reducible exact cm_fX2_doOrder_j25 | with_reducible refine C0.br ?_ ?_ | with_reducible refine C0.al ?_ | with_reducible refine C0.ca cm_fX2_nextByte (fun _ _ => ?_) | with_reducible refine C0.cv cm_fX2_doOrder_j25 (fun _ => ?_) | with_reducible refine C0.cv cm_fX2_fail (fun _ => ?_) | with_reducible refine C0.nd ?_)
set_option maxHeartbeats 1000000 in
theorem cm_fX2_stepPlain {N : Nat} {k1 : Nat} {σ : St} : C0 (fun Q => fX2_stepPlain N k1 Q σ) := by
  unfold fX2_stepPlain
  repeat' (first | with_reducible exact C0.ret | with_reducible refine C0.br ?_ ?_ | with_reducible refine C0.al ?_ | with_reducible refine C0.ca cm_fX2_readByte (fun _ _ => ?_) | with_reducible refine C0.cv cm_fX2_give (fun _ => ?_) | with_reducible refine C0.nd ?_)
set_option maxHeartbeats 1000000 in
theorem cm_fX2_stepWide {N : Nat} {k1 : Nat} {σ : St} : C0 (fun Q => fX2_stepWide N k1 Q σ) := by
  unfold fX2_stepWide
  repeat' (first | with_reducible exact C0.ret | with_reducible refine C0.br ?_ ?_ | with_reducible refine C0.al ?_ | with_reducible refine C0.ca cm_fX2_readFour (fun _ _ => ?_) | with_reducible refine C0.cv cm_fX2_give (fun _ => ?_) | with_reducible refine C0.nd ?_)
set_option maxHeartbeats 1000000 in
theorem cm_fX2_followBranch {N : Nat} {k1 : Nat} {x2 : Int32} {σ : St} : C0 (fun Q => fX2_followBranch N k1 x2 Q σ) := by
  unfold fX2_followBranch
  repeat' (first | with_reducible exact C0.ret | with_reducible refine C0.br ?_ ?_ | with_reducible refine C0.al ?_ | with_reducible refine C0.ca cm_fX2_readByte (fun _ _ => ?_) | with_reducible refine C0.ca cm_fX2_readFour (fun _ _ => ?_) | with_reducible refine C0.nd ?_)
set_option maxHeartbeats 1000000 in
theorem cm_fX2_readArguments_j15 {N : Nat} {σ : St} : C0 (fun Q => fX2_readArguments_j15 N Q σ) := by
  unfold fX2_readArguments_j15
  repeat' (first | with_reducible exact C0.ret | with_reducible refine C0.br ?_ ?_ | with_reducible refine C0.al ?_ | with_reducible refine C0.cv cm_fX2_fail (fun _ => ?_) | with_reducible refine C0.nd ?_)
set_option maxHeartbeats 1000000 in
theorem cm_fX2_readArguments_l23 {N : Nat} {x1 : Int32} {x2 : Int32} {x3 : Int32} {σ : St} {Rr23 : (St → Prop) → Int32 → St → Prop} (hr23 : ∀ (y0 : Int32) (σ : St), C0 (fun Q => Rr23 Q y0 σ)) : C0 (fun Q => fX2_readArguments_l23 N x1 x2 Q (Rr23 Q) x3 σ) := by
  unfold fX2_readArguments_l23
  repeat' (first | with_reducible exact C0.ret | with_reducible exact hr23 _ _ | with_reducible refine C0.br ?_ ?_ | with_reducible refine C0.al ?_ | with_reducible refine C0.ca cm_fX2_readFour (fun _ _ => ?_) | with_reducible refine C0.nd ?_)
set_option maxHeartbeats 1000000 in
theorem cm_fX2_readArguments {N : Nat} {x1 : Int32} {σ : St} : C0 (fun Q => fX2_readArguments N x1 Q σ) := by
  unfold fX2_readArguments
  repeat' (first | with_reducible exact C0.ret | with_reducible exact cm_fX2_readArguments_j15 | with_reducible exact C0.lp1 (fun rc hr v0 σ => cm_fX2_readArguments_l23 hr) _ _ _ | with_reducible refine C0.br ?_ ?_ | with_reducible refine C0.al ?_ | with_reducible refine C0.ca cm_fX2_readFour (fun _ _ => ?_) | with_reducible refine C0.cv cm_fX2_readArguments_j15 (fun _ => ?_) | with_reducible refine C0.nd ?_)
set_option maxHeartbeats 1000000 in
theorem cm_fX2_enterThing_j99 {N : Nat} {x3 : Int32} {σ : St} : C0 (fun Q => fX2_enterThing_j99 N x3 Q σ) := by
  unfold fX2_enterThing_j99
  repeat' (first | with_reducible exact C0.ret | with_reducible refine C0.br ?_ ?_ | with_reducible refine C0.al ?_ | with_reducible refine C0.cv cm_fX2_callFunction (fun _ => ?_) | with_reducible refine C0.nd ?_)
set_option maxHeartbeats 1000000 in
theorem cm_fX2_enterThing_j73 {N : Nat} {x3 : Int32} {t0 : Int32} {σ : St} : C0 (fun Q => fX2_enterThing_j73 N x3 t0 Q σ) := by
  unfold fX2_enterThing_j73
  repeat' (first | with_reducible exact C0.ret | with_reducible exact cm_fX2_enterThing_j99 | with_reducible refine C0.br ?_ ?_ | with_reducible refine C0.al ?_ | with_reducible refine C0.cv cm_fX2_enterThing_j99 (fun _ => ?_) | with_reducible refine C0.cv cm_fX2_beginString (fun _ => ?_) | with_reducible refine C0.nd ?_)
set_option maxHeartbeats 1000000 in
theorem cm_fX2_enterThing_j57 {N : Nat} {x3 : Int32} {σ : St} : C0 (fun Q => fX2_enterThing_j57 N x3 Q σ) := by
  unfold fX2_enterThing_j57
  repeat' (first | with_reducible exact C0.ret | with_reducible exact cm_fX2_enterThing_j73 | with_reducible refine C0.br ?_ ?_ | with_reducible refine C0.al ?_ | with_reducible refine C0.ca cm_fX2_readByte (fun _ _ => ?_) | with_reducible refine C0.cv cm_fX2_enterThing_j73 (fun _ => ?_) | with_reducible refine C0.nd ?_)
set_option maxHeartbeats 1000000 in
theorem cm_fX2_enterThing_j50 {N : Nat} {x1 : Int32} {x3 : Int32} {σ : St} : C0 (fun Q => fX2_enterThing_j50 N x1 x3 Q σ) := by
  unfold fX2_enterThing_j50
  repeat' (first | with_reducible exact C0.ret | with_reducible exact cm_fX2_enterThing_j57 | with_reducible refine C0.br ?_ ?_ | with_reducible refine C0.al ?_ | with_reducible refine C0.cv cm_fX2_readArguments (fun _ => ?_) | with_reducible refine C0.cv cm_fX2_enterThing_j57 (fun _ => ?_) | with_reducible refine C0.nd ?_)
set_option maxHeartbeats 1000000 in
theorem cm_fX2_enterThing_j33 {N : Nat} {x1 : Int32} {x2 : Int32} {x3 : Int32} {σ : St} : C0 (fun Q => fX2_enterThing_j33 N x1 x2 x3 Q σ) := by
  unfold fX2_enterThing_j33
  repeat' (first | with_reducible exact C0.ret | with_reducible exact cm_fX2_enterThing_j50 | with_reducible exact cm_fX2_enterThing_j57 | with_reducible refine C0.br ?_ ?_ | with_reducible refine C0.al ?_ | with_reducible refine C0.cv cm_fX2_enterThing_j50 (fun _ => ?_) | with_reducible refine C0.cv cm_fX2_enterThing_j57 (fun _ => ?_) | with_reducible refine C0.nd ?_)
set_option maxHeartbeats 1000000 in
theorem cm_fX2_enterThing_j27 {N : Nat} {x1 : Int32} {x2 : Int32} {x3 : Int32} {σ : St} : C0 (fun Q => fX2_enterThing_j27 N x1 x2 x3 Q σ) := by
  unfold fX2_enterThing_j27
  repeat' (first | with_reducible exact C0.ret | with_reducible exact cm_fX2_enterThing_j33 | with_reducible refine C0.br ?_ ?_ | with_reducible refine C0.al ?_ | with_reducible refine C0.ca cm_fX2_readFour (fun _ _ => ?_) | with_reducible refine C0.cv cm_fX2_enterThing_j33 (fun _ => ?_) | with_reducible refine C0.nd ?_)
set_option maxHeartbeats 1000000 in
theorem cm_fX2_enterThing {N : Nat} {x1 : Int32} {x2 : Int32} {σ : St} : C0 (fun Q => fX2_enterThing N x1 x2 Q σ) := by
  unfold fX2_enterThing
  repeat' (first | with_reducible exact C0.ret | with_reducible exact cm_fX2_enterThing_j27 | with_reducible exact cm_fX2_enterThing_j33 | with_reducible refine C0.br ?_ ?_ | with_reducible refine C0.al ?_ | with_reducible refine C0.ca cm_fX2_readFour (fun _ _ => ?_) | with_reducible refine C0.cv cm_fX2_enterThing_j27 (fun _ => ?_) | with_reducible refine C0.cv cm_fX2_enterThing_j33 (fun _ => ?_) | with_reducible refine C0.nd ?_)
set_option maxHeartbeats 1000000 in
theorem cm_fX2_doLeaf_j106 {N : Nat} {x1 : Int32} {x2 : Int32} {σ : St} : C0 (fun Q => fX2_doLeaf_j106 N x1 x2 Q σ) := by
  unfold fX2_doLeaf_j106
  repeat' (first | with_reducible exact C0.ret | with_reducible refine C0.br ?_ ?_ | with_reducible refine C0.al ?_ | with_reducible refine C0.cv cm_fX2_enterThing (fun _ => ?_) | with_reducible refine C0.nd ?_)
set_option maxHeartbeats 1000000 in
theorem cm_fX2_doLeaf_j115 {N : Nat} {σ : St} : C0 (fun Q => fX2_doLeaf_j115 N Q σ) := by
  unfold fX2_doLeaf_j115
  repeat' (first | with_reducible exact C0.ret | with_reducible refine C0.br ?_ ?_ | with_reducible refine C0.al ?_ | with_reducible refine C0.cv cm_fX2_fail (fun _ => ?_) | with_reducible refine C0.nd ?_)
set_option maxHeartbeats 1000000 in
theorem cm_fX2_doLeaf {N : Nat} {x1 : Int32} {x2 : Int32} {σ : St} : C0 (fun Q => fX2_doLeaf N x1 x2 Q σ) := by
  unfold fX2_doLeaf
  repeat' (first | with_reducible exact C0.ret | with_reducible exact cm_fX2_doLeaf_j106 | with_reducible exact cm_fX2_doLeaf_j115 | with_reducible refine C0.br ?_ ?_ | with_reducible refine C0.al ?_ | with_reducible refine C0.ca cm_fX2_readByte (fun _ _ => ?_) | with_reducible refine C0.cv cm_fX2_give (fun _ => ?_) | with_reducible refine C0.cv cm_fX2_begin (fun _ => ?_) | with_reducible refine C0.ca cm_fX2_readFour (fun _ _ => ?_) | with_reducible refine C0.cv cm_fX2_doLeaf_j106 (fun _ => ?_) | with_reducible refine C0.cv cm_fX2_doLeaf_j115 (fun _ => ?_) | with_reducible refine C0.nd ?_)
set_option maxHeartbeats 1000000 in
theorem cm_fX2_stepPacked_j44 {N : Nat} {k1 : Nat} {t0 : Int32} {σ : St} : C0 (fun Q => fX2_stepPacked_j44 N k1 t0 Q σ) := by
  unfold fX2_stepPacked_j44
  repeat' (first | with_reducible exact C0.ret | with_reducible refine C0.br ?_ ?_ | with_reducible refine C0.al ?_ | with_reducible refine C0.ca cm_fX2_readByte (fun _ _ => ?_) | with_reducible refine C0.cv cm_fX2_followBranch (fun _ => ?_) | with_reducible refine C0.cv cm_fX2_doLeaf (fun _ => ?_) | with_reducible refine C0.nd ?_)
set_option maxHeartbeats 1000000 in
theorem cm_fX2_stepPacked {N : Nat} {k1 : Nat} {σ : St} : C0 (fun Q => fX2_stepPacked N k1 Q σ) := by
  unfold fX2_stepPacked
  repeat' (first | with_reducible exact C0.ret | with_reducible exact cm_fX2_stepPacked_j44 | with_reducible refine C0.br ?_ ?_ | with_reducible refine C0.al ?_ | with_reducible refine C0.cv cm_fX2_fail (fun _ => ?_) | with_reducible refine C0.cv cm_fX2_stepPacked_j44 (fun _ => ?_) | with_reducible refine C0.ca cm_fX2_readFour (fun _ _ => ?_) | with_reducible refine C0.nd ?_)
set_option maxHeartbeats 1000000 in
theorem cm_fX2_digitCount_l8 {N : Nat} {x2 : Int32} {x3 : Int64} {σ : St} {Rr8 : (Int32 → St → Prop) → Int32 → Int64 → St → Prop} (hr8 : ∀ (y0 : Int32) (y1 : Int64) (σ : St), Ct (fun Q => Rr8 Q y0 y1 σ)) : Ct (fun Q => fX2_digitCount_l8 N Q (Rr8 Q) x2 x3 σ) := by
  unfold fX2_digitCount_l8
  repeat' (first | with_reducible exact Ct.ret | with_reducible exact hr8 _ _ _ | with_reducible refine Ct.br ?_ ?_ | with_reducible refine Ct.al ?_ | with_reducible refine Ct.nd ?_)
set_option maxHeartbeats 1000000 in
theorem cm_fX2_digitCount {N : Nat} {x0 : Int64} {σ : St} : Ct (fun Q => fX2_digitCount N x0 Q σ) := by
  unfold fX2_digitCount
  repeat' (first | with_reducible exact Ct.ret | with_reducible exact Ct.lp2 (fun rc hr v0 v1 σ => cm_fX2_digitCount_l8 hr) _ _ _ _ | with_reducible refine Ct.br ?_ ?_ | with_reducible refine Ct.al ?_ | with_reducible refine Ct.nd ?_)
set_option maxHeartbeats 1000000 in
theorem cm_fX2_stepNumber_l100 {N : Nat} {x5 : Int32} {x2 : Int64} {x7 : Int32} {σ : St} {Rr100 : (St → Prop) → Int64 → Int32 → St → Prop} (hr100 : ∀ (y0 : Int64) (y1 : Int32) (σ : St), C0 (fun Q => Rr100 Q y0 y1 σ)) : C0 (fun Q => fX2_stepNumber_l100 N x5 Q (Rr100 Q) x2 x7 σ) := by
  unfold fX2_stepNumber_l100
  repeat' (first | with_reducible exact C0.ret | with_reducible exact hr100 _ _ _ | with_reducible refine C0.br ?_ ?_ | with_reducible refine C0.al ?_ | with_reducible refine C0.cv cm_fX2_give (fun _ => ?_) | with_reducible refine C0.nd ?_)
set_option maxHeartbeats 1000000 in
theorem cm_fX2_stepNumber_j73 {N : Nat} {k1 : Nat} {x2 : Int64} {x5 : Int32} {t0 : Int32} {σ : St} : C0 (fun Q => fX2_stepNumber_j73 N k1 x2 x5 t0 Q σ) := by
  unfold fX2_stepNumber_j73
  repeat' (first | with_reducible exact C0.ret | with_reducible exact C0.lp2 (fun rc hr v0 v1 σ => cm_fX2_stepNumber_l100 hr) _ _ _ _ | with_reducible refine C0.br ?_ ?_ | with_reducible refine C0.al ?_ | with_reducible refine C0.cv cm_fX2_give (fun _ => ?_) | with_reducible refine C0.nd ?_)
set_option maxHeartbeats 1000000 in
theorem cm_fX2_stepNumber_j72 {N : Nat} {k1 : Nat} {x2 : Int64} {x5 : Int32} {σ : St} : C0 (fun Q => fX2_stepNumber_j72 N k1 x2 x5 Q σ) := by
  unfold fX2_stepNumber_j72
  repeat' (first | with_reducible exact C0.ret | with_reducible exact cm_fX2_stepNumber_j73 | with_reducible refine C0.br ?_ ?_ | with_reducible refine C0.al ?_ | with_reducible refine C0.cv cm_fX2_stepNumber_j73 (fun _ => ?_) | with_reducible refine C0.nd ?_)
set_option maxHeartbeats 1000000 in
theorem cm_fX2_stepNumber_j21 {N : Nat} {k1 : Nat} {x2 : Int64} {t0 : Int32} {σ : St} : C0 (fun Q => fX2_stepNumber_j21 N k1 x2 t0 Q σ) := by
  unfold fX2_stepNumber_j21
  repeat' (first | with_reducible exact C0.ret | with_reducible exact cm_fX2_stepNumber_j73 | with_reducible exact cm_fX2_stepNumber_j72 | with_reducible refine C0.br ?_ ?_ | with_reducible refine C0.al ?_ | with_reducible refine C0.ca cm_fX2_digitCount (fun _ _ => ?_) | with_reducible refine C0.cv cm_fX2_stepNumber_j73 (fun _ => ?_) | with_reducible refine C0.cv cm_fX2_stepNumber_j72 (fun _ => ?_) | with_reducible refine C0.nd ?_)
set_option maxHeartbeats 1000000 in
theorem cm_fX2_stepNumber {N : Nat} {k1 : Nat} {σ : St} : C0 (fun Q => fX2_stepNumber N k1 Q σ) := by
  unfold fX2_stepNumber
  repeat' (first | with_reducible exact C0.ret | with_reducible exact cm_fX2_stepNumber_j21 | with_reducible refine C0.br ?_ ?_ | with_reducible refine C0.al ?_ | with_reducible refine C0.cv cm_fX2_stepNumber_j21 (fun _ => ?_) | with_reducible refine C0.nd ?_)
set_option maxHeartbeats 1000000 in
theorem cm_fX2_endInFault {N : Nat} {σ : St} : Ct (fun Q => fX2_endInFault N Q σ) := by
  unfold fX2_endInFault
  repeat' (first | with_reducible exact Ct.ret | with_reducible refine Ct.br ?_ ?_ | with_reducible refine Ct.al ?_ | with_reducible refine Ct.nd ?_)
set_option maxHeartbeats 1000000 in
theorem cm_fX2_run_j140 {N : Nat} {x2 : Int32} {σ : St} : Ct (fun Q => fX2_run_j140 N x2 Q σ) := by
  unfold fX2_run_j140
  repeat' (first | with_reducible exact Ct.ret | with_reducible refine Ct.br ?_ ?_ | with_reducible refine Ct.al ?_ | with_reducible refine Ct.ca cm_fX2_endInFault (fun _ _ => ?_) | with_reducible refine Ct.nd ?_)
set_option maxHeartbeats 1000000 in
theorem cm_fX2_run_j134 {N : Nat} {x1 : Int32} {x2 : Int32} {x3 : Int32} {σ : St} {Rr10 : (Int32 → St → Prop) → Int32 → St → Prop} (hr10 : ∀ (y0 : Int32) (σ : St), Ct (fun Q => Rr10 Q y0 σ)) : Ct (fun Q => fX2_run_j134 N (Rr10 Q) x1 x2 x3 Q σ) := by
  unfold fX2_run_j134
  repeat' (first | with_reducible exact Ct.ret | with_reducible exact hr10 _ _ | with_reducible refine Ct.br ?_ ?_ | with_reducible refine Ct.al ?_ | with_reducible refine Ct.nd ?_)
set_option maxHeartbeats 1000000 in
theorem cm_fX2_run_l10 {N : Nat} {x1 : Int32} {x2 : Int32} {x3 : Int32} {σ : St} {Rr10 : (Int32 → St → Prop) → Int32 → St → Prop} (hr10 : ∀ (y0 : Int32) (σ : St), Ct (fun Q => Rr10 Q y0 σ)) : Ct (fun Q => fX2_run_l10 N x1 x2 Q (Rr10 Q) x3 σ) := by
  unfold fX2_run_l10
  repeat' (first | with_reducible exact Ct.ret | with_reducible exact hr10 _ _ | with_reducible exact cm_fX2_run_j140 | with_reducible exact cm_fX2_run_j134 hr10 | with_reducible refine Ct.br ?_ ?_ | with_reducible refine Ct.al ?_ | with_reducible refine Ct.ca cm_fX2_run_j140 (fun _ _ => ?_) | with_reducible refine Ct.cv cm_fX2_doOrder (fun _ => ?_) | with_reducible refine Ct.cv cm_fX2_stepPlain (fun _ => ?_) | with_reducible refine Ct.cv cm_fX2_stepWide (fun _ => ?_) | with_reducible refine Ct.cv cm_fX2_stepPacked (fun _ => ?_) | with_reducible refine Ct.cv cm_fX2_stepNumber (fun _ => ?_) | with_reducible refine Ct.nd ?_)
set_option maxHeartbeats 1000000 in
theorem cm_fX2_run {N : Nat} {x1 : Int32} {σ : St} : Ct (fun Q => fX2_run N x1 Q σ) := by
  unfold fX2_run
  repeat' (first | with_reducible exact Ct.ret | with_reducible exact Ct.lp1 (fun rc hr v0 σ => cm_fX2_run_l10 hr) _ _ _ | with_reducible refine Ct.br ?_ ?_ | with_reducible refine Ct.al ?_ | with_reducible refine Ct.nd ?_)
set_option maxHeartbeats 1000000 in
theorem cm_fX11_print {N : Nat} {x1 : Int32} {x2 : Int32} {σ : St} : Ct (fun Q => fX11_print N x1 x2 Q σ) := by
  unfold fX11_print
  repeat' (first | with_reducible exact Ct.ret | with_reducible refine Ct.br ?_ ?_ | with_reducible refine Ct.al ?_ | with_reducible refine Ct.ca cm_fX11_isStepCount (fun _ _ => ?_) | with_reducible refine Ct.cv cm_fX2_beginString (fun _ => ?_) | with_reducible refine Ct.ca cm_fX2_run (fun _ _ => ?_) | with_reducible refine Ct.nd ?_)
set_option maxHeartbeats 1000000 in
theorem cm_fX11_number {N : Nat} {x1 : Int32} {x2 : Int32} {σ : St} : Ct (fun Q => fX11_number N x1 x2 Q σ) := by
  unfold fX11_number
  repeat' (first | with_reducible exact Ct.ret | with_reducible refine Ct.br ?_ ?_ | with_reducible refine Ct.al ?_ | with_reducible refine Ct.ca cm_fX11_isStepCount (fun _ _ => ?_) | with_reducible refine Ct.cv cm_fX2_begin (fun _ => ?_) | with_reducible refine Ct.ca cm_fX2_run (fun _ _ => ?_) | with_reducible refine Ct.nd ?_)
set_option maxHeartbeats 1000000 in
theorem cm_fX2_setArguments_l7 {N : Nat} {k1 : Nat} {x2 : Int32} {x3 : Int32} {σ : St} {Rr7 : (St → Prop) → Int32 → St → Prop} (hr7 : ∀ (y0 : Int32) (σ : St), C0 (fun Q => Rr7 Q y0 σ)) : C0 (fun Q => fX2_setArguments_l7 N k1 x2 Q (Rr7 Q) x3 σ) := by
  unfold fX2_setArguments_l7
  repeat' (first | with_reducible exact C0.ret | with_reducible exact hr7 _ _ | with_reducible refine C0.br ?_ ?_ | with_reducible refine C0.al ?_ | with_reducible refine C0.nd ?_)
set_option maxHeartbeats 1000000 in
theorem cm_fX2_setArguments {N : Nat} {k1 : Nat} {x2 : Int32} {σ : St} : C0 (fun Q => fX2_setArguments N k1 x2 Q σ) := by
  unfold fX2_setArguments
  repeat' (first | with_reducible exact C0.ret | with_reducible exact C0.lp1 (fun rc hr v0 σ => cm_fX2_setArguments_l7 hr) _ _ _ | with_reducible refine C0.br ?_ ?_ | with_reducible refine C0.al ?_ | with_reducible refine C0.nd ?_)
set_option maxHeartbeats 1000000 in
theorem cm_fX11_call {N : Nat} {x1 : Int32} {x2 : Int32} {σ : St} : Ct (fun Q => fX11_call N x1 x2 Q σ) := by
  unfold fX11_call
  repeat' (first | with_reducible exact Ct.ret | with_reducible refine Ct.br ?_ ?_ | with_reducible refine Ct.al ?_ | with_reducible refine Ct.ca cm_fX11_isStepCount (fun _ _ => ?_) | with_reducible refine Ct.cv cm_fX2_setArguments (fun _ => ?_) | with_reducible refine Ct.cv cm_fX2_callFunction (fun _ => ?_) | with_reducible refine Ct.ca cm_fX2_run (fun _ _ => ?_) | with_reducible refine Ct.nd ?_)
set_option maxHeartbeats 1000000 in
theorem cm_fX11_resume {N : Nat} {x1 : Int32} {σ : St} : Ct (fun Q => fX11_resume N x1 Q σ) := by
  unfold fX11_resume
  repeat' (first | with_reducible exact Ct.ret | with_reducible refine Ct.br ?_ ?_ | with_reducible refine Ct.al ?_ | with_reducible refine Ct.ca cm_fX11_isStepCount (fun _ _ => ?_) | with_reducible refine Ct.ca cm_fX2_run (fun _ _ => ?_) | with_reducible refine Ct.nd ?_)
set_option maxHeartbeats 1000000 in
theorem cm_fX11_stop {N : Nat} {σ : St} : Ct (fun Q => fX11_stop N Q σ) := by
  unfold fX11_stop
  repeat' (first | with_reducible exact Ct.ret | with_reducible refine Ct.br ?_ ?_ | with_reducible refine Ct.al ?_ | with_reducible refine Ct.nd ?_)
set_option maxHeartbeats 1000000 in
theorem cm_fX11_jobs {N : Nat} {σ : St} : Ct (fun Q => fX11_jobs N Q σ) := by
  unfold fX11_jobs
  repeat' (first | with_reducible exact Ct.ret | with_reducible refine Ct.br ?_ ?_ | with_reducible refine Ct.al ?_ | with_reducible refine Ct.nd ?_)
set_option maxHeartbeats 1000000 in
theorem cm_fX1_tellNode {N : Nat} {k0 : Nat} {σ : St} : Ct (fun Q => fX1_tellNode N k0 Q σ) := by
  unfold fX1_tellNode
  repeat' (first | with_reducible exact Ct.ret | with_reducible refine Ct.br ?_ ?_ | with_reducible refine Ct.al ?_ | with_reducible refine Ct.nd ?_)
set_option maxHeartbeats 1000000 in
theorem cm_fX1_tell {N : Nat} {k0 : Nat} {x1 : Int32} {σ : St} : Ct (fun Q => fX1_tell N k0 x1 Q σ) := by
  unfold fX1_tell
  repeat' (first | with_reducible exact Ct.ret | with_reducible refine Ct.br ?_ ?_ | with_reducible refine Ct.al ?_ | with_reducible refine Ct.ca cm_fX1_tellNode (fun _ _ => ?_) | with_reducible refine Ct.ca cm_fX1_hasLocal (fun _ _ => ?_) | with_reducible refine Ct.nd ?_)
set_option maxHeartbeats 1000000 in
theorem cm_fX11_job {N : Nat} {x1 : Int32} {x2 : Int32} {σ : St} : Ct (fun Q => fX11_job N x1 x2 Q σ) := by
  unfold fX11_job
  repeat' (first | with_reducible exact Ct.ret | with_reducible refine Ct.br ?_ ?_ | with_reducible refine Ct.al ?_ | with_reducible refine Ct.ca cm_fX1_tell (fun _ _ => ?_) | with_reducible refine Ct.nd ?_)
set_option maxHeartbeats 1000000 in
theorem cm_fX11_at {N : Nat} {x1 : Int32} {σ : St} : Ct (fun Q => fX11_at N x1 Q σ) := by
  unfold fX11_at
  repeat' (first | with_reducible exact Ct.ret | with_reducible refine Ct.br ?_ ?_ | with_reducible refine Ct.al ?_ | with_reducible refine Ct.nd ?_)
set_option maxHeartbeats 1000000 in
theorem cm_fX11_clear {N : Nat} {σ : St} : Ct (fun Q => fX11_clear N Q σ) := by
  unfold fX11_clear
  repeat' (first | with_reducible exact Ct.ret | with_reducible refine Ct.br ?_ ?_ | with_reducible refine Ct.al ?_ | with_reducible refine Ct.nd ?_)
set_option maxHeartbeats 1000000 in
theorem cm_fX9_tell {N : Nat} {x1 : Int32} {σ : St} : Ct (fun Q => fX9_tell N x1 Q σ) := by
  unfold fX9_tell
  repeat' (first | with_reducible exact Ct.ret | with_reducible refine Ct.br ?_ ?_ | with_reducible refine Ct.al ?_ | with_reducible refine Ct.nd ?_)
set_option maxHeartbeats 1000000 in
theorem cm_fX11_told {N : Nat} {x1 : Int32} {σ : St} : Ct (fun Q => fX11_told N x1 Q σ) := by
  unfold fX11_told
  repeat' (first | with_reducible exact Ct.ret | with_reducible refine Ct.br ?_ ?_ | with_reducible refine Ct.al ?_ | with_reducible refine Ct.ca cm_fX8_cachedNodes (fun _ _ => ?_) | with_reducible refine Ct.ca cm_fX9_tell (fun _ _ => ?_) | with_reducible refine Ct.nd ?_)
set_option maxHeartbeats 1000000 in
theorem cm_fX11_sign {N : Nat} {x1 : Int32} {σ : St} : Ct (fun Q => fX11_sign N x1 Q σ) := by
  unfold fX11_sign
  repeat' (first | with_reducible exact Ct.ret | with_reducible refine Ct.br ?_ ?_ | with_reducible refine Ct.al ?_ | with_reducible refine Ct.nd ?_)
set_option maxHeartbeats 1000000 in
theorem cm_fX7_areSigns_j40 {N : Nat} {k0 : Nat} {x1 : Int32} {x2 : Int32} {x3 : Int32} {σ : St} {Rr2 : (Int32 → St → Prop) → Int32 → St → Prop} (hr2 : ∀ (y0 : Int32) (σ : St), Ct (fun Q => Rr2 Q y0 σ)) : Ct (fun Q => fX7_areSigns_j40 N (Rr2 Q) k0 x1 x2 x3 Q σ) := by
  unfold fX7_areSigns_j40
  repeat' (first | with_reducible exact Ct.ret | with_reducible exact hr2 _ _ | with_reducible refine Ct.br ?_ ?_ | with_reducible refine Ct.al ?_ | with_reducible refine Ct.nd ?_)
set_option maxHeartbeats 1000000 in
theorem cm_fX7_areSigns_l2 {N : Nat} {k0 : Nat} {x1 : Int32} {x2 : Int32} {x3 : Int32} {σ : St} {Rr2 : (Int32 → St → Prop) → Int32 → St → Prop} (hr2 : ∀ (y0 : Int32) (σ : St), Ct (fun Q => Rr2 Q y0 σ)) : Ct (fun Q => fX7_areSigns_l2 N k0 x1 x2 Q (Rr2 Q) x3 σ) := by
  unfold fX7_areSigns_l2
  repeat' (first | with_reducible exact Ct.ret | with_reducible exact hr2 _ _ | with_reducible exact cm_fX7_areSigns_j40 hr2 | with_reducible refine Ct.br ?_ ?_ | with_reducible refine Ct.al ?_ | with_reducible refine Ct.nd ?_)
set_option maxHeartbeats 1000000 in
theorem cm_fX7_areSigns {N : Nat} {k0 : Nat} {x1 : Int32} {x2 : Int32} {σ : St} : Ct (fun Q => fX7_areSigns N k0 x1 x2 Q σ) := by
  unfold fX7_areSigns
  repeat' (first | with_reducible exact Ct.ret | with_reducible exact Ct.lp1 (fun rc hr v0 σ => cm_fX7_areSigns_l2 hr) _ _ _ | with_reducible refine Ct.br ?_ ?_ | with_reducible refine Ct.al ?_ | with_reducible refine Ct.nd ?_)
set_option maxHeartbeats 1000000 in
theorem cm_fX7_isPiece_j140 {N : Nat} {x2 : Int32} {σ : St} : Ct (fun Q => fX7_isPiece_j140 N x2 Q σ) := by
  unfold fX7_isPiece_j140
  repeat' (first | with_reducible exact Ct.ret | with_reducible refine Ct.br ?_ ?_ | with_reducible refine Ct.al ?_ | with_reducible refine Ct.nd ?_)
set_option maxHeartbeats 1000000 in
theorem cm_fX7_isPiece {N : Nat} {x0 : Int32} {k1 : Nat} {x2 : Int32} {σ : St} : Ct (fun Q => fX7_isPiece N x0 k1 x2 Q σ) := by
  unfold fX7_isPiece
  repeat' (first | with_reducible exact Ct.ret | with_reducible exact cm_fX7_isPiece_j140 | with_reducible refine Ct.br ?_ ?_ | with_reducible refine Ct.al ?_ | with_reducible refine Ct.ca cm_fX7_areSigns (fun _ _ => ?_) | with_reducible refine Ct.ca cm_fX7_isPiece_j140 (fun _ _ => ?_) | with_reducible refine Ct.nd ?_)
set_option maxHeartbeats 1000000 in
theorem cm_fX7_add_j128 {N : Nat} {x4 : Int32} {σ : St} : Ct (fun Q => fX7_add_j128 N x4 Q σ) := by
  unfold fX7_add_j128
  repeat' (first | with_reducible exact Ct.ret | with_reducible refine Ct.br ?_ ?_ | with_reducible refine Ct.al ?_ | with_reducible refine Ct.nd ?_)
set_option maxHeartbeats 1000000 in
theorem cm_fX7_add_j97 {N : Nat} {x4 : Int32} {σ : St} : Ct (fun Q => fX7_add_j97 N x4 Q σ) := by
  unfold fX7_add_j97
  repeat' (first | with_reducible exact Ct.ret | with_reducible exact cm_fX7_add_j128 | with_reducible refine Ct.br ?_ ?_ | with_reducible refine Ct.al ?_ | with_reducible refine Ct.ca cm_fX7_add_j128 (fun _ _ => ?_) | with_reducible refine Ct.nd ?_)
set_option maxHeartbeats 1000000 in
theorem cm_fX7_add_j85 {N : Nat} {x1 : Int32} {x4 : Int32} {σ : St} : Ct (fun Q => fX7_add_j85 N x1 x4 Q σ) := by
  unfold fX7_add_j85
  repeat' (first | with_reducible exact Ct.ret | with_reducible exact cm_fX7_add_j97 | with_reducible exact cm_fX7_add_j128 | with_reducible refine Ct.br ?_ ?_ | with_reducible refine Ct.al ?_ | with_reducible refine Ct.ca cm_fX7_add_j97 (fun _ _ => ?_) | with_reducible refine Ct.ca cm_fX7_add_j128 (fun _ _ => ?_) | with_reducible refine Ct.nd ?_)
set_option maxHeartbeats 1000000 in
theorem cm_fX7_add_l45 {N : Nat} {x1 : Int32} {k2 : Nat} {x3 : Int32} {x4 : Int32} {x5 : Int32} {σ : St} {Rr45 : (Int32 → St → Prop) → Int32 → St → Prop} (hr45 : ∀ (y0 : Int32) (σ : St), Ct (fun Q => Rr45 Q y0 σ)) : Ct (fun Q => fX7_add_l45 N x1 k2 x3 x4 Q (Rr45 Q) x5 σ) := by
  unfold fX7_add_l45
  repeat' (first | with_reducible exact Ct.ret | with_reducible exact hr45 _ _ | with_reducible exact cm_fX7_add_j85 | with_reducible refine Ct.br ?_ ?_ | with_reducible refine Ct.al ?_ | with_reducible refine Ct.ca cm_fX7_add_j85 (fun _ _ => ?_) | with_reducible refine Ct.nd ?_)
set_option maxHeartbeats 1000000 in
theorem cm_fX7_add {N : Nat} {x1 : Int32} {k2 : Nat} {x3 : Int32} {σ : St} : Ct (fun Q => fX7_add N x1 k2 x3 Q σ) := by
  unfold fX7_add
  repeat' (first | with_reducible exact Ct.ret | with_reducible exact Ct.lp1 (fun rc hr v0 σ => cm_fX7_add_l45 hr) _ _ _ | with_reducible refine Ct.br ?_ ?_ | with_reducible refine Ct.al ?_ | with_reducible refine Ct.nd ?_)
set_option maxHeartbeats 1000000 in
theorem cm_fX11_piece {N : Nat} {x1 : Int32} {σ : St} : Ct (fun Q => fX11_piece N x1 Q σ) := by
  unfold fX11_piece
  repeat' (first | with_reducible exact Ct.ret | with_reducible refine Ct.br ?_ ?_ | with_reducible refine Ct.al ?_ | with_reducible refine Ct.ca cm_fX7_isPiece (fun _ _ => ?_) | with_reducible refine Ct.ca cm_fX7_add (fun _ _ => ?_) | with_reducible refine Ct.nd ?_)
set_option maxHeartbeats 1000000 in
theorem cm_fX7_standsAt_l29 {N : Nat} {x1 : Int32} {k2 : Nat} {x3 : Int32} {x5 : Int32} {σ : St} {Rr29 : (Int32 → St → Prop) → Int32 → St → Prop} (hr29 : ∀ (y0 : Int32) (σ : St), Ct (fun Q => Rr29 Q y0 σ)) : Ct (fun Q => fX7_standsAt_l29 N x1 k2 x3 Q (Rr29 Q) x5 σ) := by
  unfold fX7_standsAt_l29
  repeat' (first | with_reducible exact Ct.ret | with_reducible exact hr29 _ _ | with_reducible refine Ct.br ?_ ?_ | with_reducible refine Ct.al ?_ | with_reducible refine Ct.nd ?_)
set_option maxHeartbeats 1000000 in
theorem cm_fX7_standsAt {N : Nat} {x1 : Int32} {k2 : Nat} {x3 : Int32} {x4 : Int32} {σ : St} : Ct (fun Q => fX7_standsAt N x1 k2 x3 x4 Q σ) := by
  unfold fX7_standsAt
  repeat' (first | with_reducible exact Ct.ret | with_reducible exact Ct.lp1 (fun rc hr v0 σ => cm_fX7_standsAt_l29 hr) _ _ _ | with_reducible refine Ct.br ?_ ?_ | with_reducible refine Ct.al ?_ | with_reducible refine Ct.nd ?_)
set_option maxHeartbeats 1000000 in
theorem cm_fX6_choose_j144 {N : Nat} {k1 : Nat} {x2 : Int32} {x3 : Int32} {x4 : Int32} {x5 : Int32} {σ : St} {Rr21 : (St → Prop) → Int32 → Int32 → St → Prop} (hr21 : ∀ (y0 : Int32) (y1 : Int32) (σ : St), C0 (fun Q => Rr21 Q y0 y1 σ)) : C0 (fun Q => fX6_choose_j144 N (Rr21 Q) k1 x2 x3 x4 x5 Q σ) := by
  unfold fX6_choose_j144
  repeat' (first | with_reducible exact C0.ret | with_reducible exact hr21 _ _ _ | with_reducible refine C0.br ?_ ?_ | with_reducible refine C0.al ?_ | with_reducible refine C0.nd ?_)
set_option maxHeartbeats 1000000 in
theorem cm_fX6_choose_j110 {N : Nat} {k1 : Nat} {x2 : Int32} {x3 : Int32} {x4 : Int32} {x5 : Int32} {x6 : Int32} {x7 : Int32} {t0 : Int32} {σ : St} {Rr21 : (St → Prop) → Int32 → Int32 → St → Prop} (hr21 : ∀ (y0 : Int32) (y1 : Int32) (σ : St), C0 (fun Q => Rr21 Q y0 y1 σ)) : C0 (fun Q => fX6_choose_j110 N (Rr21 Q) k1 x2 x3 x4 x5 x6 x7 t0 Q σ) := by
  unfold fX6_choose_j110
  repeat' (first | with_reducible exact C0.ret | with_reducible exact hr21 _ _ _ | with_reducible exact cm_fX6_choose_j144 hr21 | with_reducible refine C0.br ?_ ?_ | with_reducible refine C0.al ?_ | with_reducible refine C0.nd ?_)
set_option maxHeartbeats 1000000 in
theorem cm_fX6_choose_j105 {N : Nat} {k1 : Nat} {x2 : Int32} {x3 : Int32} {x4 : Int32} {x5 : Int32} {x6 : Int32} {x7 : Int32} {σ : St} {Rr21 : (St → Prop) → Int32 → Int32 → St → Prop} (hr21 : ∀ (y0 : Int32) (y1 : Int32) (σ : St), C0 (fun Q => Rr21 Q y0 y1 σ)) : C0 (fun Q => fX6_choose_j105 N (Rr21 Q) k1 x2 x3 x4 x5 x6 x7 Q σ) := by
  unfold fX6_choose_j105
  repeat' (first | with_reducible exact C0.ret | with_reducible exact hr21 _ _ _ | with_reducible exact cm_fX6_choose_j110 hr21 | with_reducible refine C0.br ?_ ?_ | with_reducible refine C0.al ?_ | with_reducible refine C0.nd ?_)
set_option maxHeartbeats 1000000 in
theorem cm_fX6_choose_j109 {N : Nat} {k1 : Nat} {x2 : Int32} {x3 : Int32} {x4 : Int32} {x5 : Int32} {x6 : Int32} {x7 : Int32} {σ : St} {Rr21 : (St → Prop) → Int32 → Int32 → St → Prop} (hr21 : ∀ (y0 : Int32) (y1 : Int32) (σ : St), C0 (fun Q => Rr21 Q y0 y1 σ)) : C0 (fun Q => fX6_choose_j109 N (Rr21 Q) k1 x2 x3 x4 x5 x6 x7 Q σ) := by
  unfold fX6_choose_j109
  repeat' (first | with_reducible exact C0.ret | with_reducible exact hr21 _ _ _ | with_reducible exact cm_fX6_choose_j110 hr21 | with_reducible refine C0.br ?_ ?_ | with_reducible refine C0.al ?_ | with_reducible refine C0.nd ?_)
set_option maxHeartbeats 1000000 in
theorem cm_fX6_choose_l21 {N : Nat} {k1 : Nat} {x2 : Int32} {x3 : Int32} {x4 : Int32} {x5 : Int32} {σ : St} {Rr21 : (St → Prop) → Int32 → Int32 → St → Prop} (hr21 : ∀ (y0 : Int32) (y1 : Int32) (σ : St), C0 (fun Q => Rr21 Q y0 y1 σ)) : C0 (fun Q => fX6_choose_l21 N k1 x2 x3 Q (Rr21 Q) x4 x5 σ) := by
  unfold fX6_choose_l21
  repeat' (first | with_reducible exact C0.ret | with_reducible exact hr21 _ _ _ | with_reducible exact cm_fX6_choose_j144 hr21 | with_reducible exact cm_fX6_choose_j105 hr21 | with_reducible exact cm_fX6_choose_j109 hr21 | with_reducible refine C0.br ?_ ?_ | with_reducible refine C0.al ?_ | with_reducible refine C0.ca cm_fX7_standsAt (fun _ _ => ?_) | with_reducible refine C0.nd ?_)
set_option maxHeartbeats 1000000 in
theorem cm_fX6_choose {N : Nat} {k1 : Nat} {x2 : Int32} {x3 : Int32} {σ : St} : C0 (fun Q => fX6_choose N k1 x2 x3 Q σ) := by
  unfold fX6_choose
  repeat' (first | with_reducible exact C0.ret | with_reducible exact C0.lp2 (fun rc hr v0 v1 σ => cm_fX6_choose_l21 hr) _ _ _ _ | with_reducible refine C0.br ?_ ?_ | with_reducible refine C0.al ?_ | with_reducible refine C0.nd ?_)
set_option maxHeartbeats 1000000 in
theorem cm_fX6_part_l29 {N : Nat} {k1 : Nat} {x2 : Int32} {x3 : Int32} {σ : St} {Rr29 : (Int32 → St → Prop) → Int32 → St → Prop} (hr29 : ∀ (y0 : Int32) (σ : St), Ct (fun Q => Rr29 Q y0 σ)) : Ct (fun Q => fX6_part_l29 N k1 x2 Q (Rr29 Q) x3 σ) := by
  unfold fX6_part_l29
  repeat' (first | with_reducible exact Ct.ret | with_reducible exact hr29 _ _ | with_reducible refine Ct.br ?_ ?_ | with_reducible refine Ct.al ?_ | with_reducible refine Ct.cv cm_fX6_choose (fun _ => ?_) | with_reducible refine Ct.nd ?_)
set_option maxHeartbeats 1000000 in
theorem cm_fX6_part {N : Nat} {k1 : Nat} {x2 : Int32} {σ : St} : Ct (fun Q => fX6_part N k1 x2 Q σ) := by
  unfold fX6_part
  repeat' (first | with_reducible exact Ct.ret | with_reducible exact Ct.lp1 (fun rc hr v0 σ => cm_fX6_part_l29 hr) _ _ _ | with_reducible refine Ct.br ?_ ?_ | with_reducible refine Ct.al ?_ | with_reducible refine Ct.nd ?_)
set_option maxHeartbeats 1000000 in
theorem cm_fX10_add_j59 {N : Nat} {x2 : Int32} {x3 : Int32} {σ : St} : Ct (fun Q => fX10_add_j59 N x2 x3 Q σ) := by
  unfold fX10_add_j59
  repeat' (first | with_reducible exact Ct.ret | with_reducible refine Ct.br ?_ ?_ | with_reducible refine Ct.al ?_ | with_reducible refine Ct.nd ?_)
set_option maxHeartbeats 1000000 in
theorem cm_fX10_add_l20 {N : Nat} {k1 : Nat} {x2 : Int32} {x3 : Int32} {x4 : Int32} {σ : St} {Rr20 : (Int32 → St → Prop) → Int32 → St → Prop} (hr20 : ∀ (y0 : Int32) (σ : St), Ct (fun Q => Rr20 Q y0 σ)) : Ct (fun Q => fX10_add_l20 N k1 x2 x3 Q (Rr20 Q) x4 σ) := by
  unfold fX10_add_l20
  repeat' (first | with_reducible exact Ct.ret | with_reducible exact hr20 _ _ | with_reducible exact cm_fX10_add_j59 | with_reducible refine Ct.br ?_ ?_ | with_reducible refine Ct.al ?_ | with_reducible refine Ct.ca cm_fX10_add_j59 (fun _ _ => ?_) | with_reducible refine Ct.nd ?_)
set_option maxHeartbeats 1000000 in
theorem cm_fX10_add {N : Nat} {k1 : Nat} {x2 : Int32} {σ : St} : Ct (fun Q => fX10_add N k1 x2 Q σ) := by
  unfold fX10_add
  repeat' (first | with_reducible exact Ct.ret | with_reducible exact Ct.lp1 (fun rc hr v0 σ => cm_fX10_add_l20 hr) _ _ _ | with_reducible refine Ct.br ?_ ?_ | with_reducible refine Ct.al ?_ | with_reducible refine Ct.nd ?_)
set_option maxHeartbeats 1000000 in
theorem cm_fX11_text {N : Nat} {σ : St} : Ct (fun Q => fX11_text N Q σ) := by
  unfold fX11_text
  repeat' (first | with_reducible exact Ct.ret | with_reducible refine Ct.br ?_ ?_ | with_reducible refine Ct.al ?_ | with_reducible refine Ct.ca cm_fX6_part (fun _ _ => ?_) | with_reducible refine Ct.ca cm_fX10_add (fun _ _ => ?_) | with_reducible refine Ct.nd ?_)
set_option maxHeartbeats 1000000 in
theorem cm_fX6_copyPieces_l5 {N : Nat} {x1 : Int32} {k2 : Nat} {x3 : Int32} {x4 : Int32} {σ : St} {Rr5 : (Int32 → St → Prop) → Int32 → Int32 → St → Prop} (hr5 : ∀ (y0 : Int32) (y1 : Int32) (σ : St), Ct (fun Q => Rr5 Q y0 y1 σ)) : Ct (fun Q => fX6_copyPieces_l5 N x1 k2 Q (Rr5 Q) x3 x4 σ) := by
  unfold fX6_copyPieces_l5
  repeat' (first | with_reducible exact Ct.ret | with_reducible exact hr5 _ _ _ | with_reducible refine Ct.br ?_ ?_ | with_reducible refine Ct.al ?_ | with_reducible refine Ct.nd ?_)
set_option maxHeartbeats 1000000 in
theorem cm_fX6_copyPieces {N : Nat} {x1 : Int32} {k2 : Nat} {σ : St} : Ct (fun Q => fX6_copyPieces N x1 k2 Q σ) := by
  unfold fX6_copyPieces
  repeat' (first | with_reducible exact Ct.ret | with_reducible exact Ct.lp2 (fun rc hr v0 v1 σ => cm_fX6_copyPieces_l5 hr) _ _ _ _ | with_reducible refine Ct.br ?_ ?_ | with_reducible refine Ct.al ?_ | with_reducible refine Ct.nd ?_)
set_option maxHeartbeats 1000000 in
theorem cm_fX5_partTexts_l77 {N : Nat} {x1 : Int32} {x2 : Int32} {σ : St} {Rr10 : (St → Prop) → Int32 → St → Prop} (hr10 : ∀ (y0 : Int32) (σ : St), C0 (fun Q => Rr10 Q y0 σ)) {Rr77 : (St → Prop) → Int32 → St → Prop} (hr77 : ∀ (y0 : Int32) (σ : St), C0 (fun Q => Rr77 Q y0 σ)) : C0 (fun Q => fX5_partTexts_l77 N (Rr10 Q) x1 Q (Rr77 Q) x2 σ) := by
  unfold fX5_partTexts_l77
  repeat' (first | with_reducible exact C0.ret | with_reducible exact hr10 _ _ | with_reducible exact hr77 _ _ | with_reducible refine C0.br ?_ ?_ | with_reducible refine C0.al ?_ | with_reducible refine C0.nd ?_)
set_option maxHeartbeats 1000000 in
theorem cm_fX5_partTexts_l10 {N : Nat} {x1 : Int32} {σ : St} {Rr10 : (St → Prop) → Int32 → St → Prop} (hr10 : ∀ (y0 : Int32) (σ : St), C0 (fun Q => Rr10 Q y0 σ)) : C0 (fun Q => fX5_partTexts_l10 N Q (Rr10 Q) x1 σ) := by
  unfold fX5_partTexts_l10
  repeat' (first | with_reducible exact C0.ret | with_reducible exact hr10 _ _ | with_reducible exact C0.lp1 (fun rc hr v0 σ => cm_fX5_partTexts_l77 hr10 hr) _ _ _ | with_reducible refine C0.br ?_ ?_ | with_reducible refine C0.al ?_ | with_reducible refine C0.ca cm_fX6_part (fun _ _ => ?_) | with_reducible refine C0.ca cm_fX6_copyPieces (fun _ _ => ?_) | with_reducible refine C0.nd ?_)
set_option maxHeartbeats 1000000 in
theorem cm_fX5_partTexts {N : Nat} {σ : St} : C0 (fun Q => fX5_partTexts N Q σ) := by
  unfold fX5_partTexts
  repeat' (first | with_reducible exact C0.ret | with_reducible exact C0.lp1 (fun rc hr v0 σ => cm_fX5_partTexts_l10 hr) _ _ _ | with_reducible refine C0.br ?_ ?_ | with_reducible refine C0.al ?_ | with_reducible refine C0.cv cm_fJ7_fill_53178 (fun _ => ?_) | with_reducible refine C0.nd ?_)
set_option maxHeartbeats 1000000 in
theorem cm_fX0_clearLeaves {N : Nat} {σ : St} : C0 (fun Q => fX0_clearLeaves N Q σ) := by
  unfold fX0_clearLeaves
  repeat' (first | with_reducible exact C0.ret | with_reducible refine C0.br ?_ ?_ | with_reducible refine C0.al ?_ | with_reducible refine C0.nd ?_)
set_option maxHeartbeats 1000000 in
theorem cm_fX0_addKnot {N : Nat} {x1 : Int32} {x2 : Int32} {σ : St} : C0 (fun Q => fX0_addKnot N x1 x2 Q σ) := by
  unfold fX0_addKnot
  repeat' (first | with_reducible exact C0.ret | with_reducible refine C0.br ?_ ?_ | with_reducible refine C0.al ?_ | with_reducible refine C0.nd ?_)
set_option maxHeartbeats 1000000 in
theorem cm_fX0_addLeaf {N : Nat} {x1 : Int32} {x2 : Int32} {x3 : Int32} {σ : St} : C0 (fun Q => fX0_addLeaf N x1 x2 x3 Q σ) := by
  unfold fX0_addLeaf
  repeat' (first | with_reducible exact C0.ret | with_reducible refine C0.br ?_ ?_ | with_reducible refine C0.al ?_ | with_reducible refine C0.cv cm_fX0_addKnot (fun _ => ?_) | with_reducible refine C0.nd ?_)
set_option maxHeartbeats 1000000 in
theorem cm_fX7_nodeSize_j62 {N : Nat} {σ : St} : Ct (fun Q => fX7_nodeSize_j62 N Q σ) := by
  unfold fX7_nodeSize_j62
  repeat' (first | with_reducible exact Ct.ret | with_reducible refine Ct.br ?_ ?_ | with_reducible refine Ct.al ?_ | with_reducible refine Ct.nd ?_)
set_option maxHeartbeats 1000000 in
theorem cm_fX7_nodeSize {N : Nat} {x1 : Int32} {σ : St} : Ct (fun Q => fX7_nodeSize N x1 Q σ) := by
  unfold fX7_nodeSize
  repeat' (first | with_reducible exact Ct.ret | with_reducible exact cm_fX7_nodeSize_j62 | with_reducible refine Ct.br ?_ ?_ | with_reducible refine Ct.al ?_ | with_reducible refine Ct.ca cm_fX7_nodeSize_j62 (fun _ _ => ?_) | with_reducible refine Ct.nd ?_)
set_option maxHeartbeats 1000000 in
theorem cm_fX0_takeLeast_j42 {N : Nat} {x1 : Int32} {x2 : Int32} {σ : St} {Rr4 : (Int32 → St → Prop) → Int32 → Int32 → St → Prop} (hr4 : ∀ (y0 : Int32) (y1 : Int32) (σ : St), Ct (fun Q => Rr4 Q y0 y1 σ)) : Ct (fun Q => fX0_takeLeast_j42 N (Rr4 Q) x1 x2 Q σ) := by
  unfold fX0_takeLeast_j42
  repeat' (first | with_reducible exact Ct.ret | with_reducible exact hr4 _ _ _ | with_reducible refine Ct.br ?_ ?_ | with_reducible refine Ct.al ?_ | with_reducible refine Ct.nd ?_)
set_option maxHeartbeats 1000000 in
theorem cm_fX0_takeLeast_j40 {N : Nat} {x2 : Int32} {σ : St} {Rr4 : (Int32 → St → Prop) → Int32 → Int32 → St → Prop} (hr4 : ∀ (y0 : Int32) (y1 : Int32) (σ : St), Ct (fun Q => Rr4 Q y0 y1 σ)) : Ct (fun Q => fX0_takeLeast_j40 N (Rr4 Q) x2 Q σ) := by
  unfold fX0_takeLeast_j40
  repeat' (first | with_reducible exact Ct.ret | with_reducible exact hr4 _ _ _ | with_reducible exact cm_fX0_takeLeast_j42 hr4 | with_reducible refine Ct.br ?_ ?_ | with_reducible refine Ct.al ?_ | with_reducible refine Ct.nd ?_)
set_option maxHeartbeats 1000000 in
theorem cm_fX0_takeLeast_l4 {N : Nat} {x1 : Int32} {x2 : Int32} {σ : St} {Rr4 : (Int32 → St → Prop) → Int32 → Int32 → St → Prop} (hr4 : ∀ (y0 : Int32) (y1 : Int32) (σ : St), Ct (fun Q => Rr4 Q y0 y1 σ)) : Ct (fun Q => fX0_takeLeast_l4 N Q (Rr4 Q) x1 x2 σ) := by
  unfold fX0_takeLeast_l4
  repeat' (first | with_reducible exact Ct.ret | with_reducible exact hr4 _ _ _ | with_reducible exact cm_fX0_takeLeast_j40 hr4 | with_reducible exact cm_fX0_takeLeast_j42 hr4 | with_reducible refine Ct.br ?_ ?_ | with_reducible refine Ct.al ?_ | with_reducible refine Ct.nd ?_)
set_option maxHeartbeats 1000000 in
theorem cm_fX0_takeLeast {N : Nat} {σ : St} : Ct (fun Q => fX0_takeLeast N Q σ) := by
  unfold fX0_takeLeast
  repeat' (first | with_reducible exact Ct.ret | with_reducible exact Ct.lp2 (fun rc hr v0 v1 σ => cm_fX0_takeLeast_l4 hr) _ _ _ _ | with_reducible refine Ct.br ?_ ?_ | with_reducible refine Ct.al ?_ | with_reducible refine Ct.nd ?_)
set_option maxHeartbeats 1000000 in
theorem cm_fX0_joinAll_l5 {N : Nat} {x1 : Int32} {σ : St} {Rr5 : (St → Prop) → Int32 → St → Prop} (hr5 : ∀ (y0 : Int32) (σ : St), C0 (fun Q => Rr5 Q y0 σ)) : C0 (fun Q => fX0_joinAll_l5 N Q (Rr5 Q) x1 σ) := by
  unfold fX0_joinAll_l5
  repeat' (first | with_reducible exact C0.ret | with_reducible exact hr5 _ _ | with_reducible refine C0.br ?_ ?_ | with_reducible refine C0.al ?_ | with_reducible refine C0.ca cm_fX0_takeLeast (fun _ _ => ?_) | with_reducible refine C0.cv cm_fX0_addKnot (fun _ => ?_) | with_reducible refine C0.nd ?_)
set_option maxHeartbeats 1000000 in
theorem cm_fX0_joinAll {N : Nat} {σ : St} : C0 (fun Q => fX0_joinAll N Q σ) := by
  unfold fX0_joinAll
  repeat' (first | with_reducible exact C0.ret | with_reducible exact C0.lp1 (fun rc hr v0 σ => cm_fX0_joinAll_l5 hr) _ _ _ | with_reducible refine C0.br ?_ ?_ | with_reducible refine C0.al ?_ | with_reducible refine C0.nd ?_)
set_option maxHeartbeats 1000000 in
theorem cm_fX5_growTree_j80 {N : Nat} {x1 : Int32} {σ : St} {Rr25 : (St → Prop) → Int32 → St → Prop} (hr25 : ∀ (y0 : Int32) (σ : St), C0 (fun Q => Rr25 Q y0 σ)) : C0 (fun Q => fX5_growTree_j80 N (Rr25 Q) x1 Q σ) := by
  unfold fX5_growTree_j80
  repeat' (first | with_reducible exact C0.ret | with_reducible exact hr25 _ _ | with_reducible refine C0.br ?_ ?_ | with_reducible refine C0.al ?_ | with_reducible refine C0.nd ?_)
set_option maxHeartbeats 1000000 in
theorem cm_fX5_growTree_l25 {N : Nat} {x1 : Int32} {σ : St} {Rr25 : (St → Prop) → Int32 → St → Prop} (hr25 : ∀ (y0 : Int32) (σ : St), C0 (fun Q => Rr25 Q y0 σ)) : C0 (fun Q => fX5_growTree_l25 N Q (Rr25 Q) x1 σ) := by
  unfold fX5_growTree_l25
  repeat' (first | with_reducible exact C0.ret | with_reducible exact hr25 _ _ | with_reducible exact cm_fX5_growTree_j80 hr25 | with_reducible refine C0.br ?_ ?_ | with_reducible refine C0.al ?_ | with_reducible refine C0.cv cm_fX0_joinAll (fun _ => ?_) | with_reducible refine C0.ca cm_fX7_nodeSize (fun _ _ => ?_) | with_reducible refine C0.cv cm_fX0_addLeaf (fun _ => ?_) | with_reducible refine C0.nd ?_)
set_option maxHeartbeats 1000000 in
theorem cm_fX5_growTree {N : Nat} {σ : St} : C0 (fun Q => fX5_growTree N Q σ) := by
  unfold fX5_growTree
  repeat' (first | with_reducible exact C0.ret | with_reducible exact C0.lp1 (fun rc hr v0 σ => cm_fX5_growTree_l25 hr) _ _ _ | with_reducible refine C0.br ?_ ?_ | with_reducible refine C0.al ?_ | with_reducible refine C0.cv cm_fX0_clearLeaves (fun _ => ?_) | with_reducible refine C0.cv cm_fX0_addLeaf (fun _ => ?_) | with_reducible refine C0.nd ?_)
set_option maxHeartbeats 1000000 in
theorem cm_fX0_spread_l41 {N : Nat} {x3 : Int32} {σ : St} {Rr41 : (St → Prop) → Int32 → St → Prop} (hr41 : ∀ (y0 : Int32) (σ : St), C0 (fun Q => Rr41 Q y0 σ)) : C0 (fun Q => fX0_spread_l41 N Q (Rr41 Q) x3 σ) := by
  unfold fX0_spread_l41
  repeat' (first | with_reducible exact C0.ret | with_reducible exact hr41 _ _ | with_reducible refine C0.br ?_ ?_ | with_reducible refine C0.al ?_ | with_reducible refine C0.nd ?_)
set_option maxHeartbeats 1000000 in
theorem cm_fX0_spread {N : Nat} {x1 : Int32} {σ : St} : C0 (fun Q => fX0_spread N x1 Q σ) := by
  unfold fX0_spread
  repeat' (first | with_reducible exact C0.ret | with_reducible exact C0.lp1 (fun rc hr v0 σ => cm_fX0_spread_l41 hr) _ _ _ | with_reducible refine C0.br ?_ ?_ | with_reducible refine C0.al ?_ | with_reducible refine C0.nd ?_)
set_option maxHeartbeats 1000000 in
theorem cm_fX0_size {N : Nat} {σ : St} : Ct (fun Q => fX0_size N Q σ) := by
  unfold fX0_size
  repeat' (first | with_reducible exact Ct.ret | with_reducible refine Ct.br ?_ ?_ | with_reducible refine Ct.al ?_ | with_reducible refine Ct.nd ?_)
set_option maxHeartbeats 1000000 in
theorem cm_fX5_countBits_l12 {N : Nat} {x1 : Int32} {x2 : Int32} {x3 : Int32} {σ : St} {Rr12 : (Int32 → St → Prop) → Int32 → Int32 → St → Prop} (hr12 : ∀ (y0 : Int32) (y1 : Int32) (σ : St), Ct (fun Q => Rr12 Q y0 y1 σ)) : Ct (fun Q => fX5_countBits_l12 N x1 Q (Rr12 Q) x2 x3 σ) := by
  unfold fX5_countBits_l12
  repeat' (first | with_reducible exact Ct.ret | with_reducible exact hr12 _ _ _ | with_reducible refine Ct.br ?_ ?_ | with_reducible refine Ct.al ?_ | with_reducible refine Ct.nd ?_)
set_option maxHeartbeats 1000000 in
theorem cm_fX5_countBits {N : Nat} {x1 : Int32} {σ : St} : Ct (fun Q => fX5_countBits N x1 Q σ) := by
  unfold fX5_countBits
  repeat' (first | with_reducible exact Ct.ret | with_reducible exact Ct.lp2 (fun rc hr v0 v1 σ => cm_fX5_countBits_l12 hr) _ _ _ _ | with_reducible refine Ct.br ?_ ?_ | with_reducible refine Ct.al ?_ | with_reducible refine Ct.nd ?_)
set_option maxHeartbeats 1000000 in
theorem cm_fX3_putFour {N : Nat} {x1 : Int32} {x2 : Int32} {σ : St} : C0 (fun Q => fX3_putFour N x1 x2 Q σ) := by
  unfold fX3_putFour
  repeat' (first | with_reducible exact C0.ret | with_reducible refine C0.br ?_ ?_ | with_reducible refine C0.al ?_ | with_reducible refine C0.cv cm_fX3_putByte (fun _ => ?_) | with_reducible refine C0.nd ?_)
set_option maxHeartbeats 1000000 in
theorem cm_fX0_putBranch {N : Nat} {x2 : Int32} {σ : St} : C0 (fun Q => fX0_putBranch N x2 Q σ) := by
  unfold fX0_putBranch
  repeat' (first | with_reducible exact C0.ret | with_reducible refine C0.br ?_ ?_ | with_reducible refine C0.al ?_ | with_reducible refine C0.cv cm_fX3_putByte (fun _ => ?_) | with_reducible refine C0.cv cm_fX3_putFour (fun _ => ?_) | with_reducible refine C0.nd ?_)
set_option maxHeartbeats 1000000 in
theorem cm_fX7_putBytes_j44 {N : Nat} {x2 : Int32} {x3 : Int32} {σ : St} : C0 (fun Q => fX7_putBytes_j44 N x2 x3 Q σ) := by
  unfold fX7_putBytes_j44
  repeat' (first | with_reducible exact C0.ret | with_reducible refine C0.br ?_ ?_ | with_reducible refine C0.al ?_ | with_reducible refine C0.cv cm_fX3_putByte (fun _ => ?_) | with_reducible refine C0.nd ?_)
set_option maxHeartbeats 1000000 in
theorem cm_fX7_putBytes_l3 {N : Nat} {x2 : Int32} {x3 : Int32} {x4 : Int32} {σ : St} {Rr3 : (St → Prop) → Int32 → St → Prop} (hr3 : ∀ (y0 : Int32) (σ : St), C0 (fun Q => Rr3 Q y0 σ)) : C0 (fun Q => fX7_putBytes_l3 N x2 x3 Q (Rr3 Q) x4 σ) := by
  unfold fX7_putBytes_l3
  repeat' (first | with_reducible exact C0.ret | with_reducible exact hr3 _ _ | with_reducible exact cm_fX7_putBytes_j44 | with_reducible refine C0.br ?_ ?_ | with_reducible refine C0.al ?_ | with_reducible refine C0.cv cm_fX7_putBytes_j44 (fun _ => ?_) | with_reducible refine C0.cv cm_fX3_putByte (fun _ => ?_) | with_reducible refine C0.nd ?_)
set_option maxHeartbeats 1000000 in
theorem cm_fX7_putBytes {N : Nat} {x2 : Int32} {x3 : Int32} {σ : St} : C0 (fun Q => fX7_putBytes N x2 x3 Q σ) := by
  unfold fX7_putBytes
  repeat' (first | with_reducible exact C0.ret | with_reducible exact C0.lp1 (fun rc hr v0 σ => cm_fX7_putBytes_l3 hr) _ _ _ | with_reducible refine C0.br ?_ ?_ | with_reducible refine C0.al ?_ | with_reducible refine C0.nd ?_)
set_option maxHeartbeats 1000000 in
theorem cm_fX7_putFours_j46 {N : Nat} {x2 : Int32} {x3 : Int32} {σ : St} : C0 (fun Q => fX7_putFours_j46 N x2 x3 Q σ) := by
  unfold fX7_putFours_j46
  repeat' (first | with_reducible exact C0.ret | with_reducible refine C0.br ?_ ?_ | with_reducible refine C0.al ?_ | with_reducible refine C0.cv cm_fX3_putFour (fun _ => ?_) | with_reducible refine C0.nd ?_)
set_option maxHeartbeats 1000000 in
theorem cm_fX7_putFours_l3 {N : Nat} {x2 : Int32} {x3 : Int32} {x4 : Int32} {σ : St} {Rr3 : (St → Prop) → Int32 → St → Prop} (hr3 : ∀ (y0 : Int32) (σ : St), C0 (fun Q => Rr3 Q y0 σ)) : C0 (fun Q => fX7_putFours_l3 N x2 x3 Q (Rr3 Q) x4 σ) := by
  unfold fX7_putFours_l3
  repeat' (first | with_reducible exact C0.ret | with_reducible exact hr3 _ _ | with_reducible exact cm_fX7_putFours_j46 | with_reducible refine C0.br ?_ ?_ | with_reducible refine C0.al ?_ | with_reducible refine C0.cv cm_fX7_putFours_j46 (fun _ => ?_) | with_reducible refine C0.cv cm_fX3_putFour (fun _ => ?_) | with_reducible refine C0.nd ?_)
set_option maxHeartbeats 1000000 in
theorem cm_fX7_putFours {N : Nat} {x2 : Int32} {x3 : Int32} {σ : St} : C0 (fun Q => fX7_putFours N x2 x3 Q σ) := by
  unfold fX7_putFours
  repeat' (first | with_reducible exact C0.ret | with_reducible exact C0.lp1 (fun rc hr v0 σ => cm_fX7_putFours_l3 hr) _ _ _ | with_reducible refine C0.br ?_ ?_ | with_reducible refine C0.al ?_ | with_reducible refine C0.nd ?_)
set_option maxHeartbeats 1000000 in
theorem cm_fX7_putNode {N : Nat} {x2 : Int32} {x3 : Int32} {σ : St} : C0 (fun Q => fX7_putNode N x2 x3 Q σ) := by
  unfold fX7_putNode
  repeat' (first | with_reducible exact C0.ret | with_reducible refine C0.br ?_ ?_ | with_reducible refine C0.al ?_ | with_reducible refine C0.cv cm_fX3_putByte (fun _ => ?_) | with_reducible refine C0.cv cm_fX7_putBytes (fun _ => ?_) | with_reducible refine C0.cv cm_fX3_putFour (fun _ => ?_) | with_reducible refine C0.cv cm_fX7_putFours (fun _ => ?_) | with_reducible refine C0.nd ?_)
set_option maxHeartbeats 1000000 in
theorem cm_fX0_putNodes_j107 {N : Nat} {x4 : Int32} {σ : St} {Rr35 : (St → Prop) → Int32 → St → Prop} (hr35 : ∀ (y0 : Int32) (σ : St), C0 (fun Q => Rr35 Q y0 σ)) : C0 (fun Q => fX0_putNodes_j107 N (Rr35 Q) x4 Q σ) := by
  unfold fX0_putNodes_j107
  repeat' (first | with_reducible exact C0.ret | with_reducible exact hr35 _ _ | with_reducible refine C0.br ?_ ?_ | with_reducible refine C0.al ?_ | with_reducible refine C0.nd ?_)
set_option maxHeartbeats 1000000 in
theorem cm_fX0_putNodes_l35 {N : Nat} {x4 : Int32} {σ : St} {Rr35 : (St → Prop) → Int32 → St → Prop} (hr35 : ∀ (y0 : Int32) (σ : St), C0 (fun Q => Rr35 Q y0 σ)) : C0 (fun Q => fX0_putNodes_l35 N Q (Rr35 Q) x4 σ) := by
  unfold fX0_putNodes_l35
  repeat' (first | with_reducible exact C0.ret | with_reducible exact hr35 _ _ | with_reducible exact cm_fX0_putNodes_j107 hr35 | with_reducible refine C0.br ?_ ?_ | with_reducible refine C0.al ?_ | with_reducible refine C0.cv cm_fX7_putNode (fun _ => ?_) | with_reducible refine C0.cv cm_fX3_putByte (fun _ => ?_) | with_reducible refine C0.cv cm_fX0_putBranch (fun _ => ?_) | with_reducible refine C0.nd ?_)
set_option maxHeartbeats 1000000 in
theorem cm_fX0_putNodes {N : Nat} {x3 : Int32} {σ : St} : C0 (fun Q => fX0_putNodes N x3 Q σ) := by
  unfold fX0_putNodes
  repeat' (first | with_reducible exact C0.ret | with_reducible exact C0.lp1 (fun rc hr v0 σ => cm_fX0_putNodes_l35 hr) _ _ _ | with_reducible refine C0.br ?_ ?_ | with_reducible refine C0.al ?_ | with_reducible refine C0.ca cm_fX0_size (fun _ _ => ?_) | with_reducible refine C0.cv cm_fX3_putFour (fun _ => ?_) | with_reducible refine C0.nd ?_)
set_option maxHeartbeats 1000000 in
theorem cm_fX5_putBits_l6 {N : Nat} {x1 : Int32} {x2 : Int32} {x4 : Int32} {x5 : Int32} {σ : St} {Rr6 : (Int32 → St → Prop) → Int32 → Int32 → St → Prop} (hr6 : ∀ (y0 : Int32) (y1 : Int32) (σ : St), Ct (fun Q => Rr6 Q y0 y1 σ)) : Ct (fun Q => fX5_putBits_l6 N x1 x2 Q (Rr6 Q) x4 x5 σ) := by
  unfold fX5_putBits_l6
  repeat' (first | with_reducible exact Ct.ret | with_reducible exact hr6 _ _ _ | with_reducible refine Ct.br ?_ ?_ | with_reducible refine Ct.al ?_ | with_reducible refine Ct.ca cm_fX3_byteOf (fun _ _ => ?_) | with_reducible refine Ct.cv cm_fX3_putByte (fun _ => ?_) | with_reducible refine Ct.nd ?_)
set_option maxHeartbeats 1000000 in
theorem cm_fX5_putBits {N : Nat} {x1 : Int32} {x2 : Int32} {x3 : Int32} {σ : St} : Ct (fun Q => fX5_putBits N x1 x2 x3 Q σ) := by
  unfold fX5_putBits
  repeat' (first | with_reducible exact Ct.ret | with_reducible exact Ct.lp2 (fun rc hr v0 v1 σ => cm_fX5_putBits_l6 hr) _ _ _ _ | with_reducible refine Ct.br ?_ ?_ | with_reducible refine Ct.al ?_ | with_reducible refine Ct.nd ?_)
set_option maxHeartbeats 1000000 in
theorem cm_fX5_putText_l53 {N : Nat} {x1 : Int32} {x2 : Int32} {x3 : Int32} {x4 : Int32} {σ : St} {Rr53 : (St → Prop) → Int32 → Int32 → St → Prop} (hr53 : ∀ (y0 : Int32) (y1 : Int32) (σ : St), C0 (fun Q => Rr53 Q y0 y1 σ)) : C0 (fun Q => fX5_putText_l53 N x1 x2 Q (Rr53 Q) x3 x4 σ) := by
  unfold fX5_putText_l53
  repeat' (first | with_reducible exact C0.ret | with_reducible exact hr53 _ _ _ | with_reducible refine C0.br ?_ ?_ | with_reducible refine C0.al ?_ | with_reducible refine C0.ca cm_fX5_putBits (fun _ _ => ?_) | with_reducible refine C0.nd ?_)
set_option maxHeartbeats 1000000 in
theorem cm_fX5_putText_l13 {N : Nat} {x1 : Int32} {x2 : Int32} {x3 : Int32} {σ : St} {Rr13 : (St → Prop) → Int32 → St → Prop} (hr13 : ∀ (y0 : Int32) (σ : St), C0 (fun Q => Rr13 Q y0 σ)) : C0 (fun Q => fX5_putText_l13 N x1 x2 Q (Rr13 Q) x3 σ) := by
  unfold fX5_putText_l13
  repeat' (first | with_reducible exact C0.ret | with_reducible exact hr13 _ _ | with_reducible exact C0.lp2 (fun rc hr v0 v1 σ => cm_fX5_putText_l53 hr) _ _ _ _ | with_reducible refine C0.br ?_ ?_ | with_reducible refine C0.al ?_ | with_reducible refine C0.cv cm_fX3_putByte (fun _ => ?_) | with_reducible refine C0.nd ?_)
set_option maxHeartbeats 1000000 in
theorem cm_fX5_putText {N : Nat} {x1 : Int32} {x2 : Int32} {σ : St} : C0 (fun Q => fX5_putText N x1 x2 Q σ) := by
  unfold fX5_putText
  repeat' (first | with_reducible exact C0.ret | with_reducible exact C0.lp1 (fun rc hr v0 σ => cm_fX5_putText_l13 hr) _ _ _ | with_reducible refine C0.br ?_ ?_ | with_reducible refine C0.al ?_ | with_reducible refine C0.cv cm_fX3_putByte (fun _ => ?_) | with_reducible refine C0.nd ?_)
set_option maxHeartbeats 1000000 in
theorem cm_fX5_putTexts_l4 {N : Nat} {x2 : Int32} {x3 : Int32} {σ : St} {Rr4 : (St → Prop) → Int32 → Int32 → St → Prop} (hr4 : ∀ (y0 : Int32) (y1 : Int32) (σ : St), C0 (fun Q => Rr4 Q y0 y1 σ)) : C0 (fun Q => fX5_putTexts_l4 N Q (Rr4 Q) x2 x3 σ) := by
  unfold fX5_putTexts_l4
  repeat' (first | with_reducible exact C0.ret | with_reducible exact hr4 _ _ _ | with_reducible refine C0.br ?_ ?_ | with_reducible refine C0.al ?_ | with_reducible refine C0.cv cm_fX5_putText (fun _ => ?_) | with_reducible refine C0.nd ?_)
set_option maxHeartbeats 1000000 in
theorem cm_fX5_putTexts {N : Nat} {x1 : Int32} {σ : St} : C0 (fun Q => fX5_putTexts N x1 Q σ) := by
  unfold fX5_putTexts
  repeat' (first | with_reducible exact C0.ret | with_reducible exact C0.lp2 (fun rc hr v0 v1 σ => cm_fX5_putTexts_l4 hr) _ _ _ _ | with_reducible refine C0.br ?_ ?_ | with_reducible refine C0.al ?_ | with_reducible refine C0.nd ?_)
set_option maxHeartbeats 1000000 in
theorem cm_fX5_keepBits_j69 {N : Nat} {x1 : Int32} {σ : St} {Rr15 : (St → Prop) → Int32 → St → Prop} (hr15 : ∀ (y0 : Int32) (σ : St), C0 (fun Q => Rr15 Q y0 σ)) : C0 (fun Q => fX5_keepBits_j69 N (Rr15 Q) x1 Q σ) := by
  unfold fX5_keepBits_j69
  repeat' (first | with_reducible exact C0.ret | with_reducible exact hr15 _ _ | with_reducible refine C0.br ?_ ?_ | with_reducible refine C0.al ?_ | with_reducible refine C0.nd ?_)
set_option maxHeartbeats 1000000 in
theorem cm_fX5_keepBits_l15 {N : Nat} {x1 : Int32} {σ : St} {Rr15 : (St → Prop) → Int32 → St → Prop} (hr15 : ∀ (y0 : Int32) (σ : St), C0 (fun Q => Rr15 Q y0 σ)) : C0 (fun Q => fX5_keepBits_l15 N Q (Rr15 Q) x1 σ) := by
  unfold fX5_keepBits_l15
  repeat' (first | with_reducible exact C0.ret | with_reducible exact hr15 _ _ | with_reducible exact cm_fX5_keepBits_j69 hr15 | with_reducible refine C0.br ?_ ?_ | with_reducible refine C0.al ?_ | with_reducible refine C0.nd ?_)
set_option maxHeartbeats 1000000 in
theorem cm_fX5_keepBits {N : Nat} {σ : St} : C0 (fun Q => fX5_keepBits N Q σ) := by
  unfold fX5_keepBits
  repeat' (first | with_reducible exact C0.ret | with_reducible exact C0.lp1 (fun rc hr v0 σ => cm_fX5_keepBits_l15 hr) _ _ _ | with_reducible refine C0.br ?_ ?_ | with_reducible refine C0.al ?_ | with_reducible refine C0.nd ?_)
set_option maxHeartbeats 1000000 in
theorem cm_fX5_pack_l29 {N : Nat} {x1 : Int32} {x2 : Int32} {x3 : Int32} {x4 : Int32} {σ : St} {Rr29 : (Int32 → St → Prop) → Int32 → Int32 → Int32 → St → Prop} (hr29 : ∀ (y0 : Int32) (y1 : Int32) (y2 : Int32) (σ : St), Ct (fun Q => Rr29 Q y0 y1 y2 σ)) : Ct (fun Q => fX5_pack_l29 N x1 Q (Rr29 Q) x2 x3 x4 σ) := by
  unfold fX5_pack_l29
  repeat' (first | with_reducible exact Ct.ret | with_reducible exact hr29 _ _ _ _ | with_reducible refine Ct.br ?_ ?_ | with_reducible refine Ct.al ?_ | with_reducible refine Ct.cv cm_fX0_putNodes (fun _ => ?_) | with_reducible refine Ct.ca cm_fX0_size (fun _ _ => ?_) | with_reducible refine Ct.cv cm_fX5_putTexts (fun _ => ?_) | with_reducible refine Ct.cv cm_fX5_keepBits (fun _ => ?_) | with_reducible refine Ct.cv cm_fX8_dropIfTouched (fun _ => ?_) | with_reducible refine Ct.ca cm_fX5_countBits (fun _ _ => ?_) | with_reducible refine Ct.nd ?_)
set_option maxHeartbeats 1000000 in
theorem cm_fX5_pack {N : Nat} {x1 : Int32} {σ : St} : Ct (fun Q => fX5_pack N x1 Q σ) := by
  unfold fX5_pack
  repeat' (first | with_reducible exact Ct.ret | with_reducible exact Ct.lp3 (fun rc hr v0 v1 v2 σ => cm_fX5_pack_l29 hr) _ _ _ _ _ | with_reducible refine Ct.br ?_ ?_ | with_reducible refine Ct.al ?_ | with_reducible refine Ct.cv cm_fX5_partTexts (fun _ => ?_) | with_reducible refine Ct.cv cm_fX5_growTree (fun _ => ?_) | with_reducible refine Ct.cv cm_fX0_spread (fun _ => ?_) | with_reducible refine Ct.ca cm_fX0_size (fun _ _ => ?_) | with_reducible refine Ct.nd ?_)
set_option maxHeartbeats 1000000 in
theorem cm_fX11_tree {N : Nat} {x1 : Int32} {σ : St} : Ct (fun Q => fX11_tree N x1 Q σ) := by
  unfold fX11_tree
  repeat' (first | with_reducible exact Ct.ret | with_reducible refine Ct.br ?_ ?_ | with_reducible refine Ct.al ?_ | with_reducible refine Ct.ca cm_fX5_pack (fun _ _ => ?_) | with_reducible refine Ct.nd ?_)
set_option maxHeartbeats 1000000 in
theorem cm_fX11_laid {N : Nat} {x1 : Int32} {x2 : Int32} {σ : St} : Ct (fun Q => fX11_laid N x1 x2 Q σ) := by
  unfold fX11_laid
  repeat' (first | with_reducible exact Ct.ret | with_reducible refine Ct.br ?_ ?_ | with_reducible refine Ct.al ?_ | with_reducible refine Ct.ca cm_fX6_part (fun _ _ => ?_) | with_reducible refine Ct.nd ?_)
set_option maxHeartbeats 1000000 in
theorem cm_fX11_bits {N : Nat} {x1 : Int32} {σ : St} : Ct (fun Q => fX11_bits N x1 Q σ) := by
  unfold fX11_bits
  repeat' (first | with_reducible exact Ct.ret | with_reducible refine Ct.br ?_ ?_ | with_reducible refine Ct.al ?_ | with_reducible refine Ct.nd ?_)
set_option maxHeartbeats 1000000 in
theorem cm_fX11_forget {N : Nat} {σ : St} : Ct (fun Q => fX11_forget N Q σ) := by
  unfold fX11_forget
  repeat' (first | with_reducible exact Ct.ret | with_reducible refine Ct.br ?_ ?_ | with_reducible refine Ct.al ?_ | with_reducible refine Ct.nd ?_)
