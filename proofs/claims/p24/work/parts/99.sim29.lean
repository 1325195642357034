section SIM29
/-- frames: what runs from a state of F ends in F -/
def M0 (F : St → Prop) (f : (St → Prop) → Prop) : Prop := ∀ P P' : St → Prop, (∀ τ : St, F τ → P τ → P' τ) → f P → f P'
def Mt {A : Type} (F : St → Prop) (f : (A → St → Prop) → Prop) : Prop := ∀ P P' : A → St → Prop, (∀ (r : A) (τ : St), F τ → P r τ → P' r τ) → f P → f P'
variable {A B : Type} {F : St → Prop} {σ : St} {c p : Prop}
theorem Mt.ret {r : A} (h : F σ) : Mt F (fun Q => Q r σ) := fun _ _ k q => k r σ h q
theorem M0.ret (h : F σ) : M0 F (fun Q => Q σ) := fun _ _ k q => k σ h q
theorem Mt.br {f g : (A → St → Prop) → Prop} (hf : Mt F f) (hg : Mt F g) : Mt F (fun Q => (c → f Q) ∧ (¬ c → g Q)) := fun P P' k q => ⟨fun w => hf P P' k (q.1 w), fun w => hg P P' k (q.2 w)⟩
theorem M0.br {f g : (St → Prop) → Prop} (hf : M0 F f) (hg : M0 F g) : M0 F (fun Q => (c → f Q) ∧ (¬ c → g Q)) := fun P P' k q => ⟨fun w => hf P P' k (q.1 w), fun w => hg P P' k (q.2 w)⟩
theorem Mt.nd {f : (A → St → Prop) → Prop} (hf : Mt F f) : Mt F (fun Q => p ∧ f Q) := fun P P' k q => ⟨q.1, hf P P' k q.2⟩
theorem M0.nd {f : (St → Prop) → Prop} (hf : M0 F f) : M0 F (fun Q => p ∧ f Q) := fun P P' k q => ⟨q.1, hf P P' k q.2⟩
theorem Mt.al {e : B} {f : B → (A → St → Prop) → Prop} (hf : Mt F (f e)) : Mt F (fun Q => ∀ v : B, v = e → f v Q) := fun P P' k q v ev => by rw [ev]; exact hf P P' k (q e rfl)
theorem M0.al {e : B} {f : B → (St → Prop) → Prop} (hf : M0 F (f e)) : M0 F (fun Q => ∀ v : B, v = e → f v Q) := fun P P' k q v ev => by rw [ev]; exact hf P P' k (q e rfl)
theorem Mt.ca {f : (B → St → Prop) → Prop} {k : B → St → (A → St → Prop) → Prop} (hf : Mt F f) (hk : ∀ (r : B) (τ : St), F τ → Mt F (k r τ)) : Mt F (fun Q => f (fun r τ => k r τ Q)) := fun P P' w q => hf _ _ (fun r τ hF z => hk r τ hF P P' w z) q
theorem M0.ca {f : (B → St → Prop) → Prop} {k : B → St → (St → Prop) → Prop} (hf : Mt F f) (hk : ∀ (r : B) (τ : St), F τ → M0 F (k r τ)) : M0 F (fun Q => f (fun r τ => k r τ Q)) := fun P P' w q => hf _ _ (fun r τ hF z => hk r τ hF P P' w z) q
theorem Mt.cv {f : (St → Prop) → Prop} {k : St → (A → St → Prop) → Prop} (hf : M0 F f) (hk : ∀ τ : St, F τ → Mt F (k τ)) : Mt F (fun Q => f (fun τ => k τ Q)) := fun P P' w q => hf _ _ (fun τ hF z => hk τ hF P P' w z) q
theorem M0.cv {f : (St → Prop) → Prop} {k : St → (St → Prop) → Prop} (hf : M0 F f) (hk : ∀ τ : St, F τ → M0 F (k τ)) : M0 F (fun Q => f (fun τ => k τ Q)) := fun P P' w q => hf _ _ (fun τ hF z => hk τ hF P P' w z) q
theorem Mt.lp1 {T : Type} {body : (A → St → Prop) → (T → St → Prop) → T → St → Prop} (h : ∀ rc : (A → St → Prop) → T → St → Prop, (∀ (x : T) (σ : St), F σ → Mt F (fun Q => rc Q x σ)) → ∀ (x : T) (σ : St), F σ → Mt F (fun Q => body Q (rc Q) x σ)) : ∀ (n : Nat) (x : T) (σ : St), F σ → Mt F (fun Q => lo1 (body Q) n x σ) := by
  intro n
  induction n with
  | zero => intro x σ _ P P' k hP; exact hP.elim
  | succ n ih => intro x σ hF; exact h (fun Q => lo1 (body Q) n) ih x σ hF
theorem M0.lp1 {T : Type} {body : (St → Prop) → (T → St → Prop) → T → St → Prop} (h : ∀ rc : (St → Prop) → T → St → Prop, (∀ (x : T) (σ : St), F σ → M0 F (fun Q => rc Q x σ)) → ∀ (x : T) (σ : St), F σ → M0 F (fun Q => body Q (rc Q) x σ)) : ∀ (n : Nat) (x : T) (σ : St), F σ → M0 F (fun Q => lo1 (body Q) n x σ) := by
  intro n
  induction n with
  | zero => intro x σ _ P P' k hP; exact hP.elim
  | succ n ih => intro x σ hF; exact h (fun Q => lo1 (body Q) n) ih x σ hF
end SIM29
section SIM29b
variable {N : Nat} {F : St → Prop} {σ : St} {x : Int32}
theorem mk_byteOf (h : F σ) : Mt F (fun Q => fX3_byteOf N x Q σ) := Mt.br (Mt.ret h) (Mt.br (Mt.ret h) (Mt.nd (Mt.ret h)))
theorem mk_has (h : F σ) : Mt F (fun Q => fX3_has N x Q σ) := Mt.br (Mt.ret h) (Mt.br (Mt.ret h) (Mt.ret h))
theorem mk_fourOf (h : F σ) : Mt F (fun Q => fX3_fourOf N x Q σ) := Mt.br (Mt.ret h) (Mt.br (Mt.nd (Mt.nd (Mt.nd (Mt.nd (Mt.ret h))))) (Mt.ret h))
theorem mk_hasEndOfBytes (h : F σ) : Mt F (fun Q => fX8_hasEndOfBytes N x Q σ) :=
  Mt.lp1 (body := fun Q => fX8_hasEndOfBytes_l2 N Q) (fun rc hr y τ hF => Mt.br (Mt.ret hF) (Mt.ca (mk_byteOf hF) (fun r τ2 h2 => Mt.br (Mt.ret h2) (Mt.al (hr _ _ h2))))) N x σ h
theorem mk_hasEndOfFours (h : F σ) : Mt F (fun Q => fX8_hasEndOfFours N x Q σ) :=
  Mt.lp1 (body := fun Q => fX8_hasEndOfFours_l2 N Q) (fun rc hr y τ hF => Mt.br (Mt.ret hF) (Mt.ca (mk_fourOf hF) (fun r τ2 h2 => Mt.br (Mt.ret h2) (Mt.al (hr _ _ h2))))) N x σ h
theorem mk_argumentBytes (h : F σ) : Mt F (fun Q => fX8_argumentBytes N x Q σ) := Mt.ca (mk_fourOf h) (fun r τ hF => Mt.br (Mt.ret hF) (Mt.br (Mt.ret hF) (Mt.ret hF)))
theorem mk_isWhole (h : F σ) : Mt F (fun Q => fX8_isWhole N x Q σ) := by
  have j109 : ∀ (y : Int32) (τ : St), F τ → Mt F (fun Q => fX8_isWhole_j109 N y Q τ) := fun y τ hF => Mt.br (Mt.ret hF) (Mt.ret hF)
  have j128 : ∀ (y : Int32) (τ : St), F τ → Mt F (fun Q => fX8_isWhole_j128 N x y Q τ) := fun y τ hF => Mt.ca (mk_argumentBytes hF) (fun r τ2 h2 => Mt.br (Mt.ret h2) (Mt.ret h2))
  unfold fX8_isWhole
  exact Mt.al (Mt.ca (mk_byteOf h) (fun r τ hF => Mt.br (Mt.br (Mt.ret hF) (Mt.ret hF)) (Mt.br (Mt.ret hF) (Mt.br (Mt.br (Mt.ret hF) (Mt.ret hF)) (Mt.br (Mt.ca (mk_hasEndOfBytes hF) (fun r2 τ2 h2 => Mt.nd (Mt.ret h2))) (Mt.br (j109 _ _ hF) (Mt.br (Mt.ca (mk_hasEndOfFours hF) (fun r2 τ2 h2 => Mt.nd (Mt.ret h2))) (Mt.br (j109 _ _ hF) (Mt.br (j109 _ _ hF) (Mt.br (j128 _ _ hF) (Mt.br (j128 _ _ hF) (Mt.ret hF))))))))))))
end SIM29b
section SIM29c
variable {N : Nat} {σ0 σ : St} {x : Int32}
/-- the counting of nodes changes these cells alone -/
def Fc (σ0 τ : St) : Prop := ∀ c i : Nat, ¬ (c = 13 ∨ c = 14 ∨ (c = 2 ∧ (i = 3 ∨ i = 4 ∨ i = 7))) → τ.1 c i = σ0.1 c i
theorem Fc.u (h : Fc σ0 σ) {k j : Nat} {v : Int32} (hk : k = 13 ∨ k = 14 ∨ (k = 2 ∧ (j = 3 ∨ j = 4 ∨ j = 7))) : Fc σ0 (u1 σ k j v) := fun c i q => (u1e (by omega)).trans (h c i q)
theorem mk_find (h : Fc σ0 σ) : M0 (Fc σ0) (fun Q => fX8_find N x Q σ) := by
  unfold fX8_find
  refine M0.br (M0.ret h) (M0.br (M0.ret h) (M0.ca (mk_has h) (fun r τ hF => M0.br (M0.ret hF) (M0.nd (M0.br (M0.ret hF) (M0.al (M0.nd (M0.al ?_))))))))
  refine M0.ca (mk_isWhole (hF.u (by omega))) (fun r2 τ2 h2 => M0.br (M0.ret h2) (M0.br (M0.ret h2) (M0.nd (M0.al (M0.al (M0.al (M0.ret ?_)))))))
  exact (h2.u (by omega)).u (by omega)
theorem mk_cachedNodes (h : Fc σ0 σ) : Mt (Fc σ0) (fun Q => fX8_cachedNodes N Q σ) := by
  have j96 : ∀ (rc : (Int32 → St → Prop) → Int32 → St → Prop), (∀ (x : Int32) (σ : St), Fc σ0 σ → Mt (Fc σ0) (fun Q => rc Q x σ)) → ∀ (y : Int32) (τ : St), Fc σ0 τ → Mt (Fc σ0) (fun Q => fX8_countNodes_j96 N (rc Q) y Q τ) := fun rc hr y τ hF => Mt.al (hr _ _ hF)
  have j102 : ∀ (τ : St), Fc σ0 τ → Mt (Fc σ0) (fun Q => fX8_countNodes_j102 N Q τ) := fun τ hF => Mt.ret hF
  have l35 : ∀ (y : Int32) (τ : St), Fc σ0 τ → Mt (Fc σ0) (fun Q => lo1 (fX8_countNodes_l35 N Q) N y τ) := by
    intro y τ hF
    refine Mt.lp1 (body := fun Q => fX8_countNodes_l35 N Q) (fun rc hr z τ2 h2 => ?_) N y τ hF
    refine Mt.br (j102 _ h2) (Mt.br (j102 _ h2) (Mt.nd (Mt.al (Mt.ca (mk_byteOf h2) (fun r τ3 h3 => Mt.br ?_ (j96 rc hr _ _ h3))))))
    exact Mt.ca (mk_fourOf h3) (fun r4 τ4 h4 => Mt.cv (mk_find h4) (fun τ5 h5 => Mt.ca (mk_fourOf h5) (fun r6 τ6 h6 => Mt.cv (mk_find h6) (fun τ7 h7 => j96 rc hr _ _ h7))))
  have cn : Mt (Fc σ0) (fun Q => fX8_countNodes N Q σ) := by
    unfold fX8_countNodes
    exact Mt.al (Mt.al (Mt.al (Mt.ca (mk_fourOf ((h.u (by omega)).u (by omega))) (fun r τ hF => Mt.cv (mk_find hF) (fun τ2 h2 => l35 _ _ h2)))))
  unfold fX8_cachedNodes
  exact Mt.br (Mt.ca cn (fun r τ hF => Mt.al (Mt.ret (hF.u (by omega))))) (Mt.ret h)
end SIM29c
