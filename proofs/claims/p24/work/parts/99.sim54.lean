section SIM54
variable {N : Nat} {b : St}
theorem Mt.lp2 {A T U : Type} {F : St → Prop} {body : (A → St → Prop) → (T → U → St → Prop) → T → U → St → Prop} (h : ∀ rc : (A → St → Prop) → T → U → St → Prop, (∀ (x : T) (y : U) (σ : St), F σ → Mt F (fun Q => rc Q x y σ)) → ∀ (x : T) (y : U) (σ : St), F σ → Mt F (fun Q => body Q (rc Q) x y σ)) : ∀ (n : Nat) (x : T) (y : U) (σ : St), F σ → Mt F (fun Q => lo2 (body Q) n x y σ) := by
  intro n
  induction n with
  | zero => intro x y σ _ P P' k hP; exact hP.elim
  | succ n ih => intro x y σ hF; exact h (fun Q => lo2 (body Q) n) ih x y σ hF
/-- what the joining changes -/
def Wj (c i : Nat) : Prop := (24 ≤ c ∧ c ≤ 33) ∨ c = 36 ∨ c = 37 ∨ (c = 0 ∧ (i = 50 ∨ i = 51))
def Fj (b τ : St) : Prop := ∀ c i : Nat, ¬ Wj c i → τ.1 c i = b.1 c i
theorem Fj.u {τ : St} (h : Fj b τ) {k j : Nat} {v : Int32} (hk : Wj k j) : Fj b (u1 τ k j v) := fun c i q => (u1e (fun z => q (by rw [z.1, z.2]; exact hk))).trans (h c i q)
theorem mk_leaf {x y z : Int32} {σ : St} (h : Fj b σ) : M0 (Fj b) (fun Q => fX12_leaf N x y z Q σ) :=
  M0.nd (M0.al (M0.nd (M0.al (M0.nd (M0.al (M0.nd (M0.al (M0.nd (M0.al (M0.al (M0.al (M0.ret ((((((h.u (by unfold Wj; omega)).u (by unfold Wj; omega)).u (by unfold Wj; omega)).u (by unfold Wj; omega)).u (by unfold Wj; omega)).u (by unfold Wj; omega))))))))))))))
theorem mk_least {σ : St} (h : Fj b σ) : Mt (Fj b) (fun Q => fX12_least N Q σ) := by
  unfold fX12_least
  refine Mt.lp2 (body := fun Q => fX12_least_l4 N Q) (fun rc hr x y τ hF => ?_) N _ _ σ h
  have j42 : ∀ x y : Int32, Mt (Fj b) (fun Q => fX12_least_j42 N (rc Q) x y Q τ) := fun x y => Mt.al (hr _ _ _ hF)
  have j40 : ∀ y : Int32, Mt (Fj b) (fun Q => fX12_least_j40 N (rc Q) y Q τ) := fun y => j42 y y
  exact Mt.br (Mt.nd (Mt.al (Mt.ret (hF.u (by unfold Wj; omega))))) (Mt.nd (Mt.br (j42 _ _) (Mt.br (j40 _) (Mt.nd (Mt.nd (Mt.br (j42 _ _) (j40 _)))))))
theorem mk_sizeOf {F : St → Prop} {x : Int32} {σ : St} (h : F σ) : Mt F (fun Q => fX12_sizeOf N x Q σ) := Mt.nd (Mt.al (Mt.nd (Mt.al (Mt.br (Mt.ret h) (Mt.br (Mt.ret h) (Mt.br (Mt.ret h) (Mt.ret h)))))))
theorem mk_signOf {F : St → Prop} {x y : Int32} {σ : St} (h : F σ) : Mt F (fun Q => fX12_signOf N x y Q σ) := Mt.nd (Mt.br (Mt.nd (Mt.ret h)) (Mt.ret h))
theorem mk_parted {x1 x2 : Int32} {σ : St} (h : Fj b σ) : Mt (Fj b) (fun Q => fX12_parted N x1 x2 Q σ) := by
  have l251 : ∀ (u w : Int32) (σ : St), Fj b σ → Mt (Fj b) (fun Q => lo2 (fX12_parted_l251 N Q) N u w σ) := fun u w σ hF => Mt.lp2 (body := fun Q => fX12_parted_l251 N Q) (fun rc hr x y σ hF => Mt.nd (Mt.br (Mt.nd (Mt.ret hF)) (Mt.nd (Mt.al (Mt.nd (Mt.al (Mt.nd (Mt.nd (Mt.al (Mt.al (hr _ _ _ (hF.u (by unfold Wj; omega)))))))))))) ) N u w σ hF
  unfold fX12_parted
  refine Mt.nd (Mt.al (Mt.al ?_))
  refine Mt.lp1 (body := fun Q => fX12_parted_l11 N x1 x2 Q) (fun r11 h11 x3 σ hF => ?_) N _ _ (h.u (by unfold Wj; omega))
  refine Mt.br (Mt.nd (Mt.br (Mt.ret hF) (l251 _ _ _ hF))) (Mt.nd (Mt.al ?_))
  refine Mt.lp1 (body := fun Q => fX12_parted_l27 N (r11 Q) x1 x2 x3 Q) (fun r27 h27 x4 σ hF => ?_) N _ _ (hF.u (by unfold Wj; omega))
  have j220 : ∀ (σ : St), Fj b σ → Mt (Fj b) (fun Q => fX12_parted_j220 N (r27 Q) (r11 Q) x1 x2 x3 x4 Q σ) := fun σ hF => Mt.al (h27 _ _ hF)
  have j204 : ∀ (x7 : Int32) (σ : St), Fj b σ → Mt (Fj b) (fun Q => fX12_parted_j204 N (r27 Q) (r11 Q) x1 x2 x3 x4 x7 Q σ) := fun x7 σ hF => Mt.nd (Mt.al (Mt.nd (Mt.al (j220 _ ((hF.u (by unfold Wj; omega)).u (by unfold Wj; omega))))))
  have j148 : ∀ (x5 x6 : Int32) (σ : St), Fj b σ → Mt (Fj b) (fun Q => fX12_parted_j148 N (r27 Q) (r11 Q) x1 x2 x3 x4 x5 x6 Q σ) := fun x5 x6 σ hF => Mt.br (j220 _ hF) (Mt.nd (Mt.al (Mt.nd (Mt.br (j204 _ _ hF) (Mt.nd (Mt.br (Mt.nd (Mt.nd (Mt.br (j220 _ hF) (j204 _ _ hF)))) (j220 _ hF)))))))
  have j73 : ∀ (x5 t0 : Int32) (σ : St), Fj b σ → Mt (Fj b) (fun Q => fX12_parted_j73 N (r27 Q) (r11 Q) x1 x2 x3 x4 x5 t0 Q σ) := by
    intro x5 t0 σ hF
    refine Mt.lp2 (body := fun Q => fX12_parted_l78 N (r27 Q) (r11 Q) x1 x2 x3 x4 x5 Q) (fun r78 h78 x6 x7 σ hF => ?_) N _ _ σ hF
    have j140 : ∀ (t0 : Int32) (σ : St), Fj b σ → Mt (Fj b) (fun Q => fX12_parted_j140 N (r78 Q) (r27 Q) (r11 Q) x1 x2 x3 x4 x5 x7 t0 Q σ) := fun t0 σ hF => Mt.al (h78 _ _ _ hF)
    have j120 : ∀ (t0 : Int32) (σ : St), Fj b σ → Mt (Fj b) (fun Q => fX12_parted_j120 N (r78 Q) (r27 Q) (r11 Q) x1 x2 x3 x4 x5 x7 t0 Q σ) := fun t0 σ hF => Mt.ca (mk_signOf hF) (fun r τ hτ => Mt.br (j140 _ _ hτ) (j140 _ _ hτ))
    exact Mt.br (j148 _ _ _ hF) (Mt.br (j148 _ _ _ hF) (Mt.br (Mt.nd (j120 _ _ hF)) (Mt.nd (j120 _ _ hF))))
  exact Mt.br (Mt.al (h11 _ _ hF)) (Mt.nd (Mt.al (Mt.br (j73 _ _ _ hF) (Mt.nd (Mt.br (j73 _ _ _ hF) (j73 _ _ _ hF))))))
theorem mk_join {σ : St} (h : Fj b σ) : M0 (Fj b) (fun Q => fX12_join N Q σ) := by
  have w : ∀ {k j : Nat}, 24 ≤ k → k ≤ 33 → Wj k j := fun h1 h2 => Or.inl ⟨h1, h2⟩
  have l155 : ∀ (u : Int32) (σ : St), Fj b σ → M0 (Fj b) (fun Q => lo1 (fX12_join_l155 N Q) N u σ) := by
    intro u σ hF
    refine M0.lp1 (body := fun Q => fX12_join_l155 N Q) (fun rc hr x σ hF => ?_) N u σ hF
    refine M0.br (M0.ret hF) (M0.ca (mk_least hF) (fun r τ hτ => M0.ca (mk_least hτ) (fun r2 τ2 h2 => ?_)))
    refine M0.nd (M0.al (M0.nd (M0.al (M0.al (M0.nd (M0.al (M0.al (M0.nd (M0.al (M0.nd (M0.nd (M0.nd (M0.nd ?_)))))))))))))
    exact M0.cv (mk_leaf ((((h2.u (w (by decide) (by decide))).u (w (by decide) (by decide))).u (w (by decide) (by decide))).u (w (by decide) (by decide)))) (fun τ3 h3 => M0.al (hr _ _ h3))
  have l96 : ∀ (u : Int32) (σ : St), Fj b σ → M0 (Fj b) (fun Q => lo1 (fX12_join_l96 N Q) N u σ) := by
    intro u σ hF
    refine M0.lp1 (body := fun Q => fX12_join_l96 N Q) (fun rc hr x σ hF => ?_) N u σ hF
    have j139 : ∀ σ : St, Fj b σ → M0 (Fj b) (fun Q => fX12_join_j139 N (rc Q) x Q σ) := fun σ hF => M0.al (hr _ _ hF)
    exact M0.br (M0.al (M0.al (l155 _ _ (hF.u (by unfold Wj; omega))))) (M0.nd (M0.br (j139 _ hF) (M0.al (M0.nd (M0.al (M0.nd (M0.ca (mk_sizeOf (hF.u (by unfold Wj; omega))) (fun r τ hτ => M0.cv (mk_leaf hτ) (fun τ2 h2 => j139 _ h2)))))))))
  have l40 : ∀ (u : Int32) (σ : St), Fj b σ → M0 (Fj b) (fun Q => lo1 (fX12_join_l40 N Q) N u σ) := by
    intro u σ hF
    refine M0.lp1 (body := fun Q => fX12_join_l40 N Q) (fun r40 h40 x σ hF => ?_) N u σ hF
    refine M0.br (l96 _ _ hF) (M0.nd (M0.ca (mk_parted hF) (fun r τ hτ => ?_)))
    exact M0.lp1 (body := fun Q => fX12_join_l62 N (r40 Q) x r Q) (fun rc hr y σ hF => M0.br (M0.al (h40 _ _ hF)) (M0.nd (M0.nd (M0.al (M0.nd (M0.al (M0.al (hr _ _ (hF.u (by unfold Wj; omega)))))))))) N _ _ hτ
  have l17 : ∀ (u : Int32) (σ : St), Fj b σ → M0 (Fj b) (fun Q => lo1 (fX12_join_l17 N Q) N u σ) := fun u σ hF => M0.lp1 (body := fun Q => fX12_join_l17 N Q) (fun rc hr x σ hF => M0.br (l40 _ _ hF) (M0.nd (M0.al (M0.al (hr _ _ (hF.u (by unfold Wj; omega))))))) N u σ hF
  unfold fX12_join
  exact M0.al (M0.cv (mk_leaf (h.u (by unfold Wj; omega))) (fun τ hτ => l17 _ _ hτ))
end SIM54
