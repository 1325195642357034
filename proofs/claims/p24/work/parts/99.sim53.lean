section SIM53
variable {N : Nat} {b : St}
theorem Dt.lp3 {A T U V : Type} {body : (A → St → Prop) → (T → U → V → St → Prop) → T → U → V → St → Prop} (h : ∀ rc : (A → St → Prop) → T → U → V → St → Prop, (∀ (x : T) (y : U) (z : V) (σ : St), Dt (fun Q => rc Q x y z σ)) → ∀ (x : T) (y : U) (z : V) (σ : St), Dt (fun Q => body Q (rc Q) x y z σ)) : ∀ (n : Nat) (x : T) (y : U) (z : V) (σ : St), Dt (fun Q => lo3 (body Q) n x y z σ) := by
  intro n
  induction n with
  | zero => intro x y z σ P hP; exact hP.elim
  | succ n ih => intro x y z σ; exact h (fun Q => lo3 (body Q) n) ih x y z σ
theorem dt_tell {x v : Int32} {σ : St} : D0 (fun Q => fX12_tell N x v Q σ) := D0.al (D0.nd (D0.al (D0.br D0.ret (D0.br D0.ret (D0.br D0.ret (D0.al D0.ret))))))
theorem dt_tellFour {x v : Int32} {σ : St} : D0 (fun Q => fX12_tellFour N x v Q σ) :=
  D0.lp1 (body := fun Q => fX12_tellFour_l2 N x v Q) (fun rc hr y τ => D0.br D0.ret (D0.cv dt_tell (fun υ => D0.al (hr _ _)))) N 0 σ
theorem dt_leaf {x y z : Int32} {σ : St} : D0 (fun Q => fX12_leaf N x y z Q σ) := D0.nd (D0.al (D0.nd (D0.al (D0.nd (D0.al (D0.nd (D0.al (D0.nd (D0.al (D0.al (D0.al D0.ret)))))))))))
theorem dt_least {σ : St} : Dt (fun Q => fX12_least N Q σ) := by
  unfold fX12_least
  refine Dt.lp2 (body := fun Q => fX12_least_l4 N Q) (fun rc hr x y τ => ?_) N _ _ σ
  have j42 : ∀ x y : Int32, Dt (fun Q => fX12_least_j42 N (rc Q) x y Q τ) := fun x y => Dt.al (hr _ _ _)
  have j40 : ∀ y : Int32, Dt (fun Q => fX12_least_j40 N (rc Q) y Q τ) := fun y => j42 y y
  exact Dt.br (Dt.nd (Dt.al Dt.ret)) (Dt.nd (Dt.br (j42 _ _) (Dt.br (j40 _) (Dt.nd (Dt.nd (Dt.br (j42 _ _) (j40 _)))))))
theorem dt_sizeOf {x : Int32} {σ : St} : Dt (fun Q => fX12_sizeOf N x Q σ) := Dt.nd (Dt.al (Dt.nd (Dt.al (Dt.br Dt.ret (Dt.br Dt.ret (Dt.br Dt.ret Dt.ret))))))
theorem dt_signOf {x y : Int32} {σ : St} : Dt (fun Q => fX12_signOf N x y Q σ) := Dt.nd (Dt.br (Dt.nd Dt.ret) Dt.ret)
theorem dt_parted {x1 x2 : Int32} {σ : St} : Dt (fun Q => fX12_parted N x1 x2 Q σ) := by
  have l251 : ∀ (u w : Int32) (σ : St), Dt (fun Q => lo2 (fX12_parted_l251 N Q) N u w σ) := fun u w σ => Dt.lp2 (body := fun Q => fX12_parted_l251 N Q) (fun rc hr x y σ => Dt.nd (Dt.br (Dt.nd Dt.ret) (Dt.nd (Dt.al (Dt.nd (Dt.al (Dt.nd (Dt.nd (Dt.al (Dt.al (hr _ _ _))))))))))) N u w σ
  unfold fX12_parted
  refine Dt.nd (Dt.al (Dt.al ?_))
  refine Dt.lp1 (body := fun Q => fX12_parted_l11 N x1 x2 Q) (fun r11 h11 x3 σ => ?_) N _ _
  refine Dt.br (Dt.nd (Dt.br Dt.ret (l251 _ _ _))) (Dt.nd (Dt.al ?_))
  refine Dt.lp1 (body := fun Q => fX12_parted_l27 N (r11 Q) x1 x2 x3 Q) (fun r27 h27 x4 σ => ?_) N _ _
  have j220 : ∀ (σ : St), Dt (fun Q => fX12_parted_j220 N (r27 Q) (r11 Q) x1 x2 x3 x4 Q σ) := fun σ => Dt.al (h27 _ _)
  have j204 : ∀ (x7 : Int32) (σ : St), Dt (fun Q => fX12_parted_j204 N (r27 Q) (r11 Q) x1 x2 x3 x4 x7 Q σ) := fun x7 σ => Dt.nd (Dt.al (Dt.nd (Dt.al (j220 _))))
  have j148 : ∀ (x5 x6 : Int32) (σ : St), Dt (fun Q => fX12_parted_j148 N (r27 Q) (r11 Q) x1 x2 x3 x4 x5 x6 Q σ) := fun x5 x6 σ => Dt.br (j220 _) (Dt.nd (Dt.al (Dt.nd (Dt.br (j204 _ _) (Dt.nd (Dt.br (Dt.nd (Dt.nd (Dt.br (j220 _) (j204 _ _)))) (j220 _)))))))
  have j73 : ∀ (x5 t0 : Int32) (σ : St), Dt (fun Q => fX12_parted_j73 N (r27 Q) (r11 Q) x1 x2 x3 x4 x5 t0 Q σ) := by
    intro x5 t0 σ
    refine Dt.lp2 (body := fun Q => fX12_parted_l78 N (r27 Q) (r11 Q) x1 x2 x3 x4 x5 Q) (fun r78 h78 x6 x7 σ => ?_) N _ _ σ
    have j140 : ∀ (t0 : Int32) (σ : St), Dt (fun Q => fX12_parted_j140 N (r78 Q) (r27 Q) (r11 Q) x1 x2 x3 x4 x5 x7 t0 Q σ) := fun t0 σ => Dt.al (h78 _ _ _)
    have j120 : ∀ (t0 : Int32) (σ : St), Dt (fun Q => fX12_parted_j120 N (r78 Q) (r27 Q) (r11 Q) x1 x2 x3 x4 x5 x7 t0 Q σ) := fun t0 σ => Dt.ca dt_signOf (fun r τ => Dt.br (j140 _ _) (j140 _ _))
    exact Dt.br (j148 _ _ _) (Dt.br (j148 _ _ _) (Dt.br (Dt.nd (j120 _ _)) (Dt.nd (j120 _ _))))
  exact Dt.br (Dt.al (h11 _ _)) (Dt.nd (Dt.al (Dt.br (j73 _ _ _) (Dt.nd (Dt.br (j73 _ _ _) (j73 _ _ _))))))
theorem dt_join {σ : St} : D0 (fun Q => fX12_join N Q σ) := by
  have l155 : ∀ (u : Int32) (σ : St), D0 (fun Q => lo1 (fX12_join_l155 N Q) N u σ) := fun u σ => D0.lp1 (body := fun Q => fX12_join_l155 N Q) (fun rc hr x σ => D0.br D0.ret (D0.ca dt_least (fun r τ => D0.ca dt_least (fun r2 τ2 => D0.nd (D0.al (D0.nd (D0.al (D0.al (D0.nd (D0.al (D0.al (D0.nd (D0.al (D0.nd (D0.nd (D0.nd (D0.nd (D0.cv dt_leaf (fun τ3 => D0.al (hr _ _)))))))))))))))))))) N u σ
  have l96 : ∀ (u : Int32) (σ : St), D0 (fun Q => lo1 (fX12_join_l96 N Q) N u σ) := by
    intro u σ
    refine D0.lp1 (body := fun Q => fX12_join_l96 N Q) (fun rc hr x σ => ?_) N u σ
    have j139 : ∀ σ : St, D0 (fun Q => fX12_join_j139 N (rc Q) x Q σ) := fun σ => D0.al (hr _ _)
    exact D0.br (D0.al (D0.al (l155 _ _))) (D0.nd (D0.br (j139 _) (D0.al (D0.nd (D0.al (D0.nd (D0.ca dt_sizeOf (fun r τ => D0.cv dt_leaf (fun τ2 => j139 _)))))))))
  have l40 : ∀ (u : Int32) (σ : St), D0 (fun Q => lo1 (fX12_join_l40 N Q) N u σ) := by
    intro u σ
    refine D0.lp1 (body := fun Q => fX12_join_l40 N Q) (fun r40 h40 x σ => ?_) N u σ
    refine D0.br (l96 _ _) (D0.nd (D0.ca dt_parted (fun r τ => ?_)))
    exact D0.lp1 (body := fun Q => fX12_join_l62 N (r40 Q) x r Q) (fun rc hr y σ => D0.br (D0.al (h40 _ _)) (D0.nd (D0.nd (D0.al (D0.nd (D0.al (D0.al (hr _ _)))))))) N _ _
  have l17 : ∀ (u : Int32) (σ : St), D0 (fun Q => lo1 (fX12_join_l17 N Q) N u σ) := fun u σ => D0.lp1 (body := fun Q => fX12_join_l17 N Q) (fun rc hr x σ => D0.br (l40 _ _) (D0.nd (D0.al (D0.al (hr _ _))))) N u σ
  unfold fX12_join
  exact D0.al (D0.cv dt_leaf (fun τ => l17 _ _))
theorem dt_places {x : Int32} {σ : St} : D0 (fun Q => fX12_places N x Q σ) := by
  unfold fX12_places
  refine D0.nd (D0.al (D0.nd (D0.al (D0.al ?_))))
  exact D0.lp1 (body := fun Q => fX12_places_l31 N Q) (fun rc hr y σ => D0.br D0.ret (D0.nd (D0.nd (D0.al (D0.nd (D0.al (D0.nd (D0.nd (D0.nd (D0.nd (D0.al (D0.nd (D0.al (D0.nd (D0.nd (D0.al (D0.nd (D0.al (D0.nd (D0.nd (D0.al (D0.nd (D0.al (D0.al (hr _ _))))))))))))))))))))))))) N _ _
theorem dt_lay {x : Int32} {σ : St} : D0 (fun Q => fX12_lay N x Q σ) := by
  have j101 : ∀ (x2 x3 t0 : Int32) (σ : St), D0 (fun Q => fX12_lay_j101 N x2 x3 t0 Q σ) := by
    intro x2 x3 t0 σ
    refine D0.nd (D0.cv dt_tell (fun τ => D0.al ?_))
    have j208 : ∀ (x2 : Int32) (σ : St), D0 (fun Q => fX12_lay_j208 N x2 x3 Q σ) := fun x2 σ => D0.nd (D0.br (D0.cv dt_tellFour (fun τ => D0.ret)) D0.ret)
    refine D0.lp2 (body := fun Q => fX12_lay_l120 N x3 t0 Q) (fun rc hr y z σ => ?_) N _ _ τ
    have j184 : ∀ (t0' t1 : Int32) (σ : St), D0 (fun Q => fX12_lay_j184 N (rc Q) x3 t0 z t0' t1 Q σ) := fun t0' t1 σ => D0.al (D0.al (hr _ _ _))
    have j173 : ∀ (σ : St), D0 (fun Q => fX12_lay_j173 N (rc Q) y x3 t0 z Q σ) := fun σ => D0.br (j184 _ _ _) (j184 _ _ _)
    exact D0.nd (D0.br (D0.nd (D0.br (D0.cv dt_tell (fun τ => j208 _ _)) (j208 _ _))) (D0.br (D0.nd (D0.cv dt_tellFour (fun τ => j173 _))) (D0.nd (D0.cv dt_tell (fun τ => j173 _)))))
  unfold fX12_lay
  exact D0.nd (D0.al (D0.br (D0.nd (D0.br (D0.cv dt_tell (fun τ => D0.ret)) (D0.nd (D0.al (D0.nd (D0.br (j101 _ _ _ _) (j101 _ _ _ _))))))) (D0.cv dt_tell (fun τ => D0.nd (D0.nd (D0.cv dt_tellFour (fun τ2 => D0.nd (D0.nd (D0.cv dt_tellFour (fun τ3 => D0.ret))))))))))
theorem dt_way {x1 : Int32} {σ : St} : D0 (fun Q => fX12_way_ N x1 Q σ) := by
  unfold fX12_way_
  refine D0.lp1 (body := fun Q => fX12_way__l2 N x1 Q) (fun r2 h2 x2 σ => ?_) N _ σ
  refine D0.nd (D0.br D0.ret ?_)
  refine D0.lp1 (body := fun Q => fX12_way__l14 N (r2 Q) x1 x2 Q) (fun r14 h14 x3 σ => ?_) N _ _
  have j131 : ∀ (σ : St), D0 (fun Q => fX12_way__j131 N (r2 Q) x1 x2 Q σ) := fun σ => D0.al (h2 _ _)
  have j70 : ∀ (t0 : Int32) (σ : St), D0 (fun Q => fX12_way__j70 N (r2 Q) x1 x2 t0 Q σ) := fun t0 σ => D0.nd (D0.cv dt_tell (fun τ => D0.al (D0.al (D0.br (D0.al (D0.al (D0.al (j131 _)))) (j131 _)))))
  have j50 : ∀ (σ : St), D0 (fun Q => fX12_way__j50 N (r2 Q) x1 x2 x3 Q σ) := fun σ => D0.nd (D0.nd (D0.br (j70 _ _) (j70 _ _)))
  exact D0.nd (D0.br (D0.br (D0.cv dt_tell (fun τ => j50 _)) (j50 _)) (D0.nd (D0.al (h14 _ _))))
theorem dt_tree {x1 : Int32} : Dt (fun Q => fX12_tree N x1 Q b) := by
  have l427 : ∀ (x5 u : Int32) (σ : St), Dt (fun Q => lo1 (fX12_tree_l427 N x5 Q) N u σ) := by
    intro x5 u σ
    refine Dt.lp1 (body := fun Q => fX12_tree_l427 N x5 Q) (fun rc hr x6 σ => ?_) N u σ
    have j474 : ∀ (t0 t1 : Int32) (σ : St), Dt (fun Q => fX12_tree_j474 N (rc Q) x5 x6 t0 t1 Q σ) := fun t0 t1 σ => Dt.nd (Dt.al (Dt.al (hr _ _)))
    exact Dt.br Dt.ret (Dt.nd (Dt.br (Dt.nd (j474 _ _ _)) (Dt.nd (Dt.nd (j474 _ _ _)))))
  have l249 : ∀ (x5 u : Int32) (σ : St), Dt (fun Q => lo1 (fX12_tree_l249 N x5 Q) N u σ) := by
    intro x5 u σ
    refine Dt.lp1 (body := fun Q => fX12_tree_l249 N x5 Q) (fun r249 h249 x6 σ => ?_) N u σ
    refine Dt.br (Dt.nd (Dt.al (Dt.al (l427 _ _ _)))) (Dt.nd (Dt.ca dt_parted (fun r τ => Dt.al (Dt.nd (Dt.al (Dt.nd (Dt.al (Dt.nd (Dt.al (Dt.cv dt_tell (fun τ2 => Dt.al (Dt.al (Dt.al ?_)))))))))))))
    refine Dt.lp1 (body := fun Q => fX12_tree_l326 N (r249 Q) x5 x6 r Q) (fun rc hr x8 σ => ?_) N _ _
    have j404 : ∀ (t0 t1 : Int32) (σ : St), Dt (fun Q => fX12_tree_j404 N (r249 Q) x5 x6 t0 t1 Q σ) := fun t0 t1 σ => Dt.al (Dt.al (Dt.al (h249 _ _)))
    exact Dt.br (Dt.cv dt_way (fun τ => Dt.br (j404 _ _ _) (j404 _ _ _))) (Dt.nd (Dt.nd (Dt.nd (Dt.nd (Dt.al (Dt.nd (Dt.al (Dt.nd (Dt.nd (Dt.cv dt_way (fun τ => Dt.al (hr _ _))))))))))))
  have l210 : ∀ (x2 x5 u : Int32) (σ : St), Dt (fun Q => lo1 (fX12_tree_l210 N x1 x2 x5 Q) N u σ) := fun x2 x5 u σ => Dt.lp1 (body := fun Q => fX12_tree_l210 N x1 x2 x5 Q) (fun rc hr x6 σ => Dt.br (Dt.nd (Dt.al (Dt.al (l249 _ _ _)))) (Dt.cv dt_lay (fun τ => Dt.al (hr _ _)))) N u σ
  unfold fX12_tree
  refine Dt.br (Dt.br Dt.ret (Dt.cv dt_join (fun τ => Dt.al (Dt.cv dt_places (fun τ2 => Dt.nd (Dt.al ?_)))))) Dt.ret
  refine Dt.lp3 (body := fun Q => fX12_tree_l54 N x1 _ Q) (fun r54 h54 x3 x5 x6 σ => ?_) N _ _ _ _
  refine Dt.br (Dt.br (Dt.cv dt_places (fun τ => Dt.nd (Dt.cv dt_tellFour (fun τ2 => Dt.cv dt_tellFour (fun τ3 => Dt.cv dt_tellFour (fun τ4 => l210 _ _ _ _)))))) Dt.ret) (Dt.nd (Dt.ca dt_parted (fun r τ => Dt.nd (Dt.al ?_))))
  exact Dt.lp2 (body := fun Q => fX12_tree_l89 N (r54 Q) x1 _ x3 x5 x6 r Q) (fun rc hr x8 x9 σ => Dt.br (Dt.al (Dt.al (Dt.al (h54 _ _ _ _)))) (Dt.nd (Dt.nd (Dt.nd (Dt.al (Dt.al (hr _ _ _))))))) N _ _ _
end SIM53
