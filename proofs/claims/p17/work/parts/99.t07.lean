section FRAMES
/-- the class's cells of the cache stay; the reference's -/
def FA (a τ : St) : Prop := (∀ i : Nat, τ.1 2 i = a.1 2 i) ∧ ∀ i : Nat, τ.1 13 i = a.1 13 i
def FB (b τ : St) : Prop := (∀ i : Nat, τ.1 1 i = b.1 1 i) ∧ (∀ i : Nat, i = 1 ∨ i = 6 ∨ i = 7 → τ.1 0 i = b.1 0 i) ∧ τ.2 = b.2
theorem FA.u {a τ : St} (h : FA a τ) {k j : Nat} {v : Int32} (hk : k ≠ 2 ∧ k ≠ 13) : FA a (u1 τ k j v) := ⟨fun i => (u1e (by omega)).trans (h.1 i), fun i => (u1e (by omega)).trans (h.2 i)⟩
theorem FB.u {b τ : St} (h : FB b τ) {k j : Nat} {v : Int32} (hk : k ≠ 1 ∧ ¬ (k = 0 ∧ (j = 1 ∨ j = 6 ∨ j = 7))) : FB b (u1 τ k j v) := ⟨fun i => (u1e (by omega)).trans (h.1 i), fun i q => (u1e (by omega)).trans (h.2.1 i q), h.2.2⟩
theorem M0.lp2 {T U : Type} {F : St → Prop} {body : (St → Prop) → (T → U → St → Prop) → T → U → St → Prop} (h : ∀ rc : (St → Prop) → T → U → St → Prop, (∀ (x : T) (y : U) (σ : St), F σ → M0 F (fun Q => rc Q x y σ)) → ∀ (x : T) (y : U) (σ : St), F σ → M0 F (fun Q => body Q (rc Q) x y σ)) : ∀ (n : Nat) (x : T) (y : U) (σ : St), F σ → M0 F (fun Q => lo2 (body Q) n x y σ) := by
  intro n
  induction n with
  | zero => intro x y σ _ P P' k hP; exact hP.elim
  | succ n ih => intro x y σ hF; exact h (fun Q => lo2 (body Q) n) ih x y σ hF
end FRAMES
set_option maxHeartbeats 1000000 in
theorem fr_fX11_feed_l34 {N : Nat} {a : St} {x2 : Int64} {x4 : Int32} {σ : St} {Rr34 : (Int32 → St → Prop) → Int32 → St → Prop} (hr34 : ∀ (y0 : Int32) (σ : St), FA a σ → Mt (FA a) (fun Q => Rr34 Q y0 σ)) (hF : FA a σ) : Mt (FA a) (fun Q => fX11_feed_l34 N x2 Q (Rr34 Q) x4 σ) := by
  unfold fX11_feed_l34
  repeat' (first | with_reducible exact Mt.ret (by repeat' (first | assumption | refine FA.u ?_ (by first | decide | omega))) | with_reducible exact hr34 _ _ (by repeat' (first | assumption | refine FA.u ?_ (by first | decide | omega))) | with_reducible refine Mt.br ?_ ?_ | with_reducible refine Mt.al ?_ | with_reducible refine Mt.nd ?_)
set_option maxHeartbeats 1000000 in
theorem fr_fX11_feed {N : Nat} {a : St} {x1 : Int32} {x2 : Int64} {σ : St} (hF : FA a σ) : Mt (FA a) (fun Q => fX11_feed N x1 x2 Q σ) := by
  unfold fX11_feed
  repeat' (first | with_reducible exact Mt.ret (by repeat' (first | assumption | refine FA.u ?_ (by first | decide | omega))) | with_reducible exact Mt.lp1 (fun rc hr v0 σ hF => fr_fX11_feed_l34 hr hF) _ _ _ (by repeat' (first | assumption | refine FA.u ?_ (by first | decide | omega))) | with_reducible refine Mt.br ?_ ?_ | with_reducible refine Mt.al ?_ | with_reducible refine Mt.nd ?_)
set_option maxHeartbeats 1000000 in
theorem fr_fX11_sign {N : Nat} {a : St} {x1 : Int32} {σ : St} (hF : FA a σ) : Mt (FA a) (fun Q => fX11_sign N x1 Q σ) := by
  unfold fX11_sign
  repeat' (first | with_reducible exact Mt.ret (by repeat' (first | assumption | refine FA.u ?_ (by first | decide | omega))) | with_reducible refine Mt.br ?_ ?_ | with_reducible refine Mt.al ?_ | with_reducible refine Mt.nd ?_)
set_option maxHeartbeats 1000000 in
theorem fr_fX7_areSigns_j40 {N : Nat} {a : St} {k0 : Nat} {x1 : Int32} {x2 : Int32} {x3 : Int32} {σ : St} {Rr2 : (Int32 → St → Prop) → Int32 → St → Prop} (hr2 : ∀ (y0 : Int32) (σ : St), FA a σ → Mt (FA a) (fun Q => Rr2 Q y0 σ)) (hF : FA a σ) : Mt (FA a) (fun Q => fX7_areSigns_j40 N (Rr2 Q) k0 x1 x2 x3 Q σ) := by
  unfold fX7_areSigns_j40
  repeat' (first | with_reducible exact Mt.ret (by repeat' (first | assumption | refine FA.u ?_ (by first | decide | omega))) | with_reducible exact hr2 _ _ (by repeat' (first | assumption | refine FA.u ?_ (by first | decide | omega))) | with_reducible refine Mt.br ?_ ?_ | with_reducible refine Mt.al ?_ | with_reducible refine Mt.nd ?_)
set_option maxHeartbeats 1000000 in
theorem fr_fX7_areSigns_l2 {N : Nat} {a : St} {k0 : Nat} {x1 : Int32} {x2 : Int32} {x3 : Int32} {σ : St} {Rr2 : (Int32 → St → Prop) → Int32 → St → Prop} (hr2 : ∀ (y0 : Int32) (σ : St), FA a σ → Mt (FA a) (fun Q => Rr2 Q y0 σ)) (hF : FA a σ) : Mt (FA a) (fun Q => fX7_areSigns_l2 N k0 x1 x2 Q (Rr2 Q) x3 σ) := by
  unfold fX7_areSigns_l2
  repeat' (first | with_reducible exact Mt.ret (by repeat' (first | assumption | refine FA.u ?_ (by first | decide | omega))) | with_reducible exact hr2 _ _ (by repeat' (first | assumption | refine FA.u ?_ (by first | decide | omega))) | with_reducible exact fr_fX7_areSigns_j40 hr2 (by repeat' (first | assumption | refine FA.u ?_ (by first | decide | omega))) | with_reducible refine Mt.br ?_ ?_ | with_reducible refine Mt.al ?_ | with_reducible refine Mt.nd ?_)
set_option maxHeartbeats 1000000 in
theorem fr_fX7_areSigns {N : Nat} {a : St} {k0 : Nat} {x1 : Int32} {x2 : Int32} {σ : St} (hF : FA a σ) : Mt (FA a) (fun Q => fX7_areSigns N k0 x1 x2 Q σ) := by
  unfold fX7_areSigns
  repeat' (first | with_reducible exact Mt.ret (by repeat' (first | assumption | refine FA.u ?_ (by first | decide | omega))) | with_reducible exact Mt.lp1 (fun rc hr v0 σ hF => fr_fX7_areSigns_l2 hr hF) _ _ _ (by repeat' (first | assumption | refine FA.u ?_ (by first | decide | omega))) | with_reducible refine Mt.br ?_ ?_ | with_reducible refine Mt.al ?_ | with_reducible refine Mt.nd ?_)
set_option maxHeartbeats 1000000 in
theorem fr_fX7_isPiece_j140 {N : Nat} {a : St} {x2 : Int32} {σ : St} (hF : FA a σ) : Mt (FA a) (fun Q => fX7_isPiece_j140 N x2 Q σ) := by
  unfold fX7_isPiece_j140
  repeat' (first | with_reducible exact Mt.ret (by repeat' (first | assumption | refine FA.u ?_ (by first | decide | omega))) | with_reducible refine Mt.br ?_ ?_ | with_reducible refine Mt.al ?_ | with_reducible refine Mt.nd ?_)
set_option maxHeartbeats 1000000 in
theorem fr_fX7_isPiece {N : Nat} {a : St} {x0 : Int32} {k1 : Nat} {x2 : Int32} {σ : St} (hF : FA a σ) : Mt (FA a) (fun Q => fX7_isPiece N x0 k1 x2 Q σ) := by
  unfold fX7_isPiece
  repeat' (first | with_reducible exact Mt.ret (by repeat' (first | assumption | refine FA.u ?_ (by first | decide | omega))) | with_reducible exact fr_fX7_isPiece_j140 (by repeat' (first | assumption | refine FA.u ?_ (by first | decide | omega))) | with_reducible refine Mt.br ?_ ?_ | with_reducible refine Mt.al ?_ | with_reducible refine Mt.ca (fr_fX7_areSigns (by repeat' (first | assumption | refine FA.u ?_ (by first | decide | omega)))) (fun _ _ hF => ?_) | with_reducible refine Mt.ca (fr_fX7_isPiece_j140 (by repeat' (first | assumption | refine FA.u ?_ (by first | decide | omega)))) (fun _ _ hF => ?_) | with_reducible refine Mt.nd ?_)
set_option maxHeartbeats 1000000 in
theorem fr_fX7_add_j128 {N : Nat} {a : St} {x4 : Int32} {σ : St} (hF : FA a σ) : Mt (FA a) (fun Q => fX7_add_j128 N x4 Q σ) := by
  unfold fX7_add_j128
  repeat' (first | with_reducible exact Mt.ret (by repeat' (first | assumption | refine FA.u ?_ (by first | decide | omega))) | with_reducible refine Mt.br ?_ ?_ | with_reducible refine Mt.al ?_ | with_reducible refine Mt.nd ?_)
set_option maxHeartbeats 1000000 in
theorem fr_fX7_add_j97 {N : Nat} {a : St} {x4 : Int32} {σ : St} (hF : FA a σ) : Mt (FA a) (fun Q => fX7_add_j97 N x4 Q σ) := by
  unfold fX7_add_j97
  repeat' (first | with_reducible exact Mt.ret (by repeat' (first | assumption | refine FA.u ?_ (by first | decide | omega))) | with_reducible exact fr_fX7_add_j128 (by repeat' (first | assumption | refine FA.u ?_ (by first | decide | omega))) | with_reducible refine Mt.br ?_ ?_ | with_reducible refine Mt.al ?_ | with_reducible refine Mt.ca (fr_fX7_add_j128 (by repeat' (first | assumption | refine FA.u ?_ (by first | decide | omega)))) (fun _ _ hF => ?_) | with_reducible refine Mt.nd ?_)
set_option maxHeartbeats 1000000 in
theorem fr_fX7_add_j85 {N : Nat} {a : St} {x1 : Int32} {x4 : Int32} {σ : St} (hF : FA a σ) : Mt (FA a) (fun Q => fX7_add_j85 N x1 x4 Q σ) := by
  unfold fX7_add_j85
  repeat' (first | with_reducible exact Mt.ret (by repeat' (first | assumption | refine FA.u ?_ (by first | decide | omega))) | with_reducible exact fr_fX7_add_j97 (by repeat' (first | assumption | refine FA.u ?_ (by first | decide | omega))) | with_reducible exact fr_fX7_add_j128 (by repeat' (first | assumption | refine FA.u ?_ (by first | decide | omega))) | with_reducible refine Mt.br ?_ ?_ | with_reducible refine Mt.al ?_ | with_reducible refine Mt.ca (fr_fX7_add_j97 (by repeat' (first | assumption | refine FA.u ?_ (by first | decide | omega)))) (fun _ _ hF => ?_) | with_reducible refine Mt.ca (fr_fX7_add_j128 (by repeat' (first | assumption | refine FA.u ?_ (by first | decide | omega)))) (fun _ _ hF => ?_) | with_reducible refine Mt.nd ?_)
set_option maxHeartbeats 1000000 in
theorem fr_fX7_add_l45 {N : Nat} {a : St} {x1 : Int32} {k2 : Nat} {x3 : Int32} {x4 : Int32} {x5 : Int32} {σ : St} {Rr45 : (Int32 → St → Prop) → Int32 → St → Prop} (hr45 : ∀ (y0 : Int32) (σ : St), FA a σ → Mt (FA a) (fun Q => Rr45 Q y0 σ)) (hF : FA a σ) : Mt (FA a) (fun Q => fX7_add_l45 N x1 k2 x3 x4 Q (Rr45 Q) x5 σ) := by
  unfold fX7_add_l45
  repeat' (first | with_reducible exact Mt.ret (by repeat' (first | assumption | refine FA.u ?_ (by first | decide | omega))) | with_reducible exact hr45 _ _ (by repeat' (first | assumption | refine FA.u ?_ (by first | decide | omega))) | with_reducible exact fr_fX7_add_j85 (by repeat' (first | assumption | refine FA.u ?_ (by first | decide | omega))) | with_reducible refine Mt.br ?_ ?_ | with_reducible refine Mt.al ?_ | with_reducible refine Mt.ca (fr_fX7_add_j85 (by repeat' (first | assumption | refine FA.u ?_ (by first | decide | omega)))) (fun _ _ hF => ?_) | with_reducible refine Mt.nd ?_)
set_option maxHeartbeats 1000000 in
theorem fr_fX7_add {N : Nat} {a : St} {x1 : Int32} {k2 : Nat} {x3 : Int32} {σ : St} (hF : FA a σ) : Mt (FA a) (fun Q => fX7_add N x1 k2 x3 Q σ) := by
  unfold fX7_add
  repeat' (first | with_reducible exact Mt.ret (by repeat' (first | assumption | refine FA.u ?_ (by first | decide | omega))) | with_reducible exact Mt.lp1 (fun rc hr v0 σ hF => fr_fX7_add_l45 hr hF) _ _ _ (by repeat' (first | assumption | refine FA.u ?_ (by first | decide | omega))) | with_reducible refine Mt.br ?_ ?_ | with_reducible refine Mt.al ?_ | with_reducible refine Mt.nd ?_)
set_option maxHeartbeats 1000000 in
theorem fr_fX11_piece {N : Nat} {a : St} {x1 : Int32} {σ : St} (hF : FA a σ) : Mt (FA a) (fun Q => fX11_piece N x1 Q σ) := by
  unfold fX11_piece
  repeat' (first | with_reducible exact Mt.ret (by repeat' (first | assumption | refine FA.u ?_ (by first | decide | omega))) | with_reducible refine Mt.br ?_ ?_ | with_reducible refine Mt.al ?_ | with_reducible refine Mt.ca (fr_fX7_isPiece (by repeat' (first | assumption | refine FA.u ?_ (by first | decide | omega)))) (fun _ _ hF => ?_) | with_reducible refine Mt.ca (fr_fX7_add (by repeat' (first | assumption | refine FA.u ?_ (by first | decide | omega)))) (fun _ _ hF => ?_) | with_reducible refine Mt.nd ?_)
set_option maxHeartbeats 1000000 in
theorem fr_fX7_standsAt_l29 {N : Nat} {a : St} {x1 : Int32} {k2 : Nat} {x3 : Int32} {x5 : Int32} {σ : St} {Rr29 : (Int32 → St → Prop) → Int32 → St → Prop} (hr29 : ∀ (y0 : Int32) (σ : St), FA a σ → Mt (FA a) (fun Q => Rr29 Q y0 σ)) (hF : FA a σ) : Mt (FA a) (fun Q => fX7_standsAt_l29 N x1 k2 x3 Q (Rr29 Q) x5 σ) := by
  unfold fX7_standsAt_l29
  repeat' (first | with_reducible exact Mt.ret (by repeat' (first | assumption | refine FA.u ?_ (by first | decide | omega))) | with_reducible exact hr29 _ _ (by repeat' (first | assumption | refine FA.u ?_ (by first | decide | omega))) | with_reducible refine Mt.br ?_ ?_ | with_reducible refine Mt.al ?_ | with_reducible refine Mt.nd ?_)
set_option maxHeartbeats 1000000 in
theorem fr_fX7_standsAt {N : Nat} {a : St} {x1 : Int32} {k2 : Nat} {x3 : Int32} {x4 : Int32} {σ : St} (hF : FA a σ) : Mt (FA a) (fun Q => fX7_standsAt N x1 k2 x3 x4 Q σ) := by
  unfold fX7_standsAt
  repeat' (first | with_reducible exact Mt.ret (by repeat' (first | assumption | refine FA.u ?_ (by first | decide | omega))) | with_reducible exact Mt.lp1 (fun rc hr v0 σ hF => fr_fX7_standsAt_l29 hr hF) _ _ _ (by repeat' (first | assumption | refine FA.u ?_ (by first | decide | omega))) | with_reducible refine Mt.br ?_ ?_ | with_reducible refine Mt.al ?_ | with_reducible refine Mt.nd ?_)
set_option maxHeartbeats 1000000 in
theorem fr_fX6_choose_j144 {N : Nat} {a : St} {k1 : Nat} {x2 : Int32} {x3 : Int32} {x4 : Int32} {x5 : Int32} {σ : St} {Rr21 : (St → Prop) → Int32 → Int32 → St → Prop} (hr21 : ∀ (y0 : Int32) (y1 : Int32) (σ : St), FA a σ → M0 (FA a) (fun Q => Rr21 Q y0 y1 σ)) (hF : FA a σ) : M0 (FA a) (fun Q => fX6_choose_j144 N (Rr21 Q) k1 x2 x3 x4 x5 Q σ) := by
  unfold fX6_choose_j144
  repeat' (first | with_reducible exact M0.ret (by repeat' (first | assumption | refine FA.u ?_ (by first | decide | omega))) | with_reducible exact hr21 _ _ _ (by repeat' (first | assumption | refine FA.u ?_ (by first | decide | omega))) | with_reducible refine M0.br ?_ ?_ | with_reducible refine M0.al ?_ | with_reducible refine M0.nd ?_)
set_option maxHeartbeats 1000000 in
theorem fr_fX6_choose_j110 {N : Nat} {a : St} {k1 : Nat} {x2 : Int32} {x3 : Int32} {x4 : Int32} {x5 : Int32} {x6 : Int32} {x7 : Int32} {t0 : Int32} {σ : St} {Rr21 : (St → Prop) → Int32 → Int32 → St → Prop} (hr21 : ∀ (y0 : Int32) (y1 : Int32) (σ : St), FA a σ → M0 (FA a) (fun Q => Rr21 Q y0 y1 σ)) (hF : FA a σ) : M0 (FA a) (fun Q => fX6_choose_j110 N (Rr21 Q) k1 x2 x3 x4 x5 x6 x7 t0 Q σ) := by
  unfold fX6_choose_j110
  repeat' (first | with_reducible exact M0.ret (by repeat' (first | assumption | refine FA.u ?_ (by first | decide | omega))) | with_reducible exact hr21 _ _ _ (by repeat' (first | assumption | refine FA.u ?_ (by first | decide | omega))) | with_reducible exact fr_fX6_choose_j144 hr21 (by repeat' (first | assumption | refine FA.u ?_ (by first | decide | omega))) | with_reducible refine M0.br ?_ ?_ | with_reducible refine M0.al ?_ | with_reducible refine M0.nd ?_)
set_option maxHeartbeats 1000000 in
theorem fr_fX6_choose_j105 {N : Nat} {a : St} {k1 : Nat} {x2 : Int32} {x3 : Int32} {x4 : Int32} {x5 : Int32} {x6 : Int32} {x7 : Int32} {σ : St} {Rr21 : (St → Prop) → Int32 → Int32 → St → Prop} (hr21 : ∀ (y0 : Int32) (y1 : Int32) (σ : St), FA a σ → M0 (FA a) (fun Q => Rr21 Q y0 y1 σ)) (hF : FA a σ) : M0 (FA a) (fun Q => fX6_choose_j105 N (Rr21 Q) k1 x2 x3 x4 x5 x6 x7 Q σ) := by
  unfold fX6_choose_j105
  repeat' (first | with_reducible exact M0.ret (by repeat' (first | assumption | refine FA.u ?_ (by first | decide | omega))) | with_reducible exact hr21 _ _ _ (by repeat' (first | assumption | refine FA.u ?_ (by first | decide | omega))) | with_reducible exact fr_fX6_choose_j110 hr21 (by repeat' (first | assumption | refine FA.u ?_ (by first | decide | omega))) | with_reducible refine M0.br ?_ ?_ | with_reducible refine M0.al ?_ | with_reducible refine M0.nd ?_)
set_option maxHeartbeats 1000000 in
theorem fr_fX6_choose_j109 {N : Nat} {a : St} {k1 : Nat} {x2 : Int32} {x3 : Int32} {x4 : Int32} {x5 : Int32} {x6 : Int32} {x7 : Int32} {σ : St} {Rr21 : (St → Prop) → Int32 → Int32 → St → Prop} (hr21 : ∀ (y0 : Int32) (y1 : Int32) (σ : St), FA a σ → M0 (FA a) (fun Q => Rr21 Q y0 y1 σ)) (hF : FA a σ) : M0 (FA a) (fun Q => fX6_choose_j109 N (Rr21 Q) k1 x2 x3 x4 x5 x6 x7 Q σ) := by
  unfold fX6_choose_j109
  repeat' (first | with_reducible exact M0.ret (by repeat' (first | assumption | refine FA.u ?_ (by first | decide | omega))) | with_reducible exact hr21 _ _ _ (by repeat' (first | assumption | refine FA.u ?_ (by first | decide | omega))) | with_reducible exact fr_fX6_choose_j110 hr21 (by repeat' (first | assumption | refine FA.u ?_ (by first | decide | omega))) | with_reducible refine M0.br ?_ ?_ | with_reducible refine M0.al ?_ | with_reducible refine M0.nd ?_)
set_option maxHeartbeats 1000000 in
theorem fr_fX6_choose_l21 {N : Nat} {a : St} {k1 : Nat} {x2 : Int32} {x3 : Int32} {x4 : Int32} {x5 : Int32} {σ : St} {Rr21 : (St → Prop) → Int32 → Int32 → St → Prop} (hr21 : ∀ (y0 : Int32) (y1 : Int32) (σ : St), FA a σ → M0 (FA a) (fun Q => Rr21 Q y0 y1 σ)) (hF : FA a σ) : M0 (FA a) (fun Q => fX6_choose_l21 N k1 x2 x3 Q (Rr21 Q) x4 x5 σ) := by
  unfold fX6_choose_l21
  repeat' (first | with_reducible exact M0.ret (by repeat' (first | assumption | refine FA.u ?_ (by first | decide | omega))) | with_reducible exact hr21 _ _ _ (by repeat' (first | assumption | refine FA.u ?_ (by first | decide | omega))) | with_reducible exact fr_fX6_choose_j144 hr21 (by repeat' (first | assumption | refine FA.u ?_ (by first | decide | omega))) | with_reducible exact fr_fX6_choose_j105 hr21 (by repeat' (first | assumption | refine FA.u ?_ (by first | decide | omega))) | with_reducible exact fr_fX6_choose_j109 hr21 (by repeat' (first | assumption | refine FA.u ?_ (by first | decide | omega))) | with_reducible refine M0.br ?_ ?_ | with_reducible refine M0.al ?_ | with_reducible refine M0.ca (fr_fX7_standsAt (by repeat' (first | assumption | refine FA.u ?_ (by first | decide | omega)))) (fun _ _ hF => ?_) | with_reducible refine M0.nd ?_)
set_option maxHeartbeats 1000000 in
theorem fr_fX6_choose {N : Nat} {a : St} {k1 : Nat} {x2 : Int32} {x3 : Int32} {σ : St} (hF : FA a σ) : M0 (FA a) (fun Q => fX6_choose N k1 x2 x3 Q σ) := by
  unfold fX6_choose
  repeat' (first | with_reducible exact M0.ret (by repeat' (first | assumption | refine FA.u ?_ (by first | decide | omega))) | with_reducible exact M0.lp2 (fun rc hr v0 v1 σ hF => fr_fX6_choose_l21 hr hF) _ _ _ _ (by repeat' (first | assumption | refine FA.u ?_ (by first | decide | omega))) | with_reducible refine M0.br ?_ ?_ | with_reducible refine M0.al ?_ | with_reducible refine M0.nd ?_)
set_option maxHeartbeats 1000000 in
theorem fr_fX6_part_l29 {N : Nat} {a : St} {k1 : Nat} {x2 : Int32} {x3 : Int32} {σ : St} {Rr29 : (Int32 → St → Prop) → Int32 → St → Prop} (hr29 : ∀ (y0 : Int32) (σ : St), FA a σ → Mt (FA a) (fun Q => Rr29 Q y0 σ)) (hF : FA a σ) : Mt (FA a) (fun Q => fX6_part_l29 N k1 x2 Q (Rr29 Q) x3 σ) := by
  unfold fX6_part_l29
  repeat' (first | with_reducible exact Mt.ret (by repeat' (first | assumption | refine FA.u ?_ (by first | decide | omega))) | with_reducible exact hr29 _ _ (by repeat' (first | assumption | refine FA.u ?_ (by first | decide | omega))) | with_reducible refine Mt.br ?_ ?_ | with_reducible refine Mt.al ?_ | with_reducible refine Mt.cv (fr_fX6_choose (by repeat' (first | assumption | refine FA.u ?_ (by first | decide | omega)))) (fun _ hF => ?_) | with_reducible refine Mt.nd ?_)
set_option maxHeartbeats 1000000 in
theorem fr_fX6_part {N : Nat} {a : St} {k1 : Nat} {x2 : Int32} {σ : St} (hF : FA a σ) : Mt (FA a) (fun Q => fX6_part N k1 x2 Q σ) := by
  unfold fX6_part
  repeat' (first | with_reducible exact Mt.ret (by repeat' (first | assumption | refine FA.u ?_ (by first | decide | omega))) | with_reducible exact Mt.lp1 (fun rc hr v0 σ hF => fr_fX6_part_l29 hr hF) _ _ _ (by repeat' (first | assumption | refine FA.u ?_ (by first | decide | omega))) | with_reducible refine Mt.br ?_ ?_ | with_reducible refine Mt.al ?_ | with_reducible refine Mt.nd ?_)
set_option maxHeartbeats 1000000 in
theorem fr_fX10_add_j59 {N : Nat} {a : St} {x2 : Int32} {x3 : Int32} {σ : St} (hF : FA a σ) : Mt (FA a) (fun Q => fX10_add_j59 N x2 x3 Q σ) := by
  unfold fX10_add_j59
  repeat' (first | with_reducible exact Mt.ret (by repeat' (first | assumption | refine FA.u ?_ (by first | decide | omega))) | with_reducible refine Mt.br ?_ ?_ | with_reducible refine Mt.al ?_ | with_reducible refine Mt.nd ?_)
set_option maxHeartbeats 1000000 in
theorem fr_fX10_add_l20 {N : Nat} {a : St} {k1 : Nat} {x2 : Int32} {x3 : Int32} {x4 : Int32} {σ : St} {Rr20 : (Int32 → St → Prop) → Int32 → St → Prop} (hr20 : ∀ (y0 : Int32) (σ : St), FA a σ → Mt (FA a) (fun Q => Rr20 Q y0 σ)) (hF : FA a σ) : Mt (FA a) (fun Q => fX10_add_l20 N k1 x2 x3 Q (Rr20 Q) x4 σ) := by
  unfold fX10_add_l20
  repeat' (first | with_reducible exact Mt.ret (by repeat' (first | assumption | refine FA.u ?_ (by first | decide | omega))) | with_reducible exact hr20 _ _ (by repeat' (first | assumption | refine FA.u ?_ (by first | decide | omega))) | with_reducible exact fr_fX10_add_j59 (by repeat' (first | assumption | refine FA.u ?_ (by first | decide | omega))) | with_reducible refine Mt.br ?_ ?_ | with_reducible refine Mt.al ?_ | with_reducible refine Mt.ca (fr_fX10_add_j59 (by repeat' (first | assumption | refine FA.u ?_ (by first | decide | omega)))) (fun _ _ hF => ?_) | with_reducible refine Mt.nd ?_)
set_option maxHeartbeats 1000000 in
theorem fr_fX10_add {N : Nat} {a : St} {k1 : Nat} {x2 : Int32} {σ : St} (hF : FA a σ) : Mt (FA a) (fun Q => fX10_add N k1 x2 Q σ) := by
  unfold fX10_add
  repeat' (first | with_reducible exact Mt.ret (by repeat' (first | assumption | refine FA.u ?_ (by first | decide | omega))) | with_reducible exact Mt.lp1 (fun rc hr v0 σ hF => fr_fX10_add_l20 hr hF) _ _ _ (by repeat' (first | assumption | refine FA.u ?_ (by first | decide | omega))) | with_reducible refine Mt.br ?_ ?_ | with_reducible refine Mt.al ?_ | with_reducible refine Mt.nd ?_)
set_option maxHeartbeats 1000000 in
theorem fr_fX11_text {N : Nat} {a : St} {σ : St} (hF : FA a σ) : Mt (FA a) (fun Q => fX11_text N Q σ) := by
  unfold fX11_text
  repeat' (first | with_reducible exact Mt.ret (by repeat' (first | assumption | refine FA.u ?_ (by first | decide | omega))) | with_reducible refine Mt.br ?_ ?_ | with_reducible refine Mt.al ?_ | with_reducible refine Mt.ca (fr_fX6_part (by repeat' (first | assumption | refine FA.u ?_ (by first | decide | omega)))) (fun _ _ hF => ?_) | with_reducible refine Mt.ca (fr_fX10_add (by repeat' (first | assumption | refine FA.u ?_ (by first | decide | omega)))) (fun _ _ hF => ?_) | with_reducible refine Mt.nd ?_)
set_option maxHeartbeats 1000000 in
theorem fr_fX11_laid {N : Nat} {a : St} {x1 : Int32} {x2 : Int32} {σ : St} (hF : FA a σ) : Mt (FA a) (fun Q => fX11_laid N x1 x2 Q σ) := by
  unfold fX11_laid
  repeat' (first | with_reducible exact Mt.ret (by repeat' (first | assumption | refine FA.u ?_ (by first | decide | omega))) | with_reducible refine Mt.br ?_ ?_ | with_reducible refine Mt.al ?_ | with_reducible refine Mt.ca (fr_fX6_part (by repeat' (first | assumption | refine FA.u ?_ (by first | decide | omega)))) (fun _ _ hF => ?_) | with_reducible refine Mt.nd ?_)
set_option maxHeartbeats 1000000 in
theorem fr_fX11_bits {N : Nat} {a : St} {x1 : Int32} {σ : St} (hF : FA a σ) : Mt (FA a) (fun Q => fX11_bits N x1 Q σ) := by
  unfold fX11_bits
  repeat' (first | with_reducible exact Mt.ret (by repeat' (first | assumption | refine FA.u ?_ (by first | decide | omega))) | with_reducible refine Mt.br ?_ ?_ | with_reducible refine Mt.al ?_ | with_reducible refine Mt.nd ?_)
set_option maxHeartbeats 1000000 in
theorem fr_fX11_forget {N : Nat} {a : St} {σ : St} (hF : FA a σ) : Mt (FA a) (fun Q => fX11_forget N Q σ) := by
  unfold fX11_forget
  repeat' (first | with_reducible exact Mt.ret (by repeat' (first | assumption | refine FA.u ?_ (by first | decide | omega))) | with_reducible refine Mt.br ?_ ?_ | with_reducible refine Mt.al ?_ | with_reducible refine Mt.nd ?_)
set_option maxHeartbeats 1000000 in
theorem fr_fX12_in {N : Nat} {b : St} {x0 : Int64} {x2 : Int64} {x4 : Int64} {σ : St} (hF : FB b σ) : Mt (FB b) (fun Q => fX12_in N x0 x2 x4 Q σ) := by
  unfold fX12_in
  repeat' (first | with_reducible exact Mt.ret (by repeat' (first | assumption | refine FB.u ?_ (by first | decide | omega))) | with_reducible refine Mt.br ?_ ?_ | with_reducible refine Mt.al ?_ | with_reducible refine Mt.nd ?_)
set_option maxHeartbeats 1000000 in
theorem fr_fX12_feed_l35 {N : Nat} {b : St} {x2 : Int64} {x4 : Int32} {σ : St} {Rr35 : (Int32 → St → Prop) → Int32 → St → Prop} (hr35 : ∀ (y0 : Int32) (σ : St), FB b σ → Mt (FB b) (fun Q => Rr35 Q y0 σ)) (hF : FB b σ) : Mt (FB b) (fun Q => fX12_feed_l35 N x2 Q (Rr35 Q) x4 σ) := by
  unfold fX12_feed_l35
  repeat' (first | with_reducible exact Mt.ret (by repeat' (first | assumption | refine FB.u ?_ (by first | decide | omega))) | with_reducible exact hr35 _ _ (by repeat' (first | assumption | refine FB.u ?_ (by first | decide | omega))) | with_reducible refine Mt.br ?_ ?_ | with_reducible refine Mt.al ?_ | with_reducible refine Mt.nd ?_)
set_option maxHeartbeats 1000000 in
theorem fr_fX12_feed {N : Nat} {b : St} {x1 : Int32} {x2 : Int64} {σ : St} (hF : FB b σ) : Mt (FB b) (fun Q => fX12_feed N x1 x2 Q σ) := by
  unfold fX12_feed
  repeat' (first | with_reducible exact Mt.ret (by repeat' (first | assumption | refine FB.u ?_ (by first | decide | omega))) | with_reducible exact Mt.lp1 (fun rc hr v0 σ hF => fr_fX12_feed_l35 hr hF) _ _ _ (by repeat' (first | assumption | refine FB.u ?_ (by first | decide | omega))) | with_reducible refine Mt.br ?_ ?_ | with_reducible refine Mt.al ?_ | with_reducible refine Mt.ca (fr_fX12_in (by repeat' (first | assumption | refine FB.u ?_ (by first | decide | omega)))) (fun _ _ hF => ?_) | with_reducible refine Mt.nd ?_)
set_option maxHeartbeats 1000000 in
theorem fr_fX12_sign {N : Nat} {b : St} {x1 : Int32} {σ : St} (hF : FB b σ) : Mt (FB b) (fun Q => fX12_sign N x1 Q σ) := by
  unfold fX12_sign
  repeat' (first | with_reducible exact Mt.ret (by repeat' (first | assumption | refine FB.u ?_ (by first | decide | omega))) | with_reducible refine Mt.br ?_ ?_ | with_reducible refine Mt.al ?_ | with_reducible refine Mt.nd ?_)
set_option maxHeartbeats 1000000 in
theorem fr_fX12_piece_l193 {N : Nat} {b : St} {x2 : Int32} {x4 : Int32} {σ : St} {Rr193 : (Int32 → St → Prop) → Int32 → St → Prop} (hr193 : ∀ (y0 : Int32) (σ : St), FB b σ → Mt (FB b) (fun Q => Rr193 Q y0 σ)) (hF : FB b σ) : Mt (FB b) (fun Q => fX12_piece_l193 N x2 Q (Rr193 Q) x4 σ) := by
  unfold fX12_piece_l193
  repeat' (first | with_reducible exact Mt.ret (by repeat' (first | assumption | refine FB.u ?_ (by first | decide | omega))) | with_reducible exact hr193 _ _ (by repeat' (first | assumption | refine FB.u ?_ (by first | decide | omega))) | with_reducible refine Mt.br ?_ ?_ | with_reducible refine Mt.al ?_ | with_reducible refine Mt.nd ?_)
set_option maxHeartbeats 1000000 in
theorem fr_fX12_piece_j134 {N : Nat} {b : St} {x1 : Int32} {x2 : Int32} {x4 : Int32} {t0 : Int32} {σ : St} {Rr78 : (Int32 → St → Prop) → Int32 → Int32 → St → Prop} (hr78 : ∀ (y0 : Int32) (y1 : Int32) (σ : St), FB b σ → Mt (FB b) (fun Q => Rr78 Q y0 y1 σ)) (hF : FB b σ) : Mt (FB b) (fun Q => fX12_piece_j134 N (Rr78 Q) x1 x2 x4 t0 Q σ) := by
  unfold fX12_piece_j134
  repeat' (first | with_reducible exact Mt.ret (by repeat' (first | assumption | refine FB.u ?_ (by first | decide | omega))) | with_reducible exact hr78 _ _ _ (by repeat' (first | assumption | refine FB.u ?_ (by first | decide | omega))) | with_reducible refine Mt.br ?_ ?_ | with_reducible refine Mt.al ?_ | with_reducible refine Mt.nd ?_)
set_option maxHeartbeats 1000000 in
theorem fr_fX12_piece_j133 {N : Nat} {b : St} {x1 : Int32} {x2 : Int32} {x4 : Int32} {σ : St} {Rr78 : (Int32 → St → Prop) → Int32 → Int32 → St → Prop} (hr78 : ∀ (y0 : Int32) (y1 : Int32) (σ : St), FB b σ → Mt (FB b) (fun Q => Rr78 Q y0 y1 σ)) (hF : FB b σ) : Mt (FB b) (fun Q => fX12_piece_j133 N (Rr78 Q) x1 x2 x4 Q σ) := by
  unfold fX12_piece_j133
  repeat' (first | with_reducible exact Mt.ret (by repeat' (first | assumption | refine FB.u ?_ (by first | decide | omega))) | with_reducible exact hr78 _ _ _ (by repeat' (first | assumption | refine FB.u ?_ (by first | decide | omega))) | with_reducible exact fr_fX12_piece_j134 hr78 (by repeat' (first | assumption | refine FB.u ?_ (by first | decide | omega))) | with_reducible refine Mt.br ?_ ?_ | with_reducible refine Mt.al ?_ | with_reducible refine Mt.nd ?_)
set_option maxHeartbeats 1000000 in
theorem fr_fX12_piece_j129 {N : Nat} {b : St} {x1 : Int32} {x2 : Int32} {x4 : Int32} {σ : St} {Rr78 : (Int32 → St → Prop) → Int32 → Int32 → St → Prop} (hr78 : ∀ (y0 : Int32) (y1 : Int32) (σ : St), FB b σ → Mt (FB b) (fun Q => Rr78 Q y0 y1 σ)) (hF : FB b σ) : Mt (FB b) (fun Q => fX12_piece_j129 N (Rr78 Q) x1 x2 x4 Q σ) := by
  unfold fX12_piece_j129
  repeat' (first | with_reducible exact Mt.ret (by repeat' (first | assumption | refine FB.u ?_ (by first | decide | omega))) | with_reducible exact hr78 _ _ _ (by repeat' (first | assumption | refine FB.u ?_ (by first | decide | omega))) | with_reducible exact fr_fX12_piece_j134 hr78 (by repeat' (first | assumption | refine FB.u ?_ (by first | decide | omega))) | with_reducible refine Mt.br ?_ ?_ | with_reducible refine Mt.al ?_ | with_reducible refine Mt.nd ?_)
set_option maxHeartbeats 1000000 in
theorem fr_fX12_piece_l78 {N : Nat} {b : St} {x1 : Int32} {x2 : Int32} {x3 : Int32} {x4 : Int32} {σ : St} {Rr78 : (Int32 → St → Prop) → Int32 → Int32 → St → Prop} (hr78 : ∀ (y0 : Int32) (y1 : Int32) (σ : St), FB b σ → Mt (FB b) (fun Q => Rr78 Q y0 y1 σ)) (hF : FB b σ) : Mt (FB b) (fun Q => fX12_piece_l78 N x1 x2 Q (Rr78 Q) x3 x4 σ) := by
  unfold fX12_piece_l78
  repeat' (first | with_reducible exact Mt.ret (by repeat' (first | assumption | refine FB.u ?_ (by first | decide | omega))) | with_reducible exact hr78 _ _ _ (by repeat' (first | assumption | refine FB.u ?_ (by first | decide | omega))) | with_reducible exact Mt.lp1 (fun rc hr v0 σ hF => fr_fX12_piece_l193 hr hF) _ _ _ (by repeat' (first | assumption | refine FB.u ?_ (by first | decide | omega))) | with_reducible exact fr_fX12_piece_j133 hr78 (by repeat' (first | assumption | refine FB.u ?_ (by first | decide | omega))) | with_reducible exact fr_fX12_piece_j129 hr78 (by repeat' (first | assumption | refine FB.u ?_ (by first | decide | omega))) | with_reducible refine Mt.br ?_ ?_ | with_reducible refine Mt.al ?_ | with_reducible refine Mt.ca (fr_fX12_in (by repeat' (first | assumption | refine FB.u ?_ (by first | decide | omega)))) (fun _ _ hF => ?_) | with_reducible refine Mt.nd ?_)
set_option maxHeartbeats 1000000 in
theorem fr_fX12_piece_j74 {N : Nat} {b : St} {x1 : Int32} {x2 : Int32} {t0 : Int32} {σ : St} (hF : FB b σ) : Mt (FB b) (fun Q => fX12_piece_j74 N x1 x2 t0 Q σ) := by
  unfold fX12_piece_j74
  repeat' (first | with_reducible exact Mt.ret (by repeat' (first | assumption | refine FB.u ?_ (by first | decide | omega))) | with_reducible exact Mt.lp2 (fun rc hr v0 v1 σ hF => fr_fX12_piece_l78 hr hF) _ _ _ _ (by repeat' (first | assumption | refine FB.u ?_ (by first | decide | omega))) | with_reducible refine Mt.br ?_ ?_ | with_reducible refine Mt.al ?_ | with_reducible refine Mt.nd ?_)
set_option maxHeartbeats 1000000 in
theorem fr_fX12_piece_j32 {N : Nat} {b : St} {x1 : Int32} {x2 : Int32} {σ : St} (hF : FB b σ) : Mt (FB b) (fun Q => fX12_piece_j32 N x1 x2 Q σ) := by
  unfold fX12_piece_j32
  repeat' (first | with_reducible exact Mt.ret (by repeat' (first | assumption | refine FB.u ?_ (by first | decide | omega))) | with_reducible exact fr_fX12_piece_j74 (by repeat' (first | assumption | refine FB.u ?_ (by first | decide | omega))) | with_reducible refine Mt.br ?_ ?_ | with_reducible refine Mt.al ?_ | with_reducible refine Mt.ca (fr_fX12_piece_j74 (by repeat' (first | assumption | refine FB.u ?_ (by first | decide | omega)))) (fun _ _ hF => ?_) | with_reducible refine Mt.nd ?_)
set_option maxHeartbeats 1000000 in
theorem fr_fX12_piece_j73 {N : Nat} {b : St} {x1 : Int32} {x2 : Int32} {σ : St} (hF : FB b σ) : Mt (FB b) (fun Q => fX12_piece_j73 N x1 x2 Q σ) := by
  unfold fX12_piece_j73
  repeat' (first | with_reducible exact Mt.ret (by repeat' (first | assumption | refine FB.u ?_ (by first | decide | omega))) | with_reducible exact fr_fX12_piece_j74 (by repeat' (first | assumption | refine FB.u ?_ (by first | decide | omega))) | with_reducible refine Mt.br ?_ ?_ | with_reducible refine Mt.al ?_ | with_reducible refine Mt.ca (fr_fX12_piece_j74 (by repeat' (first | assumption | refine FB.u ?_ (by first | decide | omega)))) (fun _ _ hF => ?_) | with_reducible refine Mt.nd ?_)
set_option maxHeartbeats 1000000 in
theorem fr_fX12_piece_j55 {N : Nat} {b : St} {x1 : Int32} {x2 : Int32} {σ : St} (hF : FB b σ) : Mt (FB b) (fun Q => fX12_piece_j55 N x1 x2 Q σ) := by
  unfold fX12_piece_j55
  repeat' (first | with_reducible exact Mt.ret (by repeat' (first | assumption | refine FB.u ?_ (by first | decide | omega))) | with_reducible exact fr_fX12_piece_j73 (by repeat' (first | assumption | refine FB.u ?_ (by first | decide | omega))) | with_reducible exact fr_fX12_piece_j74 (by repeat' (first | assumption | refine FB.u ?_ (by first | decide | omega))) | with_reducible refine Mt.br ?_ ?_ | with_reducible refine Mt.al ?_ | with_reducible refine Mt.ca (fr_fX12_in (by repeat' (first | assumption | refine FB.u ?_ (by first | decide | omega)))) (fun _ _ hF => ?_) | with_reducible refine Mt.ca (fr_fX12_piece_j73 (by repeat' (first | assumption | refine FB.u ?_ (by first | decide | omega)))) (fun _ _ hF => ?_) | with_reducible refine Mt.ca (fr_fX12_piece_j74 (by repeat' (first | assumption | refine FB.u ?_ (by first | decide | omega)))) (fun _ _ hF => ?_) | with_reducible refine Mt.nd ?_)
set_option maxHeartbeats 1000000 in
theorem fr_fX12_piece {N : Nat} {b : St} {x1 : Int32} {σ : St} (hF : FB b σ) : Mt (FB b) (fun Q => fX12_piece N x1 Q σ) := by
  unfold fX12_piece
  repeat' (first | with_reducible exact Mt.ret (by repeat' (first | assumption | refine FB.u ?_ (by first | decide | omega))) | with_reducible exact fr_fX12_piece_j32 (by repeat' (first | assumption | refine FB.u ?_ (by first | decide | omega))) | with_reducible exact fr_fX12_piece_j55 (by repeat' (first | assumption | refine FB.u ?_ (by first | decide | omega))) | with_reducible exact fr_fX12_piece_j73 (by repeat' (first | assumption | refine FB.u ?_ (by first | decide | omega))) | with_reducible refine Mt.br ?_ ?_ | with_reducible refine Mt.al ?_ | with_reducible refine Mt.ca (fr_fX12_piece_j32 (by repeat' (first | assumption | refine FB.u ?_ (by first | decide | omega)))) (fun _ _ hF => ?_) | with_reducible refine Mt.ca (fr_fX12_piece_j55 (by repeat' (first | assumption | refine FB.u ?_ (by first | decide | omega)))) (fun _ _ hF => ?_) | with_reducible refine Mt.ca (fr_fX12_piece_j73 (by repeat' (first | assumption | refine FB.u ?_ (by first | decide | omega)))) (fun _ _ hF => ?_) | with_reducible refine Mt.nd ?_)
set_option maxHeartbeats 1000000 in
theorem fr_fX12_signOf {N : Nat} {b : St} {x1 : Int32} {x2 : Int32} {σ : St} (hF : FB b σ) : Mt (FB b) (fun Q => fX12_signOf N x1 x2 Q σ) := by
  unfold fX12_signOf
  repeat' (first | with_reducible exact Mt.ret (by repeat' (first | assumption | refine FB.u ?_ (by first | decide | omega))) | with_reducible refine Mt.br ?_ ?_ | with_reducible refine Mt.al ?_ | with_reducible refine Mt.nd ?_)
set_option maxHeartbeats 1000000 in
theorem fr_fX12_parted_l251 {N : Nat} {b : St} {x3 : Int32} {x4 : Int32} {σ : St} {Rr251 : (Int32 → St → Prop) → Int32 → Int32 → St → Prop} (hr251 : ∀ (y0 : Int32) (y1 : Int32) (σ : St), FB b σ → Mt (FB b) (fun Q => Rr251 Q y0 y1 σ)) (hF : FB b σ) : Mt (FB b) (fun Q => fX12_parted_l251 N Q (Rr251 Q) x3 x4 σ) := by
  unfold fX12_parted_l251
  repeat' (first | with_reducible exact Mt.ret (by repeat' (first | assumption | refine FB.u ?_ (by first | decide | omega))) | with_reducible exact hr251 _ _ _ (by repeat' (first | assumption | refine FB.u ?_ (by first | decide | omega))) | with_reducible refine Mt.br ?_ ?_ | with_reducible refine Mt.al ?_ | with_reducible refine Mt.nd ?_)
set_option maxHeartbeats 1000000 in
theorem fr_fX12_parted_j220 {N : Nat} {b : St} {x1 : Int32} {x2 : Int32} {x3 : Int32} {x4 : Int32} {σ : St} {Rr27 : (Int32 → St → Prop) → Int32 → St → Prop} (hr27 : ∀ (y0 : Int32) (σ : St), FB b σ → Mt (FB b) (fun Q => Rr27 Q y0 σ)) {Rr11 : (Int32 → St → Prop) → Int32 → St → Prop} (hr11 : ∀ (y0 : Int32) (σ : St), FB b σ → Mt (FB b) (fun Q => Rr11 Q y0 σ)) (hF : FB b σ) : Mt (FB b) (fun Q => fX12_parted_j220 N (Rr27 Q) (Rr11 Q) x1 x2 x3 x4 Q σ) := by
  unfold fX12_parted_j220
  repeat' (first | with_reducible exact Mt.ret (by repeat' (first | assumption | refine FB.u ?_ (by first | decide | omega))) | with_reducible exact hr27 _ _ (by repeat' (first | assumption | refine FB.u ?_ (by first | decide | omega))) | with_reducible exact hr11 _ _ (by repeat' (first | assumption | refine FB.u ?_ (by first | decide | omega))) | with_reducible refine Mt.br ?_ ?_ | with_reducible refine Mt.al ?_ | with_reducible refine Mt.nd ?_)
set_option maxHeartbeats 1000000 in
theorem fr_fX12_parted_j204 {N : Nat} {b : St} {x1 : Int32} {x2 : Int32} {x3 : Int32} {x4 : Int32} {x7 : Int32} {σ : St} {Rr27 : (Int32 → St → Prop) → Int32 → St → Prop} (hr27 : ∀ (y0 : Int32) (σ : St), FB b σ → Mt (FB b) (fun Q => Rr27 Q y0 σ)) {Rr11 : (Int32 → St → Prop) → Int32 → St → Prop} (hr11 : ∀ (y0 : Int32) (σ : St), FB b σ → Mt (FB b) (fun Q => Rr11 Q y0 σ)) (hF : FB b σ) : Mt (FB b) (fun Q => fX12_parted_j204 N (Rr27 Q) (Rr11 Q) x1 x2 x3 x4 x7 Q σ) := by
  unfold fX12_parted_j204
  repeat' (first | with_reducible exact Mt.ret (by repeat' (first | assumption | refine FB.u ?_ (by first | decide | omega))) | with_reducible exact hr27 _ _ (by repeat' (first | assumption | refine FB.u ?_ (by first | decide | omega))) | with_reducible exact hr11 _ _ (by repeat' (first | assumption | refine FB.u ?_ (by first | decide | omega))) | with_reducible exact fr_fX12_parted_j220 hr27 hr11 (by repeat' (first | assumption | refine FB.u ?_ (by first | decide | omega))) | with_reducible refine Mt.br ?_ ?_ | with_reducible refine Mt.al ?_ | with_reducible refine Mt.nd ?_)
set_option maxHeartbeats 1000000 in
theorem fr_fX12_parted_j148 {N : Nat} {b : St} {x1 : Int32} {x2 : Int32} {x3 : Int32} {x4 : Int32} {x5 : Int32} {x6 : Int32} {σ : St} {Rr27 : (Int32 → St → Prop) → Int32 → St → Prop} (hr27 : ∀ (y0 : Int32) (σ : St), FB b σ → Mt (FB b) (fun Q => Rr27 Q y0 σ)) {Rr11 : (Int32 → St → Prop) → Int32 → St → Prop} (hr11 : ∀ (y0 : Int32) (σ : St), FB b σ → Mt (FB b) (fun Q => Rr11 Q y0 σ)) (hF : FB b σ) : Mt (FB b) (fun Q => fX12_parted_j148 N (Rr27 Q) (Rr11 Q) x1 x2 x3 x4 x5 x6 Q σ) := by
  unfold fX12_parted_j148
  repeat' (first | with_reducible exact Mt.ret (by repeat' (first | assumption | refine FB.u ?_ (by first | decide | omega))) | with_reducible exact hr27 _ _ (by repeat' (first | assumption | refine FB.u ?_ (by first | decide | omega))) | with_reducible exact hr11 _ _ (by repeat' (first | assumption | refine FB.u ?_ (by first | decide | omega))) | with_reducible exact fr_fX12_parted_j220 hr27 hr11 (by repeat' (first | assumption | refine FB.u ?_ (by first | decide | omega))) | with_reducible exact fr_fX12_parted_j204 hr27 hr11 (by repeat' (first | assumption | refine FB.u ?_ (by first | decide | omega))) | with_reducible refine Mt.br ?_ ?_ | with_reducible refine Mt.al ?_ | with_reducible refine Mt.nd ?_)
set_option maxHeartbeats 1000000 in
theorem fr_fX12_parted_j140 {N : Nat} {b : St} {x1 : Int32} {x2 : Int32} {x3 : Int32} {x4 : Int32} {x5 : Int32} {x7 : Int32} {t0 : Int32} {σ : St} {Rr78 : (Int32 → St → Prop) → Int32 → Int32 → St → Prop} (hr78 : ∀ (y0 : Int32) (y1 : Int32) (σ : St), FB b σ → Mt (FB b) (fun Q => Rr78 Q y0 y1 σ)) {Rr27 : (Int32 → St → Prop) → Int32 → St → Prop} (hr27 : ∀ (y0 : Int32) (σ : St), FB b σ → Mt (FB b) (fun Q => Rr27 Q y0 σ)) {Rr11 : (Int32 → St → Prop) → Int32 → St → Prop} (hr11 : ∀ (y0 : Int32) (σ : St), FB b σ → Mt (FB b) (fun Q => Rr11 Q y0 σ)) (hF : FB b σ) : Mt (FB b) (fun Q => fX12_parted_j140 N (Rr78 Q) (Rr27 Q) (Rr11 Q) x1 x2 x3 x4 x5 x7 t0 Q σ) := by
  unfold fX12_parted_j140
  repeat' (first | with_reducible exact Mt.ret (by repeat' (first | assumption | refine FB.u ?_ (by first | decide | omega))) | with_reducible exact hr78 _ _ _ (by repeat' (first | assumption | refine FB.u ?_ (by first | decide | omega))) | with_reducible exact hr27 _ _ (by repeat' (first | assumption | refine FB.u ?_ (by first | decide | omega))) | with_reducible exact hr11 _ _ (by repeat' (first | assumption | refine FB.u ?_ (by first | decide | omega))) | with_reducible refine Mt.br ?_ ?_ | with_reducible refine Mt.al ?_ | with_reducible refine Mt.nd ?_)
set_option maxHeartbeats 1000000 in
theorem fr_fX12_parted_j120 {N : Nat} {b : St} {x1 : Int32} {x2 : Int32} {x3 : Int32} {x4 : Int32} {x5 : Int32} {x7 : Int32} {t0 : Int32} {σ : St} {Rr78 : (Int32 → St → Prop) → Int32 → Int32 → St → Prop} (hr78 : ∀ (y0 : Int32) (y1 : Int32) (σ : St), FB b σ → Mt (FB b) (fun Q => Rr78 Q y0 y1 σ)) {Rr27 : (Int32 → St → Prop) → Int32 → St → Prop} (hr27 : ∀ (y0 : Int32) (σ : St), FB b σ → Mt (FB b) (fun Q => Rr27 Q y0 σ)) {Rr11 : (Int32 → St → Prop) → Int32 → St → Prop} (hr11 : ∀ (y0 : Int32) (σ : St), FB b σ → Mt (FB b) (fun Q => Rr11 Q y0 σ)) (hF : FB b σ) : Mt (FB b) (fun Q => fX12_parted_j120 N (Rr78 Q) (Rr27 Q) (Rr11 Q) x1 x2 x3 x4 x5 x7 t0 Q σ) := by
  unfold fX12_parted_j120
  repeat' (first | with_reducible exact Mt.ret (by repeat' (first | assumption | refine FB.u ?_ (by first | decide | omega))) | with_reducible exact hr78 _ _ _ (by repeat' (first | assumption | refine FB.u ?_ (by first | decide | omega))) | with_reducible exact hr27 _ _ (by repeat' (first | assumption | refine FB.u ?_ (by first | decide | omega))) | with_reducible exact hr11 _ _ (by repeat' (first | assumption | refine FB.u ?_ (by first | decide | omega))) | with_reducible exact fr_fX12_parted_j140 hr78 hr27 hr11 (by repeat' (first | assumption | refine FB.u ?_ (by first | decide | omega))) | with_reducible refine Mt.br ?_ ?_ | with_reducible refine Mt.al ?_ | with_reducible refine Mt.ca (fr_fX12_signOf (by repeat' (first | assumption | refine FB.u ?_ (by first | decide | omega)))) (fun _ _ hF => ?_) | with_reducible refine Mt.nd ?_)
set_option maxHeartbeats 1000000 in
theorem fr_fX12_parted_l78 {N : Nat} {b : St} {x1 : Int32} {x2 : Int32} {x3 : Int32} {x4 : Int32} {x5 : Int32} {x6 : Int32} {x7 : Int32} {σ : St} {Rr27 : (Int32 → St → Prop) → Int32 → St → Prop} (hr27 : ∀ (y0 : Int32) (σ : St), FB b σ → Mt (FB b) (fun Q => Rr27 Q y0 σ)) {Rr11 : (Int32 → St → Prop) → Int32 → St → Prop} (hr11 : ∀ (y0 : Int32) (σ : St), FB b σ → Mt (FB b) (fun Q => Rr11 Q y0 σ)) {Rr78 : (Int32 → St → Prop) → Int32 → Int32 → St → Prop} (hr78 : ∀ (y0 : Int32) (y1 : Int32) (σ : St), FB b σ → Mt (FB b) (fun Q => Rr78 Q y0 y1 σ)) (hF : FB b σ) : Mt (FB b) (fun Q => fX12_parted_l78 N (Rr27 Q) (Rr11 Q) x1 x2 x3 x4 x5 Q (Rr78 Q) x6 x7 σ) := by
  unfold fX12_parted_l78
  repeat' (first | with_reducible exact Mt.ret (by repeat' (first | assumption | refine FB.u ?_ (by first | decide | omega))) | with_reducible exact hr27 _ _ (by repeat' (first | assumption | refine FB.u ?_ (by first | decide | omega))) | with_reducible exact hr11 _ _ (by repeat' (first | assumption | refine FB.u ?_ (by first | decide | omega))) | with_reducible exact hr78 _ _ _ (by repeat' (first | assumption | refine FB.u ?_ (by first | decide | omega))) | with_reducible exact fr_fX12_parted_j148 hr27 hr11 (by repeat' (first | assumption | refine FB.u ?_ (by first | decide | omega))) | with_reducible exact fr_fX12_parted_j120 hr78 hr27 hr11 (by repeat' (first | assumption | refine FB.u ?_ (by first | decide | omega))) | with_reducible refine Mt.br ?_ ?_ | with_reducible refine Mt.al ?_ | with_reducible refine Mt.nd ?_)
set_option maxHeartbeats 1000000 in
theorem fr_fX12_parted_j73 {N : Nat} {b : St} {x1 : Int32} {x2 : Int32} {x3 : Int32} {x4 : Int32} {x5 : Int32} {t0 : Int32} {σ : St} {Rr27 : (Int32 → St → Prop) → Int32 → St → Prop} (hr27 : ∀ (y0 : Int32) (σ : St), FB b σ → Mt (FB b) (fun Q => Rr27 Q y0 σ)) {Rr11 : (Int32 → St → Prop) → Int32 → St → Prop} (hr11 : ∀ (y0 : Int32) (σ : St), FB b σ → Mt (FB b) (fun Q => Rr11 Q y0 σ)) (hF : FB b σ) : Mt (FB b) (fun Q => fX12_parted_j73 N (Rr27 Q) (Rr11 Q) x1 x2 x3 x4 x5 t0 Q σ) := by
  unfold fX12_parted_j73
  repeat' (first | with_reducible exact Mt.ret (by repeat' (first | assumption | refine FB.u ?_ (by first | decide | omega))) | with_reducible exact hr27 _ _ (by repeat' (first | assumption | refine FB.u ?_ (by first | decide | omega))) | with_reducible exact hr11 _ _ (by repeat' (first | assumption | refine FB.u ?_ (by first | decide | omega))) | with_reducible exact Mt.lp2 (fun rc hr v0 v1 σ hF => fr_fX12_parted_l78 hr27 hr11 hr hF) _ _ _ _ (by repeat' (first | assumption | refine FB.u ?_ (by first | decide | omega))) | with_reducible refine Mt.br ?_ ?_ | with_reducible refine Mt.al ?_ | with_reducible refine Mt.nd ?_)
set_option maxHeartbeats 1000000 in
theorem fr_fX12_parted_j72 {N : Nat} {b : St} {x1 : Int32} {x2 : Int32} {x3 : Int32} {x4 : Int32} {x5 : Int32} {σ : St} {Rr27 : (Int32 → St → Prop) → Int32 → St → Prop} (hr27 : ∀ (y0 : Int32) (σ : St), FB b σ → Mt (FB b) (fun Q => Rr27 Q y0 σ)) {Rr11 : (Int32 → St → Prop) → Int32 → St → Prop} (hr11 : ∀ (y0 : Int32) (σ : St), FB b σ → Mt (FB b) (fun Q => Rr11 Q y0 σ)) (hF : FB b σ) : Mt (FB b) (fun Q => fX12_parted_j72 N (Rr27 Q) (Rr11 Q) x1 x2 x3 x4 x5 Q σ) := by
  unfold fX12_parted_j72
  repeat' (first | with_reducible exact Mt.ret (by repeat' (first | assumption | refine FB.u ?_ (by first | decide | omega))) | with_reducible exact hr27 _ _ (by repeat' (first | assumption | refine FB.u ?_ (by first | decide | omega))) | with_reducible exact hr11 _ _ (by repeat' (first | assumption | refine FB.u ?_ (by first | decide | omega))) | with_reducible exact fr_fX12_parted_j73 hr27 hr11 (by repeat' (first | assumption | refine FB.u ?_ (by first | decide | omega))) | with_reducible refine Mt.br ?_ ?_ | with_reducible refine Mt.al ?_ | with_reducible refine Mt.nd ?_)
set_option maxHeartbeats 1000000 in
theorem fr_fX12_parted_l27 {N : Nat} {b : St} {x1 : Int32} {x2 : Int32} {x3 : Int32} {x4 : Int32} {σ : St} {Rr11 : (Int32 → St → Prop) → Int32 → St → Prop} (hr11 : ∀ (y0 : Int32) (σ : St), FB b σ → Mt (FB b) (fun Q => Rr11 Q y0 σ)) {Rr27 : (Int32 → St → Prop) → Int32 → St → Prop} (hr27 : ∀ (y0 : Int32) (σ : St), FB b σ → Mt (FB b) (fun Q => Rr27 Q y0 σ)) (hF : FB b σ) : Mt (FB b) (fun Q => fX12_parted_l27 N (Rr11 Q) x1 x2 x3 Q (Rr27 Q) x4 σ) := by
  unfold fX12_parted_l27
  repeat' (first | with_reducible exact Mt.ret (by repeat' (first | assumption | refine FB.u ?_ (by first | decide | omega))) | with_reducible exact hr11 _ _ (by repeat' (first | assumption | refine FB.u ?_ (by first | decide | omega))) | with_reducible exact hr27 _ _ (by repeat' (first | assumption | refine FB.u ?_ (by first | decide | omega))) | with_reducible exact fr_fX12_parted_j72 hr27 hr11 (by repeat' (first | assumption | refine FB.u ?_ (by first | decide | omega))) | with_reducible exact fr_fX12_parted_j73 hr27 hr11 (by repeat' (first | assumption | refine FB.u ?_ (by first | decide | omega))) | with_reducible refine Mt.br ?_ ?_ | with_reducible refine Mt.al ?_ | with_reducible refine Mt.nd ?_)
set_option maxHeartbeats 1000000 in
theorem fr_fX12_parted_l11 {N : Nat} {b : St} {x1 : Int32} {x2 : Int32} {x3 : Int32} {σ : St} {Rr11 : (Int32 → St → Prop) → Int32 → St → Prop} (hr11 : ∀ (y0 : Int32) (σ : St), FB b σ → Mt (FB b) (fun Q => Rr11 Q y0 σ)) (hF : FB b σ) : Mt (FB b) (fun Q => fX12_parted_l11 N x1 x2 Q (Rr11 Q) x3 σ) := by
  unfold fX12_parted_l11
  repeat' (first | with_reducible exact Mt.ret (by repeat' (first | assumption | refine FB.u ?_ (by first | decide | omega))) | with_reducible exact hr11 _ _ (by repeat' (first | assumption | refine FB.u ?_ (by first | decide | omega))) | with_reducible exact Mt.lp2 (fun rc hr v0 v1 σ hF => fr_fX12_parted_l251 hr hF) _ _ _ _ (by repeat' (first | assumption | refine FB.u ?_ (by first | decide | omega))) | with_reducible exact Mt.lp1 (fun rc hr v0 σ hF => fr_fX12_parted_l27 hr11 hr hF) _ _ _ (by repeat' (first | assumption | refine FB.u ?_ (by first | decide | omega))) | with_reducible refine Mt.br ?_ ?_ | with_reducible refine Mt.al ?_ | with_reducible refine Mt.nd ?_)
set_option maxHeartbeats 1000000 in
theorem fr_fX12_parted {N : Nat} {b : St} {x1 : Int32} {x2 : Int32} {σ : St} (hF : FB b σ) : Mt (FB b) (fun Q => fX12_parted N x1 x2 Q σ) := by
  unfold fX12_parted
  repeat' (first | with_reducible exact Mt.ret (by repeat' (first | assumption | refine FB.u ?_ (by first | decide | omega))) | with_reducible exact Mt.lp1 (fun rc hr v0 σ hF => fr_fX12_parted_l11 hr hF) _ _ _ (by repeat' (first | assumption | refine FB.u ?_ (by first | decide | omega))) | with_reducible refine Mt.br ?_ ?_ | with_reducible refine Mt.al ?_ | with_reducible refine Mt.nd ?_)
set_option maxHeartbeats 1000000 in
theorem fr_fX12_text_l36 {N : Nat} {b : St} {x1 : Int32} {x2 : Int32} {σ : St} {Rr36 : (Int32 → St → Prop) → Int32 → St → Prop} (hr36 : ∀ (y0 : Int32) (σ : St), FB b σ → Mt (FB b) (fun Q => Rr36 Q y0 σ)) (hF : FB b σ) : Mt (FB b) (fun Q => fX12_text_l36 N x1 Q (Rr36 Q) x2 σ) := by
  unfold fX12_text_l36
  repeat' (first | with_reducible exact Mt.ret (by repeat' (first | assumption | refine FB.u ?_ (by first | decide | omega))) | with_reducible exact hr36 _ _ (by repeat' (first | assumption | refine FB.u ?_ (by first | decide | omega))) | with_reducible refine Mt.br ?_ ?_ | with_reducible refine Mt.al ?_ | with_reducible refine Mt.nd ?_)
set_option maxHeartbeats 1000000 in
theorem fr_fX12_text {N : Nat} {b : St} {σ : St} (hF : FB b σ) : Mt (FB b) (fun Q => fX12_text N Q σ) := by
  unfold fX12_text
  repeat' (first | with_reducible exact Mt.ret (by repeat' (first | assumption | refine FB.u ?_ (by first | decide | omega))) | with_reducible exact Mt.lp1 (fun rc hr v0 σ hF => fr_fX12_text_l36 hr hF) _ _ _ (by repeat' (first | assumption | refine FB.u ?_ (by first | decide | omega))) | with_reducible refine Mt.br ?_ ?_ | with_reducible refine Mt.al ?_ | with_reducible refine Mt.ca (fr_fX12_parted (by repeat' (first | assumption | refine FB.u ?_ (by first | decide | omega)))) (fun _ _ hF => ?_) | with_reducible refine Mt.nd ?_)
set_option maxHeartbeats 1000000 in
theorem fr_fX12_laid {N : Nat} {b : St} {x1 : Int32} {x2 : Int32} {σ : St} (hF : FB b σ) : Mt (FB b) (fun Q => fX12_laid N x1 x2 Q σ) := by
  unfold fX12_laid
  repeat' (first | with_reducible exact Mt.ret (by repeat' (first | assumption | refine FB.u ?_ (by first | decide | omega))) | with_reducible refine Mt.br ?_ ?_ | with_reducible refine Mt.al ?_ | with_reducible refine Mt.ca (fr_fX12_in (by repeat' (first | assumption | refine FB.u ?_ (by first | decide | omega)))) (fun _ _ hF => ?_) | with_reducible refine Mt.ca (fr_fX12_parted (by repeat' (first | assumption | refine FB.u ?_ (by first | decide | omega)))) (fun _ _ hF => ?_) | with_reducible refine Mt.nd ?_)
set_option maxHeartbeats 1000000 in
theorem fr_fX12_bits {N : Nat} {b : St} {x1 : Int32} {σ : St} (hF : FB b σ) : Mt (FB b) (fun Q => fX12_bits N x1 Q σ) := by
  unfold fX12_bits
  repeat' (first | with_reducible exact Mt.ret (by repeat' (first | assumption | refine FB.u ?_ (by first | decide | omega))) | with_reducible refine Mt.br ?_ ?_ | with_reducible refine Mt.al ?_ | with_reducible refine Mt.ca (fr_fX12_in (by repeat' (first | assumption | refine FB.u ?_ (by first | decide | omega)))) (fun _ _ hF => ?_) | with_reducible refine Mt.nd ?_)
set_option maxHeartbeats 1000000 in
theorem fr_fX12_forget {N : Nat} {b : St} {σ : St} (hF : FB b σ) : Mt (FB b) (fun Q => fX12_forget N Q σ) := by
  unfold fX12_forget
  repeat' (first | with_reducible exact Mt.ret (by repeat' (first | assumption | refine FB.u ?_ (by first | decide | omega))) | with_reducible refine Mt.br ?_ ?_ | with_reducible refine Mt.al ?_ | with_reducible refine Mt.nd ?_)
