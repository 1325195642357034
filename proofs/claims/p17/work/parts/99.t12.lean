set_option maxHeartbeats 1000000 in
theorem cm_fX12_tell {N : Nat} {x1 : Int32} {x2 : Int32} {σ : St} : C0 (fun Q => fX12_tell N x1 x2 Q σ) := by
  unfold fX12_tell
  repeat' (first | with_reducible exact C0.ret | with_reducible refine C0.br ?_ ?_ | with_reducible refine C0.al ?_ | with_reducible refine C0.nd ?_)
set_option maxHeartbeats 1000000 in
theorem cm_fX12_load_l31 {N : Nat} {x1 : Int32} {x2 : Int32} {x3 : Int32} {σ : St} {Rr31 : (Int32 → St → Prop) → Int32 → St → Prop} (hr31 : ∀ (y0 : Int32) (σ : St), Ct (fun Q => Rr31 Q y0 σ)) : Ct (fun Q => fX12_load_l31 N x1 x2 Q (Rr31 Q) x3 σ) := by
  unfold fX12_load_l31
  repeat' (first | with_reducible exact Ct.ret | with_reducible exact hr31 _ _ | with_reducible refine Ct.br ?_ ?_ | with_reducible refine Ct.al ?_ | with_reducible refine Ct.cv cm_fX12_tell (fun _ => ?_) | with_reducible refine Ct.nd ?_)
set_option maxHeartbeats 1000000 in
theorem cm_fX12_load {N : Nat} {x1 : Int32} {σ : St} : Ct (fun Q => fX12_load N x1 Q σ) := by
  unfold fX12_load
  repeat' (first | with_reducible exact Ct.ret | with_reducible exact Ct.lp1 (fun rc hr v0 σ => cm_fX12_load_l31 hr) _ _ _ | with_reducible refine Ct.br ?_ ?_ | with_reducible refine Ct.al ?_ | with_reducible refine Ct.nd ?_)
set_option maxHeartbeats 1000000 in
theorem cm_fX12_signOf {N : Nat} {x1 : Int32} {x2 : Int32} {σ : St} : Ct (fun Q => fX12_signOf N x1 x2 Q σ) := by
  unfold fX12_signOf
  repeat' (first | with_reducible exact Ct.ret | with_reducible refine Ct.br ?_ ?_ | with_reducible refine Ct.al ?_ | with_reducible refine Ct.nd ?_)
set_option maxHeartbeats 1000000 in
theorem cm_fX12_parted_l251 {N : Nat} {x3 : Int32} {x4 : Int32} {σ : St} {Rr251 : (Int32 → St → Prop) → Int32 → Int32 → St → Prop} (hr251 : ∀ (y0 : Int32) (y1 : Int32) (σ : St), Ct (fun Q => Rr251 Q y0 y1 σ)) : Ct (fun Q => fX12_parted_l251 N Q (Rr251 Q) x3 x4 σ) := by
  unfold fX12_parted_l251
  repeat' (first | with_reducible exact Ct.ret | with_reducible exact hr251 _ _ _ | with_reducible refine Ct.br ?_ ?_ | with_reducible refine Ct.al ?_ | with_reducible refine Ct.nd ?_)
set_option maxHeartbeats 1000000 in
theorem cm_fX12_parted_j220 {N : Nat} {x1 : Int32} {x2 : Int32} {x3 : Int32} {x4 : Int32} {σ : St} {Rr27 : (Int32 → St → Prop) → Int32 → St → Prop} (hr27 : ∀ (y0 : Int32) (σ : St), Ct (fun Q => Rr27 Q y0 σ)) {Rr11 : (Int32 → St → Prop) → Int32 → St → Prop} (hr11 : ∀ (y0 : Int32) (σ : St), Ct (fun Q => Rr11 Q y0 σ)) : Ct (fun Q => fX12_parted_j220 N (Rr27 Q) (Rr11 Q) x1 x2 x3 x4 Q σ) := by
  unfold fX12_parted_j220
  repeat' (first | with_reducible exact Ct.ret | with_reducible exact hr27 _ _ | with_reducible exact hr11 _ _ | with_reducible refine Ct.br ?_ ?_ | with_reducible refine Ct.al ?_ | with_reducible refine Ct.nd ?_)
set_option maxHeartbeats 1000000 in
theorem cm_fX12_parted_j204 {N : Nat} {x1 : Int32} {x2 : Int32} {x3 : Int32} {x4 : Int32} {x7 : Int32} {σ : St} {Rr27 : (Int32 → St → Prop) → Int32 → St → Prop} (hr27 : ∀ (y0 : Int32) (σ : St), Ct (fun Q => Rr27 Q y0 σ)) {Rr11 : (Int32 → St → Prop) → Int32 → St → Prop} (hr11 : ∀ (y0 : Int32) (σ : St), Ct (fun Q => Rr11 Q y0 σ)) : Ct (fun Q => fX12_parted_j204 N (Rr27 Q) (Rr11 Q) x1 x2 x3 x4 x7 Q σ) := by
  unfold fX12_parted_j204
  repeat' (first | with_reducible exact Ct.ret | with_reducible exact hr27 _ _ | with_reducible exact hr11 _ _ | with_reducible exact cm_fX12_parted_j220 hr27 hr11 | with_reducible refine Ct.br ?_ ?_ | with_reducible refine Ct.al ?_ | with_reducible refine Ct.nd ?_)
set_option maxHeartbeats 1000000 in
theorem cm_fX12_parted_j148 {N : Nat} {x1 : Int32} {x2 : Int32} {x3 : Int32} {x4 : Int32} {x5 : Int32} {x6 : Int32} {σ : St} {Rr27 : (Int32 → St → Prop) → Int32 → St → Prop} (hr27 : ∀ (y0 : Int32) (σ : St), Ct (fun Q => Rr27 Q y0 σ)) {Rr11 : (Int32 → St → Prop) → Int32 → St → Prop} (hr11 : ∀ (y0 : Int32) (σ : St), Ct (fun Q => Rr11 Q y0 σ)) : Ct (fun Q => fX12_parted_j148 N (Rr27 Q) (Rr11 Q) x1 x2 x3 x4 x5 x6 Q σ) := by
  unfold fX12_parted_j148
  repeat' (first | with_reducible exact Ct.ret | with_reducible exact hr27 _ _ | with_reducible exact hr11 _ _ | with_reducible exact cm_fX12_parted_j220 hr27 hr11 | with_reducible exact cm_fX12_parted_j204 hr27 hr11 | with_reducible refine Ct.br ?_ ?_ | with_reducible refine Ct.al ?_ | with_reducible refine Ct.nd ?_)
set_option maxHeartbeats 1000000 in
theorem cm_fX12_parted_j140 {N : Nat} {x1 : Int32} {x2 : Int32} {x3 : Int32} {x4 : Int32} {x5 : Int32} {x7 : Int32} {t0 : Int32} {σ : St} {Rr78 : (Int32 → St → Prop) → Int32 → Int32 → St → Prop} (hr78 : ∀ (y0 : Int32) (y1 : Int32) (σ : St), Ct (fun Q => Rr78 Q y0 y1 σ)) {Rr27 : (Int32 → St → Prop) → Int32 → St → Prop} (hr27 : ∀ (y0 : Int32) (σ : St), Ct (fun Q => Rr27 Q y0 σ)) {Rr11 : (Int32 → St → Prop) → Int32 → St → Prop} (hr11 : ∀ (y0 : Int32) (σ : St), Ct (fun Q => Rr11 Q y0 σ)) : Ct (fun Q => fX12_parted_j140 N (Rr78 Q) (Rr27 Q) (Rr11 Q) x1 x2 x3 x4 x5 x7 t0 Q σ) := by
  unfold fX12_parted_j140
  repeat' (first | with_reducible exact Ct.ret | with_reducible exact hr78 _ _ _ | with_reducible exact hr27 _ _ | with_reducible exact hr11 _ _ | with_reducible refine Ct.br ?_ ?_ | with_reducible refine Ct.al ?_ | with_reducible refine Ct.nd ?_)
set_option maxHeartbeats 1000000 in
theorem cm_fX12_parted_j120 {N : Nat} {x1 : Int32} {x2 : Int32} {x3 : Int32} {x4 : Int32} {x5 : Int32} {x7 : Int32} {t0 : Int32} {σ : St} {Rr78 : (Int32 → St → Prop) → Int32 → Int32 → St → Prop} (hr78 : ∀ (y0 : Int32) (y1 : Int32) (σ : St), Ct (fun Q => Rr78 Q y0 y1 σ)) {Rr27 : (Int32 → St → Prop) → Int32 → St → Prop} (hr27 : ∀ (y0 : Int32) (σ : St), Ct (fun Q => Rr27 Q y0 σ)) {Rr11 : (Int32 → St → Prop) → Int32 → St → Prop} (hr11 : ∀ (y0 : Int32) (σ : St), Ct (fun Q => Rr11 Q y0 σ)) : Ct (fun Q => fX12_parted_j120 N (Rr78 Q) (Rr27 Q) (Rr11 Q) x1 x2 x3 x4 x5 x7 t0 Q σ) := by
  unfold fX12_parted_j120
  repeat' (first | with_reducible exact Ct.ret | with_reducible exact hr78 _ _ _ | with_reducible exact hr27 _ _ | with_reducible exact hr11 _ _ | with_reducible exact cm_fX12_parted_j140 hr78 hr27 hr11 | with_reducible refine Ct.br ?_ ?_ | with_reducible refine Ct.al ?_ | with_reducible refine Ct.ca cm_fX12_signOf (fun _ _ => ?_) | with_reducible refine Ct.nd ?_)
set_option maxHeartbeats 1000000 in
theorem cm_fX12_parted_l78 {N : Nat} {x1 : Int32} {x2 : Int32} {x3 : Int32} {x4 : Int32} {x5 : Int32} {x6 : Int32} {x7 : Int32} {σ : St} {Rr27 : (Int32 → St → Prop) → Int32 → St → Prop} (hr27 : ∀ (y0 : Int32) (σ : St), Ct (fun Q => Rr27 Q y0 σ)) {Rr11 : (Int32 → St → Prop) → Int32 → St → Prop} (hr11 : ∀ (y0 : Int32) (σ : St), Ct (fun Q => Rr11 Q y0 σ)) {Rr78 : (Int32 → St → Prop) → Int32 → Int32 → St → Prop} (hr78 : ∀ (y0 : Int32) (y1 : Int32) (σ : St), Ct (fun Q => Rr78 Q y0 y1 σ)) : Ct (fun Q => fX12_parted_l78 N (Rr27 Q) (Rr11 Q) x1 x2 x3 x4 x5 Q (Rr78 Q) x6 x7 σ) := by
  unfold fX12_parted_l78
  repeat' (first | with_reducible exact Ct.ret | with_reducible exact hr27 _ _ | with_reducible exact hr11 _ _ | with_reducible exact hr78 _ _ _ | with_reducible exact cm_fX12_parted_j148 hr27 hr11 | with_reducible exact cm_fX12_parted_j120 hr78 hr27 hr11 | with_reducible refine Ct.br ?_ ?_ | with_reducible refine Ct.al ?_ | with_reducible refine Ct.nd ?_)
set_option maxHeartbeats 1000000 in
theorem cm_fX12_parted_j73 {N : Nat} {x1 : Int32} {x2 : Int32} {x3 : Int32} {x4 : Int32} {x5 : Int32} {t0 : Int32} {σ : St} {Rr27 : (Int32 → St → Prop) → Int32 → St → Prop} (hr27 : ∀ (y0 : Int32) (σ : St), Ct (fun Q => Rr27 Q y0 σ)) {Rr11 : (Int32 → St → Prop) → Int32 → St → Prop} (hr11 : ∀ (y0 : Int32) (σ : St), Ct (fun Q => Rr11 Q y0 σ)) : Ct (fun Q => fX12_parted_j73 N (Rr27 Q) (Rr11 Q) x1 x2 x3 x4 x5 t0 Q σ) := by
  unfold fX12_parted_j73
  repeat' (first | with_reducible exact Ct.ret | with_reducible exact hr27 _ _ | with_reducible exact hr11 _ _ | with_reducible exact Ct.lp2 (fun rc hr v0 v1 σ => cm_fX12_parted_l78 hr27 hr11 hr) _ _ _ _ | with_reducible refine Ct.br ?_ ?_ | with_reducible refine Ct.al ?_ | with_reducible refine Ct.nd ?_)
set_option maxHeartbeats 1000000 in
theorem cm_fX12_parted_j72 {N : Nat} {x1 : Int32} {x2 : Int32} {x3 : Int32} {x4 : Int32} {x5 : Int32} {σ : St} {Rr27 : (Int32 → St → Prop) → Int32 → St → Prop} (hr27 : ∀ (y0 : Int32) (σ : St), Ct (fun Q => Rr27 Q y0 σ)) {Rr11 : (Int32 → St → Prop) → Int32 → St → Prop} (hr11 : ∀ (y0 : Int32) (σ : St), Ct (fun Q => Rr11 Q y0 σ)) : Ct (fun Q => fX12_parted_j72 N (Rr27 Q) (Rr11 Q) x1 x2 x3 x4 x5 Q σ) := by
  unfold fX12_parted_j72
  repeat' (first | with_reducible exact Ct.ret | with_reducible exact hr27 _ _ | with_reducible exact hr11 _ _ | with_reducible exact cm_fX12_parted_j73 hr27 hr11 | with_reducible refine Ct.br ?_ ?_ | with_reducible refine Ct.al ?_ | with_reducible refine Ct.nd ?_)
set_option maxHeartbeats 1000000 in
theorem cm_fX12_parted_l27 {N : Nat} {x1 : Int32} {x2 : Int32} {x3 : Int32} {x4 : Int32} {σ : St} {Rr11 : (Int32 → St → Prop) → Int32 → St → Prop} (hr11 : ∀ (y0 : Int32) (σ : St), Ct (fun Q => Rr11 Q y0 σ)) {Rr27 : (Int32 → St → Prop) → Int32 → St → Prop} (hr27 : ∀ (y0 : Int32) (σ : St), Ct (fun Q => Rr27 Q y0 σ)) : Ct (fun Q => fX12_parted_l27 N (Rr11 Q) x1 x2 x3 Q (Rr27 Q) x4 σ) := by
  unfold fX12_parted_l27
  repeat' (first | with_reducible exact Ct.ret | with_reducible exact hr11 _ _ | with_reducible exact hr27 _ _ | with_reducible exact cm_fX12_parted_j72 hr27 hr11 | with_reducible exact cm_fX12_parted_j73 hr27 hr11 | with_reducible refine Ct.br ?_ ?_ | with_reducible refine Ct.al ?_ | with_reducible refine Ct.nd ?_)
set_option maxHeartbeats 1000000 in
theorem cm_fX12_parted_l11 {N : Nat} {x1 : Int32} {x2 : Int32} {x3 : Int32} {σ : St} {Rr11 : (Int32 → St → Prop) → Int32 → St → Prop} (hr11 : ∀ (y0 : Int32) (σ : St), Ct (fun Q => Rr11 Q y0 σ)) : Ct (fun Q => fX12_parted_l11 N x1 x2 Q (Rr11 Q) x3 σ) := by
  unfold fX12_parted_l11
  repeat' (first | with_reducible exact Ct.ret | with_reducible exact hr11 _ _ | with_reducible exact Ct.lp2 (fun rc hr v0 v1 σ => cm_fX12_parted_l251 hr) _ _ _ _ | with_reducible exact Ct.lp1 (fun rc hr v0 σ => cm_fX12_parted_l27 hr11 hr) _ _ _ | with_reducible refine Ct.br ?_ ?_ | with_reducible refine Ct.al ?_ | with_reducible refine Ct.nd ?_)
set_option maxHeartbeats 1000000 in
theorem cm_fX12_parted {N : Nat} {x1 : Int32} {x2 : Int32} {σ : St} : Ct (fun Q => fX12_parted N x1 x2 Q σ) := by
  unfold fX12_parted
  repeat' (first | with_reducible exact Ct.ret | with_reducible exact Ct.lp1 (fun rc hr v0 σ => cm_fX12_parted_l11 hr) _ _ _ | with_reducible refine Ct.br ?_ ?_ | with_reducible refine Ct.al ?_ | with_reducible refine Ct.nd ?_)
set_option maxHeartbeats 1000000 in
theorem cm_fX12_leaf {N : Nat} {x1 : Int32} {x2 : Int32} {x3 : Int32} {σ : St} : C0 (fun Q => fX12_leaf N x1 x2 x3 Q σ) := by
  unfold fX12_leaf
  repeat' (first | with_reducible exact C0.ret | with_reducible refine C0.br ?_ ?_ | with_reducible refine C0.al ?_ | with_reducible refine C0.nd ?_)
set_option maxHeartbeats 1000000 in
theorem cm_fX12_sizeOf {N : Nat} {x1 : Int32} {σ : St} : Ct (fun Q => fX12_sizeOf N x1 Q σ) := by
  unfold fX12_sizeOf
  repeat' (first | with_reducible exact Ct.ret | with_reducible refine Ct.br ?_ ?_ | with_reducible refine Ct.al ?_ | with_reducible refine Ct.nd ?_)
set_option maxHeartbeats 1000000 in
theorem cm_fX12_least_j42 {N : Nat} {x1 : Int32} {x2 : Int32} {σ : St} {Rr4 : (Int32 → St → Prop) → Int32 → Int32 → St → Prop} (hr4 : ∀ (y0 : Int32) (y1 : Int32) (σ : St), Ct (fun Q => Rr4 Q y0 y1 σ)) : Ct (fun Q => fX12_least_j42 N (Rr4 Q) x1 x2 Q σ) := by
  unfold fX12_least_j42
  repeat' (first | with_reducible exact Ct.ret | with_reducible exact hr4 _ _ _ | with_reducible refine Ct.br ?_ ?_ | with_reducible refine Ct.al ?_ | with_reducible refine Ct.nd ?_)
set_option maxHeartbeats 1000000 in
theorem cm_fX12_least_j40 {N : Nat} {x2 : Int32} {σ : St} {Rr4 : (Int32 → St → Prop) → Int32 → Int32 → St → Prop} (hr4 : ∀ (y0 : Int32) (y1 : Int32) (σ : St), Ct (fun Q => Rr4 Q y0 y1 σ)) : Ct (fun Q => fX12_least_j40 N (Rr4 Q) x2 Q σ) := by
  unfold fX12_least_j40
  repeat' (first | with_reducible exact Ct.ret | with_reducible exact hr4 _ _ _ | with_reducible exact cm_fX12_least_j42 hr4 | with_reducible refine Ct.br ?_ ?_ | with_reducible refine Ct.al ?_ | with_reducible refine Ct.nd ?_)
set_option maxHeartbeats 1000000 in
theorem cm_fX12_least_l4 {N : Nat} {x1 : Int32} {x2 : Int32} {σ : St} {Rr4 : (Int32 → St → Prop) → Int32 → Int32 → St → Prop} (hr4 : ∀ (y0 : Int32) (y1 : Int32) (σ : St), Ct (fun Q => Rr4 Q y0 y1 σ)) : Ct (fun Q => fX12_least_l4 N Q (Rr4 Q) x1 x2 σ) := by
  unfold fX12_least_l4
  repeat' (first | with_reducible exact Ct.ret | with_reducible exact hr4 _ _ _ | with_reducible exact cm_fX12_least_j42 hr4 | with_reducible exact cm_fX12_least_j40 hr4 | with_reducible refine Ct.br ?_ ?_ | with_reducible refine Ct.al ?_ | with_reducible refine Ct.nd ?_)
set_option maxHeartbeats 1000000 in
theorem cm_fX12_least {N : Nat} {σ : St} : Ct (fun Q => fX12_least N Q σ) := by
  unfold fX12_least
  repeat' (first | with_reducible exact Ct.ret | with_reducible exact Ct.lp2 (fun rc hr v0 v1 σ => cm_fX12_least_l4 hr) _ _ _ _ | with_reducible refine Ct.br ?_ ?_ | with_reducible refine Ct.al ?_ | with_reducible refine Ct.nd ?_)
set_option maxHeartbeats 1000000 in
theorem cm_fX12_join_l155 {N : Nat} {x1 : Int32} {σ : St} {Rr155 : (St → Prop) → Int32 → St → Prop} (hr155 : ∀ (y0 : Int32) (σ : St), C0 (fun Q => Rr155 Q y0 σ)) : C0 (fun Q => fX12_join_l155 N Q (Rr155 Q) x1 σ) := by
  unfold fX12_join_l155
  repeat' (first | with_reducible exact C0.ret | with_reducible exact hr155 _ _ | with_reducible refine C0.br ?_ ?_ | with_reducible refine C0.al ?_ | with_reducible refine C0.ca cm_fX12_least (fun _ _ => ?_) | with_reducible refine C0.cv cm_fX12_leaf (fun _ => ?_) | with_reducible refine C0.nd ?_)
set_option maxHeartbeats 1000000 in
theorem cm_fX12_join_j139 {N : Nat} {x1 : Int32} {σ : St} {Rr96 : (St → Prop) → Int32 → St → Prop} (hr96 : ∀ (y0 : Int32) (σ : St), C0 (fun Q => Rr96 Q y0 σ)) : C0 (fun Q => fX12_join_j139 N (Rr96 Q) x1 Q σ) := by
  unfold fX12_join_j139
  repeat' (first | with_reducible exact C0.ret | with_reducible exact hr96 _ _ | with_reducible refine C0.br ?_ ?_ | with_reducible refine C0.al ?_ | with_reducible refine C0.nd ?_)
set_option maxHeartbeats 1000000 in
theorem cm_fX12_join_l96 {N : Nat} {x1 : Int32} {σ : St} {Rr96 : (St → Prop) → Int32 → St → Prop} (hr96 : ∀ (y0 : Int32) (σ : St), C0 (fun Q => Rr96 Q y0 σ)) : C0 (fun Q => fX12_join_l96 N Q (Rr96 Q) x1 σ) := by
  unfold fX12_join_l96
  repeat' (first | with_reducible exact C0.ret | with_reducible exact hr96 _ _ | with_reducible exact C0.lp1 (fun rc hr v0 σ => cm_fX12_join_l155 hr) _ _ _ | with_reducible exact cm_fX12_join_j139 hr96 | with_reducible refine C0.br ?_ ?_ | with_reducible refine C0.al ?_ | with_reducible refine C0.ca cm_fX12_sizeOf (fun _ _ => ?_) | with_reducible refine C0.cv cm_fX12_leaf (fun _ => ?_) | with_reducible refine C0.nd ?_)
set_option maxHeartbeats 1000000 in
theorem cm_fX12_join_l62 {N : Nat} {x1 : Int32} {x2 : Int32} {x3 : Int32} {σ : St} {Rr40 : (St → Prop) → Int32 → St → Prop} (hr40 : ∀ (y0 : Int32) (σ : St), C0 (fun Q => Rr40 Q y0 σ)) {Rr62 : (St → Prop) → Int32 → St → Prop} (hr62 : ∀ (y0 : Int32) (σ : St), C0 (fun Q => Rr62 Q y0 σ)) : C0 (fun Q => fX12_join_l62 N (Rr40 Q) x1 x2 Q (Rr62 Q) x3 σ) := by
  unfold fX12_join_l62
  repeat' (first | with_reducible exact C0.ret | with_reducible exact hr40 _ _ | with_reducible exact hr62 _ _ | with_reducible refine C0.br ?_ ?_ | with_reducible refine C0.al ?_ | with_reducible refine C0.nd ?_)
set_option maxHeartbeats 1000000 in
theorem cm_fX12_join_l40 {N : Nat} {x1 : Int32} {σ : St} {Rr40 : (St → Prop) → Int32 → St → Prop} (hr40 : ∀ (y0 : Int32) (σ : St), C0 (fun Q => Rr40 Q y0 σ)) : C0 (fun Q => fX12_join_l40 N Q (Rr40 Q) x1 σ) := by
  unfold fX12_join_l40
  repeat' (first | with_reducible exact C0.ret | with_reducible exact hr40 _ _ | with_reducible exact C0.lp1 (fun rc hr v0 σ => cm_fX12_join_l96 hr) _ _ _ | with_reducible exact C0.lp1 (fun rc hr v0 σ => cm_fX12_join_l62 hr40 hr) _ _ _ | with_reducible refine C0.br ?_ ?_ | with_reducible refine C0.al ?_ | with_reducible refine C0.ca cm_fX12_parted (fun _ _ => ?_) | with_reducible refine C0.nd ?_)
set_option maxHeartbeats 1000000 in
theorem cm_fX12_join_l17 {N : Nat} {x1 : Int32} {σ : St} {Rr17 : (St → Prop) → Int32 → St → Prop} (hr17 : ∀ (y0 : Int32) (σ : St), C0 (fun Q => Rr17 Q y0 σ)) : C0 (fun Q => fX12_join_l17 N Q (Rr17 Q) x1 σ) := by
  unfold fX12_join_l17
  repeat' (first | with_reducible exact C0.ret | with_reducible exact hr17 _ _ | with_reducible exact C0.lp1 (fun rc hr v0 σ => cm_fX12_join_l40 hr) _ _ _ | with_reducible refine C0.br ?_ ?_ | with_reducible refine C0.al ?_ | with_reducible refine C0.nd ?_)
set_option maxHeartbeats 1000000 in
theorem cm_fX12_join {N : Nat} {σ : St} : C0 (fun Q => fX12_join N Q σ) := by
  unfold fX12_join
  repeat' (first | with_reducible exact C0.ret | with_reducible exact C0.lp1 (fun rc hr v0 σ => cm_fX12_join_l17 hr) _ _ _ | with_reducible refine C0.br ?_ ?_ | with_reducible refine C0.al ?_ | with_reducible refine C0.cv cm_fX12_leaf (fun _ => ?_) | with_reducible refine C0.nd ?_)
set_option maxHeartbeats 1000000 in
theorem cm_fX12_places_l31 {N : Nat} {x2 : Int32} {σ : St} {Rr31 : (St → Prop) → Int32 → St → Prop} (hr31 : ∀ (y0 : Int32) (σ : St), C0 (fun Q => Rr31 Q y0 σ)) : C0 (fun Q => fX12_places_l31 N Q (Rr31 Q) x2 σ) := by
  unfold fX12_places_l31
  repeat' (first | with_reducible exact C0.ret | with_reducible exact hr31 _ _ | with_reducible refine C0.br ?_ ?_ | with_reducible refine C0.al ?_ | with_reducible refine C0.nd ?_)
set_option maxHeartbeats 1000000 in
theorem cm_fX12_places {N : Nat} {x1 : Int32} {σ : St} : C0 (fun Q => fX12_places N x1 Q σ) := by
  unfold fX12_places
  repeat' (first | with_reducible exact C0.ret | with_reducible exact C0.lp1 (fun rc hr v0 σ => cm_fX12_places_l31 hr) _ _ _ | with_reducible refine C0.br ?_ ?_ | with_reducible refine C0.al ?_ | with_reducible refine C0.nd ?_)
set_option maxHeartbeats 1000000 in
theorem cm_fX12_tellFour_l2 {N : Nat} {x1 : Int32} {x2 : Int32} {x3 : Int32} {σ : St} {Rr2 : (St → Prop) → Int32 → St → Prop} (hr2 : ∀ (y0 : Int32) (σ : St), C0 (fun Q => Rr2 Q y0 σ)) : C0 (fun Q => fX12_tellFour_l2 N x1 x2 Q (Rr2 Q) x3 σ) := by
  unfold fX12_tellFour_l2
  repeat' (first | with_reducible exact C0.ret | with_reducible exact hr2 _ _ | with_reducible refine C0.br ?_ ?_ | with_reducible refine C0.al ?_ | with_reducible refine C0.cv cm_fX12_tell (fun _ => ?_) | with_reducible refine C0.nd ?_)
set_option maxHeartbeats 1000000 in
theorem cm_fX12_tellFour {N : Nat} {x1 : Int32} {x2 : Int32} {σ : St} : C0 (fun Q => fX12_tellFour N x1 x2 Q σ) := by
  unfold fX12_tellFour
  repeat' (first | with_reducible exact C0.ret | with_reducible exact C0.lp1 (fun rc hr v0 σ => cm_fX12_tellFour_l2 hr) _ _ _ | with_reducible refine C0.br ?_ ?_ | with_reducible refine C0.al ?_ | with_reducible refine C0.nd ?_)
set_option maxHeartbeats 1000000 in
theorem cm_fX12_lay_j208 {N : Nat} {x2 : Int32} {x3 : Int32} {σ : St} : C0 (fun Q => fX12_lay_j208 N x2 x3 Q σ) := by
  unfold fX12_lay_j208
  repeat' (first | with_reducible exact C0.ret | with_reducible refine C0.br ?_ ?_ | with_reducible refine C0.al ?_ | with_reducible refine C0.cv cm_fX12_tellFour (fun _ => ?_) | with_reducible refine C0.nd ?_)
set_option maxHeartbeats 1000000 in
theorem cm_fX12_lay_j184 {N : Nat} {x3 : Int32} {x4 : Int32} {x5 : Int32} {t0 : Int32} {t1 : Int32} {σ : St} {Rr120 : (St → Prop) → Int32 → Int32 → St → Prop} (hr120 : ∀ (y0 : Int32) (y1 : Int32) (σ : St), C0 (fun Q => Rr120 Q y0 y1 σ)) : C0 (fun Q => fX12_lay_j184 N (Rr120 Q) x3 x4 x5 t0 t1 Q σ) := by
  unfold fX12_lay_j184
  repeat' (first | with_reducible exact C0.ret | with_reducible exact hr120 _ _ _ | with_reducible refine C0.br ?_ ?_ | with_reducible refine C0.al ?_ | with_reducible refine C0.nd ?_)
set_option maxHeartbeats 1000000 in
theorem cm_fX12_lay_j173 {N : Nat} {x2 : Int32} {x3 : Int32} {x4 : Int32} {x5 : Int32} {σ : St} {Rr120 : (St → Prop) → Int32 → Int32 → St → Prop} (hr120 : ∀ (y0 : Int32) (y1 : Int32) (σ : St), C0 (fun Q => Rr120 Q y0 y1 σ)) : C0 (fun Q => fX12_lay_j173 N (Rr120 Q) x2 x3 x4 x5 Q σ) := by
  unfold fX12_lay_j173
  repeat' (first | with_reducible exact C0.ret | with_reducible exact hr120 _ _ _ | with_reducible exact cm_fX12_lay_j184 hr120 | with_reducible refine C0.br ?_ ?_ | with_reducible refine C0.al ?_ | with_reducible refine C0.nd ?_)
set_option maxHeartbeats 1000000 in
theorem cm_fX12_lay_l120 {N : Nat} {x3 : Int32} {x4 : Int32} {x2 : Int32} {x5 : Int32} {σ : St} {Rr120 : (St → Prop) → Int32 → Int32 → St → Prop} (hr120 : ∀ (y0 : Int32) (y1 : Int32) (σ : St), C0 (fun Q => Rr120 Q y0 y1 σ)) : C0 (fun Q => fX12_lay_l120 N x3 x4 Q (Rr120 Q) x2 x5 σ) := by
  unfold fX12_lay_l120
  repeat' (first | with_reducible exact C0.ret | with_reducible exact hr120 _ _ _ | with_reducible exact cm_fX12_lay_j208 | with_reducible exact cm_fX12_lay_j173 hr120 | with_reducible refine C0.br ?_ ?_ | with_reducible refine C0.al ?_ | with_reducible refine C0.cv cm_fX12_tell (fun _ => ?_) | with_reducible refine C0.cv cm_fX12_lay_j208 (fun _ => ?_) | with_reducible refine C0.cv cm_fX12_tellFour (fun _ => ?_) | with_reducible refine C0.nd ?_)
set_option maxHeartbeats 1000000 in
theorem cm_fX12_lay_j101 {N : Nat} {x2 : Int32} {x3 : Int32} {t0 : Int32} {σ : St} : C0 (fun Q => fX12_lay_j101 N x2 x3 t0 Q σ) := by
  unfold fX12_lay_j101
  repeat' (first | with_reducible exact C0.ret | with_reducible exact C0.lp2 (fun rc hr v0 v1 σ => cm_fX12_lay_l120 hr) _ _ _ _ | with_reducible refine C0.br ?_ ?_ | with_reducible refine C0.al ?_ | with_reducible refine C0.cv cm_fX12_tell (fun _ => ?_) | with_reducible refine C0.nd ?_)
set_option maxHeartbeats 1000000 in
theorem cm_fX12_lay {N : Nat} {x1 : Int32} {σ : St} : C0 (fun Q => fX12_lay N x1 Q σ) := by
  unfold fX12_lay
  repeat' (first | with_reducible exact C0.ret | with_reducible exact cm_fX12_lay_j101 | with_reducible refine C0.br ?_ ?_ | with_reducible refine C0.al ?_ | with_reducible refine C0.cv cm_fX12_tell (fun _ => ?_) | with_reducible refine C0.cv cm_fX12_lay_j101 (fun _ => ?_) | with_reducible refine C0.cv cm_fX12_tellFour (fun _ => ?_) | with_reducible refine C0.nd ?_)
set_option maxHeartbeats 1000000 in
theorem cm_fX12_way__j131 {N : Nat} {x1 : Int32} {x2 : Int32} {σ : St} {Rr2 : (St → Prop) → Int32 → St → Prop} (hr2 : ∀ (y0 : Int32) (σ : St), C0 (fun Q => Rr2 Q y0 σ)) : C0 (fun Q => fX12_way__j131 N (Rr2 Q) x1 x2 Q σ) := by
  unfold fX12_way__j131
  repeat' (first | with_reducible exact C0.ret | with_reducible exact hr2 _ _ | with_reducible refine C0.br ?_ ?_ | with_reducible refine C0.al ?_ | with_reducible refine C0.nd ?_)
set_option maxHeartbeats 1000000 in
theorem cm_fX12_way__j70 {N : Nat} {x1 : Int32} {x2 : Int32} {t0 : Int32} {σ : St} {Rr2 : (St → Prop) → Int32 → St → Prop} (hr2 : ∀ (y0 : Int32) (σ : St), C0 (fun Q => Rr2 Q y0 σ)) : C0 (fun Q => fX12_way__j70 N (Rr2 Q) x1 x2 t0 Q σ) := by
  unfold fX12_way__j70
  repeat' (first | with_reducible exact C0.ret | with_reducible exact hr2 _ _ | with_reducible exact cm_fX12_way__j131 hr2 | with_reducible refine C0.br ?_ ?_ | with_reducible refine C0.al ?_ | with_reducible refine C0.cv cm_fX12_tell (fun _ => ?_) | with_reducible refine C0.nd ?_)
set_option maxHeartbeats 1000000 in
theorem cm_fX12_way__j50 {N : Nat} {x1 : Int32} {x2 : Int32} {x3 : Int32} {σ : St} {Rr2 : (St → Prop) → Int32 → St → Prop} (hr2 : ∀ (y0 : Int32) (σ : St), C0 (fun Q => Rr2 Q y0 σ)) : C0 (fun Q => fX12_way__j50 N (Rr2 Q) x1 x2 x3 Q σ) := by
  unfold fX12_way__j50
  repeat' (first | with_reducible exact C0.ret | with_reducible exact hr2 _ _ | with_reducible exact cm_fX12_way__j70 hr2 | with_reducible refine C0.br ?_ ?_ | with_reducible refine C0.al ?_ | with_reducible refine C0.nd ?_)
set_option maxHeartbeats 1000000 in
theorem cm_fX12_way__l14 {N : Nat} {x1 : Int32} {x2 : Int32} {x3 : Int32} {σ : St} {Rr2 : (St → Prop) → Int32 → St → Prop} (hr2 : ∀ (y0 : Int32) (σ : St), C0 (fun Q => Rr2 Q y0 σ)) {Rr14 : (St → Prop) → Int32 → St → Prop} (hr14 : ∀ (y0 : Int32) (σ : St), C0 (fun Q => Rr14 Q y0 σ)) : C0 (fun Q => fX12_way__l14 N (Rr2 Q) x1 x2 Q (Rr14 Q) x3 σ) := by
  unfold fX12_way__l14
  repeat' (first | with_reducible exact C0.ret | with_reducible exact hr2 _ _ | with_reducible exact hr14 _ _ | with_reducible exact cm_fX12_way__j50 hr2 | with_reducible refine C0.br ?_ ?_ | with_reducible refine C0.al ?_ | with_reducible refine C0.cv cm_fX12_tell (fun _ => ?_) | with_reducible refine C0.nd ?_)
set_option maxHeartbeats 1000000 in
theorem cm_fX12_way__l2 {N : Nat} {x1 : Int32} {x2 : Int32} {σ : St} {Rr2 : (St → Prop) → Int32 → St → Prop} (hr2 : ∀ (y0 : Int32) (σ : St), C0 (fun Q => Rr2 Q y0 σ)) : C0 (fun Q => fX12_way__l2 N x1 Q (Rr2 Q) x2 σ) := by
  unfold fX12_way__l2
  repeat' (first | with_reducible exact C0.ret | with_reducible exact hr2 _ _ | with_reducible exact C0.lp1 (fun rc hr v0 σ => cm_fX12_way__l14 hr2 hr) _ _ _ | with_reducible refine C0.br ?_ ?_ | with_reducible refine C0.al ?_ | with_reducible refine C0.nd ?_)
set_option maxHeartbeats 1000000 in
theorem cm_fX12_way_ {N : Nat} {x1 : Int32} {σ : St} : C0 (fun Q => fX12_way_ N x1 Q σ) := by
  unfold fX12_way_
  repeat' (first | with_reducible exact C0.ret | with_reducible exact C0.lp1 (fun rc hr v0 σ => cm_fX12_way__l2 hr) _ _ _ | with_reducible refine C0.br ?_ ?_ | with_reducible refine C0.al ?_ | with_reducible refine C0.nd ?_)
set_option maxHeartbeats 1000000 in
theorem cm_fX12_tree_j474 {N : Nat} {x5 : Int32} {x6 : Int32} {t0 : Int32} {t1 : Int32} {σ : St} {Rr427 : (Int32 → St → Prop) → Int32 → St → Prop} (hr427 : ∀ (y0 : Int32) (σ : St), Ct (fun Q => Rr427 Q y0 σ)) : Ct (fun Q => fX12_tree_j474 N (Rr427 Q) x5 x6 t0 t1 Q σ) := by
  unfold fX12_tree_j474
  repeat' (first | with_reducible exact Ct.ret | with_reducible exact hr427 _ _ | with_reducible refine Ct.br ?_ ?_ | with_reducible refine Ct.al ?_ | with_reducible refine Ct.nd ?_)
set_option maxHeartbeats 1000000 in
theorem cm_fX12_tree_l427 {N : Nat} {x5 : Int32} {x6 : Int32} {σ : St} {Rr427 : (Int32 → St → Prop) → Int32 → St → Prop} (hr427 : ∀ (y0 : Int32) (σ : St), Ct (fun Q => Rr427 Q y0 σ)) : Ct (fun Q => fX12_tree_l427 N x5 Q (Rr427 Q) x6 σ) := by
  unfold fX12_tree_l427
  repeat' (first | with_reducible exact Ct.ret | with_reducible exact hr427 _ _ | with_reducible exact cm_fX12_tree_j474 hr427 | with_reducible refine Ct.br ?_ ?_ | with_reducible refine Ct.al ?_ | with_reducible refine Ct.nd ?_)
set_option maxHeartbeats 1000000 in
theorem cm_fX12_tree_j404 {N : Nat} {x5 : Int32} {x6 : Int32} {t0 : Int32} {t1 : Int32} {σ : St} {Rr249 : (Int32 → St → Prop) → Int32 → St → Prop} (hr249 : ∀ (y0 : Int32) (σ : St), Ct (fun Q => Rr249 Q y0 σ)) : Ct (fun Q => fX12_tree_j404 N (Rr249 Q) x5 x6 t0 t1 Q σ) := by
  unfold fX12_tree_j404
  repeat' (first | with_reducible exact Ct.ret | with_reducible exact hr249 _ _ | with_reducible refine Ct.br ?_ ?_ | with_reducible refine Ct.al ?_ | with_reducible refine Ct.nd ?_)
set_option maxHeartbeats 1000000 in
theorem cm_fX12_tree_l326 {N : Nat} {x5 : Int32} {x6 : Int32} {x7 : Int32} {x8 : Int32} {σ : St} {Rr249 : (Int32 → St → Prop) → Int32 → St → Prop} (hr249 : ∀ (y0 : Int32) (σ : St), Ct (fun Q => Rr249 Q y0 σ)) {Rr326 : (Int32 → St → Prop) → Int32 → St → Prop} (hr326 : ∀ (y0 : Int32) (σ : St), Ct (fun Q => Rr326 Q y0 σ)) : Ct (fun Q => fX12_tree_l326 N (Rr249 Q) x5 x6 x7 Q (Rr326 Q) x8 σ) := by
  unfold fX12_tree_l326
  repeat' (first | with_reducible exact Ct.ret | with_reducible exact hr249 _ _ | with_reducible exact hr326 _ _ | with_reducible exact cm_fX12_tree_j404 hr249 | with_reducible refine Ct.br ?_ ?_ | with_reducible refine Ct.al ?_ | with_reducible refine Ct.cv cm_fX12_way_ (fun _ => ?_) | with_reducible refine Ct.nd ?_)
set_option maxHeartbeats 1000000 in
theorem cm_fX12_tree_l249 {N : Nat} {x5 : Int32} {x6 : Int32} {σ : St} {Rr249 : (Int32 → St → Prop) → Int32 → St → Prop} (hr249 : ∀ (y0 : Int32) (σ : St), Ct (fun Q => Rr249 Q y0 σ)) : Ct (fun Q => fX12_tree_l249 N x5 Q (Rr249 Q) x6 σ) := by
  unfold fX12_tree_l249
  repeat' (first | with_reducible exact Ct.ret | with_reducible exact hr249 _ _ | with_reducible exact Ct.lp1 (fun rc hr v0 σ => cm_fX12_tree_l427 hr) _ _ _ | with_reducible exact Ct.lp1 (fun rc hr v0 σ => cm_fX12_tree_l326 hr249 hr) _ _ _ | with_reducible refine Ct.br ?_ ?_ | with_reducible refine Ct.al ?_ | with_reducible refine Ct.ca cm_fX12_parted (fun _ _ => ?_) | with_reducible refine Ct.cv cm_fX12_tell (fun _ => ?_) | with_reducible refine Ct.nd ?_)
set_option maxHeartbeats 1000000 in
theorem cm_fX12_tree_l210 {N : Nat} {x1 : Int32} {x2 : Int32} {x5 : Int32} {x6 : Int32} {σ : St} {Rr210 : (Int32 → St → Prop) → Int32 → St → Prop} (hr210 : ∀ (y0 : Int32) (σ : St), Ct (fun Q => Rr210 Q y0 σ)) : Ct (fun Q => fX12_tree_l210 N x1 x2 x5 Q (Rr210 Q) x6 σ) := by
  unfold fX12_tree_l210
  repeat' (first | with_reducible exact Ct.ret | with_reducible exact hr210 _ _ | with_reducible exact Ct.lp1 (fun rc hr v0 σ => cm_fX12_tree_l249 hr) _ _ _ | with_reducible refine Ct.br ?_ ?_ | with_reducible refine Ct.al ?_ | with_reducible refine Ct.cv cm_fX12_lay (fun _ => ?_) | with_reducible refine Ct.nd ?_)
set_option maxHeartbeats 1000000 in
theorem cm_fX12_tree_l89 {N : Nat} {x1 : Int32} {x2 : Int32} {x3 : Int64} {x5 : Int32} {x6 : Int32} {x7 : Int32} {x8 : Int32} {x9 : Int32} {σ : St} {Rr54 : (Int32 → St → Prop) → Int64 → Int32 → Int32 → St → Prop} (hr54 : ∀ (y0 : Int64) (y1 : Int32) (y2 : Int32) (σ : St), Ct (fun Q => Rr54 Q y0 y1 y2 σ)) {Rr89 : (Int32 → St → Prop) → Int32 → Int32 → St → Prop} (hr89 : ∀ (y0 : Int32) (y1 : Int32) (σ : St), Ct (fun Q => Rr89 Q y0 y1 σ)) : Ct (fun Q => fX12_tree_l89 N (Rr54 Q) x1 x2 x3 x5 x6 x7 Q (Rr89 Q) x8 x9 σ) := by
  unfold fX12_tree_l89
  repeat' (first | with_reducible exact Ct.ret | with_reducible exact hr54 _ _ _ _ | with_reducible exact hr89 _ _ _ | with_reducible refine Ct.br ?_ ?_ | with_reducible refine Ct.al ?_ | with_reducible refine Ct.nd ?_)
set_option maxHeartbeats 1000000 in
theorem cm_fX12_tree_l54 {N : Nat} {x1 : Int32} {x2 : Int32} {x3 : Int64} {x5 : Int32} {x6 : Int32} {σ : St} {Rr54 : (Int32 → St → Prop) → Int64 → Int32 → Int32 → St → Prop} (hr54 : ∀ (y0 : Int64) (y1 : Int32) (y2 : Int32) (σ : St), Ct (fun Q => Rr54 Q y0 y1 y2 σ)) : Ct (fun Q => fX12_tree_l54 N x1 x2 Q (Rr54 Q) x3 x5 x6 σ) := by
  unfold fX12_tree_l54
  repeat' (first | with_reducible exact Ct.ret | with_reducible exact hr54 _ _ _ _ | with_reducible exact Ct.lp1 (fun rc hr v0 σ => cm_fX12_tree_l210 hr) _ _ _ | with_reducible exact Ct.lp2 (fun rc hr v0 v1 σ => cm_fX12_tree_l89 hr54 hr) _ _ _ _ | with_reducible refine Ct.br ?_ ?_ | with_reducible refine Ct.al ?_ | with_reducible refine Ct.cv cm_fX12_places (fun _ => ?_) | with_reducible refine Ct.cv cm_fX12_tellFour (fun _ => ?_) | with_reducible refine Ct.ca cm_fX12_parted (fun _ _ => ?_) | with_reducible refine Ct.nd ?_)
set_option maxHeartbeats 1000000 in
theorem cm_fX12_tree {N : Nat} {x1 : Int32} {σ : St} : Ct (fun Q => fX12_tree N x1 Q σ) := by
  unfold fX12_tree
  repeat' (first | with_reducible exact Ct.ret | with_reducible exact Ct.lp3 (fun rc hr v0 v1 v2 σ => cm_fX12_tree_l54 hr) _ _ _ _ _ | with_reducible refine Ct.br ?_ ?_ | with_reducible refine Ct.al ?_ | with_reducible refine Ct.cv cm_fX12_join (fun _ => ?_) | with_reducible refine Ct.cv cm_fX12_places (fun _ => ?_) | with_reducible refine Ct.nd ?_)
