theorem ld10 {y : Int64} (h : 0 ≤ y.toInt) : (y / 10).toInt = y.toInt / 10 := by
  rw [Int64.toInt_div_of_ne_left _ _ (by intro q; rw [q] at h; exact absurd h (by decide))]
  rw [show (10 : Int64).toInt = 10 from by decide, Int.tdiv_eq_ediv_of_nonneg h]
theorem lneg {x : Int32} : (-x.toInt64).toInt = -x.toInt := by
  have h := tB x
  rw [Int64.toInt_neg, Int32.toInt_toInt64, Int.bmod_def]
  split <;> omega
theorem sX12_digits {N : Nat} (hN : 4294967400 ≤ N) {x0 : Int32} {Q : Int32 → St → Prop} {σ0 σ : St} (hσ : K2 σ0 σ) (hQ : ∀ r : Int32, True → Q r σ) : fX12_digits N x0 Q σ := by
  have hb := tB x0
  have key : ∀ (t : Int64) (n0 : Int32), 0 ≤ t.toInt → t.toInt ≤ 2147483648 → lo2 (fX12_digits_l23 N Q) N t n0 σ := by
    intro t n0 h1 h2
    refine lo2_i (fun (y : Int64) (_ : Int32) (τ : St) => σ = τ ∧ 0 ≤ y.toInt) (fun y _ _ => y.toInt.toNat) ?_ N t n0 σ ⟨rfl, h1⟩ (by (try dsimp only); omega)
    intro rr y z τ hI ih
    obtain ⟨e, hy⟩ := hI
    subst e
    unfold fX12_digits_l23
    refine ⟨fun _ => hQ _ trivial, fun c => ?_⟩
    have f := (notltE64 (rfl : y.toInt = y.toInt) (show (10 : Int64).toInt = 10 from by decide)).mp c
    intro v ev u eu
    have f2 : v.toInt = y.toInt / 10 := by rw [ev]; exact ld10 hy
    exact ih v u σ ⟨rfl, by omega⟩ (by (try dsimp only); omega)
  unfold fX12_digits
  refine ⟨fun c => ?_, fun c => ?_⟩
  · have f := (leE (show (0 : Int32).toInt = 0 from by decide) (rfl : x0.toInt = x0.toInt)).mp c
    have f2 : x0.toInt64.toInt = x0.toInt := i2lE rfl
    unfold fX12_digits_j12 fX12_digits_j22
    exact ⟨fun _ => key _ _ (by omega) (by omega), fun _ => key _ _ (by omega) (by omega)⟩
  · have f := (notleE (show (0 : Int32).toInt = 0 from by decide) (rfl : x0.toInt = x0.toInt)).mp c
    have f2 := lneg (x := x0)
    unfold fX12_digits_j12 fX12_digits_j22
    exact ⟨fun _ => key _ _ (by omega) (by omega), fun _ => key _ _ (by omega) (by omega)⟩
theorem sX12_digit {N : Nat} (hN : 4294967400 ≤ N) {x0 x1 : Int32} {Q : Int32 → St → Prop} {σ0 σ : St} (hσ : K2 σ0 σ) (hQ : ∀ r : Int32, True → Q r σ) : fX12_digit N x0 x1 Q σ := by
  have key : ∀ t : Int64, fX12_digit_j23 N x0 x1 t Q σ := by
    intro t
    unfold fX12_digit_j23
    refine sX12_digits hN hσ (fun r _ => ?_)
    intro v ev
    have z0 : (0 : Int32).toInt = 0 := by decide
    refine lo2_i (fun (_ : Int64) (z : Int32) (τ : St) => σ = τ ∧ 0 ≤ z.toInt) (fun _ z _ => (2147483648 - z.toInt).toNat) ?_ N t 0 σ ⟨rfl, by decide⟩ (by (try dsimp only); omega)
    intro rr y z τ hI ih
    obtain ⟨e, hz⟩ := hI
    subst e
    unfold fX12_digit_l37
    refine ⟨fun _ => hQ _ trivial, fun c => ?_⟩
    have f := (notleE (rfl : v.toInt = v.toInt) (rfl : z.toInt = z.toInt)).mp c
    have f3 := tB v
    intro u eu u2 eu2
    have f2 : u2.toInt = z.toInt + 1 := (congrArg Int32.toInt eu2).trans (aOkE rfl (show (1 : Int32).toInt = 1 from by decide) (by omega) (by omega))
    exact ih u u2 σ ⟨rfl, by omega⟩ (by (try dsimp only); omega)
  have key2 : fX12_digit_j11 N x0 x1 Q σ := ⟨fun _ => key _, fun _ => key _⟩
  exact ⟨fun _ => key2, fun _ => ⟨fun _ => hQ _ trivial, fun _ => key2⟩⟩
theorem K2.ua {σ0 σ : St} (h : K2 σ0 σ) {k j : Nat} {v : Int32} (hr : Rg2 k j v) (hk : k ≠ 0 ∧ k ≠ 16 ∧ k ≠ 18 ∧ k ≠ 13) : K2 σ0 (u1 σ k j v) :=
  h.u hr (fun q => hk.1 q.1) (fun q => hk.1 q.1) ⟨⟨hk.2.1, hk.2.2.1⟩, fun q => hk.1 q.1⟩ ⟨hk.2.2.2, fun q => hk.1 q.1⟩
theorem K2.uf {σ0 σ : St} (h : K2 σ0 σ) {j : Nat} {v : Int32} (hr : Rg2 0 j v) (hj : j ≠ 1 ∧ j ≠ 3 ∧ j ≠ 36 ∧ j ≠ 14) : K2 σ0 (u1 σ 0 j v) :=
  h.u hr (fun q => hj.1 q.2) (fun q => hj.2.1 q.2) ⟨⟨by decide, by decide⟩, fun q => hj.2.2.1 q.2⟩ ⟨by decide, fun q => hj.2.2.2 q.2⟩
theorem G2.ua {σ : St} (h : G2 σ) {k j : Nat} {v : Int32} (hr : Rg2 k j v) (hk : k ≠ 0 ∧ k ≠ 16 ∧ k ≠ 18 ∧ k ≠ 13) : G2 (u1 σ k j v) :=
  h.u hr ⟨⟨hk.2.1, hk.2.2.1⟩, fun q => hk.1 q.1⟩ ⟨hk.2.2.2, fun q => hk.1 q.1⟩
theorem G2.uf {σ : St} (h : G2 σ) {j : Nat} {v : Int32} (hr : Rg2 0 j v) (hj : j ≠ 36 ∧ j ≠ 14) : G2 (u1 σ 0 j v) :=
  h.u hr ⟨⟨by decide, by decide⟩, fun q => hj.1 q.2⟩ ⟨by decide, fun q => hj.2 q.2⟩
/-- only the fault may differ -/
def Fr9 (σ τ : St) : Prop := ∀ a b : Nat, ¬ (a = 0 ∧ b = 9) → τ.1 a b = σ.1 a b
theorem Fr9.rfl' {σ : St} : Fr9 σ σ := fun _ _ _ => rfl
theorem Fr9.tr {σ τ υ : St} (h : Fr9 σ τ) (h2 : Fr9 τ υ) : Fr9 σ υ := fun a b q => (h2 a b q).trans (h a b q)
theorem tX12_fails {N : Nat} {x1 : Int32} {Q : St → Prop} {σ0 σ : St} (h1 : 1 ≤ x1.toInt) (h2 : x1.toInt ≤ 9) (hσ : K2 σ0 σ) (hQ : ∀ τ : St, K2 σ0 τ → Fr9 σ τ → Q τ) : fX12_fails N x1 Q σ := by
  have f := K2.g_0_9 hσ
  unfold fX12_fails fX12_fails_j16
  refine ⟨fun _ τ e => hQ τ ?_ (fun a b q => kq e q), fun _ τ e => hQ τ ?_ (fun a b q => kq e q)⟩
  · rw [e]; exact hσ.uf (Rg2.r_0_9 (by omega) (by omega)) (by decide)
  · rw [e]; exact hσ.uf (Rg2.r_0_9 (by omega) (by omega)) (by decide)
theorem tX12_read {N : Nat} {x1 : Int64} {Q : Int32 → St → Prop} {σ0 σ : St} (hσ : K2 σ0 σ) (hQ : ∀ (r : Int32) (τ : St), K2 σ0 τ → Fr9 σ τ → 0 ≤ r.toInt ∧ r.toInt ≤ 255 → Q r τ) : fX12_read N x1 Q σ := by
  have z1 : (1 : Int32).toInt = 1 := by decide
  have z0 : 0 ≤ (0 : Int32).toInt ∧ (0 : Int32).toInt ≤ 255 := by decide
  have hf : fX12_fails N 1 (fun σ_5 => Q 0 σ_5) σ := tX12_fails (by rw [z1]; decide) (by rw [z1]; decide) hσ (fun τ k f => hQ 0 τ k f z0)
  unfold fX12_read fX12_in
  refine ⟨fun _ => ⟨fun _ => hf, fun q => absurd rfl q⟩, fun c => ⟨fun _ => ⟨fun _ => hf, fun q => absurd rfl q⟩, fun c2 => ⟨fun q => absurd q (by decide), fun _ => ⟨?_, hQ _ _ hσ Fr9.rfl' (K2.ga_1 hσ _)⟩⟩⟩⟩
  have f1 := (notltE64 (rfl : x1.toInt = x1.toInt) (show (0 : Int64).toInt = 0 from by decide)).mp c
  have f2 := (notltE64 (show (4095 : Int64).toInt = 4095 from by decide) (rfl : x1.toInt = x1.toInt)).mp c2
  exact inE (l2iE (rfl : x1.toInt = x1.toInt) (by omega) (by omega)) (by omega) (by omega)
theorem tX12_four {N : Nat} (hN : 4294967400 ≤ N) {x1 : Int64} {Q : Int32 → St → Prop} {σ0 σ : St} (hσ : K2 σ0 σ) (hQ : ∀ (r : Int32) (τ : St), K2 σ0 τ → Fr9 σ τ → Q r τ) : fX12_four N x1 Q σ := by
  unfold fX12_four
  refine lo2_i (fun (_ y : Int32) (τ : St) => K2 σ0 τ ∧ Fr9 σ τ ∧ 0 ≤ y.toInt) (fun _ y _ => (2147483648 - y.toInt).toNat) ?_ N 0 0 σ ⟨hσ, Fr9.rfl', by decide⟩ (by have z0 : (0 : Int32).toInt = 0 := (by decide); (try dsimp only); omega)
  intro rr x y τ hI ih
  obtain ⟨hτ, i1, i2⟩ := hI
  unfold fX12_four_l5
  refine ⟨fun _ => hQ _ _ hτ i1, fun c => ?_⟩
  have f1 := (notleE (show (4 : Int32).toInt = 4 from by decide) (rfl : y.toInt = y.toInt)).mp c
  refine tX12_read hτ (fun r υ hυ g1 _ => ?_)
  intro v ev v2 ev2
  have f2 : v2.toInt = y.toInt + 1 := (congrArg Int32.toInt ev2).trans (aOkE rfl (show (1 : Int32).toInt = 1 from by decide) (by omega) (by omega))
  exact ih v v2 υ ⟨hυ, i1.tr g1, by omega⟩ (by (try dsimp only); omega)
theorem tX12_endOf {N : Nat} (hN : 4294967400 ≤ N) {x1 : Int32} {x2 : Int64} {Q : Int64 → St → Prop} {σ0 σ : St} (h1 : 0 ≤ x1.toInt) (h2 : x1.toInt ≤ 4095) (h3 : 0 ≤ x2.toInt) (h4 : x2.toInt ≤ 4096) (hσ : K2 σ0 σ) (hQ : ∀ (r : Int64) (τ : St), K2 σ0 τ → Fr9 σ τ → Q r τ) : fX12_endOf N x1 x2 Q σ := by
  have hend : ∀ r : Int64, Q r σ := fun r => hQ r σ hσ Fr9.rfl'
  have h110 : fX12_endOf_j110 N x1 x2 Q σ := by
    unfold fX12_endOf_j110
    refine ⟨fun _ => tX12_four hN hσ (fun r τ k f => ?_), fun _ => hend _⟩
    unfold fX12_in
    exact ⟨fun _ => ⟨fun _ => hQ _ _ k f, fun q => absurd rfl q⟩, fun _ => ⟨fun _ => ⟨fun _ => hQ _ _ k f, fun q => absurd rfl q⟩, fun _ => ⟨fun q => absurd q (by decide), fun _ => hQ _ _ k f⟩⟩⟩
  unfold fX12_endOf
  refine ⟨inE (rfl : x1.toInt = x1.toInt) (by omega) (by omega), ?_⟩
  intro v2 ev2 v3 ev3
  have f3 : v3.toInt = x1.toInt + 1 := (congrArg Int64.toInt ev3).trans (aOkE64 (i2lE rfl) (show (1 : Int64).toInt = 1 from by decide) (by omega) (by omega))
  refine ⟨fun _ => ?_, fun _ => ⟨fun _ => ?_, fun _ => ⟨fun _ => h110, fun _ => ⟨fun _ => h110, fun _ => ⟨fun _ => hend _, fun _ => ⟨fun _ => hend _, fun _ => ⟨fun _ => hend _, fun _ => ⟨fun _ => hend _, fun _ => ⟨fun _ => hend _, fun _ => ⟨fun _ => hend _, fun _ => hend _⟩⟩⟩⟩⟩⟩⟩⟩⟩⟩
  · refine lo1_i (fun (y : Int64) (τ : St) => τ = σ ∧ 0 ≤ y.toInt ∧ y.toInt ≤ 4096) (fun y _ => (5000 - y.toInt).toNat) ?_ N v3 σ ⟨rfl, by omega, by omega⟩ (by (try dsimp only); omega)
    intro rr y τ hI ih
    obtain ⟨rfl, i1, i2⟩ := hI
    unfold fX12_endOf_l20 fX12_endOf_j47
    refine ⟨fun _ => hend _, fun c => ⟨?_, fun _ => hend _, fun _ => ?_⟩⟩
    · have f1 := (notleE64 (rfl : x2.toInt = x2.toInt) (rfl : y.toInt = y.toInt)).mp c
      exact inE (l2iE (rfl : y.toInt = y.toInt) (by omega) (by omega)) (by omega) (by omega)
    · have f1 := (notleE64 (rfl : x2.toInt = x2.toInt) (rfl : y.toInt = y.toInt)).mp c
      intro v ev
      have f2 : v.toInt = y.toInt + 1 := (congrArg Int64.toInt ev).trans (aOkE64 rfl (show (1 : Int64).toInt = 1 from by decide) (by omega) (by omega))
      exact ih v _ ⟨rfl, by omega, by omega⟩ (by (try dsimp only); omega)
  · refine lo1_i (fun (y : Int64) (τ : St) => K2 σ0 τ ∧ Fr9 σ τ ∧ 0 ≤ y.toInt ∧ y.toInt ≤ 4096) (fun y _ => (5000 - y.toInt).toNat) ?_ N v3 σ ⟨hσ, Fr9.rfl', by omega, by omega⟩ (by (try dsimp only); omega)
    intro rr y τ hI ih
    obtain ⟨hτ, g1, i1, i2⟩ := hI
    unfold fX12_endOf_l58 fX12_endOf_j89
    refine ⟨fun _ => hQ _ _ hτ g1, fun c => ?_⟩
    have f0 : (y + 4).toInt = y.toInt + 4 := aOkE64 rfl (show (4 : Int64).toInt = 4 from by decide) (by omega) (by omega)
    have f1 := (notltE64 (rfl : x2.toInt = x2.toInt) f0).mp c
    refine tX12_four hN hτ (fun r υ hυ g2 => ⟨fun _ => hQ _ _ hυ (g1.tr g2), fun _ => ?_⟩)
    intro v ev
    have f2 : v.toInt = y.toInt + 4 := (congrArg Int64.toInt ev).trans f0
    exact ih v _ ⟨hυ, g1.tr g2, by omega, by omega⟩ (by (try dsimp only); omega)
/-- how many places of a row below n are not 0 -/
def cnt (f : Nat → Int32) : Nat → Nat
  | 0 => 0
  | n + 1 => cnt f n + (if f n = 0 then 0 else 1)
theorem cnt_le (f : Nat → Int32) : ∀ n : Nat, cnt f n ≤ n
  | 0 => Nat.le_refl 0
  | n + 1 => by
    have := cnt_le f n
    show cnt f n + (if f n = 0 then 0 else 1) ≤ n + 1
    split <;> omega
theorem cnt_ge {f : Nat → Int32} {i : Nat} {v : Int32} : ∀ n : Nat, n ≤ i → cnt (upd f i v) n = cnt f n
  | 0, _ => rfl
  | n + 1, h => by
    show cnt (upd f i v) n + (if upd f i v n = 0 then 0 else 1) = cnt f n + (if f n = 0 then 0 else 1)
    rw [cnt_ge n (by omega), show upd f i v n = f n from if_neg (by omega)]
theorem cnt_up {f : Nat → Int32} {i : Nat} {v : Int32} (h0 : f i = 0) (hv : v ≠ 0) : ∀ n : Nat, i < n → cnt (upd f i v) n = cnt f n + 1
  | 0, h => absurd h (Nat.not_lt_zero _)
  | n + 1, h => by
    show cnt (upd f i v) n + (if upd f i v n = 0 then 0 else 1) = cnt f n + (if f n = 0 then 0 else 1) + 1
    by_cases hi : i = n
    · subst hi
      rw [cnt_ge i (Nat.le_refl _), show upd f i v i = v from if_pos rfl, if_neg hv, h0, if_pos rfl]
    · rw [cnt_up h0 hv n (by omega), show upd f i v n = f n from if_neg (fun q => hi q.symm)]
      omega
theorem cnt_dn {f : Nat → Int32} {i : Nat} (h0 : f i ≠ 0) : ∀ n : Nat, i < n → cnt (upd f i 0) n + 1 = cnt f n
  | 0, h => absurd h (Nat.not_lt_zero _)
  | n + 1, h => by
    show cnt (upd f i 0) n + (if upd f i 0 n = 0 then 0 else 1) + 1 = cnt f n + (if f n = 0 then 0 else 1)
    by_cases hi : i = n
    · subst hi
      rw [cnt_ge i (Nat.le_refl _), show upd f i 0 i = (0 : Int32) from if_pos rfl, if_pos rfl, if_neg h0]
    · have := cnt_dn h0 n (by omega)
      rw [show upd f i 0 n = f n from if_neg (fun q => hi q.symm)]
      omega
theorem cnt_ext {f g : Nat → Int32} : ∀ n : Nat, (∀ i : Nat, i < n → f i = g i) → cnt f n = cnt g n
  | 0, _ => rfl
  | n + 1, h => by
    show cnt f n + (if f n = 0 then 0 else 1) = cnt g n + (if g n = 0 then 0 else 1)
    rw [cnt_ext n (fun i q => h i (by omega)), h n (by omega)]
/-- what the reading of a tree may change -/
def FrL (σ τ : St) : Prop := ∀ a b : Nat, ¬ (a = 4 ∨ a = 5 ∨ (a = 0 ∧ (b = 6 ∨ b = 7 ∨ b = 9))) → τ.1 a b = σ.1 a b
theorem FrL.tr {σ τ υ : St} (h : FrL σ τ) (h2 : FrL τ υ) : FrL σ υ := fun a b q => (h2 a b q).trans (h a b q)
theorem FrL.u {σ τ υ : St} (h : FrL σ τ) {k j : Nat} {v : Int32} (e : υ = u1 τ k j v) (hk : k = 4 ∨ k = 5 ∨ (k = 0 ∧ (j = 6 ∨ j = 7 ∨ j = 9))) : FrL σ υ := fun a b q => (kq e (fun z => q (by rw [z.1, z.2]; exact hk))).trans (h a b q)
theorem FrL.nine {σ τ υ : St} (h : FrL σ τ) (h2 : Fr9 τ υ) : FrL σ υ := fun a b q => (h2 a b (fun z => q (Or.inr (Or.inr ⟨z.1, Or.inr (Or.inr z.2)⟩)))).trans (h a b q)
set_option maxHeartbeats 1000000 in
theorem sX12_lies {N : Nat} (hN : 4294967400 ≤ N) {x1 : Int32} {Q : St → Prop} {σ0 σ : St} (hσ : K2 σ0 σ) (hQ : ∀ τ : St, K2 σ0 τ → (τ.1 0 14 = σ.1 0 14 ∧ τ.1 0 35 = σ.1 0 35 ∧ τ.1 0 24 = σ.1 0 24 ∧ τ.1 0 36 = σ.1 0 36 ∧ τ.1 0 41 = σ.1 0 41 ∧ τ.1 0 50 = σ.1 0 50 ∧ τ.1 0 51 = σ.1 0 51) → Q τ) : fX12_lies N x1 Q σ := by
  have hQ' : ∀ τ : St, K2 σ0 τ → FrL σ τ → Q τ := fun τ k f => hQ τ k ⟨f 0 14 (by omega), f 0 35 (by omega), f 0 24 (by omega), f 0 36 (by omega), f 0 41 (by omega), f 0 50 (by omega), f 0 51 (by omega)⟩
  have z0 : (0 : Int32).toInt = 0 := by decide
  unfold fX12_lies
  intro σ1 e1 σ2 e2
  have k1 : K2 σ0 σ1 := by rw [e1]; exact hσ.uf (Rg2.u_0_6 _) (by decide)
  have k2 : K2 σ0 σ2 := by rw [e2]; exact k1.uf (Rg2.u_0_7 _) (by decide)
  have l1 : FrL σ σ1 := FrL.u (fun _ _ _ => rfl) e1 (by omega)
  have l2 : FrL σ σ2 := l1.u e2 (by omega)
  refine ⟨fun _ => hQ' _ k2 l2, fun c1 => ⟨fun _ => ?_, fun _ => hQ' _ k2 l2⟩⟩
  have f1 := (notleE (rfl : x1.toInt = x1.toInt) (show (0 : Int32).toInt = 0 from by decide)).mp c1
  have b1 := tB x1
  refine tX12_four hN k2 (fun r σ3 k3 g3 => ?_)
  have l3 := l2.nine g3
  intro v ev
  have fv : v.toInt = r.toInt := (congrArg Int64.toInt ev).trans (i2lE rfl)
  have b2 := tB r
  refine ⟨fun _ => hQ' _ k3 l3, fun c2 => ⟨fun c3 => ?_, fun _ => hQ' _ k3 l3⟩⟩
  have f2 := (notltE64 (rfl : v.toInt = v.toInt) (show (12 : Int64).toInt = 12 from by decide)).mp c2
  have b3 := K2.g_0_1 k3
  have fs : (x1.toInt64 + v).toInt = x1.toInt + v.toInt := aOkE64 (i2lE rfl) rfl (by omega) (by omega)
  have f3 := (leE64 fs (i2lE (rfl : (σ3.1 0 1).toInt = (σ3.1 0 1).toInt))).mp c3
  intro σ4 e4
  have k4 : K2 σ0 σ4 := by rw [e4]; exact k3.l
  have l4 : FrL σ σ4 := fun a b q => (kq2 e4).trans (l3 a b q)
  refine lo1_i (fun (y : Int32) (τ : St) => K2 σ0 τ ∧ FrL σ τ ∧ 0 ≤ y.toInt) (fun y _ => (2147483648 - y.toInt).toNat) ?_ N 0 σ4 ⟨k4, l4, by omega⟩ (by (try dsimp only); omega)
  intro rr y τ hI ih
  obtain ⟨kt, lt, i1⟩ := hI
  unfold fX12_lies_l68
  refine ⟨fun _ => ?_, fun c => ⟨?_, ?_⟩⟩
  · refine tX12_four hN kt (fun r5 σ5 k5 g5 => ⟨inE z0 (by omega) (by omega), ?_⟩)
    have l5 := lt.nine g5
    intro σ6 e6
    have k6 : K2 σ0 σ6 := by rw [e6]; exact k5.ua (Rg2.ra_5 _ _) (by decide)
    have l6 : FrL σ σ6 := l5.u e6 (by omega)
    refine lo2_i (fun (x _ : Int32) (τ : St) => K2 σ0 τ ∧ FrL σ τ ∧ 0 ≤ x.toInt ∧ x.toInt ≤ 1 + (cnt (τ.1 4) 4096 : Int)) (fun x _ τ => (2 * (4096 - (cnt (τ.1 4) 4096 : Int)) + x.toInt).toNat) ?_ N 1 0 σ6 ⟨k6, l6, by decide, ?_⟩ ?_
    · intro rr2 x z τ hI2 ih2
      obtain ⟨kt, lt, i1, i2⟩ := hI2
      have hc := cnt_le (τ.1 4) 4096
      unfold fX12_lies_l112
      refine ⟨fun _ υ e => hQ' υ (by rw [e]; exact kt.uf (Rg2.u_0_7 _) (by decide)) (lt.u e (by omega)), fun c => ?_⟩
      have g1 := (notleE (rfl : x.toInt = x.toInt) (show (0 : Int32).toInt = 0 from by decide)).mp c
      intro w ew
      have fw : w.toInt = x.toInt - 1 := by rw [ew]; exact dec1 (by omega)
      refine ⟨inE (rfl : w.toInt = w.toInt) (by omega) (by omega), ?_⟩
      intro nd end_
      have bn := tB nd
      have back : ∀ (τ' : St) (z' : Int32), K2 σ0 τ' → FrL σ τ' → cnt (τ.1 4) 4096 ≤ cnt (τ'.1 4) 4096 → fX12_lies_j245 N rr2 x1 v w z' Q τ' := by
        intro τ' z' k' l' hc'
        have hc2 := cnt_le (τ'.1 4) 4096
        exact ih2 w z' τ' ⟨k', l', by omega, by omega⟩ (by (try dsimp only); omega)
      have fe : ((x1.toInt64 + v) - 1).toInt = x1.toInt + v.toInt - 1 := sOkE64 fs (show (1 : Int64).toInt = 1 from by decide) (by omega) (by omega)
      unfold fX12_in
      refine ⟨fun _ => ⟨fun _ => back τ z kt lt (Nat.le_refl _), fun q => absurd rfl q⟩, fun c4 => ⟨fun _ => ⟨fun _ => back τ z kt lt (Nat.le_refl _), fun q => absurd rfl q⟩, fun c5 => ⟨fun q => absurd q (by decide), fun _ => ?_⟩⟩⟩
      have g4 := (notltE64 (i2lE (rfl : nd.toInt = nd.toInt)) (i2lE (rfl : x1.toInt = x1.toInt))).mp c4
      have g5 := (notltE64 fe (i2lE (rfl : nd.toInt = nd.toInt))).mp c5
      have hin : vp_in nd 4096 := inE (rfl : nd.toInt = nd.toInt) (by omega) (by omega)
      refine ⟨hin, fun c6 => ⟨hin, ?_⟩, fun _ => back τ z kt lt (Nat.le_refl _)⟩
      intro σ7 e7
      have k7 : K2 σ0 σ7 := by rw [e7]; exact kt.ua (Rg2.ra_4 _ _) (by decide)
      have l7 : FrL σ σ7 := lt.u e7 (by omega)
      have cl := clE (rfl : nd.toInt = nd.toInt) (by omega)
      have hc7 : cnt (σ7.1 4) 4096 = cnt (τ.1 4) 4096 + 1 := by
        rw [e7, u1_at]
        exact cnt_up c6 (by decide) 4096 (by omega)
      have hcl7 := cnt_le (σ7.1 4) 4096
      refine tX12_endOf hN (by omega) (by omega) (by rw [fs]; omega) (by rw [fs]; omega) k7 (fun re σ8 k8 g8 => ?_)
      have l8 := l7.nine g8
      have hc8 : σ8.1 4 = σ7.1 4 := funext (fun b => g8 4 b (fun q => absurd q.1 (by decide)))
      refine ⟨fun _ => back σ8 z k8 l8 (by rw [hc8]; omega), fun _ => ⟨fun _ => back σ8 z k8 l8 (by rw [hc8]; omega), fun _ => ?_⟩⟩
      intro z2 ez2
      refine ⟨hin, fun _ => ?_, fun _ => back σ8 z2 k8 l8 (by rw [hc8]; omega)⟩
      refine tX12_four hN k8 (fun r9 σ9 k9 g9 => ⟨inE (rfl : w.toInt = w.toInt) (by omega) (by omega), ?_⟩)
      have l9 := l8.nine g9
      intro σA eA
      have kA : K2 σ0 σA := by rw [eA]; exact k9.ua (Rg2.ra_5 _ _) (by decide)
      have lA : FrL σ σA := l9.u eA (by omega)
      have fw1 : (w + 1).toInt = w.toInt + 1 := aOkE rfl (show (1 : Int32).toInt = 1 from by decide) (by omega) (by omega)
      refine tX12_four hN kA (fun rB σB kB gB => ⟨inE fw1 (by omega) (by omega), ?_⟩)
      have lB := lA.nine gB
      intro σC eC
      have kC : K2 σ0 σC := by rw [eC]; exact kB.ua (Rg2.ra_5 _ _) (by decide)
      have lC : FrL σ σC := lB.u eC (by omega)
      intro x' ex'
      have fx' : x'.toInt = w.toInt + 2 := (congrArg Int32.toInt ex').trans (aOkE rfl (show (2 : Int32).toInt = 2 from by decide) (by omega) (by omega))
      have hC : σC.1 4 = σ7.1 4 := by
        rw [eC, u1_ne (by decide), show σB.1 4 = σA.1 4 from funext (fun b => gB 4 b (fun q => absurd q.1 (by decide))), eA, u1_ne (by decide), show σ9.1 4 = σ8.1 4 from funext (fun b => g9 4 b (fun q => absurd q.1 (by decide))), hc8]
      unfold fX12_lies_j245
      refine ih2 x' z2 σC ⟨kC, lC, by omega, by rw [hC]; omega⟩ ?_
      show (2 * (4096 - (cnt (σC.1 4) 4096 : Int)) + x'.toInt).toNat < _
      rw [hC]
      omega
    · have z1 : (1 : Int32).toInt = 1 := by decide
      omega
    · have z1 : (1 : Int32).toInt = 1 := by decide
      have := cnt_le (σ6.1 4) 4096
      (try dsimp only)
      omega
  · have g1 := (notleE (show (4096 : Int32).toInt = 4096 from by decide) (rfl : y.toInt = y.toInt)).mp c
    exact inE (rfl : y.toInt = y.toInt) (by omega) (by omega)
  · have g1 := (notleE (show (4096 : Int32).toInt = 4096 from by decide) (rfl : y.toInt = y.toInt)).mp c
    intro σ5 e5 v2 ev2
    have f2 : v2.toInt = y.toInt + 1 := (congrArg Int32.toInt ev2).trans (aOkE rfl (show (1 : Int32).toInt = 1 from by decide) (by omega) (by omega))
    refine ih v2 σ5 ⟨by rw [e5]; exact kt.ua (Rg2.ra_4 _ _) (by decide), lt.u e5 (by omega), by omega⟩ (by (try dsimp only); omega)
theorem K2.self {σ : St} (h : G2 σ) : K2 σ σ := ⟨h, rfl, rfl⟩
theorem sX12_border {N : Nat} {x1 : Int32} {Q : Int32 → St → Prop} {σ : St} (hσ : G2 σ) (hQ1 : (x1.toInt < 0 ∨ 4096 < x1.toInt) → Q (-2) σ) (hQ2 : 0 ≤ x1.toInt → x1.toInt ≤ 4096 → ∀ τ : St, G2 τ → τ.1 0 1 = x1 → τ.1 0 3 = σ.1 0 3 → Q (σ.1 0 1) τ) : fX12_border N x1 Q σ := by
  unfold fX12_border fX12_in
  have fx : x1.toInt64.toInt = x1.toInt := i2lE rfl
  refine ⟨fun c => ⟨fun _ => hQ1 (Or.inl ?_), fun q => absurd rfl q⟩, fun c => ⟨fun c2 => ⟨fun _ => hQ1 (Or.inr ?_), fun q => absurd rfl q⟩, fun c2 => ⟨fun q => absurd q (by decide), fun _ => ?_⟩⟩⟩
  · exact (ltE64 fx (show (0 : Int64).toInt = 0 from by decide)).mp c
  · exact (ltE64 (show (4096 : Int64).toInt = 4096 from by decide) fx).mp c2
  · have f1 := (notltE64 fx (show (0 : Int64).toInt = 0 from by decide)).mp c
    have f2 := (notltE64 (show (4096 : Int64).toInt = 4096 from by decide) fx).mp c2
    intro v ev σ1 e1 σ2 e2
    rw [ev]
    refine hQ2 (by omega) (by omega) σ2 ?_ ?_ ?_
    · rw [e2]; refine G2.uf ?_ (Rg2.u_0_7 _) (by decide)
      rw [e1]; exact hσ.uf (Rg2.r_0_1 (by omega) (by omega)) (by decide)
    · rw [kq e2 (fun q => absurd q.2 (by decide)), e1, u1_at]; exact if_pos rfl
    · rw [kq e2 (fun q => absurd q.2 (by decide)), kq e1 (fun q => absurd q.2 (by decide))]
theorem sX12_feed {N : Nat} (hN : 4294967400 ≤ N) {x1 : Int32} {x2 : Int64} {Q : Int32 → St → Prop} {σ : St} (hσ : G2 σ) (hQ1 : (x1.toInt < 1 ∨ 8 < x1.toInt) → Q (-2) σ) (hQ2 : 1 ≤ x1.toInt → x1.toInt ≤ 8 → 600 < (σ.1 0 3).toInt + x1.toInt → Q (-4) σ) (hQ3 : 1 ≤ x1.toInt → x1.toInt ≤ 8 → (σ.1 0 3).toInt + x1.toInt ≤ 600 → ∀ τ : St, G2 τ → (τ.1 0 3).toInt = (σ.1 0 3).toInt + x1.toInt → τ.1 0 1 = σ.1 0 1 → Q (τ.1 0 3) τ) : fX12_feed N x1 x2 Q σ := by
  have t0 := K2.g_0_3 (K2.self hσ)
  have fx : x1.toInt64.toInt = x1.toInt := i2lE rfl
  unfold fX12_feed fX12_in
  refine ⟨fun c => ⟨fun _ => hQ1 (Or.inl ?_), fun q => absurd rfl q⟩, fun c => ⟨fun c2 => ⟨fun _ => hQ1 (Or.inr ?_), fun q => absurd rfl q⟩, fun c2 => ⟨fun q => absurd q (by decide), fun _ => ⟨fun c3 => ?_, fun c3 => ?_⟩⟩⟩⟩
  · exact (ltE64 fx (show (1 : Int64).toInt = 1 from by decide)).mp c
  · exact (ltE64 (show (8 : Int64).toInt = 8 from by decide) fx).mp c2
  · have f1 := (notltE64 fx (show (1 : Int64).toInt = 1 from by decide)).mp c
    have f2 := (notltE64 (show (8 : Int64).toInt = 8 from by decide) fx).mp c2
    have f3 := (leE (aOkE (rfl : (σ.1 0 3).toInt = (σ.1 0 3).toInt) (rfl : x1.toInt = x1.toInt) (by omega) (by omega)) (show (600 : Int32).toInt = 600 from by decide)).mp c3
    intro v ev
    have f4 : v.toInt = x1.toInt - 1 := (congrArg Int32.toInt ev).trans (sOkE rfl (show (1 : Int32).toInt = 1 from by decide) (by omega) (by omega))
    refine lo1_i (fun (y : Int32) (τ : St) => G2 τ ∧ -1 ≤ y.toInt ∧ y.toInt ≤ 7 ∧ (τ.1 0 3).toInt + y.toInt + 1 = (σ.1 0 3).toInt + x1.toInt ∧ τ.1 0 1 = σ.1 0 1) (fun y _ => (y.toInt + 1).toNat) ?_ N v σ ⟨hσ, by omega, by omega, by omega, rfl⟩ (by (try dsimp only); omega)
    intro rr y τ hI ih
    obtain ⟨hτ, i1, i2, i3, i4⟩ := hI
    unfold fX12_feed_l35
    refine ⟨fun c4 => ?_, fun c4 => ?_⟩
    · have f5 := (ltE (rfl : y.toInt = y.toInt) (show (0 : Int32).toInt = 0 from by decide)).mp c4
      exact hQ3 (by omega) (by omega) (by omega) τ hτ (by omega) i4
    · have f5 := (notltE (rfl : y.toInt = y.toInt) (show (0 : Int32).toInt = 0 from by decide)).mp c4
      have t1 := K2.g_0_3 (K2.self hτ)
      intro u eu
      refine ⟨inE (rfl : (τ.1 0 3).toInt = (τ.1 0 3).toInt) (by omega) (by omega), ?_⟩
      intro τ1 e1 u2 eu2 τ2 e2 u3 eu3
      have g1 : G2 τ1 := by rw [e1]; exact hτ.ua (Rg2.ra_2 _ _) (by decide)
      have q1 : τ1.1 0 3 = τ.1 0 3 := kq e1 (fun q => absurd q.1 (by decide))
      have f6 : u2.toInt = (τ.1 0 3).toInt + 1 := by rw [eu2, q1]; exact aOkE rfl (show (1 : Int32).toInt = 1 from by decide) (by omega) (by omega)
      have g2 : G2 τ2 := by rw [e2]; exact g1.uf (Rg2.r_0_3 (by omega) (by omega)) (by decide)
      have q2 : τ2.1 0 3 = u2 := by rw [e2, u1_at]; exact if_pos rfl
      have f7 : u3.toInt = y.toInt - 1 := by rw [eu3]; exact dec1 (by omega)
      refine ih u3 τ2 ⟨g2, by omega, by omega, by rw [q2]; omega, ?_⟩ (by (try dsimp only); omega)
      rw [kq (a := 0) (b := 1) e2 (fun q => absurd q.2 (by decide)), kq (a := 0) (b := 1) e1 (fun q => absurd q.1 (by decide))]
      exact i4
  · have f1 := (notltE64 fx (show (1 : Int64).toInt = 1 from by decide)).mp c
    have f2 := (notltE64 (show (8 : Int64).toInt = 8 from by decide) fx).mp c2
    have f3 := (notleE (aOkE (rfl : (σ.1 0 3).toInt = (σ.1 0 3).toInt) (rfl : x1.toInt = x1.toInt) (by omega) (by omega)) (show (600 : Int32).toInt = 600 from by decide)).mp c3
    exact hQ2 (by omega) (by omega) (by omega)
theorem sX12_load {N : Nat} (hN : 4294967400 ≤ N) {x1 : Int32} {Q : Int32 → St → Prop} {σ : St} (hσ : G2 σ) (hQ : ∀ (r : Int32) (τ : St), G2 τ → τ.1 0 3 = 0 → τ.1 0 1 = σ.1 0 1 → Q r τ) : fX12_load N x1 Q σ := by
  have t0 := K2.g_0_3 (K2.self hσ)
  unfold fX12_load
  intro v ev σ1 e1
  have f0 := congrArg Int32.toInt ev
  have b1 := tB x1
  have g1 : G2 σ1 := by rw [e1]; exact hσ.uf (Rg2.r_0_3 (by decide) (by decide)) (by decide)
  have q1 : σ1.1 0 3 = 0 := by rw [e1, u1_at]; exact if_pos rfl
  have q2 : σ1.1 0 1 = σ.1 0 1 := kq e1 (fun q => absurd q.2 (by decide))
  have hQ' : ∀ (r : Int32) (τ : St), K2 σ1 τ → Q r τ := fun r τ k => hQ r τ k.1 (k.2.2.trans q1) (k.2.1.trans q2)
  refine ⟨fun _ => hQ _ _ g1 q1 q2, fun c2 => ⟨fun c3 => ?_, fun _ => hQ _ _ g1 q1 q2⟩⟩
  have f2 := (notltE (rfl : x1.toInt = x1.toInt) (show (0 : Int32).toInt = 0 from by decide)).mp c2
  have f3 := (leE64 (aOkE64 (i2lE (rfl : x1.toInt = x1.toInt)) (i2lE (rfl : v.toInt = v.toInt)) (by omega) (by omega)) (show (4096 : Int64).toInt = 4096 from by decide)).mp c3
  refine lo1_i (fun (y : Int32) (τ : St) => K2 σ1 τ ∧ 0 ≤ y.toInt) (fun y _ => (2147483648 - y.toInt).toNat) ?_ N 0 σ1 ⟨K2.self g1, by decide⟩ (by have z0 : (0 : Int32).toInt = 0 := (by decide); (try dsimp only); omega)
  intro rr y τ hI ih
  obtain ⟨kt, i1⟩ := hI
  unfold fX12_load_l31
  refine ⟨fun _ => hQ' _ _ kt, fun c => ?_⟩
  have f5 := (notleE (rfl : v.toInt = v.toInt) (rfl : y.toInt = y.toInt)).mp c
  have fa : (x1 + y).toInt = x1.toInt + y.toInt := aOkE rfl rfl (by omega) (by omega)
  refine ⟨inE (rfl : y.toInt = y.toInt) (by omega) (by omega), sX12_tell hN ⟨by omega, by omega⟩ kt (fun υ ku _ => ?_)⟩
  intro v2 ev2
  have f6 : v2.toInt = y.toInt + 1 := (congrArg Int32.toInt ev2).trans (aOkE rfl (show (1 : Int32).toInt = 1 from by decide) (by omega) (by omega))
  exact ih v2 υ ⟨ku, by omega⟩ (by (try dsimp only); omega)
theorem Rg2.q_16 (j : Nat) (v : Int32) : Rg2 16 j v := trivial
theorem Rg2.q_17 (j : Nat) (v : Int32) : Rg2 17 j v := trivial
theorem Rg2.q_18 {j : Nat} {v : Int32} (h1 : 0 ≤ v.toInt) (h2 : v.toInt ≤ 20) : Rg2 18 j v := ⟨h1, h2⟩
theorem Rg2.q_19 (j : Nat) (v : Int32) : Rg2 19 j v := trivial
theorem sX12_forget {N : Nat} {Q : Int32 → St → Prop} {σ0 σ : St} (hσ : K2 σ0 σ) (hQ : ∀ (r : Int32) (τ : St), K2 σ0 τ → Q r τ) : fX12_forget N Q σ := by
  unfold fX12_forget
  intro v ev σ1 e1 σ2 e2
  have z0 : (0 : Int32).toInt = 0 := by decide
  have k1 : K2 σ0 σ1 := by
    rw [e1]
    refine ⟨⟨Gr2 hσ.1.1 (Rg2.r_0_36 (by decide) (by decide)), ?_, hσ.1.2.2.ext (kq rfl (fun q => absurd q.2 (by decide))) (kq rfl (fun q => absurd q.1 (by decide)))⟩, ?_, ?_⟩
    · intro p hp
      rw [show (u1 σ 0 36 0).1 0 36 = 0 from by rw [u1_at]; exact if_pos rfl] at hp
      omega
    · rw [kq rfl (fun q => absurd q.2 (by decide))]; exact hσ.2.1
    · rw [kq rfl (fun q => absurd q.2 (by decide))]; exact hσ.2.2
  refine hQ _ _ ?_
  rw [e2]
  exact k1.uf (Rg2.r_0_41 (by decide) (by decide)) (by decide)
set_option maxHeartbeats 1000000 in
theorem sX12_piece {N : Nat} (hN : 4294967400 ≤ N) {x1 : Int32} {Q : Int32 → St → Prop} {σ0 σ : St} (hσ : K2 σ0 σ) (hQ : ∀ (r : Int32) (τ : St), K2 σ0 τ → Q r τ) : fX12_piece N x1 Q σ := by
  unfold fX12_piece
  intro x2 ex2 σ2 e2
  have b5 := K2.g_0_5 hσ
  have z0 : (0 : Int32).toInt = 0 := by decide
  have f2 : x2.toInt = (σ.1 0 5).toInt := congrArg Int32.toInt ex2
  have k2 : K2 σ0 σ2 := by rw [e2]; exact hσ.uf (Rg2.r_0_5 (by decide) (by decide)) (by decide)
  have b36 := K2.g_0_36 k2
  generalize hV : ((x1.toInt = 3 ∨ x1.toInt = 5 ∨ ((x1.toInt = 2 ∨ x1.toInt = 4 ∨ x1.toInt = 8 ∨ x1.toInt = 9) ∧ x2.toInt = 1)) ∧ x2.toInt ≤ 20) = V
  have h74 : ∀ t0 : Int32, (t0 = 0 ∨ V) → fX12_piece_j74 N x1 x2 t0 Q σ2 := by
    intro t0 ht
    unfold fX12_piece_j74
    refine lo2_i (fun (y z : Int32) (τ : St) => τ = σ2 ∧ (y = 0 ∨ V) ∧ 0 ≤ z.toInt) (fun _ z _ => (2147483648 - z.toInt).toNat) ?_ N t0 0 σ2 ⟨rfl, ht, by omega⟩ (by (try dsimp only); omega)
    intro rr y z τ hI ih
    obtain ⟨rfl, i1, i2⟩ := hI
    unfold fX12_piece_l78
    refine ⟨fun _ => ⟨fun _ => hQ _ _ k2, fun cy => ⟨fun _ => hQ _ _ k2, fun c60 => ?_⟩⟩, fun c => ?_⟩
    · have hv : V := i1.resolve_left cy
      rw [← hV] at hv
      have f60 := (noteqE (rfl : (τ.1 0 36).toInt = (τ.1 0 36).toInt) (show (60 : Int32).toInt = 60 from by decide)).mp c60
      have hin : vp_in (τ.1 0 36) 60 := inE (rfl : (τ.1 0 36).toInt = (τ.1 0 36).toInt) (by omega) (by omega)
      refine ⟨hin, ?_⟩
      intro σ9 e9
      have q9 : σ9.1 0 36 = τ.1 0 36 := kq e9 (fun q => absurd q.1 (by decide))
      rw [q9]
      refine ⟨hin, ?_⟩
      intro σA eA
      have qA : σA.1 0 36 = τ.1 0 36 := (kq eA (fun q => absurd q.1 (by decide))).trans q9
      rw [qA]
      refine ⟨hin, ?_⟩
      intro σB eB
      have qB : σB.1 0 36 = τ.1 0 36 := (kq eB (fun q => absurd q.1 (by decide))).trans qA
      have gB : ∀ a b : Nat, Rg2 a b (σB.1 a b) := by
        rw [eB]; refine Gr2 ?_ (Rg2.q_19 _ _)
        rw [eA]; refine Gr2 ?_ (Rg2.q_18 (by omega) (by omega))
        rw [e9]; exact Gr2 k2.1.1 (Rg2.q_16 _ _)
      have r16 : σB.1 16 = upd (τ.1 16) (τ.1 0 36).toNatClampNeg x1 := by rw [eB, u1_ne (by decide), eA, u1_ne (by decide), e9, u1_at]
      have r18 : σB.1 18 = upd (τ.1 18) (τ.1 0 36).toNatClampNeg x2 := by rw [eB, u1_ne (by decide), eA, u1_at, e9, u1_ne (by decide)]
      have cl := clE (rfl : (τ.1 0 36).toInt = (τ.1 0 36).toInt) (by omega)
      refine lo1_i (fun (y : Int32) (υ : St) => (∀ a b : Nat, Rg2 a b (υ.1 a b)) ∧ υ.1 0 = σB.1 0 ∧ υ.1 16 = σB.1 16 ∧ υ.1 18 = σB.1 18 ∧ υ.1 13 = σB.1 13 ∧ 0 ≤ y.toInt) (fun y _ => (2147483648 - y.toInt).toNat) ?_ N 0 σB ⟨gB, rfl, rfl, rfl, rfl, by omega⟩ (by (try dsimp only); omega)
      intro rr2 y2 υ hI2 ih2
      obtain ⟨gu, u0, u16, u18, u13, j1⟩ := hI2
      have q36 : υ.1 0 36 = τ.1 0 36 := (congrFun u0 36).trans qB
      unfold fX12_piece_l193
      rw [q36]
      refine ⟨fun _ => ?_, fun c3 => ?_⟩
      · intro w ew σC eC
        have fw : w.toInt = (τ.1 0 36).toInt + 1 := (congrArg Int32.toInt ew).trans (aOkE rfl (show (1 : Int32).toInt = 1 from by decide) (by omega) (by omega))
        refine hQ _ _ ⟨⟨?_, ?_, k2.1.2.2.ext (by rw [kq eC (fun q => absurd q.2 (by decide)), u0, eB, u1_ne (by decide), eA, u1_ne (by decide), e9, u1_ne (by decide)]) (by rw [kq eC (fun q => absurd q.1 (by decide)), u13, eB, u1_ne (by decide), eA, u1_ne (by decide), e9, u1_ne (by decide)])⟩, ?_, ?_⟩
        · rw [eC]; exact Gr2 gu (Rg2.r_0_36 (by omega) (by omega))
        · intro p hp
          rw [show σC.1 0 36 = w from by rw [eC, u1_at]; exact if_pos rfl] at hp
          rw [show σC.1 16 = upd (τ.1 16) (τ.1 0 36).toNatClampNeg x1 from by rw [eC, u1_ne (by decide), u16, r16], show σC.1 18 = upd (τ.1 18) (τ.1 0 36).toNatClampNeg x2 from by rw [eC, u1_ne (by decide), u18, r18]]
          by_cases hpp : p = (τ.1 0 36).toNatClampNeg
          · rw [hpp, show upd (τ.1 16) (τ.1 0 36).toNatClampNeg x1 (τ.1 0 36).toNatClampNeg = x1 from if_pos rfl, show upd (τ.1 18) (τ.1 0 36).toNatClampNeg x2 (τ.1 0 36).toNatClampNeg = x2 from if_pos rfl]
            exact hv.1
          · rw [show upd (τ.1 16) (τ.1 0 36).toNatClampNeg x1 p = τ.1 16 p from if_neg hpp, show upd (τ.1 18) (τ.1 0 36).toNatClampNeg x2 p = τ.1 18 p from if_neg hpp]
            exact k2.1.2.1 p (by omega)
        · rw [kq eC (fun q => absurd q.2 (by decide)), u0, eB, u1_ne (by decide), eA, u1_ne (by decide), e9, u1_ne (by decide)]; exact k2.2.1
        · rw [kq eC (fun q => absurd q.2 (by decide)), u0, eB, u1_ne (by decide), eA, u1_ne (by decide), e9, u1_ne (by decide)]; exact k2.2.2
      · have g3 := (notleE (rfl : x2.toInt = x2.toInt) (rfl : y2.toInt = y2.toInt)).mp c3
        refine ⟨inE (rfl : y2.toInt = y2.toInt) (by omega) (by omega), ?_⟩
        intro v3 ev3
        refine ⟨inE (aOkE (mOkE (show (20 : Int32).toInt = 20 from by decide) (rfl : (τ.1 0 36).toInt = (τ.1 0 36).toInt) (by omega) (by omega)) (rfl : y2.toInt = y2.toInt) (by omega) (by omega)) (by omega) (by omega), ?_⟩
        intro σD eD v4 ev4
        have f4 : v4.toInt = y2.toInt + 1 := (congrArg Int32.toInt ev4).trans (aOkE rfl (show (1 : Int32).toInt = 1 from by decide) (by omega) (by omega))
        refine ih2 v4 σD ⟨?_, ?_, ?_, ?_, ?_, by omega⟩ (by (try dsimp only); omega)
        · rw [eD]; exact Gr2 gu (Rg2.q_17 _ _)
        · rw [eD, u1_ne (by decide)]; exact u0
        · rw [eD, u1_ne (by decide)]; exact u16
        · rw [eD, u1_ne (by decide)]; exact u18
        · rw [eD, u1_ne (by decide)]; exact u13
    · have g := (notleE (rfl : x2.toInt = x2.toInt) (rfl : z.toInt = z.toInt)).mp c
      have hin : vp_in z 120 := inE (rfl : z.toInt = z.toInt) (by omega) (by omega)
      have back : ∀ t : Int32, (t = 0 ∨ V) → fX12_piece_j134 N rr x1 x2 z t Q τ := by
        intro t ht v ev
        have fv : v.toInt = z.toInt + 1 := (congrArg Int32.toInt ev).trans (aOkE rfl (show (1 : Int32).toInt = 1 from by decide) (by omega) (by omega))
        exact ih t v τ ⟨rfl, ht, by omega⟩ (by (try dsimp only); omega)
      have h0 : fX12_piece_j133 N rr x1 x2 z Q τ := back 0 (Or.inl rfl)
      refine ⟨fun _ => h0, fun cy => ?_⟩
      have h1 : fX12_piece_j129 N rr x1 x2 z Q τ := back 1 (Or.inr (i1.resolve_left cy))
      refine ⟨fun _ => ⟨fun _ => h1, fun _ => ⟨hin, fun _ => h0, fun _ => h1⟩⟩, fun _ => ⟨hin, ?_⟩⟩
      unfold fX12_in
      exact ⟨fun _ => ⟨fun _ => h0, fun q => absurd rfl q⟩, fun _ => ⟨fun _ => ⟨fun _ => h0, fun q => absurd rfl q⟩, fun _ => ⟨fun q => absurd q (by decide), fun _ => h1⟩⟩⟩
  have h73 : fX12_piece_j73 N x1 x2 Q σ2 := h74 0 (Or.inl rfl)
  have h32 : (x1.toInt = 2 ∨ x1.toInt = 4 ∨ x1.toInt = 8 ∨ x1.toInt = 9) → fX12_piece_j32 N x1 x2 Q σ2 := by
    intro hx
    refine ⟨fun c => h74 1 (Or.inr ?_), fun _ => h74 0 (Or.inl rfl)⟩
    have f := (eqE (rfl : x2.toInt = x2.toInt) (show (1 : Int32).toInt = 1 from by decide)).mp c
    rw [← hV]
    exact ⟨Or.inr (Or.inr ⟨hx, f⟩), by omega⟩
  have h55 : (x1.toInt = 3 ∨ x1.toInt = 5) → fX12_piece_j55 N x1 x2 Q σ2 := by
    intro hx
    unfold fX12_piece_j55 fX12_in
    refine ⟨fun _ => ⟨fun _ => h73, fun q => absurd rfl q⟩, fun _ => ⟨fun _ => ⟨fun _ => h73, fun q => absurd rfl q⟩, fun c => ⟨fun q => absurd q (by decide), fun _ => h74 1 (Or.inr ?_)⟩⟩⟩
    have f := (notltE64 (show (20 : Int64).toInt = 20 from by decide) (i2lE (rfl : x2.toInt = x2.toInt))).mp c
    rw [← hV]
    exact ⟨by omega, by omega⟩
  have lv : ∀ {n : Int32} {m : Int}, n.toInt = m → x1 = n → x1.toInt = m := fun h e => e ▸ h
  exact ⟨fun c => h32 (Or.inl (lv (by decide) c)), fun _ => ⟨fun c => h32 (Or.inr (Or.inl (lv (by decide) c))), fun _ => ⟨fun c => h32 (Or.inr (Or.inr (Or.inl (lv (by decide) c)))), fun _ => ⟨fun c => h32 (Or.inr (Or.inr (Or.inr (lv (by decide) c)))), fun _ => ⟨fun c => h55 (Or.inl (lv (by decide) c)), fun _ => ⟨fun c => h55 (Or.inr (lv (by decide) c)), fun _ => h73⟩⟩⟩⟩⟩⟩
