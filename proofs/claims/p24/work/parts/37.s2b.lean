set_option maxHeartbeats 4000000 in
theorem sX12_table {N : Nat} (hN : 4294967400 ≤ N) {x1 : Int32} {Q : Int32 → St → Prop} {σ0 σ : St} (hσ : K2 σ0 σ) (hQ : ∀ (r : Int32) (τ : St), K2 σ0 τ → (τ.1 0 14 = σ.1 0 14 ∧ τ.1 0 35 = σ.1 0 35 ∧ τ.1 0 24 = σ.1 0 24 ∧ τ.1 0 36 = σ.1 0 36 ∧ τ.1 0 41 = σ.1 0 41 ∧ τ.1 0 50 = σ.1 0 50 ∧ τ.1 0 51 = σ.1 0 51) → True → Q r τ) : fX12_table N x1 Q σ := by
  unfold fX12_table
  refine ⟨fun c1 => ?_, fun c1 => ?_⟩
  · have f2 := K2.g_0_14 hσ
    first | have f3 := (leE (rfl : (σ.1 0 14).toInt = (σ.1 0 14).toInt) (show (0 : Int32).toInt = 0 from by decide)).mp c1 | skip
    intro σ4 eσ4
    have hσ4 : K2 σ0 σ4 := by rw [eσ4]; exact hσ.u (Rg2.r_0_9 (leP (show (0 : Int32).toInt = 0 from by decide) (by omega)) (geP (show (0 : Int32).toInt = 0 from by decide) (by omega))) (fun q => absurd q.2 (by decide)) (fun q => absurd q.2 (by decide)) ⟨⟨by decide, by decide⟩, fun q => absurd q.2 (by decide)⟩
    have f5 := tB x1
    refine sX12_lies hN hσ4 (fun σ6 hσ6 kk14 => ?_)
    obtain ⟨k7, k8, k9, k10, k11, k12, k13⟩ := kk14
    exact hQ _ _ hσ6 (⟨k7.trans ((kq (a := 0) (b := 14) eσ4 (fun q => absurd q.2 (by decide)))), k8.trans ((kq (a := 0) (b := 35) eσ4 (fun q => absurd q.2 (by decide)))), k9.trans ((kq (a := 0) (b := 24) eσ4 (fun q => absurd q.2 (by decide)))), k10.trans ((kq (a := 0) (b := 36) eσ4 (fun q => absurd q.2 (by decide)))), k11.trans ((kq (a := 0) (b := 41) eσ4 (fun q => absurd q.2 (by decide)))), k12.trans ((kq (a := 0) (b := 50) eσ4 (fun q => absurd q.2 (by decide)))), k13.trans ((kq (a := 0) (b := 51) eσ4 (fun q => absurd q.2 (by decide))))⟩) trivial
  · have f15 := K2.g_0_14 hσ
    first | have f16 := (notleE (rfl : (σ.1 0 14).toInt = (σ.1 0 14).toInt) (show (0 : Int32).toInt = 0 from by decide)).mp c1 | skip
    exact hQ _ _ hσ (⟨rfl, rfl, rfl, rfl, rfl, rfl, rfl⟩) trivial
set_option maxHeartbeats 4000000 in
theorem sX12_called_j175 {N : Nat} (hN : 4294967400 ≤ N) {x2 : Int32} {x5 : Int32} {x6 : Int32} {x7 : Int32} {Q : St → Prop} {σ0 σ τ : St} (hi0 : 0 ≤ x2.toInt ∧ x2.toInt ≤ 4) (hi1 : 0 ≤ x5.toInt ∧ x5.toInt ≤ 8) (hi2 : 0 ≤ x6.toInt ∧ x6.toInt ≤ 39) (hi3 : 0 ≤ x7.toInt ∧ x7.toInt ≤ 1) (hk0 : τ.1 0 35 = σ.1 0 35) (hk1 : τ.1 0 24 = σ.1 0 24) (hk2 : τ.1 0 36 = σ.1 0 36) (hk3 : τ.1 0 41 = σ.1 0 41) (hk4 : τ.1 0 50 = σ.1 0 50) (hk5 : τ.1 0 51 = σ.1 0 51) (hσ : K2 σ0 σ) (hτ : K2 σ0 τ) (hQ : ∀ τ : St, K2 σ0 τ → (τ.1 0 35 = σ.1 0 35 ∧ τ.1 0 24 = σ.1 0 24 ∧ τ.1 0 36 = σ.1 0 36 ∧ τ.1 0 41 = σ.1 0 41 ∧ τ.1 0 50 = σ.1 0 50 ∧ τ.1 0 51 = σ.1 0 51) → Q τ) : fX12_called_j175 N x2 x5 x6 x7 Q τ := by
  unfold fX12_called_j175
  have f112 := tB x2
  have f113 := tB x5
  have f114 := tB x6
  have f115 := tB x7
  refine lo1_i (fun (y116 : Int32) (ω : St) => K2 σ0 ω ∧ ω.1 0 14 = τ.1 0 14 ∧ ω.1 0 9 = τ.1 0 9 ∧ ω.1 0 35 = τ.1 0 35 ∧ ω.1 0 24 = τ.1 0 24 ∧ ω.1 0 36 = τ.1 0 36 ∧ ω.1 0 41 = τ.1 0 41 ∧ ω.1 0 50 = τ.1 0 50 ∧ ω.1 0 51 = τ.1 0 51 ∧ 0 ≤ y116.toInt) (fun (y116 : Int32) (ω : St) => (2147483648 - y116.toInt).toNat) ?_ N (0 : Int32) τ ⟨hτ, rfl, rfl, rfl, rfl, rfl, rfl, rfl, rfl, by first | decide | (have z0 : (0 : Int32).toInt = 0 := (by decide); omega)⟩ (by have z0 : (0 : Int32).toInt = 0 := (by decide); (try dsimp only); omega)
  intro rr121 y124 σ123 hIσ123 ih122
  obtain ⟨hσ123, k125, k126, k127, k128, k129, k130, k131, k132, i133⟩ := hIσ123
  unfold fX12_called_l178
  have f134 := tB y124
  refine ⟨fun c135 => ?_, fun c135 => ?_⟩
  · first | have f138 := (leE (rfl : x2.toInt = x2.toInt) (rfl : y124.toInt = y124.toInt)).mp c135 | skip
    exact hQ _ hσ123 (⟨k127.trans (hk0), k128.trans (hk1), k129.trans (hk2), k130.trans (hk3), k131.trans (hk4), k132.trans (hk5)⟩)
  · first | have f141 := (notleE (rfl : x2.toInt = x2.toInt) (rfl : y124.toInt = y124.toInt)).mp c135 | skip
    refine ⟨fun c142 => ?_, fun c142 => ?_⟩
    · first | have f146 := (leE (rfl : x5.toInt = x5.toInt) (aOkE (rfl : y124.toInt = y124.toInt) (rfl : x7.toInt = x7.toInt) (by omega) (by omega))).mp c142 | skip
      exact hQ _ hσ123 (⟨k127.trans (hk0), k128.trans (hk1), k129.trans (hk2), k130.trans (hk3), k131.trans (hk4), k132.trans (hk5)⟩)
    · first | have f150 := (notleE (rfl : x5.toInt = x5.toInt) (aOkE (rfl : y124.toInt = y124.toInt) (rfl : x7.toInt = x7.toInt) (by omega) (by omega))).mp c142 | skip
      have g152 : vp_in y124 4 := inE (rfl : y124.toInt = y124.toInt) (by omega) (by omega)
      refine ⟨g152, ?_⟩
      intro v153 ev153
      refine ⟨inE (aOkE (aOkE (mOkE (show (8 : Int32).toInt = 8 from by decide) (rfl : x6.toInt = x6.toInt) (by omega) (by omega)) (rfl : y124.toInt = y124.toInt) (by omega) (by omega)) (rfl : x7.toInt = x7.toInt) (by omega) (by omega)) (by omega) (by omega), ?_⟩
      intro σ157 eσ157
      have hσ157 : K2 σ0 σ157 := by rw [eσ157]; exact hσ123.u (Rg2.ra_10 _ _) (fun q => absurd q.1 (by decide)) (fun q => absurd q.1 (by decide)) ⟨⟨by decide, by decide⟩, fun q => absurd q.1 (by decide)⟩
      intro v158 ev158
      have f159 := tB v158
      first | have f161 : v158.toInt = (y124.toInt + (1)) := (congrArg Int32.toInt ev158).trans (aOkE (rfl : y124.toInt = y124.toInt) (show (1 : Int32).toInt = 1 from by decide) (by omega) (by omega)) | skip
      exact ih122 v158 σ157 ⟨hσ157, (kq (a := 0) (b := 14) eσ157 (fun q => absurd q.1 (by decide))).trans (k125), (kq (a := 0) (b := 9) eσ157 (fun q => absurd q.1 (by decide))).trans (k126), (kq (a := 0) (b := 35) eσ157 (fun q => absurd q.1 (by decide))).trans (k127), (kq (a := 0) (b := 24) eσ157 (fun q => absurd q.1 (by decide))).trans (k128), (kq (a := 0) (b := 36) eσ157 (fun q => absurd q.1 (by decide))).trans (k129), (kq (a := 0) (b := 41) eσ157 (fun q => absurd q.1 (by decide))).trans (k130), (kq (a := 0) (b := 50) eσ157 (fun q => absurd q.1 (by decide))).trans (k131), (kq (a := 0) (b := 51) eσ157 (fun q => absurd q.1 (by decide))).trans (k132), by omega⟩ (by (try dsimp only); omega)
set_option maxHeartbeats 4000000 in
theorem sX12_called_j149 {N : Nat} (hN : 4294967400 ≤ N) {x2 : Int32} {x4 : Int32} {x5 : Int32} {x6 : Int32} {t0 : Int32} {Q : St → Prop} {σ0 σ τ : St} (hi0 : 0 ≤ x2.toInt ∧ x2.toInt ≤ 4) (hi1 : 0 ≤ x5.toInt ∧ x5.toInt ≤ 8) (hi2 : 0 ≤ x6.toInt ∧ x6.toInt ≤ 39) (hi3 : 0 ≤ t0.toInt ∧ t0.toInt ≤ 1) (hk0 : τ.1 0 35 = σ.1 0 35) (hk1 : τ.1 0 24 = σ.1 0 24) (hk2 : τ.1 0 36 = σ.1 0 36) (hk3 : τ.1 0 41 = σ.1 0 41) (hk4 : τ.1 0 50 = σ.1 0 50) (hk5 : τ.1 0 51 = σ.1 0 51) (hσ : K2 σ0 σ) (hτ : K2 σ0 τ) (hQ : ∀ τ : St, K2 σ0 τ → (τ.1 0 35 = σ.1 0 35 ∧ τ.1 0 24 = σ.1 0 24 ∧ τ.1 0 36 = σ.1 0 36 ∧ τ.1 0 41 = σ.1 0 41 ∧ τ.1 0 50 = σ.1 0 50 ∧ τ.1 0 51 = σ.1 0 51) → Q τ) : fX12_called_j149 N x2 x4 x5 x6 t0 Q τ := by
  unfold fX12_called_j149
  have f101 := tB x2
  have f102 := tB x4
  have f103 := tB x5
  have f104 := tB x6
  have f105 := tB t0
  refine ⟨fun c106 => ?_, fun c106 => ?_⟩
  · first | have f108 := (eqE (rfl : x4.toInt = x4.toInt) (show (192 : Int32).toInt = 192 from by decide)).mp c106 | skip
    refine ⟨fun c109 => ?_, fun c109 => ?_⟩
    · first | have f111 := (leE (rfl : x5.toInt = x5.toInt) (show (0 : Int32).toInt = 0 from by decide)).mp c109 | skip
      exact sX12_called_j175 hN (by omega) (by omega) (by omega) (by omega) (hk0) (hk1) (hk2) (hk3) (hk4) (hk5) hσ hτ hQ
    · first | have f167 := (notleE (rfl : x5.toInt = x5.toInt) (show (0 : Int32).toInt = 0 from by decide)).mp c109 | skip
      refine ⟨inE (mOkE (show (8 : Int32).toInt = 8 from by decide) (rfl : x6.toInt = x6.toInt) (by omega) (by omega)) (by omega) (by omega), ?_⟩
      intro σ169 eσ169
      have hσ169 : K2 σ0 σ169 := by rw [eσ169]; exact hτ.u (Rg2.ra_10 _ _) (fun q => absurd q.1 (by decide)) (fun q => absurd q.1 (by decide)) ⟨⟨by decide, by decide⟩, fun q => absurd q.1 (by decide)⟩
      exact sX12_called_j175 hN (by omega) (by omega) (by omega) (by omega) ((kq (a := 0) (b := 35) eσ169 (fun q => absurd q.1 (by decide))).trans (hk0)) ((kq (a := 0) (b := 24) eσ169 (fun q => absurd q.1 (by decide))).trans (hk1)) ((kq (a := 0) (b := 36) eσ169 (fun q => absurd q.1 (by decide))).trans (hk2)) ((kq (a := 0) (b := 41) eσ169 (fun q => absurd q.1 (by decide))).trans (hk3)) ((kq (a := 0) (b := 50) eσ169 (fun q => absurd q.1 (by decide))).trans (hk4)) ((kq (a := 0) (b := 51) eσ169 (fun q => absurd q.1 (by decide))).trans (hk5)) hσ hσ169 hQ
  · first | have f175 := (noteqE (rfl : x4.toInt = x4.toInt) (show (192 : Int32).toInt = 192 from by decide)).mp c106 | skip
    exact sX12_called_j175 hN (by omega) (by omega) (by omega) (by omega) (hk0) (hk1) (hk2) (hk3) (hk4) (hk5) hσ hτ hQ
set_option maxHeartbeats 4000000 in
theorem sX12_called_j65 {N : Nat} (hN : 4294967400 ≤ N) {x1 : Int32} {x2 : Int32} {x3 : Int32} {x4 : Int32} {x5 : Int32} {Q : St → Prop} {σ0 σ τ : St} (hi0 : 0 ≤ x2.toInt ∧ x2.toInt ≤ 4) (hi1 : (x3.toInt = 255 ∨ (0 ≤ x3.toInt ∧ x3.toInt ≤ 7 ∧ 1 ≤ (τ.1 0 14).toInt))) (hi2 : 0 ≤ x5.toInt) (hi3 : (x5.toInt ≤ 8 ∨ ¬ (τ.1 0 9).toInt = 0)) (hk0 : τ.1 0 35 = σ.1 0 35) (hk1 : τ.1 0 24 = σ.1 0 24) (hk2 : τ.1 0 36 = σ.1 0 36) (hk3 : τ.1 0 41 = σ.1 0 41) (hk4 : τ.1 0 50 = σ.1 0 50) (hk5 : τ.1 0 51 = σ.1 0 51) (hσ : K2 σ0 σ) (hτ : K2 σ0 τ) (hQ : ∀ τ : St, K2 σ0 τ → (τ.1 0 35 = σ.1 0 35 ∧ τ.1 0 24 = σ.1 0 24 ∧ τ.1 0 36 = σ.1 0 36 ∧ τ.1 0 41 = σ.1 0 41 ∧ τ.1 0 50 = σ.1 0 50 ∧ τ.1 0 51 = σ.1 0 51) → Q τ) : fX12_called_j65 N x1 x2 x3 x4 x5 Q τ := by
  unfold fX12_called_j65
  have f42 := tB x1
  have f43 := tB x2
  have f44 := tB x3
  have f45 := tB x4
  have f46 := tB x5
  have f47 := K2.g_0_14 hτ
  have f48 := K2.g_0_9 hτ
  refine sX12_lays hN hτ (fun σ50 hσ50 kk57 => ?_)
  obtain ⟨k51, k52, k53, k54, k55, k56, sp58, sp59⟩ := kk57
  refine ⟨fun c63 => ?_, fun c63 => ?_⟩
  · have f64 := K2.g_0_9 hσ50
    first | have f65 := (leE (rfl : (σ50.1 0 9).toInt = (σ50.1 0 9).toInt) (show (0 : Int32).toInt = 0 from by decide)).mp c63 | skip
    intro v66 ev66
    have f67 := tB v66
    have f68 := K2.g_0_14 hσ50
    first | have f69 : v66.toInt = ((σ50.1 0 14).toInt - (1)) := (congrArg Int32.toInt ev66).trans (sOkE (rfl : (σ50.1 0 14).toInt = (σ50.1 0 14).toInt) (show (1 : Int32).toInt = 1 from by decide) (by omega) (by omega)) | skip
    refine ⟨inE (rfl : v66.toInt = v66.toInt) (by omega) (by omega), ?_⟩
    intro σ70 eσ70
    have f72 := clE (rfl : v66.toInt = v66.toInt) (by omega)
    have hσ70 : K2 σ0 σ70 := by rw [eσ70]; exact hσ50.u13 (by omega)
    refine ⟨inE (rfl : v66.toInt = v66.toInt) (by omega) (by omega), ?_⟩
    intro σ74 eσ74
    have hσ74 : K2 σ0 σ74 := by rw [eσ74]; exact hσ70.u (Rg2.ra_9 (leP (rfl : x5.toInt = x5.toInt) (by omega)) (geP (rfl : x5.toInt = x5.toInt) (by omega))) (fun q => absurd q.1 (by decide)) (fun q => absurd q.1 (by decide)) ⟨⟨by decide, by decide⟩, fun q => absurd q.1 (by decide)⟩
    refine lo1_i (fun (y76 : Int32) (ω : St) => K2 σ0 ω ∧ ω.1 0 14 = σ74.1 0 14 ∧ ω.1 0 9 = σ74.1 0 9 ∧ ω.1 0 35 = σ74.1 0 35 ∧ ω.1 0 24 = σ74.1 0 24 ∧ ω.1 0 36 = σ74.1 0 36 ∧ ω.1 0 41 = σ74.1 0 41 ∧ ω.1 0 50 = σ74.1 0 50 ∧ ω.1 0 51 = σ74.1 0 51 ∧ 0 ≤ y76.toInt) (fun (y76 : Int32) (ω : St) => (2147483648 - y76.toInt).toNat) ?_ N (0 : Int32) σ74 ⟨hσ74, rfl, rfl, rfl, rfl, rfl, rfl, rfl, rfl, by first | decide | (have z0 : (0 : Int32).toInt = 0 := (by decide); omega)⟩ (by have z0 : (0 : Int32).toInt = 0 := (by decide); (try dsimp only); omega)
    intro rr81 y84 σ83 hIσ83 ih82
    obtain ⟨hσ83, k85, k86, k87, k88, k89, k90, k91, k92, i93⟩ := hIσ83
    unfold fX12_called_l109
    have f94 := tB y84
    refine ⟨fun c95 => ?_, fun c95 => ?_⟩
    · first | have f97 := (leE (show (8 : Int32).toInt = 8 from by decide) (rfl : y84.toInt = y84.toInt)).mp c95 | skip
      refine ⟨fun c98 => ?_, fun c98 => ?_⟩
      · first | have f100 := (eqE (rfl : x4.toInt = x4.toInt) (show (192 : Int32).toInt = 192 from by decide)).mp c98 | skip
        exact sX12_called_j149 hN (by omega) (by omega) (by omega) (by have zt0 := (show (1 : Int32).toInt = 1 from by decide); omega) (k87.trans ((kq (a := 0) (b := 35) eσ74 (fun q => absurd q.1 (by decide))).trans ((kq (a := 0) (b := 35) eσ70 (fun q => absurd q.1 (by decide))).trans (k51.trans (hk0))))) (k88.trans ((kq (a := 0) (b := 24) eσ74 (fun q => absurd q.1 (by decide))).trans ((kq (a := 0) (b := 24) eσ70 (fun q => absurd q.1 (by decide))).trans (k52.trans (hk1))))) (k89.trans ((kq (a := 0) (b := 36) eσ74 (fun q => absurd q.1 (by decide))).trans ((kq (a := 0) (b := 36) eσ70 (fun q => absurd q.1 (by decide))).trans (k53.trans (hk2))))) (k90.trans ((kq (a := 0) (b := 41) eσ74 (fun q => absurd q.1 (by decide))).trans ((kq (a := 0) (b := 41) eσ70 (fun q => absurd q.1 (by decide))).trans (k54.trans (hk3))))) (k91.trans ((kq (a := 0) (b := 50) eσ74 (fun q => absurd q.1 (by decide))).trans ((kq (a := 0) (b := 50) eσ70 (fun q => absurd q.1 (by decide))).trans (k55.trans (hk4))))) (k92.trans ((kq (a := 0) (b := 51) eσ74 (fun q => absurd q.1 (by decide))).trans ((kq (a := 0) (b := 51) eσ70 (fun q => absurd q.1 (by decide))).trans (k56.trans (hk5))))) hσ hσ83 hQ
      · first | have f185 := (noteqE (rfl : x4.toInt = x4.toInt) (show (192 : Int32).toInt = 192 from by decide)).mp c98 | skip
        exact sX12_called_j149 hN (by omega) (by omega) (by omega) (by have zt0 := (show (0 : Int32).toInt = 0 from by decide); omega) (k87.trans ((kq (a := 0) (b := 35) eσ74 (fun q => absurd q.1 (by decide))).trans ((kq (a := 0) (b := 35) eσ70 (fun q => absurd q.1 (by decide))).trans (k51.trans (hk0))))) (k88.trans ((kq (a := 0) (b := 24) eσ74 (fun q => absurd q.1 (by decide))).trans ((kq (a := 0) (b := 24) eσ70 (fun q => absurd q.1 (by decide))).trans (k52.trans (hk1))))) (k89.trans ((kq (a := 0) (b := 36) eσ74 (fun q => absurd q.1 (by decide))).trans ((kq (a := 0) (b := 36) eσ70 (fun q => absurd q.1 (by decide))).trans (k53.trans (hk2))))) (k90.trans ((kq (a := 0) (b := 41) eσ74 (fun q => absurd q.1 (by decide))).trans ((kq (a := 0) (b := 41) eσ70 (fun q => absurd q.1 (by decide))).trans (k54.trans (hk3))))) (k91.trans ((kq (a := 0) (b := 50) eσ74 (fun q => absurd q.1 (by decide))).trans ((kq (a := 0) (b := 50) eσ70 (fun q => absurd q.1 (by decide))).trans (k55.trans (hk4))))) (k92.trans ((kq (a := 0) (b := 51) eσ74 (fun q => absurd q.1 (by decide))).trans ((kq (a := 0) (b := 51) eσ70 (fun q => absurd q.1 (by decide))).trans (k56.trans (hk5))))) hσ hσ83 hQ
    · first | have f191 := (notleE (show (8 : Int32).toInt = 8 from by decide) (rfl : y84.toInt = y84.toInt)).mp c95 | skip
      refine ⟨inE (aOkE (mOkE (show (8 : Int32).toInt = 8 from by decide) (rfl : v66.toInt = v66.toInt) (by omega) (by omega)) (rfl : y84.toInt = y84.toInt) (by omega) (by omega)) (by omega) (by omega), ?_⟩
      intro σ194 eσ194
      have hσ194 : K2 σ0 σ194 := by rw [eσ194]; exact hσ83.u (Rg2.ra_10 _ _) (fun q => absurd q.1 (by decide)) (fun q => absurd q.1 (by decide)) ⟨⟨by decide, by decide⟩, fun q => absurd q.1 (by decide)⟩
      intro v195 ev195
      have f196 := tB v195
      first | have f198 : v195.toInt = (y84.toInt + (1)) := (congrArg Int32.toInt ev195).trans (aOkE (rfl : y84.toInt = y84.toInt) (show (1 : Int32).toInt = 1 from by decide) (by omega) (by omega)) | skip
      exact ih82 v195 σ194 ⟨hσ194, (kq (a := 0) (b := 14) eσ194 (fun q => absurd q.1 (by decide))).trans (k85), (kq (a := 0) (b := 9) eσ194 (fun q => absurd q.1 (by decide))).trans (k86), (kq (a := 0) (b := 35) eσ194 (fun q => absurd q.1 (by decide))).trans (k87), (kq (a := 0) (b := 24) eσ194 (fun q => absurd q.1 (by decide))).trans (k88), (kq (a := 0) (b := 36) eσ194 (fun q => absurd q.1 (by decide))).trans (k89), (kq (a := 0) (b := 41) eσ194 (fun q => absurd q.1 (by decide))).trans (k90), (kq (a := 0) (b := 50) eσ194 (fun q => absurd q.1 (by decide))).trans (k91), (kq (a := 0) (b := 51) eσ194 (fun q => absurd q.1 (by decide))).trans (k92), by omega⟩ (by (try dsimp only); omega)
  · have f199 := K2.g_0_9 hσ50
    first | have f200 := (notleE (rfl : (σ50.1 0 9).toInt = (σ50.1 0 9).toInt) (show (0 : Int32).toInt = 0 from by decide)).mp c63 | skip
    exact hQ _ hσ50 (⟨k51.trans (hk0), k52.trans (hk1), k53.trans (hk2), k54.trans (hk3), k55.trans (hk4), k56.trans (hk5)⟩)
set_option maxHeartbeats 4000000 in
theorem sX12_called_j36 {N : Nat} (hN : 4294967400 ≤ N) {x1 : Int32} {x2 : Int32} {x3 : Int32} {x4 : Int32} {Q : St → Prop} {σ0 σ τ : St} (hi0 : 0 ≤ x2.toInt ∧ x2.toInt ≤ 4) (hi1 : (x3.toInt = 255 ∨ (0 ≤ x3.toInt ∧ x3.toInt ≤ 7 ∧ 1 ≤ (τ.1 0 14).toInt))) (hk0 : τ.1 0 35 = σ.1 0 35) (hk1 : τ.1 0 24 = σ.1 0 24) (hk2 : τ.1 0 36 = σ.1 0 36) (hk3 : τ.1 0 41 = σ.1 0 41) (hk4 : τ.1 0 50 = σ.1 0 50) (hk5 : τ.1 0 51 = σ.1 0 51) (hσ : K2 σ0 σ) (hτ : K2 σ0 τ) (hQ : ∀ τ : St, K2 σ0 τ → (τ.1 0 35 = σ.1 0 35 ∧ τ.1 0 24 = σ.1 0 24 ∧ τ.1 0 36 = σ.1 0 36 ∧ τ.1 0 41 = σ.1 0 41 ∧ τ.1 0 50 = σ.1 0 50 ∧ τ.1 0 51 = σ.1 0 51) → Q τ) : fX12_called_j36 N x1 x2 x3 x4 Q τ := by
  unfold fX12_called_j36
  have f19 := tB x1
  have f20 := tB x2
  have f21 := tB x3
  have f22 := tB x4
  have f23 := K2.g_0_14 hτ
  refine sX12_read hN hτ (fun r34 σ25 hσ25 kk33 p35 => ?_)
  obtain ⟨k26, k27, k28, k29, k30, k31, k32⟩ := kk33
  refine ⟨fun c36 => ?_, fun c36 => ?_⟩
  · have f37 := K2.g_0_9 hσ25
    first | have f38 := (eqE (rfl : (σ25.1 0 9).toInt = (σ25.1 0 9).toInt) (show (0 : Int32).toInt = 0 from by decide)).mp c36 | skip
    refine ⟨fun c39 => ?_, fun c39 => ?_⟩
    · have f40 := tB r34
      first | have f41 := (leE (rfl : r34.toInt = r34.toInt) (show (8 : Int32).toInt = 8 from by decide)).mp c39 | skip
      have f206 := K2.g_0_14 hσ25
      have f207 := congrArg Int32.toInt k26
      exact sX12_called_j65 hN (by omega) (by omega) (by omega) (by omega) (k27.trans (hk0)) (k28.trans (hk1)) (k29.trans (hk2)) (k30.trans (hk3)) (k31.trans (hk4)) (k32.trans (hk5)) hσ hσ25 hQ
    · have f210 := tB r34
      first | have f211 := (notleE (rfl : r34.toInt = r34.toInt) (show (8 : Int32).toInt = 8 from by decide)).mp c39 | skip
      try unfold fX12_fails
      refine ⟨fun c212 => ?_, fun c212 => ?_⟩
      · first | have f214 := (eqE (rfl : (σ25.1 0 9).toInt = (σ25.1 0 9).toInt) (show (0 : Int32).toInt = 0 from by decide)).mp c212 | skip
        try unfold fX12_fails_j16
        intro σ215 eσ215
        have hσ215 : K2 σ0 σ215 := by rw [eσ215]; exact hσ25.u (Rg2.r_0_9 (leP (show (4 : Int32).toInt = 4 from by decide) (by omega)) (geP (show (4 : Int32).toInt = 4 from by decide) (by omega))) (fun q => absurd q.2 (by decide)) (fun q => absurd q.2 (by decide)) ⟨⟨by decide, by decide⟩, fun q => absurd q.2 (by decide)⟩
        try dsimp only
        have f221 := K2.g_0_14 hσ215
        have q222 : σ215.1 0 14 = σ25.1 0 14 := by rw [eσ215, u1_at]; exact if_neg (by decide)
        have f223 := congrArg Int32.toInt q222
        have f224 := K2.g_0_14 hσ25
        have f225 := congrArg Int32.toInt k26
        have f227 := K2.g_0_9 hσ215
        have q228 : σ215.1 0 9 = 4 := by rw [eσ215, u1_at]; exact if_pos rfl
        first | have f229 : (σ215.1 0 9).toInt = (4) := (congrArg Int32.toInt q228).trans (show (4 : Int32).toInt = 4 from by decide) | skip
        exact sX12_called_j65 hN (by omega) (by omega) (by omega) (by omega) ((kq (a := 0) (b := 35) eσ215 (fun q => absurd q.2 (by decide))).trans (k27.trans (hk0))) ((kq (a := 0) (b := 24) eσ215 (fun q => absurd q.2 (by decide))).trans (k28.trans (hk1))) ((kq (a := 0) (b := 36) eσ215 (fun q => absurd q.2 (by decide))).trans (k29.trans (hk2))) ((kq (a := 0) (b := 41) eσ215 (fun q => absurd q.2 (by decide))).trans (k30.trans (hk3))) ((kq (a := 0) (b := 50) eσ215 (fun q => absurd q.2 (by decide))).trans (k31.trans (hk4))) ((kq (a := 0) (b := 51) eσ215 (fun q => absurd q.2 (by decide))).trans (k32.trans (hk5))) hσ hσ215 hQ
      · first | have f231 := (noteqE (rfl : (σ25.1 0 9).toInt = (σ25.1 0 9).toInt) (show (0 : Int32).toInt = 0 from by decide)).mp c212 | skip
        try unfold fX12_fails_j16
        intro σ232 eσ232
        have hσ232 : K2 σ0 σ232 := by rw [eσ232]; exact hσ25.u (Rg2.r_0_9 (leP (rfl : (σ25.1 0 9).toInt = (σ25.1 0 9).toInt) (by omega)) (geP (rfl : (σ25.1 0 9).toInt = (σ25.1 0 9).toInt) (by omega))) (fun q => absurd q.2 (by decide)) (fun q => absurd q.2 (by decide)) ⟨⟨by decide, by decide⟩, fun q => absurd q.2 (by decide)⟩
        try dsimp only
        have f239 := K2.g_0_14 hσ232
        have q240 : σ232.1 0 14 = σ25.1 0 14 := by rw [eσ232, u1_at]; exact if_neg (by decide)
        have f241 := congrArg Int32.toInt q240
        have f242 := K2.g_0_14 hσ25
        have f243 := congrArg Int32.toInt k26
        have f245 := K2.g_0_9 hσ232
        have q246 : σ232.1 0 9 = (σ25.1 0 9) := by rw [eσ232, u1_at]; exact if_pos rfl
        first | have f248 : (σ232.1 0 9).toInt = (σ25.1 0 9).toInt := (congrArg Int32.toInt q246).trans (rfl : (σ25.1 0 9).toInt = (σ25.1 0 9).toInt) | skip
        exact sX12_called_j65 hN (by omega) (by omega) (by omega) (by omega) ((kq (a := 0) (b := 35) eσ232 (fun q => absurd q.2 (by decide))).trans (k27.trans (hk0))) ((kq (a := 0) (b := 24) eσ232 (fun q => absurd q.2 (by decide))).trans (k28.trans (hk1))) ((kq (a := 0) (b := 36) eσ232 (fun q => absurd q.2 (by decide))).trans (k29.trans (hk2))) ((kq (a := 0) (b := 41) eσ232 (fun q => absurd q.2 (by decide))).trans (k30.trans (hk3))) ((kq (a := 0) (b := 50) eσ232 (fun q => absurd q.2 (by decide))).trans (k31.trans (hk4))) ((kq (a := 0) (b := 51) eσ232 (fun q => absurd q.2 (by decide))).trans (k32.trans (hk5))) hσ hσ232 hQ
  · have f249 := K2.g_0_9 hσ25
    first | have f250 := (noteqE (rfl : (σ25.1 0 9).toInt = (σ25.1 0 9).toInt) (show (0 : Int32).toInt = 0 from by decide)).mp c36 | skip
    have f255 := tB r34
    have f256 := K2.g_0_14 hσ25
    have f257 := congrArg Int32.toInt k26
    exact sX12_called_j65 hN (by omega) (by omega) (by omega) (by omega) (k27.trans (hk0)) (k28.trans (hk1)) (k29.trans (hk2)) (k30.trans (hk3)) (k31.trans (hk4)) (k32.trans (hk5)) hσ hσ25 hQ
set_option maxHeartbeats 4000000 in
theorem sX12_called {N : Nat} (hN : 4294967400 ≤ N) {x1 : Int32} {x2 : Int32} {x3 : Int32} {Q : St → Prop} {σ0 σ : St} (hp2 : 0 ≤ x2.toInt ∧ x2.toInt ≤ 4) (hx0 : (x3.toInt = 255 ∨ (0 ≤ x3.toInt ∧ x3.toInt ≤ 7 ∧ 1 ≤ (σ.1 0 14).toInt))) (hσ : K2 σ0 σ) (hQ : ∀ τ : St, K2 σ0 τ → (τ.1 0 35 = σ.1 0 35 ∧ τ.1 0 24 = σ.1 0 24 ∧ τ.1 0 36 = σ.1 0 36 ∧ τ.1 0 41 = σ.1 0 41 ∧ τ.1 0 50 = σ.1 0 50 ∧ τ.1 0 51 = σ.1 0 51) → Q τ) : fX12_called N x1 x2 x3 Q σ := by
  unfold fX12_called
  have f1 := tB x1
  refine sX12_read hN hσ (fun r11 σ2 hσ2 kk10 p12 => ?_)
  obtain ⟨k3, k4, k5, k6, k7, k8, k9⟩ := kk10
  refine ⟨fun c13 => ?_, fun c13 => ?_⟩
  · have f14 := K2.g_0_9 hσ2
    first | have f15 := (eqE (rfl : (σ2.1 0 9).toInt = (σ2.1 0 9).toInt) (show (0 : Int32).toInt = 0 from by decide)).mp c13 | skip
    refine ⟨fun c16 => ?_, fun c16 => ?_⟩
    · have f17 := tB r11
      first | have f18 := (eqE (rfl : r11.toInt = r11.toInt) (show (192 : Int32).toInt = 192 from by decide)).mp c16 | skip
      have f261 := tB x2
      have f262 := tB x3
      have f264 := K2.g_0_14 hσ2
      have f265 := congrArg Int32.toInt k3
      have f266 := K2.g_0_14 hσ
      exact sX12_called_j36 hN (by omega) (by omega) (k4) (k5) (k6) (k7) (k8) (k9) hσ hσ2 hQ
    · have f267 := tB r11
      first | have f268 := (noteqE (rfl : r11.toInt = r11.toInt) (show (192 : Int32).toInt = 192 from by decide)).mp c16 | skip
      refine ⟨fun c269 => ?_, fun c269 => ?_⟩
      · first | have f271 := (eqE (rfl : r11.toInt = r11.toInt) (show (193 : Int32).toInt = 193 from by decide)).mp c269 | skip
        have f273 := tB x2
        have f274 := tB x3
        have f276 := K2.g_0_14 hσ2
        have f277 := congrArg Int32.toInt k3
        have f278 := K2.g_0_14 hσ
        exact sX12_called_j36 hN (by omega) (by omega) (k4) (k5) (k6) (k7) (k8) (k9) hσ hσ2 hQ
      · first | have f280 := (noteqE (rfl : r11.toInt = r11.toInt) (show (193 : Int32).toInt = 193 from by decide)).mp c269 | skip
        try unfold fX12_fails
        refine ⟨fun c281 => ?_, fun c281 => ?_⟩
        · first | have f283 := (eqE (rfl : (σ2.1 0 9).toInt = (σ2.1 0 9).toInt) (show (0 : Int32).toInt = 0 from by decide)).mp c281 | skip
          try unfold fX12_fails_j16
          intro σ284 eσ284
          have hσ284 : K2 σ0 σ284 := by rw [eσ284]; exact hσ2.u (Rg2.r_0_9 (leP (show (4 : Int32).toInt = 4 from by decide) (by omega)) (geP (show (4 : Int32).toInt = 4 from by decide) (by omega))) (fun q => absurd q.2 (by decide)) (fun q => absurd q.2 (by decide)) ⟨⟨by decide, by decide⟩, fun q => absurd q.2 (by decide)⟩
          try dsimp only
          have f286 := tB x2
          have f287 := tB x3
          have f289 := K2.g_0_14 hσ284
          have q290 : σ284.1 0 14 = σ2.1 0 14 := by rw [eσ284, u1_at]; exact if_neg (by decide)
          have f291 := congrArg Int32.toInt q290
          have f292 := K2.g_0_14 hσ2
          have f293 := congrArg Int32.toInt k3
          have f294 := K2.g_0_14 hσ
          exact sX12_called_j36 hN (by omega) (by omega) ((kq (a := 0) (b := 35) eσ284 (fun q => absurd q.2 (by decide))).trans (k4)) ((kq (a := 0) (b := 24) eσ284 (fun q => absurd q.2 (by decide))).trans (k5)) ((kq (a := 0) (b := 36) eσ284 (fun q => absurd q.2 (by decide))).trans (k6)) ((kq (a := 0) (b := 41) eσ284 (fun q => absurd q.2 (by decide))).trans (k7)) ((kq (a := 0) (b := 50) eσ284 (fun q => absurd q.2 (by decide))).trans (k8)) ((kq (a := 0) (b := 51) eσ284 (fun q => absurd q.2 (by decide))).trans (k9)) hσ hσ284 hQ
        · first | have f296 := (noteqE (rfl : (σ2.1 0 9).toInt = (σ2.1 0 9).toInt) (show (0 : Int32).toInt = 0 from by decide)).mp c281 | skip
          try unfold fX12_fails_j16
          intro σ297 eσ297
          have hσ297 : K2 σ0 σ297 := by rw [eσ297]; exact hσ2.u (Rg2.r_0_9 (leP (rfl : (σ2.1 0 9).toInt = (σ2.1 0 9).toInt) (by omega)) (geP (rfl : (σ2.1 0 9).toInt = (σ2.1 0 9).toInt) (by omega))) (fun q => absurd q.2 (by decide)) (fun q => absurd q.2 (by decide)) ⟨⟨by decide, by decide⟩, fun q => absurd q.2 (by decide)⟩
          try dsimp only
          have f300 := tB x2
          have f301 := tB x3
          have f303 := K2.g_0_14 hσ297
          have q304 : σ297.1 0 14 = σ2.1 0 14 := by rw [eσ297, u1_at]; exact if_neg (by decide)
          have f305 := congrArg Int32.toInt q304
          have f306 := K2.g_0_14 hσ2
          have f307 := congrArg Int32.toInt k3
          have f308 := K2.g_0_14 hσ
          exact sX12_called_j36 hN (by omega) (by omega) ((kq (a := 0) (b := 35) eσ297 (fun q => absurd q.2 (by decide))).trans (k4)) ((kq (a := 0) (b := 24) eσ297 (fun q => absurd q.2 (by decide))).trans (k5)) ((kq (a := 0) (b := 36) eσ297 (fun q => absurd q.2 (by decide))).trans (k6)) ((kq (a := 0) (b := 41) eσ297 (fun q => absurd q.2 (by decide))).trans (k7)) ((kq (a := 0) (b := 50) eσ297 (fun q => absurd q.2 (by decide))).trans (k8)) ((kq (a := 0) (b := 51) eσ297 (fun q => absurd q.2 (by decide))).trans (k9)) hσ hσ297 hQ
  · have f309 := K2.g_0_9 hσ2
    first | have f310 := (noteqE (rfl : (σ2.1 0 9).toInt = (σ2.1 0 9).toInt) (show (0 : Int32).toInt = 0 from by decide)).mp c13 | skip
    have f312 := tB x2
    have f313 := tB x3
    have f314 := tB r11
    have f315 := K2.g_0_14 hσ2
    have f316 := congrArg Int32.toInt k3
    have f317 := K2.g_0_14 hσ
    exact sX12_called_j36 hN (by omega) (by omega) (k4) (k5) (k6) (k7) (k8) (k9) hσ hσ2 hQ
set_option maxHeartbeats 4000000 in
theorem sX12_gives_j112 {N : Nat} (hN : 4294967400 ≤ N) {t0 : Int32} {t1 : Int32} {Q : St → Prop} {σ0 σ τ : St} (hk0 : τ.1 0 35 = σ.1 0 35) (hk1 : τ.1 0 36 = σ.1 0 36) (hk2 : τ.1 0 41 = σ.1 0 41) (hk3 : τ.1 0 50 = σ.1 0 50) (hk4 : τ.1 0 51 = σ.1 0 51) (hσ : K2 σ0 σ) (hτ : K2 σ0 τ) (hQ : ∀ τ : St, K2 σ0 τ → (τ.1 0 35 = σ.1 0 35 ∧ τ.1 0 36 = σ.1 0 36 ∧ τ.1 0 41 = σ.1 0 41 ∧ τ.1 0 50 = σ.1 0 50 ∧ τ.1 0 51 = σ.1 0 51) → Q τ) : fX12_gives_j112 N t0 t1 Q τ := by
  unfold fX12_gives_j112
  have f57 := tB t0
  have f58 := tB t1
  intro v59 ev59
  intro σ60 eσ60
  have hσ60 : K2 σ0 σ60 := by rw [eσ60]; exact hτ.u (Rg2.u_0_27 _) (fun q => absurd q.2 (by decide)) (fun q => absurd q.2 (by decide)) ⟨⟨by decide, by decide⟩, fun q => absurd q.2 (by decide)⟩
  exact hQ _ hσ60 (⟨(kq (a := 0) (b := 35) eσ60 (fun q => absurd q.2 (by decide))).trans (hk0), (kq (a := 0) (b := 36) eσ60 (fun q => absurd q.2 (by decide))).trans (hk1), (kq (a := 0) (b := 41) eσ60 (fun q => absurd q.2 (by decide))).trans (hk2), (kq (a := 0) (b := 50) eσ60 (fun q => absurd q.2 (by decide))).trans (hk3), (kq (a := 0) (b := 51) eσ60 (fun q => absurd q.2 (by decide))).trans (hk4)⟩)
set_option maxHeartbeats 4000000 in
theorem sX12_gives {N : Nat} (hN : 4294967400 ≤ N) {x1 : Int32} {Q : St → Prop} {σ0 σ : St} (hσ : K2 σ0 σ) (hQ : ∀ τ : St, K2 σ0 τ → (τ.1 0 35 = σ.1 0 35 ∧ τ.1 0 36 = σ.1 0 36 ∧ τ.1 0 41 = σ.1 0 41 ∧ τ.1 0 50 = σ.1 0 50 ∧ τ.1 0 51 = σ.1 0 51) → Q τ) : fX12_gives N x1 Q σ := by
  unfold fX12_gives
  refine ⟨fun c1 => ?_, fun c1 => ?_⟩
  · have f2 := K2.g_0_9 hσ
    first | have f3 := (leE (rfl : (σ.1 0 9).toInt = (σ.1 0 9).toInt) (show (0 : Int32).toInt = 0 from by decide)).mp c1 | skip
    refine ⟨fun c4 => ?_, fun c4 => ?_⟩
    · have f5 := tB (σ.1 0 12)
      first | have f6 := (eqE (rfl : (σ.1 0 12).toInt = (σ.1 0 12).toInt) (show (2 : Int32).toInt = 2 from by decide)).mp c4 | skip
      refine ⟨fun c7 => ?_, fun c7 => ?_⟩
      · have f8 := K2.g_0_24 hσ
        first | have f9 := (eqE (rfl : (σ.1 0 24).toInt = (σ.1 0 24).toInt) (show (1000 : Int32).toInt = 1000 from by decide)).mp c7 | skip
        try unfold fX12_fails
        refine ⟨fun c10 => ?_, fun c10 => ?_⟩
        · first | have f12 := (eqE (rfl : (σ.1 0 9).toInt = (σ.1 0 9).toInt) (show (0 : Int32).toInt = 0 from by decide)).mp c10 | skip
          try unfold fX12_fails_j16
          intro σ13 eσ13
          have hσ13 : K2 σ0 σ13 := by rw [eσ13]; exact hσ.u (Rg2.r_0_9 (leP (show (9 : Int32).toInt = 9 from by decide) (by omega)) (geP (show (9 : Int32).toInt = 9 from by decide) (by omega))) (fun q => absurd q.2 (by decide)) (fun q => absurd q.2 (by decide)) ⟨⟨by decide, by decide⟩, fun q => absurd q.2 (by decide)⟩
          try dsimp only
          exact hQ _ hσ13 (⟨(kq (a := 0) (b := 35) eσ13 (fun q => absurd q.2 (by decide))), (kq (a := 0) (b := 36) eσ13 (fun q => absurd q.2 (by decide))), (kq (a := 0) (b := 41) eσ13 (fun q => absurd q.2 (by decide))), (kq (a := 0) (b := 50) eσ13 (fun q => absurd q.2 (by decide))), (kq (a := 0) (b := 51) eσ13 (fun q => absurd q.2 (by decide)))⟩)
        · first | have f15 := (noteqE (rfl : (σ.1 0 9).toInt = (σ.1 0 9).toInt) (show (0 : Int32).toInt = 0 from by decide)).mp c10 | skip
          try unfold fX12_fails_j16
          intro σ16 eσ16
          have hσ16 : K2 σ0 σ16 := by rw [eσ16]; exact hσ.u (Rg2.r_0_9 (leP (rfl : (σ.1 0 9).toInt = (σ.1 0 9).toInt) (by omega)) (geP (rfl : (σ.1 0 9).toInt = (σ.1 0 9).toInt) (by omega))) (fun q => absurd q.2 (by decide)) (fun q => absurd q.2 (by decide)) ⟨⟨by decide, by decide⟩, fun q => absurd q.2 (by decide)⟩
          try dsimp only
          exact hQ _ hσ16 (⟨(kq (a := 0) (b := 35) eσ16 (fun q => absurd q.2 (by decide))), (kq (a := 0) (b := 36) eσ16 (fun q => absurd q.2 (by decide))), (kq (a := 0) (b := 41) eσ16 (fun q => absurd q.2 (by decide))), (kq (a := 0) (b := 50) eσ16 (fun q => absurd q.2 (by decide))), (kq (a := 0) (b := 51) eσ16 (fun q => absurd q.2 (by decide)))⟩)
      · have f18 := K2.g_0_24 hσ
        first | have f19 := (noteqE (rfl : (σ.1 0 24).toInt = (σ.1 0 24).toInt) (show (1000 : Int32).toInt = 1000 from by decide)).mp c7 | skip
        refine ⟨inE (rfl : (σ.1 0 24).toInt = (σ.1 0 24).toInt) (by omega) (by omega), ?_⟩
        intro σ21 eσ21
        have hσ21 : K2 σ0 σ21 := by rw [eσ21]; exact hσ.u (Rg2.ra_14 _ _) (fun q => absurd q.1 (by decide)) (fun q => absurd q.1 (by decide)) ⟨⟨by decide, by decide⟩, fun q => absurd q.1 (by decide)⟩
        intro v22 ev22
        intro σ23 eσ23
        have f24 := tB v22
        have f25 := K2.g_0_24 hσ21
        have q26 : σ21.1 0 24 = σ.1 0 24 := by rw [eσ21]; exact congrFun (u1_ne (by decide)) 24
        have f27 := congrArg Int32.toInt q26
        first | have f29 : v22.toInt = ((σ21.1 0 24).toInt + (1)) := (congrArg Int32.toInt ev22).trans (aOkE (rfl : (σ21.1 0 24).toInt = (σ21.1 0 24).toInt) (show (1 : Int32).toInt = 1 from by decide) (by omega) (by omega)) | skip
        have hσ23 : K2 σ0 σ23 := by rw [eσ23]; exact hσ21.u (Rg2.r_0_24 (leP (rfl : v22.toInt = v22.toInt) (by omega)) (geP (rfl : v22.toInt = v22.toInt) (by omega))) (fun q => absurd q.2 (by decide)) (fun q => absurd q.2 (by decide)) ⟨⟨by decide, by decide⟩, fun q => absurd q.2 (by decide)⟩
        intro v30 ev30
        intro σ31 eσ31
        have hσ31 : K2 σ0 σ31 := by rw [eσ31]; exact hσ23.u (Rg2.u_0_26 _) (fun q => absurd q.2 (by decide)) (fun q => absurd q.2 (by decide)) ⟨⟨by decide, by decide⟩, fun q => absurd q.2 (by decide)⟩
        exact hQ _ hσ31 (⟨(kq (a := 0) (b := 35) eσ31 (fun q => absurd q.2 (by decide))).trans ((kq (a := 0) (b := 35) eσ23 (fun q => absurd q.2 (by decide))).trans ((kq (a := 0) (b := 35) eσ21 (fun q => absurd q.1 (by decide))))), (kq (a := 0) (b := 36) eσ31 (fun q => absurd q.2 (by decide))).trans ((kq (a := 0) (b := 36) eσ23 (fun q => absurd q.2 (by decide))).trans ((kq (a := 0) (b := 36) eσ21 (fun q => absurd q.1 (by decide))))), (kq (a := 0) (b := 41) eσ31 (fun q => absurd q.2 (by decide))).trans ((kq (a := 0) (b := 41) eσ23 (fun q => absurd q.2 (by decide))).trans ((kq (a := 0) (b := 41) eσ21 (fun q => absurd q.1 (by decide))))), (kq (a := 0) (b := 50) eσ31 (fun q => absurd q.2 (by decide))).trans ((kq (a := 0) (b := 50) eσ23 (fun q => absurd q.2 (by decide))).trans ((kq (a := 0) (b := 50) eσ21 (fun q => absurd q.1 (by decide))))), (kq (a := 0) (b := 51) eσ31 (fun q => absurd q.2 (by decide))).trans ((kq (a := 0) (b := 51) eσ23 (fun q => absurd q.2 (by decide))).trans ((kq (a := 0) (b := 51) eσ21 (fun q => absurd q.1 (by decide)))))⟩)
    · have f32 := tB (σ.1 0 12)
      first | have f33 := (noteqE (rfl : (σ.1 0 12).toInt = (σ.1 0 12).toInt) (show (2 : Int32).toInt = 2 from by decide)).mp c4 | skip
      refine ⟨fun c34 => ?_, fun c34 => ?_⟩
      · first | have f36 := (eqE (rfl : (σ.1 0 12).toInt = (σ.1 0 12).toInt) (show (1 : Int32).toInt = 1 from by decide)).mp c34 | skip
        refine ⟨inE (show (0 : Int32).toInt = 0 from by decide) (by omega) (by omega), ?_⟩
        intro σ37 eσ37
        have hσ37 : K2 σ0 σ37 := by rw [eσ37]; exact hσ.u (Rg2.ra_15 _ _) (fun q => absurd q.1 (by decide)) (fun q => absurd q.1 (by decide)) ⟨⟨by decide, by decide⟩, fun q => absurd q.1 (by decide)⟩
        have f38 := tB (σ37.1 0 13)
        have q39 : σ37.1 0 13 = σ.1 0 13 := by rw [eσ37]; exact congrFun (u1_ne (by decide)) 13
        have f40 := congrArg Int32.toInt q39
        have f41 := tB (σ.1 0 13)
        have f43 := K2.g_0_14 hσ37
        have q44 : σ37.1 0 14 = σ.1 0 14 := by rw [eσ37]; exact congrFun (u1_ne (by decide)) 14
        have f45 := congrArg Int32.toInt q44
        have f46 := K2.g_0_14 hσ
        refine sX12_called hN ⟨leP (show (1 : Int32).toInt = 1 from by decide) (by omega), geP (show (1 : Int32).toInt = 1 from by decide) (by omega)⟩ (by have za3 := (show (255 : Int32).toInt = 255 from by decide); omega) hσ37 (fun σ42 hσ42 kk53 => ?_)
        obtain ⟨k47, k48, k49, k50, k51, k52⟩ := kk53
        refine ⟨fun c54 => ?_, fun c54 => ?_⟩
        · have f55 := K2.g_0_9 hσ42
          first | have f56 := (eqE (rfl : (σ42.1 0 9).toInt = (σ42.1 0 9).toInt) (show (0 : Int32).toInt = 0 from by decide)).mp c54 | skip
          have f61 := tB (σ42.1 0 27)
          exact sX12_gives_j112 hN (k47.trans ((kq (a := 0) (b := 35) eσ37 (fun q => absurd q.1 (by decide))))) (k49.trans ((kq (a := 0) (b := 36) eσ37 (fun q => absurd q.1 (by decide))))) (k50.trans ((kq (a := 0) (b := 41) eσ37 (fun q => absurd q.1 (by decide))))) (k51.trans ((kq (a := 0) (b := 50) eσ37 (fun q => absurd q.1 (by decide))))) (k52.trans ((kq (a := 0) (b := 51) eσ37 (fun q => absurd q.1 (by decide))))) hσ hσ42 hQ
        · have f62 := K2.g_0_9 hσ42
          first | have f63 := (noteqE (rfl : (σ42.1 0 9).toInt = (σ42.1 0 9).toInt) (show (0 : Int32).toInt = 0 from by decide)).mp c54 | skip
          have f64 := tB (σ42.1 0 27)
          exact sX12_gives_j112 hN (k47.trans ((kq (a := 0) (b := 35) eσ37 (fun q => absurd q.1 (by decide))))) (k49.trans ((kq (a := 0) (b := 36) eσ37 (fun q => absurd q.1 (by decide))))) (k50.trans ((kq (a := 0) (b := 41) eσ37 (fun q => absurd q.1 (by decide))))) (k51.trans ((kq (a := 0) (b := 50) eσ37 (fun q => absurd q.1 (by decide))))) (k52.trans ((kq (a := 0) (b := 51) eσ37 (fun q => absurd q.1 (by decide))))) hσ hσ42 hQ
      · first | have f66 := (noteqE (rfl : (σ.1 0 12).toInt = (σ.1 0 12).toInt) (show (1 : Int32).toInt = 1 from by decide)).mp c34 | skip
        intro v67 ev67
        intro σ68 eσ68
        have hσ68 : K2 σ0 σ68 := by rw [eσ68]; exact hσ.u (Rg2.u_0_28 _) (fun q => absurd q.2 (by decide)) (fun q => absurd q.2 (by decide)) ⟨⟨by decide, by decide⟩, fun q => absurd q.2 (by decide)⟩
        exact hQ _ hσ68 (⟨(kq (a := 0) (b := 35) eσ68 (fun q => absurd q.2 (by decide))), (kq (a := 0) (b := 36) eσ68 (fun q => absurd q.2 (by decide))), (kq (a := 0) (b := 41) eσ68 (fun q => absurd q.2 (by decide))), (kq (a := 0) (b := 50) eσ68 (fun q => absurd q.2 (by decide))), (kq (a := 0) (b := 51) eσ68 (fun q => absurd q.2 (by decide)))⟩)
  · have f69 := K2.g_0_9 hσ
    first | have f70 := (notleE (rfl : (σ.1 0 9).toInt = (σ.1 0 9).toInt) (show (0 : Int32).toInt = 0 from by decide)).mp c1 | skip
    exact hQ _ hσ (⟨rfl, rfl, rfl, rfl, rfl⟩)
set_option maxHeartbeats 4000000 in
theorem sX12_does {N : Nat} (hN : 4294967400 ≤ N) {x1 : Int32} {x2 : Int32} {x3 : Int32} {x4 : Int32} {x5 : Int32} {Q : St → Prop} {σ0 σ : St} (hp4 : 0 ≤ x4.toInt ∧ x4.toInt ≤ 4) (hx0 : (σ.1 0 35).toInt = (σ.1 0 14).toInt - 1) (hx1 : (σ.1 0 9).toInt = 0) (hx2 : (x5.toInt = 255 ∨ (0 ≤ x5.toInt ∧ x5.toInt ≤ 7))) (hs0_14 : 1 ≤ (σ.1 0 14).toInt ∧ (σ.1 0 14).toInt ≤ 40) (hσ : K2 σ0 σ) (hQ : ∀ τ : St, K2 σ0 τ → (τ.1 0 35 = σ.1 0 35 ∧ τ.1 0 36 = σ.1 0 36 ∧ τ.1 0 41 = σ.1 0 41 ∧ τ.1 0 50 = σ.1 0 50 ∧ τ.1 0 51 = σ.1 0 51) → Q τ) : fX12_does N x1 x2 x3 x4 x5 Q σ := by
  unfold fX12_does
  refine ⟨fun c1 => ?_, fun c1 => ?_⟩
  · have f2 := tB x1
    first | have f3 := (eqE (rfl : x1.toInt = x1.toInt) (show (0 : Int32).toInt = 0 from by decide)).mp c1 | skip
    have f4 := K2.g_0_35 hσ
    have g5 : vp_in (σ.1 0 35) 40 := inE (rfl : (σ.1 0 35).toInt = (σ.1 0 35).toInt) (by omega) (by omega)
    refine ⟨g5, ?_⟩
    intro v6 ev6
    intro v7 ev7
    intro σ8 eσ8
    have f9 := tB v7
    have f10 := K2.g_0_14 hσ
    first | have f11 : v7.toInt = ((σ.1 0 14).toInt - (1)) := (congrArg Int32.toInt ev7).trans (sOkE (rfl : (σ.1 0 14).toInt = (σ.1 0 14).toInt) (show (1 : Int32).toInt = 1 from by decide) (by omega) (by omega)) | skip
    have hσ8 : K2 σ0 σ8 := by rw [eσ8]; exact hσ.u14 (Rg2.r_0_14 (leP (rfl : v7.toInt = v7.toInt) (by omega)) (geP (rfl : v7.toInt = v7.toInt) (by omega))) (Or.inr (by rcases hσ.Zz with z | z <;> omega))
    intro σ12 eσ12
    have hσ12 : K2 σ0 σ12 := by rw [eσ12]; exact hσ8.u (Rg2.u_0_31 _) (fun q => absurd q.2 (by decide)) (fun q => absurd q.2 (by decide)) ⟨⟨by decide, by decide⟩, fun q => absurd q.2 (by decide)⟩
    refine ⟨fun c13 => ?_, fun c13 => ?_⟩
    · have f14 := tB v6
      have f15 := clE (rfl : (σ.1 0 35).toInt = (σ.1 0 35).toInt) (by omega)
      have f16 := K2.g13 hσ (by omega) (σ.1 0 35).toNatClampNeg
      first | have f17 : v6.toInt = (σ.1 13 (σ.1 0 35).toNatClampNeg).toInt := (congrArg Int32.toInt ev6).trans (rfl : (σ.1 13 (σ.1 0 35).toNatClampNeg).toInt = (σ.1 13 (σ.1 0 35).toNatClampNeg).toInt) | skip
      first | have f18 := (eqE (rfl : v6.toInt = v6.toInt) (show (255 : Int32).toInt = 255 from by decide)).mp c13 | skip
      try unfold fX12_does_j56
      exact hQ _ hσ12 (⟨(kq (a := 0) (b := 35) eσ12 (fun q => absurd q.2 (by decide))).trans ((kq (a := 0) (b := 35) eσ8 (fun q => absurd q.2 (by decide)))), (kq (a := 0) (b := 36) eσ12 (fun q => absurd q.2 (by decide))).trans ((kq (a := 0) (b := 36) eσ8 (fun q => absurd q.2 (by decide)))), (kq (a := 0) (b := 41) eσ12 (fun q => absurd q.2 (by decide))).trans ((kq (a := 0) (b := 41) eσ8 (fun q => absurd q.2 (by decide)))), (kq (a := 0) (b := 50) eσ12 (fun q => absurd q.2 (by decide))).trans ((kq (a := 0) (b := 50) eσ8 (fun q => absurd q.2 (by decide)))), (kq (a := 0) (b := 51) eσ12 (fun q => absurd q.2 (by decide))).trans ((kq (a := 0) (b := 51) eσ8 (fun q => absurd q.2 (by decide))))⟩)
    · have f19 := tB v6
      have f20 := clE (rfl : (σ.1 0 35).toInt = (σ.1 0 35).toInt) (by omega)
      have f21 := K2.g13 hσ (by omega) (σ.1 0 35).toNatClampNeg
      first | have f22 : v6.toInt = (σ.1 13 (σ.1 0 35).toNatClampNeg).toInt := (congrArg Int32.toInt ev6).trans (rfl : (σ.1 13 (σ.1 0 35).toNatClampNeg).toInt = (σ.1 13 (σ.1 0 35).toNatClampNeg).toInt) | skip
      first | have f23 := (noteqE (rfl : v6.toInt = v6.toInt) (show (255 : Int32).toInt = 255 from by decide)).mp c13 | skip
      have f24 := K2.g_0_14 hσ12
      have q25 : σ12.1 0 14 = σ8.1 0 14 := by rw [eσ12, u1_at]; exact if_neg (by decide)
      have f26 := congrArg Int32.toInt q25
      have f27 := K2.g_0_14 hσ8
      have q28 : σ8.1 0 14 = v7 := by rw [eσ8, u1_at]; exact if_pos rfl
      first | have f30 : (σ8.1 0 14).toInt = v7.toInt := (congrArg Int32.toInt q28).trans (rfl : v7.toInt = v7.toInt) | skip
      refine ⟨inE (aOkE (mOkE (show (8 : Int32).toInt = 8 from by decide) (sOkE (rfl : (σ12.1 0 14).toInt = (σ12.1 0 14).toInt) (show (1 : Int32).toInt = 1 from by decide) (by omega) (by omega)) (by omega) (by omega)) (rfl : v6.toInt = v6.toInt) (by omega) (by omega)) (by omega) (by omega), ?_⟩
      intro σ32 eσ32
      have hσ32 : K2 σ0 σ32 := by rw [eσ32]; exact hσ12.u (Rg2.ra_10 _ _) (fun q => absurd q.1 (by decide)) (fun q => absurd q.1 (by decide)) ⟨⟨by decide, by decide⟩, fun q => absurd q.1 (by decide)⟩
      try unfold fX12_does_j56
      exact hQ _ hσ32 (⟨(kq (a := 0) (b := 35) eσ32 (fun q => absurd q.1 (by decide))).trans ((kq (a := 0) (b := 35) eσ12 (fun q => absurd q.2 (by decide))).trans ((kq (a := 0) (b := 35) eσ8 (fun q => absurd q.2 (by decide))))), (kq (a := 0) (b := 36) eσ32 (fun q => absurd q.1 (by decide))).trans ((kq (a := 0) (b := 36) eσ12 (fun q => absurd q.2 (by decide))).trans ((kq (a := 0) (b := 36) eσ8 (fun q => absurd q.2 (by decide))))), (kq (a := 0) (b := 41) eσ32 (fun q => absurd q.1 (by decide))).trans ((kq (a := 0) (b := 41) eσ12 (fun q => absurd q.2 (by decide))).trans ((kq (a := 0) (b := 41) eσ8 (fun q => absurd q.2 (by decide))))), (kq (a := 0) (b := 50) eσ32 (fun q => absurd q.1 (by decide))).trans ((kq (a := 0) (b := 50) eσ12 (fun q => absurd q.2 (by decide))).trans ((kq (a := 0) (b := 50) eσ8 (fun q => absurd q.2 (by decide))))), (kq (a := 0) (b := 51) eσ32 (fun q => absurd q.1 (by decide))).trans ((kq (a := 0) (b := 51) eσ12 (fun q => absurd q.2 (by decide))).trans ((kq (a := 0) (b := 51) eσ8 (fun q => absurd q.2 (by decide)))))⟩)
  · have f33 := tB x1
    first | have f34 := (noteqE (rfl : x1.toInt = x1.toInt) (show (0 : Int32).toInt = 0 from by decide)).mp c1 | skip
    refine ⟨fun c35 => ?_, fun c35 => ?_⟩
    · first | have f37 := (eqE (rfl : x1.toInt = x1.toInt) (show (1 : Int32).toInt = 1 from by decide)).mp c35 | skip
      have f38 := tB x2
      refine sX12_gives hN hσ (fun σ39 hσ39 kk45 => ?_)
      obtain ⟨k40, k41, k42, k43, k44⟩ := kk45
      exact hQ _ hσ39 (⟨k40, k41, k42, k43, k44⟩)
    · first | have f47 := (noteqE (rfl : x1.toInt = x1.toInt) (show (1 : Int32).toInt = 1 from by decide)).mp c35 | skip
      refine ⟨fun c48 => ?_, fun c48 => ?_⟩
      · first | have f50 := (eqE (rfl : x1.toInt = x1.toInt) (show (2 : Int32).toInt = 2 from by decide)).mp c48 | skip
        have f51 := tB x2
        refine sX12_prints hN hσ (fun σ52 hσ52 kk59 => ?_)
        obtain ⟨k53, k54, k55, k56, k57, k58⟩ := kk59
        exact hQ _ hσ52 (⟨k53, k55, k56, k57, k58⟩)
      · first | have f61 := (noteqE (rfl : x1.toInt = x1.toInt) (show (2 : Int32).toInt = 2 from by decide)).mp c48 | skip
        refine ⟨fun c62 => ?_, fun c62 => ?_⟩
        · first | have f64 := (eqE (rfl : x1.toInt = x1.toInt) (show (3 : Int32).toInt = 3 from by decide)).mp c62 | skip
          have f65 := tB x2
          refine sX12_lays hN hσ (fun σ66 hσ66 kk73 => ?_)
          have f76 := K2.g_0_9 hσ
          have f78 := K2.g_0_14 hσ
          obtain ⟨k67, k68, k69, k70, k71, k72, sp74, sp75⟩ := kk73
          exact hQ _ hσ66 (⟨k67, k69, k70, k71, k72⟩)
        · first | have f80 := (noteqE (rfl : x1.toInt = x1.toInt) (show (3 : Int32).toInt = 3 from by decide)).mp c62 | skip
          refine ⟨fun c81 => ?_, fun c81 => ?_⟩
          · first | have f83 := (eqE (rfl : x1.toInt = x1.toInt) (show (4 : Int32).toInt = 4 from by decide)).mp c81 | skip
            try unfold fX12_in
            refine ⟨fun c84 => ?_, fun c84 => ?_⟩
            · have f85 := tB x2
              first | have f86 := (ltE64 (i2lE (rfl : x2.toInt = x2.toInt)) (show (0 : Int64).toInt = 0 from by decide)).mp c84 | skip
              try dsimp only
              refine ⟨fun c87 => ?_, fun c87 => ?_⟩
              · first | have f88 := (eqE (show (0 : Int32).toInt = 0 from by decide) (show (0 : Int32).toInt = 0 from by decide)).mp c87 | skip
                try unfold fX12_does_j122
                intro σ89 eσ89
                have hσ89 : K2 σ0 σ89 := by rw [eσ89]; exact hσ.u (Rg2.u_0_12 _) (fun q => absurd q.2 (by decide)) (fun q => absurd q.2 (by decide)) ⟨⟨by decide, by decide⟩, fun q => absurd q.2 (by decide)⟩
                intro σ90 eσ90
                have hσ90 : K2 σ0 σ90 := by rw [eσ90]; exact hσ89.u (Rg2.u_0_13 _) (fun q => absurd q.2 (by decide)) (fun q => absurd q.2 (by decide)) ⟨⟨by decide, by decide⟩, fun q => absurd q.2 (by decide)⟩
                exact hQ _ hσ90 (⟨(kq (a := 0) (b := 35) eσ90 (fun q => absurd q.2 (by decide))).trans ((kq (a := 0) (b := 35) eσ89 (fun q => absurd q.2 (by decide)))), (kq (a := 0) (b := 36) eσ90 (fun q => absurd q.2 (by decide))).trans ((kq (a := 0) (b := 36) eσ89 (fun q => absurd q.2 (by decide)))), (kq (a := 0) (b := 41) eσ90 (fun q => absurd q.2 (by decide))).trans ((kq (a := 0) (b := 41) eσ89 (fun q => absurd q.2 (by decide)))), (kq (a := 0) (b := 50) eσ90 (fun q => absurd q.2 (by decide))).trans ((kq (a := 0) (b := 50) eσ89 (fun q => absurd q.2 (by decide)))), (kq (a := 0) (b := 51) eσ90 (fun q => absurd q.2 (by decide))).trans ((kq (a := 0) (b := 51) eσ89 (fun q => absurd q.2 (by decide))))⟩)
              · first | have f91 := (noteqE (show (0 : Int32).toInt = 0 from by decide) (show (0 : Int32).toInt = 0 from by decide)).mp c87 | skip
                try unfold fX12_does_j122
                intro σ92 eσ92
                have hσ92 : K2 σ0 σ92 := by rw [eσ92]; exact hσ.u (Rg2.u_0_12 _) (fun q => absurd q.2 (by decide)) (fun q => absurd q.2 (by decide)) ⟨⟨by decide, by decide⟩, fun q => absurd q.2 (by decide)⟩
                intro σ93 eσ93
                have hσ93 : K2 σ0 σ93 := by rw [eσ93]; exact hσ92.u (Rg2.u_0_13 _) (fun q => absurd q.2 (by decide)) (fun q => absurd q.2 (by decide)) ⟨⟨by decide, by decide⟩, fun q => absurd q.2 (by decide)⟩
                exact hQ _ hσ93 (⟨(kq (a := 0) (b := 35) eσ93 (fun q => absurd q.2 (by decide))).trans ((kq (a := 0) (b := 35) eσ92 (fun q => absurd q.2 (by decide)))), (kq (a := 0) (b := 36) eσ93 (fun q => absurd q.2 (by decide))).trans ((kq (a := 0) (b := 36) eσ92 (fun q => absurd q.2 (by decide)))), (kq (a := 0) (b := 41) eσ93 (fun q => absurd q.2 (by decide))).trans ((kq (a := 0) (b := 41) eσ92 (fun q => absurd q.2 (by decide)))), (kq (a := 0) (b := 50) eσ93 (fun q => absurd q.2 (by decide))).trans ((kq (a := 0) (b := 50) eσ92 (fun q => absurd q.2 (by decide)))), (kq (a := 0) (b := 51) eσ93 (fun q => absurd q.2 (by decide))).trans ((kq (a := 0) (b := 51) eσ92 (fun q => absurd q.2 (by decide))))⟩)
            · have f94 := tB x2
              first | have f95 := (notltE64 (i2lE (rfl : x2.toInt = x2.toInt)) (show (0 : Int64).toInt = 0 from by decide)).mp c84 | skip
              refine ⟨fun c96 => ?_, fun c96 => ?_⟩
              · first | have f98 := (ltE64 (show (2 : Int64).toInt = 2 from by decide) (i2lE (rfl : x2.toInt = x2.toInt))).mp c96 | skip
                try dsimp only
                refine ⟨fun c99 => ?_, fun c99 => ?_⟩
                · first | have f100 := (eqE (show (0 : Int32).toInt = 0 from by decide) (show (0 : Int32).toInt = 0 from by decide)).mp c99 | skip
                  try unfold fX12_does_j122
                  intro σ101 eσ101
                  have hσ101 : K2 σ0 σ101 := by rw [eσ101]; exact hσ.u (Rg2.u_0_12 _) (fun q => absurd q.2 (by decide)) (fun q => absurd q.2 (by decide)) ⟨⟨by decide, by decide⟩, fun q => absurd q.2 (by decide)⟩
                  intro σ102 eσ102
                  have hσ102 : K2 σ0 σ102 := by rw [eσ102]; exact hσ101.u (Rg2.u_0_13 _) (fun q => absurd q.2 (by decide)) (fun q => absurd q.2 (by decide)) ⟨⟨by decide, by decide⟩, fun q => absurd q.2 (by decide)⟩
                  exact hQ _ hσ102 (⟨(kq (a := 0) (b := 35) eσ102 (fun q => absurd q.2 (by decide))).trans ((kq (a := 0) (b := 35) eσ101 (fun q => absurd q.2 (by decide)))), (kq (a := 0) (b := 36) eσ102 (fun q => absurd q.2 (by decide))).trans ((kq (a := 0) (b := 36) eσ101 (fun q => absurd q.2 (by decide)))), (kq (a := 0) (b := 41) eσ102 (fun q => absurd q.2 (by decide))).trans ((kq (a := 0) (b := 41) eσ101 (fun q => absurd q.2 (by decide)))), (kq (a := 0) (b := 50) eσ102 (fun q => absurd q.2 (by decide))).trans ((kq (a := 0) (b := 50) eσ101 (fun q => absurd q.2 (by decide)))), (kq (a := 0) (b := 51) eσ102 (fun q => absurd q.2 (by decide))).trans ((kq (a := 0) (b := 51) eσ101 (fun q => absurd q.2 (by decide))))⟩)
                · first | have f103 := (noteqE (show (0 : Int32).toInt = 0 from by decide) (show (0 : Int32).toInt = 0 from by decide)).mp c99 | skip
                  try unfold fX12_does_j122
                  intro σ104 eσ104
                  have hσ104 : K2 σ0 σ104 := by rw [eσ104]; exact hσ.u (Rg2.u_0_12 _) (fun q => absurd q.2 (by decide)) (fun q => absurd q.2 (by decide)) ⟨⟨by decide, by decide⟩, fun q => absurd q.2 (by decide)⟩
                  intro σ105 eσ105
                  have hσ105 : K2 σ0 σ105 := by rw [eσ105]; exact hσ104.u (Rg2.u_0_13 _) (fun q => absurd q.2 (by decide)) (fun q => absurd q.2 (by decide)) ⟨⟨by decide, by decide⟩, fun q => absurd q.2 (by decide)⟩
                  exact hQ _ hσ105 (⟨(kq (a := 0) (b := 35) eσ105 (fun q => absurd q.2 (by decide))).trans ((kq (a := 0) (b := 35) eσ104 (fun q => absurd q.2 (by decide)))), (kq (a := 0) (b := 36) eσ105 (fun q => absurd q.2 (by decide))).trans ((kq (a := 0) (b := 36) eσ104 (fun q => absurd q.2 (by decide)))), (kq (a := 0) (b := 41) eσ105 (fun q => absurd q.2 (by decide))).trans ((kq (a := 0) (b := 41) eσ104 (fun q => absurd q.2 (by decide)))), (kq (a := 0) (b := 50) eσ105 (fun q => absurd q.2 (by decide))).trans ((kq (a := 0) (b := 50) eσ104 (fun q => absurd q.2 (by decide)))), (kq (a := 0) (b := 51) eσ105 (fun q => absurd q.2 (by decide))).trans ((kq (a := 0) (b := 51) eσ104 (fun q => absurd q.2 (by decide))))⟩)
              · first | have f107 := (notltE64 (show (2 : Int64).toInt = 2 from by decide) (i2lE (rfl : x2.toInt = x2.toInt))).mp c96 | skip
                try dsimp only
                refine ⟨fun c108 => ?_, fun c108 => ?_⟩
                · first | have f109 := (eqE (show (1 : Int32).toInt = 1 from by decide) (show (0 : Int32).toInt = 0 from by decide)).mp c108 | skip
                  try unfold fX12_does_j122
                  intro σ110 eσ110
                  have hσ110 : K2 σ0 σ110 := by rw [eσ110]; exact hσ.u (Rg2.u_0_12 _) (fun q => absurd q.2 (by decide)) (fun q => absurd q.2 (by decide)) ⟨⟨by decide, by decide⟩, fun q => absurd q.2 (by decide)⟩
                  intro σ111 eσ111
                  have hσ111 : K2 σ0 σ111 := by rw [eσ111]; exact hσ110.u (Rg2.u_0_13 _) (fun q => absurd q.2 (by decide)) (fun q => absurd q.2 (by decide)) ⟨⟨by decide, by decide⟩, fun q => absurd q.2 (by decide)⟩
                  exact hQ _ hσ111 (⟨(kq (a := 0) (b := 35) eσ111 (fun q => absurd q.2 (by decide))).trans ((kq (a := 0) (b := 35) eσ110 (fun q => absurd q.2 (by decide)))), (kq (a := 0) (b := 36) eσ111 (fun q => absurd q.2 (by decide))).trans ((kq (a := 0) (b := 36) eσ110 (fun q => absurd q.2 (by decide)))), (kq (a := 0) (b := 41) eσ111 (fun q => absurd q.2 (by decide))).trans ((kq (a := 0) (b := 41) eσ110 (fun q => absurd q.2 (by decide)))), (kq (a := 0) (b := 50) eσ111 (fun q => absurd q.2 (by decide))).trans ((kq (a := 0) (b := 50) eσ110 (fun q => absurd q.2 (by decide)))), (kq (a := 0) (b := 51) eσ111 (fun q => absurd q.2 (by decide))).trans ((kq (a := 0) (b := 51) eσ110 (fun q => absurd q.2 (by decide))))⟩)
                · first | have f112 := (noteqE (show (1 : Int32).toInt = 1 from by decide) (show (0 : Int32).toInt = 0 from by decide)).mp c108 | skip
                  try unfold fX12_does_j122
                  intro σ113 eσ113
                  have hσ113 : K2 σ0 σ113 := by rw [eσ113]; exact hσ.u (Rg2.u_0_12 _) (fun q => absurd q.2 (by decide)) (fun q => absurd q.2 (by decide)) ⟨⟨by decide, by decide⟩, fun q => absurd q.2 (by decide)⟩
                  intro σ114 eσ114
                  have hσ114 : K2 σ0 σ114 := by rw [eσ114]; exact hσ113.u (Rg2.u_0_13 _) (fun q => absurd q.2 (by decide)) (fun q => absurd q.2 (by decide)) ⟨⟨by decide, by decide⟩, fun q => absurd q.2 (by decide)⟩
                  exact hQ _ hσ114 (⟨(kq (a := 0) (b := 35) eσ114 (fun q => absurd q.2 (by decide))).trans ((kq (a := 0) (b := 35) eσ113 (fun q => absurd q.2 (by decide)))), (kq (a := 0) (b := 36) eσ114 (fun q => absurd q.2 (by decide))).trans ((kq (a := 0) (b := 36) eσ113 (fun q => absurd q.2 (by decide)))), (kq (a := 0) (b := 41) eσ114 (fun q => absurd q.2 (by decide))).trans ((kq (a := 0) (b := 41) eσ113 (fun q => absurd q.2 (by decide)))), (kq (a := 0) (b := 50) eσ114 (fun q => absurd q.2 (by decide))).trans ((kq (a := 0) (b := 50) eσ113 (fun q => absurd q.2 (by decide)))), (kq (a := 0) (b := 51) eσ114 (fun q => absurd q.2 (by decide))).trans ((kq (a := 0) (b := 51) eσ113 (fun q => absurd q.2 (by decide))))⟩)
          · first | have f116 := (noteqE (rfl : x1.toInt = x1.toInt) (show (4 : Int32).toInt = 4 from by decide)).mp c81 | skip
            refine ⟨fun c117 => ?_, fun c117 => ?_⟩
            · first | have f119 := (eqE (rfl : x1.toInt = x1.toInt) (show (5 : Int32).toInt = 5 from by decide)).mp c117 | skip
              have f120 := tB x2
              refine sX12_lies hN hσ (fun σ121 hσ121 kk129 => ?_)
              obtain ⟨k122, k123, k124, k125, k126, k127, k128⟩ := kk129
              exact hQ _ hσ121 (⟨k123, k125, k126, k127, k128⟩)
            · first | have f131 := (noteqE (rfl : x1.toInt = x1.toInt) (show (5 : Int32).toInt = 5 from by decide)).mp c117 | skip
              refine ⟨fun c132 => ?_, fun c132 => ?_⟩
              · first | have f134 := (eqE (rfl : x1.toInt = x1.toInt) (show (6 : Int32).toInt = 6 from by decide)).mp c132 | skip
                have f135 := tB x2
                have f136 := tB x4
                have f137 := tB x5
                have f139 := K2.g_0_14 hσ
                refine sX12_called hN ⟨leP (rfl : x4.toInt = x4.toInt) (by omega), geP (rfl : x4.toInt = x4.toInt) (by omega)⟩ (by omega) hσ (fun σ138 hσ138 kk146 => ?_)
                obtain ⟨k140, k141, k142, k143, k144, k145⟩ := kk146
                exact hQ _ hσ138 (⟨k140, k142, k143, k144, k145⟩)
              · first | have f148 := (noteqE (rfl : x1.toInt = x1.toInt) (show (6 : Int32).toInt = 6 from by decide)).mp c132 | skip
                refine ⟨fun c149 => ?_, fun c149 => ?_⟩
                · first | have f151 := (eqE (rfl : x1.toInt = x1.toInt) (show (7 : Int32).toInt = 7 from by decide)).mp c149 | skip
                  have f152 := tB x5
                  have f153 := tB x2
                  have f155 := K2.g_0_9 hσ
                  refine sX12_put hN (by omega) hσ (fun σ154 hσ154 kk164 => ?_)
                  obtain ⟨k156, k157, k158, k159, k160, k161, k162, k163⟩ := kk164
                  exact hQ _ hσ154 (⟨k158, k160, k161, k162, k163⟩)
                · first | have f166 := (noteqE (rfl : x1.toInt = x1.toInt) (show (7 : Int32).toInt = 7 from by decide)).mp c149 | skip
                  refine ⟨fun c167 => ?_, fun c167 => ?_⟩
                  · first | have f169 := (eqE (rfl : x1.toInt = x1.toInt) (show (8 : Int32).toInt = 8 from by decide)).mp c167 | skip
                    have f170 := tB x5
                    have f171 := tB x2
                    have f172 := tB x3
                    have f174 := K2.g_0_9 hσ
                    refine sX12_put hN (by omega) hσ (fun σ173 hσ173 kk183 => ?_)
                    obtain ⟨k175, k176, k177, k178, k179, k180, k181, k182⟩ := kk183
                    exact hQ _ hσ173 (⟨k177, k179, k180, k181, k182⟩)
                  · first | have f185 := (noteqE (rfl : x1.toInt = x1.toInt) (show (8 : Int32).toInt = 8 from by decide)).mp c167 | skip
                    refine ⟨fun c186 => ?_, fun c186 => ?_⟩
                    · first | have f188 := (eqE (rfl : x1.toInt = x1.toInt) (show (9 : Int32).toInt = 9 from by decide)).mp c186 | skip
                      have f189 := tB x5
                      have f190 := tB x2
                      have f191 := tB x3
                      have f193 := K2.g_0_9 hσ
                      refine sX12_put hN (by omega) hσ (fun σ192 hσ192 kk202 => ?_)
                      obtain ⟨k194, k195, k196, k197, k198, k199, k200, k201⟩ := kk202
                      exact hQ _ hσ192 (⟨k196, k198, k199, k200, k201⟩)
                    · first | have f204 := (noteqE (rfl : x1.toInt = x1.toInt) (show (9 : Int32).toInt = 9 from by decide)).mp c186 | skip
                      refine ⟨fun c205 => ?_, fun c205 => ?_⟩
                      · first | have f207 := (eqE (rfl : x1.toInt = x1.toInt) (show (13 : Int32).toInt = 13 from by decide)).mp c205 | skip
                        have f208 := tB x2
                        refine sX12_read hN hσ (fun r218 σ209 hσ209 kk217 p219 => ?_)
                        obtain ⟨k210, k211, k212, k213, k214, k215, k216⟩ := kk217
                        have f220 := tB x5
                        have f221 := tB r218
                        have f223 := K2.g_0_9 hσ209
                        refine sX12_put hN (by omega) hσ209 (fun σ222 hσ222 kk232 => ?_)
                        obtain ⟨k224, k225, k226, k227, k228, k229, k230, k231⟩ := kk232
                        exact hQ _ hσ222 (⟨k226.trans (k211), k228.trans (k213), k229.trans (k214), k230.trans (k215), k231.trans (k216)⟩)
                      · first | have f234 := (noteqE (rfl : x1.toInt = x1.toInt) (show (13 : Int32).toInt = 13 from by decide)).mp c205 | skip
                        refine ⟨fun c235 => ?_, fun c235 => ?_⟩
                        · first | have f237 := (eqE (rfl : x1.toInt = x1.toInt) (show (14 : Int32).toInt = 14 from by decide)).mp c235 | skip
                          have f238 := tB x2
                          refine sX12_four hN hσ (fun r248 σ239 hσ239 kk247 p249 => ?_)
                          obtain ⟨k240, k241, k242, k243, k244, k245, k246⟩ := kk247
                          have f250 := tB x5
                          have f251 := tB r248
                          have f253 := K2.g_0_9 hσ239
                          refine sX12_put hN (by omega) hσ239 (fun σ252 hσ252 kk262 => ?_)
                          obtain ⟨k254, k255, k256, k257, k258, k259, k260, k261⟩ := kk262
                          exact hQ _ hσ252 (⟨k256.trans (k241), k258.trans (k243), k259.trans (k244), k260.trans (k245), k261.trans (k246)⟩)
                        · first | have f264 := (noteqE (rfl : x1.toInt = x1.toInt) (show (14 : Int32).toInt = 14 from by decide)).mp c235 | skip
                          refine ⟨fun c265 => ?_, fun c265 => ?_⟩
                          · first | have f267 := (eqE (rfl : x1.toInt = x1.toInt) (show (15 : Int32).toInt = 15 from by decide)).mp c265 | skip
                            refine ⟨fun c268 => ?_, fun c268 => ?_⟩
                            · have f269 := tB x2
                              have f270 := K2.g_0_1 hσ
                              first | have f271 := (ltE (rfl : x2.toInt = x2.toInt) (rfl : (σ.1 0 1).toInt = (σ.1 0 1).toInt)).mp c268 | skip
                              try unfold fX12_does_j279
                              try unfold fX12_fails
                              refine ⟨fun c272 => ?_, fun c272 => ?_⟩
                              · have f273 := K2.g_0_9 hσ
                                first | have f274 := (eqE (rfl : (σ.1 0 9).toInt = (σ.1 0 9).toInt) (show (0 : Int32).toInt = 0 from by decide)).mp c272 | skip
                                try unfold fX12_fails_j16
                                intro σ275 eσ275
                                have hσ275 : K2 σ0 σ275 := by rw [eσ275]; exact hσ.u (Rg2.r_0_9 (leP (show (7 : Int32).toInt = 7 from by decide) (by omega)) (geP (show (7 : Int32).toInt = 7 from by decide) (by omega))) (fun q => absurd q.2 (by decide)) (fun q => absurd q.2 (by decide)) ⟨⟨by decide, by decide⟩, fun q => absurd q.2 (by decide)⟩
                                try dsimp only
                                exact hQ _ hσ275 (⟨(kq (a := 0) (b := 35) eσ275 (fun q => absurd q.2 (by decide))), (kq (a := 0) (b := 36) eσ275 (fun q => absurd q.2 (by decide))), (kq (a := 0) (b := 41) eσ275 (fun q => absurd q.2 (by decide))), (kq (a := 0) (b := 50) eσ275 (fun q => absurd q.2 (by decide))), (kq (a := 0) (b := 51) eσ275 (fun q => absurd q.2 (by decide)))⟩)
                              · have f276 := K2.g_0_9 hσ
                                first | have f277 := (noteqE (rfl : (σ.1 0 9).toInt = (σ.1 0 9).toInt) (show (0 : Int32).toInt = 0 from by decide)).mp c272 | skip
                                try unfold fX12_fails_j16
                                intro σ278 eσ278
                                have hσ278 : K2 σ0 σ278 := by rw [eσ278]; exact hσ.u (Rg2.r_0_9 (leP (rfl : (σ.1 0 9).toInt = (σ.1 0 9).toInt) (by omega)) (geP (rfl : (σ.1 0 9).toInt = (σ.1 0 9).toInt) (by omega))) (fun q => absurd q.2 (by decide)) (fun q => absurd q.2 (by decide)) ⟨⟨by decide, by decide⟩, fun q => absurd q.2 (by decide)⟩
                                try dsimp only
                                exact hQ _ hσ278 (⟨(kq (a := 0) (b := 35) eσ278 (fun q => absurd q.2 (by decide))), (kq (a := 0) (b := 36) eσ278 (fun q => absurd q.2 (by decide))), (kq (a := 0) (b := 41) eσ278 (fun q => absurd q.2 (by decide))), (kq (a := 0) (b := 50) eσ278 (fun q => absurd q.2 (by decide))), (kq (a := 0) (b := 51) eσ278 (fun q => absurd q.2 (by decide)))⟩)
                            · have f280 := tB x2
                              have f281 := K2.g_0_1 hσ
                              first | have f282 := (notltE (rfl : x2.toInt = x2.toInt) (rfl : (σ.1 0 1).toInt = (σ.1 0 1).toInt)).mp c268 | skip
                              refine ⟨fun c283 => ?_, fun c283 => ?_⟩
                              · first | have f285 := (leE (rfl : x2.toInt = x2.toInt) (show (4095 : Int32).toInt = 4095 from by decide)).mp c283 | skip
                                intro v286 ev286
                                refine ⟨inE (rfl : x2.toInt = x2.toInt) (by omega) (by omega), ?_⟩
                                intro σ288 eσ288
                                have f289 := tB v286
                                have f290 := and255 x3
                                first | have f291 : v286.toInt = (x3 &&& 255).toInt := (congrArg Int32.toInt ev286).trans (rfl : (x3 &&& 255).toInt = (x3 &&& 255).toInt) | skip
                                have hσ288 : K2 σ0 σ288 := by rw [eσ288]; exact hσ.u (Rg2.ra_1 (leP (rfl : v286.toInt = v286.toInt) (by omega)) (geP (rfl : v286.toInt = v286.toInt) (by omega))) (fun q => absurd q.1 (by decide)) (fun q => absurd q.1 (by decide)) ⟨⟨by decide, by decide⟩, fun q => absurd q.1 (by decide)⟩
                                exact hQ _ hσ288 (⟨(kq (a := 0) (b := 35) eσ288 (fun q => absurd q.1 (by decide))), (kq (a := 0) (b := 36) eσ288 (fun q => absurd q.1 (by decide))), (kq (a := 0) (b := 41) eσ288 (fun q => absurd q.1 (by decide))), (kq (a := 0) (b := 50) eσ288 (fun q => absurd q.1 (by decide))), (kq (a := 0) (b := 51) eσ288 (fun q => absurd q.1 (by decide)))⟩)
                              · first | have f293 := (notleE (rfl : x2.toInt = x2.toInt) (show (4095 : Int32).toInt = 4095 from by decide)).mp c283 | skip
                                try unfold fX12_does_j279
                                try unfold fX12_fails
                                refine ⟨fun c294 => ?_, fun c294 => ?_⟩
                                · have f295 := K2.g_0_9 hσ
                                  first | have f296 := (eqE (rfl : (σ.1 0 9).toInt = (σ.1 0 9).toInt) (show (0 : Int32).toInt = 0 from by decide)).mp c294 | skip
                                  try unfold fX12_fails_j16
                                  intro σ297 eσ297
                                  have hσ297 : K2 σ0 σ297 := by rw [eσ297]; exact hσ.u (Rg2.r_0_9 (leP (show (7 : Int32).toInt = 7 from by decide) (by omega)) (geP (show (7 : Int32).toInt = 7 from by decide) (by omega))) (fun q => absurd q.2 (by decide)) (fun q => absurd q.2 (by decide)) ⟨⟨by decide, by decide⟩, fun q => absurd q.2 (by decide)⟩
                                  try dsimp only
                                  exact hQ _ hσ297 (⟨(kq (a := 0) (b := 35) eσ297 (fun q => absurd q.2 (by decide))), (kq (a := 0) (b := 36) eσ297 (fun q => absurd q.2 (by decide))), (kq (a := 0) (b := 41) eσ297 (fun q => absurd q.2 (by decide))), (kq (a := 0) (b := 50) eσ297 (fun q => absurd q.2 (by decide))), (kq (a := 0) (b := 51) eσ297 (fun q => absurd q.2 (by decide)))⟩)
                                · have f298 := K2.g_0_9 hσ
                                  first | have f299 := (noteqE (rfl : (σ.1 0 9).toInt = (σ.1 0 9).toInt) (show (0 : Int32).toInt = 0 from by decide)).mp c294 | skip
                                  try unfold fX12_fails_j16
                                  intro σ300 eσ300
                                  have hσ300 : K2 σ0 σ300 := by rw [eσ300]; exact hσ.u (Rg2.r_0_9 (leP (rfl : (σ.1 0 9).toInt = (σ.1 0 9).toInt) (by omega)) (geP (rfl : (σ.1 0 9).toInt = (σ.1 0 9).toInt) (by omega))) (fun q => absurd q.2 (by decide)) (fun q => absurd q.2 (by decide)) ⟨⟨by decide, by decide⟩, fun q => absurd q.2 (by decide)⟩
                                  try dsimp only
                                  exact hQ _ hσ300 (⟨(kq (a := 0) (b := 35) eσ300 (fun q => absurd q.2 (by decide))), (kq (a := 0) (b := 36) eσ300 (fun q => absurd q.2 (by decide))), (kq (a := 0) (b := 41) eσ300 (fun q => absurd q.2 (by decide))), (kq (a := 0) (b := 50) eσ300 (fun q => absurd q.2 (by decide))), (kq (a := 0) (b := 51) eσ300 (fun q => absurd q.2 (by decide)))⟩)
                          · first | have f303 := (noteqE (rfl : x1.toInt = x1.toInt) (show (15 : Int32).toInt = 15 from by decide)).mp c265 | skip
                            refine ⟨fun c304 => ?_, fun c304 => ?_⟩
                            · first | have f306 := (eqE (rfl : x1.toInt = x1.toInt) (show (16 : Int32).toInt = 16 from by decide)).mp c304 | skip
                              have f307 := tB x5
                              have f308 := tB (σ.1 0 6)
                              have f310 := K2.g_0_9 hσ
                              refine sX12_put hN (by omega) hσ (fun σ309 hσ309 kk319 => ?_)
                              obtain ⟨k311, k312, k313, k314, k315, k316, k317, k318⟩ := kk319
                              exact hQ _ hσ309 (⟨k313, k315, k316, k317, k318⟩)
                            · first | have f321 := (noteqE (rfl : x1.toInt = x1.toInt) (show (16 : Int32).toInt = 16 from by decide)).mp c304 | skip
                              refine ⟨fun c322 => ?_, fun c322 => ?_⟩
                              · first | have f324 := (eqE (rfl : x1.toInt = x1.toInt) (show (17 : Int32).toInt = 17 from by decide)).mp c322 | skip
                                intro σ325 eσ325
                                have hσ325 : K2 σ0 σ325 := by rw [eσ325]; exact hσ.u14 (Rg2.r_0_14 (leP (show (0 : Int32).toInt = 0 from by decide) (by omega)) (geP (show (0 : Int32).toInt = 0 from by decide) (by omega))) (Or.inl (by decide))
                                exact hQ _ hσ325 (⟨(kq (a := 0) (b := 35) eσ325 (fun q => absurd q.2 (by decide))), (kq (a := 0) (b := 36) eσ325 (fun q => absurd q.2 (by decide))), (kq (a := 0) (b := 41) eσ325 (fun q => absurd q.2 (by decide))), (kq (a := 0) (b := 50) eσ325 (fun q => absurd q.2 (by decide))), (kq (a := 0) (b := 51) eσ325 (fun q => absurd q.2 (by decide)))⟩)
                              · first | have f327 := (noteqE (rfl : x1.toInt = x1.toInt) (show (17 : Int32).toInt = 17 from by decide)).mp c322 | skip
                                exact hQ _ hσ (⟨rfl, rfl, rfl, rfl, rfl⟩)
set_option maxHeartbeats 4000000 in
theorem sX12_order_j373 {N : Nat} (hN : 4294967400 ≤ N) {x2 : Int32} {x3 : Int32} {x5 : Int32} {x6 : Int32} {x8 : Int32} {t0 : Int32} {t1 : Int64} {t2 : Int32} {Q : St → Prop} {σ0 σ τ : St} (hi0 : (τ.1 0 35).toInt = t2.toInt) (hi1 : t2.toInt = (τ.1 0 14).toInt - 1) (hi2 : 1 ≤ (τ.1 0 14).toInt) (hi3 : 0 ≤ x6.toInt ∧ x6.toInt ≤ 4) (hi4 : (x8.toInt = 255 ∨ (0 ≤ x8.toInt ∧ x8.toInt ≤ 7))) (hi5 : (τ.1 0 9).toInt = 0) (hk0 : τ.1 0 36 = σ.1 0 36) (hk1 : τ.1 0 41 = σ.1 0 41) (hk2 : τ.1 0 50 = σ.1 0 50) (hk3 : τ.1 0 51 = σ.1 0 51) (hσ : K2 σ0 σ) (hτ : K2 σ0 τ) (hQ : ∀ τ : St, K2 σ0 τ → (τ.1 0 36 = σ.1 0 36 ∧ τ.1 0 41 = σ.1 0 41 ∧ τ.1 0 50 = σ.1 0 50 ∧ τ.1 0 51 = σ.1 0 51) → Q τ) : fX12_order_j373 N x2 x3 x5 x6 x8 t0 t1 t2 Q τ := by
  unfold fX12_order_j373
  have f245 := tB x2
  have f246 := tB x3
  have f247 := tB x5
  have f248 := tB x6
  have f249 := tB x8
  have f250 := tB t0
  have f251 := tB64 t1
  have f252 := tB t2
  have f253 := K2.g_0_14 hτ
  have f254 := K2.g_0_35 hτ
  have f255 := K2.g_0_9 hτ
  intro v256 ev256
  refine ⟨inE (rfl : t2.toInt = t2.toInt) (by omega) (by omega), ?_⟩
  intro σ258 eσ258
  have hσ258 : K2 σ0 σ258 := by rw [eσ258]; exact hτ.u (Rg2.ra_7 _ _) (fun q => absurd q.1 (by decide)) (fun q => absurd q.1 (by decide)) ⟨⟨by decide, by decide⟩, fun q => absurd q.1 (by decide)⟩
  have f265 := K2.g_0_35 hσ258
  have q266 : σ258.1 0 35 = τ.1 0 35 := by rw [eσ258]; exact congrFun (u1_ne (by decide)) 35
  have f267 := congrArg Int32.toInt q266
  have f269 := K2.g_0_14 hσ258
  have q270 : σ258.1 0 14 = τ.1 0 14 := by rw [eσ258]; exact congrFun (u1_ne (by decide)) 14
  have f271 := congrArg Int32.toInt q270
  have f273 := K2.g_0_9 hσ258
  have q274 : σ258.1 0 9 = τ.1 0 9 := by rw [eσ258]; exact congrFun (u1_ne (by decide)) 9
  have f275 := congrArg Int32.toInt q274
  refine sX12_does hN ⟨leP (rfl : x6.toInt = x6.toInt) (by omega), geP (rfl : x6.toInt = x6.toInt) (by omega)⟩ (by omega) (by omega) (by omega) ⟨by omega, by omega⟩ hσ258 (fun σ264 hσ264 kk283 => ?_)
  obtain ⟨k278, k279, k280, k281, k282⟩ := kk283
  exact hQ _ hσ264 (⟨k279.trans ((kq (a := 0) (b := 36) eσ258 (fun q => absurd q.1 (by decide))).trans (hk0)), k280.trans ((kq (a := 0) (b := 41) eσ258 (fun q => absurd q.1 (by decide))).trans (hk1)), k281.trans ((kq (a := 0) (b := 50) eσ258 (fun q => absurd q.1 (by decide))).trans (hk2)), k282.trans ((kq (a := 0) (b := 51) eσ258 (fun q => absurd q.1 (by decide))).trans (hk3))⟩)
set_option maxHeartbeats 4000000 in
theorem sX12_order_j351 {N : Nat} (hN : 4294967400 ≤ N) {x1 : Int32} {x2 : Int32} {x3 : Int32} {x5 : Int32} {x6 : Int32} {x8 : Int32} {x9 : Int32} {t0 : Int32} {Q : St → Prop} {σ0 σ τ : St} (hi0 : (τ.1 0 35).toInt = x1.toInt) (hi1 : x1.toInt = (τ.1 0 14).toInt - 1) (hi2 : 1 ≤ (τ.1 0 14).toInt) (hi3 : 0 ≤ x6.toInt ∧ x6.toInt ≤ 4) (hi4 : (x8.toInt = 255 ∨ (0 ≤ x8.toInt ∧ x8.toInt ≤ 7))) (hi5 : (τ.1 0 9).toInt = 0) (hk0 : τ.1 0 36 = σ.1 0 36) (hk1 : τ.1 0 41 = σ.1 0 41) (hk2 : τ.1 0 50 = σ.1 0 50) (hk3 : τ.1 0 51 = σ.1 0 51) (hσ : K2 σ0 σ) (hτ : K2 σ0 τ) (hQ : ∀ τ : St, K2 σ0 τ → (τ.1 0 36 = σ.1 0 36 ∧ τ.1 0 41 = σ.1 0 41 ∧ τ.1 0 50 = σ.1 0 50 ∧ τ.1 0 51 = σ.1 0 51) → Q τ) : fX12_order_j351 N x1 x2 x3 x5 x6 x8 x9 t0 Q τ := by
  unfold fX12_order_j351
  have f231 := tB x1
  have f232 := tB x2
  have f233 := tB x3
  have f234 := tB x5
  have f235 := tB x6
  have f236 := tB x8
  have f237 := tB x9
  have f238 := tB t0
  have f239 := K2.g_0_14 hτ
  have f240 := K2.g_0_35 hτ
  have f241 := K2.g_0_9 hτ
  refine ⟨fun c242 => ?_, fun c242 => ?_⟩
  · first | have f244 := (eqE (rfl : t0.toInt = t0.toInt) (show (0 : Int32).toInt = 0 from by decide)).mp c242 | skip
    have f289 := tB64 (τ.2 0 34)
    exact sX12_order_j373 hN (by omega) (by omega) (by omega) (by omega) (by omega) (by omega) (hk0) (hk1) (hk2) (hk3) hσ hτ hQ
  · first | have f296 := (noteqE (rfl : t0.toInt = t0.toInt) (show (0 : Int32).toInt = 0 from by decide)).mp c242 | skip
    have f303 := tB64 (τ.2 0 34)
    exact sX12_order_j373 hN (by omega) (by omega) (by omega) (by omega) (by omega) (by omega) (hk0) (hk1) (hk2) (hk3) hσ hτ hQ
set_option maxHeartbeats 4000000 in
theorem sX12_order_j346 {N : Nat} (hN : 4294967400 ≤ N) {x1 : Int32} {x2 : Int32} {x3 : Int32} {x5 : Int32} {x6 : Int32} {x8 : Int32} {x9 : Int32} {Q : St → Prop} {σ0 σ τ : St} (hi0 : (τ.1 0 35).toInt = x1.toInt) (hi1 : x1.toInt = (τ.1 0 14).toInt - 1) (hi2 : 1 ≤ (τ.1 0 14).toInt) (hi3 : 0 ≤ x6.toInt ∧ x6.toInt ≤ 4) (hi4 : (x8.toInt = 255 ∨ (0 ≤ x8.toInt ∧ x8.toInt ≤ 7))) (hi5 : (τ.1 0 9).toInt = 0) (hk0 : τ.1 0 36 = σ.1 0 36) (hk1 : τ.1 0 41 = σ.1 0 41) (hk2 : τ.1 0 50 = σ.1 0 50) (hk3 : τ.1 0 51 = σ.1 0 51) (hσ : K2 σ0 σ) (hτ : K2 σ0 τ) (hQ : ∀ τ : St, K2 σ0 τ → (τ.1 0 36 = σ.1 0 36 ∧ τ.1 0 41 = σ.1 0 41 ∧ τ.1 0 50 = σ.1 0 50 ∧ τ.1 0 51 = σ.1 0 51) → Q τ) : fX12_order_j346 N x1 x2 x3 x5 x6 x8 x9 Q τ := by
  unfold fX12_order_j346
  have f221 := tB x1
  have f222 := tB x2
  have f223 := tB x3
  have f224 := tB x5
  have f225 := tB x6
  have f226 := tB x8
  have f227 := tB x9
  have f228 := K2.g_0_14 hτ
  have f229 := K2.g_0_35 hτ
  have f230 := K2.g_0_9 hτ
  exact sX12_order_j351 hN (by omega) (by omega) (by omega) (by omega) (by omega) (by omega) (hk0) (hk1) (hk2) (hk3) hσ hτ hQ
set_option maxHeartbeats 4000000 in
theorem sX12_order_j350 {N : Nat} (hN : 4294967400 ≤ N) {x1 : Int32} {x2 : Int32} {x3 : Int32} {x5 : Int32} {x6 : Int32} {x8 : Int32} {x9 : Int32} {Q : St → Prop} {σ0 σ τ : St} (hi0 : (τ.1 0 35).toInt = x1.toInt) (hi1 : x1.toInt = (τ.1 0 14).toInt - 1) (hi2 : 1 ≤ (τ.1 0 14).toInt) (hi3 : 0 ≤ x6.toInt ∧ x6.toInt ≤ 4) (hi4 : (x8.toInt = 255 ∨ (0 ≤ x8.toInt ∧ x8.toInt ≤ 7))) (hi5 : (τ.1 0 9).toInt = 0) (hk0 : τ.1 0 36 = σ.1 0 36) (hk1 : τ.1 0 41 = σ.1 0 41) (hk2 : τ.1 0 50 = σ.1 0 50) (hk3 : τ.1 0 51 = σ.1 0 51) (hσ : K2 σ0 σ) (hτ : K2 σ0 τ) (hQ : ∀ τ : St, K2 σ0 τ → (τ.1 0 36 = σ.1 0 36 ∧ τ.1 0 41 = σ.1 0 41 ∧ τ.1 0 50 = σ.1 0 50 ∧ τ.1 0 51 = σ.1 0 51) → Q τ) : fX12_order_j350 N x1 x2 x3 x5 x6 x8 x9 Q τ := by
  unfold fX12_order_j350
  have f366 := tB x1
  have f367 := tB x2
  have f368 := tB x3
  have f369 := tB x5
  have f370 := tB x6
  have f371 := tB x8
  have f372 := tB x9
  have f373 := K2.g_0_14 hτ
  have f374 := K2.g_0_35 hτ
  have f375 := K2.g_0_9 hτ
  exact sX12_order_j351 hN (by omega) (by omega) (by omega) (by omega) (by omega) (by omega) (hk0) (hk1) (hk2) (hk3) hσ hτ hQ
set_option maxHeartbeats 4000000 in
theorem sX12_order_j334 {N : Nat} (hN : 4294967400 ≤ N) {x1 : Int32} {x2 : Int32} {x3 : Int32} {x5 : Int32} {x6 : Int32} {x8 : Int32} {x9 : Int32} {Q : St → Prop} {σ0 σ τ : St} (hi0 : (τ.1 0 35).toInt = x1.toInt) (hi1 : x1.toInt = (τ.1 0 14).toInt - 1) (hi2 : 1 ≤ (τ.1 0 14).toInt) (hi3 : 0 ≤ x6.toInt ∧ x6.toInt ≤ 4) (hi4 : (x8.toInt = 255 ∨ (0 ≤ x8.toInt ∧ x8.toInt ≤ 7))) (hi5 : (τ.1 0 9).toInt = 0) (hk0 : τ.1 0 36 = σ.1 0 36) (hk1 : τ.1 0 41 = σ.1 0 41) (hk2 : τ.1 0 50 = σ.1 0 50) (hk3 : τ.1 0 51 = σ.1 0 51) (hσ : K2 σ0 σ) (hτ : K2 σ0 τ) (hQ : ∀ τ : St, K2 σ0 τ → (τ.1 0 36 = σ.1 0 36 ∧ τ.1 0 41 = σ.1 0 41 ∧ τ.1 0 50 = σ.1 0 50 ∧ τ.1 0 51 = σ.1 0 51) → Q τ) : fX12_order_j334 N x1 x2 x3 x5 x6 x8 x9 Q τ := by
  unfold fX12_order_j334
  have f349 := tB x1
  have f350 := tB x2
  have f351 := tB x3
  have f352 := tB x5
  have f353 := tB x6
  have f354 := tB x8
  have f355 := tB x9
  have f356 := K2.g_0_14 hτ
  have f357 := K2.g_0_35 hτ
  have f358 := K2.g_0_9 hτ
  refine ⟨fun c359 => ?_, fun c359 => ?_⟩
  · first | have f361 := (eqE (rfl : x2.toInt = x2.toInt) (show (12 : Int32).toInt = 12 from by decide)).mp c359 | skip
    refine ⟨fun c362 => ?_, fun c362 => ?_⟩
    · first | have f365 := (leE (rfl : x5.toInt = x5.toInt) (rfl : x3.toInt = x3.toInt)).mp c362 | skip
      exact sX12_order_j350 hN (by omega) (by omega) (by omega) (by omega) (by omega) (by omega) (hk0) (hk1) (hk2) (hk3) hσ hτ hQ
    · first | have f400 := (notleE (rfl : x5.toInt = x5.toInt) (rfl : x3.toInt = x3.toInt)).mp c362 | skip
      exact sX12_order_j346 hN (by omega) (by omega) (by omega) (by omega) (by omega) (by omega) (hk0) (hk1) (hk2) (hk3) hσ hτ hQ
  · first | have f413 := (noteqE (rfl : x2.toInt = x2.toInt) (show (12 : Int32).toInt = 12 from by decide)).mp c359 | skip
    exact sX12_order_j350 hN (by omega) (by omega) (by omega) (by omega) (by omega) (by omega) (hk0) (hk1) (hk2) (hk3) hσ hτ hQ
set_option maxHeartbeats 4000000 in
theorem sX12_order_j324 {N : Nat} (hN : 4294967400 ≤ N) {x1 : Int32} {x2 : Int32} {x3 : Int32} {x5 : Int32} {x6 : Int32} {x8 : Int32} {x9 : Int32} {Q : St → Prop} {σ0 σ τ : St} (hi0 : (τ.1 0 35).toInt = x1.toInt) (hi1 : x1.toInt = (τ.1 0 14).toInt - 1) (hi2 : 1 ≤ (τ.1 0 14).toInt) (hi3 : 0 ≤ x6.toInt ∧ x6.toInt ≤ 4) (hi4 : (x8.toInt = 255 ∨ (0 ≤ x8.toInt ∧ x8.toInt ≤ 7))) (hi5 : (τ.1 0 9).toInt = 0) (hk0 : τ.1 0 36 = σ.1 0 36) (hk1 : τ.1 0 41 = σ.1 0 41) (hk2 : τ.1 0 50 = σ.1 0 50) (hk3 : τ.1 0 51 = σ.1 0 51) (hσ : K2 σ0 σ) (hτ : K2 σ0 τ) (hQ : ∀ τ : St, K2 σ0 τ → (τ.1 0 36 = σ.1 0 36 ∧ τ.1 0 41 = σ.1 0 41 ∧ τ.1 0 50 = σ.1 0 50 ∧ τ.1 0 51 = σ.1 0 51) → Q τ) : fX12_order_j324 N x1 x2 x3 x5 x6 x8 x9 Q τ := by
  unfold fX12_order_j324
  have f333 := tB x1
  have f334 := tB x2
  have f335 := tB x3
  have f336 := tB x5
  have f337 := tB x6
  have f338 := tB x8
  have f339 := tB x9
  have f340 := K2.g_0_14 hτ
  have f341 := K2.g_0_35 hτ
  have f342 := K2.g_0_9 hτ
  refine ⟨fun c343 => ?_, fun c343 => ?_⟩
  · first | have f345 := (eqE (rfl : x2.toInt = x2.toInt) (show (11 : Int32).toInt = 11 from by decide)).mp c343 | skip
    refine ⟨fun c346 => ?_, fun c346 => ?_⟩
    · first | have f348 := (eqE (rfl : x3.toInt = x3.toInt) (show (0 : Int32).toInt = 0 from by decide)).mp c346 | skip
      exact sX12_order_j334 hN (by omega) (by omega) (by omega) (by omega) (by omega) (by omega) (hk0) (hk1) (hk2) (hk3) hσ hτ hQ
    · first | have f437 := (noteqE (rfl : x3.toInt = x3.toInt) (show (0 : Int32).toInt = 0 from by decide)).mp c346 | skip
      exact sX12_order_j346 hN (by omega) (by omega) (by omega) (by omega) (by omega) (by omega) (hk0) (hk1) (hk2) (hk3) hσ hτ hQ
  · first | have f450 := (noteqE (rfl : x2.toInt = x2.toInt) (show (11 : Int32).toInt = 11 from by decide)).mp c343 | skip
    exact sX12_order_j334 hN (by omega) (by omega) (by omega) (by omega) (by omega) (by omega) (hk0) (hk1) (hk2) (hk3) hσ hτ hQ
set_option maxHeartbeats 4000000 in
theorem sX12_order_j304 {N : Nat} (hN : 4294967400 ≤ N) {x1 : Int32} {x2 : Int32} {x3 : Int32} {x5 : Int32} {x6 : Int32} {x8 : Int32} {t0 : Int32} {Q : St → Prop} {σ0 σ τ : St} (hi0 : (τ.1 0 35).toInt = x1.toInt) (hi1 : x1.toInt = (τ.1 0 14).toInt - 1) (hi2 : 1 ≤ (τ.1 0 14).toInt) (hi3 : (0 ≤ x6.toInt ∧ x6.toInt ≤ 4) ∨ ¬ (τ.1 0 9).toInt = 0) (hi4 : (x8.toInt = 255 ∨ (0 ≤ x8.toInt ∧ x8.toInt ≤ 7) ∨ ¬ (τ.1 0 9).toInt = 0)) (hk0 : τ.1 0 36 = σ.1 0 36) (hk1 : τ.1 0 41 = σ.1 0 41) (hk2 : τ.1 0 50 = σ.1 0 50) (hk3 : τ.1 0 51 = σ.1 0 51) (hσ : K2 σ0 σ) (hτ : K2 σ0 τ) (hQ : ∀ τ : St, K2 σ0 τ → (τ.1 0 36 = σ.1 0 36 ∧ τ.1 0 41 = σ.1 0 41 ∧ τ.1 0 50 = σ.1 0 50 ∧ τ.1 0 51 = σ.1 0 51) → Q τ) : fX12_order_j304 N x1 x2 x3 x5 x6 x8 t0 Q τ := by
  unfold fX12_order_j304
  have f202 := tB x1
  have f203 := tB x2
  have f204 := tB x3
  have f205 := tB x5
  have f206 := tB x6
  have f207 := tB x8
  have f208 := tB t0
  have f209 := K2.g_0_14 hτ
  have f210 := K2.g_0_35 hτ
  have f211 := K2.g_0_9 hτ
  refine ⟨fun c212 => ?_, fun c212 => ?_⟩
  · first | have f214 := (leE (rfl : (τ.1 0 9).toInt = (τ.1 0 9).toInt) (show (0 : Int32).toInt = 0 from by decide)).mp c212 | skip
    refine ⟨fun c215 => ?_, fun c215 => ?_⟩
    · first | have f217 := (eqE (rfl : x2.toInt = x2.toInt) (show (10 : Int32).toInt = 10 from by decide)).mp c215 | skip
      refine ⟨fun c218 => ?_, fun c218 => ?_⟩
      · first | have f220 := (eqE (rfl : x3.toInt = x3.toInt) (show (0 : Int32).toInt = 0 from by decide)).mp c218 | skip
        exact sX12_order_j346 hN (by omega) (by omega) (by omega) (by omega) (by omega) (by omega) (hk0) (hk1) (hk2) (hk3) hσ hτ hQ
      · first | have f332 := (noteqE (rfl : x3.toInt = x3.toInt) (show (0 : Int32).toInt = 0 from by decide)).mp c218 | skip
        exact sX12_order_j324 hN (by omega) (by omega) (by omega) (by omega) (by omega) (by omega) (hk0) (hk1) (hk2) (hk3) hσ hτ hQ
    · first | have f474 := (noteqE (rfl : x2.toInt = x2.toInt) (show (10 : Int32).toInt = 10 from by decide)).mp c215 | skip
      exact sX12_order_j324 hN (by omega) (by omega) (by omega) (by omega) (by omega) (by omega) (hk0) (hk1) (hk2) (hk3) hσ hτ hQ
  · first | have f487 := (notleE (rfl : (τ.1 0 9).toInt = (τ.1 0 9).toInt) (show (0 : Int32).toInt = 0 from by decide)).mp c212 | skip
    exact hQ _ hτ (⟨hk0, hk1, hk2, hk3⟩)
set_option maxHeartbeats 4000000 in
theorem sX12_order_j303 {N : Nat} (hN : 4294967400 ≤ N) {x1 : Int32} {x2 : Int32} {x3 : Int32} {x5 : Int32} {x6 : Int32} {x8 : Int32} {Q : St → Prop} {σ0 σ τ : St} (hi0 : (τ.1 0 35).toInt = x1.toInt) (hi1 : x1.toInt = (τ.1 0 14).toInt - 1) (hi2 : 1 ≤ (τ.1 0 14).toInt) (hi3 : (0 ≤ x6.toInt ∧ x6.toInt ≤ 4) ∨ ¬ (τ.1 0 9).toInt = 0) (hi4 : (x8.toInt = 255 ∨ (0 ≤ x8.toInt ∧ x8.toInt ≤ 7) ∨ ¬ (τ.1 0 9).toInt = 0)) (hk0 : τ.1 0 36 = σ.1 0 36) (hk1 : τ.1 0 41 = σ.1 0 41) (hk2 : τ.1 0 50 = σ.1 0 50) (hk3 : τ.1 0 51 = σ.1 0 51) (hσ : K2 σ0 σ) (hτ : K2 σ0 τ) (hQ : ∀ τ : St, K2 σ0 τ → (τ.1 0 36 = σ.1 0 36 ∧ τ.1 0 41 = σ.1 0 41 ∧ τ.1 0 50 = σ.1 0 50 ∧ τ.1 0 51 = σ.1 0 51) → Q τ) : fX12_order_j303 N x1 x2 x3 x5 x6 x8 Q τ := by
  unfold fX12_order_j303
  have f193 := tB x1
  have f194 := tB x2
  have f195 := tB x3
  have f196 := tB x5
  have f197 := tB x6
  have f198 := tB x8
  have f199 := K2.g_0_14 hτ
  have f200 := K2.g_0_35 hτ
  have f201 := K2.g_0_9 hτ
  exact sX12_order_j304 hN (by omega) (by omega) (by omega) (by omega) (by omega) (hk0) (hk1) (hk2) (hk3) hσ hτ hQ
set_option maxHeartbeats 4000000 in
theorem sX12_order_j275 {N : Nat} (hN : 4294967400 ≤ N) {x1 : Int32} {x2 : Int32} {x3 : Int32} {x5 : Int32} {x6 : Int32} {t0 : Int32} {Q : St → Prop} {σ0 σ τ : St} (hi0 : (τ.1 0 35).toInt = x1.toInt) (hi1 : x1.toInt = (τ.1 0 14).toInt - 1) (hi2 : 1 ≤ (τ.1 0 14).toInt) (hi3 : (0 ≤ x6.toInt ∧ x6.toInt ≤ 4) ∨ ¬ (τ.1 0 9).toInt = 0) (hi4 : (t0.toInt = 255 ∨ (0 ≤ t0.toInt ∧ t0.toInt ≤ 7) ∨ ¬ (τ.1 0 9).toInt = 0)) (hk0 : τ.1 0 36 = σ.1 0 36) (hk1 : τ.1 0 41 = σ.1 0 41) (hk2 : τ.1 0 50 = σ.1 0 50) (hk3 : τ.1 0 51 = σ.1 0 51) (hσ : K2 σ0 σ) (hτ : K2 σ0 τ) (hQ : ∀ τ : St, K2 σ0 τ → (τ.1 0 36 = σ.1 0 36 ∧ τ.1 0 41 = σ.1 0 41 ∧ τ.1 0 50 = σ.1 0 50 ∧ τ.1 0 51 = σ.1 0 51) → Q τ) : fX12_order_j275 N x1 x2 x3 x5 x6 t0 Q τ := by
  unfold fX12_order_j275
  have f181 := tB x1
  have f182 := tB x2
  have f183 := tB x3
  have f184 := tB x5
  have f185 := tB x6
  have f186 := tB t0
  have f187 := K2.g_0_14 hτ
  have f188 := K2.g_0_35 hτ
  have f189 := K2.g_0_9 hτ
  refine ⟨fun c190 => ?_, fun c190 => ?_⟩
  · first | have f192 := (ltE (rfl : x2.toInt = x2.toInt) (show (10 : Int32).toInt = 10 from by decide)).mp c190 | skip
    exact sX12_order_j303 hN (by omega) (by omega) (by omega) (by omega) (by omega) (hk0) (hk1) (hk2) (hk3) hσ hτ hQ
  · first | have f511 := (notltE (rfl : x2.toInt = x2.toInt) (show (10 : Int32).toInt = 10 from by decide)).mp c190 | skip
    refine ⟨fun c512 => ?_, fun c512 => ?_⟩
    · first | have f514 := (ltE (show (12 : Int32).toInt = 12 from by decide) (rfl : x2.toInt = x2.toInt)).mp c512 | skip
      exact sX12_order_j303 hN (by omega) (by omega) (by omega) (by omega) (by omega) (hk0) (hk1) (hk2) (hk3) hσ hτ hQ
    · first | have f527 := (notltE (show (12 : Int32).toInt = 12 from by decide) (rfl : x2.toInt = x2.toInt)).mp c512 | skip
      refine ⟨fun c528 => ?_, fun c528 => ?_⟩
      · first | have f530 := (eqE (rfl : (τ.1 0 9).toInt = (τ.1 0 9).toInt) (show (0 : Int32).toInt = 0 from by decide)).mp c528 | skip
        refine sX12_way hN hτ (fun r540 σ531 hσ531 kk539 p541 => ?_)
        obtain ⟨k532, k533, k534, k535, k536, k537, k538⟩ := kk539
        have f548 := tB r540
        have f549 := K2.g_0_35 hσ531
        have f550 := congrArg Int32.toInt k533
        have f552 := K2.g_0_14 hσ531
        have f553 := congrArg Int32.toInt k532
        have f556 := K2.g_0_9 hσ531
        exact sX12_order_j304 hN (by omega) (by omega) (by omega) (by omega) (by omega) (k535.trans (hk0)) (k536.trans (hk1)) (k537.trans (hk2)) (k538.trans (hk3)) hσ hσ531 hQ
      · first | have f559 := (noteqE (rfl : (τ.1 0 9).toInt = (τ.1 0 9).toInt) (show (0 : Int32).toInt = 0 from by decide)).mp c528 | skip
        exact sX12_order_j303 hN (by omega) (by omega) (by omega) (by omega) (by omega) (hk0) (hk1) (hk2) (hk3) hσ hτ hQ
set_option maxHeartbeats 4000000 in
theorem sX12_order_j272 {N : Nat} (hN : 4294967400 ≤ N) {x1 : Int32} {x2 : Int32} {x3 : Int32} {x5 : Int32} {x6 : Int32} {Q : St → Prop} {σ0 σ τ : St} (hi0 : (τ.1 0 35).toInt = x1.toInt) (hi1 : x1.toInt = (τ.1 0 14).toInt - 1) (hi2 : 1 ≤ (τ.1 0 14).toInt) (hi3 : (0 ≤ x6.toInt ∧ x6.toInt ≤ 4) ∨ ¬ (τ.1 0 9).toInt = 0) (hk0 : τ.1 0 36 = σ.1 0 36) (hk1 : τ.1 0 41 = σ.1 0 41) (hk2 : τ.1 0 50 = σ.1 0 50) (hk3 : τ.1 0 51 = σ.1 0 51) (hσ : K2 σ0 σ) (hτ : K2 σ0 τ) (hQ : ∀ τ : St, K2 σ0 τ → (τ.1 0 36 = σ.1 0 36 ∧ τ.1 0 41 = σ.1 0 41 ∧ τ.1 0 50 = σ.1 0 50 ∧ τ.1 0 51 = σ.1 0 51) → Q τ) : fX12_order_j272 N x1 x2 x3 x5 x6 Q τ := by
  unfold fX12_order_j272
  have f173 := tB x1
  have f174 := tB x2
  have f175 := tB x3
  have f176 := tB x5
  have f177 := tB x6
  have f178 := K2.g_0_14 hτ
  have f179 := K2.g_0_35 hτ
  have f180 := K2.g_0_9 hτ
  exact sX12_order_j275 hN (by omega) (by omega) (by omega) (by omega) (by have zt0 := (show (255 : Int32).toInt = 255 from by decide); omega) (hk0) (hk1) (hk2) (hk3) hσ hτ hQ
set_option maxHeartbeats 4000000 in
theorem sX12_order_j251 {N : Nat} (hN : 4294967400 ≤ N) {x1 : Int32} {x2 : Int32} {x3 : Int32} {x5 : Int32} {x6 : Int32} {t0 : Int32} {Q : St → Prop} {σ0 σ τ : St} (hi0 : (τ.1 0 35).toInt = x1.toInt) (hi1 : x1.toInt = (τ.1 0 14).toInt - 1) (hi2 : 1 ≤ (τ.1 0 14).toInt) (hi3 : (0 ≤ x6.toInt ∧ x6.toInt ≤ 4) ∨ ¬ (τ.1 0 9).toInt = 0) (hk0 : τ.1 0 36 = σ.1 0 36) (hk1 : τ.1 0 41 = σ.1 0 41) (hk2 : τ.1 0 50 = σ.1 0 50) (hk3 : τ.1 0 51 = σ.1 0 51) (hσ : K2 σ0 σ) (hτ : K2 σ0 τ) (hQ : ∀ τ : St, K2 σ0 τ → (τ.1 0 36 = σ.1 0 36 ∧ τ.1 0 41 = σ.1 0 41 ∧ τ.1 0 50 = σ.1 0 50 ∧ τ.1 0 51 = σ.1 0 51) → Q τ) : fX12_order_j251 N x1 x2 x3 x5 x6 t0 Q τ := by
  unfold fX12_order_j251
  have f161 := tB x1
  have f162 := tB x2
  have f163 := tB x3
  have f164 := tB x5
  have f165 := tB x6
  have f166 := tB t0
  have f167 := K2.g_0_14 hτ
  have f168 := K2.g_0_35 hτ
  have f169 := K2.g_0_9 hτ
  refine ⟨fun c170 => ?_, fun c170 => ?_⟩
  · first | have f172 := (eqE (rfl : t0.toInt = t0.toInt) (show (0 : Int32).toInt = 0 from by decide)).mp c170 | skip
    exact sX12_order_j272 hN (by omega) (by omega) (by omega) (by omega) (hk0) (hk1) (hk2) (hk3) hσ hτ hQ
  · first | have f591 := (noteqE (rfl : t0.toInt = t0.toInt) (show (0 : Int32).toInt = 0 from by decide)).mp c170 | skip
    refine ⟨fun c592 => ?_, fun c592 => ?_⟩
    · first | have f594 := (eqE (rfl : (τ.1 0 9).toInt = (τ.1 0 9).toInt) (show (0 : Int32).toInt = 0 from by decide)).mp c592 | skip
      refine sX12_target hN hτ (fun r604 σ595 hσ595 kk603 p605 => ?_)
      obtain ⟨k596, k597, k598, k599, k600, k601, k602⟩ := kk603
      have f611 := tB r604
      have f612 := K2.g_0_35 hσ595
      have f613 := congrArg Int32.toInt k597
      have f615 := K2.g_0_14 hσ595
      have f616 := congrArg Int32.toInt k596
      have f619 := K2.g_0_9 hσ595
      exact sX12_order_j275 hN (by omega) (by omega) (by omega) (by omega) (by omega) (k599.trans (hk0)) (k600.trans (hk1)) (k601.trans (hk2)) (k602.trans (hk3)) hσ hσ595 hQ
    · first | have f622 := (noteqE (rfl : (τ.1 0 9).toInt = (τ.1 0 9).toInt) (show (0 : Int32).toInt = 0 from by decide)).mp c592 | skip
      exact sX12_order_j272 hN (by omega) (by omega) (by omega) (by omega) (hk0) (hk1) (hk2) (hk3) hσ hτ hQ
set_option maxHeartbeats 4000000 in
theorem sX12_order_j246 {N : Nat} (hN : 4294967400 ≤ N) {x1 : Int32} {x2 : Int32} {x3 : Int32} {x5 : Int32} {x6 : Int32} {Q : St → Prop} {σ0 σ τ : St} (hi0 : (τ.1 0 35).toInt = x1.toInt) (hi1 : x1.toInt = (τ.1 0 14).toInt - 1) (hi2 : 1 ≤ (τ.1 0 14).toInt) (hi3 : (0 ≤ x6.toInt ∧ x6.toInt ≤ 4) ∨ ¬ (τ.1 0 9).toInt = 0) (hk0 : τ.1 0 36 = σ.1 0 36) (hk1 : τ.1 0 41 = σ.1 0 41) (hk2 : τ.1 0 50 = σ.1 0 50) (hk3 : τ.1 0 51 = σ.1 0 51) (hσ : K2 σ0 σ) (hτ : K2 σ0 τ) (hQ : ∀ τ : St, K2 σ0 τ → (τ.1 0 36 = σ.1 0 36 ∧ τ.1 0 41 = σ.1 0 41 ∧ τ.1 0 50 = σ.1 0 50 ∧ τ.1 0 51 = σ.1 0 51) → Q τ) : fX12_order_j246 N x1 x2 x3 x5 x6 Q τ := by
  unfold fX12_order_j246
  have f153 := tB x1
  have f154 := tB x2
  have f155 := tB x3
  have f156 := tB x5
  have f157 := tB x6
  have f158 := K2.g_0_14 hτ
  have f159 := K2.g_0_35 hτ
  have f160 := K2.g_0_9 hτ
  exact sX12_order_j251 hN (by omega) (by omega) (by omega) (by omega) (hk0) (hk1) (hk2) (hk3) hσ hτ hQ
set_option maxHeartbeats 4000000 in
theorem sX12_order_j228 {N : Nat} (hN : 4294967400 ≤ N) {x1 : Int32} {x2 : Int32} {x3 : Int32} {x5 : Int32} {x6 : Int32} {Q : St → Prop} {σ0 σ τ : St} (hi0 : (τ.1 0 35).toInt = x1.toInt) (hi1 : x1.toInt = (τ.1 0 14).toInt - 1) (hi2 : 1 ≤ (τ.1 0 14).toInt) (hi3 : (0 ≤ x6.toInt ∧ x6.toInt ≤ 4) ∨ ¬ (τ.1 0 9).toInt = 0) (hk0 : τ.1 0 36 = σ.1 0 36) (hk1 : τ.1 0 41 = σ.1 0 41) (hk2 : τ.1 0 50 = σ.1 0 50) (hk3 : τ.1 0 51 = σ.1 0 51) (hσ : K2 σ0 σ) (hτ : K2 σ0 τ) (hQ : ∀ τ : St, K2 σ0 τ → (τ.1 0 36 = σ.1 0 36 ∧ τ.1 0 41 = σ.1 0 41 ∧ τ.1 0 50 = σ.1 0 50 ∧ τ.1 0 51 = σ.1 0 51) → Q τ) : fX12_order_j228 N x1 x2 x3 x5 x6 Q τ := by
  unfold fX12_order_j228
  have f142 := tB x1
  have f143 := tB x2
  have f144 := tB x3
  have f145 := tB x5
  have f146 := tB x6
  have f147 := K2.g_0_14 hτ
  have f148 := K2.g_0_35 hτ
  have f149 := K2.g_0_9 hτ
  refine ⟨fun c150 => ?_, fun c150 => ?_⟩
  · first | have f152 := (eqE (rfl : x2.toInt = x2.toInt) (show (13 : Int32).toInt = 13 from by decide)).mp c150 | skip
    exact sX12_order_j246 hN (by omega) (by omega) (by omega) (by omega) (hk0) (hk1) (hk2) (hk3) hσ hτ hQ
  · first | have f651 := (noteqE (rfl : x2.toInt = x2.toInt) (show (13 : Int32).toInt = 13 from by decide)).mp c150 | skip
    refine ⟨fun c652 => ?_, fun c652 => ?_⟩
    · first | have f654 := (eqE (rfl : x2.toInt = x2.toInt) (show (14 : Int32).toInt = 14 from by decide)).mp c652 | skip
      exact sX12_order_j246 hN (by omega) (by omega) (by omega) (by omega) (hk0) (hk1) (hk2) (hk3) hσ hτ hQ
    · first | have f665 := (noteqE (rfl : x2.toInt = x2.toInt) (show (14 : Int32).toInt = 14 from by decide)).mp c652 | skip
      refine ⟨fun c666 => ?_, fun c666 => ?_⟩
      · first | have f668 := (eqE (rfl : x2.toInt = x2.toInt) (show (16 : Int32).toInt = 16 from by decide)).mp c666 | skip
        exact sX12_order_j246 hN (by omega) (by omega) (by omega) (by omega) (hk0) (hk1) (hk2) (hk3) hσ hτ hQ
      · first | have f679 := (noteqE (rfl : x2.toInt = x2.toInt) (show (16 : Int32).toInt = 16 from by decide)).mp c666 | skip
        exact sX12_order_j251 hN (by omega) (by omega) (by omega) (by omega) (hk0) (hk1) (hk2) (hk3) hσ hτ hQ
set_option maxHeartbeats 4000000 in
theorem sX12_order_j216 {N : Nat} (hN : 4294967400 ≤ N) {x1 : Int32} {x2 : Int32} {x3 : Int32} {x5 : Int32} {x6 : Int32} {Q : St → Prop} {σ0 σ τ : St} (hi0 : (τ.1 0 35).toInt = x1.toInt) (hi1 : x1.toInt = (τ.1 0 14).toInt - 1) (hi2 : 1 ≤ (τ.1 0 14).toInt) (hi3 : (0 ≤ x6.toInt ∧ x6.toInt ≤ 4) ∨ ¬ (τ.1 0 9).toInt = 0) (hk0 : τ.1 0 36 = σ.1 0 36) (hk1 : τ.1 0 41 = σ.1 0 41) (hk2 : τ.1 0 50 = σ.1 0 50) (hk3 : τ.1 0 51 = σ.1 0 51) (hσ : K2 σ0 σ) (hτ : K2 σ0 τ) (hQ : ∀ τ : St, K2 σ0 τ → (τ.1 0 36 = σ.1 0 36 ∧ τ.1 0 41 = σ.1 0 41 ∧ τ.1 0 50 = σ.1 0 50 ∧ τ.1 0 51 = σ.1 0 51) → Q τ) : fX12_order_j216 N x1 x2 x3 x5 x6 Q τ := by
  unfold fX12_order_j216
  have f131 := tB x1
  have f132 := tB x2
  have f133 := tB x3
  have f134 := tB x5
  have f135 := tB x6
  have f136 := K2.g_0_14 hτ
  have f137 := K2.g_0_35 hτ
  have f138 := K2.g_0_9 hτ
  refine ⟨fun c139 => ?_, fun c139 => ?_⟩
  · first | have f141 := (ltE (rfl : x2.toInt = x2.toInt) (show (6 : Int32).toInt = 6 from by decide)).mp c139 | skip
    exact sX12_order_j228 hN (by omega) (by omega) (by omega) (by omega) (hk0) (hk1) (hk2) (hk3) hσ hτ hQ
  · first | have f699 := (notltE (rfl : x2.toInt = x2.toInt) (show (6 : Int32).toInt = 6 from by decide)).mp c139 | skip
    refine ⟨fun c700 => ?_, fun c700 => ?_⟩
    · first | have f702 := (leE (rfl : x2.toInt = x2.toInt) (show (9 : Int32).toInt = 9 from by decide)).mp c700 | skip
      exact sX12_order_j246 hN (by omega) (by omega) (by omega) (by omega) (hk0) (hk1) (hk2) (hk3) hσ hτ hQ
    · first | have f713 := (notleE (rfl : x2.toInt = x2.toInt) (show (9 : Int32).toInt = 9 from by decide)).mp c700 | skip
      exact sX12_order_j228 hN (by omega) (by omega) (by omega) (by omega) (hk0) (hk1) (hk2) (hk3) hσ hτ hQ
set_option maxHeartbeats 4000000 in
theorem sX12_order_j182 {N : Nat} (hN : 4294967400 ≤ N) {x1 : Int32} {x2 : Int32} {x3 : Int32} {x5 : Int32} {x6 : Int32} {Q : St → Prop} {σ0 σ τ : St} (hi0 : (τ.1 0 35).toInt = x1.toInt) (hi1 : x1.toInt = (τ.1 0 14).toInt - 1) (hi2 : 1 ≤ (τ.1 0 14).toInt) (hi3 : (0 ≤ x6.toInt ∧ x6.toInt ≤ 4) ∨ ¬ (τ.1 0 9).toInt = 0) (hk0 : τ.1 0 36 = σ.1 0 36) (hk1 : τ.1 0 41 = σ.1 0 41) (hk2 : τ.1 0 50 = σ.1 0 50) (hk3 : τ.1 0 51 = σ.1 0 51) (hσ : K2 σ0 σ) (hτ : K2 σ0 τ) (hQ : ∀ τ : St, K2 σ0 τ → (τ.1 0 36 = σ.1 0 36 ∧ τ.1 0 41 = σ.1 0 41 ∧ τ.1 0 50 = σ.1 0 50 ∧ τ.1 0 51 = σ.1 0 51) → Q τ) : fX12_order_j182 N x1 x2 x3 x5 x6 Q τ := by
  unfold fX12_order_j182
  have f98 := tB x1
  have f99 := tB x2
  have f100 := tB x3
  have f101 := tB x5
  have f102 := tB x6
  have f103 := K2.g_0_14 hτ
  have f104 := K2.g_0_35 hτ
  have f105 := K2.g_0_9 hτ
  refine lo1_i (fun (y106 : Int32) (ω : St) => K2 σ0 ω ∧ ω.1 0 14 = τ.1 0 14 ∧ ω.1 0 35 = τ.1 0 35 ∧ ω.1 0 24 = τ.1 0 24 ∧ ω.1 0 36 = τ.1 0 36 ∧ ω.1 0 41 = τ.1 0 41 ∧ ω.1 0 50 = τ.1 0 50 ∧ ω.1 0 51 = τ.1 0 51 ∧ 0 ≤ y106.toInt ∧ ((0 ≤ x6.toInt ∧ x6.toInt ≤ 4) ∨ ¬ (ω.1 0 9).toInt = 0)) (fun (y106 : Int32) (ω : St) => (2147483648 - y106.toInt).toNat) ?_ N (0 : Int32) τ ⟨hτ, rfl, rfl, rfl, rfl, rfl, rfl, rfl, by first | decide | (have z0 : (0 : Int32).toInt = 0 := (by decide); omega), by first | decide | (have z0 : (0 : Int32).toInt = 0 := (by decide); omega)⟩ (by have z0 : (0 : Int32).toInt = 0 := (by decide); (try dsimp only); omega)
  intro rr113 y116 σ115 hIσ115 ih114
  obtain ⟨hσ115, k117, k118, k119, k120, k121, k122, k123, i124, i125⟩ := hIσ115
  unfold fX12_order_l185
  have f126 := tB y116
  refine ⟨fun c127 => ?_, fun c127 => ?_⟩
  · first | have f130 := (leE (rfl : x6.toInt = x6.toInt) (rfl : y116.toInt = y116.toInt)).mp c127 | skip
    have f728 := K2.g_0_35 hσ115
    have f729 := congrArg Int32.toInt k118
    have f731 := K2.g_0_14 hσ115
    have f732 := congrArg Int32.toInt k117
    have f735 := K2.g_0_9 hσ115
    exact sX12_order_j216 hN (by omega) (by omega) (by omega) (by omega) (k120.trans (hk0)) (k121.trans (hk1)) (k122.trans (hk2)) (k123.trans (hk3)) hσ hσ115 hQ
  · first | have f738 := (notleE (rfl : x6.toInt = x6.toInt) (rfl : y116.toInt = y116.toInt)).mp c127 | skip
    refine ⟨fun c739 => ?_, fun c739 => ?_⟩
    · have f740 := K2.g_0_9 hσ115
      first | have f741 := (eqE (rfl : (σ115.1 0 9).toInt = (σ115.1 0 9).toInt) (show (0 : Int32).toInt = 0 from by decide)).mp c739 | skip
      refine sX12_value hN hσ115 (fun r751 σ742 hσ742 kk750 p752 => ?_)
      obtain ⟨k743, k744, k745, k746, k747, k748, k749⟩ := kk750
      refine ⟨inE (rfl : y116.toInt = y116.toInt) (by omega) (by omega), ?_⟩
      intro σ754 eσ754
      have hσ754 : K2 σ0 σ754 := by rw [eσ754]; exact hσ742.u (Rg2.ra_15 _ _) (fun q => absurd q.1 (by decide)) (fun q => absurd q.1 (by decide)) ⟨⟨by decide, by decide⟩, fun q => absurd q.1 (by decide)⟩
      intro v755 ev755
      have f756 := tB v755
      first | have f758 : v755.toInt = (y116.toInt + (1)) := (congrArg Int32.toInt ev755).trans (aOkE (rfl : y116.toInt = y116.toInt) (show (1 : Int32).toInt = 1 from by decide) (by omega) (by omega)) | skip
      have f759 := K2.g_0_9 hσ754
      have q760 : σ754.1 0 9 = σ742.1 0 9 := by rw [eσ754]; exact congrFun (u1_ne (by decide)) 9
      have f761 := congrArg Int32.toInt q760
      have f762 := K2.g_0_9 hσ742
      exact ih114 v755 σ754 ⟨hσ754, (kq (a := 0) (b := 14) eσ754 (fun q => absurd q.1 (by decide))).trans (k743.trans (k117)), (kq (a := 0) (b := 35) eσ754 (fun q => absurd q.1 (by decide))).trans (k744.trans (k118)), (kq (a := 0) (b := 24) eσ754 (fun q => absurd q.1 (by decide))).trans (k745.trans (k119)), (kq (a := 0) (b := 36) eσ754 (fun q => absurd q.1 (by decide))).trans (k746.trans (k120)), (kq (a := 0) (b := 41) eσ754 (fun q => absurd q.1 (by decide))).trans (k747.trans (k121)), (kq (a := 0) (b := 50) eσ754 (fun q => absurd q.1 (by decide))).trans (k748.trans (k122)), (kq (a := 0) (b := 51) eσ754 (fun q => absurd q.1 (by decide))).trans (k749.trans (k123)), by omega, by omega⟩ (by (try dsimp only); omega)
    · have f763 := K2.g_0_9 hσ115
      first | have f764 := (noteqE (rfl : (σ115.1 0 9).toInt = (σ115.1 0 9).toInt) (show (0 : Int32).toInt = 0 from by decide)).mp c739 | skip
      have f770 := K2.g_0_35 hσ115
      have f771 := congrArg Int32.toInt k118
      have f773 := K2.g_0_14 hσ115
      have f774 := congrArg Int32.toInt k117
      exact sX12_order_j216 hN (by omega) (by omega) (by omega) (by omega) (k120.trans (hk0)) (k121.trans (hk1)) (k122.trans (hk2)) (k123.trans (hk3)) hσ hσ115 hQ
set_option maxHeartbeats 4000000 in
theorem sX12_order_j132 {N : Nat} (hN : 4294967400 ≤ N) {x1 : Int32} {x2 : Int32} {x3 : Int32} {t0 : Int32} {Q : St → Prop} {σ0 σ τ : St} (hi0 : (τ.1 0 35).toInt = x1.toInt) (hi1 : x1.toInt = (τ.1 0 14).toInt - 1) (hi2 : 1 ≤ (τ.1 0 14).toInt) (hk0 : τ.1 0 36 = σ.1 0 36) (hk1 : τ.1 0 41 = σ.1 0 41) (hk2 : τ.1 0 50 = σ.1 0 50) (hk3 : τ.1 0 51 = σ.1 0 51) (hσ : K2 σ0 σ) (hτ : K2 σ0 τ) (hQ : ∀ τ : St, K2 σ0 τ → (τ.1 0 36 = σ.1 0 36 ∧ τ.1 0 41 = σ.1 0 41 ∧ τ.1 0 50 = σ.1 0 50 ∧ τ.1 0 51 = σ.1 0 51) → Q τ) : fX12_order_j132 N x1 x2 x3 t0 Q τ := by
  unfold fX12_order_j132
  have f67 := tB x1
  have f68 := tB x2
  have f69 := tB x3
  have f70 := tB t0
  have f71 := K2.g_0_14 hτ
  have f72 := K2.g_0_35 hτ
  refine ⟨fun c73 => ?_, fun c73 => ?_⟩
  · first | have f75 := (eqE (rfl : x2.toInt = x2.toInt) (show (6 : Int32).toInt = 6 from by decide)).mp c73 | skip
    have f76 := tB64 (τ.2 0 34)
    refine sX12_read hN hτ (fun r86 σ77 hσ77 kk85 p87 => ?_)
    obtain ⟨k78, k79, k80, k81, k82, k83, k84⟩ := kk85
    intro v88 ev88
    intro σ89 eσ89
    have hσ89 : K2 σ0 σ89 := by rw [eσ89]; exact hσ77.l
    refine ⟨fun c90 => ?_, fun c90 => ?_⟩
    · have f91 := K2.g_0_9 hσ89
      have f92 := congrArg Int32.toInt (kq2 (a := 0) (b := 9) eσ89)
      have f93 := K2.g_0_9 hσ77
      first | have f94 := (eqE (rfl : (σ89.1 0 9).toInt = (σ89.1 0 9).toInt) (show (0 : Int32).toInt = 0 from by decide)).mp c90 | skip
      refine ⟨fun c95 => ?_, fun c95 => ?_⟩
      · have f96 := tB r86
        first | have f97 := (leE (rfl : r86.toInt = r86.toInt) (show (4 : Int32).toInt = 4 from by decide)).mp c95 | skip
        have f783 := K2.g_0_35 hσ89
        have f784 := congrArg Int32.toInt (kq2 (a := 0) (b := 35) eσ89)
        have f785 := K2.g_0_35 hσ77
        have f786 := congrArg Int32.toInt k79
        have f788 := K2.g_0_14 hσ89
        have f789 := congrArg Int32.toInt (kq2 (a := 0) (b := 14) eσ89)
        have f790 := K2.g_0_14 hσ77
        have f791 := congrArg Int32.toInt k78
        exact sX12_order_j182 hN (by omega) (by omega) (by omega) (by omega) ((kq2 (a := 0) (b := 36) eσ89).trans (k81.trans (hk0))) ((kq2 (a := 0) (b := 41) eσ89).trans (k82.trans (hk1))) ((kq2 (a := 0) (b := 50) eσ89).trans (k83.trans (hk2))) ((kq2 (a := 0) (b := 51) eσ89).trans (k84.trans (hk3))) hσ hσ89 hQ
      · have f795 := tB r86
        first | have f796 := (notleE (rfl : r86.toInt = r86.toInt) (show (4 : Int32).toInt = 4 from by decide)).mp c95 | skip
        try unfold fX12_fails
        refine ⟨fun c797 => ?_, fun c797 => ?_⟩
        · first | have f799 := (eqE (rfl : (σ89.1 0 9).toInt = (σ89.1 0 9).toInt) (show (0 : Int32).toInt = 0 from by decide)).mp c797 | skip
          try unfold fX12_fails_j16
          intro σ800 eσ800
          have hσ800 : K2 σ0 σ800 := by rw [eσ800]; exact hσ89.u (Rg2.r_0_9 (leP (show (6 : Int32).toInt = 6 from by decide) (by omega)) (geP (show (6 : Int32).toInt = 6 from by decide) (by omega))) (fun q => absurd q.2 (by decide)) (fun q => absurd q.2 (by decide)) ⟨⟨by decide, by decide⟩, fun q => absurd q.2 (by decide)⟩
          try dsimp only
          have f806 := K2.g_0_35 hσ800
          have q807 : σ800.1 0 35 = σ89.1 0 35 := by rw [eσ800, u1_at]; exact if_neg (by decide)
          have f808 := congrArg Int32.toInt q807
          have f809 := K2.g_0_35 hσ89
          have f810 := congrArg Int32.toInt (kq2 (a := 0) (b := 35) eσ89)
          have f811 := K2.g_0_35 hσ77
          have f812 := congrArg Int32.toInt k79
          have f814 := K2.g_0_14 hσ800
          have q815 : σ800.1 0 14 = σ89.1 0 14 := by rw [eσ800, u1_at]; exact if_neg (by decide)
          have f816 := congrArg Int32.toInt q815
          have f817 := K2.g_0_14 hσ89
          have f818 := congrArg Int32.toInt (kq2 (a := 0) (b := 14) eσ89)
          have f819 := K2.g_0_14 hσ77
          have f820 := congrArg Int32.toInt k78
          have f823 := K2.g_0_9 hσ800
          have q824 : σ800.1 0 9 = 6 := by rw [eσ800, u1_at]; exact if_pos rfl
          first | have f825 : (σ800.1 0 9).toInt = (6) := (congrArg Int32.toInt q824).trans (show (6 : Int32).toInt = 6 from by decide) | skip
          exact sX12_order_j182 hN (by omega) (by omega) (by omega) (by omega) ((kq (a := 0) (b := 36) eσ800 (fun q => absurd q.2 (by decide))).trans ((kq2 (a := 0) (b := 36) eσ89).trans (k81.trans (hk0)))) ((kq (a := 0) (b := 41) eσ800 (fun q => absurd q.2 (by decide))).trans ((kq2 (a := 0) (b := 41) eσ89).trans (k82.trans (hk1)))) ((kq (a := 0) (b := 50) eσ800 (fun q => absurd q.2 (by decide))).trans ((kq2 (a := 0) (b := 50) eσ89).trans (k83.trans (hk2)))) ((kq (a := 0) (b := 51) eσ800 (fun q => absurd q.2 (by decide))).trans ((kq2 (a := 0) (b := 51) eσ89).trans (k84.trans (hk3)))) hσ hσ800 hQ
        · first | have f827 := (noteqE (rfl : (σ89.1 0 9).toInt = (σ89.1 0 9).toInt) (show (0 : Int32).toInt = 0 from by decide)).mp c797 | skip
          try unfold fX12_fails_j16
          intro σ828 eσ828
          have hσ828 : K2 σ0 σ828 := by rw [eσ828]; exact hσ89.u (Rg2.r_0_9 (leP (rfl : (σ89.1 0 9).toInt = (σ89.1 0 9).toInt) (by omega)) (geP (rfl : (σ89.1 0 9).toInt = (σ89.1 0 9).toInt) (by omega))) (fun q => absurd q.2 (by decide)) (fun q => absurd q.2 (by decide)) ⟨⟨by decide, by decide⟩, fun q => absurd q.2 (by decide)⟩
          try dsimp only
          have f835 := K2.g_0_35 hσ828
          have q836 : σ828.1 0 35 = σ89.1 0 35 := by rw [eσ828, u1_at]; exact if_neg (by decide)
          have f837 := congrArg Int32.toInt q836
          have f838 := K2.g_0_35 hσ89
          have f839 := congrArg Int32.toInt (kq2 (a := 0) (b := 35) eσ89)
          have f840 := K2.g_0_35 hσ77
          have f841 := congrArg Int32.toInt k79
          have f843 := K2.g_0_14 hσ828
          have q844 : σ828.1 0 14 = σ89.1 0 14 := by rw [eσ828, u1_at]; exact if_neg (by decide)
          have f845 := congrArg Int32.toInt q844
          have f846 := K2.g_0_14 hσ89
          have f847 := congrArg Int32.toInt (kq2 (a := 0) (b := 14) eσ89)
          have f848 := K2.g_0_14 hσ77
          have f849 := congrArg Int32.toInt k78
          have f852 := K2.g_0_9 hσ828
          have q853 : σ828.1 0 9 = (σ89.1 0 9) := by rw [eσ828, u1_at]; exact if_pos rfl
          first | have f855 : (σ828.1 0 9).toInt = (σ89.1 0 9).toInt := (congrArg Int32.toInt q853).trans (rfl : (σ89.1 0 9).toInt = (σ89.1 0 9).toInt) | skip
          exact sX12_order_j182 hN (by omega) (by omega) (by omega) (by omega) ((kq (a := 0) (b := 36) eσ828 (fun q => absurd q.2 (by decide))).trans ((kq2 (a := 0) (b := 36) eσ89).trans (k81.trans (hk0)))) ((kq (a := 0) (b := 41) eσ828 (fun q => absurd q.2 (by decide))).trans ((kq2 (a := 0) (b := 41) eσ89).trans (k82.trans (hk1)))) ((kq (a := 0) (b := 50) eσ828 (fun q => absurd q.2 (by decide))).trans ((kq2 (a := 0) (b := 50) eσ89).trans (k83.trans (hk2)))) ((kq (a := 0) (b := 51) eσ828 (fun q => absurd q.2 (by decide))).trans ((kq2 (a := 0) (b := 51) eσ89).trans (k84.trans (hk3)))) hσ hσ828 hQ
    · have f856 := K2.g_0_9 hσ89
      have f857 := congrArg Int32.toInt (kq2 (a := 0) (b := 9) eσ89)
      have f858 := K2.g_0_9 hσ77
      first | have f859 := (noteqE (rfl : (σ89.1 0 9).toInt = (σ89.1 0 9).toInt) (show (0 : Int32).toInt = 0 from by decide)).mp c90 | skip
      have f864 := tB r86
      have f865 := K2.g_0_35 hσ89
      have f866 := congrArg Int32.toInt (kq2 (a := 0) (b := 35) eσ89)
      have f867 := K2.g_0_35 hσ77
      have f868 := congrArg Int32.toInt k79
      have f870 := K2.g_0_14 hσ89
      have f871 := congrArg Int32.toInt (kq2 (a := 0) (b := 14) eσ89)
      have f872 := K2.g_0_14 hσ77
      have f873 := congrArg Int32.toInt k78
      exact sX12_order_j182 hN (by omega) (by omega) (by omega) (by omega) ((kq2 (a := 0) (b := 36) eσ89).trans (k81.trans (hk0))) ((kq2 (a := 0) (b := 41) eσ89).trans (k82.trans (hk1))) ((kq2 (a := 0) (b := 50) eσ89).trans (k83.trans (hk2))) ((kq2 (a := 0) (b := 51) eσ89).trans (k84.trans (hk3))) hσ hσ89 hQ
  · first | have f878 := (noteqE (rfl : x2.toInt = x2.toInt) (show (6 : Int32).toInt = 6 from by decide)).mp c73 | skip
    have f886 := K2.g_0_9 hτ
    exact sX12_order_j216 hN (by omega) (by omega) (by omega) (by have zx6 := (show (0 : Int32).toInt = 0 from by decide); omega) (hk0) (hk1) (hk2) (hk3) hσ hτ hQ
set_option maxHeartbeats 4000000 in
theorem sX12_order_j131 {N : Nat} (hN : 4294967400 ≤ N) {x1 : Int32} {x2 : Int32} {x3 : Int32} {Q : St → Prop} {σ0 σ τ : St} (hi0 : (τ.1 0 35).toInt = x1.toInt) (hi1 : x1.toInt = (τ.1 0 14).toInt - 1) (hi2 : 1 ≤ (τ.1 0 14).toInt) (hk0 : τ.1 0 36 = σ.1 0 36) (hk1 : τ.1 0 41 = σ.1 0 41) (hk2 : τ.1 0 50 = σ.1 0 50) (hk3 : τ.1 0 51 = σ.1 0 51) (hσ : K2 σ0 σ) (hτ : K2 σ0 τ) (hQ : ∀ τ : St, K2 σ0 τ → (τ.1 0 36 = σ.1 0 36 ∧ τ.1 0 41 = σ.1 0 41 ∧ τ.1 0 50 = σ.1 0 50 ∧ τ.1 0 51 = σ.1 0 51) → Q τ) : fX12_order_j131 N x1 x2 x3 Q τ := by
  unfold fX12_order_j131
  have f62 := tB x1
  have f63 := tB x2
  have f64 := tB x3
  have f65 := K2.g_0_14 hτ
  have f66 := K2.g_0_35 hτ
  exact sX12_order_j132 hN (by omega) (by omega) (by omega) (hk0) (hk1) (hk2) (hk3) hσ hτ hQ
set_option maxHeartbeats 4000000 in
theorem sX12_order_j110 {N : Nat} (hN : 4294967400 ≤ N) {x1 : Int32} {x2 : Int32} {x3 : Int32} {t0 : Int32} {Q : St → Prop} {σ0 σ τ : St} (hi0 : (τ.1 0 35).toInt = x1.toInt) (hi1 : x1.toInt = (τ.1 0 14).toInt - 1) (hi2 : 1 ≤ (τ.1 0 14).toInt) (hk0 : τ.1 0 36 = σ.1 0 36) (hk1 : τ.1 0 41 = σ.1 0 41) (hk2 : τ.1 0 50 = σ.1 0 50) (hk3 : τ.1 0 51 = σ.1 0 51) (hσ : K2 σ0 σ) (hτ : K2 σ0 τ) (hQ : ∀ τ : St, K2 σ0 τ → (τ.1 0 36 = σ.1 0 36 ∧ τ.1 0 41 = σ.1 0 41 ∧ τ.1 0 50 = σ.1 0 50 ∧ τ.1 0 51 = σ.1 0 51) → Q τ) : fX12_order_j110 N x1 x2 x3 t0 Q τ := by
  unfold fX12_order_j110
  have f53 := tB x1
  have f54 := tB x2
  have f55 := tB x3
  have f56 := tB t0
  have f57 := K2.g_0_14 hτ
  have f58 := K2.g_0_35 hτ
  refine ⟨fun c59 => ?_, fun c59 => ?_⟩
  · first | have f61 := (eqE (rfl : t0.toInt = t0.toInt) (show (0 : Int32).toInt = 0 from by decide)).mp c59 | skip
    exact sX12_order_j131 hN (by omega) (by omega) (by omega) (hk0) (hk1) (hk2) (hk3) hσ hτ hQ
  · first | have f900 := (noteqE (rfl : t0.toInt = t0.toInt) (show (0 : Int32).toInt = 0 from by decide)).mp c59 | skip
    refine ⟨fun c901 => ?_, fun c901 => ?_⟩
    · have f902 := K2.g_0_9 hτ
      first | have f903 := (eqE (rfl : (τ.1 0 9).toInt = (τ.1 0 9).toInt) (show (0 : Int32).toInt = 0 from by decide)).mp c901 | skip
      refine sX12_value hN hτ (fun r913 σ904 hσ904 kk912 p914 => ?_)
      obtain ⟨k905, k906, k907, k908, k909, k910, k911⟩ := kk912
      have f918 := tB r913
      have f919 := K2.g_0_35 hσ904
      have f920 := congrArg Int32.toInt k906
      have f922 := K2.g_0_14 hσ904
      have f923 := congrArg Int32.toInt k905
      exact sX12_order_j132 hN (by omega) (by omega) (by omega) (k908.trans (hk0)) (k909.trans (hk1)) (k910.trans (hk2)) (k911.trans (hk3)) hσ hσ904 hQ
    · have f926 := K2.g_0_9 hτ
      first | have f927 := (noteqE (rfl : (τ.1 0 9).toInt = (τ.1 0 9).toInt) (show (0 : Int32).toInt = 0 from by decide)).mp c901 | skip
      exact sX12_order_j131 hN (by omega) (by omega) (by omega) (hk0) (hk1) (hk2) (hk3) hσ hτ hQ
set_option maxHeartbeats 4000000 in
theorem sX12_order_j105 {N : Nat} (hN : 4294967400 ≤ N) {x1 : Int32} {x2 : Int32} {x3 : Int32} {Q : St → Prop} {σ0 σ τ : St} (hi0 : (τ.1 0 35).toInt = x1.toInt) (hi1 : x1.toInt = (τ.1 0 14).toInt - 1) (hi2 : 1 ≤ (τ.1 0 14).toInt) (hk0 : τ.1 0 36 = σ.1 0 36) (hk1 : τ.1 0 41 = σ.1 0 41) (hk2 : τ.1 0 50 = σ.1 0 50) (hk3 : τ.1 0 51 = σ.1 0 51) (hσ : K2 σ0 σ) (hτ : K2 σ0 τ) (hQ : ∀ τ : St, K2 σ0 τ → (τ.1 0 36 = σ.1 0 36 ∧ τ.1 0 41 = σ.1 0 41 ∧ τ.1 0 50 = σ.1 0 50 ∧ τ.1 0 51 = σ.1 0 51) → Q τ) : fX12_order_j105 N x1 x2 x3 Q τ := by
  unfold fX12_order_j105
  have f48 := tB x1
  have f49 := tB x2
  have f50 := tB x3
  have f51 := K2.g_0_14 hτ
  have f52 := K2.g_0_35 hτ
  exact sX12_order_j110 hN (by omega) (by omega) (by omega) (hk0) (hk1) (hk2) (hk3) hσ hτ hQ
set_option maxHeartbeats 4000000 in
theorem sX12_order_j75 {N : Nat} (hN : 4294967400 ≤ N) {x1 : Int32} {x2 : Int32} {t0 : Int32} {Q : St → Prop} {σ0 σ τ : St} (hi0 : (τ.1 0 35).toInt = x1.toInt) (hi1 : x1.toInt = (τ.1 0 14).toInt - 1) (hi2 : 1 ≤ (τ.1 0 14).toInt) (hk0 : τ.1 0 36 = σ.1 0 36) (hk1 : τ.1 0 41 = σ.1 0 41) (hk2 : τ.1 0 50 = σ.1 0 50) (hk3 : τ.1 0 51 = σ.1 0 51) (hσ : K2 σ0 σ) (hτ : K2 σ0 τ) (hQ : ∀ τ : St, K2 σ0 τ → (τ.1 0 36 = σ.1 0 36 ∧ τ.1 0 41 = σ.1 0 41 ∧ τ.1 0 50 = σ.1 0 50 ∧ τ.1 0 51 = σ.1 0 51) → Q τ) : fX12_order_j75 N x1 x2 t0 Q τ := by
  unfold fX12_order_j75
  have f40 := tB x1
  have f41 := tB x2
  have f42 := tB t0
  have f43 := K2.g_0_14 hτ
  have f44 := K2.g_0_35 hτ
  refine ⟨fun c45 => ?_, fun c45 => ?_⟩
  · first | have f47 := (eqE (rfl : x2.toInt = x2.toInt) (show (4 : Int32).toInt = 4 from by decide)).mp c45 | skip
    exact sX12_order_j105 hN (by omega) (by omega) (by omega) (hk0) (hk1) (hk2) (hk3) hσ hτ hQ
  · first | have f947 := (noteqE (rfl : x2.toInt = x2.toInt) (show (4 : Int32).toInt = 4 from by decide)).mp c45 | skip
    refine ⟨fun c948 => ?_, fun c948 => ?_⟩
    · first | have f950 := (eqE (rfl : x2.toInt = x2.toInt) (show (8 : Int32).toInt = 8 from by decide)).mp c948 | skip
      exact sX12_order_j105 hN (by omega) (by omega) (by omega) (hk0) (hk1) (hk2) (hk3) hσ hτ hQ
    · first | have f958 := (noteqE (rfl : x2.toInt = x2.toInt) (show (8 : Int32).toInt = 8 from by decide)).mp c948 | skip
      refine ⟨fun c959 => ?_, fun c959 => ?_⟩
      · first | have f961 := (eqE (rfl : x2.toInt = x2.toInt) (show (9 : Int32).toInt = 9 from by decide)).mp c959 | skip
        exact sX12_order_j105 hN (by omega) (by omega) (by omega) (hk0) (hk1) (hk2) (hk3) hσ hτ hQ
      · first | have f969 := (noteqE (rfl : x2.toInt = x2.toInt) (show (9 : Int32).toInt = 9 from by decide)).mp c959 | skip
        refine ⟨fun c970 => ?_, fun c970 => ?_⟩
        · first | have f972 := (eqE (rfl : x2.toInt = x2.toInt) (show (12 : Int32).toInt = 12 from by decide)).mp c970 | skip
          exact sX12_order_j105 hN (by omega) (by omega) (by omega) (hk0) (hk1) (hk2) (hk3) hσ hτ hQ
        · first | have f980 := (noteqE (rfl : x2.toInt = x2.toInt) (show (12 : Int32).toInt = 12 from by decide)).mp c970 | skip
          refine ⟨fun c981 => ?_, fun c981 => ?_⟩
          · first | have f983 := (eqE (rfl : x2.toInt = x2.toInt) (show (15 : Int32).toInt = 15 from by decide)).mp c981 | skip
            exact sX12_order_j105 hN (by omega) (by omega) (by omega) (hk0) (hk1) (hk2) (hk3) hσ hτ hQ
          · first | have f991 := (noteqE (rfl : x2.toInt = x2.toInt) (show (15 : Int32).toInt = 15 from by decide)).mp c981 | skip
            exact sX12_order_j110 hN (by omega) (by omega) (by omega) (hk0) (hk1) (hk2) (hk3) hσ hτ hQ
set_option maxHeartbeats 4000000 in
theorem sX12_order_j74 {N : Nat} (hN : 4294967400 ≤ N) {x1 : Int32} {x2 : Int32} {Q : St → Prop} {σ0 σ τ : St} (hi0 : (τ.1 0 35).toInt = x1.toInt) (hi1 : x1.toInt = (τ.1 0 14).toInt - 1) (hi2 : 1 ≤ (τ.1 0 14).toInt) (hk0 : τ.1 0 36 = σ.1 0 36) (hk1 : τ.1 0 41 = σ.1 0 41) (hk2 : τ.1 0 50 = σ.1 0 50) (hk3 : τ.1 0 51 = σ.1 0 51) (hσ : K2 σ0 σ) (hτ : K2 σ0 τ) (hQ : ∀ τ : St, K2 σ0 τ → (τ.1 0 36 = σ.1 0 36 ∧ τ.1 0 41 = σ.1 0 41 ∧ τ.1 0 50 = σ.1 0 50 ∧ τ.1 0 51 = σ.1 0 51) → Q τ) : fX12_order_j74 N x1 x2 Q τ := by
  unfold fX12_order_j74
  have f36 := tB x1
  have f37 := tB x2
  have f38 := K2.g_0_14 hτ
  have f39 := K2.g_0_35 hτ
  exact sX12_order_j75 hN (by omega) (by omega) (by omega) (hk0) (hk1) (hk2) (hk3) hσ hτ hQ
set_option maxHeartbeats 4000000 in
theorem sX12_order_j54 {N : Nat} (hN : 4294967400 ≤ N) {x1 : Int32} {x2 : Int32} {Q : St → Prop} {σ0 σ τ : St} (hi0 : (τ.1 0 35).toInt = x1.toInt) (hi1 : x1.toInt = (τ.1 0 14).toInt - 1) (hi2 : 1 ≤ (τ.1 0 14).toInt) (hk0 : τ.1 0 36 = σ.1 0 36) (hk1 : τ.1 0 41 = σ.1 0 41) (hk2 : τ.1 0 50 = σ.1 0 50) (hk3 : τ.1 0 51 = σ.1 0 51) (hσ : K2 σ0 σ) (hτ : K2 σ0 τ) (hQ : ∀ τ : St, K2 σ0 τ → (τ.1 0 36 = σ.1 0 36 ∧ τ.1 0 41 = σ.1 0 41 ∧ τ.1 0 50 = σ.1 0 50 ∧ τ.1 0 51 = σ.1 0 51) → Q τ) : fX12_order_j54 N x1 x2 Q τ := by
  unfold fX12_order_j54
  have f29 := tB x1
  have f30 := tB x2
  have f31 := K2.g_0_14 hτ
  have f32 := K2.g_0_35 hτ
  refine ⟨fun c33 => ?_, fun c33 => ?_⟩
  · first | have f35 := (leE (show (16 : Int32).toInt = 16 from by decide) (rfl : x2.toInt = x2.toInt)).mp c33 | skip
    exact sX12_order_j74 hN (by omega) (by omega) (by omega) (hk0) (hk1) (hk2) (hk3) hσ hτ hQ
  · first | have f1009 := (notleE (show (16 : Int32).toInt = 16 from by decide) (rfl : x2.toInt = x2.toInt)).mp c33 | skip
    refine ⟨fun c1010 => ?_, fun c1010 => ?_⟩
    · have f1011 := K2.g_0_9 hτ
      first | have f1012 := (eqE (rfl : (τ.1 0 9).toInt = (τ.1 0 9).toInt) (show (0 : Int32).toInt = 0 from by decide)).mp c1010 | skip
      refine sX12_value hN hτ (fun r1022 σ1013 hσ1013 kk1021 p1023 => ?_)
      obtain ⟨k1014, k1015, k1016, k1017, k1018, k1019, k1020⟩ := kk1021
      have f1026 := tB r1022
      have f1027 := K2.g_0_35 hσ1013
      have f1028 := congrArg Int32.toInt k1015
      have f1030 := K2.g_0_14 hσ1013
      have f1031 := congrArg Int32.toInt k1014
      exact sX12_order_j75 hN (by omega) (by omega) (by omega) (k1017.trans (hk0)) (k1018.trans (hk1)) (k1019.trans (hk2)) (k1020.trans (hk3)) hσ hσ1013 hQ
    · have f1034 := K2.g_0_9 hτ
      first | have f1035 := (noteqE (rfl : (τ.1 0 9).toInt = (τ.1 0 9).toInt) (show (0 : Int32).toInt = 0 from by decide)).mp c1010 | skip
      exact sX12_order_j74 hN (by omega) (by omega) (by omega) (hk0) (hk1) (hk2) (hk3) hσ hτ hQ
set_option maxHeartbeats 4000000 in
theorem sX12_order {N : Nat} (hN : 4294967400 ≤ N) {x1 : Int32} {Q : St → Prop} {σ0 σ : St} (hx0 : x1.toInt = (σ.1 0 14).toInt - 1) (hs0_14 : 1 ≤ (σ.1 0 14).toInt ∧ (σ.1 0 14).toInt ≤ 40) (hσ : K2 σ0 σ) (hQ : ∀ τ : St, K2 σ0 τ → (τ.1 0 36 = σ.1 0 36 ∧ τ.1 0 41 = σ.1 0 41 ∧ τ.1 0 50 = σ.1 0 50 ∧ τ.1 0 51 = σ.1 0 51) → Q τ) : fX12_order N x1 Q σ := by
  unfold fX12_order
  intro σ1 eσ1
  have f2 := tB x1
  have hσ1 : K2 σ0 σ1 := by rw [eσ1]; exact hσ.u (Rg2.r_0_35 (leP (rfl : x1.toInt = x1.toInt) (by omega)) (geP (rfl : x1.toInt = x1.toInt) (by omega))) (fun q => absurd q.2 (by decide)) (fun q => absurd q.2 (by decide)) ⟨⟨by decide, by decide⟩, fun q => absurd q.2 (by decide)⟩
  have g4 : vp_in x1 40 := inE (rfl : x1.toInt = x1.toInt) (by omega) (by omega)
  refine ⟨g4, ?_⟩
  intro v5 ev5
  intro σ6 eσ6
  have hσ6 : K2 σ0 σ6 := by rw [eσ6]; exact hσ1.l
  have f7 := tB64 (σ6.2 0 34)
  refine sX12_read hN hσ6 (fun r17 σ8 hσ8 kk16 p18 => ?_)
  obtain ⟨k9, k10, k11, k12, k13, k14, k15⟩ := kk16
  intro v19 ev19
  intro σ20 eσ20
  have hσ20 : K2 σ0 σ20 := by rw [eσ20]; exact hσ8.l
  refine ⟨fun c21 => ?_, fun c21 => ?_⟩
  · have f22 := K2.g_0_9 hσ20
    have f23 := congrArg Int32.toInt (kq2 (a := 0) (b := 9) eσ20)
    have f24 := K2.g_0_9 hσ8
    first | have f25 := (eqE (rfl : (σ20.1 0 9).toInt = (σ20.1 0 9).toInt) (show (0 : Int32).toInt = 0 from by decide)).mp c21 | skip
    refine ⟨fun c26 => ?_, fun c26 => ?_⟩
    · have f27 := tB r17
      first | have f28 := (leE (rfl : r17.toInt = r17.toInt) (show (17 : Int32).toInt = 17 from by decide)).mp c26 | skip
      have f1043 := K2.g_0_35 hσ20
      have f1044 := congrArg Int32.toInt (kq2 (a := 0) (b := 35) eσ20)
      have f1045 := K2.g_0_35 hσ8
      have f1046 := congrArg Int32.toInt k10
      have f1047 := K2.g_0_35 hσ6
      have f1048 := congrArg Int32.toInt (kq2 (a := 0) (b := 35) eσ6)
      have f1049 := K2.g_0_35 hσ1
      have q1050 : σ1.1 0 35 = x1 := by rw [eσ1, u1_at]; exact if_pos rfl
      first | have f1052 : (σ1.1 0 35).toInt = x1.toInt := (congrArg Int32.toInt q1050).trans (rfl : x1.toInt = x1.toInt) | skip
      have f1053 := K2.g_0_14 hσ20
      have f1054 := congrArg Int32.toInt (kq2 (a := 0) (b := 14) eσ20)
      have f1055 := K2.g_0_14 hσ8
      have f1056 := congrArg Int32.toInt k9
      have f1057 := K2.g_0_14 hσ6
      have f1058 := congrArg Int32.toInt (kq2 (a := 0) (b := 14) eσ6)
      have f1059 := K2.g_0_14 hσ1
      have q1060 : σ1.1 0 14 = σ.1 0 14 := by rw [eσ1, u1_at]; exact if_neg (by decide)
      have f1061 := congrArg Int32.toInt q1060
      have f1062 := K2.g_0_14 hσ
      exact sX12_order_j54 hN (by omega) (by omega) (by omega) ((kq2 (a := 0) (b := 36) eσ20).trans (k12.trans ((kq2 (a := 0) (b := 36) eσ6).trans ((kq (a := 0) (b := 36) eσ1 (fun q => absurd q.2 (by decide))))))) ((kq2 (a := 0) (b := 41) eσ20).trans (k13.trans ((kq2 (a := 0) (b := 41) eσ6).trans ((kq (a := 0) (b := 41) eσ1 (fun q => absurd q.2 (by decide))))))) ((kq2 (a := 0) (b := 50) eσ20).trans (k14.trans ((kq2 (a := 0) (b := 50) eσ6).trans ((kq (a := 0) (b := 50) eσ1 (fun q => absurd q.2 (by decide))))))) ((kq2 (a := 0) (b := 51) eσ20).trans (k15.trans ((kq2 (a := 0) (b := 51) eσ6).trans ((kq (a := 0) (b := 51) eσ1 (fun q => absurd q.2 (by decide))))))) hσ hσ20 hQ
    · have f1064 := tB r17
      first | have f1065 := (notleE (rfl : r17.toInt = r17.toInt) (show (17 : Int32).toInt = 17 from by decide)).mp c26 | skip
      try unfold fX12_fails
      refine ⟨fun c1066 => ?_, fun c1066 => ?_⟩
      · first | have f1068 := (eqE (rfl : (σ20.1 0 9).toInt = (σ20.1 0 9).toInt) (show (0 : Int32).toInt = 0 from by decide)).mp c1066 | skip
        try unfold fX12_fails_j16
        intro σ1069 eσ1069
        have hσ1069 : K2 σ0 σ1069 := by rw [eσ1069]; exact hσ20.u (Rg2.r_0_9 (leP (show (6 : Int32).toInt = 6 from by decide) (by omega)) (geP (show (6 : Int32).toInt = 6 from by decide) (by omega))) (fun q => absurd q.2 (by decide)) (fun q => absurd q.2 (by decide)) ⟨⟨by decide, by decide⟩, fun q => absurd q.2 (by decide)⟩
        try dsimp only
        have f1072 := K2.g_0_35 hσ1069
        have q1073 : σ1069.1 0 35 = σ20.1 0 35 := by rw [eσ1069, u1_at]; exact if_neg (by decide)
        have f1074 := congrArg Int32.toInt q1073
        have f1075 := K2.g_0_35 hσ20
        have f1076 := congrArg Int32.toInt (kq2 (a := 0) (b := 35) eσ20)
        have f1077 := K2.g_0_35 hσ8
        have f1078 := congrArg Int32.toInt k10
        have f1079 := K2.g_0_35 hσ6
        have f1080 := congrArg Int32.toInt (kq2 (a := 0) (b := 35) eσ6)
        have f1081 := K2.g_0_35 hσ1
        have q1082 : σ1.1 0 35 = x1 := by rw [eσ1, u1_at]; exact if_pos rfl
        first | have f1084 : (σ1.1 0 35).toInt = x1.toInt := (congrArg Int32.toInt q1082).trans (rfl : x1.toInt = x1.toInt) | skip
        have f1085 := K2.g_0_14 hσ1069
        have q1086 : σ1069.1 0 14 = σ20.1 0 14 := by rw [eσ1069, u1_at]; exact if_neg (by decide)
        have f1087 := congrArg Int32.toInt q1086
        have f1088 := K2.g_0_14 hσ20
        have f1089 := congrArg Int32.toInt (kq2 (a := 0) (b := 14) eσ20)
        have f1090 := K2.g_0_14 hσ8
        have f1091 := congrArg Int32.toInt k9
        have f1092 := K2.g_0_14 hσ6
        have f1093 := congrArg Int32.toInt (kq2 (a := 0) (b := 14) eσ6)
        have f1094 := K2.g_0_14 hσ1
        have q1095 : σ1.1 0 14 = σ.1 0 14 := by rw [eσ1, u1_at]; exact if_neg (by decide)
        have f1096 := congrArg Int32.toInt q1095
        have f1097 := K2.g_0_14 hσ
        exact sX12_order_j54 hN (by omega) (by omega) (by omega) ((kq (a := 0) (b := 36) eσ1069 (fun q => absurd q.2 (by decide))).trans ((kq2 (a := 0) (b := 36) eσ20).trans (k12.trans ((kq2 (a := 0) (b := 36) eσ6).trans ((kq (a := 0) (b := 36) eσ1 (fun q => absurd q.2 (by decide)))))))) ((kq (a := 0) (b := 41) eσ1069 (fun q => absurd q.2 (by decide))).trans ((kq2 (a := 0) (b := 41) eσ20).trans (k13.trans ((kq2 (a := 0) (b := 41) eσ6).trans ((kq (a := 0) (b := 41) eσ1 (fun q => absurd q.2 (by decide)))))))) ((kq (a := 0) (b := 50) eσ1069 (fun q => absurd q.2 (by decide))).trans ((kq2 (a := 0) (b := 50) eσ20).trans (k14.trans ((kq2 (a := 0) (b := 50) eσ6).trans ((kq (a := 0) (b := 50) eσ1 (fun q => absurd q.2 (by decide)))))))) ((kq (a := 0) (b := 51) eσ1069 (fun q => absurd q.2 (by decide))).trans ((kq2 (a := 0) (b := 51) eσ20).trans (k15.trans ((kq2 (a := 0) (b := 51) eσ6).trans ((kq (a := 0) (b := 51) eσ1 (fun q => absurd q.2 (by decide)))))))) hσ hσ1069 hQ
      · first | have f1100 := (noteqE (rfl : (σ20.1 0 9).toInt = (σ20.1 0 9).toInt) (show (0 : Int32).toInt = 0 from by decide)).mp c1066 | skip
        try unfold fX12_fails_j16
        intro σ1101 eσ1101
        have hσ1101 : K2 σ0 σ1101 := by rw [eσ1101]; exact hσ20.u (Rg2.r_0_9 (leP (rfl : (σ20.1 0 9).toInt = (σ20.1 0 9).toInt) (by omega)) (geP (rfl : (σ20.1 0 9).toInt = (σ20.1 0 9).toInt) (by omega))) (fun q => absurd q.2 (by decide)) (fun q => absurd q.2 (by decide)) ⟨⟨by decide, by decide⟩, fun q => absurd q.2 (by decide)⟩
        try dsimp only
        have f1105 := K2.g_0_35 hσ1101
        have q1106 : σ1101.1 0 35 = σ20.1 0 35 := by rw [eσ1101, u1_at]; exact if_neg (by decide)
        have f1107 := congrArg Int32.toInt q1106
        have f1108 := K2.g_0_35 hσ20
        have f1109 := congrArg Int32.toInt (kq2 (a := 0) (b := 35) eσ20)
        have f1110 := K2.g_0_35 hσ8
        have f1111 := congrArg Int32.toInt k10
        have f1112 := K2.g_0_35 hσ6
        have f1113 := congrArg Int32.toInt (kq2 (a := 0) (b := 35) eσ6)
        have f1114 := K2.g_0_35 hσ1
        have q1115 : σ1.1 0 35 = x1 := by rw [eσ1, u1_at]; exact if_pos rfl
        first | have f1117 : (σ1.1 0 35).toInt = x1.toInt := (congrArg Int32.toInt q1115).trans (rfl : x1.toInt = x1.toInt) | skip
        have f1118 := K2.g_0_14 hσ1101
        have q1119 : σ1101.1 0 14 = σ20.1 0 14 := by rw [eσ1101, u1_at]; exact if_neg (by decide)
        have f1120 := congrArg Int32.toInt q1119
        have f1121 := K2.g_0_14 hσ20
        have f1122 := congrArg Int32.toInt (kq2 (a := 0) (b := 14) eσ20)
        have f1123 := K2.g_0_14 hσ8
        have f1124 := congrArg Int32.toInt k9
        have f1125 := K2.g_0_14 hσ6
        have f1126 := congrArg Int32.toInt (kq2 (a := 0) (b := 14) eσ6)
        have f1127 := K2.g_0_14 hσ1
        have q1128 : σ1.1 0 14 = σ.1 0 14 := by rw [eσ1, u1_at]; exact if_neg (by decide)
        have f1129 := congrArg Int32.toInt q1128
        have f1130 := K2.g_0_14 hσ
        exact sX12_order_j54 hN (by omega) (by omega) (by omega) ((kq (a := 0) (b := 36) eσ1101 (fun q => absurd q.2 (by decide))).trans ((kq2 (a := 0) (b := 36) eσ20).trans (k12.trans ((kq2 (a := 0) (b := 36) eσ6).trans ((kq (a := 0) (b := 36) eσ1 (fun q => absurd q.2 (by decide)))))))) ((kq (a := 0) (b := 41) eσ1101 (fun q => absurd q.2 (by decide))).trans ((kq2 (a := 0) (b := 41) eσ20).trans (k13.trans ((kq2 (a := 0) (b := 41) eσ6).trans ((kq (a := 0) (b := 41) eσ1 (fun q => absurd q.2 (by decide)))))))) ((kq (a := 0) (b := 50) eσ1101 (fun q => absurd q.2 (by decide))).trans ((kq2 (a := 0) (b := 50) eσ20).trans (k14.trans ((kq2 (a := 0) (b := 50) eσ6).trans ((kq (a := 0) (b := 50) eσ1 (fun q => absurd q.2 (by decide)))))))) ((kq (a := 0) (b := 51) eσ1101 (fun q => absurd q.2 (by decide))).trans ((kq2 (a := 0) (b := 51) eσ20).trans (k15.trans ((kq2 (a := 0) (b := 51) eσ6).trans ((kq (a := 0) (b := 51) eσ1 (fun q => absurd q.2 (by decide)))))))) hσ hσ1101 hQ
  · have f1132 := K2.g_0_9 hσ20
    have f1133 := congrArg Int32.toInt (kq2 (a := 0) (b := 9) eσ20)
    have f1134 := K2.g_0_9 hσ8
    first | have f1135 := (noteqE (rfl : (σ20.1 0 9).toInt = (σ20.1 0 9).toInt) (show (0 : Int32).toInt = 0 from by decide)).mp c21 | skip
    have f1137 := tB r17
    have f1138 := K2.g_0_35 hσ20
    have f1139 := congrArg Int32.toInt (kq2 (a := 0) (b := 35) eσ20)
    have f1140 := K2.g_0_35 hσ8
    have f1141 := congrArg Int32.toInt k10
    have f1142 := K2.g_0_35 hσ6
    have f1143 := congrArg Int32.toInt (kq2 (a := 0) (b := 35) eσ6)
    have f1144 := K2.g_0_35 hσ1
    have q1145 : σ1.1 0 35 = x1 := by rw [eσ1, u1_at]; exact if_pos rfl
    first | have f1147 : (σ1.1 0 35).toInt = x1.toInt := (congrArg Int32.toInt q1145).trans (rfl : x1.toInt = x1.toInt) | skip
    have f1148 := K2.g_0_14 hσ20
    have f1149 := congrArg Int32.toInt (kq2 (a := 0) (b := 14) eσ20)
    have f1150 := K2.g_0_14 hσ8
    have f1151 := congrArg Int32.toInt k9
    have f1152 := K2.g_0_14 hσ6
    have f1153 := congrArg Int32.toInt (kq2 (a := 0) (b := 14) eσ6)
    have f1154 := K2.g_0_14 hσ1
    have q1155 : σ1.1 0 14 = σ.1 0 14 := by rw [eσ1, u1_at]; exact if_neg (by decide)
    have f1156 := congrArg Int32.toInt q1155
    have f1157 := K2.g_0_14 hσ
    exact sX12_order_j54 hN (by omega) (by omega) (by omega) ((kq2 (a := 0) (b := 36) eσ20).trans (k12.trans ((kq2 (a := 0) (b := 36) eσ6).trans ((kq (a := 0) (b := 36) eσ1 (fun q => absurd q.2 (by decide))))))) ((kq2 (a := 0) (b := 41) eσ20).trans (k13.trans ((kq2 (a := 0) (b := 41) eσ6).trans ((kq (a := 0) (b := 41) eσ1 (fun q => absurd q.2 (by decide))))))) ((kq2 (a := 0) (b := 50) eσ20).trans (k14.trans ((kq2 (a := 0) (b := 50) eσ6).trans ((kq (a := 0) (b := 50) eσ1 (fun q => absurd q.2 (by decide))))))) ((kq2 (a := 0) (b := 51) eσ20).trans (k15.trans ((kq2 (a := 0) (b := 51) eσ6).trans ((kq (a := 0) (b := 51) eσ1 (fun q => absurd q.2 (by decide))))))) hσ hσ20 hQ
set_option maxHeartbeats 4000000 in
theorem sX12_thing_j174 {N : Nat} (hN : 4294967400 ≤ N) {x3 : Int32} {x4 : Int32} {Q : St → Prop} {σ0 σ τ : St} (hi0 : ((0 ≤ x4.toInt ∧ x4.toInt ≤ 4) ∨ ¬ (τ.1 0 9).toInt = 0)) (hk0 : τ.1 0 35 = σ.1 0 35) (hk1 : τ.1 0 24 = σ.1 0 24) (hk2 : τ.1 0 36 = σ.1 0 36) (hk3 : τ.1 0 41 = σ.1 0 41) (hk4 : τ.1 0 50 = σ.1 0 50) (hk5 : τ.1 0 51 = σ.1 0 51) (hσ : K2 σ0 σ) (hτ : K2 σ0 τ) (hQ : ∀ τ : St, K2 σ0 τ → (τ.1 0 35 = σ.1 0 35 ∧ τ.1 0 24 = σ.1 0 24 ∧ τ.1 0 36 = σ.1 0 36 ∧ τ.1 0 41 = σ.1 0 41 ∧ τ.1 0 50 = σ.1 0 50 ∧ τ.1 0 51 = σ.1 0 51) → Q τ) : fX12_thing_j174 N x3 x4 Q τ := by
  unfold fX12_thing_j174
  have f109 := tB x3
  have f110 := tB x4
  have f111 := K2.g_0_9 hτ
  refine ⟨fun c112 => ?_, fun c112 => ?_⟩
  · first | have f114 := (eqE (rfl : (τ.1 0 9).toInt = (τ.1 0 9).toInt) (show (0 : Int32).toInt = 0 from by decide)).mp c112 | skip
    have f118 := K2.g_0_14 hτ
    refine sX12_called hN ⟨leP (rfl : x4.toInt = x4.toInt) (by omega), geP (rfl : x4.toInt = x4.toInt) (by omega)⟩ (by have za3 := (show (255 : Int32).toInt = 255 from by decide); omega) hτ (fun σ117 hσ117 kk125 => ?_)
    obtain ⟨k119, k120, k121, k122, k123, k124⟩ := kk125
    exact hQ _ hσ117 (⟨k119.trans (hk0), k120.trans (hk1), k121.trans (hk2), k122.trans (hk3), k123.trans (hk4), k124.trans (hk5)⟩)
  · first | have f127 := (noteqE (rfl : (τ.1 0 9).toInt = (τ.1 0 9).toInt) (show (0 : Int32).toInt = 0 from by decide)).mp c112 | skip
    exact hQ _ hτ (⟨hk0, hk1, hk2, hk3, hk4, hk5⟩)
set_option maxHeartbeats 4000000 in
theorem sX12_thing_j149 {N : Nat} (hN : 4294967400 ≤ N) {x3 : Int32} {x4 : Int32} {t0 : Int32} {Q : St → Prop} {σ0 σ τ : St} (hi0 : ((0 ≤ x4.toInt ∧ x4.toInt ≤ 4) ∨ ¬ (τ.1 0 9).toInt = 0)) (hk0 : τ.1 0 35 = σ.1 0 35) (hk1 : τ.1 0 24 = σ.1 0 24) (hk2 : τ.1 0 36 = σ.1 0 36) (hk3 : τ.1 0 41 = σ.1 0 41) (hk4 : τ.1 0 50 = σ.1 0 50) (hk5 : τ.1 0 51 = σ.1 0 51) (hσ : K2 σ0 σ) (hτ : K2 σ0 τ) (hQ : ∀ τ : St, K2 σ0 τ → (τ.1 0 35 = σ.1 0 35 ∧ τ.1 0 24 = σ.1 0 24 ∧ τ.1 0 36 = σ.1 0 36 ∧ τ.1 0 41 = σ.1 0 41 ∧ τ.1 0 50 = σ.1 0 50 ∧ τ.1 0 51 = σ.1 0 51) → Q τ) : fX12_thing_j149 N x3 x4 t0 Q τ := by
  unfold fX12_thing_j149
  have f97 := tB x3
  have f98 := tB x4
  have f99 := tB t0
  have f100 := K2.g_0_9 hτ
  refine ⟨fun c101 => ?_, fun c101 => ?_⟩
  · first | have f103 := (eqE (rfl : (τ.1 0 9).toInt = (τ.1 0 9).toInt) (show (0 : Int32).toInt = 0 from by decide)).mp c101 | skip
    try unfold fX12_isString
    refine ⟨fun c104 => ?_, fun c104 => ?_⟩
    · first | have f106 := (ltE (rfl : t0.toInt = t0.toInt) (show (224 : Int32).toInt = 224 from by decide)).mp c104 | skip
      try dsimp only
      refine ⟨fun c107 => ?_, fun c107 => ?_⟩
      · first | have f108 := (eqE (show (0 : Int32).toInt = 0 from by decide) (show (0 : Int32).toInt = 0 from by decide)).mp c107 | skip
        exact sX12_thing_j174 hN (by omega) (hk0) (hk1) (hk2) (hk3) (hk4) (hk5) hσ hτ hQ
      · first | have f131 := (noteqE (show (0 : Int32).toInt = 0 from by decide) (show (0 : Int32).toInt = 0 from by decide)).mp c107 | skip
        refine sX12_prints hN hτ (fun σ133 hσ133 kk140 => ?_)
        obtain ⟨k134, k135, k136, k137, k138, k139⟩ := kk140
        exact hQ _ hσ133 (⟨k134.trans (hk0), k135.trans (hk1), k136.trans (hk2), k137.trans (hk3), k138.trans (hk4), k139.trans (hk5)⟩)
    · first | have f142 := (notltE (rfl : t0.toInt = t0.toInt) (show (224 : Int32).toInt = 224 from by decide)).mp c104 | skip
      refine ⟨fun c143 => ?_, fun c143 => ?_⟩
      · first | have f145 := (ltE (show (226 : Int32).toInt = 226 from by decide) (rfl : t0.toInt = t0.toInt)).mp c143 | skip
        try dsimp only
        refine ⟨fun c146 => ?_, fun c146 => ?_⟩
        · first | have f147 := (eqE (show (0 : Int32).toInt = 0 from by decide) (show (0 : Int32).toInt = 0 from by decide)).mp c146 | skip
          exact sX12_thing_j174 hN (by omega) (hk0) (hk1) (hk2) (hk3) (hk4) (hk5) hσ hτ hQ
        · first | have f151 := (noteqE (show (0 : Int32).toInt = 0 from by decide) (show (0 : Int32).toInt = 0 from by decide)).mp c146 | skip
          refine sX12_prints hN hτ (fun σ153 hσ153 kk160 => ?_)
          obtain ⟨k154, k155, k156, k157, k158, k159⟩ := kk160
          exact hQ _ hσ153 (⟨k154.trans (hk0), k155.trans (hk1), k156.trans (hk2), k157.trans (hk3), k158.trans (hk4), k159.trans (hk5)⟩)
      · first | have f162 := (notltE (show (226 : Int32).toInt = 226 from by decide) (rfl : t0.toInt = t0.toInt)).mp c143 | skip
        try dsimp only
        refine ⟨fun c163 => ?_, fun c163 => ?_⟩
        · first | have f164 := (eqE (show (1 : Int32).toInt = 1 from by decide) (show (0 : Int32).toInt = 0 from by decide)).mp c163 | skip
          exact sX12_thing_j174 hN (by omega) (hk0) (hk1) (hk2) (hk3) (hk4) (hk5) hσ hτ hQ
        · first | have f168 := (noteqE (show (1 : Int32).toInt = 1 from by decide) (show (0 : Int32).toInt = 0 from by decide)).mp c163 | skip
          refine sX12_prints hN hτ (fun σ170 hσ170 kk177 => ?_)
          obtain ⟨k171, k172, k173, k174, k175, k176⟩ := kk177
          exact hQ _ hσ170 (⟨k171.trans (hk0), k172.trans (hk1), k173.trans (hk2), k174.trans (hk3), k175.trans (hk4), k176.trans (hk5)⟩)
  · first | have f179 := (noteqE (rfl : (τ.1 0 9).toInt = (τ.1 0 9).toInt) (show (0 : Int32).toInt = 0 from by decide)).mp c101 | skip
    exact sX12_thing_j174 hN (by omega) (hk0) (hk1) (hk2) (hk3) (hk4) (hk5) hσ hτ hQ
set_option maxHeartbeats 4000000 in
theorem sX12_thing_j132 {N : Nat} (hN : 4294967400 ≤ N) {x3 : Int32} {x4 : Int32} {Q : St → Prop} {σ0 σ τ : St} (hi0 : ((0 ≤ x4.toInt ∧ x4.toInt ≤ 4) ∨ ¬ (τ.1 0 9).toInt = 0)) (hk0 : τ.1 0 35 = σ.1 0 35) (hk1 : τ.1 0 24 = σ.1 0 24) (hk2 : τ.1 0 36 = σ.1 0 36) (hk3 : τ.1 0 41 = σ.1 0 41) (hk4 : τ.1 0 50 = σ.1 0 50) (hk5 : τ.1 0 51 = σ.1 0 51) (hσ : K2 σ0 σ) (hτ : K2 σ0 τ) (hQ : ∀ τ : St, K2 σ0 τ → (τ.1 0 35 = σ.1 0 35 ∧ τ.1 0 24 = σ.1 0 24 ∧ τ.1 0 36 = σ.1 0 36 ∧ τ.1 0 41 = σ.1 0 41 ∧ τ.1 0 50 = σ.1 0 50 ∧ τ.1 0 51 = σ.1 0 51) → Q τ) : fX12_thing_j132 N x3 x4 Q τ := by
  unfold fX12_thing_j132
  have f79 := tB x3
  have f80 := tB x4
  have f81 := K2.g_0_9 hτ
  refine ⟨fun c82 => ?_, fun c82 => ?_⟩
  · first | have f84 := (eqE (rfl : (τ.1 0 9).toInt = (τ.1 0 9).toInt) (show (0 : Int32).toInt = 0 from by decide)).mp c82 | skip
    refine sX12_read hN hτ (fun r95 σ86 hσ86 kk94 p96 => ?_)
    obtain ⟨k87, k88, k89, k90, k91, k92, k93⟩ := kk94
    have f185 := tB r95
    have f186 := K2.g_0_9 hσ86
    exact sX12_thing_j149 hN (by omega) (k88.trans (hk0)) (k89.trans (hk1)) (k90.trans (hk2)) (k91.trans (hk3)) (k92.trans (hk4)) (k93.trans (hk5)) hσ hσ86 hQ
  · first | have f188 := (noteqE (rfl : (τ.1 0 9).toInt = (τ.1 0 9).toInt) (show (0 : Int32).toInt = 0 from by decide)).mp c82 | skip
    exact sX12_thing_j149 hN (by omega) (hk0) (hk1) (hk2) (hk3) (hk4) (hk5) hσ hτ hQ
set_option maxHeartbeats 4000000 in
theorem sX12_thing_j84 {N : Nat} (hN : 4294967400 ≤ N) {x1 : Int32} {x3 : Int32} {x4 : Int32} {Q : St → Prop} {σ0 σ τ : St} (hi0 : ((0 ≤ x4.toInt ∧ x4.toInt ≤ 4) ∨ ¬ (τ.1 0 9).toInt = 0)) (hk0 : τ.1 0 35 = σ.1 0 35) (hk1 : τ.1 0 24 = σ.1 0 24) (hk2 : τ.1 0 36 = σ.1 0 36) (hk3 : τ.1 0 41 = σ.1 0 41) (hk4 : τ.1 0 50 = σ.1 0 50) (hk5 : τ.1 0 51 = σ.1 0 51) (hσ : K2 σ0 σ) (hτ : K2 σ0 τ) (hQ : ∀ τ : St, K2 σ0 τ → (τ.1 0 35 = σ.1 0 35 ∧ τ.1 0 24 = σ.1 0 24 ∧ τ.1 0 36 = σ.1 0 36 ∧ τ.1 0 41 = σ.1 0 41 ∧ τ.1 0 50 = σ.1 0 50 ∧ τ.1 0 51 = σ.1 0 51) → Q τ) : fX12_thing_j84 N x1 x3 x4 Q τ := by
  unfold fX12_thing_j84
  have f52 := tB x1
  have f53 := tB x3
  have f54 := tB x4
  have f55 := K2.g_0_9 hτ
  refine lo1_i (fun (y56 : Int32) (ω : St) => K2 σ0 ω ∧ ω.1 0 14 = τ.1 0 14 ∧ ω.1 0 35 = τ.1 0 35 ∧ ω.1 0 24 = τ.1 0 24 ∧ ω.1 0 36 = τ.1 0 36 ∧ ω.1 0 41 = τ.1 0 41 ∧ ω.1 0 50 = τ.1 0 50 ∧ ω.1 0 51 = τ.1 0 51 ∧ 0 ≤ y56.toInt ∧ ((0 ≤ x4.toInt ∧ x4.toInt ≤ 4) ∨ ¬ (ω.1 0 9).toInt = 0)) (fun (y56 : Int32) (ω : St) => (2147483648 - y56.toInt).toNat) ?_ N (0 : Int32) τ ⟨hτ, rfl, rfl, rfl, rfl, rfl, rfl, rfl, by first | decide | (have z0 : (0 : Int32).toInt = 0 := (by decide); omega), by first | decide | (have z0 : (0 : Int32).toInt = 0 := (by decide); omega)⟩ (by have z0 : (0 : Int32).toInt = 0 := (by decide); (try dsimp only); omega)
  intro rr61 y64 σ63 hIσ63 ih62
  obtain ⟨hσ63, k65, k66, k67, k68, k69, k70, k71, i72, i73⟩ := hIσ63
  unfold fX12_thing_l87
  have f74 := tB y64
  refine ⟨fun c75 => ?_, fun c75 => ?_⟩
  · first | have f78 := (leE (rfl : x4.toInt = x4.toInt) (rfl : y64.toInt = y64.toInt)).mp c75 | skip
    have f194 := K2.g_0_9 hσ63
    exact sX12_thing_j132 hN (by omega) (k66.trans (hk0)) (k67.trans (hk1)) (k68.trans (hk2)) (k69.trans (hk3)) (k70.trans (hk4)) (k71.trans (hk5)) hσ hσ63 hQ
  · first | have f197 := (notleE (rfl : x4.toInt = x4.toInt) (rfl : y64.toInt = y64.toInt)).mp c75 | skip
    refine ⟨fun c198 => ?_, fun c198 => ?_⟩
    · have f199 := K2.g_0_9 hσ63
      first | have f200 := (eqE (rfl : (σ63.1 0 9).toInt = (σ63.1 0 9).toInt) (show (0 : Int32).toInt = 0 from by decide)).mp c198 | skip
      refine sX12_four hN hσ63 (fun r212 σ203 hσ203 kk211 p213 => ?_)
      obtain ⟨k204, k205, k206, k207, k208, k209, k210⟩ := kk211
      refine ⟨inE (rfl : y64.toInt = y64.toInt) (by omega) (by omega), ?_⟩
      intro σ215 eσ215
      have hσ215 : K2 σ0 σ215 := by rw [eσ215]; exact hσ203.u (Rg2.ra_15 _ _) (fun q => absurd q.1 (by decide)) (fun q => absurd q.1 (by decide)) ⟨⟨by decide, by decide⟩, fun q => absurd q.1 (by decide)⟩
      intro v216 ev216
      have f217 := tB v216
      first | have f219 : v216.toInt = (y64.toInt + (1)) := (congrArg Int32.toInt ev216).trans (aOkE (rfl : y64.toInt = y64.toInt) (show (1 : Int32).toInt = 1 from by decide) (by omega) (by omega)) | skip
      have f220 := K2.g_0_9 hσ215
      have q221 : σ215.1 0 9 = σ203.1 0 9 := by rw [eσ215]; exact congrFun (u1_ne (by decide)) 9
      have f222 := congrArg Int32.toInt q221
      have f223 := K2.g_0_9 hσ203
      exact ih62 v216 σ215 ⟨hσ215, (kq (a := 0) (b := 14) eσ215 (fun q => absurd q.1 (by decide))).trans (k204.trans (k65)), (kq (a := 0) (b := 35) eσ215 (fun q => absurd q.1 (by decide))).trans (k205.trans (k66)), (kq (a := 0) (b := 24) eσ215 (fun q => absurd q.1 (by decide))).trans (k206.trans (k67)), (kq (a := 0) (b := 36) eσ215 (fun q => absurd q.1 (by decide))).trans (k207.trans (k68)), (kq (a := 0) (b := 41) eσ215 (fun q => absurd q.1 (by decide))).trans (k208.trans (k69)), (kq (a := 0) (b := 50) eσ215 (fun q => absurd q.1 (by decide))).trans (k209.trans (k70)), (kq (a := 0) (b := 51) eσ215 (fun q => absurd q.1 (by decide))).trans (k210.trans (k71)), by omega, by omega⟩ (by (try dsimp only); omega)
    · have f224 := K2.g_0_9 hσ63
      first | have f225 := (noteqE (rfl : (σ63.1 0 9).toInt = (σ63.1 0 9).toInt) (show (0 : Int32).toInt = 0 from by decide)).mp c198 | skip
      exact sX12_thing_j132 hN (by omega) (k66.trans (hk0)) (k67.trans (hk1)) (k68.trans (hk2)) (k69.trans (hk3)) (k70.trans (hk4)) (k71.trans (hk5)) hσ hσ63 hQ
set_option maxHeartbeats 4000000 in
theorem sX12_thing_j57 {N : Nat} (hN : 4294967400 ≤ N) {x1 : Int32} {x3 : Int32} {t0 : Int32} {Q : St → Prop} {σ0 σ τ : St} (hk0 : τ.1 0 35 = σ.1 0 35) (hk1 : τ.1 0 24 = σ.1 0 24) (hk2 : τ.1 0 36 = σ.1 0 36) (hk3 : τ.1 0 41 = σ.1 0 41) (hk4 : τ.1 0 50 = σ.1 0 50) (hk5 : τ.1 0 51 = σ.1 0 51) (hσ : K2 σ0 σ) (hτ : K2 σ0 τ) (hQ : ∀ τ : St, K2 σ0 τ → (τ.1 0 35 = σ.1 0 35 ∧ τ.1 0 24 = σ.1 0 24 ∧ τ.1 0 36 = σ.1 0 36 ∧ τ.1 0 41 = σ.1 0 41 ∧ τ.1 0 50 = σ.1 0 50 ∧ τ.1 0 51 = σ.1 0 51) → Q τ) : fX12_thing_j57 N x1 x3 t0 Q τ := by
  unfold fX12_thing_j57
  have f37 := tB x1
  have f38 := tB x3
  have f39 := tB t0
  refine ⟨fun c40 => ?_, fun c40 => ?_⟩
  · have f41 := K2.g_0_9 hτ
    first | have f42 := (eqE (rfl : (τ.1 0 9).toInt = (τ.1 0 9).toInt) (show (0 : Int32).toInt = 0 from by decide)).mp c40 | skip
    try unfold fX12_in
    refine ⟨fun c43 => ?_, fun c43 => ?_⟩
    · first | have f45 := (ltE64 (i2lE (rfl : t0.toInt = t0.toInt)) (show (0 : Int64).toInt = 0 from by decide)).mp c43 | skip
      try dsimp only
      refine ⟨fun c46 => ?_, fun c46 => ?_⟩
      · first | have f47 := (eqE (show (0 : Int32).toInt = 0 from by decide) (show (0 : Int32).toInt = 0 from by decide)).mp c46 | skip
        try unfold fX12_fails
        refine ⟨fun c48 => ?_, fun c48 => ?_⟩
        · first | have f50 := (eqE (rfl : (τ.1 0 9).toInt = (τ.1 0 9).toInt) (show (0 : Int32).toInt = 0 from by decide)).mp c48 | skip
          try unfold fX12_fails_j16
          intro σ51 eσ51
          have hσ51 : K2 σ0 σ51 := by rw [eσ51]; exact hτ.u (Rg2.r_0_9 (leP (show (5 : Int32).toInt = 5 from by decide) (by omega)) (geP (show (5 : Int32).toInt = 5 from by decide) (by omega))) (fun q => absurd q.2 (by decide)) (fun q => absurd q.2 (by decide)) ⟨⟨by decide, by decide⟩, fun q => absurd q.2 (by decide)⟩
          try dsimp only
          have f232 := K2.g_0_9 hσ51
          have q233 : σ51.1 0 9 = 5 := by rw [eσ51, u1_at]; exact if_pos rfl
          first | have f234 : (σ51.1 0 9).toInt = (5) := (congrArg Int32.toInt q233).trans (show (5 : Int32).toInt = 5 from by decide) | skip
          exact sX12_thing_j84 hN (by omega) ((kq (a := 0) (b := 35) eσ51 (fun q => absurd q.2 (by decide))).trans (hk0)) ((kq (a := 0) (b := 24) eσ51 (fun q => absurd q.2 (by decide))).trans (hk1)) ((kq (a := 0) (b := 36) eσ51 (fun q => absurd q.2 (by decide))).trans (hk2)) ((kq (a := 0) (b := 41) eσ51 (fun q => absurd q.2 (by decide))).trans (hk3)) ((kq (a := 0) (b := 50) eσ51 (fun q => absurd q.2 (by decide))).trans (hk4)) ((kq (a := 0) (b := 51) eσ51 (fun q => absurd q.2 (by decide))).trans (hk5)) hσ hσ51 hQ
        · first | have f236 := (noteqE (rfl : (τ.1 0 9).toInt = (τ.1 0 9).toInt) (show (0 : Int32).toInt = 0 from by decide)).mp c48 | skip
          try unfold fX12_fails_j16
          intro σ237 eσ237
          have hσ237 : K2 σ0 σ237 := by rw [eσ237]; exact hτ.u (Rg2.r_0_9 (leP (rfl : (τ.1 0 9).toInt = (τ.1 0 9).toInt) (by omega)) (geP (rfl : (τ.1 0 9).toInt = (τ.1 0 9).toInt) (by omega))) (fun q => absurd q.2 (by decide)) (fun q => absurd q.2 (by decide)) ⟨⟨by decide, by decide⟩, fun q => absurd q.2 (by decide)⟩
          try dsimp only
          have f242 := K2.g_0_9 hσ237
          have q243 : σ237.1 0 9 = (τ.1 0 9) := by rw [eσ237, u1_at]; exact if_pos rfl
          first | have f245 : (σ237.1 0 9).toInt = (τ.1 0 9).toInt := (congrArg Int32.toInt q243).trans (rfl : (τ.1 0 9).toInt = (τ.1 0 9).toInt) | skip
          exact sX12_thing_j84 hN (by omega) ((kq (a := 0) (b := 35) eσ237 (fun q => absurd q.2 (by decide))).trans (hk0)) ((kq (a := 0) (b := 24) eσ237 (fun q => absurd q.2 (by decide))).trans (hk1)) ((kq (a := 0) (b := 36) eσ237 (fun q => absurd q.2 (by decide))).trans (hk2)) ((kq (a := 0) (b := 41) eσ237 (fun q => absurd q.2 (by decide))).trans (hk3)) ((kq (a := 0) (b := 50) eσ237 (fun q => absurd q.2 (by decide))).trans (hk4)) ((kq (a := 0) (b := 51) eσ237 (fun q => absurd q.2 (by decide))).trans (hk5)) hσ hσ237 hQ
      · first | have f246 := (noteqE (show (0 : Int32).toInt = 0 from by decide) (show (0 : Int32).toInt = 0 from by decide)).mp c46 | skip
        exact sX12_thing_j84 hN (by omega) (hk0) (hk1) (hk2) (hk3) (hk4) (hk5) hσ hτ hQ
    · first | have f252 := (notltE64 (i2lE (rfl : t0.toInt = t0.toInt)) (show (0 : Int64).toInt = 0 from by decide)).mp c43 | skip
      refine ⟨fun c253 => ?_, fun c253 => ?_⟩
      · first | have f255 := (ltE64 (show (4 : Int64).toInt = 4 from by decide) (i2lE (rfl : t0.toInt = t0.toInt))).mp c253 | skip
        try dsimp only
        refine ⟨fun c256 => ?_, fun c256 => ?_⟩
        · first | have f257 := (eqE (show (0 : Int32).toInt = 0 from by decide) (show (0 : Int32).toInt = 0 from by decide)).mp c256 | skip
          try unfold fX12_fails
          refine ⟨fun c258 => ?_, fun c258 => ?_⟩
          · first | have f260 := (eqE (rfl : (τ.1 0 9).toInt = (τ.1 0 9).toInt) (show (0 : Int32).toInt = 0 from by decide)).mp c258 | skip
            try unfold fX12_fails_j16
            intro σ261 eσ261
            have hσ261 : K2 σ0 σ261 := by rw [eσ261]; exact hτ.u (Rg2.r_0_9 (leP (show (5 : Int32).toInt = 5 from by decide) (by omega)) (geP (show (5 : Int32).toInt = 5 from by decide) (by omega))) (fun q => absurd q.2 (by decide)) (fun q => absurd q.2 (by decide)) ⟨⟨by decide, by decide⟩, fun q => absurd q.2 (by decide)⟩
            try dsimp only
            have f265 := K2.g_0_9 hσ261
            have q266 : σ261.1 0 9 = 5 := by rw [eσ261, u1_at]; exact if_pos rfl
            first | have f267 : (σ261.1 0 9).toInt = (5) := (congrArg Int32.toInt q266).trans (show (5 : Int32).toInt = 5 from by decide) | skip
            exact sX12_thing_j84 hN (by omega) ((kq (a := 0) (b := 35) eσ261 (fun q => absurd q.2 (by decide))).trans (hk0)) ((kq (a := 0) (b := 24) eσ261 (fun q => absurd q.2 (by decide))).trans (hk1)) ((kq (a := 0) (b := 36) eσ261 (fun q => absurd q.2 (by decide))).trans (hk2)) ((kq (a := 0) (b := 41) eσ261 (fun q => absurd q.2 (by decide))).trans (hk3)) ((kq (a := 0) (b := 50) eσ261 (fun q => absurd q.2 (by decide))).trans (hk4)) ((kq (a := 0) (b := 51) eσ261 (fun q => absurd q.2 (by decide))).trans (hk5)) hσ hσ261 hQ
          · first | have f269 := (noteqE (rfl : (τ.1 0 9).toInt = (τ.1 0 9).toInt) (show (0 : Int32).toInt = 0 from by decide)).mp c258 | skip
            try unfold fX12_fails_j16
            intro σ270 eσ270
            have hσ270 : K2 σ0 σ270 := by rw [eσ270]; exact hτ.u (Rg2.r_0_9 (leP (rfl : (τ.1 0 9).toInt = (τ.1 0 9).toInt) (by omega)) (geP (rfl : (τ.1 0 9).toInt = (τ.1 0 9).toInt) (by omega))) (fun q => absurd q.2 (by decide)) (fun q => absurd q.2 (by decide)) ⟨⟨by decide, by decide⟩, fun q => absurd q.2 (by decide)⟩
            try dsimp only
            have f275 := K2.g_0_9 hσ270
            have q276 : σ270.1 0 9 = (τ.1 0 9) := by rw [eσ270, u1_at]; exact if_pos rfl
            first | have f278 : (σ270.1 0 9).toInt = (τ.1 0 9).toInt := (congrArg Int32.toInt q276).trans (rfl : (τ.1 0 9).toInt = (τ.1 0 9).toInt) | skip
            exact sX12_thing_j84 hN (by omega) ((kq (a := 0) (b := 35) eσ270 (fun q => absurd q.2 (by decide))).trans (hk0)) ((kq (a := 0) (b := 24) eσ270 (fun q => absurd q.2 (by decide))).trans (hk1)) ((kq (a := 0) (b := 36) eσ270 (fun q => absurd q.2 (by decide))).trans (hk2)) ((kq (a := 0) (b := 41) eσ270 (fun q => absurd q.2 (by decide))).trans (hk3)) ((kq (a := 0) (b := 50) eσ270 (fun q => absurd q.2 (by decide))).trans (hk4)) ((kq (a := 0) (b := 51) eσ270 (fun q => absurd q.2 (by decide))).trans (hk5)) hσ hσ270 hQ
        · first | have f279 := (noteqE (show (0 : Int32).toInt = 0 from by decide) (show (0 : Int32).toInt = 0 from by decide)).mp c256 | skip
          exact sX12_thing_j84 hN (by omega) (hk0) (hk1) (hk2) (hk3) (hk4) (hk5) hσ hτ hQ
      · first | have f285 := (notltE64 (show (4 : Int64).toInt = 4 from by decide) (i2lE (rfl : t0.toInt = t0.toInt))).mp c253 | skip
        try dsimp only
        refine ⟨fun c286 => ?_, fun c286 => ?_⟩
        · first | have f287 := (eqE (show (1 : Int32).toInt = 1 from by decide) (show (0 : Int32).toInt = 0 from by decide)).mp c286 | skip
          try unfold fX12_fails
          refine ⟨fun c288 => ?_, fun c288 => ?_⟩
          · first | have f290 := (eqE (rfl : (τ.1 0 9).toInt = (τ.1 0 9).toInt) (show (0 : Int32).toInt = 0 from by decide)).mp c288 | skip
            try unfold fX12_fails_j16
            intro σ291 eσ291
            have hσ291 : K2 σ0 σ291 := by rw [eσ291]; exact hτ.u (Rg2.r_0_9 (leP (show (5 : Int32).toInt = 5 from by decide) (by omega)) (geP (show (5 : Int32).toInt = 5 from by decide) (by omega))) (fun q => absurd q.2 (by decide)) (fun q => absurd q.2 (by decide)) ⟨⟨by decide, by decide⟩, fun q => absurd q.2 (by decide)⟩
            try dsimp only
            have f295 := K2.g_0_9 hσ291
            have q296 : σ291.1 0 9 = 5 := by rw [eσ291, u1_at]; exact if_pos rfl
            first | have f297 : (σ291.1 0 9).toInt = (5) := (congrArg Int32.toInt q296).trans (show (5 : Int32).toInt = 5 from by decide) | skip
            exact sX12_thing_j84 hN (by omega) ((kq (a := 0) (b := 35) eσ291 (fun q => absurd q.2 (by decide))).trans (hk0)) ((kq (a := 0) (b := 24) eσ291 (fun q => absurd q.2 (by decide))).trans (hk1)) ((kq (a := 0) (b := 36) eσ291 (fun q => absurd q.2 (by decide))).trans (hk2)) ((kq (a := 0) (b := 41) eσ291 (fun q => absurd q.2 (by decide))).trans (hk3)) ((kq (a := 0) (b := 50) eσ291 (fun q => absurd q.2 (by decide))).trans (hk4)) ((kq (a := 0) (b := 51) eσ291 (fun q => absurd q.2 (by decide))).trans (hk5)) hσ hσ291 hQ
          · first | have f299 := (noteqE (rfl : (τ.1 0 9).toInt = (τ.1 0 9).toInt) (show (0 : Int32).toInt = 0 from by decide)).mp c288 | skip
            try unfold fX12_fails_j16
            intro σ300 eσ300
            have hσ300 : K2 σ0 σ300 := by rw [eσ300]; exact hτ.u (Rg2.r_0_9 (leP (rfl : (τ.1 0 9).toInt = (τ.1 0 9).toInt) (by omega)) (geP (rfl : (τ.1 0 9).toInt = (τ.1 0 9).toInt) (by omega))) (fun q => absurd q.2 (by decide)) (fun q => absurd q.2 (by decide)) ⟨⟨by decide, by decide⟩, fun q => absurd q.2 (by decide)⟩
            try dsimp only
            have f305 := K2.g_0_9 hσ300
            have q306 : σ300.1 0 9 = (τ.1 0 9) := by rw [eσ300, u1_at]; exact if_pos rfl
            first | have f308 : (σ300.1 0 9).toInt = (τ.1 0 9).toInt := (congrArg Int32.toInt q306).trans (rfl : (τ.1 0 9).toInt = (τ.1 0 9).toInt) | skip
            exact sX12_thing_j84 hN (by omega) ((kq (a := 0) (b := 35) eσ300 (fun q => absurd q.2 (by decide))).trans (hk0)) ((kq (a := 0) (b := 24) eσ300 (fun q => absurd q.2 (by decide))).trans (hk1)) ((kq (a := 0) (b := 36) eσ300 (fun q => absurd q.2 (by decide))).trans (hk2)) ((kq (a := 0) (b := 41) eσ300 (fun q => absurd q.2 (by decide))).trans (hk3)) ((kq (a := 0) (b := 50) eσ300 (fun q => absurd q.2 (by decide))).trans (hk4)) ((kq (a := 0) (b := 51) eσ300 (fun q => absurd q.2 (by decide))).trans (hk5)) hσ hσ300 hQ
        · first | have f309 := (noteqE (show (1 : Int32).toInt = 1 from by decide) (show (0 : Int32).toInt = 0 from by decide)).mp c286 | skip
          exact sX12_thing_j84 hN (by omega) (hk0) (hk1) (hk2) (hk3) (hk4) (hk5) hσ hτ hQ
  · have f314 := K2.g_0_9 hτ
    first | have f315 := (noteqE (rfl : (τ.1 0 9).toInt = (τ.1 0 9).toInt) (show (0 : Int32).toInt = 0 from by decide)).mp c40 | skip
    exact sX12_thing_j84 hN (by omega) (hk0) (hk1) (hk2) (hk3) (hk4) (hk5) hσ hτ hQ
set_option maxHeartbeats 4000000 in
theorem sX12_thing_j30 {N : Nat} (hN : 4294967400 ≤ N) {x1 : Int32} {x2 : Int32} {x3 : Int32} {Q : St → Prop} {σ0 σ τ : St} (hk0 : τ.1 0 35 = σ.1 0 35) (hk1 : τ.1 0 24 = σ.1 0 24) (hk2 : τ.1 0 36 = σ.1 0 36) (hk3 : τ.1 0 41 = σ.1 0 41) (hk4 : τ.1 0 50 = σ.1 0 50) (hk5 : τ.1 0 51 = σ.1 0 51) (hσ : K2 σ0 σ) (hτ : K2 σ0 τ) (hQ : ∀ τ : St, K2 σ0 τ → (τ.1 0 35 = σ.1 0 35 ∧ τ.1 0 24 = σ.1 0 24 ∧ τ.1 0 36 = σ.1 0 36 ∧ τ.1 0 41 = σ.1 0 41 ∧ τ.1 0 50 = σ.1 0 50 ∧ τ.1 0 51 = σ.1 0 51) → Q τ) : fX12_thing_j30 N x1 x2 x3 Q τ := by
  unfold fX12_thing_j30
  have f31 := tB x1
  have f32 := tB x2
  have f33 := tB x3
  refine ⟨fun c34 => ?_, fun c34 => ?_⟩
  · first | have f36 := (leE (rfl : x2.toInt = x2.toInt) (show (9 : Int32).toInt = 9 from by decide)).mp c34 | skip
    try unfold fX12_thing_j56
    exact sX12_thing_j57 hN (hk0) (hk1) (hk2) (hk3) (hk4) (hk5) hσ hτ hQ
  · first | have f323 := (notleE (rfl : x2.toInt = x2.toInt) (show (9 : Int32).toInt = 9 from by decide)).mp c34 | skip
    refine ⟨fun c324 => ?_, fun c324 => ?_⟩
    · have f325 := K2.g_0_9 hτ
      first | have f326 := (eqE (rfl : (τ.1 0 9).toInt = (τ.1 0 9).toInt) (show (0 : Int32).toInt = 0 from by decide)).mp c324 | skip
      refine sX12_four hN hτ (fun r337 σ328 hσ328 kk336 p338 => ?_)
      obtain ⟨k329, k330, k331, k332, k333, k334, k335⟩ := kk336
      have f341 := tB r337
      exact sX12_thing_j57 hN (k330.trans (hk0)) (k331.trans (hk1)) (k332.trans (hk2)) (k333.trans (hk3)) (k334.trans (hk4)) (k335.trans (hk5)) hσ hσ328 hQ
    · have f342 := K2.g_0_9 hτ
      first | have f343 := (noteqE (rfl : (τ.1 0 9).toInt = (τ.1 0 9).toInt) (show (0 : Int32).toInt = 0 from by decide)).mp c324 | skip
      try unfold fX12_thing_j56
      exact sX12_thing_j57 hN (hk0) (hk1) (hk2) (hk3) (hk4) (hk5) hσ hτ hQ
set_option maxHeartbeats 4000000 in
theorem sX12_thing {N : Nat} (hN : 4294967400 ≤ N) {x1 : Int32} {x2 : Int32} {Q : St → Prop} {σ0 σ : St} (hσ : K2 σ0 σ) (hQ : ∀ τ : St, K2 σ0 τ → (τ.1 0 35 = σ.1 0 35 ∧ τ.1 0 24 = σ.1 0 24 ∧ τ.1 0 36 = σ.1 0 36 ∧ τ.1 0 41 = σ.1 0 41 ∧ τ.1 0 50 = σ.1 0 50 ∧ τ.1 0 51 = σ.1 0 51) → Q τ) : fX12_thing N x1 x2 Q σ := by
  unfold fX12_thing
  have f1 := tB x1
  refine sX12_four hN hσ (fun r11 σ2 hσ2 kk10 p12 => ?_)
  obtain ⟨k3, k4, k5, k6, k7, k8, k9⟩ := kk10
  refine ⟨fun c13 => ?_, fun c13 => ?_⟩
  · have f14 := tB (x2 - x2 / 2 * 2)
    first | have f15 := (eqE (rfl : (x2 - x2 / 2 * 2).toInt = (x2 - x2 / 2 * 2).toInt) (show (1 : Int32).toInt = 1 from by decide)).mp c13 | skip
    refine ⟨fun c16 => ?_, fun c16 => ?_⟩
    · have f17 := K2.g_0_9 hσ2
      first | have f18 := (eqE (rfl : (σ2.1 0 9).toInt = (σ2.1 0 9).toInt) (show (0 : Int32).toInt = 0 from by decide)).mp c16 | skip
      have f19 := tB r11
      refine sX12_four hN hσ2 (fun r29 σ20 hσ20 kk28 p30 => ?_)
      obtain ⟨k21, k22, k23, k24, k25, k26, k27⟩ := kk28
      have f347 := tB x2
      have f348 := tB r29
      exact sX12_thing_j30 hN (k22.trans (k4)) (k23.trans (k5)) (k24.trans (k6)) (k25.trans (k7)) (k26.trans (k8)) (k27.trans (k9)) hσ hσ20 hQ
    · have f349 := K2.g_0_9 hσ2
      first | have f350 := (noteqE (rfl : (σ2.1 0 9).toInt = (σ2.1 0 9).toInt) (show (0 : Int32).toInt = 0 from by decide)).mp c16 | skip
      have f352 := tB x2
      have f353 := tB r11
      exact sX12_thing_j30 hN (k4) (k5) (k6) (k7) (k8) (k9) hσ hσ2 hQ
  · have f354 := tB (x2 - x2 / 2 * 2)
    first | have f355 := (noteqE (rfl : (x2 - x2 / 2 * 2).toInt = (x2 - x2 / 2 * 2).toInt) (show (1 : Int32).toInt = 1 from by decide)).mp c13 | skip
    have f357 := tB x2
    have f358 := tB r11
    exact sX12_thing_j30 hN (k4) (k5) (k6) (k7) (k8) (k9) hσ hσ2 hQ
set_option maxHeartbeats 4000000 in
theorem sX12_packed_j106 {N : Nat} (hN : 4294967400 ≤ N) {x1 : Int32} {t0 : Int64} {t1 : Int64} {t3 : Int32} {Q : St → Prop} {σ0 σ τ : St} (hi0 : x1.toInt = (τ.1 0 14).toInt - 1) (hi1 : 1 ≤ (τ.1 0 14).toInt) (hi2 : t3.toInt = x1.toInt) (hk0 : τ.1 0 35 = σ.1 0 35) (hk1 : τ.1 0 36 = σ.1 0 36) (hk2 : τ.1 0 41 = σ.1 0 41) (hk3 : τ.1 0 50 = σ.1 0 50) (hk4 : τ.1 0 51 = σ.1 0 51) (hσ : K2 σ0 σ) (hτ : K2 σ0 τ) (hQ : ∀ τ : St, K2 σ0 τ → (τ.1 0 35 = σ.1 0 35 ∧ τ.1 0 36 = σ.1 0 36 ∧ τ.1 0 41 = σ.1 0 41 ∧ τ.1 0 50 = σ.1 0 50 ∧ τ.1 0 51 = σ.1 0 51) → Q τ) : fX12_packed_j106 N x1 t0 t1 t3 Q τ := by
  unfold fX12_packed_j106
  have f64 := tB x1
  have f65 := tB64 t0
  have f66 := tB64 t1
  have f67 := tB t3
  have f68 := K2.g_0_14 hτ
  refine sX12_four hN hτ (fun r80 σ71 hσ71 kk79 p81 => ?_)
  obtain ⟨k72, k73, k74, k75, k76, k77, k78⟩ := kk79
  refine ⟨inE (rfl : t3.toInt = t3.toInt) (by omega) (by omega), ?_⟩
  intro σ83 eσ83
  have hσ83 : K2 σ0 σ83 := by rw [eσ83]; exact hσ71.u (Rg2.ra_12 _ _) (fun q => absurd q.1 (by decide)) (fun q => absurd q.1 (by decide)) ⟨⟨by decide, by decide⟩, fun q => absurd q.1 (by decide)⟩
  refine ⟨inE (rfl : x1.toInt = x1.toInt) (by omega) (by omega), ?_⟩
  intro σ85 eσ85
  have hσ85 : K2 σ0 σ85 := by rw [eσ85]; exact hσ83.u (Rg2.ra_11 _ _) (fun q => absurd q.1 (by decide)) (fun q => absurd q.1 (by decide)) ⟨⟨by decide, by decide⟩, fun q => absurd q.1 (by decide)⟩
  have g87 : vp_in x1 40 := inE (rfl : x1.toInt = x1.toInt) (by omega) (by omega)
  refine ⟨g87, ?_⟩
  intro v88 ev88
  refine ⟨inE (rfl : x1.toInt = x1.toInt) (by omega) (by omega), ?_⟩
  intro σ90 eσ90
  have hσ90 : K2 σ0 σ90 := by rw [eσ90]; exact hσ85.u (Rg2.ra_8 _ _) (fun q => absurd q.1 (by decide)) (fun q => absurd q.1 (by decide)) ⟨⟨by decide, by decide⟩, fun q => absurd q.1 (by decide)⟩
  have g92 : vp_in x1 40 := inE (rfl : x1.toInt = x1.toInt) (by omega) (by omega)
  refine ⟨g92, ?_⟩
  refine ⟨fun c93 => ?_, fun c93 => ?_⟩
  · have f94 := tB (σ90.1 8 x1.toNatClampNeg)
    first | have f95 := (eqE (rfl : (σ90.1 8 x1.toNatClampNeg).toInt = (σ90.1 8 x1.toNatClampNeg).toInt) (show (8 : Int32).toInt = 8 from by decide)).mp c93 | skip
    refine ⟨inE (rfl : x1.toInt = x1.toInt) (by omega) (by omega), ?_⟩
    intro σ97 eσ97
    have hσ97 : K2 σ0 σ97 := by rw [eσ97]; exact hσ90.u (Rg2.ra_8 _ _) (fun q => absurd q.1 (by decide)) (fun q => absurd q.1 (by decide)) ⟨⟨by decide, by decide⟩, fun q => absurd q.1 (by decide)⟩
    have g99 : vp_in x1 40 := inE (rfl : x1.toInt = x1.toInt) (by omega) (by omega)
    refine ⟨g99, ?_⟩
    intro v100 ev100
    refine ⟨inE (rfl : x1.toInt = x1.toInt) (by omega) (by omega), ?_⟩
    intro σ102 eσ102
    have hσ102 : K2 σ0 σ102 := by rw [eσ102]; exact hσ97.u (Rg2.ra_7 _ _) (fun q => absurd q.1 (by decide)) (fun q => absurd q.1 (by decide)) ⟨⟨by decide, by decide⟩, fun q => absurd q.1 (by decide)⟩
    exact hQ _ hσ102 (⟨(kq (a := 0) (b := 35) eσ102 (fun q => absurd q.1 (by decide))).trans ((kq (a := 0) (b := 35) eσ97 (fun q => absurd q.1 (by decide))).trans ((kq (a := 0) (b := 35) eσ90 (fun q => absurd q.1 (by decide))).trans ((kq (a := 0) (b := 35) eσ85 (fun q => absurd q.1 (by decide))).trans ((kq (a := 0) (b := 35) eσ83 (fun q => absurd q.1 (by decide))).trans (k73.trans (hk0)))))), (kq (a := 0) (b := 36) eσ102 (fun q => absurd q.1 (by decide))).trans ((kq (a := 0) (b := 36) eσ97 (fun q => absurd q.1 (by decide))).trans ((kq (a := 0) (b := 36) eσ90 (fun q => absurd q.1 (by decide))).trans ((kq (a := 0) (b := 36) eσ85 (fun q => absurd q.1 (by decide))).trans ((kq (a := 0) (b := 36) eσ83 (fun q => absurd q.1 (by decide))).trans (k75.trans (hk1)))))), (kq (a := 0) (b := 41) eσ102 (fun q => absurd q.1 (by decide))).trans ((kq (a := 0) (b := 41) eσ97 (fun q => absurd q.1 (by decide))).trans ((kq (a := 0) (b := 41) eσ90 (fun q => absurd q.1 (by decide))).trans ((kq (a := 0) (b := 41) eσ85 (fun q => absurd q.1 (by decide))).trans ((kq (a := 0) (b := 41) eσ83 (fun q => absurd q.1 (by decide))).trans (k76.trans (hk2)))))), (kq (a := 0) (b := 50) eσ102 (fun q => absurd q.1 (by decide))).trans ((kq (a := 0) (b := 50) eσ97 (fun q => absurd q.1 (by decide))).trans ((kq (a := 0) (b := 50) eσ90 (fun q => absurd q.1 (by decide))).trans ((kq (a := 0) (b := 50) eσ85 (fun q => absurd q.1 (by decide))).trans ((kq (a := 0) (b := 50) eσ83 (fun q => absurd q.1 (by decide))).trans (k77.trans (hk3)))))), (kq (a := 0) (b := 51) eσ102 (fun q => absurd q.1 (by decide))).trans ((kq (a := 0) (b := 51) eσ97 (fun q => absurd q.1 (by decide))).trans ((kq (a := 0) (b := 51) eσ90 (fun q => absurd q.1 (by decide))).trans ((kq (a := 0) (b := 51) eσ85 (fun q => absurd q.1 (by decide))).trans ((kq (a := 0) (b := 51) eσ83 (fun q => absurd q.1 (by decide))).trans (k78.trans (hk4))))))⟩)
  · have f103 := tB (σ90.1 8 x1.toNatClampNeg)
    first | have f104 := (noteqE (rfl : (σ90.1 8 x1.toNatClampNeg).toInt = (σ90.1 8 x1.toNatClampNeg).toInt) (show (8 : Int32).toInt = 8 from by decide)).mp c93 | skip
    exact hQ _ hσ90 (⟨(kq (a := 0) (b := 35) eσ90 (fun q => absurd q.1 (by decide))).trans ((kq (a := 0) (b := 35) eσ85 (fun q => absurd q.1 (by decide))).trans ((kq (a := 0) (b := 35) eσ83 (fun q => absurd q.1 (by decide))).trans (k73.trans (hk0)))), (kq (a := 0) (b := 36) eσ90 (fun q => absurd q.1 (by decide))).trans ((kq (a := 0) (b := 36) eσ85 (fun q => absurd q.1 (by decide))).trans ((kq (a := 0) (b := 36) eσ83 (fun q => absurd q.1 (by decide))).trans (k75.trans (hk1)))), (kq (a := 0) (b := 41) eσ90 (fun q => absurd q.1 (by decide))).trans ((kq (a := 0) (b := 41) eσ85 (fun q => absurd q.1 (by decide))).trans ((kq (a := 0) (b := 41) eσ83 (fun q => absurd q.1 (by decide))).trans (k76.trans (hk2)))), (kq (a := 0) (b := 50) eσ90 (fun q => absurd q.1 (by decide))).trans ((kq (a := 0) (b := 50) eσ85 (fun q => absurd q.1 (by decide))).trans ((kq (a := 0) (b := 50) eσ83 (fun q => absurd q.1 (by decide))).trans (k77.trans (hk3)))), (kq (a := 0) (b := 51) eσ90 (fun q => absurd q.1 (by decide))).trans ((kq (a := 0) (b := 51) eσ85 (fun q => absurd q.1 (by decide))).trans ((kq (a := 0) (b := 51) eσ83 (fun q => absurd q.1 (by decide))).trans (k78.trans (hk4))))⟩)
set_option maxHeartbeats 4000000 in
theorem sX12_packed_j243 {N : Nat} (hN : 4294967400 ≤ N) {x2 : Int32} {t0 : Int32} {Q : St → Prop} {σ0 σ τ : St} (hk0 : τ.1 0 35 = σ.1 0 35) (hk1 : τ.1 0 36 = σ.1 0 36) (hk2 : τ.1 0 41 = σ.1 0 41) (hk3 : τ.1 0 50 = σ.1 0 50) (hk4 : τ.1 0 51 = σ.1 0 51) (hσ : K2 σ0 σ) (hτ : K2 σ0 τ) (hQ : ∀ τ : St, K2 σ0 τ → (τ.1 0 35 = σ.1 0 35 ∧ τ.1 0 36 = σ.1 0 36 ∧ τ.1 0 41 = σ.1 0 41 ∧ τ.1 0 50 = σ.1 0 50 ∧ τ.1 0 51 = σ.1 0 51) → Q τ) : fX12_packed_j243 N x2 t0 Q τ := by
  unfold fX12_packed_j243
  have f204 := tB x2
  have f205 := tB t0
  refine sX12_lays hN hτ (fun σ208 hσ208 kk215 => ?_)
  have f218 := K2.g_0_9 hτ
  have f220 := K2.g_0_14 hτ
  obtain ⟨k209, k210, k211, k212, k213, k214, sp216, sp217⟩ := kk215
  exact hQ _ hσ208 (⟨k209.trans (hk0), k211.trans (hk1), k212.trans (hk2), k213.trans (hk3), k214.trans (hk4)⟩)
set_option maxHeartbeats 4000000 in
theorem sX12_packed_j232 {N : Nat} (hN : 4294967400 ≤ N) {x2 : Int32} {x3 : Int32} {Q : St → Prop} {σ0 σ τ : St} (hk0 : τ.1 0 35 = σ.1 0 35) (hk1 : τ.1 0 36 = σ.1 0 36) (hk2 : τ.1 0 41 = σ.1 0 41) (hk3 : τ.1 0 50 = σ.1 0 50) (hk4 : τ.1 0 51 = σ.1 0 51) (hσ : K2 σ0 σ) (hτ : K2 σ0 τ) (hQ : ∀ τ : St, K2 σ0 τ → (τ.1 0 35 = σ.1 0 35 ∧ τ.1 0 36 = σ.1 0 36 ∧ τ.1 0 41 = σ.1 0 41 ∧ τ.1 0 50 = σ.1 0 50 ∧ τ.1 0 51 = σ.1 0 51) → Q τ) : fX12_packed_j232 N x2 x3 Q τ := by
  unfold fX12_packed_j232
  have f199 := tB x2
  have f200 := tB x3
  refine ⟨fun c201 => ?_, fun c201 => ?_⟩
  · first | have f203 := (eqE (rfl : x3.toInt = x3.toInt) (show (3 : Int32).toInt = 3 from by decide)).mp c201 | skip
    exact sX12_packed_j243 hN (hk0) (hk1) (hk2) (hk3) (hk4) hσ hτ hQ
  · first | have f223 := (noteqE (rfl : x3.toInt = x3.toInt) (show (3 : Int32).toInt = 3 from by decide)).mp c201 | skip
    exact sX12_packed_j243 hN (hk0) (hk1) (hk2) (hk3) (hk4) hσ hτ hQ
set_option maxHeartbeats 4000000 in
theorem sX12_packed_j44 {N : Nat} (hN : 4294967400 ≤ N) {x1 : Int32} {t0 : Int32} {Q : St → Prop} {σ0 σ τ : St} (hi0 : x1.toInt = (τ.1 0 14).toInt - 1) (hi1 : 1 ≤ (τ.1 0 14).toInt) (hk0 : τ.1 0 35 = σ.1 0 35) (hk1 : τ.1 0 36 = σ.1 0 36) (hk2 : τ.1 0 41 = σ.1 0 41) (hk3 : τ.1 0 50 = σ.1 0 50) (hk4 : τ.1 0 51 = σ.1 0 51) (hσ : K2 σ0 σ) (hτ : K2 σ0 τ) (hQ : ∀ τ : St, K2 σ0 τ → (τ.1 0 35 = σ.1 0 35 ∧ τ.1 0 36 = σ.1 0 36 ∧ τ.1 0 41 = σ.1 0 41 ∧ τ.1 0 50 = σ.1 0 50 ∧ τ.1 0 51 = σ.1 0 51) → Q τ) : fX12_packed_j44 N x1 t0 Q τ := by
  unfold fX12_packed_j44
  have f21 := tB x1
  have f22 := tB t0
  have f23 := K2.g_0_14 hτ
  refine sX12_read hN hτ (fun r34 σ25 hσ25 kk33 p35 => ?_)
  obtain ⟨k26, k27, k28, k29, k30, k31, k32⟩ := kk33
  refine ⟨fun c36 => ?_, fun c36 => ?_⟩
  · have f37 := K2.g_0_9 hσ25
    first | have f38 := (leE (rfl : (σ25.1 0 9).toInt = (σ25.1 0 9).toInt) (show (0 : Int32).toInt = 0 from by decide)).mp c36 | skip
    refine ⟨fun c39 => ?_, fun c39 => ?_⟩
    · have f40 := tB r34
      first | have f41 := (eqE (rfl : r34.toInt = r34.toInt) (show (0 : Int32).toInt = 0 from by decide)).mp c39 | skip
      have g43 : vp_in x1 40 := inE (rfl : x1.toInt = x1.toInt) (by omega) (by omega)
      refine ⟨g43, ?_⟩
      have f44 := tB (σ25.1 7 x1.toNatClampNeg)
      refine sX12_read hN hσ25 (fun r54 σ45 hσ45 kk53 p55 => ?_)
      obtain ⟨k46, k47, k48, k49, k50, k51, k52⟩ := kk53
      have g57 : vp_in x1 40 := inE (rfl : x1.toInt = x1.toInt) (by omega) (by omega)
      refine ⟨g57, ?_⟩
      intro v58 ev58
      refine ⟨fun c59 => ?_, fun c59 => ?_⟩
      · have f60 := tB v58
        have f61 := and1 (r54 >>> ((σ45.1 8 x1.toNatClampNeg) &&& 31))
        first | have f62 : v58.toInt = ((r54 >>> ((σ45.1 8 x1.toNatClampNeg) &&& 31)) &&& 1).toInt := (congrArg Int32.toInt ev58).trans (rfl : ((r54 >>> ((σ45.1 8 x1.toNatClampNeg) &&& 31)) &&& 1).toInt = ((r54 >>> ((σ45.1 8 x1.toNatClampNeg) &&& 31)) &&& 1).toInt) | skip
        first | have f63 := (eqE (rfl : v58.toInt = v58.toInt) (show (0 : Int32).toInt = 0 from by decide)).mp c59 | skip
        have f108 := K2.g_0_14 hσ45
        have f109 := congrArg Int32.toInt k46
        have f110 := K2.g_0_14 hσ25
        have f111 := congrArg Int32.toInt k26
        exact sX12_packed_j106 hN (by omega) (by omega) (by omega) (k47.trans (k27.trans (hk0))) (k49.trans (k29.trans (hk1))) (k50.trans (k30.trans (hk2))) (k51.trans (k31.trans (hk3))) (k52.trans (k32.trans (hk4))) hσ hσ45 hQ
      · have f114 := tB v58
        have f115 := and1 (r54 >>> ((σ45.1 8 x1.toNatClampNeg) &&& 31))
        first | have f116 : v58.toInt = ((r54 >>> ((σ45.1 8 x1.toNatClampNeg) &&& 31)) &&& 1).toInt := (congrArg Int32.toInt ev58).trans (rfl : ((r54 >>> ((σ45.1 8 x1.toNatClampNeg) &&& 31)) &&& 1).toInt = ((r54 >>> ((σ45.1 8 x1.toNatClampNeg) &&& 31)) &&& 1).toInt) | skip
        first | have f117 := (noteqE (rfl : v58.toInt = v58.toInt) (show (0 : Int32).toInt = 0 from by decide)).mp c59 | skip
        have f121 := K2.g_0_14 hσ45
        have f122 := congrArg Int32.toInt k46
        have f123 := K2.g_0_14 hσ25
        have f124 := congrArg Int32.toInt k26
        exact sX12_packed_j106 hN (by omega) (by omega) (by omega) (k47.trans (k27.trans (hk0))) (k49.trans (k29.trans (hk1))) (k50.trans (k30.trans (hk2))) (k51.trans (k31.trans (hk3))) (k52.trans (k32.trans (hk4))) hσ hσ45 hQ
    · have f127 := tB r34
      first | have f128 := (noteqE (rfl : r34.toInt = r34.toInt) (show (0 : Int32).toInt = 0 from by decide)).mp c39 | skip
      refine ⟨inE (rfl : x1.toInt = x1.toInt) (by omega) (by omega), ?_⟩
      intro σ130 eσ130
      have hσ130 : K2 σ0 σ130 := by rw [eσ130]; exact hσ25.u (Rg2.ra_11 _ _) (fun q => absurd q.1 (by decide)) (fun q => absurd q.1 (by decide)) ⟨⟨by decide, by decide⟩, fun q => absurd q.1 (by decide)⟩
      refine ⟨fun c131 => ?_, fun c131 => ?_⟩
      · first | have f133 := (eqE (rfl : r34.toInt = r34.toInt) (show (1 : Int32).toInt = 1 from by decide)).mp c131 | skip
        intro v134 ev134
        intro σ135 eσ135
        have f136 := tB v134
        have f137 := K2.g_0_14 hσ130
        have q138 : σ130.1 0 14 = σ25.1 0 14 := by rw [eσ130]; exact congrFun (u1_ne (by decide)) 14
        have f139 := congrArg Int32.toInt q138
        have f140 := K2.g_0_14 hσ25
        have f141 := congrArg Int32.toInt k26
        first | have f143 : v134.toInt = ((σ130.1 0 14).toInt - (1)) := (congrArg Int32.toInt ev134).trans (sOkE (rfl : (σ130.1 0 14).toInt = (σ130.1 0 14).toInt) (show (1 : Int32).toInt = 1 from by decide) (by omega) (by omega)) | skip
        have hσ135 : K2 σ0 σ135 := by rw [eσ135]; exact hσ130.u14 (Rg2.r_0_14 (leP (rfl : v134.toInt = v134.toInt) (by omega)) (geP (rfl : v134.toInt = v134.toInt) (by omega))) (Or.inr (by rcases hσ130.Zz with z | z <;> omega))
        exact hQ _ hσ135 (⟨(kq (a := 0) (b := 35) eσ135 (fun q => absurd q.2 (by decide))).trans ((kq (a := 0) (b := 35) eσ130 (fun q => absurd q.1 (by decide))).trans (k27.trans (hk0))), (kq (a := 0) (b := 36) eσ135 (fun q => absurd q.2 (by decide))).trans ((kq (a := 0) (b := 36) eσ130 (fun q => absurd q.1 (by decide))).trans (k29.trans (hk1))), (kq (a := 0) (b := 41) eσ135 (fun q => absurd q.2 (by decide))).trans ((kq (a := 0) (b := 41) eσ130 (fun q => absurd q.1 (by decide))).trans (k30.trans (hk2))), (kq (a := 0) (b := 50) eσ135 (fun q => absurd q.2 (by decide))).trans ((kq (a := 0) (b := 50) eσ130 (fun q => absurd q.1 (by decide))).trans (k31.trans (hk3))), (kq (a := 0) (b := 51) eσ135 (fun q => absurd q.2 (by decide))).trans ((kq (a := 0) (b := 51) eσ130 (fun q => absurd q.1 (by decide))).trans (k32.trans (hk4)))⟩)
      · first | have f145 := (noteqE (rfl : r34.toInt = r34.toInt) (show (1 : Int32).toInt = 1 from by decide)).mp c131 | skip
        refine ⟨fun c146 => ?_, fun c146 => ?_⟩
        · first | have f148 := (eqE (rfl : r34.toInt = r34.toInt) (show (2 : Int32).toInt = 2 from by decide)).mp c146 | skip
          refine sX12_read hN hσ130 (fun r159 σ150 hσ150 kk158 p160 => ?_)
          obtain ⟨k151, k152, k153, k154, k155, k156, k157⟩ := kk158
          have f161 := tB r159
          refine sX12_gives hN hσ150 (fun σ162 hσ162 kk168 => ?_)
          obtain ⟨k163, k164, k165, k166, k167⟩ := kk168
          exact hQ _ hσ162 (⟨k163.trans (k152.trans ((kq (a := 0) (b := 35) eσ130 (fun q => absurd q.1 (by decide))).trans (k27.trans (hk0)))), k164.trans (k154.trans ((kq (a := 0) (b := 36) eσ130 (fun q => absurd q.1 (by decide))).trans (k29.trans (hk1)))), k165.trans (k155.trans ((kq (a := 0) (b := 41) eσ130 (fun q => absurd q.1 (by decide))).trans (k30.trans (hk2)))), k166.trans (k156.trans ((kq (a := 0) (b := 50) eσ130 (fun q => absurd q.1 (by decide))).trans (k31.trans (hk3)))), k167.trans (k157.trans ((kq (a := 0) (b := 51) eσ130 (fun q => absurd q.1 (by decide))).trans (k32.trans (hk4))))⟩)
        · first | have f170 := (noteqE (rfl : r34.toInt = r34.toInt) (show (2 : Int32).toInt = 2 from by decide)).mp c146 | skip
          refine ⟨fun c171 => ?_, fun c171 => ?_⟩
          · first | have f173 := (eqE (rfl : r34.toInt = r34.toInt) (show (4 : Int32).toInt = 4 from by decide)).mp c171 | skip
            refine sX12_four hN hσ130 (fun r184 σ175 hσ175 kk183 p185 => ?_)
            obtain ⟨k176, k177, k178, k179, k180, k181, k182⟩ := kk183
            have f186 := tB r184
            refine sX12_gives hN hσ175 (fun σ187 hσ187 kk193 => ?_)
            obtain ⟨k188, k189, k190, k191, k192⟩ := kk193
            exact hQ _ hσ187 (⟨k188.trans (k177.trans ((kq (a := 0) (b := 35) eσ130 (fun q => absurd q.1 (by decide))).trans (k27.trans (hk0)))), k189.trans (k179.trans ((kq (a := 0) (b := 36) eσ130 (fun q => absurd q.1 (by decide))).trans (k29.trans (hk1)))), k190.trans (k180.trans ((kq (a := 0) (b := 41) eσ130 (fun q => absurd q.1 (by decide))).trans (k30.trans (hk2)))), k191.trans (k181.trans ((kq (a := 0) (b := 50) eσ130 (fun q => absurd q.1 (by decide))).trans (k31.trans (hk3)))), k192.trans (k182.trans ((kq (a := 0) (b := 51) eσ130 (fun q => absurd q.1 (by decide))).trans (k32.trans (hk4))))⟩)
          · first | have f195 := (noteqE (rfl : r34.toInt = r34.toInt) (show (4 : Int32).toInt = 4 from by decide)).mp c171 | skip
            refine ⟨fun c196 => ?_, fun c196 => ?_⟩
            · first | have f198 := (eqE (rfl : r34.toInt = r34.toInt) (show (3 : Int32).toInt = 3 from by decide)).mp c196 | skip
              exact sX12_packed_j232 hN ((kq (a := 0) (b := 35) eσ130 (fun q => absurd q.1 (by decide))).trans (k27.trans (hk0))) ((kq (a := 0) (b := 36) eσ130 (fun q => absurd q.1 (by decide))).trans (k29.trans (hk1))) ((kq (a := 0) (b := 41) eσ130 (fun q => absurd q.1 (by decide))).trans (k30.trans (hk2))) ((kq (a := 0) (b := 50) eσ130 (fun q => absurd q.1 (by decide))).trans (k31.trans (hk3))) ((kq (a := 0) (b := 51) eσ130 (fun q => absurd q.1 (by decide))).trans (k32.trans (hk4))) hσ hσ130 hQ
            · first | have f228 := (noteqE (rfl : r34.toInt = r34.toInt) (show (3 : Int32).toInt = 3 from by decide)).mp c196 | skip
              refine ⟨fun c229 => ?_, fun c229 => ?_⟩
              · first | have f231 := (eqE (rfl : r34.toInt = r34.toInt) (show (5 : Int32).toInt = 5 from by decide)).mp c229 | skip
                exact sX12_packed_j232 hN ((kq (a := 0) (b := 35) eσ130 (fun q => absurd q.1 (by decide))).trans (k27.trans (hk0))) ((kq (a := 0) (b := 36) eσ130 (fun q => absurd q.1 (by decide))).trans (k29.trans (hk1))) ((kq (a := 0) (b := 41) eσ130 (fun q => absurd q.1 (by decide))).trans (k30.trans (hk2))) ((kq (a := 0) (b := 50) eσ130 (fun q => absurd q.1 (by decide))).trans (k31.trans (hk3))) ((kq (a := 0) (b := 51) eσ130 (fun q => absurd q.1 (by decide))).trans (k32.trans (hk4))) hσ hσ130 hQ
              · first | have f235 := (noteqE (rfl : r34.toInt = r34.toInt) (show (5 : Int32).toInt = 5 from by decide)).mp c229 | skip
                refine ⟨fun c236 => ?_, fun c236 => ?_⟩
                · first | have f238 := (ltE (rfl : r34.toInt = r34.toInt) (show (8 : Int32).toInt = 8 from by decide)).mp c236 | skip
                  try unfold fX12_packed_j273
                  try unfold fX12_fails
                  refine ⟨fun c239 => ?_, fun c239 => ?_⟩
                  · have f240 := K2.g_0_9 hσ130
                    have q241 : σ130.1 0 9 = σ25.1 0 9 := by rw [eσ130]; exact congrFun (u1_ne (by decide)) 9
                    have f242 := congrArg Int32.toInt q241
                    first | have f244 := (eqE (rfl : (σ130.1 0 9).toInt = (σ130.1 0 9).toInt) (show (0 : Int32).toInt = 0 from by decide)).mp c239 | skip
                    try unfold fX12_fails_j16
                    intro σ245 eσ245
                    have hσ245 : K2 σ0 σ245 := by rw [eσ245]; exact hσ130.u (Rg2.r_0_9 (leP (show (3 : Int32).toInt = 3 from by decide) (by omega)) (geP (show (3 : Int32).toInt = 3 from by decide) (by omega))) (fun q => absurd q.2 (by decide)) (fun q => absurd q.2 (by decide)) ⟨⟨by decide, by decide⟩, fun q => absurd q.2 (by decide)⟩
                    try dsimp only
                    exact hQ _ hσ245 (⟨(kq (a := 0) (b := 35) eσ245 (fun q => absurd q.2 (by decide))).trans ((kq (a := 0) (b := 35) eσ130 (fun q => absurd q.1 (by decide))).trans (k27.trans (hk0))), (kq (a := 0) (b := 36) eσ245 (fun q => absurd q.2 (by decide))).trans ((kq (a := 0) (b := 36) eσ130 (fun q => absurd q.1 (by decide))).trans (k29.trans (hk1))), (kq (a := 0) (b := 41) eσ245 (fun q => absurd q.2 (by decide))).trans ((kq (a := 0) (b := 41) eσ130 (fun q => absurd q.1 (by decide))).trans (k30.trans (hk2))), (kq (a := 0) (b := 50) eσ245 (fun q => absurd q.2 (by decide))).trans ((kq (a := 0) (b := 50) eσ130 (fun q => absurd q.1 (by decide))).trans (k31.trans (hk3))), (kq (a := 0) (b := 51) eσ245 (fun q => absurd q.2 (by decide))).trans ((kq (a := 0) (b := 51) eσ130 (fun q => absurd q.1 (by decide))).trans (k32.trans (hk4)))⟩)
                  · have f246 := K2.g_0_9 hσ130
                    have q247 : σ130.1 0 9 = σ25.1 0 9 := by rw [eσ130]; exact congrFun (u1_ne (by decide)) 9
                    have f248 := congrArg Int32.toInt q247
                    first | have f250 := (noteqE (rfl : (σ130.1 0 9).toInt = (σ130.1 0 9).toInt) (show (0 : Int32).toInt = 0 from by decide)).mp c239 | skip
                    try unfold fX12_fails_j16
                    intro σ251 eσ251
                    have hσ251 : K2 σ0 σ251 := by rw [eσ251]; exact hσ130.u (Rg2.r_0_9 (leP (rfl : (σ130.1 0 9).toInt = (σ130.1 0 9).toInt) (by omega)) (geP (rfl : (σ130.1 0 9).toInt = (σ130.1 0 9).toInt) (by omega))) (fun q => absurd q.2 (by decide)) (fun q => absurd q.2 (by decide)) ⟨⟨by decide, by decide⟩, fun q => absurd q.2 (by decide)⟩
                    try dsimp only
                    exact hQ _ hσ251 (⟨(kq (a := 0) (b := 35) eσ251 (fun q => absurd q.2 (by decide))).trans ((kq (a := 0) (b := 35) eσ130 (fun q => absurd q.1 (by decide))).trans (k27.trans (hk0))), (kq (a := 0) (b := 36) eσ251 (fun q => absurd q.2 (by decide))).trans ((kq (a := 0) (b := 36) eσ130 (fun q => absurd q.1 (by decide))).trans (k29.trans (hk1))), (kq (a := 0) (b := 41) eσ251 (fun q => absurd q.2 (by decide))).trans ((kq (a := 0) (b := 41) eσ130 (fun q => absurd q.1 (by decide))).trans (k30.trans (hk2))), (kq (a := 0) (b := 50) eσ251 (fun q => absurd q.2 (by decide))).trans ((kq (a := 0) (b := 50) eσ130 (fun q => absurd q.1 (by decide))).trans (k31.trans (hk3))), (kq (a := 0) (b := 51) eσ251 (fun q => absurd q.2 (by decide))).trans ((kq (a := 0) (b := 51) eσ130 (fun q => absurd q.1 (by decide))).trans (k32.trans (hk4)))⟩)
                · first | have f254 := (notltE (rfl : r34.toInt = r34.toInt) (show (8 : Int32).toInt = 8 from by decide)).mp c236 | skip
                  refine ⟨fun c255 => ?_, fun c255 => ?_⟩
                  · first | have f257 := (ltE (show (11 : Int32).toInt = 11 from by decide) (rfl : r34.toInt = r34.toInt)).mp c255 | skip
                    try unfold fX12_packed_j273
                    try unfold fX12_fails
                    refine ⟨fun c258 => ?_, fun c258 => ?_⟩
                    · have f259 := K2.g_0_9 hσ130
                      have q260 : σ130.1 0 9 = σ25.1 0 9 := by rw [eσ130]; exact congrFun (u1_ne (by decide)) 9
                      have f261 := congrArg Int32.toInt q260
                      first | have f263 := (eqE (rfl : (σ130.1 0 9).toInt = (σ130.1 0 9).toInt) (show (0 : Int32).toInt = 0 from by decide)).mp c258 | skip
                      try unfold fX12_fails_j16
                      intro σ264 eσ264
                      have hσ264 : K2 σ0 σ264 := by rw [eσ264]; exact hσ130.u (Rg2.r_0_9 (leP (show (3 : Int32).toInt = 3 from by decide) (by omega)) (geP (show (3 : Int32).toInt = 3 from by decide) (by omega))) (fun q => absurd q.2 (by decide)) (fun q => absurd q.2 (by decide)) ⟨⟨by decide, by decide⟩, fun q => absurd q.2 (by decide)⟩
                      try dsimp only
                      exact hQ _ hσ264 (⟨(kq (a := 0) (b := 35) eσ264 (fun q => absurd q.2 (by decide))).trans ((kq (a := 0) (b := 35) eσ130 (fun q => absurd q.1 (by decide))).trans (k27.trans (hk0))), (kq (a := 0) (b := 36) eσ264 (fun q => absurd q.2 (by decide))).trans ((kq (a := 0) (b := 36) eσ130 (fun q => absurd q.1 (by decide))).trans (k29.trans (hk1))), (kq (a := 0) (b := 41) eσ264 (fun q => absurd q.2 (by decide))).trans ((kq (a := 0) (b := 41) eσ130 (fun q => absurd q.1 (by decide))).trans (k30.trans (hk2))), (kq (a := 0) (b := 50) eσ264 (fun q => absurd q.2 (by decide))).trans ((kq (a := 0) (b := 50) eσ130 (fun q => absurd q.1 (by decide))).trans (k31.trans (hk3))), (kq (a := 0) (b := 51) eσ264 (fun q => absurd q.2 (by decide))).trans ((kq (a := 0) (b := 51) eσ130 (fun q => absurd q.1 (by decide))).trans (k32.trans (hk4)))⟩)
                    · have f265 := K2.g_0_9 hσ130
                      have q266 : σ130.1 0 9 = σ25.1 0 9 := by rw [eσ130]; exact congrFun (u1_ne (by decide)) 9
                      have f267 := congrArg Int32.toInt q266
                      first | have f269 := (noteqE (rfl : (σ130.1 0 9).toInt = (σ130.1 0 9).toInt) (show (0 : Int32).toInt = 0 from by decide)).mp c258 | skip
                      try unfold fX12_fails_j16
                      intro σ270 eσ270
                      have hσ270 : K2 σ0 σ270 := by rw [eσ270]; exact hσ130.u (Rg2.r_0_9 (leP (rfl : (σ130.1 0 9).toInt = (σ130.1 0 9).toInt) (by omega)) (geP (rfl : (σ130.1 0 9).toInt = (σ130.1 0 9).toInt) (by omega))) (fun q => absurd q.2 (by decide)) (fun q => absurd q.2 (by decide)) ⟨⟨by decide, by decide⟩, fun q => absurd q.2 (by decide)⟩
                      try dsimp only
                      exact hQ _ hσ270 (⟨(kq (a := 0) (b := 35) eσ270 (fun q => absurd q.2 (by decide))).trans ((kq (a := 0) (b := 35) eσ130 (fun q => absurd q.1 (by decide))).trans (k27.trans (hk0))), (kq (a := 0) (b := 36) eσ270 (fun q => absurd q.2 (by decide))).trans ((kq (a := 0) (b := 36) eσ130 (fun q => absurd q.1 (by decide))).trans (k29.trans (hk1))), (kq (a := 0) (b := 41) eσ270 (fun q => absurd q.2 (by decide))).trans ((kq (a := 0) (b := 41) eσ130 (fun q => absurd q.1 (by decide))).trans (k30.trans (hk2))), (kq (a := 0) (b := 50) eσ270 (fun q => absurd q.2 (by decide))).trans ((kq (a := 0) (b := 50) eσ130 (fun q => absurd q.1 (by decide))).trans (k31.trans (hk3))), (kq (a := 0) (b := 51) eσ270 (fun q => absurd q.2 (by decide))).trans ((kq (a := 0) (b := 51) eσ130 (fun q => absurd q.1 (by decide))).trans (k32.trans (hk4)))⟩)
                  · first | have f273 := (notltE (show (11 : Int32).toInt = 11 from by decide) (rfl : r34.toInt = r34.toInt)).mp c255 | skip
                    refine sX12_thing hN hσ130 (fun σ276 hσ276 kk283 => ?_)
                    obtain ⟨k277, k278, k279, k280, k281, k282⟩ := kk283
                    exact hQ _ hσ276 (⟨k277.trans ((kq (a := 0) (b := 35) eσ130 (fun q => absurd q.1 (by decide))).trans (k27.trans (hk0))), k279.trans ((kq (a := 0) (b := 36) eσ130 (fun q => absurd q.1 (by decide))).trans (k29.trans (hk1))), k280.trans ((kq (a := 0) (b := 41) eσ130 (fun q => absurd q.1 (by decide))).trans (k30.trans (hk2))), k281.trans ((kq (a := 0) (b := 50) eσ130 (fun q => absurd q.1 (by decide))).trans (k31.trans (hk3))), k282.trans ((kq (a := 0) (b := 51) eσ130 (fun q => absurd q.1 (by decide))).trans (k32.trans (hk4)))⟩)
  · have f284 := K2.g_0_9 hσ25
    first | have f285 := (notleE (rfl : (σ25.1 0 9).toInt = (σ25.1 0 9).toInt) (show (0 : Int32).toInt = 0 from by decide)).mp c36 | skip
    exact hQ _ hσ25 (⟨k27.trans (hk0), k29.trans (hk1), k30.trans (hk2), k31.trans (hk3), k32.trans (hk4)⟩)
set_option maxHeartbeats 4000000 in
theorem sX12_packed {N : Nat} (hN : 4294967400 ≤ N) {x1 : Int32} {Q : St → Prop} {σ0 σ : St} (hx0 : x1.toInt = (σ.1 0 14).toInt - 1) (hs0_14 : 1 ≤ (σ.1 0 14).toInt ∧ (σ.1 0 14).toInt ≤ 40) (hσ : K2 σ0 σ) (hQ : ∀ τ : St, K2 σ0 τ → (τ.1 0 35 = σ.1 0 35 ∧ τ.1 0 36 = σ.1 0 36 ∧ τ.1 0 41 = σ.1 0 41 ∧ τ.1 0 50 = σ.1 0 50 ∧ τ.1 0 51 = σ.1 0 51) → Q τ) : fX12_packed N x1 Q σ := by
  unfold fX12_packed
  refine ⟨fun c1 => ?_, fun c1 => ?_⟩
  · have f2 := tB (σ.1 0 6)
    first | have f3 := (eqE (rfl : (σ.1 0 6).toInt = (σ.1 0 6).toInt) (show (0 : Int32).toInt = 0 from by decide)).mp c1 | skip
    try unfold fX12_fails
    refine ⟨fun c4 => ?_, fun c4 => ?_⟩
    · have f5 := K2.g_0_9 hσ
      first | have f6 := (eqE (rfl : (σ.1 0 9).toInt = (σ.1 0 9).toInt) (show (0 : Int32).toInt = 0 from by decide)).mp c4 | skip
      try unfold fX12_fails_j16
      intro σ7 eσ7
      have hσ7 : K2 σ0 σ7 := by rw [eσ7]; exact hσ.u (Rg2.r_0_9 (leP (show (2 : Int32).toInt = 2 from by decide) (by omega)) (geP (show (2 : Int32).toInt = 2 from by decide) (by omega))) (fun q => absurd q.2 (by decide)) (fun q => absurd q.2 (by decide)) ⟨⟨by decide, by decide⟩, fun q => absurd q.2 (by decide)⟩
      try dsimp only
      exact hQ _ hσ7 (⟨(kq (a := 0) (b := 35) eσ7 (fun q => absurd q.2 (by decide))), (kq (a := 0) (b := 36) eσ7 (fun q => absurd q.2 (by decide))), (kq (a := 0) (b := 41) eσ7 (fun q => absurd q.2 (by decide))), (kq (a := 0) (b := 50) eσ7 (fun q => absurd q.2 (by decide))), (kq (a := 0) (b := 51) eσ7 (fun q => absurd q.2 (by decide)))⟩)
    · have f8 := K2.g_0_9 hσ
      first | have f9 := (noteqE (rfl : (σ.1 0 9).toInt = (σ.1 0 9).toInt) (show (0 : Int32).toInt = 0 from by decide)).mp c4 | skip
      try unfold fX12_fails_j16
      intro σ10 eσ10
      have hσ10 : K2 σ0 σ10 := by rw [eσ10]; exact hσ.u (Rg2.r_0_9 (leP (rfl : (σ.1 0 9).toInt = (σ.1 0 9).toInt) (by omega)) (geP (rfl : (σ.1 0 9).toInt = (σ.1 0 9).toInt) (by omega))) (fun q => absurd q.2 (by decide)) (fun q => absurd q.2 (by decide)) ⟨⟨by decide, by decide⟩, fun q => absurd q.2 (by decide)⟩
      try dsimp only
      exact hQ _ hσ10 (⟨(kq (a := 0) (b := 35) eσ10 (fun q => absurd q.2 (by decide))), (kq (a := 0) (b := 36) eσ10 (fun q => absurd q.2 (by decide))), (kq (a := 0) (b := 41) eσ10 (fun q => absurd q.2 (by decide))), (kq (a := 0) (b := 50) eσ10 (fun q => absurd q.2 (by decide))), (kq (a := 0) (b := 51) eσ10 (fun q => absurd q.2 (by decide)))⟩)
  · have f12 := tB (σ.1 0 6)
    first | have f13 := (noteqE (rfl : (σ.1 0 6).toInt = (σ.1 0 6).toInt) (show (0 : Int32).toInt = 0 from by decide)).mp c1 | skip
    have f14 := tB x1
    have g15 : vp_in x1 40 := inE (rfl : x1.toInt = x1.toInt) (by omega) (by omega)
    refine ⟨g15, ?_⟩
    refine ⟨fun c16 => ?_, fun c16 => ?_⟩
    · have f17 := tB (σ.1 11 x1.toNatClampNeg)
      first | have f18 := (eqE (rfl : (σ.1 11 x1.toNatClampNeg).toInt = (σ.1 11 x1.toNatClampNeg).toInt) (show (0 : Int32).toInt = 0 from by decide)).mp c16 | skip
      have g20 : vp_in x1 40 := inE (rfl : x1.toInt = x1.toInt) (by omega) (by omega)
      refine ⟨g20, ?_⟩
      have f287 := tB (σ.1 12 x1.toNatClampNeg)
      have f288 := K2.g_0_14 hσ
      exact sX12_packed_j44 hN (by omega) (by omega) rfl rfl rfl rfl rfl hσ hσ hQ
    · have f290 := tB (σ.1 11 x1.toNatClampNeg)
      first | have f291 := (noteqE (rfl : (σ.1 11 x1.toNatClampNeg).toInt = (σ.1 11 x1.toNatClampNeg).toInt) (show (0 : Int32).toInt = 0 from by decide)).mp c16 | skip
      refine sX12_four hN hσ (fun r302 σ293 hσ293 kk301 p303 => ?_)
      obtain ⟨k294, k295, k296, k297, k298, k299, k300⟩ := kk301
      have f305 := tB r302
      have f306 := K2.g_0_14 hσ293
      have f307 := congrArg Int32.toInt k294
      have f308 := K2.g_0_14 hσ
      exact sX12_packed_j44 hN (by omega) (by omega) (k295) (k297) (k298) (k299) (k300) hσ hσ293 hQ
set_option maxHeartbeats 4000000 in
theorem sX12_step_j181 {N : Nat} (hN : 4294967400 ≤ N) {x3 : Int32} {t0 : Int32} {t1 : Int32} {t2 : Int32} {Q : St → Prop} {σ0 σ τ : St} (hi0 : t2.toInt = (τ.1 0 14).toInt - 1) (hi1 : 1 ≤ (τ.1 0 14).toInt) (hk0 : τ.1 0 36 = σ.1 0 36) (hk1 : τ.1 0 41 = σ.1 0 41) (hk2 : τ.1 0 50 = σ.1 0 50) (hk3 : τ.1 0 51 = σ.1 0 51) (hσ : K2 σ0 σ) (hτ : K2 σ0 τ) (hQ : ∀ τ : St, K2 σ0 τ → (τ.1 0 36 = σ.1 0 36 ∧ τ.1 0 41 = σ.1 0 41 ∧ τ.1 0 50 = σ.1 0 50 ∧ τ.1 0 51 = σ.1 0 51) → Q τ) : fX12_step_j181 N x3 t0 t1 t2 Q τ := by
  unfold fX12_step_j181
  have f151 := tB x3
  have f152 := tB t0
  have f153 := tB t1
  have f154 := tB t2
  have f155 := K2.g_0_14 hτ
  intro v156 ev156
  refine ⟨inE (rfl : t2.toInt = t2.toInt) (by omega) (by omega), ?_⟩
  intro σ158 eσ158
  have hσ158 : K2 σ0 σ158 := by rw [eσ158]; exact hτ.u (Rg2.ra_7 _ _) (fun q => absurd q.1 (by decide)) (fun q => absurd q.1 (by decide)) ⟨⟨by decide, by decide⟩, fun q => absurd q.1 (by decide)⟩
  refine sX12_gives hN hσ158 (fun σ160 hσ160 kk166 => ?_)
  obtain ⟨k161, k162, k163, k164, k165⟩ := kk166
  exact hQ _ hσ160 (⟨k162.trans ((kq (a := 0) (b := 36) eσ158 (fun q => absurd q.1 (by decide))).trans (hk0)), k163.trans ((kq (a := 0) (b := 41) eσ158 (fun q => absurd q.1 (by decide))).trans (hk1)), k164.trans ((kq (a := 0) (b := 50) eσ158 (fun q => absurd q.1 (by decide))).trans (hk2)), k165.trans ((kq (a := 0) (b := 51) eσ158 (fun q => absurd q.1 (by decide))).trans (hk3))⟩)
set_option maxHeartbeats 4000000 in
theorem sX12_step_j164 {N : Nat} (hN : 4294967400 ≤ N) {x1 : Int32} {x2 : Int32} {x3 : Int32} {Q : St → Prop} {σ0 σ τ : St} (hi0 : x1.toInt = (τ.1 0 14).toInt - 1) (hi1 : 1 ≤ (τ.1 0 14).toInt) (hk0 : τ.1 0 36 = σ.1 0 36) (hk1 : τ.1 0 41 = σ.1 0 41) (hk2 : τ.1 0 50 = σ.1 0 50) (hk3 : τ.1 0 51 = σ.1 0 51) (hσ : K2 σ0 σ) (hτ : K2 σ0 τ) (hQ : ∀ τ : St, K2 σ0 τ → (τ.1 0 36 = σ.1 0 36 ∧ τ.1 0 41 = σ.1 0 41 ∧ τ.1 0 50 = σ.1 0 50 ∧ τ.1 0 51 = σ.1 0 51) → Q τ) : fX12_step_j164 N x1 x2 x3 Q τ := by
  unfold fX12_step_j164
  have f142 := tB x1
  have f143 := tB x2
  have f144 := tB x3
  have f145 := K2.g_0_14 hτ
  have g147 : vp_in x1 40 := inE (rfl : x1.toInt = x1.toInt) (by omega) (by omega)
  refine ⟨g147, ?_⟩
  refine ⟨fun c148 => ?_, fun c148 => ?_⟩
  · first | have f150 := (eqE (rfl : x2.toInt = x2.toInt) (show (1 : Int32).toInt = 1 from by decide)).mp c148 | skip
    have f168 := tB (τ.1 7 x1.toNatClampNeg)
    exact sX12_step_j181 hN (by omega) (by omega) (hk0) (hk1) (hk2) (hk3) hσ hτ hQ
  · first | have f173 := (noteqE (rfl : x2.toInt = x2.toInt) (show (1 : Int32).toInt = 1 from by decide)).mp c148 | skip
    have f175 := tB (τ.1 7 x1.toNatClampNeg)
    exact sX12_step_j181 hN (by omega) (by omega) (hk0) (hk1) (hk2) (hk3) hσ hτ hQ
set_option maxHeartbeats 4000000 in
theorem sX12_step_j139 {N : Nat} (hN : 4294967400 ≤ N) {x1 : Int32} {x2 : Int32} {t0 : Int32} {Q : St → Prop} {σ0 σ τ : St} (hi0 : x1.toInt = (τ.1 0 14).toInt - 1) (hi1 : 1 ≤ (τ.1 0 14).toInt) (hk0 : τ.1 0 36 = σ.1 0 36) (hk1 : τ.1 0 41 = σ.1 0 41) (hk2 : τ.1 0 50 = σ.1 0 50) (hk3 : τ.1 0 51 = σ.1 0 51) (hσ : K2 σ0 σ) (hτ : K2 σ0 τ) (hQ : ∀ τ : St, K2 σ0 τ → (τ.1 0 36 = σ.1 0 36 ∧ τ.1 0 41 = σ.1 0 41 ∧ τ.1 0 50 = σ.1 0 50 ∧ τ.1 0 51 = σ.1 0 51) → Q τ) : fX12_step_j139 N x1 x2 t0 Q τ := by
  unfold fX12_step_j139
  have f125 := tB x1
  have f126 := tB x2
  have f127 := tB t0
  have f128 := K2.g_0_14 hτ
  refine ⟨fun c129 => ?_, fun c129 => ?_⟩
  · have f130 := K2.g_0_9 hτ
    first | have f131 := (eqE (rfl : (τ.1 0 9).toInt = (τ.1 0 9).toInt) (show (0 : Int32).toInt = 0 from by decide)).mp c129 | skip
    refine ⟨fun c132 => ?_, fun c132 => ?_⟩
    · first | have f134 := (eqE (rfl : t0.toInt = t0.toInt) (show (0 : Int32).toInt = 0 from by decide)).mp c132 | skip
      intro v135 ev135
      intro σ136 eσ136
      have f137 := tB v135
      first | have f139 : v135.toInt = ((τ.1 0 14).toInt - (1)) := (congrArg Int32.toInt ev135).trans (sOkE (rfl : (τ.1 0 14).toInt = (τ.1 0 14).toInt) (show (1 : Int32).toInt = 1 from by decide) (by omega) (by omega)) | skip
      have hσ136 : K2 σ0 σ136 := by rw [eσ136]; exact hτ.u14 (Rg2.r_0_14 (leP (rfl : v135.toInt = v135.toInt) (by omega)) (geP (rfl : v135.toInt = v135.toInt) (by omega))) (Or.inr (by rcases hτ.Zz with z | z <;> omega))
      exact hQ _ hσ136 (⟨(kq (a := 0) (b := 36) eσ136 (fun q => absurd q.2 (by decide))).trans (hk0), (kq (a := 0) (b := 41) eσ136 (fun q => absurd q.2 (by decide))).trans (hk1), (kq (a := 0) (b := 50) eσ136 (fun q => absurd q.2 (by decide))).trans (hk2), (kq (a := 0) (b := 51) eσ136 (fun q => absurd q.2 (by decide))).trans (hk3)⟩)
    · first | have f141 := (noteqE (rfl : t0.toInt = t0.toInt) (show (0 : Int32).toInt = 0 from by decide)).mp c132 | skip
      exact sX12_step_j164 hN (by omega) (by omega) (hk0) (hk1) (hk2) (hk3) hσ hτ hQ
  · have f184 := K2.g_0_9 hτ
    first | have f185 := (noteqE (rfl : (τ.1 0 9).toInt = (τ.1 0 9).toInt) (show (0 : Int32).toInt = 0 from by decide)).mp c129 | skip
    exact sX12_step_j164 hN (by omega) (by omega) (hk0) (hk1) (hk2) (hk3) hσ hτ hQ
set_option maxHeartbeats 4000000 in
theorem sX12_step {N : Nat} (hN : 4294967400 ≤ N) {Q : St → Prop} {σ0 σ : St} (hs0_14 : 1 ≤ (σ.1 0 14).toInt ∧ (σ.1 0 14).toInt ≤ 40) (hσ : K2 σ0 σ) (hQ : ∀ τ : St, K2 σ0 τ → (τ.1 0 36 = σ.1 0 36 ∧ τ.1 0 41 = σ.1 0 41 ∧ τ.1 0 50 = σ.1 0 50 ∧ τ.1 0 51 = σ.1 0 51) → Q τ) : fX12_step N  Q σ := by
  unfold fX12_step
  intro v1 ev1
  have f2 := tB v1
  have f3 := K2.g_0_14 hσ
  first | have f4 : v1.toInt = ((σ.1 0 14).toInt - (1)) := (congrArg Int32.toInt ev1).trans (sOkE (rfl : (σ.1 0 14).toInt = (σ.1 0 14).toInt) (show (1 : Int32).toInt = 1 from by decide) (by omega) (by omega)) | skip
  have g5 : vp_in v1 40 := inE (rfl : v1.toInt = v1.toInt) (by omega) (by omega)
  refine ⟨g5, ?_⟩
  intro v6 ev6
  refine ⟨fun c7 => ?_, fun c7 => ?_⟩
  · have f8 := tB v6
    have f9 := tB (σ.1 6 v1.toNatClampNeg)
    first | have f10 : v6.toInt = (σ.1 6 v1.toNatClampNeg).toInt := (congrArg Int32.toInt ev6).trans (rfl : (σ.1 6 v1.toNatClampNeg).toInt = (σ.1 6 v1.toNatClampNeg).toInt) | skip
    first | have f11 := (eqE (rfl : v6.toInt = v6.toInt) (show (0 : Int32).toInt = 0 from by decide)).mp c7 | skip
    refine sX12_order hN (by omega) ⟨by omega, by omega⟩ hσ (fun σ13 hσ13 kk20 => ?_)
    obtain ⟨k16, k17, k18, k19⟩ := kk20
    exact hQ _ hσ13 (⟨k16, k17, k18, k19⟩)
  · have f21 := tB v6
    have f22 := tB (σ.1 6 v1.toNatClampNeg)
    first | have f23 : v6.toInt = (σ.1 6 v1.toNatClampNeg).toInt := (congrArg Int32.toInt ev6).trans (rfl : (σ.1 6 v1.toNatClampNeg).toInt = (σ.1 6 v1.toNatClampNeg).toInt) | skip
    first | have f24 := (noteqE (rfl : v6.toInt = v6.toInt) (show (0 : Int32).toInt = 0 from by decide)).mp c7 | skip
    refine ⟨fun c25 => ?_, fun c25 => ?_⟩
    · first | have f27 := (eqE (rfl : v6.toInt = v6.toInt) (show (3 : Int32).toInt = 3 from by decide)).mp c25 | skip
      refine sX12_packed hN (by omega) ⟨by omega, by omega⟩ hσ (fun σ29 hσ29 kk37 => ?_)
      obtain ⟨k32, k33, k34, k35, k36⟩ := kk37
      exact hQ _ hσ29 (⟨k33, k34, k35, k36⟩)
    · first | have f39 := (noteqE (rfl : v6.toInt = v6.toInt) (show (3 : Int32).toInt = 3 from by decide)).mp c25 | skip
      refine ⟨fun c40 => ?_, fun c40 => ?_⟩
      · first | have f42 := (eqE (rfl : v6.toInt = v6.toInt) (show (4 : Int32).toInt = 4 from by decide)).mp c40 | skip
        have g44 : vp_in v1 40 := inE (rfl : v1.toInt = v1.toInt) (by omega) (by omega)
        refine ⟨g44, ?_⟩
        have g46 : vp_in v1 40 := inE (rfl : v1.toInt = v1.toInt) (by omega) (by omega)
        refine ⟨g46, ?_⟩
        have f47 := tB (σ.1 7 v1.toNatClampNeg)
        refine sX12_digits hN hσ (fun r58 p59 => ?_)
        refine ⟨fun c60 => ?_, fun c60 => ?_⟩
        · have f61 := tB (σ.1 8 v1.toNatClampNeg)
          have f62 := tB r58
          first | have f63 := (eqE (rfl : (σ.1 8 v1.toNatClampNeg).toInt = (σ.1 8 v1.toNatClampNeg).toInt) (rfl : r58.toInt = r58.toInt)).mp c60 | skip
          intro v64 ev64
          intro σ65 eσ65
          have f66 := tB v64
          first | have f68 : v64.toInt = ((σ.1 0 14).toInt - (1)) := (congrArg Int32.toInt ev64).trans (sOkE (rfl : (σ.1 0 14).toInt = (σ.1 0 14).toInt) (show (1 : Int32).toInt = 1 from by decide) (by omega) (by omega)) | skip
          have hσ65 : K2 σ0 σ65 := by rw [eσ65]; exact hσ.u14 (Rg2.r_0_14 (leP (rfl : v64.toInt = v64.toInt) (by omega)) (geP (rfl : v64.toInt = v64.toInt) (by omega))) (Or.inr (by rcases hσ.Zz with z | z <;> omega))
          exact hQ _ hσ65 (⟨(kq (a := 0) (b := 36) eσ65 (fun q => absurd q.2 (by decide))), (kq (a := 0) (b := 41) eσ65 (fun q => absurd q.2 (by decide))), (kq (a := 0) (b := 50) eσ65 (fun q => absurd q.2 (by decide))), (kq (a := 0) (b := 51) eσ65 (fun q => absurd q.2 (by decide)))⟩)
        · have f69 := tB (σ.1 8 v1.toNatClampNeg)
          have f70 := tB r58
          first | have f71 := (noteqE (rfl : (σ.1 8 v1.toNatClampNeg).toInt = (σ.1 8 v1.toNatClampNeg).toInt) (rfl : r58.toInt = r58.toInt)).mp c60 | skip
          have g73 : vp_in v1 40 := inE (rfl : v1.toInt = v1.toInt) (by omega) (by omega)
          refine ⟨g73, ?_⟩
          intro v74 ev74
          refine ⟨inE (rfl : v1.toInt = v1.toInt) (by omega) (by omega), ?_⟩
          intro σ76 eσ76
          have hσ76 : K2 σ0 σ76 := by rw [eσ76]; exact hσ.u (Rg2.ra_8 _ _) (fun q => absurd q.1 (by decide)) (fun q => absurd q.1 (by decide)) ⟨⟨by decide, by decide⟩, fun q => absurd q.1 (by decide)⟩
          have g78 : vp_in v1 40 := inE (rfl : v1.toInt = v1.toInt) (by omega) (by omega)
          refine ⟨g78, ?_⟩
          have g80 : vp_in v1 40 := inE (rfl : v1.toInt = v1.toInt) (by omega) (by omega)
          refine ⟨g80, ?_⟩
          have f81 := tB (σ76.1 7 v1.toNatClampNeg)
          have q82 : σ76.1 7 v1.toNatClampNeg = σ.1 7 v1.toNatClampNeg := by rw [eσ76]; exact congrFun (u1_ne (by decide)) _
          have f83 := congrArg Int32.toInt q82
          have f85 := tB (σ76.1 8 v1.toNatClampNeg)
          refine sX12_digit hN hσ76 (fun r96 p97 => ?_)
          have f98 := tB r96
          refine sX12_gives hN hσ76 (fun σ99 hσ99 kk105 => ?_)
          obtain ⟨k100, k101, k102, k103, k104⟩ := kk105
          exact hQ _ hσ99 (⟨k101.trans ((kq (a := 0) (b := 36) eσ76 (fun q => absurd q.1 (by decide)))), k102.trans ((kq (a := 0) (b := 41) eσ76 (fun q => absurd q.1 (by decide)))), k103.trans ((kq (a := 0) (b := 50) eσ76 (fun q => absurd q.1 (by decide)))), k104.trans ((kq (a := 0) (b := 51) eσ76 (fun q => absurd q.1 (by decide))))⟩)
      · first | have f107 := (noteqE (rfl : v6.toInt = v6.toInt) (show (4 : Int32).toInt = 4 from by decide)).mp c40 | skip
        refine ⟨fun c108 => ?_, fun c108 => ?_⟩
        · first | have f110 := (eqE (rfl : v6.toInt = v6.toInt) (show (1 : Int32).toInt = 1 from by decide)).mp c108 | skip
          have g112 : vp_in v1 40 := inE (rfl : v1.toInt = v1.toInt) (by omega) (by omega)
          refine ⟨g112, ?_⟩
          have f113 := tB (σ.1 7 v1.toNatClampNeg)
          refine sX12_read hN hσ (fun r123 σ114 hσ114 kk122 p124 => ?_)
          obtain ⟨k115, k116, k117, k118, k119, k120, k121⟩ := kk122
          have f193 := tB r123
          have f194 := K2.g_0_14 hσ114
          have f195 := congrArg Int32.toInt k115
          exact sX12_step_j139 hN (by omega) (by omega) (k118) (k119) (k120) (k121) hσ hσ114 hQ
        · first | have f199 := (noteqE (rfl : v6.toInt = v6.toInt) (show (1 : Int32).toInt = 1 from by decide)).mp c108 | skip
          have g201 : vp_in v1 40 := inE (rfl : v1.toInt = v1.toInt) (by omega) (by omega)
          refine ⟨g201, ?_⟩
          have f202 := tB (σ.1 7 v1.toNatClampNeg)
          refine sX12_four hN hσ (fun r212 σ203 hσ203 kk211 p213 => ?_)
          obtain ⟨k204, k205, k206, k207, k208, k209, k210⟩ := kk211
          have f216 := tB r212
          have f217 := K2.g_0_14 hσ203
          have f218 := congrArg Int32.toInt k204
          exact sX12_step_j139 hN (by omega) (by omega) (k207) (k208) (k209) (k210) hσ hσ203 hQ
set_option maxHeartbeats 4000000 in
theorem sX12_runs {N : Nat} (hN : 4294967400 ≤ N) {x1 : Int32} {Q : Int32 → St → Prop} {σ0 σ : St} (hσ : K2 σ0 σ) (hQ : ∀ (r : Int32) (τ : St), K2 σ0 τ → (τ.1 0 36 = σ.1 0 36 ∧ τ.1 0 41 = σ.1 0 41 ∧ τ.1 0 50 = σ.1 0 50 ∧ τ.1 0 51 = σ.1 0 51) → True → Q r τ) : fX12_runs N x1 Q σ := by
  unfold fX12_runs
  intro v1 ev1
  have f3 := tB x1
  have f4 := tB v1
  have f5 := tB (σ.1 0 26)
  first | have f6 : v1.toInt = (σ.1 0 26).toInt := (congrArg Int32.toInt ev1).trans (rfl : (σ.1 0 26).toInt = (σ.1 0 26).toInt) | skip
  refine lo1_i (fun (y2 : Int32) (ω : St) => K2 σ0 ω ∧ ω.1 0 36 = σ.1 0 36 ∧ ω.1 0 41 = σ.1 0 41 ∧ ω.1 0 50 = σ.1 0 50 ∧ ω.1 0 51 = σ.1 0 51 ∧ 0 ≤ y2.toInt) (fun (y2 : Int32) (ω : St) => (2147483648 - y2.toInt).toNat) ?_ N (0 : Int32) σ ⟨hσ, rfl, rfl, rfl, rfl, by first | decide | (have z0 : (0 : Int32).toInt = 0 := (by decide); omega)⟩ (by have z0 : (0 : Int32).toInt = 0 := (by decide); (try dsimp only); omega)
  intro rr7 y10 σ9 hIσ9 ih8
  obtain ⟨hσ9, k11, k12, k13, k14, i15⟩ := hIσ9
  unfold fX12_runs_l7
  have f16 := tB y10
  refine ⟨fun c17 => ?_, fun c17 => ?_⟩
  · first | have f20 := (leE (rfl : x1.toInt = x1.toInt) (rfl : y10.toInt = y10.toInt)).mp c17 | skip
    try unfold fX12_runs_j46
    refine ⟨fun c21 => ?_, fun c21 => ?_⟩
    · have f22 := K2.g_0_9 hσ9
      first | have f23 := (leE (rfl : (σ9.1 0 9).toInt = (σ9.1 0 9).toInt) (show (0 : Int32).toInt = 0 from by decide)).mp c21 | skip
      refine ⟨fun c24 => ?_, fun c24 => ?_⟩
      · have f25 := K2.g_0_14 hσ9
        first | have f26 := (eqE (rfl : (σ9.1 0 14).toInt = (σ9.1 0 14).toInt) (show (0 : Int32).toInt = 0 from by decide)).mp c24 | skip
        exact hQ _ _ hσ9 (⟨k11, k12, k13, k14⟩) trivial
      · have f27 := K2.g_0_14 hσ9
        first | have f28 := (noteqE (rfl : (σ9.1 0 14).toInt = (σ9.1 0 14).toInt) (show (0 : Int32).toInt = 0 from by decide)).mp c24 | skip
        exact hQ _ _ hσ9 (⟨k11, k12, k13, k14⟩) trivial
    · have f29 := K2.g_0_9 hσ9
      first | have f30 := (notleE (rfl : (σ9.1 0 9).toInt = (σ9.1 0 9).toInt) (show (0 : Int32).toInt = 0 from by decide)).mp c21 | skip
      refine sX12_failed hN hσ9 (fun r40 σ31 hσ31 kk39 p41 => ?_)
      obtain ⟨k32, k33, k34, k35, k36, k37, k38⟩ := kk39
      exact hQ _ _ hσ31 (⟨k35.trans (k11), k36.trans (k12), k37.trans (k13), k38.trans (k14)⟩) trivial
  · first | have f44 := (notleE (rfl : x1.toInt = x1.toInt) (rfl : y10.toInt = y10.toInt)).mp c17 | skip
    refine ⟨fun c45 => ?_, fun c45 => ?_⟩
    · have f46 := K2.g_0_14 hσ9
      first | have f47 := (leE (rfl : (σ9.1 0 14).toInt = (σ9.1 0 14).toInt) (show (0 : Int32).toInt = 0 from by decide)).mp c45 | skip
      try unfold fX12_runs_j46
      refine ⟨fun c48 => ?_, fun c48 => ?_⟩
      · have f49 := K2.g_0_9 hσ9
        first | have f50 := (leE (rfl : (σ9.1 0 9).toInt = (σ9.1 0 9).toInt) (show (0 : Int32).toInt = 0 from by decide)).mp c48 | skip
        refine ⟨fun c51 => ?_, fun c51 => ?_⟩
        · first | have f53 := (eqE (rfl : (σ9.1 0 14).toInt = (σ9.1 0 14).toInt) (show (0 : Int32).toInt = 0 from by decide)).mp c51 | skip
          exact hQ _ _ hσ9 (⟨k11, k12, k13, k14⟩) trivial
        · first | have f55 := (noteqE (rfl : (σ9.1 0 14).toInt = (σ9.1 0 14).toInt) (show (0 : Int32).toInt = 0 from by decide)).mp c51 | skip
          exact hQ _ _ hσ9 (⟨k11, k12, k13, k14⟩) trivial
      · have f56 := K2.g_0_9 hσ9
        first | have f57 := (notleE (rfl : (σ9.1 0 9).toInt = (σ9.1 0 9).toInt) (show (0 : Int32).toInt = 0 from by decide)).mp c48 | skip
        refine sX12_failed hN hσ9 (fun r67 σ58 hσ58 kk66 p68 => ?_)
        obtain ⟨k59, k60, k61, k62, k63, k64, k65⟩ := kk66
        exact hQ _ _ hσ58 (⟨k62.trans (k11), k63.trans (k12), k64.trans (k13), k65.trans (k14)⟩) trivial
    · have f69 := K2.g_0_14 hσ9
      first | have f70 := (notleE (rfl : (σ9.1 0 14).toInt = (σ9.1 0 14).toInt) (show (0 : Int32).toInt = 0 from by decide)).mp c45 | skip
      refine ⟨fun c71 => ?_, fun c71 => ?_⟩
      · have f72 := K2.g_0_9 hσ9
        first | have f73 := (eqE (rfl : (σ9.1 0 9).toInt = (σ9.1 0 9).toInt) (show (0 : Int32).toInt = 0 from by decide)).mp c71 | skip
        intro v74 ev74
        intro σ75 eσ75
        have hσ75 : K2 σ0 σ75 := by rw [eσ75]; exact hσ9.u (Rg2.u_0_25 _) (fun q => absurd q.2 (by decide)) (fun q => absurd q.2 (by decide)) ⟨⟨by decide, by decide⟩, fun q => absurd q.2 (by decide)⟩
        have f77 := K2.g_0_14 hσ75
        have q78 : σ75.1 0 14 = σ9.1 0 14 := by rw [eσ75, u1_at]; exact if_neg (by decide)
        have f79 := congrArg Int32.toInt q78
        refine sX12_step hN ⟨by omega, by omega⟩ hσ75 (fun σ76 hσ76 kk85 => ?_)
        obtain ⟨k81, k82, k83, k84⟩ := kk85
        intro v86 ev86
        have f87 := tB v86
        first | have f89 : v86.toInt = (y10.toInt + (1)) := (congrArg Int32.toInt ev86).trans (aOkE (rfl : y10.toInt = y10.toInt) (show (1 : Int32).toInt = 1 from by decide) (by omega) (by omega)) | skip
        exact ih8 v86 σ76 ⟨hσ76, k81.trans ((kq (a := 0) (b := 36) eσ75 (fun q => absurd q.2 (by decide))).trans (k11)), k82.trans ((kq (a := 0) (b := 41) eσ75 (fun q => absurd q.2 (by decide))).trans (k12)), k83.trans ((kq (a := 0) (b := 50) eσ75 (fun q => absurd q.2 (by decide))).trans (k13)), k84.trans ((kq (a := 0) (b := 51) eσ75 (fun q => absurd q.2 (by decide))).trans (k14)), by omega⟩ (by (try dsimp only); omega)
      · have f90 := K2.g_0_9 hσ9
        first | have f91 := (noteqE (rfl : (σ9.1 0 9).toInt = (σ9.1 0 9).toInt) (show (0 : Int32).toInt = 0 from by decide)).mp c71 | skip
        try unfold fX12_runs_j46
        refine ⟨fun c92 => ?_, fun c92 => ?_⟩
        · first | have f94 := (leE (rfl : (σ9.1 0 9).toInt = (σ9.1 0 9).toInt) (show (0 : Int32).toInt = 0 from by decide)).mp c92 | skip
          refine ⟨fun c95 => ?_, fun c95 => ?_⟩
          · first | have f97 := (eqE (rfl : (σ9.1 0 14).toInt = (σ9.1 0 14).toInt) (show (0 : Int32).toInt = 0 from by decide)).mp c95 | skip
            exact hQ _ _ hσ9 (⟨k11, k12, k13, k14⟩) trivial
          · first | have f99 := (noteqE (rfl : (σ9.1 0 14).toInt = (σ9.1 0 14).toInt) (show (0 : Int32).toInt = 0 from by decide)).mp c95 | skip
            exact hQ _ _ hσ9 (⟨k11, k12, k13, k14⟩) trivial
        · first | have f101 := (notleE (rfl : (σ9.1 0 9).toInt = (σ9.1 0 9).toInt) (show (0 : Int32).toInt = 0 from by decide)).mp c92 | skip
          refine sX12_failed hN hσ9 (fun r111 σ102 hσ102 kk110 p112 => ?_)
          obtain ⟨k103, k104, k105, k106, k107, k108, k109⟩ := kk110
          exact hQ _ _ hσ102 (⟨k106.trans (k11), k107.trans (k12), k108.trans (k13), k109.trans (k14)⟩) trivial
set_option maxHeartbeats 4000000 in
theorem sX12_print {N : Nat} (hN : 4294967400 ≤ N) {x1 : Int32} {x2 : Int32} {Q : Int32 → St → Prop} {σ0 σ : St} (hσ : K2 σ0 σ) (hQ : ∀ (r : Int32) (τ : St), K2 σ0 τ → (τ.1 0 36 = σ.1 0 36 ∧ τ.1 0 41 = σ.1 0 41 ∧ τ.1 0 50 = σ.1 0 50 ∧ τ.1 0 51 = σ.1 0 51) → True → Q r τ) : fX12_print N x1 x2 Q σ := by
  unfold fX12_print
  try unfold fX12_in
  refine ⟨fun c1 => ?_, fun c1 => ?_⟩
  · have f2 := tB x2
    first | have f3 := (ltE64 (i2lE (rfl : x2.toInt = x2.toInt)) (show (0 : Int64).toInt = 0 from by decide)).mp c1 | skip
    try dsimp only
    refine ⟨fun c4 => ?_, fun c4 => ?_⟩
    · first | have f5 := (eqE (show (0 : Int32).toInt = 0 from by decide) (show (0 : Int32).toInt = 0 from by decide)).mp c4 | skip
      exact hQ _ _ hσ (⟨rfl, rfl, rfl, rfl⟩) trivial
    · first | have f6 := (noteqE (show (0 : Int32).toInt = 0 from by decide) (show (0 : Int32).toInt = 0 from by decide)).mp c4 | skip
      refine ⟨fun c7 => ?_, fun c7 => ?_⟩
      · have f8 := K2.g_0_14 hσ
        first | have f9 := (leE (rfl : (σ.1 0 14).toInt = (σ.1 0 14).toInt) (show (0 : Int32).toInt = 0 from by decide)).mp c7 | skip
        intro σ10 eσ10
        have hσ10 : K2 σ0 σ10 := by rw [eσ10]; exact hσ.u (Rg2.r_0_9 (leP (show (0 : Int32).toInt = 0 from by decide) (by omega)) (geP (show (0 : Int32).toInt = 0 from by decide) (by omega))) (fun q => absurd q.2 (by decide)) (fun q => absurd q.2 (by decide)) ⟨⟨by decide, by decide⟩, fun q => absurd q.2 (by decide)⟩
        have f11 := tB x1
        refine sX12_prints hN hσ10 (fun σ12 hσ12 kk19 => ?_)
        obtain ⟨k13, k14, k15, k16, k17, k18⟩ := kk19
        refine sX12_runs hN hσ12 (fun r27 σ21 hσ21 kk26 p28 => ?_)
        obtain ⟨k22, k23, k24, k25⟩ := kk26
        exact hQ _ _ hσ21 (⟨k22.trans (k15.trans ((kq (a := 0) (b := 36) eσ10 (fun q => absurd q.2 (by decide))))), k23.trans (k16.trans ((kq (a := 0) (b := 41) eσ10 (fun q => absurd q.2 (by decide))))), k24.trans (k17.trans ((kq (a := 0) (b := 50) eσ10 (fun q => absurd q.2 (by decide))))), k25.trans (k18.trans ((kq (a := 0) (b := 51) eσ10 (fun q => absurd q.2 (by decide)))))⟩) trivial
      · have f29 := K2.g_0_14 hσ
        first | have f30 := (notleE (rfl : (σ.1 0 14).toInt = (σ.1 0 14).toInt) (show (0 : Int32).toInt = 0 from by decide)).mp c7 | skip
        exact hQ _ _ hσ (⟨rfl, rfl, rfl, rfl⟩) trivial
  · have f31 := tB x2
    first | have f32 := (notltE64 (i2lE (rfl : x2.toInt = x2.toInt)) (show (0 : Int64).toInt = 0 from by decide)).mp c1 | skip
    refine ⟨fun c33 => ?_, fun c33 => ?_⟩
    · first | have f35 := (ltE64 (show (100000 : Int64).toInt = 100000 from by decide) (i2lE (rfl : x2.toInt = x2.toInt))).mp c33 | skip
      try dsimp only
      refine ⟨fun c36 => ?_, fun c36 => ?_⟩
      · first | have f37 := (eqE (show (0 : Int32).toInt = 0 from by decide) (show (0 : Int32).toInt = 0 from by decide)).mp c36 | skip
        exact hQ _ _ hσ (⟨rfl, rfl, rfl, rfl⟩) trivial
      · first | have f38 := (noteqE (show (0 : Int32).toInt = 0 from by decide) (show (0 : Int32).toInt = 0 from by decide)).mp c36 | skip
        refine ⟨fun c39 => ?_, fun c39 => ?_⟩
        · have f40 := K2.g_0_14 hσ
          first | have f41 := (leE (rfl : (σ.1 0 14).toInt = (σ.1 0 14).toInt) (show (0 : Int32).toInt = 0 from by decide)).mp c39 | skip
          intro σ42 eσ42
          have hσ42 : K2 σ0 σ42 := by rw [eσ42]; exact hσ.u (Rg2.r_0_9 (leP (show (0 : Int32).toInt = 0 from by decide) (by omega)) (geP (show (0 : Int32).toInt = 0 from by decide) (by omega))) (fun q => absurd q.2 (by decide)) (fun q => absurd q.2 (by decide)) ⟨⟨by decide, by decide⟩, fun q => absurd q.2 (by decide)⟩
          have f43 := tB x1
          refine sX12_prints hN hσ42 (fun σ44 hσ44 kk51 => ?_)
          obtain ⟨k45, k46, k47, k48, k49, k50⟩ := kk51
          refine sX12_runs hN hσ44 (fun r59 σ53 hσ53 kk58 p60 => ?_)
          obtain ⟨k54, k55, k56, k57⟩ := kk58
          exact hQ _ _ hσ53 (⟨k54.trans (k47.trans ((kq (a := 0) (b := 36) eσ42 (fun q => absurd q.2 (by decide))))), k55.trans (k48.trans ((kq (a := 0) (b := 41) eσ42 (fun q => absurd q.2 (by decide))))), k56.trans (k49.trans ((kq (a := 0) (b := 50) eσ42 (fun q => absurd q.2 (by decide))))), k57.trans (k50.trans ((kq (a := 0) (b := 51) eσ42 (fun q => absurd q.2 (by decide)))))⟩) trivial
        · have f61 := K2.g_0_14 hσ
          first | have f62 := (notleE (rfl : (σ.1 0 14).toInt = (σ.1 0 14).toInt) (show (0 : Int32).toInt = 0 from by decide)).mp c39 | skip
          exact hQ _ _ hσ (⟨rfl, rfl, rfl, rfl⟩) trivial
    · first | have f64 := (notltE64 (show (100000 : Int64).toInt = 100000 from by decide) (i2lE (rfl : x2.toInt = x2.toInt))).mp c33 | skip
      try dsimp only
      refine ⟨fun c65 => ?_, fun c65 => ?_⟩
      · first | have f66 := (eqE (show (1 : Int32).toInt = 1 from by decide) (show (0 : Int32).toInt = 0 from by decide)).mp c65 | skip
        exact hQ _ _ hσ (⟨rfl, rfl, rfl, rfl⟩) trivial
      · first | have f67 := (noteqE (show (1 : Int32).toInt = 1 from by decide) (show (0 : Int32).toInt = 0 from by decide)).mp c65 | skip
        refine ⟨fun c68 => ?_, fun c68 => ?_⟩
        · have f69 := K2.g_0_14 hσ
          first | have f70 := (leE (rfl : (σ.1 0 14).toInt = (σ.1 0 14).toInt) (show (0 : Int32).toInt = 0 from by decide)).mp c68 | skip
          intro σ71 eσ71
          have hσ71 : K2 σ0 σ71 := by rw [eσ71]; exact hσ.u (Rg2.r_0_9 (leP (show (0 : Int32).toInt = 0 from by decide) (by omega)) (geP (show (0 : Int32).toInt = 0 from by decide) (by omega))) (fun q => absurd q.2 (by decide)) (fun q => absurd q.2 (by decide)) ⟨⟨by decide, by decide⟩, fun q => absurd q.2 (by decide)⟩
          have f72 := tB x1
          refine sX12_prints hN hσ71 (fun σ73 hσ73 kk80 => ?_)
          obtain ⟨k74, k75, k76, k77, k78, k79⟩ := kk80
          refine sX12_runs hN hσ73 (fun r88 σ82 hσ82 kk87 p89 => ?_)
          obtain ⟨k83, k84, k85, k86⟩ := kk87
          exact hQ _ _ hσ82 (⟨k83.trans (k76.trans ((kq (a := 0) (b := 36) eσ71 (fun q => absurd q.2 (by decide))))), k84.trans (k77.trans ((kq (a := 0) (b := 41) eσ71 (fun q => absurd q.2 (by decide))))), k85.trans (k78.trans ((kq (a := 0) (b := 50) eσ71 (fun q => absurd q.2 (by decide))))), k86.trans (k79.trans ((kq (a := 0) (b := 51) eσ71 (fun q => absurd q.2 (by decide)))))⟩) trivial
        · have f90 := K2.g_0_14 hσ
          first | have f91 := (notleE (rfl : (σ.1 0 14).toInt = (σ.1 0 14).toInt) (show (0 : Int32).toInt = 0 from by decide)).mp c68 | skip
          exact hQ _ _ hσ (⟨rfl, rfl, rfl, rfl⟩) trivial
set_option maxHeartbeats 4000000 in
theorem sX12_number {N : Nat} (hN : 4294967400 ≤ N) {x1 : Int32} {x2 : Int32} {Q : Int32 → St → Prop} {σ0 σ : St} (hσ : K2 σ0 σ) (hQ : ∀ (r : Int32) (τ : St), K2 σ0 τ → (τ.1 0 36 = σ.1 0 36 ∧ τ.1 0 41 = σ.1 0 41 ∧ τ.1 0 50 = σ.1 0 50 ∧ τ.1 0 51 = σ.1 0 51) → True → Q r τ) : fX12_number N x1 x2 Q σ := by
  unfold fX12_number
  try unfold fX12_in
  refine ⟨fun c1 => ?_, fun c1 => ?_⟩
  · have f2 := tB x2
    first | have f3 := (ltE64 (i2lE (rfl : x2.toInt = x2.toInt)) (show (0 : Int64).toInt = 0 from by decide)).mp c1 | skip
    try dsimp only
    refine ⟨fun c4 => ?_, fun c4 => ?_⟩
    · first | have f5 := (eqE (show (0 : Int32).toInt = 0 from by decide) (show (0 : Int32).toInt = 0 from by decide)).mp c4 | skip
      exact hQ _ _ hσ (⟨rfl, rfl, rfl, rfl⟩) trivial
    · first | have f6 := (noteqE (show (0 : Int32).toInt = 0 from by decide) (show (0 : Int32).toInt = 0 from by decide)).mp c4 | skip
      refine ⟨fun c7 => ?_, fun c7 => ?_⟩
      · have f8 := K2.g_0_14 hσ
        first | have f9 := (leE (rfl : (σ.1 0 14).toInt = (σ.1 0 14).toInt) (show (0 : Int32).toInt = 0 from by decide)).mp c7 | skip
        intro σ10 eσ10
        have hσ10 : K2 σ0 σ10 := by rw [eσ10]; exact hσ.u (Rg2.r_0_9 (leP (show (0 : Int32).toInt = 0 from by decide) (by omega)) (geP (show (0 : Int32).toInt = 0 from by decide) (by omega))) (fun q => absurd q.2 (by decide)) (fun q => absurd q.2 (by decide)) ⟨⟨by decide, by decide⟩, fun q => absurd q.2 (by decide)⟩
        have f11 := tB x1
        refine sX12_lays hN hσ10 (fun σ12 hσ12 kk19 => ?_)
        have f22 := K2.g_0_9 hσ10
        have q23 : σ10.1 0 9 = 0 := by rw [eσ10, u1_at]; exact if_pos rfl
        first | have f24 : (σ10.1 0 9).toInt = (0) := (congrArg Int32.toInt q23).trans (show (0 : Int32).toInt = 0 from by decide) | skip
        have f26 := K2.g_0_14 hσ10
        have q27 : σ10.1 0 14 = σ.1 0 14 := by rw [eσ10, u1_at]; exact if_neg (by decide)
        have f28 := congrArg Int32.toInt q27
        obtain ⟨k13, k14, k15, k16, k17, k18, sp20, sp21⟩ := kk19
        refine sX12_runs hN hσ12 (fun r37 σ31 hσ31 kk36 p38 => ?_)
        obtain ⟨k32, k33, k34, k35⟩ := kk36
        exact hQ _ _ hσ31 (⟨k32.trans (k15.trans ((kq (a := 0) (b := 36) eσ10 (fun q => absurd q.2 (by decide))))), k33.trans (k16.trans ((kq (a := 0) (b := 41) eσ10 (fun q => absurd q.2 (by decide))))), k34.trans (k17.trans ((kq (a := 0) (b := 50) eσ10 (fun q => absurd q.2 (by decide))))), k35.trans (k18.trans ((kq (a := 0) (b := 51) eσ10 (fun q => absurd q.2 (by decide)))))⟩) trivial
      · have f39 := K2.g_0_14 hσ
        first | have f40 := (notleE (rfl : (σ.1 0 14).toInt = (σ.1 0 14).toInt) (show (0 : Int32).toInt = 0 from by decide)).mp c7 | skip
        exact hQ _ _ hσ (⟨rfl, rfl, rfl, rfl⟩) trivial
  · have f41 := tB x2
    first | have f42 := (notltE64 (i2lE (rfl : x2.toInt = x2.toInt)) (show (0 : Int64).toInt = 0 from by decide)).mp c1 | skip
    refine ⟨fun c43 => ?_, fun c43 => ?_⟩
    · first | have f45 := (ltE64 (show (100000 : Int64).toInt = 100000 from by decide) (i2lE (rfl : x2.toInt = x2.toInt))).mp c43 | skip
      try dsimp only
      refine ⟨fun c46 => ?_, fun c46 => ?_⟩
      · first | have f47 := (eqE (show (0 : Int32).toInt = 0 from by decide) (show (0 : Int32).toInt = 0 from by decide)).mp c46 | skip
        exact hQ _ _ hσ (⟨rfl, rfl, rfl, rfl⟩) trivial
      · first | have f48 := (noteqE (show (0 : Int32).toInt = 0 from by decide) (show (0 : Int32).toInt = 0 from by decide)).mp c46 | skip
        refine ⟨fun c49 => ?_, fun c49 => ?_⟩
        · have f50 := K2.g_0_14 hσ
          first | have f51 := (leE (rfl : (σ.1 0 14).toInt = (σ.1 0 14).toInt) (show (0 : Int32).toInt = 0 from by decide)).mp c49 | skip
          intro σ52 eσ52
          have hσ52 : K2 σ0 σ52 := by rw [eσ52]; exact hσ.u (Rg2.r_0_9 (leP (show (0 : Int32).toInt = 0 from by decide) (by omega)) (geP (show (0 : Int32).toInt = 0 from by decide) (by omega))) (fun q => absurd q.2 (by decide)) (fun q => absurd q.2 (by decide)) ⟨⟨by decide, by decide⟩, fun q => absurd q.2 (by decide)⟩
          have f53 := tB x1
          refine sX12_lays hN hσ52 (fun σ54 hσ54 kk61 => ?_)
          have f64 := K2.g_0_9 hσ52
          have q65 : σ52.1 0 9 = 0 := by rw [eσ52, u1_at]; exact if_pos rfl
          first | have f66 : (σ52.1 0 9).toInt = (0) := (congrArg Int32.toInt q65).trans (show (0 : Int32).toInt = 0 from by decide) | skip
          have f68 := K2.g_0_14 hσ52
          have q69 : σ52.1 0 14 = σ.1 0 14 := by rw [eσ52, u1_at]; exact if_neg (by decide)
          have f70 := congrArg Int32.toInt q69
          obtain ⟨k55, k56, k57, k58, k59, k60, sp62, sp63⟩ := kk61
          refine sX12_runs hN hσ54 (fun r79 σ73 hσ73 kk78 p80 => ?_)
          obtain ⟨k74, k75, k76, k77⟩ := kk78
          exact hQ _ _ hσ73 (⟨k74.trans (k57.trans ((kq (a := 0) (b := 36) eσ52 (fun q => absurd q.2 (by decide))))), k75.trans (k58.trans ((kq (a := 0) (b := 41) eσ52 (fun q => absurd q.2 (by decide))))), k76.trans (k59.trans ((kq (a := 0) (b := 50) eσ52 (fun q => absurd q.2 (by decide))))), k77.trans (k60.trans ((kq (a := 0) (b := 51) eσ52 (fun q => absurd q.2 (by decide)))))⟩) trivial
        · have f81 := K2.g_0_14 hσ
          first | have f82 := (notleE (rfl : (σ.1 0 14).toInt = (σ.1 0 14).toInt) (show (0 : Int32).toInt = 0 from by decide)).mp c49 | skip
          exact hQ _ _ hσ (⟨rfl, rfl, rfl, rfl⟩) trivial
    · first | have f84 := (notltE64 (show (100000 : Int64).toInt = 100000 from by decide) (i2lE (rfl : x2.toInt = x2.toInt))).mp c43 | skip
      try dsimp only
      refine ⟨fun c85 => ?_, fun c85 => ?_⟩
      · first | have f86 := (eqE (show (1 : Int32).toInt = 1 from by decide) (show (0 : Int32).toInt = 0 from by decide)).mp c85 | skip
        exact hQ _ _ hσ (⟨rfl, rfl, rfl, rfl⟩) trivial
      · first | have f87 := (noteqE (show (1 : Int32).toInt = 1 from by decide) (show (0 : Int32).toInt = 0 from by decide)).mp c85 | skip
        refine ⟨fun c88 => ?_, fun c88 => ?_⟩
        · have f89 := K2.g_0_14 hσ
          first | have f90 := (leE (rfl : (σ.1 0 14).toInt = (σ.1 0 14).toInt) (show (0 : Int32).toInt = 0 from by decide)).mp c88 | skip
          intro σ91 eσ91
          have hσ91 : K2 σ0 σ91 := by rw [eσ91]; exact hσ.u (Rg2.r_0_9 (leP (show (0 : Int32).toInt = 0 from by decide) (by omega)) (geP (show (0 : Int32).toInt = 0 from by decide) (by omega))) (fun q => absurd q.2 (by decide)) (fun q => absurd q.2 (by decide)) ⟨⟨by decide, by decide⟩, fun q => absurd q.2 (by decide)⟩
          have f92 := tB x1
          refine sX12_lays hN hσ91 (fun σ93 hσ93 kk100 => ?_)
          have f103 := K2.g_0_9 hσ91
          have q104 : σ91.1 0 9 = 0 := by rw [eσ91, u1_at]; exact if_pos rfl
          first | have f105 : (σ91.1 0 9).toInt = (0) := (congrArg Int32.toInt q104).trans (show (0 : Int32).toInt = 0 from by decide) | skip
          have f107 := K2.g_0_14 hσ91
          have q108 : σ91.1 0 14 = σ.1 0 14 := by rw [eσ91, u1_at]; exact if_neg (by decide)
          have f109 := congrArg Int32.toInt q108
          obtain ⟨k94, k95, k96, k97, k98, k99, sp101, sp102⟩ := kk100
          refine sX12_runs hN hσ93 (fun r118 σ112 hσ112 kk117 p119 => ?_)
          obtain ⟨k113, k114, k115, k116⟩ := kk117
          exact hQ _ _ hσ112 (⟨k113.trans (k96.trans ((kq (a := 0) (b := 36) eσ91 (fun q => absurd q.2 (by decide))))), k114.trans (k97.trans ((kq (a := 0) (b := 41) eσ91 (fun q => absurd q.2 (by decide))))), k115.trans (k98.trans ((kq (a := 0) (b := 50) eσ91 (fun q => absurd q.2 (by decide))))), k116.trans (k99.trans ((kq (a := 0) (b := 51) eσ91 (fun q => absurd q.2 (by decide)))))⟩) trivial
        · have f120 := K2.g_0_14 hσ
          first | have f121 := (notleE (rfl : (σ.1 0 14).toInt = (σ.1 0 14).toInt) (show (0 : Int32).toInt = 0 from by decide)).mp c88 | skip
          exact hQ _ _ hσ (⟨rfl, rfl, rfl, rfl⟩) trivial
set_option maxHeartbeats 4000000 in
theorem sX12_call {N : Nat} (hN : 4294967400 ≤ N) {x1 : Int32} {x2 : Int32} {Q : Int32 → St → Prop} {σ0 σ : St} (hσ : K2 σ0 σ) (hQ : ∀ (r : Int32) (τ : St), K2 σ0 τ → (τ.1 0 36 = σ.1 0 36 ∧ τ.1 0 41 = σ.1 0 41 ∧ τ.1 0 50 = σ.1 0 50 ∧ τ.1 0 51 = σ.1 0 51) → True → Q r τ) : fX12_call N x1 x2 Q σ := by
  unfold fX12_call
  try unfold fX12_in
  refine ⟨fun c1 => ?_, fun c1 => ?_⟩
  · have f2 := tB x2
    first | have f3 := (ltE64 (i2lE (rfl : x2.toInt = x2.toInt)) (show (0 : Int64).toInt = 0 from by decide)).mp c1 | skip
    try dsimp only
    refine ⟨fun c4 => ?_, fun c4 => ?_⟩
    · first | have f5 := (eqE (show (0 : Int32).toInt = 0 from by decide) (show (0 : Int32).toInt = 0 from by decide)).mp c4 | skip
      exact hQ _ _ hσ (⟨rfl, rfl, rfl, rfl⟩) trivial
    · first | have f6 := (noteqE (show (0 : Int32).toInt = 0 from by decide) (show (0 : Int32).toInt = 0 from by decide)).mp c4 | skip
      refine ⟨fun c7 => ?_, fun c7 => ?_⟩
      · have f8 := K2.g_0_5 hσ
        first | have f9 := (leE (rfl : (σ.1 0 5).toInt = (σ.1 0 5).toInt) (show (4 : Int32).toInt = 4 from by decide)).mp c7 | skip
        refine ⟨fun c10 => ?_, fun c10 => ?_⟩
        · have f11 := K2.g_0_14 hσ
          first | have f12 := (leE (rfl : (σ.1 0 14).toInt = (σ.1 0 14).toInt) (show (0 : Int32).toInt = 0 from by decide)).mp c10 | skip
          have f14 := tB x1
          refine lo1_i (fun (y13 : Int32) (ω : St) => K2 σ0 ω ∧ ω.1 0 14 = σ.1 0 14 ∧ ω.1 0 9 = σ.1 0 9 ∧ ω.1 0 35 = σ.1 0 35 ∧ ω.1 0 24 = σ.1 0 24 ∧ ω.1 0 36 = σ.1 0 36 ∧ ω.1 0 41 = σ.1 0 41 ∧ ω.1 0 50 = σ.1 0 50 ∧ ω.1 0 51 = σ.1 0 51 ∧ 0 ≤ y13.toInt ∧ (ω.1 0 5).toInt ≤ 4) (fun (y13 : Int32) (ω : St) => (2147483648 - y13.toInt).toNat) ?_ N (0 : Int32) σ ⟨hσ, rfl, rfl, rfl, rfl, rfl, rfl, rfl, rfl, by first | decide | (have z0 : (0 : Int32).toInt = 0 := (by decide); omega), by first | decide | (have z0 : (0 : Int32).toInt = 0 := (by decide); omega)⟩ (by have z0 : (0 : Int32).toInt = 0 := (by decide); (try dsimp only); omega)
          intro rr17 y20 σ19 hIσ19 ih18
          obtain ⟨hσ19, k21, k22, k23, k24, k25, k26, k27, k28, i29, i30⟩ := hIσ19
          unfold fX12_call_l35
          have f31 := tB y20
          refine ⟨fun c32 => ?_, fun c32 => ?_⟩
          · have f33 := K2.g_0_5 hσ19
            first | have f35 := (leE (rfl : (σ19.1 0 5).toInt = (σ19.1 0 5).toInt) (rfl : y20.toInt = y20.toInt)).mp c32 | skip
            intro σ36 eσ36
            have hσ36 : K2 σ0 σ36 := by rw [eσ36]; exact hσ19.u (Rg2.r_0_9 (leP (show (0 : Int32).toInt = 0 from by decide) (by omega)) (geP (show (0 : Int32).toInt = 0 from by decide) (by omega))) (fun q => absurd q.2 (by decide)) (fun q => absurd q.2 (by decide)) ⟨⟨by decide, by decide⟩, fun q => absurd q.2 (by decide)⟩
            have f38 := K2.g_0_5 hσ36
            have q39 : σ36.1 0 5 = σ19.1 0 5 := by rw [eσ36, u1_at]; exact if_neg (by decide)
            have f40 := congrArg Int32.toInt q39
            have f43 := K2.g_0_14 hσ36
            have q44 : σ36.1 0 14 = σ19.1 0 14 := by rw [eσ36, u1_at]; exact if_neg (by decide)
            have f45 := congrArg Int32.toInt q44
            have f46 := K2.g_0_14 hσ19
            have f47 := congrArg Int32.toInt k21
            refine sX12_called hN ⟨leP (rfl : (σ36.1 0 5).toInt = (σ36.1 0 5).toInt) (by omega), geP (rfl : (σ36.1 0 5).toInt = (σ36.1 0 5).toInt) (by omega)⟩ (by have za3 := (show (255 : Int32).toInt = 255 from by decide); omega) hσ36 (fun σ42 hσ42 kk55 => ?_)
            obtain ⟨k49, k50, k51, k52, k53, k54⟩ := kk55
            intro σ56 eσ56
            have hσ56 : K2 σ0 σ56 := by rw [eσ56]; exact hσ42.u (Rg2.r_0_5 (leP (show (0 : Int32).toInt = 0 from by decide) (by omega)) (geP (show (0 : Int32).toInt = 0 from by decide) (by omega))) (fun q => absurd q.2 (by decide)) (fun q => absurd q.2 (by decide)) ⟨⟨by decide, by decide⟩, fun q => absurd q.2 (by decide)⟩
            refine sX12_runs hN hσ56 (fun r64 σ58 hσ58 kk63 p65 => ?_)
            obtain ⟨k59, k60, k61, k62⟩ := kk63
            exact hQ _ _ hσ58 (⟨k59.trans ((kq (a := 0) (b := 36) eσ56 (fun q => absurd q.2 (by decide))).trans (k51.trans ((kq (a := 0) (b := 36) eσ36 (fun q => absurd q.2 (by decide))).trans (k25)))), k60.trans ((kq (a := 0) (b := 41) eσ56 (fun q => absurd q.2 (by decide))).trans (k52.trans ((kq (a := 0) (b := 41) eσ36 (fun q => absurd q.2 (by decide))).trans (k26)))), k61.trans ((kq (a := 0) (b := 50) eσ56 (fun q => absurd q.2 (by decide))).trans (k53.trans ((kq (a := 0) (b := 50) eσ36 (fun q => absurd q.2 (by decide))).trans (k27)))), k62.trans ((kq (a := 0) (b := 51) eσ56 (fun q => absurd q.2 (by decide))).trans (k54.trans ((kq (a := 0) (b := 51) eσ36 (fun q => absurd q.2 (by decide))).trans (k28))))⟩) trivial
          · have f66 := K2.g_0_5 hσ19
            first | have f68 := (notleE (rfl : (σ19.1 0 5).toInt = (σ19.1 0 5).toInt) (rfl : y20.toInt = y20.toInt)).mp c32 | skip
            have g70 : vp_in y20 120 := inE (rfl : y20.toInt = y20.toInt) (by omega) (by omega)
            refine ⟨g70, ?_⟩
            intro v71 ev71
            refine ⟨inE (rfl : y20.toInt = y20.toInt) (by omega) (by omega), ?_⟩
            intro σ73 eσ73
            have hσ73 : K2 σ0 σ73 := by rw [eσ73]; exact hσ19.u (Rg2.ra_15 _ _) (fun q => absurd q.1 (by decide)) (fun q => absurd q.1 (by decide)) ⟨⟨by decide, by decide⟩, fun q => absurd q.1 (by decide)⟩
            intro v74 ev74
            have f75 := tB v74
            first | have f77 : v74.toInt = (y20.toInt + (1)) := (congrArg Int32.toInt ev74).trans (aOkE (rfl : y20.toInt = y20.toInt) (show (1 : Int32).toInt = 1 from by decide) (by omega) (by omega)) | skip
            have f78 := K2.g_0_5 hσ73
            have q79 : σ73.1 0 5 = σ19.1 0 5 := by rw [eσ73]; exact congrFun (u1_ne (by decide)) 5
            have f80 := congrArg Int32.toInt q79
            exact ih18 v74 σ73 ⟨hσ73, (kq (a := 0) (b := 14) eσ73 (fun q => absurd q.1 (by decide))).trans (k21), (kq (a := 0) (b := 9) eσ73 (fun q => absurd q.1 (by decide))).trans (k22), (kq (a := 0) (b := 35) eσ73 (fun q => absurd q.1 (by decide))).trans (k23), (kq (a := 0) (b := 24) eσ73 (fun q => absurd q.1 (by decide))).trans (k24), (kq (a := 0) (b := 36) eσ73 (fun q => absurd q.1 (by decide))).trans (k25), (kq (a := 0) (b := 41) eσ73 (fun q => absurd q.1 (by decide))).trans (k26), (kq (a := 0) (b := 50) eσ73 (fun q => absurd q.1 (by decide))).trans (k27), (kq (a := 0) (b := 51) eσ73 (fun q => absurd q.1 (by decide))).trans (k28), by omega, by omega⟩ (by (try dsimp only); omega)
        · have f82 := K2.g_0_14 hσ
          first | have f83 := (notleE (rfl : (σ.1 0 14).toInt = (σ.1 0 14).toInt) (show (0 : Int32).toInt = 0 from by decide)).mp c10 | skip
          exact hQ _ _ hσ (⟨rfl, rfl, rfl, rfl⟩) trivial
      · have f84 := K2.g_0_5 hσ
        first | have f85 := (notleE (rfl : (σ.1 0 5).toInt = (σ.1 0 5).toInt) (show (4 : Int32).toInt = 4 from by decide)).mp c7 | skip
        exact hQ _ _ hσ (⟨rfl, rfl, rfl, rfl⟩) trivial
  · have f86 := tB x2
    first | have f87 := (notltE64 (i2lE (rfl : x2.toInt = x2.toInt)) (show (0 : Int64).toInt = 0 from by decide)).mp c1 | skip
    refine ⟨fun c88 => ?_, fun c88 => ?_⟩
    · first | have f90 := (ltE64 (show (100000 : Int64).toInt = 100000 from by decide) (i2lE (rfl : x2.toInt = x2.toInt))).mp c88 | skip
      try dsimp only
      refine ⟨fun c91 => ?_, fun c91 => ?_⟩
      · first | have f92 := (eqE (show (0 : Int32).toInt = 0 from by decide) (show (0 : Int32).toInt = 0 from by decide)).mp c91 | skip
        exact hQ _ _ hσ (⟨rfl, rfl, rfl, rfl⟩) trivial
      · first | have f93 := (noteqE (show (0 : Int32).toInt = 0 from by decide) (show (0 : Int32).toInt = 0 from by decide)).mp c91 | skip
        refine ⟨fun c94 => ?_, fun c94 => ?_⟩
        · have f95 := K2.g_0_5 hσ
          first | have f96 := (leE (rfl : (σ.1 0 5).toInt = (σ.1 0 5).toInt) (show (4 : Int32).toInt = 4 from by decide)).mp c94 | skip
          refine ⟨fun c97 => ?_, fun c97 => ?_⟩
          · have f98 := K2.g_0_14 hσ
            first | have f99 := (leE (rfl : (σ.1 0 14).toInt = (σ.1 0 14).toInt) (show (0 : Int32).toInt = 0 from by decide)).mp c97 | skip
            have f101 := tB x1
            refine lo1_i (fun (y100 : Int32) (ω : St) => K2 σ0 ω ∧ ω.1 0 14 = σ.1 0 14 ∧ ω.1 0 9 = σ.1 0 9 ∧ ω.1 0 35 = σ.1 0 35 ∧ ω.1 0 24 = σ.1 0 24 ∧ ω.1 0 36 = σ.1 0 36 ∧ ω.1 0 41 = σ.1 0 41 ∧ ω.1 0 50 = σ.1 0 50 ∧ ω.1 0 51 = σ.1 0 51 ∧ 0 ≤ y100.toInt ∧ (ω.1 0 5).toInt ≤ 4) (fun (y100 : Int32) (ω : St) => (2147483648 - y100.toInt).toNat) ?_ N (0 : Int32) σ ⟨hσ, rfl, rfl, rfl, rfl, rfl, rfl, rfl, rfl, by first | decide | (have z0 : (0 : Int32).toInt = 0 := (by decide); omega), by first | decide | (have z0 : (0 : Int32).toInt = 0 := (by decide); omega)⟩ (by have z0 : (0 : Int32).toInt = 0 := (by decide); (try dsimp only); omega)
            intro rr104 y107 σ106 hIσ106 ih105
            obtain ⟨hσ106, k108, k109, k110, k111, k112, k113, k114, k115, i116, i117⟩ := hIσ106
            unfold fX12_call_l35
            have f118 := tB y107
            refine ⟨fun c119 => ?_, fun c119 => ?_⟩
            · have f120 := K2.g_0_5 hσ106
              first | have f122 := (leE (rfl : (σ106.1 0 5).toInt = (σ106.1 0 5).toInt) (rfl : y107.toInt = y107.toInt)).mp c119 | skip
              intro σ123 eσ123
              have hσ123 : K2 σ0 σ123 := by rw [eσ123]; exact hσ106.u (Rg2.r_0_9 (leP (show (0 : Int32).toInt = 0 from by decide) (by omega)) (geP (show (0 : Int32).toInt = 0 from by decide) (by omega))) (fun q => absurd q.2 (by decide)) (fun q => absurd q.2 (by decide)) ⟨⟨by decide, by decide⟩, fun q => absurd q.2 (by decide)⟩
              have f125 := K2.g_0_5 hσ123
              have q126 : σ123.1 0 5 = σ106.1 0 5 := by rw [eσ123, u1_at]; exact if_neg (by decide)
              have f127 := congrArg Int32.toInt q126
              have f130 := K2.g_0_14 hσ123
              have q131 : σ123.1 0 14 = σ106.1 0 14 := by rw [eσ123, u1_at]; exact if_neg (by decide)
              have f132 := congrArg Int32.toInt q131
              have f133 := K2.g_0_14 hσ106
              have f134 := congrArg Int32.toInt k108
              refine sX12_called hN ⟨leP (rfl : (σ123.1 0 5).toInt = (σ123.1 0 5).toInt) (by omega), geP (rfl : (σ123.1 0 5).toInt = (σ123.1 0 5).toInt) (by omega)⟩ (by have za3 := (show (255 : Int32).toInt = 255 from by decide); omega) hσ123 (fun σ129 hσ129 kk142 => ?_)
              obtain ⟨k136, k137, k138, k139, k140, k141⟩ := kk142
              intro σ143 eσ143
              have hσ143 : K2 σ0 σ143 := by rw [eσ143]; exact hσ129.u (Rg2.r_0_5 (leP (show (0 : Int32).toInt = 0 from by decide) (by omega)) (geP (show (0 : Int32).toInt = 0 from by decide) (by omega))) (fun q => absurd q.2 (by decide)) (fun q => absurd q.2 (by decide)) ⟨⟨by decide, by decide⟩, fun q => absurd q.2 (by decide)⟩
              refine sX12_runs hN hσ143 (fun r151 σ145 hσ145 kk150 p152 => ?_)
              obtain ⟨k146, k147, k148, k149⟩ := kk150
              exact hQ _ _ hσ145 (⟨k146.trans ((kq (a := 0) (b := 36) eσ143 (fun q => absurd q.2 (by decide))).trans (k138.trans ((kq (a := 0) (b := 36) eσ123 (fun q => absurd q.2 (by decide))).trans (k112)))), k147.trans ((kq (a := 0) (b := 41) eσ143 (fun q => absurd q.2 (by decide))).trans (k139.trans ((kq (a := 0) (b := 41) eσ123 (fun q => absurd q.2 (by decide))).trans (k113)))), k148.trans ((kq (a := 0) (b := 50) eσ143 (fun q => absurd q.2 (by decide))).trans (k140.trans ((kq (a := 0) (b := 50) eσ123 (fun q => absurd q.2 (by decide))).trans (k114)))), k149.trans ((kq (a := 0) (b := 51) eσ143 (fun q => absurd q.2 (by decide))).trans (k141.trans ((kq (a := 0) (b := 51) eσ123 (fun q => absurd q.2 (by decide))).trans (k115))))⟩) trivial
            · have f153 := K2.g_0_5 hσ106
              first | have f155 := (notleE (rfl : (σ106.1 0 5).toInt = (σ106.1 0 5).toInt) (rfl : y107.toInt = y107.toInt)).mp c119 | skip
              have g157 : vp_in y107 120 := inE (rfl : y107.toInt = y107.toInt) (by omega) (by omega)
              refine ⟨g157, ?_⟩
              intro v158 ev158
              refine ⟨inE (rfl : y107.toInt = y107.toInt) (by omega) (by omega), ?_⟩
              intro σ160 eσ160
              have hσ160 : K2 σ0 σ160 := by rw [eσ160]; exact hσ106.u (Rg2.ra_15 _ _) (fun q => absurd q.1 (by decide)) (fun q => absurd q.1 (by decide)) ⟨⟨by decide, by decide⟩, fun q => absurd q.1 (by decide)⟩
              intro v161 ev161
              have f162 := tB v161
              first | have f164 : v161.toInt = (y107.toInt + (1)) := (congrArg Int32.toInt ev161).trans (aOkE (rfl : y107.toInt = y107.toInt) (show (1 : Int32).toInt = 1 from by decide) (by omega) (by omega)) | skip
              have f165 := K2.g_0_5 hσ160
              have q166 : σ160.1 0 5 = σ106.1 0 5 := by rw [eσ160]; exact congrFun (u1_ne (by decide)) 5
              have f167 := congrArg Int32.toInt q166
              exact ih105 v161 σ160 ⟨hσ160, (kq (a := 0) (b := 14) eσ160 (fun q => absurd q.1 (by decide))).trans (k108), (kq (a := 0) (b := 9) eσ160 (fun q => absurd q.1 (by decide))).trans (k109), (kq (a := 0) (b := 35) eσ160 (fun q => absurd q.1 (by decide))).trans (k110), (kq (a := 0) (b := 24) eσ160 (fun q => absurd q.1 (by decide))).trans (k111), (kq (a := 0) (b := 36) eσ160 (fun q => absurd q.1 (by decide))).trans (k112), (kq (a := 0) (b := 41) eσ160 (fun q => absurd q.1 (by decide))).trans (k113), (kq (a := 0) (b := 50) eσ160 (fun q => absurd q.1 (by decide))).trans (k114), (kq (a := 0) (b := 51) eσ160 (fun q => absurd q.1 (by decide))).trans (k115), by omega, by omega⟩ (by (try dsimp only); omega)
          · have f169 := K2.g_0_14 hσ
            first | have f170 := (notleE (rfl : (σ.1 0 14).toInt = (σ.1 0 14).toInt) (show (0 : Int32).toInt = 0 from by decide)).mp c97 | skip
            exact hQ _ _ hσ (⟨rfl, rfl, rfl, rfl⟩) trivial
        · have f171 := K2.g_0_5 hσ
          first | have f172 := (notleE (rfl : (σ.1 0 5).toInt = (σ.1 0 5).toInt) (show (4 : Int32).toInt = 4 from by decide)).mp c94 | skip
          exact hQ _ _ hσ (⟨rfl, rfl, rfl, rfl⟩) trivial
    · first | have f174 := (notltE64 (show (100000 : Int64).toInt = 100000 from by decide) (i2lE (rfl : x2.toInt = x2.toInt))).mp c88 | skip
      try dsimp only
      refine ⟨fun c175 => ?_, fun c175 => ?_⟩
      · first | have f176 := (eqE (show (1 : Int32).toInt = 1 from by decide) (show (0 : Int32).toInt = 0 from by decide)).mp c175 | skip
        exact hQ _ _ hσ (⟨rfl, rfl, rfl, rfl⟩) trivial
      · first | have f177 := (noteqE (show (1 : Int32).toInt = 1 from by decide) (show (0 : Int32).toInt = 0 from by decide)).mp c175 | skip
        refine ⟨fun c178 => ?_, fun c178 => ?_⟩
        · have f179 := K2.g_0_5 hσ
          first | have f180 := (leE (rfl : (σ.1 0 5).toInt = (σ.1 0 5).toInt) (show (4 : Int32).toInt = 4 from by decide)).mp c178 | skip
          refine ⟨fun c181 => ?_, fun c181 => ?_⟩
          · have f182 := K2.g_0_14 hσ
            first | have f183 := (leE (rfl : (σ.1 0 14).toInt = (σ.1 0 14).toInt) (show (0 : Int32).toInt = 0 from by decide)).mp c181 | skip
            have f185 := tB x1
            refine lo1_i (fun (y184 : Int32) (ω : St) => K2 σ0 ω ∧ ω.1 0 14 = σ.1 0 14 ∧ ω.1 0 9 = σ.1 0 9 ∧ ω.1 0 35 = σ.1 0 35 ∧ ω.1 0 24 = σ.1 0 24 ∧ ω.1 0 36 = σ.1 0 36 ∧ ω.1 0 41 = σ.1 0 41 ∧ ω.1 0 50 = σ.1 0 50 ∧ ω.1 0 51 = σ.1 0 51 ∧ 0 ≤ y184.toInt ∧ (ω.1 0 5).toInt ≤ 4) (fun (y184 : Int32) (ω : St) => (2147483648 - y184.toInt).toNat) ?_ N (0 : Int32) σ ⟨hσ, rfl, rfl, rfl, rfl, rfl, rfl, rfl, rfl, by first | decide | (have z0 : (0 : Int32).toInt = 0 := (by decide); omega), by first | decide | (have z0 : (0 : Int32).toInt = 0 := (by decide); omega)⟩ (by have z0 : (0 : Int32).toInt = 0 := (by decide); (try dsimp only); omega)
            intro rr188 y191 σ190 hIσ190 ih189
            obtain ⟨hσ190, k192, k193, k194, k195, k196, k197, k198, k199, i200, i201⟩ := hIσ190
            unfold fX12_call_l35
            have f202 := tB y191
            refine ⟨fun c203 => ?_, fun c203 => ?_⟩
            · have f204 := K2.g_0_5 hσ190
              first | have f206 := (leE (rfl : (σ190.1 0 5).toInt = (σ190.1 0 5).toInt) (rfl : y191.toInt = y191.toInt)).mp c203 | skip
              intro σ207 eσ207
              have hσ207 : K2 σ0 σ207 := by rw [eσ207]; exact hσ190.u (Rg2.r_0_9 (leP (show (0 : Int32).toInt = 0 from by decide) (by omega)) (geP (show (0 : Int32).toInt = 0 from by decide) (by omega))) (fun q => absurd q.2 (by decide)) (fun q => absurd q.2 (by decide)) ⟨⟨by decide, by decide⟩, fun q => absurd q.2 (by decide)⟩
              have f209 := K2.g_0_5 hσ207
              have q210 : σ207.1 0 5 = σ190.1 0 5 := by rw [eσ207, u1_at]; exact if_neg (by decide)
              have f211 := congrArg Int32.toInt q210
              have f214 := K2.g_0_14 hσ207
              have q215 : σ207.1 0 14 = σ190.1 0 14 := by rw [eσ207, u1_at]; exact if_neg (by decide)
              have f216 := congrArg Int32.toInt q215
              have f217 := K2.g_0_14 hσ190
              have f218 := congrArg Int32.toInt k192
              refine sX12_called hN ⟨leP (rfl : (σ207.1 0 5).toInt = (σ207.1 0 5).toInt) (by omega), geP (rfl : (σ207.1 0 5).toInt = (σ207.1 0 5).toInt) (by omega)⟩ (by have za3 := (show (255 : Int32).toInt = 255 from by decide); omega) hσ207 (fun σ213 hσ213 kk226 => ?_)
              obtain ⟨k220, k221, k222, k223, k224, k225⟩ := kk226
              intro σ227 eσ227
              have hσ227 : K2 σ0 σ227 := by rw [eσ227]; exact hσ213.u (Rg2.r_0_5 (leP (show (0 : Int32).toInt = 0 from by decide) (by omega)) (geP (show (0 : Int32).toInt = 0 from by decide) (by omega))) (fun q => absurd q.2 (by decide)) (fun q => absurd q.2 (by decide)) ⟨⟨by decide, by decide⟩, fun q => absurd q.2 (by decide)⟩
              refine sX12_runs hN hσ227 (fun r235 σ229 hσ229 kk234 p236 => ?_)
              obtain ⟨k230, k231, k232, k233⟩ := kk234
              exact hQ _ _ hσ229 (⟨k230.trans ((kq (a := 0) (b := 36) eσ227 (fun q => absurd q.2 (by decide))).trans (k222.trans ((kq (a := 0) (b := 36) eσ207 (fun q => absurd q.2 (by decide))).trans (k196)))), k231.trans ((kq (a := 0) (b := 41) eσ227 (fun q => absurd q.2 (by decide))).trans (k223.trans ((kq (a := 0) (b := 41) eσ207 (fun q => absurd q.2 (by decide))).trans (k197)))), k232.trans ((kq (a := 0) (b := 50) eσ227 (fun q => absurd q.2 (by decide))).trans (k224.trans ((kq (a := 0) (b := 50) eσ207 (fun q => absurd q.2 (by decide))).trans (k198)))), k233.trans ((kq (a := 0) (b := 51) eσ227 (fun q => absurd q.2 (by decide))).trans (k225.trans ((kq (a := 0) (b := 51) eσ207 (fun q => absurd q.2 (by decide))).trans (k199))))⟩) trivial
            · have f237 := K2.g_0_5 hσ190
              first | have f239 := (notleE (rfl : (σ190.1 0 5).toInt = (σ190.1 0 5).toInt) (rfl : y191.toInt = y191.toInt)).mp c203 | skip
              have g241 : vp_in y191 120 := inE (rfl : y191.toInt = y191.toInt) (by omega) (by omega)
              refine ⟨g241, ?_⟩
              intro v242 ev242
              refine ⟨inE (rfl : y191.toInt = y191.toInt) (by omega) (by omega), ?_⟩
              intro σ244 eσ244
              have hσ244 : K2 σ0 σ244 := by rw [eσ244]; exact hσ190.u (Rg2.ra_15 _ _) (fun q => absurd q.1 (by decide)) (fun q => absurd q.1 (by decide)) ⟨⟨by decide, by decide⟩, fun q => absurd q.1 (by decide)⟩
              intro v245 ev245
              have f246 := tB v245
              first | have f248 : v245.toInt = (y191.toInt + (1)) := (congrArg Int32.toInt ev245).trans (aOkE (rfl : y191.toInt = y191.toInt) (show (1 : Int32).toInt = 1 from by decide) (by omega) (by omega)) | skip
              have f249 := K2.g_0_5 hσ244
              have q250 : σ244.1 0 5 = σ190.1 0 5 := by rw [eσ244]; exact congrFun (u1_ne (by decide)) 5
              have f251 := congrArg Int32.toInt q250
              exact ih189 v245 σ244 ⟨hσ244, (kq (a := 0) (b := 14) eσ244 (fun q => absurd q.1 (by decide))).trans (k192), (kq (a := 0) (b := 9) eσ244 (fun q => absurd q.1 (by decide))).trans (k193), (kq (a := 0) (b := 35) eσ244 (fun q => absurd q.1 (by decide))).trans (k194), (kq (a := 0) (b := 24) eσ244 (fun q => absurd q.1 (by decide))).trans (k195), (kq (a := 0) (b := 36) eσ244 (fun q => absurd q.1 (by decide))).trans (k196), (kq (a := 0) (b := 41) eσ244 (fun q => absurd q.1 (by decide))).trans (k197), (kq (a := 0) (b := 50) eσ244 (fun q => absurd q.1 (by decide))).trans (k198), (kq (a := 0) (b := 51) eσ244 (fun q => absurd q.1 (by decide))).trans (k199), by omega, by omega⟩ (by (try dsimp only); omega)
          · have f253 := K2.g_0_14 hσ
            first | have f254 := (notleE (rfl : (σ.1 0 14).toInt = (σ.1 0 14).toInt) (show (0 : Int32).toInt = 0 from by decide)).mp c181 | skip
            exact hQ _ _ hσ (⟨rfl, rfl, rfl, rfl⟩) trivial
        · have f255 := K2.g_0_5 hσ
          first | have f256 := (notleE (rfl : (σ.1 0 5).toInt = (σ.1 0 5).toInt) (show (4 : Int32).toInt = 4 from by decide)).mp c178 | skip
          exact hQ _ _ hσ (⟨rfl, rfl, rfl, rfl⟩) trivial
set_option maxHeartbeats 4000000 in
theorem sX12_resume {N : Nat} (hN : 4294967400 ≤ N) {x1 : Int32} {Q : Int32 → St → Prop} {σ0 σ : St} (hσ : K2 σ0 σ) (hQ : ∀ (r : Int32) (τ : St), K2 σ0 τ → (τ.1 0 36 = σ.1 0 36 ∧ τ.1 0 41 = σ.1 0 41 ∧ τ.1 0 50 = σ.1 0 50 ∧ τ.1 0 51 = σ.1 0 51) → True → Q r τ) : fX12_resume N x1 Q σ := by
  unfold fX12_resume
  try unfold fX12_in
  refine ⟨fun c1 => ?_, fun c1 => ?_⟩
  · have f2 := tB x1
    first | have f3 := (ltE64 (i2lE (rfl : x1.toInt = x1.toInt)) (show (0 : Int64).toInt = 0 from by decide)).mp c1 | skip
    try dsimp only
    refine ⟨fun c4 => ?_, fun c4 => ?_⟩
    · first | have f5 := (eqE (show (0 : Int32).toInt = 0 from by decide) (show (0 : Int32).toInt = 0 from by decide)).mp c4 | skip
      exact hQ _ _ hσ (⟨rfl, rfl, rfl, rfl⟩) trivial
    · first | have f6 := (noteqE (show (0 : Int32).toInt = 0 from by decide) (show (0 : Int32).toInt = 0 from by decide)).mp c4 | skip
      refine ⟨fun c7 => ?_, fun c7 => ?_⟩
      · have f8 := K2.g_0_14 hσ
        first | have f9 := (eqE (rfl : (σ.1 0 14).toInt = (σ.1 0 14).toInt) (show (0 : Int32).toInt = 0 from by decide)).mp c7 | skip
        exact hQ _ _ hσ (⟨rfl, rfl, rfl, rfl⟩) trivial
      · have f10 := K2.g_0_14 hσ
        first | have f11 := (noteqE (rfl : (σ.1 0 14).toInt = (σ.1 0 14).toInt) (show (0 : Int32).toInt = 0 from by decide)).mp c7 | skip
        intro σ12 eσ12
        have hσ12 : K2 σ0 σ12 := by rw [eσ12]; exact hσ.u (Rg2.r_0_9 (leP (show (0 : Int32).toInt = 0 from by decide) (by omega)) (geP (show (0 : Int32).toInt = 0 from by decide) (by omega))) (fun q => absurd q.2 (by decide)) (fun q => absurd q.2 (by decide)) ⟨⟨by decide, by decide⟩, fun q => absurd q.2 (by decide)⟩
        refine sX12_runs hN hσ12 (fun r20 σ14 hσ14 kk19 p21 => ?_)
        obtain ⟨k15, k16, k17, k18⟩ := kk19
        exact hQ _ _ hσ14 (⟨k15.trans ((kq (a := 0) (b := 36) eσ12 (fun q => absurd q.2 (by decide)))), k16.trans ((kq (a := 0) (b := 41) eσ12 (fun q => absurd q.2 (by decide)))), k17.trans ((kq (a := 0) (b := 50) eσ12 (fun q => absurd q.2 (by decide)))), k18.trans ((kq (a := 0) (b := 51) eσ12 (fun q => absurd q.2 (by decide))))⟩) trivial
  · have f22 := tB x1
    first | have f23 := (notltE64 (i2lE (rfl : x1.toInt = x1.toInt)) (show (0 : Int64).toInt = 0 from by decide)).mp c1 | skip
    refine ⟨fun c24 => ?_, fun c24 => ?_⟩
    · first | have f26 := (ltE64 (show (100000 : Int64).toInt = 100000 from by decide) (i2lE (rfl : x1.toInt = x1.toInt))).mp c24 | skip
      try dsimp only
      refine ⟨fun c27 => ?_, fun c27 => ?_⟩
      · first | have f28 := (eqE (show (0 : Int32).toInt = 0 from by decide) (show (0 : Int32).toInt = 0 from by decide)).mp c27 | skip
        exact hQ _ _ hσ (⟨rfl, rfl, rfl, rfl⟩) trivial
      · first | have f29 := (noteqE (show (0 : Int32).toInt = 0 from by decide) (show (0 : Int32).toInt = 0 from by decide)).mp c27 | skip
        refine ⟨fun c30 => ?_, fun c30 => ?_⟩
        · have f31 := K2.g_0_14 hσ
          first | have f32 := (eqE (rfl : (σ.1 0 14).toInt = (σ.1 0 14).toInt) (show (0 : Int32).toInt = 0 from by decide)).mp c30 | skip
          exact hQ _ _ hσ (⟨rfl, rfl, rfl, rfl⟩) trivial
        · have f33 := K2.g_0_14 hσ
          first | have f34 := (noteqE (rfl : (σ.1 0 14).toInt = (σ.1 0 14).toInt) (show (0 : Int32).toInt = 0 from by decide)).mp c30 | skip
          intro σ35 eσ35
          have hσ35 : K2 σ0 σ35 := by rw [eσ35]; exact hσ.u (Rg2.r_0_9 (leP (show (0 : Int32).toInt = 0 from by decide) (by omega)) (geP (show (0 : Int32).toInt = 0 from by decide) (by omega))) (fun q => absurd q.2 (by decide)) (fun q => absurd q.2 (by decide)) ⟨⟨by decide, by decide⟩, fun q => absurd q.2 (by decide)⟩
          refine sX12_runs hN hσ35 (fun r43 σ37 hσ37 kk42 p44 => ?_)
          obtain ⟨k38, k39, k40, k41⟩ := kk42
          exact hQ _ _ hσ37 (⟨k38.trans ((kq (a := 0) (b := 36) eσ35 (fun q => absurd q.2 (by decide)))), k39.trans ((kq (a := 0) (b := 41) eσ35 (fun q => absurd q.2 (by decide)))), k40.trans ((kq (a := 0) (b := 50) eσ35 (fun q => absurd q.2 (by decide)))), k41.trans ((kq (a := 0) (b := 51) eσ35 (fun q => absurd q.2 (by decide))))⟩) trivial
    · first | have f46 := (notltE64 (show (100000 : Int64).toInt = 100000 from by decide) (i2lE (rfl : x1.toInt = x1.toInt))).mp c24 | skip
      try dsimp only
      refine ⟨fun c47 => ?_, fun c47 => ?_⟩
      · first | have f48 := (eqE (show (1 : Int32).toInt = 1 from by decide) (show (0 : Int32).toInt = 0 from by decide)).mp c47 | skip
        exact hQ _ _ hσ (⟨rfl, rfl, rfl, rfl⟩) trivial
      · first | have f49 := (noteqE (show (1 : Int32).toInt = 1 from by decide) (show (0 : Int32).toInt = 0 from by decide)).mp c47 | skip
        refine ⟨fun c50 => ?_, fun c50 => ?_⟩
        · have f51 := K2.g_0_14 hσ
          first | have f52 := (eqE (rfl : (σ.1 0 14).toInt = (σ.1 0 14).toInt) (show (0 : Int32).toInt = 0 from by decide)).mp c50 | skip
          exact hQ _ _ hσ (⟨rfl, rfl, rfl, rfl⟩) trivial
        · have f53 := K2.g_0_14 hσ
          first | have f54 := (noteqE (rfl : (σ.1 0 14).toInt = (σ.1 0 14).toInt) (show (0 : Int32).toInt = 0 from by decide)).mp c50 | skip
          intro σ55 eσ55
          have hσ55 : K2 σ0 σ55 := by rw [eσ55]; exact hσ.u (Rg2.r_0_9 (leP (show (0 : Int32).toInt = 0 from by decide) (by omega)) (geP (show (0 : Int32).toInt = 0 from by decide) (by omega))) (fun q => absurd q.2 (by decide)) (fun q => absurd q.2 (by decide)) ⟨⟨by decide, by decide⟩, fun q => absurd q.2 (by decide)⟩
          refine sX12_runs hN hσ55 (fun r63 σ57 hσ57 kk62 p64 => ?_)
          obtain ⟨k58, k59, k60, k61⟩ := kk62
          exact hQ _ _ hσ57 (⟨k58.trans ((kq (a := 0) (b := 36) eσ55 (fun q => absurd q.2 (by decide)))), k59.trans ((kq (a := 0) (b := 41) eσ55 (fun q => absurd q.2 (by decide)))), k60.trans ((kq (a := 0) (b := 50) eσ55 (fun q => absurd q.2 (by decide)))), k61.trans ((kq (a := 0) (b := 51) eσ55 (fun q => absurd q.2 (by decide))))⟩) trivial
