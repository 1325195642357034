theorem sJ7_fill_53178 {N : Nat} (hN : 4294967400 ≤ N) {k0 n0 : Nat} {x1 : Int32} (hn : n0 < 2147483648) (hr : ∀ (j : Nat) (v : Int32), Rg1 k0 j v) (h1 : 9 < k0) (h2 : 9 < k0) {Q : St → Prop} {σ0 σ : St} (hσ : K1 σ0 σ) (hQ : ∀ τ : St, K1 σ0 τ → (τ.1 3 7 = σ.1 3 7 ∧ τ.1 3 11 = σ.1 3 11 ∧ τ.1 3 6 = σ.1 3 6 ∧ τ.1 9 9 = σ.1 9 9 ∧ τ.1 9 10 = σ.1 9 10 ∧ τ.1 6 5 = σ.1 6 5 ∧ τ.1 7 4 = σ.1 7 4 ∧ τ.1 2 4 = σ.1 2 4 ∧ τ.1 2 5 = σ.1 2 5 ∧ τ.1 2 6 = σ.1 2 6 ∧ τ.1 3 8 = σ.1 3 8) → Q τ) : fJ7_fill_53178 N k0 n0 x1 Q σ := by sorry
set_option maxHeartbeats 4000000 in
theorem sX8_drop {N : Nat} (hN : 4294967400 ≤ N) {Q : St → Prop} {σ0 σ : St} (hσ : K1 σ0 σ) (hQ : ∀ τ : St, K1 σ0 τ → (τ.1 3 7 = σ.1 3 7 ∧ τ.1 3 11 = σ.1 3 11 ∧ τ.1 3 6 = σ.1 3 6 ∧ τ.1 9 9 = σ.1 9 9 ∧ τ.1 9 10 = σ.1 9 10 ∧ τ.1 6 5 = σ.1 6 5 ∧ τ.1 7 4 = σ.1 7 4 ∧ τ.1 2 4 = σ.1 2 4 ∧ τ.1 3 8 = σ.1 3 8) → Q τ) : fX8_drop N  Q σ := by sorry
set_option maxHeartbeats 4000000 in
theorem sX8_dropIfTouched {N : Nat} (hN : 4294967400 ≤ N) {x1 : Int32} {x2 : Int32} {Q : St → Prop} {σ0 σ : St} (hσ : K1 σ0 σ) (hQ : ∀ τ : St, K1 σ0 τ → (τ.1 3 7 = σ.1 3 7 ∧ τ.1 3 11 = σ.1 3 11 ∧ τ.1 3 6 = σ.1 3 6 ∧ τ.1 9 9 = σ.1 9 9 ∧ τ.1 9 10 = σ.1 9 10 ∧ τ.1 6 5 = σ.1 6 5 ∧ τ.1 7 4 = σ.1 7 4 ∧ τ.1 2 4 = σ.1 2 4 ∧ τ.1 3 8 = σ.1 3 8) → Q τ) : fX8_dropIfTouched N x1 x2 Q σ := by sorry
set_option maxHeartbeats 4000000 in
theorem sX3_has {N : Nat} (hN : 4294967400 ≤ N) {x1 : Int32} {Q : Int32 → St → Prop} {σ0 σ : St} (hσ : K1 σ0 σ) (hQ : ∀ r : Int32, True → Q r σ) : fX3_has N x1 Q σ := by sorry
set_option maxHeartbeats 4000000 in
theorem sX3_byteOf {N : Nat} (hN : 4294967400 ≤ N) {x1 : Int32} {Q : Int32 → St → Prop} {σ0 σ : St} (hσ : K1 σ0 σ) (hQ : ∀ r : Int32, (0) ≤ r.toInt ∧ r.toInt ≤ 255 → Q r σ) : fX3_byteOf N x1 Q σ := by sorry
set_option maxHeartbeats 4000000 in
theorem sX11_byteAt {N : Nat} (hN : 4294967400 ≤ N) {x1 : Int32} {Q : Int32 → St → Prop} {σ0 σ : St} (hσ : K1 σ0 σ) (hQ : ∀ r : Int32, True → Q r σ) : fX11_byteAt N x1 Q σ := by sorry
set_option maxHeartbeats 4000000 in
theorem sX3_fourOf {N : Nat} (hN : 4294967400 ≤ N) {x1 : Int32} {Q : Int32 → St → Prop} {σ0 σ : St} (hσ : K1 σ0 σ) (hQ : ∀ r : Int32, True → Q r σ) : fX3_fourOf N x1 Q σ := by sorry
set_option maxHeartbeats 4000000 in
theorem sX8_tell {N : Nat} (hN : 4294967400 ≤ N) {x1 : Int32} {Q : St → Prop} {σ0 σ : St} (hσ : K1 σ0 σ) (hQ : ∀ τ : St, K1 σ0 τ → (τ.1 3 7 = σ.1 3 7 ∧ τ.1 3 11 = σ.1 3 11 ∧ τ.1 3 6 = σ.1 3 6 ∧ τ.1 9 9 = σ.1 9 9 ∧ τ.1 9 10 = σ.1 9 10 ∧ τ.1 6 5 = σ.1 6 5 ∧ τ.1 7 4 = σ.1 7 4 ∧ τ.1 2 4 = σ.1 2 4 ∧ τ.1 3 8 = σ.1 3 8) → Q τ) : fX8_tell N x1 Q σ := by sorry
set_option maxHeartbeats 4000000 in
theorem sX8_hasEndOfBytes {N : Nat} (hN : 4294967400 ≤ N) {x1 : Int32} {Q : Int32 → St → Prop} {σ0 σ : St} (hp1 : 0 ≤ x1.toInt ∧ x1.toInt ≤ 4096) (hσ : K1 σ0 σ) (hQ : ∀ r : Int32, (0) ≤ r.toInt ∧ r.toInt ≤ 1 → Q r σ) : fX8_hasEndOfBytes N x1 Q σ := by sorry
set_option maxHeartbeats 4000000 in
theorem sX8_hasEndOfFours {N : Nat} (hN : 4294967400 ≤ N) {x1 : Int32} {Q : Int32 → St → Prop} {σ0 σ : St} (hp1 : 0 ≤ x1.toInt ∧ x1.toInt ≤ 4096) (hσ : K1 σ0 σ) (hQ : ∀ r : Int32, (0) ≤ r.toInt ∧ r.toInt ≤ 1 → Q r σ) : fX8_hasEndOfFours N x1 Q σ := by sorry
set_option maxHeartbeats 4000000 in
theorem sX8_argumentBytes {N : Nat} (hN : 4294967400 ≤ N) {x1 : Int32} {Q : Int32 → St → Prop} {σ0 σ : St} (hσ : K1 σ0 σ) (hQ : ∀ r : Int32, True → Q r σ) : fX8_argumentBytes N x1 Q σ := by sorry
set_option maxHeartbeats 4000000 in
theorem sX8_isWhole {N : Nat} (hN : 4294967400 ≤ N) {x1 : Int32} {Q : Int32 → St → Prop} {σ0 σ : St} (hp1 : 0 ≤ x1.toInt ∧ x1.toInt ≤ 4095) (hσ : K1 σ0 σ) (hQ : ∀ r : Int32, True → Q r σ) : fX8_isWhole N x1 Q σ := by sorry
set_option maxHeartbeats 4000000 in
theorem sX8_find {N : Nat} (hN : 4294967400 ≤ N) {x1 : Int32} {Q : St → Prop} {σ0 σ : St} (hσ : K1 σ0 σ) (hQ : ∀ τ : St, K1 σ0 τ → (τ.1 3 7 = σ.1 3 7 ∧ τ.1 3 11 = σ.1 3 11 ∧ τ.1 3 6 = σ.1 3 6 ∧ τ.1 9 9 = σ.1 9 9 ∧ τ.1 9 10 = σ.1 9 10 ∧ τ.1 6 5 = σ.1 6 5 ∧ τ.1 7 4 = σ.1 7 4 ∧ τ.1 2 5 = σ.1 2 5 ∧ τ.1 2 6 = σ.1 2 6 ∧ τ.1 3 8 = σ.1 3 8) → Q τ) : fX8_find N x1 Q σ := by sorry
set_option maxHeartbeats 4000000 in
theorem sX8_countNodes {N : Nat} (hN : 4294967400 ≤ N) {Q : Int32 → St → Prop} {σ0 σ : St} (hσ : K1 σ0 σ) (hQ : ∀ (r : Int32) (τ : St), K1 σ0 τ → (τ.1 3 7 = σ.1 3 7 ∧ τ.1 3 11 = σ.1 3 11 ∧ τ.1 3 6 = σ.1 3 6 ∧ τ.1 9 9 = σ.1 9 9 ∧ τ.1 9 10 = σ.1 9 10 ∧ τ.1 6 5 = σ.1 6 5 ∧ τ.1 7 4 = σ.1 7 4 ∧ τ.1 2 5 = σ.1 2 5 ∧ τ.1 2 6 = σ.1 2 6 ∧ τ.1 3 8 = σ.1 3 8) → True → Q r τ) : fX8_countNodes N  Q σ := by sorry
set_option maxHeartbeats 4000000 in
theorem sX8_cachedNodes {N : Nat} (hN : 4294967400 ≤ N) {Q : Int32 → St → Prop} {σ0 σ : St} (hσ : K1 σ0 σ) (hQ : ∀ (r : Int32) (τ : St), K1 σ0 τ → (τ.1 3 7 = σ.1 3 7 ∧ τ.1 3 11 = σ.1 3 11 ∧ τ.1 3 6 = σ.1 3 6 ∧ τ.1 9 9 = σ.1 9 9 ∧ τ.1 9 10 = σ.1 9 10 ∧ τ.1 6 5 = σ.1 6 5 ∧ τ.1 7 4 = σ.1 7 4 ∧ τ.1 2 5 = σ.1 2 5 ∧ τ.1 2 6 = σ.1 2 6 ∧ τ.1 3 8 = σ.1 3 8) → True → Q r τ) : fX8_cachedNodes N  Q σ := by sorry
set_option maxHeartbeats 4000000 in
theorem sX11_table {N : Nat} (hN : 4294967400 ≤ N) {x1 : Int32} {Q : Int32 → St → Prop} {σ0 σ : St} (hσ : K1 σ0 σ) (hQ : ∀ (r : Int32) (τ : St), K1 σ0 τ → (τ.1 3 7 = σ.1 3 7 ∧ τ.1 3 11 = σ.1 3 11 ∧ τ.1 3 6 = σ.1 3 6 ∧ τ.1 9 9 = σ.1 9 9 ∧ τ.1 9 10 = σ.1 9 10 ∧ τ.1 6 5 = σ.1 6 5 ∧ τ.1 7 4 = σ.1 7 4 ∧ τ.1 3 8 = σ.1 3 8) → True → Q r τ) : fX11_table N x1 Q σ := by sorry
set_option maxHeartbeats 4000000 in
theorem sX2_isSystem {N : Nat} (hN : 4294967400 ≤ N) {x0 : Int32} {Q : Int32 → St → Prop} {σ0 σ : St} (hσ : K1 σ0 σ) (hQ : ∀ r : Int32, True → Q r σ) : fX2_isSystem N x0 Q σ := by sorry
set_option maxHeartbeats 4000000 in
theorem sX2_setSystem {N : Nat} (hN : 4294967400 ≤ N) {x1 : Int32} {x2 : Int32} {Q : St → Prop} {σ0 σ : St} (hσ : K1 σ0 σ) (hQ : ∀ τ : St, K1 σ0 τ → (τ.1 3 7 = σ.1 3 7 ∧ τ.1 3 11 = σ.1 3 11 ∧ τ.1 3 6 = σ.1 3 6 ∧ τ.1 9 9 = σ.1 9 9 ∧ τ.1 9 10 = σ.1 9 10 ∧ τ.1 6 5 = σ.1 6 5 ∧ τ.1 7 4 = σ.1 7 4 ∧ τ.1 2 4 = σ.1 2 4 ∧ τ.1 2 5 = σ.1 2 5 ∧ τ.1 2 6 = σ.1 2 6 ∧ τ.1 3 8 = σ.1 3 8) → Q τ) : fX2_setSystem N x1 x2 Q σ := by sorry
set_option maxHeartbeats 4000000 in
theorem sX11_system {N : Nat} (hN : 4294967400 ≤ N) {x1 : Int32} {x2 : Int32} {Q : Int32 → St → Prop} {σ0 σ : St} (hσ : K1 σ0 σ) (hQ : ∀ (r : Int32) (τ : St), K1 σ0 τ → (τ.1 3 7 = σ.1 3 7 ∧ τ.1 3 11 = σ.1 3 11 ∧ τ.1 3 6 = σ.1 3 6 ∧ τ.1 9 9 = σ.1 9 9 ∧ τ.1 9 10 = σ.1 9 10 ∧ τ.1 6 5 = σ.1 6 5 ∧ τ.1 7 4 = σ.1 7 4 ∧ τ.1 2 4 = σ.1 2 4 ∧ τ.1 2 5 = σ.1 2 5 ∧ τ.1 2 6 = σ.1 2 6 ∧ τ.1 3 8 = σ.1 3 8) → True → Q r τ) : fX11_system N x1 x2 Q σ := by sorry
set_option maxHeartbeats 4000000 in
theorem sX11_isStepCount {N : Nat} (hN : 4294967400 ≤ N) {x0 : Int32} {Q : Int32 → St → Prop} {σ0 σ : St} (hσ : K1 σ0 σ) (hQ : ∀ r : Int32, True → Q r σ) : fX11_isStepCount N x0 Q σ := by sorry
set_option maxHeartbeats 4000000 in
theorem sX2_fail {N : Nat} (hN : 4294967400 ≤ N) {x1 : Int32} {Q : St → Prop} {σ0 σ : St} (hσ : K1 σ0 σ) (hQ : ∀ τ : St, K1 σ0 τ → (τ.1 3 7 = σ.1 3 7 ∧ τ.1 3 6 = σ.1 3 6 ∧ τ.1 9 9 = σ.1 9 9 ∧ τ.1 9 10 = σ.1 9 10 ∧ τ.1 6 5 = σ.1 6 5 ∧ τ.1 7 4 = σ.1 7 4 ∧ τ.1 2 4 = σ.1 2 4 ∧ τ.1 2 5 = σ.1 2 5 ∧ τ.1 2 6 = σ.1 2 6 ∧ τ.1 3 8 = σ.1 3 8) → Q τ) : fX2_fail N x1 Q σ := by sorry
set_option maxHeartbeats 4000000 in
theorem sX2_readByte {N : Nat} (hN : 4294967400 ≤ N) {x1 : Int32} {Q : Int32 → St → Prop} {σ0 σ : St} (hσ : K1 σ0 σ) (hQ : ∀ (r : Int32) (τ : St), K1 σ0 τ → (τ.1 3 7 = σ.1 3 7 ∧ τ.1 3 6 = σ.1 3 6 ∧ τ.1 9 9 = σ.1 9 9 ∧ τ.1 9 10 = σ.1 9 10 ∧ τ.1 6 5 = σ.1 6 5 ∧ τ.1 7 4 = σ.1 7 4 ∧ τ.1 2 4 = σ.1 2 4 ∧ τ.1 2 5 = σ.1 2 5 ∧ τ.1 2 6 = σ.1 2 6 ∧ τ.1 3 8 = σ.1 3 8) → (0) ≤ r.toInt ∧ r.toInt ≤ 255 → Q r τ) : fX2_readByte N x1 Q σ := by sorry
set_option maxHeartbeats 4000000 in
theorem sX1_reset {N : Nat} (hN : 4294967400 ≤ N) {k0 : Nat} {x1 : Int32} {x2 : Int32} (hk0 : jobK k0) {Q : St → Prop} {σ0 σ : St} (hσ : K1 σ0 σ) (hQ : ∀ τ : St, K1 σ0 τ → (τ.1 3 7 = σ.1 3 7 ∧ τ.1 3 11 = σ.1 3 11 ∧ τ.1 3 6 = σ.1 3 6 ∧ τ.1 9 9 = σ.1 9 9 ∧ τ.1 9 10 = σ.1 9 10 ∧ τ.1 6 5 = σ.1 6 5 ∧ τ.1 7 4 = σ.1 7 4 ∧ τ.1 2 4 = σ.1 2 4 ∧ τ.1 2 5 = σ.1 2 5 ∧ τ.1 2 6 = σ.1 2 6 ∧ τ.1 3 8 = σ.1 3 8) → Q τ) : fX1_reset N k0 x1 x2 Q σ := by sorry
set_option maxHeartbeats 4000000 in
theorem sX2_begin {N : Nat} (hN : 4294967400 ≤ N) {x1 : Int32} {x2 : Int32} {Q : St → Prop} {σ0 σ : St} (hσ : K1 σ0 σ) (hQ : ∀ τ : St, K1 σ0 τ → (τ.1 3 6 = σ.1 3 6 ∧ τ.1 9 9 = σ.1 9 9 ∧ τ.1 9 10 = σ.1 9 10 ∧ τ.1 6 5 = σ.1 6 5 ∧ τ.1 7 4 = σ.1 7 4 ∧ τ.1 2 4 = σ.1 2 4 ∧ τ.1 2 5 = σ.1 2 5 ∧ τ.1 2 6 = σ.1 2 6 ∧ τ.1 3 8 = σ.1 3 8) → Q τ) : fX2_begin N x1 x2 Q σ := by sorry
set_option maxHeartbeats 4000000 in
theorem sX2_beginString {N : Nat} (hN : 4294967400 ≤ N) {x1 : Int32} {Q : St → Prop} {σ0 σ : St} (hσ : K1 σ0 σ) (hQ : ∀ τ : St, K1 σ0 τ → (τ.1 3 6 = σ.1 3 6 ∧ τ.1 9 9 = σ.1 9 9 ∧ τ.1 9 10 = σ.1 9 10 ∧ τ.1 6 5 = σ.1 6 5 ∧ τ.1 7 4 = σ.1 7 4 ∧ τ.1 2 4 = σ.1 2 4 ∧ τ.1 2 5 = σ.1 2 5 ∧ τ.1 2 6 = σ.1 2 6 ∧ τ.1 3 8 = σ.1 3 8) → Q τ) : fX2_beginString N x1 Q σ := by sorry
set_option maxHeartbeats 4000000 in
theorem sX2_nextByte {N : Nat} (hN : 4294967400 ≤ N) {Q : Int32 → St → Prop} {σ0 σ : St} (hσ : K1 σ0 σ) (hQ : ∀ (r : Int32) (τ : St), K1 σ0 τ → (τ.1 3 7 = σ.1 3 7 ∧ τ.1 3 6 = σ.1 3 6 ∧ τ.1 9 9 = σ.1 9 9 ∧ τ.1 9 10 = σ.1 9 10 ∧ τ.1 6 5 = σ.1 6 5 ∧ τ.1 7 4 = σ.1 7 4 ∧ τ.1 2 4 = σ.1 2 4 ∧ τ.1 2 5 = σ.1 2 5 ∧ τ.1 2 6 = σ.1 2 6 ∧ τ.1 3 8 = σ.1 3 8) → (0) ≤ r.toInt ∧ r.toInt ≤ 255 → Q r τ) : fX2_nextByte N  Q σ := by sorry
set_option maxHeartbeats 4000000 in
theorem sX3_hasFour {N : Nat} (hN : 4294967400 ≤ N) {x1 : Int32} {Q : Int32 → St → Prop} {σ0 σ : St} (hσ : K1 σ0 σ) (hQ : ∀ r : Int32, True → Q r σ) : fX3_hasFour N x1 Q σ := by sorry
set_option maxHeartbeats 4000000 in
theorem sX2_readFour {N : Nat} (hN : 4294967400 ≤ N) {x1 : Int32} {Q : Int32 → St → Prop} {σ0 σ : St} (hσ : K1 σ0 σ) (hQ : ∀ (r : Int32) (τ : St), K1 σ0 τ → (τ.1 3 7 = σ.1 3 7 ∧ τ.1 3 6 = σ.1 3 6 ∧ τ.1 9 9 = σ.1 9 9 ∧ τ.1 9 10 = σ.1 9 10 ∧ τ.1 6 5 = σ.1 6 5 ∧ τ.1 7 4 = σ.1 7 4 ∧ τ.1 2 4 = σ.1 2 4 ∧ τ.1 2 5 = σ.1 2 5 ∧ τ.1 2 6 = σ.1 2 6 ∧ τ.1 3 8 = σ.1 3 8) → True → Q r τ) : fX2_readFour N x1 Q σ := by sorry
set_option maxHeartbeats 4000000 in
theorem sX2_nextFour {N : Nat} (hN : 4294967400 ≤ N) {Q : Int32 → St → Prop} {σ0 σ : St} (hσ : K1 σ0 σ) (hQ : ∀ (r : Int32) (τ : St), K1 σ0 τ → (τ.1 3 7 = σ.1 3 7 ∧ τ.1 3 6 = σ.1 3 6 ∧ τ.1 9 9 = σ.1 9 9 ∧ τ.1 9 10 = σ.1 9 10 ∧ τ.1 6 5 = σ.1 6 5 ∧ τ.1 7 4 = σ.1 7 4 ∧ τ.1 2 4 = σ.1 2 4 ∧ τ.1 2 5 = σ.1 2 5 ∧ τ.1 2 6 = σ.1 2 6 ∧ τ.1 3 8 = σ.1 3 8) → True → Q r τ) : fX2_nextFour N  Q σ := by sorry
set_option maxHeartbeats 4000000 in
theorem sX1_hasLocal {N : Nat} (hN : 4294967400 ≤ N) {k0 : Nat} {x1 : Int32} (hk0 : jobK k0) {Q : Int32 → St → Prop} {σ0 σ : St} (hσ : K1 σ0 σ) (hQ : ∀ r : Int32, True → Q r σ) : fX1_hasLocal N k0 x1 Q σ := by sorry
set_option maxHeartbeats 4000000 in
theorem sX2_localOf {N : Nat} (hN : 4294967400 ≤ N) {k1 : Nat} {x2 : Int32} (hk1 : jobK k1) {Q : Int32 → St → Prop} {σ0 σ : St} (hσ : K1 σ0 σ) (hQ : ∀ (r : Int32) (τ : St), K1 σ0 τ → (τ.1 3 7 = σ.1 3 7 ∧ τ.1 3 6 = σ.1 3 6 ∧ τ.1 9 9 = σ.1 9 9 ∧ τ.1 9 10 = σ.1 9 10 ∧ τ.1 6 5 = σ.1 6 5 ∧ τ.1 7 4 = σ.1 7 4 ∧ τ.1 2 4 = σ.1 2 4 ∧ τ.1 2 5 = σ.1 2 5 ∧ τ.1 2 6 = σ.1 2 6 ∧ τ.1 3 8 = σ.1 3 8) → True → Q r τ) : fX2_localOf N k1 x2 Q σ := by sorry
set_option maxHeartbeats 4000000 in
theorem sX2_nextValue {N : Nat} (hN : 4294967400 ≤ N) {k1 : Nat} (hk1 : jobK k1) {Q : Int32 → St → Prop} {σ0 σ : St} (hσ : K1 σ0 σ) (hQ : ∀ (r : Int32) (τ : St), K1 σ0 τ → (τ.1 3 7 = σ.1 3 7 ∧ τ.1 3 6 = σ.1 3 6 ∧ τ.1 9 9 = σ.1 9 9 ∧ τ.1 9 10 = σ.1 9 10 ∧ τ.1 6 5 = σ.1 6 5 ∧ τ.1 7 4 = σ.1 7 4 ∧ τ.1 2 4 = σ.1 2 4 ∧ τ.1 2 5 = σ.1 2 5 ∧ τ.1 2 6 = σ.1 2 6 ∧ τ.1 3 8 = σ.1 3 8) → True → Q r τ) : fX2_nextValue N k1 Q σ := by sorry
set_option maxHeartbeats 4000000 in
theorem sX2_nextTarget {N : Nat} (hN : 4294967400 ≤ N) {k1 : Nat} (hk1 : jobK k1) {Q : Int32 → St → Prop} {σ0 σ : St} (hσ : K1 σ0 σ) (hQ : ∀ (r : Int32) (τ : St), K1 σ0 τ → (τ.1 3 7 = σ.1 3 7 ∧ τ.1 3 6 = σ.1 3 6 ∧ τ.1 9 9 = σ.1 9 9 ∧ τ.1 9 10 = σ.1 9 10 ∧ τ.1 6 5 = σ.1 6 5 ∧ τ.1 7 4 = σ.1 7 4 ∧ τ.1 2 4 = σ.1 2 4 ∧ τ.1 2 5 = σ.1 2 5 ∧ τ.1 2 6 = σ.1 2 6 ∧ τ.1 3 8 = σ.1 3 8) → True → Q r τ) : fX2_nextTarget N k1 Q σ := by sorry
set_option maxHeartbeats 4000000 in
theorem sX1_setLocal {N : Nat} (hN : 4294967400 ≤ N) {k0 : Nat} {x1 : Int32} {x2 : Int32} (hk0 : jobK k0) {Q : St → Prop} {σ0 σ : St} (hσ : K1 σ0 σ) (hQ : ∀ τ : St, K1 σ0 τ → (τ.1 3 7 = σ.1 3 7 ∧ τ.1 3 11 = σ.1 3 11 ∧ τ.1 3 6 = σ.1 3 6 ∧ τ.1 9 9 = σ.1 9 9 ∧ τ.1 9 10 = σ.1 9 10 ∧ τ.1 6 5 = σ.1 6 5 ∧ τ.1 7 4 = σ.1 7 4 ∧ τ.1 2 4 = σ.1 2 4 ∧ τ.1 2 5 = σ.1 2 5 ∧ τ.1 2 6 = σ.1 2 6 ∧ τ.1 3 8 = σ.1 3 8) → Q τ) : fX1_setLocal N k0 x1 x2 Q σ := by sorry
set_option maxHeartbeats 4000000 in
theorem sX2_fillLocals {N : Nat} (hN : 4294967400 ≤ N) {k1 : Nat} {x2 : Int32} (hk1 : jobK k1) {Q : St → Prop} {σ0 σ : St} (hσ : K1 σ0 σ) (hQ : ∀ τ : St, K1 σ0 τ → (τ.1 3 7 = σ.1 3 7 ∧ τ.1 3 11 = σ.1 3 11 ∧ τ.1 3 6 = σ.1 3 6 ∧ τ.1 9 9 = σ.1 9 9 ∧ τ.1 9 10 = σ.1 9 10 ∧ τ.1 6 5 = σ.1 6 5 ∧ τ.1 7 4 = σ.1 7 4 ∧ τ.1 2 4 = σ.1 2 4 ∧ τ.1 2 5 = σ.1 2 5 ∧ τ.1 2 6 = σ.1 2 6 ∧ τ.1 3 8 = σ.1 3 8) → Q τ) : fX2_fillLocals N k1 x2 Q σ := by sorry
set_option maxHeartbeats 4000000 in
theorem sX2_callFunction {N : Nat} (hN : 4294967400 ≤ N) {x1 : Int32} {x2 : Int32} {Q : St → Prop} {σ0 σ : St} (hσ : K1 σ0 σ) (hQ : ∀ τ : St, K1 σ0 τ → (τ.1 3 6 = σ.1 3 6 ∧ τ.1 9 9 = σ.1 9 9 ∧ τ.1 9 10 = σ.1 9 10 ∧ τ.1 6 5 = σ.1 6 5 ∧ τ.1 7 4 = σ.1 7 4 ∧ τ.1 2 4 = σ.1 2 4 ∧ τ.1 2 5 = σ.1 2 5 ∧ τ.1 2 6 = σ.1 2 6 ∧ τ.1 3 8 = σ.1 3 8) → Q τ) : fX2_callFunction N x1 x2 Q σ := by sorry
set_option maxHeartbeats 4000000 in
theorem sX2_doCallOrder {N : Nat} (hN : 4294967400 ≤ N) {k1 : Nat} (hk1 : jobK k1) {Q : St → Prop} {σ0 σ : St} (hσ : K1 σ0 σ) (hQ : ∀ τ : St, K1 σ0 τ → (τ.1 9 9 = σ.1 9 9 ∧ τ.1 9 10 = σ.1 9 10 ∧ τ.1 6 5 = σ.1 6 5 ∧ τ.1 7 4 = σ.1 7 4 ∧ τ.1 2 4 = σ.1 2 4 ∧ τ.1 2 5 = σ.1 2 5 ∧ τ.1 2 6 = σ.1 2 6 ∧ τ.1 3 8 = σ.1 3 8) → Q τ) : fX2_doCallOrder N k1 Q σ := by sorry
set_option maxHeartbeats 4000000 in
theorem sX2_nextDistance {N : Nat} (hN : 4294967400 ≤ N) {Q : Int32 → St → Prop} {σ0 σ : St} (hσ : K1 σ0 σ) (hQ : ∀ (r : Int32) (τ : St), K1 σ0 τ → (τ.1 3 7 = σ.1 3 7 ∧ τ.1 3 6 = σ.1 3 6 ∧ τ.1 9 9 = σ.1 9 9 ∧ τ.1 9 10 = σ.1 9 10 ∧ τ.1 6 5 = σ.1 6 5 ∧ τ.1 7 4 = σ.1 7 4 ∧ τ.1 2 4 = σ.1 2 4 ∧ τ.1 2 5 = σ.1 2 5 ∧ τ.1 2 6 = σ.1 2 6 ∧ τ.1 3 8 = σ.1 3 8) → True → Q r τ) : fX2_nextDistance N  Q σ := by sorry
set_option maxHeartbeats 4000000 in
theorem sX2_valueFor {N : Nat} (hN : 4294967400 ≤ N) {x1 : Int32} {x2 : Int32} {x3 : Int32} {Q : Int32 → St → Prop} {σ0 σ : St} (hσ : K1 σ0 σ) (hQ : ∀ (r : Int32) (τ : St), K1 σ0 τ → (τ.1 3 7 = σ.1 3 7 ∧ τ.1 3 6 = σ.1 3 6 ∧ τ.1 9 9 = σ.1 9 9 ∧ τ.1 9 10 = σ.1 9 10 ∧ τ.1 6 5 = σ.1 6 5 ∧ τ.1 7 4 = σ.1 7 4 ∧ τ.1 2 4 = σ.1 2 4 ∧ τ.1 2 5 = σ.1 2 5 ∧ τ.1 2 6 = σ.1 2 6 ∧ τ.1 3 8 = σ.1 3 8) → True → Q r τ) : fX2_valueFor N x1 x2 x3 Q σ := by sorry
set_option maxHeartbeats 4000000 in
theorem sX2_goesThere {N : Nat} (hN : 4294967400 ≤ N) {x0 : Int32} {x1 : Int32} {x2 : Int32} {Q : Int32 → St → Prop} {σ0 σ : St} (hσ : K1 σ0 σ) (hQ : ∀ r : Int32, True → Q r σ) : fX2_goesThere N x0 x1 x2 Q σ := by sorry
set_option maxHeartbeats 4000000 in
theorem sX2_endFunction {N : Nat} (hN : 4294967400 ≤ N) {k1 : Nat} {x2 : Int32} (hk1 : jobK k1) {Q : St → Prop} {σ0 σ : St} (hs3_7 : 1 ≤ (σ.1 3 7).toInt ∧ (σ.1 3 7).toInt ≤ 40) (hσ : K1 σ0 σ) (hQ : ∀ τ : St, K1 σ0 τ → (τ.1 3 11 = σ.1 3 11 ∧ τ.1 3 6 = σ.1 3 6 ∧ τ.1 9 9 = σ.1 9 9 ∧ τ.1 9 10 = σ.1 9 10 ∧ τ.1 6 5 = σ.1 6 5 ∧ τ.1 7 4 = σ.1 7 4 ∧ τ.1 2 4 = σ.1 2 4 ∧ τ.1 2 5 = σ.1 2 5 ∧ τ.1 2 6 = σ.1 2 6 ∧ τ.1 3 8 = σ.1 3 8) → Q τ) : fX2_endFunction N k1 x2 Q σ := by sorry
set_option maxHeartbeats 4000000 in
theorem sX2_putOut {N : Nat} (hN : 4294967400 ≤ N) {x1 : Int32} {Q : St → Prop} {σ0 σ : St} (hσ : K1 σ0 σ) (hQ : ∀ τ : St, K1 σ0 τ → (τ.1 3 7 = σ.1 3 7 ∧ τ.1 3 6 = σ.1 3 6 ∧ τ.1 9 9 = σ.1 9 9 ∧ τ.1 9 10 = σ.1 9 10 ∧ τ.1 6 5 = σ.1 6 5 ∧ τ.1 7 4 = σ.1 7 4 ∧ τ.1 2 4 = σ.1 2 4 ∧ τ.1 2 5 = σ.1 2 5 ∧ τ.1 2 6 = σ.1 2 6) → Q τ) : fX2_putOut N x1 Q σ := by sorry
set_option maxHeartbeats 4000000 in
theorem sX2_give {N : Nat} (hN : 4294967400 ≤ N) {x1 : Int32} {Q : St → Prop} {σ0 σ : St} (hσ : K1 σ0 σ) (hQ : ∀ τ : St, K1 σ0 τ → (τ.1 9 9 = σ.1 9 9 ∧ τ.1 9 10 = σ.1 9 10 ∧ τ.1 6 5 = σ.1 6 5 ∧ τ.1 7 4 = σ.1 7 4 ∧ τ.1 2 4 = σ.1 2 4 ∧ τ.1 2 5 = σ.1 2 5 ∧ τ.1 2 6 = σ.1 2 6) → Q τ) : fX2_give N x1 Q σ := by sorry
set_option maxHeartbeats 4000000 in
theorem sX3_putByte {N : Nat} (hN : 4294967400 ≤ N) {x1 : Int32} {x2 : Int32} {Q : St → Prop} {σ0 σ : St} (hσ : K1 σ0 σ) (hQ : ∀ τ : St, K1 σ0 τ → (τ.1 3 7 = σ.1 3 7 ∧ τ.1 3 11 = σ.1 3 11 ∧ τ.1 3 6 = σ.1 3 6 ∧ τ.1 9 9 = σ.1 9 9 ∧ τ.1 9 10 = σ.1 9 10 ∧ τ.1 6 5 = σ.1 6 5 ∧ τ.1 7 4 = σ.1 7 4 ∧ τ.1 2 4 = σ.1 2 4 ∧ τ.1 2 5 = σ.1 2 5 ∧ τ.1 2 6 = σ.1 2 6 ∧ τ.1 3 8 = σ.1 3 8) → Q τ) : fX3_putByte N x1 x2 Q σ := by sorry
set_option maxHeartbeats 4000000 in
theorem sX2_writeByte {N : Nat} (hN : 4294967400 ≤ N) {x1 : Int32} {x2 : Int32} {Q : St → Prop} {σ0 σ : St} (hσ : K1 σ0 σ) (hQ : ∀ τ : St, K1 σ0 τ → (τ.1 3 7 = σ.1 3 7 ∧ τ.1 3 6 = σ.1 3 6 ∧ τ.1 9 9 = σ.1 9 9 ∧ τ.1 9 10 = σ.1 9 10 ∧ τ.1 6 5 = σ.1 6 5 ∧ τ.1 7 4 = σ.1 7 4 ∧ τ.1 2 4 = σ.1 2 4 ∧ τ.1 2 5 = σ.1 2 5 ∧ τ.1 2 6 = σ.1 2 6 ∧ τ.1 3 8 = σ.1 3 8) → Q τ) : fX2_writeByte N x1 x2 Q σ := by sorry
set_option maxHeartbeats 4000000 in
theorem sX2_act {N : Nat} (hN : 4294967400 ≤ N) {k1 : Nat} {x2 : Int32} {x3 : Int32} {x4 : Int32} (hk1 : jobK k1) {Q : St → Prop} {σ0 σ : St} (hs3_7 : 1 ≤ (σ.1 3 7).toInt ∧ (σ.1 3 7).toInt ≤ 40) (hσ : K1 σ0 σ) (hQ : ∀ τ : St, K1 σ0 τ → (τ.1 9 9 = σ.1 9 9 ∧ τ.1 9 10 = σ.1 9 10 ∧ τ.1 6 5 = σ.1 6 5 ∧ τ.1 7 4 = σ.1 7 4 ∧ τ.1 2 4 = σ.1 2 4) → Q τ) : fX2_act N k1 x2 x3 x4 Q σ := by sorry
set_option maxHeartbeats 4000000 in
theorem sX2_doOrder {N : Nat} (hN : 4294967400 ≤ N) {k1 : Nat} (hk1 : jobK k1) {Q : St → Prop} {σ0 σ : St} (hs3_7 : 1 ≤ (σ.1 3 7).toInt ∧ (σ.1 3 7).toInt ≤ 40) (hσ : K1 σ0 σ) (hQ : ∀ τ : St, K1 σ0 τ → (τ.1 9 9 = σ.1 9 9 ∧ τ.1 9 10 = σ.1 9 10 ∧ τ.1 6 5 = σ.1 6 5 ∧ τ.1 7 4 = σ.1 7 4 ∧ τ.1 2 4 = σ.1 2 4) → Q τ) : fX2_doOrder N k1 Q σ := by sorry
set_option maxHeartbeats 4000000 in
theorem sX2_stepPlain {N : Nat} (hN : 4294967400 ≤ N) {k1 : Nat} (hk1 : jobK k1) {Q : St → Prop} {σ0 σ : St} (hs3_7 : 1 ≤ (σ.1 3 7).toInt ∧ (σ.1 3 7).toInt ≤ 40) (hσ : K1 σ0 σ) (hQ : ∀ τ : St, K1 σ0 τ → (τ.1 9 9 = σ.1 9 9 ∧ τ.1 9 10 = σ.1 9 10 ∧ τ.1 6 5 = σ.1 6 5 ∧ τ.1 7 4 = σ.1 7 4 ∧ τ.1 2 4 = σ.1 2 4 ∧ τ.1 2 5 = σ.1 2 5 ∧ τ.1 2 6 = σ.1 2 6) → Q τ) : fX2_stepPlain N k1 Q σ := by sorry
set_option maxHeartbeats 4000000 in
theorem sX2_stepWide {N : Nat} (hN : 4294967400 ≤ N) {k1 : Nat} (hk1 : jobK k1) {Q : St → Prop} {σ0 σ : St} (hs3_7 : 1 ≤ (σ.1 3 7).toInt ∧ (σ.1 3 7).toInt ≤ 40) (hσ : K1 σ0 σ) (hQ : ∀ τ : St, K1 σ0 τ → (τ.1 9 9 = σ.1 9 9 ∧ τ.1 9 10 = σ.1 9 10 ∧ τ.1 6 5 = σ.1 6 5 ∧ τ.1 7 4 = σ.1 7 4 ∧ τ.1 2 4 = σ.1 2 4 ∧ τ.1 2 5 = σ.1 2 5 ∧ τ.1 2 6 = σ.1 2 6) → Q τ) : fX2_stepWide N k1 Q σ := by sorry
set_option maxHeartbeats 4000000 in
theorem sX2_followBranch {N : Nat} (hN : 4294967400 ≤ N) {k1 : Nat} {x2 : Int32} (hk1 : jobK k1) {Q : St → Prop} {σ0 σ : St} (hσ : K1 σ0 σ) (hQ : ∀ τ : St, K1 σ0 τ → (τ.1 3 7 = σ.1 3 7 ∧ τ.1 3 6 = σ.1 3 6 ∧ τ.1 9 9 = σ.1 9 9 ∧ τ.1 9 10 = σ.1 9 10 ∧ τ.1 6 5 = σ.1 6 5 ∧ τ.1 7 4 = σ.1 7 4 ∧ τ.1 2 4 = σ.1 2 4 ∧ τ.1 2 5 = σ.1 2 5 ∧ τ.1 2 6 = σ.1 2 6 ∧ τ.1 3 8 = σ.1 3 8) → Q τ) : fX2_followBranch N k1 x2 Q σ := by sorry
set_option maxHeartbeats 4000000 in
theorem sX2_readArguments {N : Nat} (hN : 4294967400 ≤ N) {x1 : Int32} {Q : St → Prop} {σ0 σ : St} (hσ : K1 σ0 σ) (hQ : ∀ τ : St, K1 σ0 τ → (τ.1 3 7 = σ.1 3 7 ∧ τ.1 9 9 = σ.1 9 9 ∧ τ.1 9 10 = σ.1 9 10 ∧ τ.1 6 5 = σ.1 6 5 ∧ τ.1 7 4 = σ.1 7 4 ∧ τ.1 2 4 = σ.1 2 4 ∧ τ.1 2 5 = σ.1 2 5 ∧ τ.1 2 6 = σ.1 2 6 ∧ τ.1 3 8 = σ.1 3 8) → Q τ) : fX2_readArguments N x1 Q σ := by sorry
set_option maxHeartbeats 4000000 in
theorem sX2_enterThing {N : Nat} (hN : 4294967400 ≤ N) {x1 : Int32} {x2 : Int32} {Q : St → Prop} {σ0 σ : St} (hσ : K1 σ0 σ) (hQ : ∀ τ : St, K1 σ0 τ → (τ.1 9 9 = σ.1 9 9 ∧ τ.1 9 10 = σ.1 9 10 ∧ τ.1 6 5 = σ.1 6 5 ∧ τ.1 7 4 = σ.1 7 4 ∧ τ.1 2 4 = σ.1 2 4 ∧ τ.1 2 5 = σ.1 2 5 ∧ τ.1 2 6 = σ.1 2 6 ∧ τ.1 3 8 = σ.1 3 8) → Q τ) : fX2_enterThing N x1 x2 Q σ := by sorry
set_option maxHeartbeats 4000000 in
theorem sX2_doLeaf {N : Nat} (hN : 4294967400 ≤ N) {x1 : Int32} {x2 : Int32} {Q : St → Prop} {σ0 σ : St} (hσ : K1 σ0 σ) (hQ : ∀ τ : St, K1 σ0 τ → (τ.1 9 9 = σ.1 9 9 ∧ τ.1 9 10 = σ.1 9 10 ∧ τ.1 6 5 = σ.1 6 5 ∧ τ.1 7 4 = σ.1 7 4 ∧ τ.1 2 4 = σ.1 2 4 ∧ τ.1 2 5 = σ.1 2 5 ∧ τ.1 2 6 = σ.1 2 6) → Q τ) : fX2_doLeaf N x1 x2 Q σ := by sorry
set_option maxHeartbeats 4000000 in
theorem sX2_stepPacked {N : Nat} (hN : 4294967400 ≤ N) {k1 : Nat} (hk1 : jobK k1) {Q : St → Prop} {σ0 σ : St} (hs3_7 : 1 ≤ (σ.1 3 7).toInt ∧ (σ.1 3 7).toInt ≤ 40) (hσ : K1 σ0 σ) (hQ : ∀ τ : St, K1 σ0 τ → (τ.1 9 9 = σ.1 9 9 ∧ τ.1 9 10 = σ.1 9 10 ∧ τ.1 6 5 = σ.1 6 5 ∧ τ.1 7 4 = σ.1 7 4 ∧ τ.1 2 4 = σ.1 2 4 ∧ τ.1 2 5 = σ.1 2 5 ∧ τ.1 2 6 = σ.1 2 6) → Q τ) : fX2_stepPacked N k1 Q σ := by sorry
set_option maxHeartbeats 4000000 in
theorem sX2_digitCount {N : Nat} (hN : 4294967400 ≤ N) {x0 : Int64} {Q : Int32 → St → Prop} {σ0 σ : St} (hσ : K1 σ0 σ) (hQ : ∀ r : Int32, True → Q r σ) : fX2_digitCount N x0 Q σ := by sorry
set_option maxHeartbeats 4000000 in
theorem sX2_stepNumber {N : Nat} (hN : 4294967400 ≤ N) {k1 : Nat} (hk1 : jobK k1) {Q : St → Prop} {σ0 σ : St} (hs3_7 : 1 ≤ (σ.1 3 7).toInt ∧ (σ.1 3 7).toInt ≤ 40) (hσ : K1 σ0 σ) (hQ : ∀ τ : St, K1 σ0 τ → (τ.1 9 9 = σ.1 9 9 ∧ τ.1 9 10 = σ.1 9 10 ∧ τ.1 6 5 = σ.1 6 5 ∧ τ.1 7 4 = σ.1 7 4 ∧ τ.1 2 4 = σ.1 2 4 ∧ τ.1 2 5 = σ.1 2 5 ∧ τ.1 2 6 = σ.1 2 6) → Q τ) : fX2_stepNumber N k1 Q σ := by sorry
set_option maxHeartbeats 4000000 in
theorem sX2_endInFault {N : Nat} (hN : 4294967400 ≤ N) {Q : Int32 → St → Prop} {σ0 σ : St} (hσ : K1 σ0 σ) (hQ : ∀ (r : Int32) (τ : St), K1 σ0 τ → (τ.1 3 6 = σ.1 3 6 ∧ τ.1 9 9 = σ.1 9 9 ∧ τ.1 9 10 = σ.1 9 10 ∧ τ.1 6 5 = σ.1 6 5 ∧ τ.1 7 4 = σ.1 7 4 ∧ τ.1 2 4 = σ.1 2 4 ∧ τ.1 2 5 = σ.1 2 5 ∧ τ.1 2 6 = σ.1 2 6 ∧ τ.1 3 8 = σ.1 3 8) → True → Q r τ) : fX2_endInFault N  Q σ := by sorry
set_option maxHeartbeats 4000000 in
theorem sX2_run {N : Nat} (hN : 4294967400 ≤ N) {x1 : Int32} {Q : Int32 → St → Prop} {σ0 σ : St} (hσ : K1 σ0 σ) (hQ : ∀ (r : Int32) (τ : St), K1 σ0 τ → (τ.1 9 9 = σ.1 9 9 ∧ τ.1 9 10 = σ.1 9 10 ∧ τ.1 6 5 = σ.1 6 5 ∧ τ.1 7 4 = σ.1 7 4 ∧ τ.1 2 4 = σ.1 2 4) → True → Q r τ) : fX2_run N x1 Q σ := by sorry
set_option maxHeartbeats 4000000 in
theorem sX11_print {N : Nat} (hN : 4294967400 ≤ N) {x1 : Int32} {x2 : Int32} {Q : Int32 → St → Prop} {σ0 σ : St} (hσ : K1 σ0 σ) (hQ : ∀ (r : Int32) (τ : St), K1 σ0 τ → (τ.1 9 9 = σ.1 9 9 ∧ τ.1 9 10 = σ.1 9 10 ∧ τ.1 6 5 = σ.1 6 5 ∧ τ.1 7 4 = σ.1 7 4 ∧ τ.1 2 4 = σ.1 2 4) → True → Q r τ) : fX11_print N x1 x2 Q σ := by sorry
set_option maxHeartbeats 4000000 in
theorem sX11_number {N : Nat} (hN : 4294967400 ≤ N) {x1 : Int32} {x2 : Int32} {Q : Int32 → St → Prop} {σ0 σ : St} (hσ : K1 σ0 σ) (hQ : ∀ (r : Int32) (τ : St), K1 σ0 τ → (τ.1 9 9 = σ.1 9 9 ∧ τ.1 9 10 = σ.1 9 10 ∧ τ.1 6 5 = σ.1 6 5 ∧ τ.1 7 4 = σ.1 7 4 ∧ τ.1 2 4 = σ.1 2 4) → True → Q r τ) : fX11_number N x1 x2 Q σ := by sorry
set_option maxHeartbeats 4000000 in
theorem sX2_setArguments {N : Nat} (hN : 4294967400 ≤ N) {k1 : Nat} {x2 : Int32} (hk1 : r120 k1) {Q : St → Prop} {σ0 σ : St} (hσ : K1 σ0 σ) (hQ : ∀ τ : St, K1 σ0 τ → (τ.1 3 7 = σ.1 3 7 ∧ τ.1 3 11 = σ.1 3 11 ∧ τ.1 9 9 = σ.1 9 9 ∧ τ.1 9 10 = σ.1 9 10 ∧ τ.1 6 5 = σ.1 6 5 ∧ τ.1 7 4 = σ.1 7 4 ∧ τ.1 2 4 = σ.1 2 4 ∧ τ.1 2 5 = σ.1 2 5 ∧ τ.1 2 6 = σ.1 2 6 ∧ τ.1 3 8 = σ.1 3 8) → Q τ) : fX2_setArguments N k1 x2 Q σ := by sorry
set_option maxHeartbeats 4000000 in
theorem sX11_call {N : Nat} (hN : 4294967400 ≤ N) {x1 : Int32} {x2 : Int32} {Q : Int32 → St → Prop} {σ0 σ : St} (hσ : K1 σ0 σ) (hQ : ∀ (r : Int32) (τ : St), K1 σ0 τ → (τ.1 9 9 = σ.1 9 9 ∧ τ.1 9 10 = σ.1 9 10 ∧ τ.1 6 5 = σ.1 6 5 ∧ τ.1 7 4 = σ.1 7 4 ∧ τ.1 2 4 = σ.1 2 4) → True → Q r τ) : fX11_call N x1 x2 Q σ := by sorry
set_option maxHeartbeats 4000000 in
theorem sX11_resume {N : Nat} (hN : 4294967400 ≤ N) {x1 : Int32} {Q : Int32 → St → Prop} {σ0 σ : St} (hσ : K1 σ0 σ) (hQ : ∀ (r : Int32) (τ : St), K1 σ0 τ → (τ.1 9 9 = σ.1 9 9 ∧ τ.1 9 10 = σ.1 9 10 ∧ τ.1 6 5 = σ.1 6 5 ∧ τ.1 7 4 = σ.1 7 4 ∧ τ.1 2 4 = σ.1 2 4) → True → Q r τ) : fX11_resume N x1 Q σ := by sorry
set_option maxHeartbeats 4000000 in
theorem sX11_stop {N : Nat} (hN : 4294967400 ≤ N) {Q : Int32 → St → Prop} {σ0 σ : St} (hσ : K1 σ0 σ) (hQ : ∀ (r : Int32) (τ : St), K1 σ0 τ → (τ.1 3 11 = σ.1 3 11 ∧ τ.1 3 6 = σ.1 3 6 ∧ τ.1 9 9 = σ.1 9 9 ∧ τ.1 9 10 = σ.1 9 10 ∧ τ.1 6 5 = σ.1 6 5 ∧ τ.1 7 4 = σ.1 7 4 ∧ τ.1 2 4 = σ.1 2 4 ∧ τ.1 2 5 = σ.1 2 5 ∧ τ.1 2 6 = σ.1 2 6 ∧ τ.1 3 8 = σ.1 3 8) → True → Q r τ) : fX11_stop N  Q σ := by sorry
set_option maxHeartbeats 4000000 in
theorem sX11_jobs {N : Nat} (hN : 4294967400 ≤ N) {Q : Int32 → St → Prop} {σ0 σ : St} (hσ : K1 σ0 σ) (hQ : ∀ r : Int32, True → Q r σ) : fX11_jobs N  Q σ := by sorry
set_option maxHeartbeats 4000000 in
theorem sX1_tellNode {N : Nat} (hN : 4294967400 ≤ N) {k0 : Nat} (hk0 : jobK k0) {Q : Int32 → St → Prop} {σ0 σ : St} (hσ : K1 σ0 σ) (hQ : ∀ r : Int32, True → Q r σ) : fX1_tellNode N k0 Q σ := by sorry
set_option maxHeartbeats 4000000 in
theorem sX1_tell {N : Nat} (hN : 4294967400 ≤ N) {k0 : Nat} {x1 : Int32} (hk0 : jobK k0) {Q : Int32 → St → Prop} {σ0 σ : St} (hσ : K1 σ0 σ) (hQ : ∀ r : Int32, True → Q r σ) : fX1_tell N k0 x1 Q σ := by sorry
set_option maxHeartbeats 4000000 in
theorem sX11_job {N : Nat} (hN : 4294967400 ≤ N) {x1 : Int32} {x2 : Int32} {Q : Int32 → St → Prop} {σ0 σ : St} (hσ : K1 σ0 σ) (hQ : ∀ r : Int32, True → Q r σ) : fX11_job N x1 x2 Q σ := by sorry
set_option maxHeartbeats 4000000 in
theorem sX11_at {N : Nat} (hN : 4294967400 ≤ N) {x1 : Int32} {Q : Int32 → St → Prop} {σ0 σ : St} (hσ : K1 σ0 σ) (hQ : ∀ r : Int32, True → Q r σ) : fX11_at N x1 Q σ := by sorry
set_option maxHeartbeats 4000000 in
theorem sX11_clear {N : Nat} (hN : 4294967400 ≤ N) {Q : Int32 → St → Prop} {σ0 σ : St} (hσ : K1 σ0 σ) (hQ : ∀ (r : Int32) (τ : St), K1 σ0 τ → (τ.1 3 7 = σ.1 3 7 ∧ τ.1 3 11 = σ.1 3 11 ∧ τ.1 3 6 = σ.1 3 6 ∧ τ.1 9 9 = σ.1 9 9 ∧ τ.1 9 10 = σ.1 9 10 ∧ τ.1 6 5 = σ.1 6 5 ∧ τ.1 7 4 = σ.1 7 4 ∧ τ.1 2 4 = σ.1 2 4 ∧ τ.1 2 5 = σ.1 2 5 ∧ τ.1 2 6 = σ.1 2 6) → True → Q r τ) : fX11_clear N  Q σ := by sorry
set_option maxHeartbeats 4000000 in
theorem sX9_tell {N : Nat} (hN : 4294967400 ≤ N) {x1 : Int32} {Q : Int32 → St → Prop} {σ0 σ : St} (hσ : K1 σ0 σ) (hQ : ∀ r : Int32, True → Q r σ) : fX9_tell N x1 Q σ := by sorry
set_option maxHeartbeats 4000000 in
theorem sX11_told {N : Nat} (hN : 4294967400 ≤ N) {x1 : Int32} {Q : Int32 → St → Prop} {σ0 σ : St} (hσ : K1 σ0 σ) (hQ : ∀ (r : Int32) (τ : St), K1 σ0 τ → (τ.1 3 7 = σ.1 3 7 ∧ τ.1 3 11 = σ.1 3 11 ∧ τ.1 3 6 = σ.1 3 6 ∧ τ.1 9 9 = σ.1 9 9 ∧ τ.1 9 10 = σ.1 9 10 ∧ τ.1 6 5 = σ.1 6 5 ∧ τ.1 7 4 = σ.1 7 4 ∧ τ.1 2 5 = σ.1 2 5 ∧ τ.1 2 6 = σ.1 2 6 ∧ τ.1 3 8 = σ.1 3 8) → True → Q r τ) : fX11_told N x1 Q σ := by sorry
set_option maxHeartbeats 4000000 in
theorem sX11_sign {N : Nat} (hN : 4294967400 ≤ N) {x1 : Int32} {Q : Int32 → St → Prop} {σ0 σ : St} (hσ : K1 σ0 σ) (hQ : ∀ (r : Int32) (τ : St), K1 σ0 τ → (τ.1 3 7 = σ.1 3 7 ∧ τ.1 3 11 = σ.1 3 11 ∧ τ.1 3 6 = σ.1 3 6 ∧ τ.1 9 9 = σ.1 9 9 ∧ τ.1 9 10 = σ.1 9 10 ∧ τ.1 6 5 = σ.1 6 5 ∧ τ.1 7 4 = σ.1 7 4 ∧ τ.1 2 4 = σ.1 2 4 ∧ τ.1 2 5 = σ.1 2 5 ∧ τ.1 2 6 = σ.1 2 6 ∧ τ.1 3 8 = σ.1 3 8) → True → Q r τ) : fX11_sign N x1 Q σ := by sorry
set_option maxHeartbeats 4000000 in
theorem sX7_areSigns {N : Nat} (hN : 4294967400 ≤ N) {k0 : Nat} {x1 : Int32} {x2 : Int32} (hk0 : r120 k0) {Q : Int32 → St → Prop} {σ0 σ : St} (hσ : K1 σ0 σ) (hQ : ∀ r : Int32, True → Q r σ) : fX7_areSigns N k0 x1 x2 Q σ := by sorry
set_option maxHeartbeats 4000000 in
theorem sX7_isPiece {N : Nat} (hN : 4294967400 ≤ N) {x0 : Int32} {k1 : Nat} {x2 : Int32} (hk1 : r120 k1) {Q : Int32 → St → Prop} {σ0 σ : St} (hσ : K1 σ0 σ) (hQ : ∀ r : Int32, (r.toInt = 0 ∨ (1 ≤ x2.toInt ∧ x2.toInt ≤ 20)) → Q r σ) : fX7_isPiece N x0 k1 x2 Q σ := by sorry
set_option maxHeartbeats 4000000 in
theorem sX7_add {N : Nat} (hN : 4294967400 ≤ N) {x1 : Int32} {k2 : Nat} {x3 : Int32} (hk2 : r120 k2) {Q : Int32 → St → Prop} {σ0 σ : St} (hp3 : 0 ≤ x3.toInt ∧ x3.toInt ≤ 20) (hσ : K1 σ0 σ) (hQ : ∀ (r : Int32) (τ : St), K1 σ0 τ → (τ.1 3 7 = σ.1 3 7 ∧ τ.1 3 11 = σ.1 3 11 ∧ τ.1 3 6 = σ.1 3 6 ∧ τ.1 9 9 = σ.1 9 9 ∧ τ.1 9 10 = σ.1 9 10 ∧ τ.1 7 4 = σ.1 7 4 ∧ τ.1 2 4 = σ.1 2 4 ∧ τ.1 2 5 = σ.1 2 5 ∧ τ.1 2 6 = σ.1 2 6 ∧ τ.1 3 8 = σ.1 3 8) → True → Q r τ) : fX7_add N x1 k2 x3 Q σ := by sorry
set_option maxHeartbeats 4000000 in
theorem sX11_piece {N : Nat} (hN : 4294967400 ≤ N) {x1 : Int32} {Q : Int32 → St → Prop} {σ0 σ : St} (hσ : K1 σ0 σ) (hQ : ∀ (r : Int32) (τ : St), K1 σ0 τ → (τ.1 3 7 = σ.1 3 7 ∧ τ.1 3 11 = σ.1 3 11 ∧ τ.1 3 6 = σ.1 3 6 ∧ τ.1 9 9 = σ.1 9 9 ∧ τ.1 9 10 = σ.1 9 10 ∧ τ.1 7 4 = σ.1 7 4 ∧ τ.1 2 4 = σ.1 2 4 ∧ τ.1 2 5 = σ.1 2 5 ∧ τ.1 2 6 = σ.1 2 6 ∧ τ.1 3 8 = σ.1 3 8) → True → Q r τ) : fX11_piece N x1 Q σ := by sorry
set_option maxHeartbeats 4000000 in
theorem sX7_standsAt {N : Nat} (hN : 4294967400 ≤ N) {x1 : Int32} {k2 : Nat} {x3 : Int32} {x4 : Int32} (hk2 : r120 k2) {Q : Int32 → St → Prop} {σ0 σ : St} (hp1 : 0 ≤ x1.toInt ∧ x1.toInt ≤ 59) (hp4 : 0 ≤ x4.toInt ∧ x4.toInt ≤ 120) (hσ : K1 σ0 σ) (hQ : ∀ r : Int32, (r.toInt = 0 ∨ (0 ≤ x3.toInt ∧ x4.toInt ≤ 120 ∧ (σ.1 21 x1.toNatClampNeg).toInt ≤ x4.toInt - x3.toInt)) → Q r σ) : fX7_standsAt N x1 k2 x3 x4 Q σ := by sorry
set_option maxHeartbeats 4000000 in
theorem sX6_choose {N : Nat} (hN : 4294967400 ≤ N) {k1 : Nat} {x2 : Int32} {x3 : Int32} (hk1 : r120 k1) {Q : St → Prop} {σ0 σ : St} (hp2 : 0 ≤ x2.toInt ∧ x2.toInt ≤ 119) (hp3 : 0 ≤ x3.toInt ∧ x3.toInt ≤ 120) (hσ : K1 σ0 σ) (hQ : ∀ τ : St, K1 σ0 τ → (τ.1 3 7 = σ.1 3 7 ∧ τ.1 3 11 = σ.1 3 11 ∧ τ.1 3 6 = σ.1 3 6 ∧ τ.1 9 9 = σ.1 9 9 ∧ τ.1 9 10 = σ.1 9 10 ∧ τ.1 6 5 = σ.1 6 5 ∧ τ.1 7 4 = σ.1 7 4 ∧ τ.1 2 4 = σ.1 2 4 ∧ τ.1 2 5 = σ.1 2 5 ∧ τ.1 2 6 = σ.1 2 6 ∧ τ.1 3 8 = σ.1 3 8) → Q τ) : fX6_choose N k1 x2 x3 Q σ := by sorry
set_option maxHeartbeats 4000000 in
theorem sX6_part {N : Nat} (hN : 4294967400 ≤ N) {k1 : Nat} {x2 : Int32} (hk1 : r120 k1) {Q : Int32 → St → Prop} {σ0 σ : St} (hσ : K1 σ0 σ) (hQ : ∀ (r : Int32) (τ : St), K1 σ0 τ → (τ.1 3 7 = σ.1 3 7 ∧ τ.1 3 11 = σ.1 3 11 ∧ τ.1 3 6 = σ.1 3 6 ∧ τ.1 9 9 = σ.1 9 9 ∧ τ.1 9 10 = σ.1 9 10 ∧ τ.1 6 5 = σ.1 6 5 ∧ τ.1 7 4 = σ.1 7 4 ∧ τ.1 2 4 = σ.1 2 4 ∧ τ.1 2 5 = σ.1 2 5 ∧ τ.1 2 6 = σ.1 2 6 ∧ τ.1 3 8 = σ.1 3 8) → True → Q r τ) : fX6_part N k1 x2 Q σ := by sorry
set_option maxHeartbeats 4000000 in
theorem sX10_add {N : Nat} (hN : 4294967400 ≤ N) {k1 : Nat} {x2 : Int32} (hk1 : r120 k1) {Q : Int32 → St → Prop} {σ0 σ : St} (hσ : K1 σ0 σ) (hQ : ∀ (r : Int32) (τ : St), K1 σ0 τ → (τ.1 3 7 = σ.1 3 7 ∧ τ.1 3 11 = σ.1 3 11 ∧ τ.1 3 6 = σ.1 3 6 ∧ τ.1 9 9 = σ.1 9 9 ∧ τ.1 9 10 = σ.1 9 10 ∧ τ.1 6 5 = σ.1 6 5 ∧ τ.1 2 4 = σ.1 2 4 ∧ τ.1 2 5 = σ.1 2 5 ∧ τ.1 2 6 = σ.1 2 6 ∧ τ.1 3 8 = σ.1 3 8) → True → Q r τ) : fX10_add N k1 x2 Q σ := by sorry
set_option maxHeartbeats 4000000 in
theorem sX11_text {N : Nat} (hN : 4294967400 ≤ N) {Q : Int32 → St → Prop} {σ0 σ : St} (hσ : K1 σ0 σ) (hQ : ∀ (r : Int32) (τ : St), K1 σ0 τ → (τ.1 3 7 = σ.1 3 7 ∧ τ.1 3 11 = σ.1 3 11 ∧ τ.1 3 6 = σ.1 3 6 ∧ τ.1 9 9 = σ.1 9 9 ∧ τ.1 9 10 = σ.1 9 10 ∧ τ.1 6 5 = σ.1 6 5 ∧ τ.1 2 4 = σ.1 2 4 ∧ τ.1 2 5 = σ.1 2 5 ∧ τ.1 2 6 = σ.1 2 6 ∧ τ.1 3 8 = σ.1 3 8) → True → Q r τ) : fX11_text N  Q σ := by sorry
set_option maxHeartbeats 4000000 in
theorem sX6_copyPieces {N : Nat} (hN : 4294967400 ≤ N) {x1 : Int32} {k2 : Nat} (hk2 : r120 k2) {Q : Int32 → St → Prop} {σ0 σ : St} (hσ : K1 σ0 σ) (hQ : ∀ (r : Int32) (τ : St), K1 σ0 τ → (τ.1 3 7 = σ.1 3 7 ∧ τ.1 3 11 = σ.1 3 11 ∧ τ.1 3 6 = σ.1 3 6 ∧ τ.1 9 9 = σ.1 9 9 ∧ τ.1 9 10 = σ.1 9 10 ∧ τ.1 6 5 = σ.1 6 5 ∧ τ.1 7 4 = σ.1 7 4 ∧ τ.1 2 4 = σ.1 2 4 ∧ τ.1 2 5 = σ.1 2 5 ∧ τ.1 2 6 = σ.1 2 6 ∧ τ.1 3 8 = σ.1 3 8) → (0) ≤ r.toInt ∧ r.toInt ≤ 120 → Q r τ) : fX6_copyPieces N x1 k2 Q σ := by sorry
set_option maxHeartbeats 4000000 in
theorem sX5_partTexts {N : Nat} (hN : 4294967400 ≤ N) {Q : St → Prop} {σ0 σ : St} (hσ : K1 σ0 σ) (hQ : ∀ τ : St, K1 σ0 τ → (τ.1 3 7 = σ.1 3 7 ∧ τ.1 3 11 = σ.1 3 11 ∧ τ.1 3 6 = σ.1 3 6 ∧ τ.1 9 9 = σ.1 9 9 ∧ τ.1 9 10 = σ.1 9 10 ∧ τ.1 6 5 = σ.1 6 5 ∧ τ.1 7 4 = σ.1 7 4 ∧ τ.1 2 4 = σ.1 2 4 ∧ τ.1 2 5 = σ.1 2 5 ∧ τ.1 2 6 = σ.1 2 6 ∧ τ.1 3 8 = σ.1 3 8) → Q τ) : fX5_partTexts N  Q σ := by sorry
set_option maxHeartbeats 4000000 in
theorem sX0_clearLeaves {N : Nat} (hN : 4294967400 ≤ N) {Q : St → Prop} {σ0 σ : St} (hσ : K1 σ0 σ) (hQ : ∀ τ : St, K1 σ0 τ → (τ.1 3 7 = σ.1 3 7 ∧ τ.1 3 11 = σ.1 3 11 ∧ τ.1 3 6 = σ.1 3 6 ∧ τ.1 6 5 = σ.1 6 5 ∧ τ.1 7 4 = σ.1 7 4 ∧ τ.1 2 4 = σ.1 2 4 ∧ τ.1 2 5 = σ.1 2 5 ∧ τ.1 2 6 = σ.1 2 6 ∧ τ.1 3 8 = σ.1 3 8) → Q τ) : fX0_clearLeaves N  Q σ := by sorry
set_option maxHeartbeats 4000000 in
theorem sX0_addKnot {N : Nat} (hN : 4294967400 ≤ N) {x1 : Int32} {x2 : Int32} {Q : St → Prop} {σ0 σ : St} (hσ : K1 σ0 σ) (hQ : ∀ τ : St, K1 σ0 τ → (τ.1 3 7 = σ.1 3 7 ∧ τ.1 3 11 = σ.1 3 11 ∧ τ.1 3 6 = σ.1 3 6 ∧ τ.1 9 10 = σ.1 9 10 ∧ τ.1 6 5 = σ.1 6 5 ∧ τ.1 7 4 = σ.1 7 4 ∧ τ.1 2 4 = σ.1 2 4 ∧ τ.1 2 5 = σ.1 2 5 ∧ τ.1 2 6 = σ.1 2 6 ∧ τ.1 3 8 = σ.1 3 8) → Q τ) : fX0_addKnot N x1 x2 Q σ := by sorry
