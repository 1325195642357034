theorem iuX0 : ∀ w ∈ wsX00, w ∈ Uw := by
  intro w hw
  obtain ⟨k, hk, rfl⟩ := List.mem_map.mp hw
  have hk := List.mem_range.mp hk
  match k, hk with
  | 0, _ => exact Uw_of (inT2 _ (List.mem_of_getElem? (i := 81) rfl)) rfl
  | 1, _ => exact Uw_of (inT2 _ (List.mem_of_getElem? (i := 83) rfl)) rfl
  | 2, _ => exact Uw_of (inT2 _ (List.mem_of_getElem? (i := 85) rfl)) rfl
  | 3, _ => exact Uw_of (inT2 _ (List.mem_of_getElem? (i := 87) rfl)) rfl
  | 4, _ => exact Uw_of (inT2 _ (List.mem_of_getElem? (i := 89) rfl)) rfl
  | 5, _ => exact Uw_of (inT2 _ (List.mem_of_getElem? (i := 91) rfl)) rfl
  | 6, _ => exact Uw_of (inT2 _ (List.mem_of_getElem? (i := 93) rfl)) rfl
  | 7, _ => exact Uw_of (inT2 _ (List.mem_of_getElem? (i := 95) rfl)) rfl
  | 8, _ => exact Uw_of (inT2 _ (List.mem_of_getElem? (i := 97) rfl)) rfl
  | 9, _ => exact Uw_of (inT2 _ (List.mem_of_getElem? (i := 99) rfl)) rfl
  | 10, _ => exact Uw_of (inT2 _ (List.mem_of_getElem? (i := 101) rfl)) rfl
  | k + 11, h => exact absurd h (by omega)
theorem iuX1 : ∀ w ∈ wsX10, w ∈ Uw := by
  intro w hw
  obtain ⟨k, hk, rfl⟩ := List.mem_map.mp hw
  have hk := List.mem_range.mp hk
  match k, hk with
  | 0, _ => exact Uw_of (inT1 _ (List.mem_of_getElem? (i := 147) rfl)) rfl
  | 1, _ => exact Uw_of (inT1 _ (List.mem_of_getElem? (i := 149) rfl)) rfl
  | 2, _ => exact Uw_of (inT1 _ (List.mem_of_getElem? (i := 151) rfl)) rfl
  | 3, _ => exact Uw_of (inT1 _ (List.mem_of_getElem? (i := 153) rfl)) rfl
  | 4, _ => exact Uw_of (inT1 _ (List.mem_of_getElem? (i := 155) rfl)) rfl
  | 5, _ => exact Uw_of (inT1 _ (List.mem_of_getElem? (i := 157) rfl)) rfl
  | 6, _ => exact Uw_of (inT1 _ (List.mem_of_getElem? (i := 159) rfl)) rfl
  | 7, _ => exact Uw_of (inT1 _ (List.mem_of_getElem? (i := 161) rfl)) rfl
  | k + 8, h => exact absurd h (by omega)
theorem iuX2 : ∀ w ∈ wsX20, w ∈ Uw := by
  intro w hw
  obtain ⟨k, hk, rfl⟩ := List.mem_map.mp hw
  have hk := List.mem_range.mp hk
  match k, hk with
  | 0, _ => exact Uw_of (inT1 _ (List.mem_of_getElem? (i := 184) rfl)) rfl
  | 1, _ => exact Uw_of (inT1 _ (List.mem_of_getElem? (i := 186) rfl)) rfl
  | 2, _ => exact Uw_of (inT1 _ (List.mem_of_getElem? (i := 188) rfl)) rfl
  | 3, _ => exact Uw_of (inT1 _ (List.mem_of_getElem? (i := 190) rfl)) rfl
  | 4, _ => exact Uw_of (inT1 _ (List.mem_of_getElem? (i := 192) rfl)) rfl
  | 5, _ => exact Uw_of (inT1 _ (List.mem_of_getElem? (i := 194) rfl)) rfl
  | 6, _ => exact Uw_of (inT1 _ (List.mem_of_getElem? (i := 196) rfl)) rfl
  | 7, _ => exact Uw_of (inT1 _ (List.mem_of_getElem? (i := 198) rfl)) rfl
  | 8, _ => exact Uw_of (inT1 _ (List.mem_of_getElem? (i := 200) rfl)) rfl
  | 9, _ => exact Uw_of (inT1 _ (List.mem_of_getElem? (i := 202) rfl)) rfl
  | 10, _ => exact Uw_of (inT1 _ (List.mem_of_getElem? (i := 204) rfl)) rfl
  | 11, _ => exact Uw_of (inT1 _ (List.mem_of_getElem? (i := 206) rfl)) rfl
  | 12, _ => exact Uw_of (inT1 _ (List.mem_of_getElem? (i := 208) rfl)) rfl
  | k + 13, h => exact absurd h (by omega)
theorem iuX3 : ∀ w ∈ wsX30, w ∈ Uw := by
  intro w hw
  obtain ⟨k, hk, rfl⟩ := List.mem_map.mp hw
  have hk := List.mem_range.mp hk
  match k, hk with
  | 0, _ => exact Uw_of (inT1 _ (List.mem_of_getElem? (i := 36) rfl)) rfl
  | 1, _ => exact Uw_of (inT1 _ (List.mem_of_getElem? (i := 38) rfl)) rfl
  | k + 2, h => exact absurd h (by omega)
theorem iuX4 : ∀ w ∈ wsX40, w ∈ Uw := by
  intro w hw
  obtain ⟨k, hk, rfl⟩ := List.mem_map.mp hw
  have hk := List.mem_range.mp hk
  exact absurd hk (Nat.not_lt_zero _)
theorem iuX5 : ∀ w ∈ wsX50, w ∈ Uw := by
  intro w hw
  obtain ⟨k, hk, rfl⟩ := List.mem_map.mp hw
  have hk := List.mem_range.mp hk
  match k, hk with
  | 0, _ => exact Uw_of (inT2 _ (List.mem_of_getElem? (i := 123) rfl)) rfl
  | 1, _ => exact Uw_of (inT2 _ (List.mem_of_getElem? (i := 125) rfl)) rfl
  | 2, _ => exact Uw_of (inT2 _ (List.mem_of_getElem? (i := 127) rfl)) rfl
  | 3, _ => exact Uw_of (inT2 _ (List.mem_of_getElem? (i := 129) rfl)) rfl
  | 4, _ => exact Uw_of (inT2 _ (List.mem_of_getElem? (i := 131) rfl)) rfl
  | 5, _ => exact Uw_of (inT2 _ (List.mem_of_getElem? (i := 133) rfl)) rfl
  | 6, _ => exact Uw_of (inT2 _ (List.mem_of_getElem? (i := 135) rfl)) rfl
  | 7, _ => exact Uw_of (inT2 _ (List.mem_of_getElem? (i := 137) rfl)) rfl
  | 8, _ => exact Uw_of (inT2 _ (List.mem_of_getElem? (i := 139) rfl)) rfl
  | 9, _ => exact Uw_of (inT2 _ (List.mem_of_getElem? (i := 141) rfl)) rfl
  | 10, _ => exact Uw_of (inT2 _ (List.mem_of_getElem? (i := 143) rfl)) rfl
  | 11, _ => exact Uw_of (inT2 _ (List.mem_of_getElem? (i := 145) rfl)) rfl
  | k + 12, h => exact absurd h (by omega)
theorem iuX6 : ∀ w ∈ wsX60, w ∈ Uw := by
  intro w hw
  obtain ⟨k, hk, rfl⟩ := List.mem_map.mp hw
  have hk := List.mem_range.mp hk
  match k, hk with
  | 0, _ => exact Uw_of (inT2 _ (List.mem_of_getElem? (i := 52) rfl)) rfl
  | 1, _ => exact Uw_of (inT2 _ (List.mem_of_getElem? (i := 54) rfl)) rfl
  | 2, _ => exact Uw_of (inT2 _ (List.mem_of_getElem? (i := 56) rfl)) rfl
  | k + 3, h => exact absurd h (by omega)
theorem iuX7 : ∀ w ∈ wsX70, w ∈ Uw := by
  intro w hw
  obtain ⟨k, hk, rfl⟩ := List.mem_map.mp hw
  have hk := List.mem_range.mp hk
  match k, hk with
  | 0, _ => exact Uw_of (inT1 _ (List.mem_of_getElem? (i := 237) rfl)) rfl
  | 1, _ => exact Uw_of (inT1 _ (List.mem_of_getElem? (i := 239) rfl)) rfl
  | 2, _ => exact Uw_of (inT2 _ (List.mem_of_getElem? (i := 1) rfl)) rfl
  | 3, _ => exact Uw_of (inT2 _ (List.mem_of_getElem? (i := 3) rfl)) rfl
  | 4, _ => exact Uw_of (inT2 _ (List.mem_of_getElem? (i := 5) rfl)) rfl
  | 5, _ => exact Uw_of (inT2 _ (List.mem_of_getElem? (i := 7) rfl)) rfl
  | k + 6, h => exact absurd h (by omega)
theorem iuX8 : ∀ w ∈ wsX80, w ∈ Uw := by
  intro w hw
  obtain ⟨k, hk, rfl⟩ := List.mem_map.mp hw
  have hk := List.mem_range.mp hk
  match k, hk with
  | 0, _ => exact Uw_of (inT1 _ (List.mem_of_getElem? (i := 59) rfl)) rfl
  | 1, _ => exact Uw_of (inT1 _ (List.mem_of_getElem? (i := 61) rfl)) rfl
  | 2, _ => exact Uw_of (inT1 _ (List.mem_of_getElem? (i := 63) rfl)) rfl
  | 3, _ => exact Uw_of (inT1 _ (List.mem_of_getElem? (i := 65) rfl)) rfl
  | 4, _ => exact Uw_of (inT1 _ (List.mem_of_getElem? (i := 67) rfl)) rfl
  | 5, _ => exact Uw_of (inT1 _ (List.mem_of_getElem? (i := 69) rfl)) rfl
  | 6, _ => exact Uw_of (inT1 _ (List.mem_of_getElem? (i := 71) rfl)) rfl
  | 7, _ => exact Uw_of (inT1 _ (List.mem_of_getElem? (i := 73) rfl)) rfl
  | 8, _ => exact Uw_of (inT1 _ (List.mem_of_getElem? (i := 75) rfl)) rfl
  | k + 9, h => exact absurd h (by omega)
theorem iuX9 : ∀ w ∈ wsX90, w ∈ Uw := by
  intro w hw
  obtain ⟨k, hk, rfl⟩ := List.mem_map.mp hw
  have hk := List.mem_range.mp hk
  match k, hk with
  | 0, _ => exact Uw_of (inT1 _ (List.mem_of_getElem? (i := 107) rfl)) rfl
  | 1, _ => exact Uw_of (inT1 _ (List.mem_of_getElem? (i := 109) rfl)) rfl
  | 2, _ => exact Uw_of (inT1 _ (List.mem_of_getElem? (i := 111) rfl)) rfl
  | 3, _ => exact Uw_of (inT1 _ (List.mem_of_getElem? (i := 113) rfl)) rfl
  | 4, _ => exact Uw_of (inT1 _ (List.mem_of_getElem? (i := 115) rfl)) rfl
  | 5, _ => exact Uw_of (inT1 _ (List.mem_of_getElem? (i := 117) rfl)) rfl
  | 6, _ => exact Uw_of (inT1 _ (List.mem_of_getElem? (i := 119) rfl)) rfl
  | 7, _ => exact Uw_of (inT1 _ (List.mem_of_getElem? (i := 121) rfl)) rfl
  | k + 8, h => exact absurd h (by omega)
theorem iuX10 : ∀ w ∈ wsX100, w ∈ Uw := by
  intro w hw
  obtain ⟨k, hk, rfl⟩ := List.mem_map.mp hw
  have hk := List.mem_range.mp hk
  match k, hk with
  | 0, _ => exact Uw_of (inT2 _ (List.mem_of_getElem? (i := 32) rfl)) rfl
  | 1, _ => exact Uw_of (inT2 _ (List.mem_of_getElem? (i := 34) rfl)) rfl
  | 2, _ => exact Uw_of (inT2 _ (List.mem_of_getElem? (i := 36) rfl)) rfl
  | 3, _ => exact Uw_of (inT2 _ (List.mem_of_getElem? (i := 38) rfl)) rfl
  | 4, _ => exact Uw_of (inT2 _ (List.mem_of_getElem? (i := 40) rfl)) rfl
  | k + 5, h => exact absurd h (by omega)
theorem iuX11 : ∀ w ∈ wsX110, w ∈ Uw := by
  intro w hw
  obtain ⟨k, hk, rfl⟩ := List.mem_map.mp hw
  have hk := List.mem_range.mp hk
  match k, hk with
  | 0, _ => exact Uw_of (inT2 _ (List.mem_of_getElem? (i := 156) rfl)) rfl
  | 1, _ => exact Uw_of (inT2 _ (List.mem_of_getElem? (i := 158) rfl)) rfl
  | 2, _ => exact Uw_of (inT2 _ (List.mem_of_getElem? (i := 160) rfl)) rfl
  | 3, _ => exact Uw_of (inT2 _ (List.mem_of_getElem? (i := 162) rfl)) rfl
  | 4, _ => exact Uw_of (inT2 _ (List.mem_of_getElem? (i := 164) rfl)) rfl
  | 5, _ => exact Uw_of (inT2 _ (List.mem_of_getElem? (i := 166) rfl)) rfl
  | 6, _ => exact Uw_of (inT2 _ (List.mem_of_getElem? (i := 168) rfl)) rfl
  | 7, _ => exact Uw_of (inT2 _ (List.mem_of_getElem? (i := 170) rfl)) rfl
  | k + 8, h => exact absurd h (by omega)
theorem iuX12 : ∀ w ∈ wsX120, w ∈ Uw := by
  intro w hw
  obtain ⟨k, hk, rfl⟩ := List.mem_map.mp hw
  have hk := List.mem_range.mp hk
  match k, hk with
  | 0, _ => exact Uw_of (inT5 _ (List.mem_of_getElem? (i := 3) rfl)) rfl
  | 1, _ => exact Uw_of (inT5 _ (List.mem_of_getElem? (i := 5) rfl)) rfl
  | 2, _ => exact Uw_of (inT5 _ (List.mem_of_getElem? (i := 7) rfl)) rfl
  | 3, _ => exact Uw_of (inT5 _ (List.mem_of_getElem? (i := 9) rfl)) rfl
  | 4, _ => exact Uw_of (inT5 _ (List.mem_of_getElem? (i := 11) rfl)) rfl
  | 5, _ => exact Uw_of (inT5 _ (List.mem_of_getElem? (i := 13) rfl)) rfl
  | 6, _ => exact Uw_of (inT5 _ (List.mem_of_getElem? (i := 15) rfl)) rfl
  | 7, _ => exact Uw_of (inT5 _ (List.mem_of_getElem? (i := 17) rfl)) rfl
  | 8, _ => exact Uw_of (inT5 _ (List.mem_of_getElem? (i := 19) rfl)) rfl
  | 9, _ => exact Uw_of (inT5 _ (List.mem_of_getElem? (i := 21) rfl)) rfl
  | 10, _ => exact Uw_of (inT5 _ (List.mem_of_getElem? (i := 23) rfl)) rfl
  | 11, _ => exact Uw_of (inT5 _ (List.mem_of_getElem? (i := 25) rfl)) rfl
  | 12, _ => exact Uw_of (inT5 _ (List.mem_of_getElem? (i := 27) rfl)) rfl
  | 13, _ => exact Uw_of (inT5 _ (List.mem_of_getElem? (i := 29) rfl)) rfl
  | 14, _ => exact Uw_of (inT5 _ (List.mem_of_getElem? (i := 31) rfl)) rfl
  | 15, _ => exact Uw_of (inT5 _ (List.mem_of_getElem? (i := 33) rfl)) rfl
  | 16, _ => exact Uw_of (inT5 _ (List.mem_of_getElem? (i := 35) rfl)) rfl
  | 17, _ => exact Uw_of (inT5 _ (List.mem_of_getElem? (i := 37) rfl)) rfl
  | 18, _ => exact Uw_of (inT5 _ (List.mem_of_getElem? (i := 39) rfl)) rfl
  | 19, _ => exact Uw_of (inT5 _ (List.mem_of_getElem? (i := 41) rfl)) rfl
  | 20, _ => exact Uw_of (inT5 _ (List.mem_of_getElem? (i := 43) rfl)) rfl
  | 21, _ => exact Uw_of (inT5 _ (List.mem_of_getElem? (i := 45) rfl)) rfl
  | 22, _ => exact Uw_of (inT5 _ (List.mem_of_getElem? (i := 47) rfl)) rfl
  | 23, _ => exact Uw_of (inT5 _ (List.mem_of_getElem? (i := 49) rfl)) rfl
  | 24, _ => exact Uw_of (inT5 _ (List.mem_of_getElem? (i := 51) rfl)) rfl
  | 25, _ => exact Uw_of (inT5 _ (List.mem_of_getElem? (i := 53) rfl)) rfl
  | 26, _ => exact Uw_of (inT5 _ (List.mem_of_getElem? (i := 55) rfl)) rfl
  | 27, _ => exact Uw_of (inT5 _ (List.mem_of_getElem? (i := 57) rfl)) rfl
  | 28, _ => exact Uw_of (inT5 _ (List.mem_of_getElem? (i := 59) rfl)) rfl
  | 29, _ => exact Uw_of (inT5 _ (List.mem_of_getElem? (i := 61) rfl)) rfl
  | 30, _ => exact Uw_of (inT5 _ (List.mem_of_getElem? (i := 63) rfl)) rfl
  | 31, _ => exact Uw_of (inT5 _ (List.mem_of_getElem? (i := 65) rfl)) rfl
  | 32, _ => exact Uw_of (inT5 _ (List.mem_of_getElem? (i := 67) rfl)) rfl
  | 33, _ => exact Uw_of (inT5 _ (List.mem_of_getElem? (i := 69) rfl)) rfl
  | 34, _ => exact Uw_of (inT5 _ (List.mem_of_getElem? (i := 71) rfl)) rfl
  | 35, _ => exact Uw_of (inT5 _ (List.mem_of_getElem? (i := 73) rfl)) rfl
  | 36, _ => exact Uw_of (inT5 _ (List.mem_of_getElem? (i := 75) rfl)) rfl
  | 37, _ => exact Uw_of (inT5 _ (List.mem_of_getElem? (i := 77) rfl)) rfl
  | 38, _ => exact Uw_of (inT5 _ (List.mem_of_getElem? (i := 79) rfl)) rfl
  | 39, _ => exact Uw_of (inT5 _ (List.mem_of_getElem? (i := 81) rfl)) rfl
  | 40, _ => exact Uw_of (inT5 _ (List.mem_of_getElem? (i := 83) rfl)) rfl
  | 41, _ => exact Uw_of (inT5 _ (List.mem_of_getElem? (i := 85) rfl)) rfl
  | 42, _ => exact Uw_of (inT5 _ (List.mem_of_getElem? (i := 87) rfl)) rfl
  | 43, _ => exact Uw_of (inT5 _ (List.mem_of_getElem? (i := 89) rfl)) rfl
  | 44, _ => exact Uw_of (inT5 _ (List.mem_of_getElem? (i := 91) rfl)) rfl
  | 45, _ => exact Uw_of (inT5 _ (List.mem_of_getElem? (i := 93) rfl)) rfl
  | 46, _ => exact Uw_of (inT5 _ (List.mem_of_getElem? (i := 95) rfl)) rfl
  | 47, _ => exact Uw_of (inT5 _ (List.mem_of_getElem? (i := 97) rfl)) rfl
  | 48, _ => exact Uw_of (inT5 _ (List.mem_of_getElem? (i := 99) rfl)) rfl
  | 49, _ => exact Uw_of (inT5 _ (List.mem_of_getElem? (i := 101) rfl)) rfl
  | 50, _ => exact Uw_of (inT5 _ (List.mem_of_getElem? (i := 103) rfl)) rfl
  | 51, _ => exact Uw_of (inT5 _ (List.mem_of_getElem? (i := 105) rfl)) rfl
  | 52, _ => exact Uw_of (inT5 _ (List.mem_of_getElem? (i := 107) rfl)) rfl
  | 53, _ => exact Uw_of (inT5 _ (List.mem_of_getElem? (i := 109) rfl)) rfl
  | 54, _ => exact Uw_of (inT5 _ (List.mem_of_getElem? (i := 111) rfl)) rfl
  | 55, _ => exact Uw_of (inT5 _ (List.mem_of_getElem? (i := 113) rfl)) rfl
  | 56, _ => exact Uw_of (inT5 _ (List.mem_of_getElem? (i := 115) rfl)) rfl
  | 57, _ => exact Uw_of (inT5 _ (List.mem_of_getElem? (i := 117) rfl)) rfl
  | 58, _ => exact Uw_of (inT5 _ (List.mem_of_getElem? (i := 119) rfl)) rfl
  | 59, _ => exact Uw_of (inT5 _ (List.mem_of_getElem? (i := 121) rfl)) rfl
  | 60, _ => exact Uw_of (inT5 _ (List.mem_of_getElem? (i := 123) rfl)) rfl
  | 61, _ => exact Uw_of (inT5 _ (List.mem_of_getElem? (i := 125) rfl)) rfl
  | 62, _ => exact Uw_of (inT5 _ (List.mem_of_getElem? (i := 127) rfl)) rfl
  | 63, _ => exact Uw_of (inT5 _ (List.mem_of_getElem? (i := 129) rfl)) rfl
  | 64, _ => exact Uw_of (inT5 _ (List.mem_of_getElem? (i := 131) rfl)) rfl
  | k + 65, h => exact absurd h (by omega)
