set_option maxHeartbeats 4000000 in
theorem lc_feed {p : Program} {e : Env} {s : State} {m : MethodId} {args : Array Value} {below : List Frame} {meth : Method} {c : Code} (l : Launch) {w1 w2 : Wd} {b L : Nat} {xs : Nat → Int32} {Q : State → Prop} (E : Lx w1 w2 b L xs p s m args meth c) {i : Int32} (h1 : vp_in (i + 1) L) (h2 : vp_in (i + 2) L) (h3 : vp_in (i + 3) L) {σ1 σ2 : St} {H : Heap} {locs : List Loc} {ls : Array Slot} (hl : lv_has ls 4 [(3, .int i), (0, .ref b), (1, .ref (w1.2.1 0)), (2, .ref (w2.2.1 0))]) (hR : Rl w1 w2 σ1 σ2 s H locs) (hG : GI σ1 σ2) (next : ∀ (τ1 τ2 : St) (H1 : Heap) (locs1 : List Loc), Rl w1 w2 τ1 τ2 s H1 locs1 → GI τ1 τ2 → W p l e room_1 s m args below meth c H1 locs1 261 46861 Q (F0 m 719 ls [])) : W p l e room_1 s m args below meth c H locs 261 46861 Q (F0 m 140 ls []) := by
  obtain ⟨hx, hb, hml, hown, hts, hX0, hbl, hK1, hK2, hX1, hA1, hA2, hdis, hI1, hI2⟩ := id E
  have hbA : ¬ An s.heap.size b := fun z => absurd hbl (Nat.not_lt.mpr z)
  refine lv_aload_n (pc := 140) hx hb dl_140 rfl (lv_at hl 2 rfl) ?_
  refine lv_aload_n (pc := 141) hx hb dl_141 rfl (lv_at hl 1 rfl) ?_
  refine lv_iload_n (pc := 142) hx hb dl_142 rfl (lv_at hl 0 rfl) ?_
  refine lv_iconst (pc := 143) (v := 1) hx hb dl_143 (by decide) ?_
  refine lv_iadd (pc := 144) hx hb dl_144 ?_
  refine va_sld (pc := 145) hx hb hX0 hbl hbA hR.2.2 h1 dl_145 ?_
  refine lv_aload_n (pc := 146) hx hb dl_146 rfl (lv_at hl 1 rfl) ?_
  refine lv_iload_n (pc := 147) hx hb dl_147 rfl (lv_at hl 0 rfl) ?_
  refine lv_iconst (pc := 148) (v := 2) hx hb dl_148 (by decide) ?_
  refine lv_iadd (pc := 149) hx hb dl_149 ?_
  refine va_sld (pc := 150) hx hb hX0 hbl hbA hR.2.2 h2 dl_150 ?_
  refine lv_i2l (pc := 151) hx hb dl_151 rfl ?_
  refine lv_bipush (pc := 152) (v := 32) hx hb dl_152 (by decide) ?_
  refine lv_lshl (pc := 154) hx hb dl_154 rfl ?_
  refine lv_aload_n (pc := 155) hx hb dl_155 rfl (lv_at hl 1 rfl) ?_
  refine lv_iload_n (pc := 156) hx hb dl_156 rfl (lv_at hl 0 rfl) ?_
  refine lv_iconst (pc := 157) (v := 3) hx hb dl_157 (by decide) ?_
  refine lv_iadd (pc := 158) hx hb dl_158 ?_
  refine va_sld (pc := 159) hx hb hX0 hbl hbA hR.2.2 h3 dl_159 ?_
  refine lv_i2l (pc := 160) hx hb dl_160 rfl ?_
  refine lv_ldc2 (pc := 161) (v := 4294967295) hx hb hown (hts _ ml_c) dl_161 ?_
  refine lv_land (pc := 164) hx hb dl_164 ?_
  refine lv_lor (pc := 165) hx hb dl_165 ?_
  refine l1_call (pc := 166) (As := [.int (xs (i + 1).toNatClampNeg), .long (((xs (i + 2).toNatClampNeg).toInt64 <<< ((32 : Int32).toInt64 &&& 63)) ||| ((xs (i + 3).toNatClampNeg).toInt64 &&& 4294967295))]) (n := 2) E hR (m11_feed l w1 hI1 hG (xs (i + 1).toNatClampNeg) (((xs (i + 2).toNatClampNeg).toInt64 <<< ((32 : Int32).toInt64 &&& 63)) ||| ((xs (i + 3).toNatClampNeg).toInt64 &&& 4294967295))) ckX11_feed cvX11_feed (Uw_of (inT2 _ (List.mem_of_getElem? (i := 173) rfl)) rfl) ⟨rfl, rfl, (Nat.le_of_ble_eq_true rfl), (Nat.le_of_ble_eq_true rfl)⟩ rfl rfl hl.1 rfl (Nat.le_of_ble_eq_true rfl) dl_166 ⟨(Nat.le_of_ble_eq_true rfl), (Nat.le_of_ble_eq_true rfl)⟩ (fun r1 τ1 H locs q1 hR => ?_)
  refine lv_pop (pc := 169) hx hb dl_169 rfl ?_
  refine lv_aload_n (pc := 170) hx hb dl_170 rfl (lv_at hl 3 rfl) ?_
  refine lv_aload_n (pc := 171) hx hb dl_171 rfl (lv_at hl 1 rfl) ?_
  refine lv_iload_n (pc := 172) hx hb dl_172 rfl (lv_at hl 0 rfl) ?_
  refine lv_iconst (pc := 173) (v := 1) hx hb dl_173 (by decide) ?_
  refine lv_iadd (pc := 174) hx hb dl_174 ?_
  refine va_sld (pc := 175) hx hb hX0 hbl hbA hR.2.2 h1 dl_175 ?_
  refine lv_aload_n (pc := 176) hx hb dl_176 rfl (lv_at hl 1 rfl) ?_
  refine lv_iload_n (pc := 177) hx hb dl_177 rfl (lv_at hl 0 rfl) ?_
  refine lv_iconst (pc := 178) (v := 2) hx hb dl_178 (by decide) ?_
  refine lv_iadd (pc := 179) hx hb dl_179 ?_
  refine va_sld (pc := 180) hx hb hX0 hbl hbA hR.2.2 h2 dl_180 ?_
  refine lv_i2l (pc := 181) hx hb dl_181 rfl ?_
  refine lv_bipush (pc := 182) (v := 32) hx hb dl_182 (by decide) ?_
  refine lv_lshl (pc := 184) hx hb dl_184 rfl ?_
  refine lv_aload_n (pc := 185) hx hb dl_185 rfl (lv_at hl 1 rfl) ?_
  refine lv_iload_n (pc := 186) hx hb dl_186 rfl (lv_at hl 0 rfl) ?_
  refine lv_iconst (pc := 187) (v := 3) hx hb dl_187 (by decide) ?_
  refine lv_iadd (pc := 188) hx hb dl_188 ?_
  refine va_sld (pc := 189) hx hb hX0 hbl hbA hR.2.2 h3 dl_189 ?_
  refine lv_i2l (pc := 190) hx hb dl_190 rfl ?_
  refine lv_ldc2 (pc := 191) (v := 4294967295) hx hb hown (hts _ ml_c) dl_191 ?_
  refine lv_land (pc := 194) hx hb dl_194 ?_
  refine lv_lor (pc := 195) hx hb dl_195 ?_
  refine l2_call (pc := 196) (As := [.int (xs (i + 1).toNatClampNeg), .long (((xs (i + 2).toNatClampNeg).toInt64 <<< ((32 : Int32).toInt64 &&& 63)) ||| ((xs (i + 3).toNatClampNeg).toInt64 &&& 4294967295))]) (n := 2) E hR (m12_feed l w2 hI2 (xs (i + 1).toNatClampNeg) (((xs (i + 2).toNatClampNeg).toInt64 <<< ((32 : Int32).toInt64 &&& 63)) ||| ((xs (i + 3).toNatClampNeg).toInt64 &&& 4294967295)) q1.2) ckX12_feed cvX12_feed (Uw_of (inT5 _ (List.mem_of_getElem? (i := 134) rfl)) rfl) ⟨rfl, rfl, (Nat.le_of_ble_eq_true rfl), (Nat.le_of_ble_eq_true rfl)⟩ rfl rfl hl.1 rfl (Nat.le_of_ble_eq_true rfl) dl_196 ⟨(Nat.le_of_ble_eq_true rfl), (Nat.le_of_ble_eq_true rfl)⟩ (fun r2 τ2 H locs q2 hR => ?_)
  refine lv_pop (pc := 199) hx hb dl_199 rfl ?_
  refine lv_goto (pc := 200) (tgt := 719) hx hb dl_200 (by decide) ?_
  exact next _ _ _ _ hR ⟨q1.1, q2.2⟩
set_option maxHeartbeats 4000000 in
theorem lc_load {p : Program} {e : Env} {s : State} {m : MethodId} {args : Array Value} {below : List Frame} {meth : Method} {c : Code} (l : Launch) {w1 w2 : Wd} {b L : Nat} {xs : Nat → Int32} {Q : State → Prop} (E : Lx w1 w2 b L xs p s m args meth c) {i : Int32} (h1 : vp_in (i + 1) L) (h2 : vp_in (i + 2) L) (h3 : vp_in (i + 3) L) {σ1 σ2 : St} {H : Heap} {locs : List Loc} {ls : Array Slot} (hl : lv_has ls 4 [(3, .int i), (0, .ref b), (1, .ref (w1.2.1 0)), (2, .ref (w2.2.1 0))]) (hR : Rl w1 w2 σ1 σ2 s H locs) (hG : GI σ1 σ2) (next : ∀ (τ1 τ2 : St) (H1 : Heap) (locs1 : List Loc), Rl w1 w2 τ1 τ2 s H1 locs1 → GI τ1 τ2 → W p l e room_1 s m args below meth c H1 locs1 261 46861 Q (F0 m 719 ls [])) : W p l e room_1 s m args below meth c H locs 261 46861 Q (F0 m 203 ls []) := by
  obtain ⟨hx, hb, hml, hown, hts, hX0, hbl, hK1, hK2, hX1, hA1, hA2, hdis, hI1, hI2⟩ := id E
  have hbA : ¬ An s.heap.size b := fun z => absurd hbl (Nat.not_lt.mpr z)
  refine lv_aload_n (pc := 203) hx hb dl_203 rfl (lv_at hl 2 rfl) ?_
  refine lv_aload_n (pc := 204) hx hb dl_204 rfl (lv_at hl 1 rfl) ?_
  refine lv_iload_n (pc := 205) hx hb dl_205 rfl (lv_at hl 0 rfl) ?_
  refine lv_iconst (pc := 206) (v := 1) hx hb dl_206 (by decide) ?_
  refine lv_iadd (pc := 207) hx hb dl_207 ?_
  refine va_sld (pc := 208) hx hb hX0 hbl hbA hR.2.2 h1 dl_208 ?_
  refine l1_call (pc := 209) (As := [.int (xs (i + 1).toNatClampNeg)]) (n := 1) E hR (m11_load l w1 hI1 hG (xs (i + 1).toNatClampNeg)) ckX11_load cvX11_load (Uw_of (inT2 _ (List.mem_of_getElem? (i := 177) rfl)) rfl) ⟨rfl, rfl, (Nat.le_of_ble_eq_true rfl), (Nat.le_of_ble_eq_true rfl)⟩ rfl rfl hl.1 rfl (Nat.le_of_ble_eq_true rfl) dl_209 ⟨(Nat.le_of_ble_eq_true rfl), (Nat.le_of_ble_eq_true rfl)⟩ (fun r1 τ1 H locs q1 hR => ?_)
  refine lv_pop (pc := 212) hx hb dl_212 rfl ?_
  refine lv_aload_n (pc := 213) hx hb dl_213 rfl (lv_at hl 3 rfl) ?_
  refine lv_aload_n (pc := 214) hx hb dl_214 rfl (lv_at hl 1 rfl) ?_
  refine lv_iload_n (pc := 215) hx hb dl_215 rfl (lv_at hl 0 rfl) ?_
  refine lv_iconst (pc := 216) (v := 1) hx hb dl_216 (by decide) ?_
  refine lv_iadd (pc := 217) hx hb dl_217 ?_
  refine va_sld (pc := 218) hx hb hX0 hbl hbA hR.2.2 h1 dl_218 ?_
  refine l2_call (pc := 219) (As := [.int (xs (i + 1).toNatClampNeg)]) (n := 1) E hR (m12_load l w2 hI2 (xs (i + 1).toNatClampNeg) q1.2) ckX12_load cvX12_load (Uw_of (inT5 _ (List.mem_of_getElem? (i := 143) rfl)) rfl) ⟨rfl, rfl, (Nat.le_of_ble_eq_true rfl), (Nat.le_of_ble_eq_true rfl)⟩ rfl rfl hl.1 rfl (Nat.le_of_ble_eq_true rfl) dl_219 ⟨(Nat.le_of_ble_eq_true rfl), (Nat.le_of_ble_eq_true rfl)⟩ (fun r2 τ2 H locs q2 hR => ?_)
  refine lv_pop (pc := 222) hx hb dl_222 rfl ?_
  refine lv_goto (pc := 223) (tgt := 719) hx hb dl_223 (by decide) ?_
  exact next _ _ _ _ hR ⟨q1.1, q2⟩
set_option maxHeartbeats 4000000 in
theorem lc_border {p : Program} {e : Env} {s : State} {m : MethodId} {args : Array Value} {below : List Frame} {meth : Method} {c : Code} (l : Launch) {w1 w2 : Wd} {b L : Nat} {xs : Nat → Int32} {Q : State → Prop} (E : Lx w1 w2 b L xs p s m args meth c) {i : Int32} (h1 : vp_in (i + 1) L) (h2 : vp_in (i + 2) L) (h3 : vp_in (i + 3) L) {σ1 σ2 : St} {H : Heap} {locs : List Loc} {ls : Array Slot} (hl : lv_has ls 4 [(3, .int i), (0, .ref b), (1, .ref (w1.2.1 0)), (2, .ref (w2.2.1 0))]) (hR : Rl w1 w2 σ1 σ2 s H locs) (hG : GI σ1 σ2) (next : ∀ (τ1 τ2 : St) (H1 : Heap) (locs1 : List Loc), Rl w1 w2 τ1 τ2 s H1 locs1 → GI τ1 τ2 → W p l e room_1 s m args below meth c H1 locs1 261 46861 Q (F0 m 719 ls [])) : W p l e room_1 s m args below meth c H locs 261 46861 Q (F0 m 226 ls []) := by
  obtain ⟨hx, hb, hml, hown, hts, hX0, hbl, hK1, hK2, hX1, hA1, hA2, hdis, hI1, hI2⟩ := id E
  have hbA : ¬ An s.heap.size b := fun z => absurd hbl (Nat.not_lt.mpr z)
  refine lv_aload_n (pc := 226) hx hb dl_226 rfl (lv_at hl 2 rfl) ?_
  refine lv_aload_n (pc := 227) hx hb dl_227 rfl (lv_at hl 1 rfl) ?_
  refine lv_iload_n (pc := 228) hx hb dl_228 rfl (lv_at hl 0 rfl) ?_
  refine lv_iconst (pc := 229) (v := 1) hx hb dl_229 (by decide) ?_
  refine lv_iadd (pc := 230) hx hb dl_230 ?_
  refine va_sld (pc := 231) hx hb hX0 hbl hbA hR.2.2 h1 dl_231 ?_
  refine l1_call (pc := 232) (As := [.int (xs (i + 1).toNatClampNeg)]) (n := 1) E hR (m11_border l w1 hI1 hG (xs (i + 1).toNatClampNeg)) ckX11_border cvX11_border (Uw_of (inT2 _ (List.mem_of_getElem? (i := 192) rfl)) rfl) ⟨rfl, rfl, (Nat.le_of_ble_eq_true rfl), (Nat.le_of_ble_eq_true rfl)⟩ rfl rfl hl.1 rfl (Nat.le_of_ble_eq_true rfl) dl_232 ⟨(Nat.le_of_ble_eq_true rfl), (Nat.le_of_ble_eq_true rfl)⟩ (fun r1 τ1 H locs q1 hR => ?_)
  refine lv_pop (pc := 235) hx hb dl_235 rfl ?_
  refine lv_aload_n (pc := 236) hx hb dl_236 rfl (lv_at hl 3 rfl) ?_
  refine lv_aload_n (pc := 237) hx hb dl_237 rfl (lv_at hl 1 rfl) ?_
  refine lv_iload_n (pc := 238) hx hb dl_238 rfl (lv_at hl 0 rfl) ?_
  refine lv_iconst (pc := 239) (v := 1) hx hb dl_239 (by decide) ?_
  refine lv_iadd (pc := 240) hx hb dl_240 ?_
  refine va_sld (pc := 241) hx hb hX0 hbl hbA hR.2.2 h1 dl_241 ?_
  refine l2_call (pc := 242) (As := [.int (xs (i + 1).toNatClampNeg)]) (n := 1) E hR (m12_border l w2 hI2 (xs (i + 1).toNatClampNeg) q1.2) ckX12_border cvX12_border (Uw_of (inT5 _ (List.mem_of_getElem? (i := 152) rfl)) rfl) ⟨rfl, rfl, (Nat.le_of_ble_eq_true rfl), (Nat.le_of_ble_eq_true rfl)⟩ rfl rfl hl.1 rfl (Nat.le_of_ble_eq_true rfl) dl_242 ⟨(Nat.le_of_ble_eq_true rfl), (Nat.le_of_ble_eq_true rfl)⟩ (fun r2 τ2 H locs q2 hR => ?_)
  refine lv_pop (pc := 245) hx hb dl_245 rfl ?_
  refine lv_goto (pc := 246) (tgt := 719) hx hb dl_246 (by decide) ?_
  exact next _ _ _ _ hR ⟨q1.1, q2.2⟩
set_option maxHeartbeats 4000000 in
theorem lc_byteAt {p : Program} {e : Env} {s : State} {m : MethodId} {args : Array Value} {below : List Frame} {meth : Method} {c : Code} (l : Launch) {w1 w2 : Wd} {b L : Nat} {xs : Nat → Int32} {Q : State → Prop} (E : Lx w1 w2 b L xs p s m args meth c) {i : Int32} (h1 : vp_in (i + 1) L) (h2 : vp_in (i + 2) L) (h3 : vp_in (i + 3) L) {σ1 σ2 : St} {H : Heap} {locs : List Loc} {ls : Array Slot} (hl : lv_has ls 4 [(3, .int i), (0, .ref b), (1, .ref (w1.2.1 0)), (2, .ref (w2.2.1 0))]) (hR : Rl w1 w2 σ1 σ2 s H locs) (hG : GI σ1 σ2) (next : ∀ (τ1 τ2 : St) (H1 : Heap) (locs1 : List Loc), Rl w1 w2 τ1 τ2 s H1 locs1 → GI τ1 τ2 → W p l e room_1 s m args below meth c H1 locs1 261 46861 Q (F0 m 719 ls [])) : W p l e room_1 s m args below meth c H locs 261 46861 Q (F0 m 249 ls []) := by
  obtain ⟨hx, hb, hml, hown, hts, hX0, hbl, hK1, hK2, hX1, hA1, hA2, hdis, hI1, hI2⟩ := id E
  have hbA : ¬ An s.heap.size b := fun z => absurd hbl (Nat.not_lt.mpr z)
  refine lv_aload_n (pc := 249) hx hb dl_249 rfl (lv_at hl 2 rfl) ?_
  refine lv_aload_n (pc := 250) hx hb dl_250 rfl (lv_at hl 1 rfl) ?_
  refine lv_iload_n (pc := 251) hx hb dl_251 rfl (lv_at hl 0 rfl) ?_
  refine lv_iconst (pc := 252) (v := 1) hx hb dl_252 (by decide) ?_
  refine lv_iadd (pc := 253) hx hb dl_253 ?_
  refine va_sld (pc := 254) hx hb hX0 hbl hbA hR.2.2 h1 dl_254 ?_
  refine l1_call (pc := 255) (As := [.int (xs (i + 1).toNatClampNeg)]) (n := 1) E hR (m11_byteAt l w1 hI1 hG (xs (i + 1).toNatClampNeg)) ckX11_byteAt cvX11_byteAt (Uw_of (inT2 _ (List.mem_of_getElem? (i := 197) rfl)) rfl) ⟨rfl, rfl, (Nat.le_of_ble_eq_true rfl), (Nat.le_of_ble_eq_true rfl)⟩ rfl rfl hl.1 rfl (Nat.le_of_ble_eq_true rfl) dl_255 ⟨(Nat.le_of_ble_eq_true rfl), (Nat.le_of_ble_eq_true rfl)⟩ (fun r1 τ1 H locs q1 hR => ?_)
  refine lv_pop (pc := 258) hx hb dl_258 rfl ?_
  refine lv_aload_n (pc := 259) hx hb dl_259 rfl (lv_at hl 3 rfl) ?_
  refine lv_aload_n (pc := 260) hx hb dl_260 rfl (lv_at hl 1 rfl) ?_
  refine lv_iload_n (pc := 261) hx hb dl_261 rfl (lv_at hl 0 rfl) ?_
  refine lv_iconst (pc := 262) (v := 1) hx hb dl_262 (by decide) ?_
  refine lv_iadd (pc := 263) hx hb dl_263 ?_
  refine va_sld (pc := 264) hx hb hX0 hbl hbA hR.2.2 h1 dl_264 ?_
  refine l2_call (pc := 265) (As := [.int (xs (i + 1).toNatClampNeg)]) (n := 1) E hR (m12_byteAt l w2 hI2 (xs (i + 1).toNatClampNeg) q1.2) ckX12_byteAt cvX12_byteAt (Uw_of (inT5 _ (List.mem_of_getElem? (i := 156) rfl)) rfl) ⟨rfl, rfl, (Nat.le_of_ble_eq_true rfl), (Nat.le_of_ble_eq_true rfl)⟩ rfl rfl hl.1 rfl (Nat.le_of_ble_eq_true rfl) dl_265 ⟨(Nat.le_of_ble_eq_true rfl), (Nat.le_of_ble_eq_true rfl)⟩ (fun r2 τ2 H locs q2 hR => ?_)
  refine lv_pop (pc := 268) hx hb dl_268 rfl ?_
  refine lv_goto (pc := 269) (tgt := 719) hx hb dl_269 (by decide) ?_
  exact next _ _ _ _ hR ⟨q1.1, q2.2⟩
set_option maxHeartbeats 4000000 in
theorem lc_table {p : Program} {e : Env} {s : State} {m : MethodId} {args : Array Value} {below : List Frame} {meth : Method} {c : Code} (l : Launch) {w1 w2 : Wd} {b L : Nat} {xs : Nat → Int32} {Q : State → Prop} (E : Lx w1 w2 b L xs p s m args meth c) {i : Int32} (h1 : vp_in (i + 1) L) (h2 : vp_in (i + 2) L) (h3 : vp_in (i + 3) L) {σ1 σ2 : St} {H : Heap} {locs : List Loc} {ls : Array Slot} (hl : lv_has ls 4 [(3, .int i), (0, .ref b), (1, .ref (w1.2.1 0)), (2, .ref (w2.2.1 0))]) (hR : Rl w1 w2 σ1 σ2 s H locs) (hG : GI σ1 σ2) (next : ∀ (τ1 τ2 : St) (H1 : Heap) (locs1 : List Loc), Rl w1 w2 τ1 τ2 s H1 locs1 → GI τ1 τ2 → W p l e room_1 s m args below meth c H1 locs1 261 46861 Q (F0 m 719 ls [])) : W p l e room_1 s m args below meth c H locs 261 46861 Q (F0 m 272 ls []) := by
  obtain ⟨hx, hb, hml, hown, hts, hX0, hbl, hK1, hK2, hX1, hA1, hA2, hdis, hI1, hI2⟩ := id E
  have hbA : ¬ An s.heap.size b := fun z => absurd hbl (Nat.not_lt.mpr z)
  refine lv_aload_n (pc := 272) hx hb dl_272 rfl (lv_at hl 2 rfl) ?_
  refine lv_aload_n (pc := 273) hx hb dl_273 rfl (lv_at hl 1 rfl) ?_
  refine lv_iload_n (pc := 274) hx hb dl_274 rfl (lv_at hl 0 rfl) ?_
  refine lv_iconst (pc := 275) (v := 1) hx hb dl_275 (by decide) ?_
  refine lv_iadd (pc := 276) hx hb dl_276 ?_
  refine va_sld (pc := 277) hx hb hX0 hbl hbA hR.2.2 h1 dl_277 ?_
  refine l1_call (pc := 278) (As := [.int (xs (i + 1).toNatClampNeg)]) (n := 1) E hR (m11_table l w1 hI1 hG (xs (i + 1).toNatClampNeg)) ckX11_table cvX11_table (Uw_of (inT2 _ (List.mem_of_getElem? (i := 209) rfl)) rfl) ⟨rfl, rfl, (Nat.le_of_ble_eq_true rfl), (Nat.le_of_ble_eq_true rfl)⟩ rfl rfl hl.1 rfl (Nat.le_of_ble_eq_true rfl) dl_278 ⟨(Nat.le_of_ble_eq_true rfl), (Nat.le_of_ble_eq_true rfl)⟩ (fun r1 τ1 H locs q1 hR => ?_)
  refine lv_pop (pc := 281) hx hb dl_281 rfl ?_
  refine lv_aload_n (pc := 282) hx hb dl_282 rfl (lv_at hl 3 rfl) ?_
  refine lv_aload_n (pc := 283) hx hb dl_283 rfl (lv_at hl 1 rfl) ?_
  refine lv_iload_n (pc := 284) hx hb dl_284 rfl (lv_at hl 0 rfl) ?_
  refine lv_iconst (pc := 285) (v := 1) hx hb dl_285 (by decide) ?_
  refine lv_iadd (pc := 286) hx hb dl_286 ?_
  refine va_sld (pc := 287) hx hb hX0 hbl hbA hR.2.2 h1 dl_287 ?_
  refine l2_call (pc := 288) (As := [.int (xs (i + 1).toNatClampNeg)]) (n := 1) E hR (m12_table l w2 hI2 (xs (i + 1).toNatClampNeg) q1.2) ckX12_table cvX12_table (Uw_of (inT5 _ (List.mem_of_getElem? (i := 161) rfl)) rfl) ⟨rfl, rfl, (Nat.le_of_ble_eq_true rfl), (Nat.le_of_ble_eq_true rfl)⟩ rfl rfl hl.1 rfl (Nat.le_of_ble_eq_true rfl) dl_288 ⟨(Nat.le_of_ble_eq_true rfl), (Nat.le_of_ble_eq_true rfl)⟩ (fun r2 τ2 H locs q2 hR => ?_)
  refine lv_pop (pc := 291) hx hb dl_291 rfl ?_
  refine lv_goto (pc := 292) (tgt := 719) hx hb dl_292 (by decide) ?_
  exact next _ _ _ _ hR ⟨q1.1, q2⟩
set_option maxHeartbeats 4000000 in
theorem lc_system {p : Program} {e : Env} {s : State} {m : MethodId} {args : Array Value} {below : List Frame} {meth : Method} {c : Code} (l : Launch) {w1 w2 : Wd} {b L : Nat} {xs : Nat → Int32} {Q : State → Prop} (E : Lx w1 w2 b L xs p s m args meth c) {i : Int32} (h1 : vp_in (i + 1) L) (h2 : vp_in (i + 2) L) (h3 : vp_in (i + 3) L) {σ1 σ2 : St} {H : Heap} {locs : List Loc} {ls : Array Slot} (hl : lv_has ls 4 [(3, .int i), (0, .ref b), (1, .ref (w1.2.1 0)), (2, .ref (w2.2.1 0))]) (hR : Rl w1 w2 σ1 σ2 s H locs) (hG : GI σ1 σ2) (next : ∀ (τ1 τ2 : St) (H1 : Heap) (locs1 : List Loc), Rl w1 w2 τ1 τ2 s H1 locs1 → GI τ1 τ2 → W p l e room_1 s m args below meth c H1 locs1 261 46861 Q (F0 m 719 ls [])) : W p l e room_1 s m args below meth c H locs 261 46861 Q (F0 m 295 ls []) := by
  obtain ⟨hx, hb, hml, hown, hts, hX0, hbl, hK1, hK2, hX1, hA1, hA2, hdis, hI1, hI2⟩ := id E
  have hbA : ¬ An s.heap.size b := fun z => absurd hbl (Nat.not_lt.mpr z)
  refine lv_aload_n (pc := 295) hx hb dl_295 rfl (lv_at hl 2 rfl) ?_
  refine lv_aload_n (pc := 296) hx hb dl_296 rfl (lv_at hl 1 rfl) ?_
  refine lv_iload_n (pc := 297) hx hb dl_297 rfl (lv_at hl 0 rfl) ?_
  refine lv_iconst (pc := 298) (v := 1) hx hb dl_298 (by decide) ?_
  refine lv_iadd (pc := 299) hx hb dl_299 ?_
  refine va_sld (pc := 300) hx hb hX0 hbl hbA hR.2.2 h1 dl_300 ?_
  refine lv_aload_n (pc := 301) hx hb dl_301 rfl (lv_at hl 1 rfl) ?_
  refine lv_iload_n (pc := 302) hx hb dl_302 rfl (lv_at hl 0 rfl) ?_
  refine lv_iconst (pc := 303) (v := 2) hx hb dl_303 (by decide) ?_
  refine lv_iadd (pc := 304) hx hb dl_304 ?_
  refine va_sld (pc := 305) hx hb hX0 hbl hbA hR.2.2 h2 dl_305 ?_
  refine l1_call (pc := 306) (As := [.int (xs (i + 1).toNatClampNeg), .int (xs (i + 2).toNatClampNeg)]) (n := 2) E hR (m11_system l w1 hI1 hG (xs (i + 1).toNatClampNeg) (xs (i + 2).toNatClampNeg)) ckX11_system cvX11_system (Uw_of (inT3 _ (List.mem_of_getElem? (i := 11) rfl)) rfl) ⟨rfl, rfl, (Nat.le_of_ble_eq_true rfl), (Nat.le_of_ble_eq_true rfl)⟩ rfl rfl hl.1 rfl (Nat.le_of_ble_eq_true rfl) dl_306 ⟨(Nat.le_of_ble_eq_true rfl), (Nat.le_of_ble_eq_true rfl)⟩ (fun r1 τ1 H locs q1 hR => ?_)
  refine lv_pop (pc := 309) hx hb dl_309 rfl ?_
  refine lv_aload_n (pc := 310) hx hb dl_310 rfl (lv_at hl 3 rfl) ?_
  refine lv_aload_n (pc := 311) hx hb dl_311 rfl (lv_at hl 1 rfl) ?_
  refine lv_iload_n (pc := 312) hx hb dl_312 rfl (lv_at hl 0 rfl) ?_
  refine lv_iconst (pc := 313) (v := 1) hx hb dl_313 (by decide) ?_
  refine lv_iadd (pc := 314) hx hb dl_314 ?_
  refine va_sld (pc := 315) hx hb hX0 hbl hbA hR.2.2 h1 dl_315 ?_
  refine lv_aload_n (pc := 316) hx hb dl_316 rfl (lv_at hl 1 rfl) ?_
  refine lv_iload_n (pc := 317) hx hb dl_317 rfl (lv_at hl 0 rfl) ?_
  refine lv_iconst (pc := 318) (v := 2) hx hb dl_318 (by decide) ?_
  refine lv_iadd (pc := 319) hx hb dl_319 ?_
  refine va_sld (pc := 320) hx hb hX0 hbl hbA hR.2.2 h2 dl_320 ?_
  refine l2_call (pc := 321) (As := [.int (xs (i + 1).toNatClampNeg), .int (xs (i + 2).toNatClampNeg)]) (n := 2) E hR (m12_system l w2 hI2 (xs (i + 1).toNatClampNeg) (xs (i + 2).toNatClampNeg) q1.2) ckX12_system cvX12_system (Uw_of (inT5 _ (List.mem_of_getElem? (i := 190) rfl)) rfl) ⟨rfl, rfl, (Nat.le_of_ble_eq_true rfl), (Nat.le_of_ble_eq_true rfl)⟩ rfl rfl hl.1 rfl (Nat.le_of_ble_eq_true rfl) dl_321 ⟨(Nat.le_of_ble_eq_true rfl), (Nat.le_of_ble_eq_true rfl)⟩ (fun r2 τ2 H locs q2 hR => ?_)
  refine lv_pop (pc := 324) hx hb dl_324 rfl ?_
  refine lv_goto (pc := 325) (tgt := 719) hx hb dl_325 (by decide) ?_
  exact next _ _ _ _ hR ⟨q1.1, q2.2⟩
set_option maxHeartbeats 4000000 in
theorem lc_print {p : Program} {e : Env} {s : State} {m : MethodId} {args : Array Value} {below : List Frame} {meth : Method} {c : Code} (l : Launch) {w1 w2 : Wd} {b L : Nat} {xs : Nat → Int32} {Q : State → Prop} (E : Lx w1 w2 b L xs p s m args meth c) {i : Int32} (h1 : vp_in (i + 1) L) (h2 : vp_in (i + 2) L) (h3 : vp_in (i + 3) L) {σ1 σ2 : St} {H : Heap} {locs : List Loc} {ls : Array Slot} (hl : lv_has ls 4 [(3, .int i), (0, .ref b), (1, .ref (w1.2.1 0)), (2, .ref (w2.2.1 0))]) (hR : Rl w1 w2 σ1 σ2 s H locs) (hG : GI σ1 σ2) (next : ∀ (τ1 τ2 : St) (H1 : Heap) (locs1 : List Loc), Rl w1 w2 τ1 τ2 s H1 locs1 → GI τ1 τ2 → W p l e room_1 s m args below meth c H1 locs1 261 46861 Q (F0 m 719 ls [])) : W p l e room_1 s m args below meth c H locs 261 46861 Q (F0 m 328 ls []) := by
  obtain ⟨hx, hb, hml, hown, hts, hX0, hbl, hK1, hK2, hX1, hA1, hA2, hdis, hI1, hI2⟩ := id E
  have hbA : ¬ An s.heap.size b := fun z => absurd hbl (Nat.not_lt.mpr z)
  refine lv_aload_n (pc := 328) hx hb dl_328 rfl (lv_at hl 2 rfl) ?_
  refine lv_aload_n (pc := 329) hx hb dl_329 rfl (lv_at hl 1 rfl) ?_
  refine lv_iload_n (pc := 330) hx hb dl_330 rfl (lv_at hl 0 rfl) ?_
  refine lv_iconst (pc := 331) (v := 1) hx hb dl_331 (by decide) ?_
  refine lv_iadd (pc := 332) hx hb dl_332 ?_
  refine va_sld (pc := 333) hx hb hX0 hbl hbA hR.2.2 h1 dl_333 ?_
  refine lv_aload_n (pc := 334) hx hb dl_334 rfl (lv_at hl 1 rfl) ?_
  refine lv_iload_n (pc := 335) hx hb dl_335 rfl (lv_at hl 0 rfl) ?_
  refine lv_iconst (pc := 336) (v := 2) hx hb dl_336 (by decide) ?_
  refine lv_iadd (pc := 337) hx hb dl_337 ?_
  refine va_sld (pc := 338) hx hb hX0 hbl hbA hR.2.2 h2 dl_338 ?_
  refine l1_call (pc := 339) (As := [.int (xs (i + 1).toNatClampNeg), .int (xs (i + 2).toNatClampNeg)]) (n := 2) E hR (m11_print l w1 hI1 hG (xs (i + 1).toNatClampNeg) (xs (i + 2).toNatClampNeg)) ckX11_print cvX11_print (Uw_of (inT3 _ (List.mem_of_getElem? (i := 23) rfl)) rfl) ⟨rfl, rfl, (Nat.le_of_ble_eq_true rfl), (Nat.le_of_ble_eq_true rfl)⟩ rfl rfl hl.1 rfl (Nat.le_of_ble_eq_true rfl) dl_339 ⟨(Nat.le_of_ble_eq_true rfl), (Nat.le_of_ble_eq_true rfl)⟩ (fun r1 τ1 H locs q1 hR => ?_)
  refine lv_pop (pc := 342) hx hb dl_342 rfl ?_
  refine lv_aload_n (pc := 343) hx hb dl_343 rfl (lv_at hl 3 rfl) ?_
  refine lv_aload_n (pc := 344) hx hb dl_344 rfl (lv_at hl 1 rfl) ?_
  refine lv_iload_n (pc := 345) hx hb dl_345 rfl (lv_at hl 0 rfl) ?_
  refine lv_iconst (pc := 346) (v := 1) hx hb dl_346 (by decide) ?_
  refine lv_iadd (pc := 347) hx hb dl_347 ?_
  refine va_sld (pc := 348) hx hb hX0 hbl hbA hR.2.2 h1 dl_348 ?_
  refine lv_aload_n (pc := 349) hx hb dl_349 rfl (lv_at hl 1 rfl) ?_
  refine lv_iload_n (pc := 350) hx hb dl_350 rfl (lv_at hl 0 rfl) ?_
  refine lv_iconst (pc := 351) (v := 2) hx hb dl_351 (by decide) ?_
  refine lv_iadd (pc := 352) hx hb dl_352 ?_
  refine va_sld (pc := 353) hx hb hX0 hbl hbA hR.2.2 h2 dl_353 ?_
  refine l2_call (pc := 354) (As := [.int (xs (i + 1).toNatClampNeg), .int (xs (i + 2).toNatClampNeg)]) (n := 2) E hR (m12_print l w2 hI2 (xs (i + 1).toNatClampNeg) (xs (i + 2).toNatClampNeg) q1.2) ckX12_print cvX12_print (Uw_of (inT5 _ (List.mem_of_getElem? (i := 195) rfl)) rfl) ⟨rfl, rfl, (Nat.le_of_ble_eq_true rfl), (Nat.le_of_ble_eq_true rfl)⟩ rfl rfl hl.1 rfl (Nat.le_of_ble_eq_true rfl) dl_354 ⟨(Nat.le_of_ble_eq_true rfl), (Nat.le_of_ble_eq_true rfl)⟩ (fun r2 τ2 H locs q2 hR => ?_)
  refine lv_pop (pc := 357) hx hb dl_357 rfl ?_
  refine lv_goto (pc := 358) (tgt := 719) hx hb dl_358 (by decide) ?_
  exact next _ _ _ _ hR ⟨q1.1, q2.2⟩
set_option maxHeartbeats 4000000 in
theorem lc_number {p : Program} {e : Env} {s : State} {m : MethodId} {args : Array Value} {below : List Frame} {meth : Method} {c : Code} (l : Launch) {w1 w2 : Wd} {b L : Nat} {xs : Nat → Int32} {Q : State → Prop} (E : Lx w1 w2 b L xs p s m args meth c) {i : Int32} (h1 : vp_in (i + 1) L) (h2 : vp_in (i + 2) L) (h3 : vp_in (i + 3) L) {σ1 σ2 : St} {H : Heap} {locs : List Loc} {ls : Array Slot} (hl : lv_has ls 4 [(3, .int i), (0, .ref b), (1, .ref (w1.2.1 0)), (2, .ref (w2.2.1 0))]) (hR : Rl w1 w2 σ1 σ2 s H locs) (hG : GI σ1 σ2) (next : ∀ (τ1 τ2 : St) (H1 : Heap) (locs1 : List Loc), Rl w1 w2 τ1 τ2 s H1 locs1 → GI τ1 τ2 → W p l e room_1 s m args below meth c H1 locs1 261 46861 Q (F0 m 719 ls [])) : W p l e room_1 s m args below meth c H locs 261 46861 Q (F0 m 361 ls []) := by
  obtain ⟨hx, hb, hml, hown, hts, hX0, hbl, hK1, hK2, hX1, hA1, hA2, hdis, hI1, hI2⟩ := id E
  have hbA : ¬ An s.heap.size b := fun z => absurd hbl (Nat.not_lt.mpr z)
  refine lv_aload_n (pc := 361) hx hb dl_361 rfl (lv_at hl 2 rfl) ?_
  refine lv_aload_n (pc := 362) hx hb dl_362 rfl (lv_at hl 1 rfl) ?_
  refine lv_iload_n (pc := 363) hx hb dl_363 rfl (lv_at hl 0 rfl) ?_
  refine lv_iconst (pc := 364) (v := 1) hx hb dl_364 (by decide) ?_
  refine lv_iadd (pc := 365) hx hb dl_365 ?_
  refine va_sld (pc := 366) hx hb hX0 hbl hbA hR.2.2 h1 dl_366 ?_
  refine lv_aload_n (pc := 367) hx hb dl_367 rfl (lv_at hl 1 rfl) ?_
  refine lv_iload_n (pc := 368) hx hb dl_368 rfl (lv_at hl 0 rfl) ?_
  refine lv_iconst (pc := 369) (v := 2) hx hb dl_369 (by decide) ?_
  refine lv_iadd (pc := 370) hx hb dl_370 ?_
  refine va_sld (pc := 371) hx hb hX0 hbl hbA hR.2.2 h2 dl_371 ?_
  refine l1_call (pc := 372) (As := [.int (xs (i + 1).toNatClampNeg), .int (xs (i + 2).toNatClampNeg)]) (n := 2) E hR (m11_number l w1 hI1 hG (xs (i + 1).toNatClampNeg) (xs (i + 2).toNatClampNeg)) ckX11_number cvX11_number (Uw_of (inT3 _ (List.mem_of_getElem? (i := 201) rfl)) rfl) ⟨rfl, rfl, (Nat.le_of_ble_eq_true rfl), (Nat.le_of_ble_eq_true rfl)⟩ rfl rfl hl.1 rfl (Nat.le_of_ble_eq_true rfl) dl_372 ⟨(Nat.le_of_ble_eq_true rfl), (Nat.le_of_ble_eq_true rfl)⟩ (fun r1 τ1 H locs q1 hR => ?_)
  refine lv_pop (pc := 375) hx hb dl_375 rfl ?_
  refine lv_aload_n (pc := 376) hx hb dl_376 rfl (lv_at hl 3 rfl) ?_
  refine lv_aload_n (pc := 377) hx hb dl_377 rfl (lv_at hl 1 rfl) ?_
  refine lv_iload_n (pc := 378) hx hb dl_378 rfl (lv_at hl 0 rfl) ?_
  refine lv_iconst (pc := 379) (v := 1) hx hb dl_379 (by decide) ?_
  refine lv_iadd (pc := 380) hx hb dl_380 ?_
  refine va_sld (pc := 381) hx hb hX0 hbl hbA hR.2.2 h1 dl_381 ?_
  refine lv_aload_n (pc := 382) hx hb dl_382 rfl (lv_at hl 1 rfl) ?_
  refine lv_iload_n (pc := 383) hx hb dl_383 rfl (lv_at hl 0 rfl) ?_
  refine lv_iconst (pc := 384) (v := 2) hx hb dl_384 (by decide) ?_
  refine lv_iadd (pc := 385) hx hb dl_385 ?_
  refine va_sld (pc := 386) hx hb hX0 hbl hbA hR.2.2 h2 dl_386 ?_
  refine l2_call (pc := 387) (As := [.int (xs (i + 1).toNatClampNeg), .int (xs (i + 2).toNatClampNeg)]) (n := 2) E hR (m12_number l w2 hI2 (xs (i + 1).toNatClampNeg) (xs (i + 2).toNatClampNeg) q1.2) ckX12_number cvX12_number (Uw_of (inT6 _ (List.mem_of_getElem? (i := 30) rfl)) rfl) ⟨rfl, rfl, (Nat.le_of_ble_eq_true rfl), (Nat.le_of_ble_eq_true rfl)⟩ rfl rfl hl.1 rfl (Nat.le_of_ble_eq_true rfl) dl_387 ⟨(Nat.le_of_ble_eq_true rfl), (Nat.le_of_ble_eq_true rfl)⟩ (fun r2 τ2 H locs q2 hR => ?_)
  refine lv_pop (pc := 390) hx hb dl_390 rfl ?_
  refine lv_goto (pc := 391) (tgt := 719) hx hb dl_391 (by decide) ?_
  exact next _ _ _ _ hR ⟨q1.1, q2.2⟩
set_option maxHeartbeats 4000000 in
theorem lc_call {p : Program} {e : Env} {s : State} {m : MethodId} {args : Array Value} {below : List Frame} {meth : Method} {c : Code} (l : Launch) {w1 w2 : Wd} {b L : Nat} {xs : Nat → Int32} {Q : State → Prop} (E : Lx w1 w2 b L xs p s m args meth c) {i : Int32} (h1 : vp_in (i + 1) L) (h2 : vp_in (i + 2) L) (h3 : vp_in (i + 3) L) {σ1 σ2 : St} {H : Heap} {locs : List Loc} {ls : Array Slot} (hl : lv_has ls 4 [(3, .int i), (0, .ref b), (1, .ref (w1.2.1 0)), (2, .ref (w2.2.1 0))]) (hR : Rl w1 w2 σ1 σ2 s H locs) (hG : GI σ1 σ2) (next : ∀ (τ1 τ2 : St) (H1 : Heap) (locs1 : List Loc), Rl w1 w2 τ1 τ2 s H1 locs1 → GI τ1 τ2 → W p l e room_1 s m args below meth c H1 locs1 261 46861 Q (F0 m 719 ls [])) : W p l e room_1 s m args below meth c H locs 261 46861 Q (F0 m 394 ls []) := by
  obtain ⟨hx, hb, hml, hown, hts, hX0, hbl, hK1, hK2, hX1, hA1, hA2, hdis, hI1, hI2⟩ := id E
  have hbA : ¬ An s.heap.size b := fun z => absurd hbl (Nat.not_lt.mpr z)
  refine lv_aload_n (pc := 394) hx hb dl_394 rfl (lv_at hl 2 rfl) ?_
  refine lv_aload_n (pc := 395) hx hb dl_395 rfl (lv_at hl 1 rfl) ?_
  refine lv_iload_n (pc := 396) hx hb dl_396 rfl (lv_at hl 0 rfl) ?_
  refine lv_iconst (pc := 397) (v := 1) hx hb dl_397 (by decide) ?_
  refine lv_iadd (pc := 398) hx hb dl_398 ?_
  refine va_sld (pc := 399) hx hb hX0 hbl hbA hR.2.2 h1 dl_399 ?_
  refine lv_aload_n (pc := 400) hx hb dl_400 rfl (lv_at hl 1 rfl) ?_
  refine lv_iload_n (pc := 401) hx hb dl_401 rfl (lv_at hl 0 rfl) ?_
  refine lv_iconst (pc := 402) (v := 2) hx hb dl_402 (by decide) ?_
  refine lv_iadd (pc := 403) hx hb dl_403 ?_
  refine va_sld (pc := 404) hx hb hX0 hbl hbA hR.2.2 h2 dl_404 ?_
  refine l1_call (pc := 405) (As := [.int (xs (i + 1).toNatClampNeg), .int (xs (i + 2).toNatClampNeg)]) (n := 2) E hR (m11_call l w1 hI1 hG (xs (i + 1).toNatClampNeg) (xs (i + 2).toNatClampNeg)) ckX11_call cvX11_call (Uw_of (inT3 _ (List.mem_of_getElem? (i := 206) rfl)) rfl) ⟨rfl, rfl, (Nat.le_of_ble_eq_true rfl), (Nat.le_of_ble_eq_true rfl)⟩ rfl rfl hl.1 rfl (Nat.le_of_ble_eq_true rfl) dl_405 ⟨(Nat.le_of_ble_eq_true rfl), (Nat.le_of_ble_eq_true rfl)⟩ (fun r1 τ1 H locs q1 hR => ?_)
  refine lv_pop (pc := 408) hx hb dl_408 rfl ?_
  refine lv_aload_n (pc := 409) hx hb dl_409 rfl (lv_at hl 3 rfl) ?_
  refine lv_aload_n (pc := 410) hx hb dl_410 rfl (lv_at hl 1 rfl) ?_
  refine lv_iload_n (pc := 411) hx hb dl_411 rfl (lv_at hl 0 rfl) ?_
  refine lv_iconst (pc := 412) (v := 1) hx hb dl_412 (by decide) ?_
  refine lv_iadd (pc := 413) hx hb dl_413 ?_
  refine va_sld (pc := 414) hx hb hX0 hbl hbA hR.2.2 h1 dl_414 ?_
  refine lv_aload_n (pc := 415) hx hb dl_415 rfl (lv_at hl 1 rfl) ?_
  refine lv_iload_n (pc := 416) hx hb dl_416 rfl (lv_at hl 0 rfl) ?_
  refine lv_iconst (pc := 417) (v := 2) hx hb dl_417 (by decide) ?_
  refine lv_iadd (pc := 418) hx hb dl_418 ?_
  refine va_sld (pc := 419) hx hb hX0 hbl hbA hR.2.2 h2 dl_419 ?_
  refine l2_call (pc := 420) (As := [.int (xs (i + 1).toNatClampNeg), .int (xs (i + 2).toNatClampNeg)]) (n := 2) E hR (m12_call l w2 hI2 (xs (i + 1).toNatClampNeg) (xs (i + 2).toNatClampNeg) q1.2) ckX12_call cvX12_call (Uw_of (inT6 _ (List.mem_of_getElem? (i := 34) rfl)) rfl) ⟨rfl, rfl, (Nat.le_of_ble_eq_true rfl), (Nat.le_of_ble_eq_true rfl)⟩ rfl rfl hl.1 rfl (Nat.le_of_ble_eq_true rfl) dl_420 ⟨(Nat.le_of_ble_eq_true rfl), (Nat.le_of_ble_eq_true rfl)⟩ (fun r2 τ2 H locs q2 hR => ?_)
  refine lv_pop (pc := 423) hx hb dl_423 rfl ?_
  refine lv_goto (pc := 424) (tgt := 719) hx hb dl_424 (by decide) ?_
  exact next _ _ _ _ hR ⟨q1.1, q2.2⟩
set_option maxHeartbeats 4000000 in
theorem lc_resume {p : Program} {e : Env} {s : State} {m : MethodId} {args : Array Value} {below : List Frame} {meth : Method} {c : Code} (l : Launch) {w1 w2 : Wd} {b L : Nat} {xs : Nat → Int32} {Q : State → Prop} (E : Lx w1 w2 b L xs p s m args meth c) {i : Int32} (h1 : vp_in (i + 1) L) (h2 : vp_in (i + 2) L) (h3 : vp_in (i + 3) L) {σ1 σ2 : St} {H : Heap} {locs : List Loc} {ls : Array Slot} (hl : lv_has ls 4 [(3, .int i), (0, .ref b), (1, .ref (w1.2.1 0)), (2, .ref (w2.2.1 0))]) (hR : Rl w1 w2 σ1 σ2 s H locs) (hG : GI σ1 σ2) (next : ∀ (τ1 τ2 : St) (H1 : Heap) (locs1 : List Loc), Rl w1 w2 τ1 τ2 s H1 locs1 → GI τ1 τ2 → W p l e room_1 s m args below meth c H1 locs1 261 46861 Q (F0 m 719 ls [])) : W p l e room_1 s m args below meth c H locs 261 46861 Q (F0 m 427 ls []) := by
  obtain ⟨hx, hb, hml, hown, hts, hX0, hbl, hK1, hK2, hX1, hA1, hA2, hdis, hI1, hI2⟩ := id E
  have hbA : ¬ An s.heap.size b := fun z => absurd hbl (Nat.not_lt.mpr z)
  refine lv_aload_n (pc := 427) hx hb dl_427 rfl (lv_at hl 2 rfl) ?_
  refine lv_aload_n (pc := 428) hx hb dl_428 rfl (lv_at hl 1 rfl) ?_
  refine lv_iload_n (pc := 429) hx hb dl_429 rfl (lv_at hl 0 rfl) ?_
  refine lv_iconst (pc := 430) (v := 1) hx hb dl_430 (by decide) ?_
  refine lv_iadd (pc := 431) hx hb dl_431 ?_
  refine va_sld (pc := 432) hx hb hX0 hbl hbA hR.2.2 h1 dl_432 ?_
  refine l1_call (pc := 433) (As := [.int (xs (i + 1).toNatClampNeg)]) (n := 1) E hR (m11_resume l w1 hI1 hG (xs (i + 1).toNatClampNeg)) ckX11_resume cvX11_resume (Uw_of (inT3 _ (List.mem_of_getElem? (i := 215) rfl)) rfl) ⟨rfl, rfl, (Nat.le_of_ble_eq_true rfl), (Nat.le_of_ble_eq_true rfl)⟩ rfl rfl hl.1 rfl (Nat.le_of_ble_eq_true rfl) dl_433 ⟨(Nat.le_of_ble_eq_true rfl), (Nat.le_of_ble_eq_true rfl)⟩ (fun r1 τ1 H locs q1 hR => ?_)
  refine lv_pop (pc := 436) hx hb dl_436 rfl ?_
  refine lv_aload_n (pc := 437) hx hb dl_437 rfl (lv_at hl 3 rfl) ?_
  refine lv_aload_n (pc := 438) hx hb dl_438 rfl (lv_at hl 1 rfl) ?_
  refine lv_iload_n (pc := 439) hx hb dl_439 rfl (lv_at hl 0 rfl) ?_
  refine lv_iconst (pc := 440) (v := 1) hx hb dl_440 (by decide) ?_
  refine lv_iadd (pc := 441) hx hb dl_441 ?_
  refine va_sld (pc := 442) hx hb hX0 hbl hbA hR.2.2 h1 dl_442 ?_
  refine l2_call (pc := 443) (As := [.int (xs (i + 1).toNatClampNeg)]) (n := 1) E hR (m12_resume l w2 hI2 (xs (i + 1).toNatClampNeg) q1.2) ckX12_resume cvX12_resume (Uw_of (inT6 _ (List.mem_of_getElem? (i := 38) rfl)) rfl) ⟨rfl, rfl, (Nat.le_of_ble_eq_true rfl), (Nat.le_of_ble_eq_true rfl)⟩ rfl rfl hl.1 rfl (Nat.le_of_ble_eq_true rfl) dl_443 ⟨(Nat.le_of_ble_eq_true rfl), (Nat.le_of_ble_eq_true rfl)⟩ (fun r2 τ2 H locs q2 hR => ?_)
  refine lv_pop (pc := 446) hx hb dl_446 rfl ?_
  refine lv_goto (pc := 447) (tgt := 719) hx hb dl_447 (by decide) ?_
  exact next _ _ _ _ hR ⟨q1.1, q2.2⟩
set_option maxHeartbeats 4000000 in
theorem lc_stop {p : Program} {e : Env} {s : State} {m : MethodId} {args : Array Value} {below : List Frame} {meth : Method} {c : Code} (l : Launch) {w1 w2 : Wd} {b L : Nat} {xs : Nat → Int32} {Q : State → Prop} (E : Lx w1 w2 b L xs p s m args meth c) {i : Int32} (h1 : vp_in (i + 1) L) (h2 : vp_in (i + 2) L) (h3 : vp_in (i + 3) L) {σ1 σ2 : St} {H : Heap} {locs : List Loc} {ls : Array Slot} (hl : lv_has ls 4 [(3, .int i), (0, .ref b), (1, .ref (w1.2.1 0)), (2, .ref (w2.2.1 0))]) (hR : Rl w1 w2 σ1 σ2 s H locs) (hG : GI σ1 σ2) (next : ∀ (τ1 τ2 : St) (H1 : Heap) (locs1 : List Loc), Rl w1 w2 τ1 τ2 s H1 locs1 → GI τ1 τ2 → W p l e room_1 s m args below meth c H1 locs1 261 46861 Q (F0 m 719 ls [])) : W p l e room_1 s m args below meth c H locs 261 46861 Q (F0 m 450 ls []) := by
  obtain ⟨hx, hb, hml, hown, hts, hX0, hbl, hK1, hK2, hX1, hA1, hA2, hdis, hI1, hI2⟩ := id E
  have hbA : ¬ An s.heap.size b := fun z => absurd hbl (Nat.not_lt.mpr z)
  refine lv_aload_n (pc := 450) hx hb dl_450 rfl (lv_at hl 2 rfl) ?_
  refine l1_call (pc := 451) (As := []) (n := 0) E hR (m11_stop l w1 hI1 hG ) ckX11_stop cvX11_stop (Uw_of (inT3 _ (List.mem_of_getElem? (i := 219) rfl)) rfl) ⟨rfl, rfl, (Nat.le_of_ble_eq_true rfl), (Nat.le_of_ble_eq_true rfl)⟩ rfl rfl hl.1 rfl (Nat.le_of_ble_eq_true rfl) dl_451 ⟨(Nat.le_of_ble_eq_true rfl), (Nat.le_of_ble_eq_true rfl)⟩ (fun r1 τ1 H locs q1 hR => ?_)
  refine lv_pop (pc := 454) hx hb dl_454 rfl ?_
  refine lv_aload_n (pc := 455) hx hb dl_455 rfl (lv_at hl 3 rfl) ?_
  refine l2_call (pc := 456) (As := []) (n := 0) E hR (m12_stop l w2 hI2  q1.2) ckX12_stop cvX12_stop (Uw_of (inT6 _ (List.mem_of_getElem? (i := 42) rfl)) rfl) ⟨rfl, rfl, (Nat.le_of_ble_eq_true rfl), (Nat.le_of_ble_eq_true rfl)⟩ rfl rfl hl.1 rfl (Nat.le_of_ble_eq_true rfl) dl_456 ⟨(Nat.le_of_ble_eq_true rfl), (Nat.le_of_ble_eq_true rfl)⟩ (fun r2 τ2 H locs q2 hR => ?_)
  refine lv_pop (pc := 459) hx hb dl_459 rfl ?_
  refine lv_goto (pc := 460) (tgt := 719) hx hb dl_460 (by decide) ?_
  exact next _ _ _ _ hR ⟨q1.1, q2.2⟩
set_option maxHeartbeats 4000000 in
theorem lc_jobs {p : Program} {e : Env} {s : State} {m : MethodId} {args : Array Value} {below : List Frame} {meth : Method} {c : Code} (l : Launch) {w1 w2 : Wd} {b L : Nat} {xs : Nat → Int32} {Q : State → Prop} (E : Lx w1 w2 b L xs p s m args meth c) {i : Int32} (h1 : vp_in (i + 1) L) (h2 : vp_in (i + 2) L) (h3 : vp_in (i + 3) L) {σ1 σ2 : St} {H : Heap} {locs : List Loc} {ls : Array Slot} (hl : lv_has ls 4 [(3, .int i), (0, .ref b), (1, .ref (w1.2.1 0)), (2, .ref (w2.2.1 0))]) (hR : Rl w1 w2 σ1 σ2 s H locs) (hG : GI σ1 σ2) (next : ∀ (τ1 τ2 : St) (H1 : Heap) (locs1 : List Loc), Rl w1 w2 τ1 τ2 s H1 locs1 → GI τ1 τ2 → W p l e room_1 s m args below meth c H1 locs1 261 46861 Q (F0 m 719 ls [])) : W p l e room_1 s m args below meth c H locs 261 46861 Q (F0 m 463 ls []) := by
  obtain ⟨hx, hb, hml, hown, hts, hX0, hbl, hK1, hK2, hX1, hA1, hA2, hdis, hI1, hI2⟩ := id E
  have hbA : ¬ An s.heap.size b := fun z => absurd hbl (Nat.not_lt.mpr z)
  refine lv_aload_n (pc := 463) hx hb dl_463 rfl (lv_at hl 2 rfl) ?_
  refine l1_call (pc := 464) (As := []) (n := 0) E hR (m11_jobs l w1 hI1 hG ) ckX11_jobs cvX11_jobs (Uw_of (inT3 _ (List.mem_of_getElem? (i := 223) rfl)) rfl) ⟨rfl, rfl, (Nat.le_of_ble_eq_true rfl), (Nat.le_of_ble_eq_true rfl)⟩ rfl rfl hl.1 rfl (Nat.le_of_ble_eq_true rfl) dl_464 ⟨(Nat.le_of_ble_eq_true rfl), (Nat.le_of_ble_eq_true rfl)⟩ (fun r1 τ1 H locs q1 hR => ?_)
  refine lv_pop (pc := 467) hx hb dl_467 rfl ?_
  refine lv_aload_n (pc := 468) hx hb dl_468 rfl (lv_at hl 3 rfl) ?_
  refine l2_call (pc := 469) (As := []) (n := 0) E hR (m12_jobs l w2 hI2  q1.2) ckX12_jobs cvX12_jobs (Uw_of (inT6 _ (List.mem_of_getElem? (i := 46) rfl)) rfl) ⟨rfl, rfl, (Nat.le_of_ble_eq_true rfl), (Nat.le_of_ble_eq_true rfl)⟩ rfl rfl hl.1 rfl (Nat.le_of_ble_eq_true rfl) dl_469 ⟨(Nat.le_of_ble_eq_true rfl), (Nat.le_of_ble_eq_true rfl)⟩ (fun r2 τ2 H locs q2 hR => ?_)
  refine lv_pop (pc := 472) hx hb dl_472 rfl ?_
  refine lv_goto (pc := 473) (tgt := 719) hx hb dl_473 (by decide) ?_
  exact next _ _ _ _ hR ⟨q1.1, q2.2⟩
set_option maxHeartbeats 4000000 in
theorem lc_job {p : Program} {e : Env} {s : State} {m : MethodId} {args : Array Value} {below : List Frame} {meth : Method} {c : Code} (l : Launch) {w1 w2 : Wd} {b L : Nat} {xs : Nat → Int32} {Q : State → Prop} (E : Lx w1 w2 b L xs p s m args meth c) {i : Int32} (h1 : vp_in (i + 1) L) (h2 : vp_in (i + 2) L) (h3 : vp_in (i + 3) L) {σ1 σ2 : St} {H : Heap} {locs : List Loc} {ls : Array Slot} (hl : lv_has ls 4 [(3, .int i), (0, .ref b), (1, .ref (w1.2.1 0)), (2, .ref (w2.2.1 0))]) (hR : Rl w1 w2 σ1 σ2 s H locs) (hG : GI σ1 σ2) (next : ∀ (τ1 τ2 : St) (H1 : Heap) (locs1 : List Loc), Rl w1 w2 τ1 τ2 s H1 locs1 → GI τ1 τ2 → W p l e room_1 s m args below meth c H1 locs1 261 46861 Q (F0 m 719 ls [])) : W p l e room_1 s m args below meth c H locs 261 46861 Q (F0 m 476 ls []) := by
  obtain ⟨hx, hb, hml, hown, hts, hX0, hbl, hK1, hK2, hX1, hA1, hA2, hdis, hI1, hI2⟩ := id E
  have hbA : ¬ An s.heap.size b := fun z => absurd hbl (Nat.not_lt.mpr z)
  refine lv_aload_n (pc := 476) hx hb dl_476 rfl (lv_at hl 2 rfl) ?_
  refine lv_aload_n (pc := 477) hx hb dl_477 rfl (lv_at hl 1 rfl) ?_
  refine lv_iload_n (pc := 478) hx hb dl_478 rfl (lv_at hl 0 rfl) ?_
  refine lv_iconst (pc := 479) (v := 1) hx hb dl_479 (by decide) ?_
  refine lv_iadd (pc := 480) hx hb dl_480 ?_
  refine va_sld (pc := 481) hx hb hX0 hbl hbA hR.2.2 h1 dl_481 ?_
  refine lv_aload_n (pc := 482) hx hb dl_482 rfl (lv_at hl 1 rfl) ?_
  refine lv_iload_n (pc := 483) hx hb dl_483 rfl (lv_at hl 0 rfl) ?_
  refine lv_iconst (pc := 484) (v := 2) hx hb dl_484 (by decide) ?_
  refine lv_iadd (pc := 485) hx hb dl_485 ?_
  refine va_sld (pc := 486) hx hb hX0 hbl hbA hR.2.2 h2 dl_486 ?_
  refine l1_call (pc := 487) (As := [.int (xs (i + 1).toNatClampNeg), .int (xs (i + 2).toNatClampNeg)]) (n := 2) E hR (m11_job l w1 hI1 hG (xs (i + 1).toNatClampNeg) (xs (i + 2).toNatClampNeg)) ckX11_job cvX11_job (Uw_of (inT3 _ (List.mem_of_getElem? (i := 227) rfl)) rfl) ⟨rfl, rfl, (Nat.le_of_ble_eq_true rfl), (Nat.le_of_ble_eq_true rfl)⟩ rfl rfl hl.1 rfl (Nat.le_of_ble_eq_true rfl) dl_487 ⟨(Nat.le_of_ble_eq_true rfl), (Nat.le_of_ble_eq_true rfl)⟩ (fun r1 τ1 H locs q1 hR => ?_)
  refine lv_pop (pc := 490) hx hb dl_490 rfl ?_
  refine lv_aload_n (pc := 491) hx hb dl_491 rfl (lv_at hl 3 rfl) ?_
  refine lv_aload_n (pc := 492) hx hb dl_492 rfl (lv_at hl 1 rfl) ?_
  refine lv_iload_n (pc := 493) hx hb dl_493 rfl (lv_at hl 0 rfl) ?_
  refine lv_iconst (pc := 494) (v := 1) hx hb dl_494 (by decide) ?_
  refine lv_iadd (pc := 495) hx hb dl_495 ?_
  refine va_sld (pc := 496) hx hb hX0 hbl hbA hR.2.2 h1 dl_496 ?_
  refine lv_aload_n (pc := 497) hx hb dl_497 rfl (lv_at hl 1 rfl) ?_
  refine lv_iload_n (pc := 498) hx hb dl_498 rfl (lv_at hl 0 rfl) ?_
  refine lv_iconst (pc := 499) (v := 2) hx hb dl_499 (by decide) ?_
  refine lv_iadd (pc := 500) hx hb dl_500 ?_
  refine va_sld (pc := 501) hx hb hX0 hbl hbA hR.2.2 h2 dl_501 ?_
  refine l2_call (pc := 502) (As := [.int (xs (i + 1).toNatClampNeg), .int (xs (i + 2).toNatClampNeg)]) (n := 2) E hR (m12_job l w2 hI2 (xs (i + 1).toNatClampNeg) (xs (i + 2).toNatClampNeg) q1.2) ckX12_job cvX12_job (Uw_of (inT6 _ (List.mem_of_getElem? (i := 50) rfl)) rfl) ⟨rfl, rfl, (Nat.le_of_ble_eq_true rfl), (Nat.le_of_ble_eq_true rfl)⟩ rfl rfl hl.1 rfl (Nat.le_of_ble_eq_true rfl) dl_502 ⟨(Nat.le_of_ble_eq_true rfl), (Nat.le_of_ble_eq_true rfl)⟩ (fun r2 τ2 H locs q2 hR => ?_)
  refine lv_pop (pc := 505) hx hb dl_505 rfl ?_
  refine lv_goto (pc := 506) (tgt := 719) hx hb dl_506 (by decide) ?_
  exact next _ _ _ _ hR ⟨q1.1, q2.2⟩
set_option maxHeartbeats 4000000 in
theorem lc_at {p : Program} {e : Env} {s : State} {m : MethodId} {args : Array Value} {below : List Frame} {meth : Method} {c : Code} (l : Launch) {w1 w2 : Wd} {b L : Nat} {xs : Nat → Int32} {Q : State → Prop} (E : Lx w1 w2 b L xs p s m args meth c) {i : Int32} (h1 : vp_in (i + 1) L) (h2 : vp_in (i + 2) L) (h3 : vp_in (i + 3) L) {σ1 σ2 : St} {H : Heap} {locs : List Loc} {ls : Array Slot} (hl : lv_has ls 4 [(3, .int i), (0, .ref b), (1, .ref (w1.2.1 0)), (2, .ref (w2.2.1 0))]) (hR : Rl w1 w2 σ1 σ2 s H locs) (hG : GI σ1 σ2) (next : ∀ (τ1 τ2 : St) (H1 : Heap) (locs1 : List Loc), Rl w1 w2 τ1 τ2 s H1 locs1 → GI τ1 τ2 → W p l e room_1 s m args below meth c H1 locs1 261 46861 Q (F0 m 719 ls [])) : W p l e room_1 s m args below meth c H locs 261 46861 Q (F0 m 509 ls []) := by
  obtain ⟨hx, hb, hml, hown, hts, hX0, hbl, hK1, hK2, hX1, hA1, hA2, hdis, hI1, hI2⟩ := id E
  have hbA : ¬ An s.heap.size b := fun z => absurd hbl (Nat.not_lt.mpr z)
  refine lv_aload_n (pc := 509) hx hb dl_509 rfl (lv_at hl 2 rfl) ?_
  refine lv_aload_n (pc := 510) hx hb dl_510 rfl (lv_at hl 1 rfl) ?_
  refine lv_iload_n (pc := 511) hx hb dl_511 rfl (lv_at hl 0 rfl) ?_
  refine lv_iconst (pc := 512) (v := 1) hx hb dl_512 (by decide) ?_
  refine lv_iadd (pc := 513) hx hb dl_513 ?_
  refine va_sld (pc := 514) hx hb hX0 hbl hbA hR.2.2 h1 dl_514 ?_
  refine l1_call (pc := 515) (As := [.int (xs (i + 1).toNatClampNeg)]) (n := 1) E hR (m11_at l w1 hI1 hG (xs (i + 1).toNatClampNeg)) ckX11_at cvX11_at (Uw_of (inT4 _ (List.mem_of_getElem? (i := 0) rfl)) rfl) ⟨rfl, rfl, (Nat.le_of_ble_eq_true rfl), (Nat.le_of_ble_eq_true rfl)⟩ rfl rfl hl.1 rfl (Nat.le_of_ble_eq_true rfl) dl_515 ⟨(Nat.le_of_ble_eq_true rfl), (Nat.le_of_ble_eq_true rfl)⟩ (fun r1 τ1 H locs q1 hR => ?_)
  refine lv_pop (pc := 518) hx hb dl_518 rfl ?_
  refine lv_aload_n (pc := 519) hx hb dl_519 rfl (lv_at hl 3 rfl) ?_
  refine lv_aload_n (pc := 520) hx hb dl_520 rfl (lv_at hl 1 rfl) ?_
  refine lv_iload_n (pc := 521) hx hb dl_521 rfl (lv_at hl 0 rfl) ?_
  refine lv_iconst (pc := 522) (v := 1) hx hb dl_522 (by decide) ?_
  refine lv_iadd (pc := 523) hx hb dl_523 ?_
  refine va_sld (pc := 524) hx hb hX0 hbl hbA hR.2.2 h1 dl_524 ?_
  refine l2_call (pc := 525) (As := [.int (xs (i + 1).toNatClampNeg)]) (n := 1) E hR (m12_at l w2 hI2 (xs (i + 1).toNatClampNeg) q1.2) ckX12_at cvX12_at (Uw_of (inT6 _ (List.mem_of_getElem? (i := 54) rfl)) rfl) ⟨rfl, rfl, (Nat.le_of_ble_eq_true rfl), (Nat.le_of_ble_eq_true rfl)⟩ rfl rfl hl.1 rfl (Nat.le_of_ble_eq_true rfl) dl_525 ⟨(Nat.le_of_ble_eq_true rfl), (Nat.le_of_ble_eq_true rfl)⟩ (fun r2 τ2 H locs q2 hR => ?_)
  refine lv_pop (pc := 528) hx hb dl_528 rfl ?_
  refine lv_goto (pc := 529) (tgt := 719) hx hb dl_529 (by decide) ?_
  exact next _ _ _ _ hR ⟨q1.1, q2.2⟩
set_option maxHeartbeats 4000000 in
theorem lc_clear {p : Program} {e : Env} {s : State} {m : MethodId} {args : Array Value} {below : List Frame} {meth : Method} {c : Code} (l : Launch) {w1 w2 : Wd} {b L : Nat} {xs : Nat → Int32} {Q : State → Prop} (E : Lx w1 w2 b L xs p s m args meth c) {i : Int32} (h1 : vp_in (i + 1) L) (h2 : vp_in (i + 2) L) (h3 : vp_in (i + 3) L) {σ1 σ2 : St} {H : Heap} {locs : List Loc} {ls : Array Slot} (hl : lv_has ls 4 [(3, .int i), (0, .ref b), (1, .ref (w1.2.1 0)), (2, .ref (w2.2.1 0))]) (hR : Rl w1 w2 σ1 σ2 s H locs) (hG : GI σ1 σ2) (next : ∀ (τ1 τ2 : St) (H1 : Heap) (locs1 : List Loc), Rl w1 w2 τ1 τ2 s H1 locs1 → GI τ1 τ2 → W p l e room_1 s m args below meth c H1 locs1 261 46861 Q (F0 m 719 ls [])) : W p l e room_1 s m args below meth c H locs 261 46861 Q (F0 m 532 ls []) := by
  obtain ⟨hx, hb, hml, hown, hts, hX0, hbl, hK1, hK2, hX1, hA1, hA2, hdis, hI1, hI2⟩ := id E
  have hbA : ¬ An s.heap.size b := fun z => absurd hbl (Nat.not_lt.mpr z)
  refine lv_aload_n (pc := 532) hx hb dl_532 rfl (lv_at hl 2 rfl) ?_
  refine l1_call (pc := 533) (As := []) (n := 0) E hR (m11_clear l w1 hI1 hG ) ckX11_clear cvX11_clear (Uw_of (inT4 _ (List.mem_of_getElem? (i := 4) rfl)) rfl) ⟨rfl, rfl, (Nat.le_of_ble_eq_true rfl), (Nat.le_of_ble_eq_true rfl)⟩ rfl rfl hl.1 rfl (Nat.le_of_ble_eq_true rfl) dl_533 ⟨(Nat.le_of_ble_eq_true rfl), (Nat.le_of_ble_eq_true rfl)⟩ (fun r1 τ1 H locs q1 hR => ?_)
  refine lv_pop (pc := 536) hx hb dl_536 rfl ?_
  refine lv_aload_n (pc := 537) hx hb dl_537 rfl (lv_at hl 3 rfl) ?_
  refine l2_call (pc := 538) (As := []) (n := 0) E hR (m12_clear l w2 hI2  q1.2) ckX12_clear cvX12_clear (Uw_of (inT6 _ (List.mem_of_getElem? (i := 58) rfl)) rfl) ⟨rfl, rfl, (Nat.le_of_ble_eq_true rfl), (Nat.le_of_ble_eq_true rfl)⟩ rfl rfl hl.1 rfl (Nat.le_of_ble_eq_true rfl) dl_538 ⟨(Nat.le_of_ble_eq_true rfl), (Nat.le_of_ble_eq_true rfl)⟩ (fun r2 τ2 H locs q2 hR => ?_)
  refine lv_pop (pc := 541) hx hb dl_541 rfl ?_
  refine lv_goto (pc := 542) (tgt := 719) hx hb dl_542 (by decide) ?_
  exact next _ _ _ _ hR ⟨q1.1, q2.2⟩
set_option maxHeartbeats 4000000 in
theorem lc_told {p : Program} {e : Env} {s : State} {m : MethodId} {args : Array Value} {below : List Frame} {meth : Method} {c : Code} (l : Launch) {w1 w2 : Wd} {b L : Nat} {xs : Nat → Int32} {Q : State → Prop} (E : Lx w1 w2 b L xs p s m args meth c) {i : Int32} (h1 : vp_in (i + 1) L) (h2 : vp_in (i + 2) L) (h3 : vp_in (i + 3) L) {σ1 σ2 : St} {H : Heap} {locs : List Loc} {ls : Array Slot} (hl : lv_has ls 4 [(3, .int i), (0, .ref b), (1, .ref (w1.2.1 0)), (2, .ref (w2.2.1 0))]) (hR : Rl w1 w2 σ1 σ2 s H locs) (hG : GI σ1 σ2) (next : ∀ (τ1 τ2 : St) (H1 : Heap) (locs1 : List Loc), Rl w1 w2 τ1 τ2 s H1 locs1 → GI τ1 τ2 → W p l e room_1 s m args below meth c H1 locs1 261 46861 Q (F0 m 719 ls [])) : W p l e room_1 s m args below meth c H locs 261 46861 Q (F0 m 545 ls []) := by
  obtain ⟨hx, hb, hml, hown, hts, hX0, hbl, hK1, hK2, hX1, hA1, hA2, hdis, hI1, hI2⟩ := id E
  have hbA : ¬ An s.heap.size b := fun z => absurd hbl (Nat.not_lt.mpr z)
  refine lv_aload_n (pc := 545) hx hb dl_545 rfl (lv_at hl 2 rfl) ?_
  refine lv_aload_n (pc := 546) hx hb dl_546 rfl (lv_at hl 1 rfl) ?_
  refine lv_iload_n (pc := 547) hx hb dl_547 rfl (lv_at hl 0 rfl) ?_
  refine lv_iconst (pc := 548) (v := 1) hx hb dl_548 (by decide) ?_
  refine lv_iadd (pc := 549) hx hb dl_549 ?_
  refine va_sld (pc := 550) hx hb hX0 hbl hbA hR.2.2 h1 dl_550 ?_
  refine l1_call (pc := 551) (As := [.int (xs (i + 1).toNatClampNeg)]) (n := 1) E hR (m11_told l w1 hI1 hG (xs (i + 1).toNatClampNeg)) ckX11_told cvX11_told (Uw_of (inT4 _ (List.mem_of_getElem? (i := 8) rfl)) rfl) ⟨rfl, rfl, (Nat.le_of_ble_eq_true rfl), (Nat.le_of_ble_eq_true rfl)⟩ rfl rfl hl.1 rfl (Nat.le_of_ble_eq_true rfl) dl_551 ⟨(Nat.le_of_ble_eq_true rfl), (Nat.le_of_ble_eq_true rfl)⟩ (fun r1 τ1 H locs q1 hR => ?_)
  refine lv_pop (pc := 554) hx hb dl_554 rfl ?_
  refine lv_aload_n (pc := 555) hx hb dl_555 rfl (lv_at hl 3 rfl) ?_
  refine lv_aload_n (pc := 556) hx hb dl_556 rfl (lv_at hl 1 rfl) ?_
  refine lv_iload_n (pc := 557) hx hb dl_557 rfl (lv_at hl 0 rfl) ?_
  refine lv_iconst (pc := 558) (v := 1) hx hb dl_558 (by decide) ?_
  refine lv_iadd (pc := 559) hx hb dl_559 ?_
  refine va_sld (pc := 560) hx hb hX0 hbl hbA hR.2.2 h1 dl_560 ?_
  refine l2_call (pc := 561) (As := [.int (xs (i + 1).toNatClampNeg)]) (n := 1) E hR (m12_told l w2 hI2 (xs (i + 1).toNatClampNeg) q1.2) ckX12_told cvX12_told (Uw_of (inT6 _ (List.mem_of_getElem? (i := 62) rfl)) rfl) ⟨rfl, rfl, (Nat.le_of_ble_eq_true rfl), (Nat.le_of_ble_eq_true rfl)⟩ rfl rfl hl.1 rfl (Nat.le_of_ble_eq_true rfl) dl_561 ⟨(Nat.le_of_ble_eq_true rfl), (Nat.le_of_ble_eq_true rfl)⟩ (fun r2 τ2 H locs q2 hR => ?_)
  refine lv_pop (pc := 564) hx hb dl_564 rfl ?_
  refine lv_goto (pc := 565) (tgt := 719) hx hb dl_565 (by decide) ?_
  exact next _ _ _ _ hR ⟨q1.1, q2.2⟩
set_option maxHeartbeats 4000000 in
theorem lc_sign {p : Program} {e : Env} {s : State} {m : MethodId} {args : Array Value} {below : List Frame} {meth : Method} {c : Code} (l : Launch) {w1 w2 : Wd} {b L : Nat} {xs : Nat → Int32} {Q : State → Prop} (E : Lx w1 w2 b L xs p s m args meth c) {i : Int32} (h1 : vp_in (i + 1) L) (h2 : vp_in (i + 2) L) (h3 : vp_in (i + 3) L) {σ1 σ2 : St} {H : Heap} {locs : List Loc} {ls : Array Slot} (hl : lv_has ls 4 [(3, .int i), (0, .ref b), (1, .ref (w1.2.1 0)), (2, .ref (w2.2.1 0))]) (hR : Rl w1 w2 σ1 σ2 s H locs) (hG : GI σ1 σ2) (next : ∀ (τ1 τ2 : St) (H1 : Heap) (locs1 : List Loc), Rl w1 w2 τ1 τ2 s H1 locs1 → GI τ1 τ2 → W p l e room_1 s m args below meth c H1 locs1 261 46861 Q (F0 m 719 ls [])) : W p l e room_1 s m args below meth c H locs 261 46861 Q (F0 m 568 ls []) := by
  obtain ⟨hx, hb, hml, hown, hts, hX0, hbl, hK1, hK2, hX1, hA1, hA2, hdis, hI1, hI2⟩ := id E
  have hbA : ¬ An s.heap.size b := fun z => absurd hbl (Nat.not_lt.mpr z)
  refine lv_aload_n (pc := 568) hx hb dl_568 rfl (lv_at hl 2 rfl) ?_
  refine lv_aload_n (pc := 569) hx hb dl_569 rfl (lv_at hl 1 rfl) ?_
  refine lv_iload_n (pc := 570) hx hb dl_570 rfl (lv_at hl 0 rfl) ?_
  refine lv_iconst (pc := 571) (v := 1) hx hb dl_571 (by decide) ?_
  refine lv_iadd (pc := 572) hx hb dl_572 ?_
  refine va_sld (pc := 573) hx hb hX0 hbl hbA hR.2.2 h1 dl_573 ?_
  refine l1_call (pc := 574) (As := [.int (xs (i + 1).toNatClampNeg)]) (n := 1) E hR (m11_sign l w1 hI1 hG (xs (i + 1).toNatClampNeg)) ckX11_sign cvX11_sign (Uw_of (inT4 _ (List.mem_of_getElem? (i := 16) rfl)) rfl) ⟨rfl, rfl, (Nat.le_of_ble_eq_true rfl), (Nat.le_of_ble_eq_true rfl)⟩ rfl rfl hl.1 rfl (Nat.le_of_ble_eq_true rfl) dl_574 ⟨(Nat.le_of_ble_eq_true rfl), (Nat.le_of_ble_eq_true rfl)⟩ (fun r1 τ1 H locs q1 hR => ?_)
  refine lv_pop (pc := 577) hx hb dl_577 rfl ?_
  refine lv_aload_n (pc := 578) hx hb dl_578 rfl (lv_at hl 3 rfl) ?_
  refine lv_aload_n (pc := 579) hx hb dl_579 rfl (lv_at hl 1 rfl) ?_
  refine lv_iload_n (pc := 580) hx hb dl_580 rfl (lv_at hl 0 rfl) ?_
  refine lv_iconst (pc := 581) (v := 1) hx hb dl_581 (by decide) ?_
  refine lv_iadd (pc := 582) hx hb dl_582 ?_
  refine va_sld (pc := 583) hx hb hX0 hbl hbA hR.2.2 h1 dl_583 ?_
  refine l2_call (pc := 584) (As := [.int (xs (i + 1).toNatClampNeg)]) (n := 1) E hR (m12_sign l w2 hI2 (xs (i + 1).toNatClampNeg) q1.2) ckX12_sign cvX12_sign (Uw_of (inT6 _ (List.mem_of_getElem? (i := 66) rfl)) rfl) ⟨rfl, rfl, (Nat.le_of_ble_eq_true rfl), (Nat.le_of_ble_eq_true rfl)⟩ rfl rfl hl.1 rfl (Nat.le_of_ble_eq_true rfl) dl_584 ⟨(Nat.le_of_ble_eq_true rfl), (Nat.le_of_ble_eq_true rfl)⟩ (fun r2 τ2 H locs q2 hR => ?_)
  refine lv_pop (pc := 587) hx hb dl_587 rfl ?_
  refine lv_goto (pc := 588) (tgt := 719) hx hb dl_588 (by decide) ?_
  exact next _ _ _ _ hR ⟨q1.1, q2.2⟩
set_option maxHeartbeats 4000000 in
theorem lc_piece {p : Program} {e : Env} {s : State} {m : MethodId} {args : Array Value} {below : List Frame} {meth : Method} {c : Code} (l : Launch) {w1 w2 : Wd} {b L : Nat} {xs : Nat → Int32} {Q : State → Prop} (E : Lx w1 w2 b L xs p s m args meth c) {i : Int32} (h1 : vp_in (i + 1) L) (h2 : vp_in (i + 2) L) (h3 : vp_in (i + 3) L) {σ1 σ2 : St} {H : Heap} {locs : List Loc} {ls : Array Slot} (hl : lv_has ls 4 [(3, .int i), (0, .ref b), (1, .ref (w1.2.1 0)), (2, .ref (w2.2.1 0))]) (hR : Rl w1 w2 σ1 σ2 s H locs) (hG : GI σ1 σ2) (next : ∀ (τ1 τ2 : St) (H1 : Heap) (locs1 : List Loc), Rl w1 w2 τ1 τ2 s H1 locs1 → GI τ1 τ2 → W p l e room_1 s m args below meth c H1 locs1 261 46861 Q (F0 m 719 ls [])) : W p l e room_1 s m args below meth c H locs 261 46861 Q (F0 m 591 ls []) := by
  obtain ⟨hx, hb, hml, hown, hts, hX0, hbl, hK1, hK2, hX1, hA1, hA2, hdis, hI1, hI2⟩ := id E
  have hbA : ¬ An s.heap.size b := fun z => absurd hbl (Nat.not_lt.mpr z)
  refine lv_aload_n (pc := 591) hx hb dl_591 rfl (lv_at hl 2 rfl) ?_
  refine lv_aload_n (pc := 592) hx hb dl_592 rfl (lv_at hl 1 rfl) ?_
  refine lv_iload_n (pc := 593) hx hb dl_593 rfl (lv_at hl 0 rfl) ?_
  refine lv_iconst (pc := 594) (v := 1) hx hb dl_594 (by decide) ?_
  refine lv_iadd (pc := 595) hx hb dl_595 ?_
  refine va_sld (pc := 596) hx hb hX0 hbl hbA hR.2.2 h1 dl_596 ?_
  refine l1_call (pc := 597) (As := [.int (xs (i + 1).toNatClampNeg)]) (n := 1) E hR (m11_piece l w1 hI1 hG (xs (i + 1).toNatClampNeg)) ckX11_piece cvX11_piece (Uw_of (inT4 _ (List.mem_of_getElem? (i := 20) rfl)) rfl) ⟨rfl, rfl, (Nat.le_of_ble_eq_true rfl), (Nat.le_of_ble_eq_true rfl)⟩ rfl rfl hl.1 rfl (Nat.le_of_ble_eq_true rfl) dl_597 ⟨(Nat.le_of_ble_eq_true rfl), (Nat.le_of_ble_eq_true rfl)⟩ (fun r1 τ1 H locs q1 hR => ?_)
  refine lv_pop (pc := 600) hx hb dl_600 rfl ?_
  refine lv_aload_n (pc := 601) hx hb dl_601 rfl (lv_at hl 3 rfl) ?_
  refine lv_aload_n (pc := 602) hx hb dl_602 rfl (lv_at hl 1 rfl) ?_
  refine lv_iload_n (pc := 603) hx hb dl_603 rfl (lv_at hl 0 rfl) ?_
  refine lv_iconst (pc := 604) (v := 1) hx hb dl_604 (by decide) ?_
  refine lv_iadd (pc := 605) hx hb dl_605 ?_
  refine va_sld (pc := 606) hx hb hX0 hbl hbA hR.2.2 h1 dl_606 ?_
  refine l2_call (pc := 607) (As := [.int (xs (i + 1).toNatClampNeg)]) (n := 1) E hR (m12_piece l w2 hI2 (xs (i + 1).toNatClampNeg) q1.2) ckX12_piece cvX12_piece (Uw_of (inT6 _ (List.mem_of_getElem? (i := 70) rfl)) rfl) ⟨rfl, rfl, (Nat.le_of_ble_eq_true rfl), (Nat.le_of_ble_eq_true rfl)⟩ rfl rfl hl.1 rfl (Nat.le_of_ble_eq_true rfl) dl_607 ⟨(Nat.le_of_ble_eq_true rfl), (Nat.le_of_ble_eq_true rfl)⟩ (fun r2 τ2 H locs q2 hR => ?_)
  refine lv_pop (pc := 610) hx hb dl_610 rfl ?_
  refine lv_goto (pc := 611) (tgt := 719) hx hb dl_611 (by decide) ?_
  exact next _ _ _ _ hR ⟨q1.1, q2.2⟩
set_option maxHeartbeats 4000000 in
theorem lc_text {p : Program} {e : Env} {s : State} {m : MethodId} {args : Array Value} {below : List Frame} {meth : Method} {c : Code} (l : Launch) {w1 w2 : Wd} {b L : Nat} {xs : Nat → Int32} {Q : State → Prop} (E : Lx w1 w2 b L xs p s m args meth c) {i : Int32} (h1 : vp_in (i + 1) L) (h2 : vp_in (i + 2) L) (h3 : vp_in (i + 3) L) {σ1 σ2 : St} {H : Heap} {locs : List Loc} {ls : Array Slot} (hl : lv_has ls 4 [(3, .int i), (0, .ref b), (1, .ref (w1.2.1 0)), (2, .ref (w2.2.1 0))]) (hR : Rl w1 w2 σ1 σ2 s H locs) (hG : GI σ1 σ2) (next : ∀ (τ1 τ2 : St) (H1 : Heap) (locs1 : List Loc), Rl w1 w2 τ1 τ2 s H1 locs1 → GI τ1 τ2 → W p l e room_1 s m args below meth c H1 locs1 261 46861 Q (F0 m 719 ls [])) : W p l e room_1 s m args below meth c H locs 261 46861 Q (F0 m 614 ls []) := by
  obtain ⟨hx, hb, hml, hown, hts, hX0, hbl, hK1, hK2, hX1, hA1, hA2, hdis, hI1, hI2⟩ := id E
  have hbA : ¬ An s.heap.size b := fun z => absurd hbl (Nat.not_lt.mpr z)
  refine lv_aload_n (pc := 614) hx hb dl_614 rfl (lv_at hl 2 rfl) ?_
  refine l1_call (pc := 615) (As := []) (n := 0) E hR (m11_text l w1 hI1 hG ) ckX11_text cvX11_text (Uw_of (inT4 _ (List.mem_of_getElem? (i := 34) rfl)) rfl) ⟨rfl, rfl, (Nat.le_of_ble_eq_true rfl), (Nat.le_of_ble_eq_true rfl)⟩ rfl rfl hl.1 rfl (Nat.le_of_ble_eq_true rfl) dl_615 ⟨(Nat.le_of_ble_eq_true rfl), (Nat.le_of_ble_eq_true rfl)⟩ (fun r1 τ1 H locs q1 hR => ?_)
  refine lv_pop (pc := 618) hx hb dl_618 rfl ?_
  refine lv_aload_n (pc := 619) hx hb dl_619 rfl (lv_at hl 3 rfl) ?_
  refine l2_call (pc := 620) (As := []) (n := 0) E hR (m12_text l w2 hI2  q1.2) ckX12_text cvX12_text (Uw_of (inT6 _ (List.mem_of_getElem? (i := 75) rfl)) rfl) ⟨rfl, rfl, (Nat.le_of_ble_eq_true rfl), (Nat.le_of_ble_eq_true rfl)⟩ rfl rfl hl.1 rfl (Nat.le_of_ble_eq_true rfl) dl_620 ⟨(Nat.le_of_ble_eq_true rfl), (Nat.le_of_ble_eq_true rfl)⟩ (fun r2 τ2 H locs q2 hR => ?_)
  refine lv_pop (pc := 623) hx hb dl_623 rfl ?_
  refine lv_goto (pc := 624) (tgt := 719) hx hb dl_624 (by decide) ?_
  exact next _ _ _ _ hR ⟨q1.1, q2.2⟩
set_option maxHeartbeats 4000000 in
theorem lc_tree {p : Program} {e : Env} {s : State} {m : MethodId} {args : Array Value} {below : List Frame} {meth : Method} {c : Code} (l : Launch) {w1 w2 : Wd} {b L : Nat} {xs : Nat → Int32} {Q : State → Prop} (E : Lx w1 w2 b L xs p s m args meth c) {i : Int32} (h1 : vp_in (i + 1) L) (h2 : vp_in (i + 2) L) (h3 : vp_in (i + 3) L) {σ1 σ2 : St} {H : Heap} {locs : List Loc} {ls : Array Slot} (hl : lv_has ls 4 [(3, .int i), (0, .ref b), (1, .ref (w1.2.1 0)), (2, .ref (w2.2.1 0))]) (hR : Rl w1 w2 σ1 σ2 s H locs) (hG : GI σ1 σ2) (next : ∀ (τ1 τ2 : St) (H1 : Heap) (locs1 : List Loc), Rl w1 w2 τ1 τ2 s H1 locs1 → GI τ1 τ2 → W p l e room_1 s m args below meth c H1 locs1 261 46861 Q (F0 m 719 ls [])) : W p l e room_1 s m args below meth c H locs 261 46861 Q (F0 m 627 ls []) := by
  obtain ⟨hx, hb, hml, hown, hts, hX0, hbl, hK1, hK2, hX1, hA1, hA2, hdis, hI1, hI2⟩ := id E
  have hbA : ¬ An s.heap.size b := fun z => absurd hbl (Nat.not_lt.mpr z)
  refine lv_aload_n (pc := 627) hx hb dl_627 rfl (lv_at hl 2 rfl) ?_
  refine lv_aload_n (pc := 628) hx hb dl_628 rfl (lv_at hl 1 rfl) ?_
  refine lv_iload_n (pc := 629) hx hb dl_629 rfl (lv_at hl 0 rfl) ?_
  refine lv_iconst (pc := 630) (v := 1) hx hb dl_630 (by decide) ?_
  refine lv_iadd (pc := 631) hx hb dl_631 ?_
  refine va_sld (pc := 632) hx hb hX0 hbl hbA hR.2.2 h1 dl_632 ?_
  refine l1_call (pc := 633) (As := [.int (xs (i + 1).toNatClampNeg)]) (n := 1) E hR (m11_tree l w1 hI1 hG (xs (i + 1).toNatClampNeg)) ckX11_tree cvX11_tree (Uw_of (inT4 _ (List.mem_of_getElem? (i := 54) rfl)) rfl) ⟨rfl, rfl, (Nat.le_of_ble_eq_true rfl), (Nat.le_of_ble_eq_true rfl)⟩ rfl rfl hl.1 rfl (Nat.le_of_ble_eq_true rfl) dl_633 ⟨(Nat.le_of_ble_eq_true rfl), (Nat.le_of_ble_eq_true rfl)⟩ (fun r1 τ1 H locs q1 hR => ?_)
  refine lv_pop (pc := 636) hx hb dl_636 rfl ?_
  refine lv_aload_n (pc := 637) hx hb dl_637 rfl (lv_at hl 3 rfl) ?_
  refine lv_aload_n (pc := 638) hx hb dl_638 rfl (lv_at hl 1 rfl) ?_
  refine lv_iload_n (pc := 639) hx hb dl_639 rfl (lv_at hl 0 rfl) ?_
  refine lv_iconst (pc := 640) (v := 1) hx hb dl_640 (by decide) ?_
  refine lv_iadd (pc := 641) hx hb dl_641 ?_
  refine va_sld (pc := 642) hx hb hX0 hbl hbA hR.2.2 h1 dl_642 ?_
  refine l2_call (pc := 643) (As := [.int (xs (i + 1).toNatClampNeg)]) (n := 1) E hR (m12_tree l w2 hI2 (xs (i + 1).toNatClampNeg) q1.2) ckX12_tree cvX12_tree (Uw_of (inT6 _ (List.mem_of_getElem? (i := 87) rfl)) rfl) ⟨rfl, rfl, (Nat.le_of_ble_eq_true rfl), (Nat.le_of_ble_eq_true rfl)⟩ rfl rfl hl.1 rfl (Nat.le_of_ble_eq_true rfl) dl_643 ⟨(Nat.le_of_ble_eq_true rfl), (Nat.le_of_ble_eq_true rfl)⟩ (fun r2 τ2 H locs q2 hR => ?_)
  refine lv_pop (pc := 646) hx hb dl_646 rfl ?_
  refine lv_goto (pc := 647) (tgt := 719) hx hb dl_647 (by decide) ?_
  exact next _ _ _ _ hR ⟨q1.1, q2.2⟩
set_option maxHeartbeats 4000000 in
theorem lc_laid {p : Program} {e : Env} {s : State} {m : MethodId} {args : Array Value} {below : List Frame} {meth : Method} {c : Code} (l : Launch) {w1 w2 : Wd} {b L : Nat} {xs : Nat → Int32} {Q : State → Prop} (E : Lx w1 w2 b L xs p s m args meth c) {i : Int32} (h1 : vp_in (i + 1) L) (h2 : vp_in (i + 2) L) (h3 : vp_in (i + 3) L) {σ1 σ2 : St} {H : Heap} {locs : List Loc} {ls : Array Slot} (hl : lv_has ls 4 [(3, .int i), (0, .ref b), (1, .ref (w1.2.1 0)), (2, .ref (w2.2.1 0))]) (hR : Rl w1 w2 σ1 σ2 s H locs) (hG : GI σ1 σ2) (next : ∀ (τ1 τ2 : St) (H1 : Heap) (locs1 : List Loc), Rl w1 w2 τ1 τ2 s H1 locs1 → GI τ1 τ2 → W p l e room_1 s m args below meth c H1 locs1 261 46861 Q (F0 m 719 ls [])) : W p l e room_1 s m args below meth c H locs 261 46861 Q (F0 m 650 ls []) := by
  obtain ⟨hx, hb, hml, hown, hts, hX0, hbl, hK1, hK2, hX1, hA1, hA2, hdis, hI1, hI2⟩ := id E
  have hbA : ¬ An s.heap.size b := fun z => absurd hbl (Nat.not_lt.mpr z)
  refine lv_aload_n (pc := 650) hx hb dl_650 rfl (lv_at hl 2 rfl) ?_
  refine lv_aload_n (pc := 651) hx hb dl_651 rfl (lv_at hl 1 rfl) ?_
  refine lv_iload_n (pc := 652) hx hb dl_652 rfl (lv_at hl 0 rfl) ?_
  refine lv_iconst (pc := 653) (v := 1) hx hb dl_653 (by decide) ?_
  refine lv_iadd (pc := 654) hx hb dl_654 ?_
  refine va_sld (pc := 655) hx hb hX0 hbl hbA hR.2.2 h1 dl_655 ?_
  refine lv_aload_n (pc := 656) hx hb dl_656 rfl (lv_at hl 1 rfl) ?_
  refine lv_iload_n (pc := 657) hx hb dl_657 rfl (lv_at hl 0 rfl) ?_
  refine lv_iconst (pc := 658) (v := 2) hx hb dl_658 (by decide) ?_
  refine lv_iadd (pc := 659) hx hb dl_659 ?_
  refine va_sld (pc := 660) hx hb hX0 hbl hbA hR.2.2 h2 dl_660 ?_
  refine l1_call (pc := 661) (As := [.int (xs (i + 1).toNatClampNeg), .int (xs (i + 2).toNatClampNeg)]) (n := 2) E hR (m11_laid l w1 hI1 hG (xs (i + 1).toNatClampNeg) (xs (i + 2).toNatClampNeg)) ckX11_laid cvX11_laid (Uw_of (inT4 _ (List.mem_of_getElem? (i := 160) rfl)) rfl) ⟨rfl, rfl, (Nat.le_of_ble_eq_true rfl), (Nat.le_of_ble_eq_true rfl)⟩ rfl rfl hl.1 rfl (Nat.le_of_ble_eq_true rfl) dl_661 ⟨(Nat.le_of_ble_eq_true rfl), (Nat.le_of_ble_eq_true rfl)⟩ (fun r1 τ1 H locs q1 hR => ?_)
  refine lv_pop (pc := 664) hx hb dl_664 rfl ?_
  refine lv_aload_n (pc := 665) hx hb dl_665 rfl (lv_at hl 3 rfl) ?_
  refine lv_aload_n (pc := 666) hx hb dl_666 rfl (lv_at hl 1 rfl) ?_
  refine lv_iload_n (pc := 667) hx hb dl_667 rfl (lv_at hl 0 rfl) ?_
  refine lv_iconst (pc := 668) (v := 1) hx hb dl_668 (by decide) ?_
  refine lv_iadd (pc := 669) hx hb dl_669 ?_
  refine va_sld (pc := 670) hx hb hX0 hbl hbA hR.2.2 h1 dl_670 ?_
  refine lv_aload_n (pc := 671) hx hb dl_671 rfl (lv_at hl 1 rfl) ?_
  refine lv_iload_n (pc := 672) hx hb dl_672 rfl (lv_at hl 0 rfl) ?_
  refine lv_iconst (pc := 673) (v := 2) hx hb dl_673 (by decide) ?_
  refine lv_iadd (pc := 674) hx hb dl_674 ?_
  refine va_sld (pc := 675) hx hb hX0 hbl hbA hR.2.2 h2 dl_675 ?_
  refine l2_call (pc := 676) (As := [.int (xs (i + 1).toNatClampNeg), .int (xs (i + 2).toNatClampNeg)]) (n := 2) E hR (m12_laid l w2 hI2 (xs (i + 1).toNatClampNeg) (xs (i + 2).toNatClampNeg) q1.2) ckX12_laid cvX12_laid (Uw_of (inT6 _ (List.mem_of_getElem? (i := 123) rfl)) rfl) ⟨rfl, rfl, (Nat.le_of_ble_eq_true rfl), (Nat.le_of_ble_eq_true rfl)⟩ rfl rfl hl.1 rfl (Nat.le_of_ble_eq_true rfl) dl_676 ⟨(Nat.le_of_ble_eq_true rfl), (Nat.le_of_ble_eq_true rfl)⟩ (fun r2 τ2 H locs q2 hR => ?_)
  refine lv_pop (pc := 679) hx hb dl_679 rfl ?_
  refine lv_goto (pc := 680) (tgt := 719) hx hb dl_680 (by decide) ?_
  exact next _ _ _ _ hR ⟨q1.1, q2.2⟩
set_option maxHeartbeats 4000000 in
theorem lc_bits {p : Program} {e : Env} {s : State} {m : MethodId} {args : Array Value} {below : List Frame} {meth : Method} {c : Code} (l : Launch) {w1 w2 : Wd} {b L : Nat} {xs : Nat → Int32} {Q : State → Prop} (E : Lx w1 w2 b L xs p s m args meth c) {i : Int32} (h1 : vp_in (i + 1) L) (h2 : vp_in (i + 2) L) (h3 : vp_in (i + 3) L) {σ1 σ2 : St} {H : Heap} {locs : List Loc} {ls : Array Slot} (hl : lv_has ls 4 [(3, .int i), (0, .ref b), (1, .ref (w1.2.1 0)), (2, .ref (w2.2.1 0))]) (hR : Rl w1 w2 σ1 σ2 s H locs) (hG : GI σ1 σ2) (next : ∀ (τ1 τ2 : St) (H1 : Heap) (locs1 : List Loc), Rl w1 w2 τ1 τ2 s H1 locs1 → GI τ1 τ2 → W p l e room_1 s m args below meth c H1 locs1 261 46861 Q (F0 m 719 ls [])) : W p l e room_1 s m args below meth c H locs 261 46861 Q (F0 m 683 ls []) := by
  obtain ⟨hx, hb, hml, hown, hts, hX0, hbl, hK1, hK2, hX1, hA1, hA2, hdis, hI1, hI2⟩ := id E
  have hbA : ¬ An s.heap.size b := fun z => absurd hbl (Nat.not_lt.mpr z)
  refine lv_aload_n (pc := 683) hx hb dl_683 rfl (lv_at hl 2 rfl) ?_
  refine lv_aload_n (pc := 684) hx hb dl_684 rfl (lv_at hl 1 rfl) ?_
  refine lv_iload_n (pc := 685) hx hb dl_685 rfl (lv_at hl 0 rfl) ?_
  refine lv_iconst (pc := 686) (v := 1) hx hb dl_686 (by decide) ?_
  refine lv_iadd (pc := 687) hx hb dl_687 ?_
  refine va_sld (pc := 688) hx hb hX0 hbl hbA hR.2.2 h1 dl_688 ?_
  refine l1_call (pc := 689) (As := [.int (xs (i + 1).toNatClampNeg)]) (n := 1) E hR (m11_bits l w1 hI1 hG (xs (i + 1).toNatClampNeg)) ckX11_bits cvX11_bits (Uw_of (inT4 _ (List.mem_of_getElem? (i := 164) rfl)) rfl) ⟨rfl, rfl, (Nat.le_of_ble_eq_true rfl), (Nat.le_of_ble_eq_true rfl)⟩ rfl rfl hl.1 rfl (Nat.le_of_ble_eq_true rfl) dl_689 ⟨(Nat.le_of_ble_eq_true rfl), (Nat.le_of_ble_eq_true rfl)⟩ (fun r1 τ1 H locs q1 hR => ?_)
  refine lv_pop (pc := 692) hx hb dl_692 rfl ?_
  refine lv_aload_n (pc := 693) hx hb dl_693 rfl (lv_at hl 3 rfl) ?_
  refine lv_aload_n (pc := 694) hx hb dl_694 rfl (lv_at hl 1 rfl) ?_
  refine lv_iload_n (pc := 695) hx hb dl_695 rfl (lv_at hl 0 rfl) ?_
  refine lv_iconst (pc := 696) (v := 1) hx hb dl_696 (by decide) ?_
  refine lv_iadd (pc := 697) hx hb dl_697 ?_
  refine va_sld (pc := 698) hx hb hX0 hbl hbA hR.2.2 h1 dl_698 ?_
  refine l2_call (pc := 699) (As := [.int (xs (i + 1).toNatClampNeg)]) (n := 1) E hR (m12_bits l w2 hI2 (xs (i + 1).toNatClampNeg) q1.2) ckX12_bits cvX12_bits (Uw_of (inT6 _ (List.mem_of_getElem? (i := 127) rfl)) rfl) ⟨rfl, rfl, (Nat.le_of_ble_eq_true rfl), (Nat.le_of_ble_eq_true rfl)⟩ rfl rfl hl.1 rfl (Nat.le_of_ble_eq_true rfl) dl_699 ⟨(Nat.le_of_ble_eq_true rfl), (Nat.le_of_ble_eq_true rfl)⟩ (fun r2 τ2 H locs q2 hR => ?_)
  refine lv_pop (pc := 702) hx hb dl_702 rfl ?_
  refine lv_goto (pc := 703) (tgt := 719) hx hb dl_703 (by decide) ?_
  exact next _ _ _ _ hR ⟨q1.1, q2.2⟩
set_option maxHeartbeats 4000000 in
theorem lc_forget {p : Program} {e : Env} {s : State} {m : MethodId} {args : Array Value} {below : List Frame} {meth : Method} {c : Code} (l : Launch) {w1 w2 : Wd} {b L : Nat} {xs : Nat → Int32} {Q : State → Prop} (E : Lx w1 w2 b L xs p s m args meth c) {i : Int32} (h1 : vp_in (i + 1) L) (h2 : vp_in (i + 2) L) (h3 : vp_in (i + 3) L) {σ1 σ2 : St} {H : Heap} {locs : List Loc} {ls : Array Slot} (hl : lv_has ls 4 [(3, .int i), (0, .ref b), (1, .ref (w1.2.1 0)), (2, .ref (w2.2.1 0))]) (hR : Rl w1 w2 σ1 σ2 s H locs) (hG : GI σ1 σ2) (next : ∀ (τ1 τ2 : St) (H1 : Heap) (locs1 : List Loc), Rl w1 w2 τ1 τ2 s H1 locs1 → GI τ1 τ2 → W p l e room_1 s m args below meth c H1 locs1 261 46861 Q (F0 m 719 ls [])) : W p l e room_1 s m args below meth c H locs 261 46861 Q (F0 m 706 ls []) := by
  obtain ⟨hx, hb, hml, hown, hts, hX0, hbl, hK1, hK2, hX1, hA1, hA2, hdis, hI1, hI2⟩ := id E
  have hbA : ¬ An s.heap.size b := fun z => absurd hbl (Nat.not_lt.mpr z)
  refine lv_aload_n (pc := 706) hx hb dl_706 rfl (lv_at hl 2 rfl) ?_
  refine l1_call (pc := 707) (As := []) (n := 0) E hR (m11_forget l w1 hI1 hG ) ckX11_forget cvX11_forget (Uw_of (inT4 _ (List.mem_of_getElem? (i := 168) rfl)) rfl) ⟨rfl, rfl, (Nat.le_of_ble_eq_true rfl), (Nat.le_of_ble_eq_true rfl)⟩ rfl rfl hl.1 rfl (Nat.le_of_ble_eq_true rfl) dl_707 ⟨(Nat.le_of_ble_eq_true rfl), (Nat.le_of_ble_eq_true rfl)⟩ (fun r1 τ1 H locs q1 hR => ?_)
  refine lv_aload_n (pc := 710) hx hb dl_710 rfl (lv_at hl 3 rfl) ?_
  refine l2_call (pc := 711) (As := []) (n := 0) E hR (m12_forget l w2 hI2  q1.2) ckX12_forget cvX12_forget (Uw_of (inT6 _ (List.mem_of_getElem? (i := 131) rfl)) rfl) ⟨rfl, rfl, (Nat.le_of_ble_eq_true rfl), (Nat.le_of_ble_eq_true rfl)⟩ rfl rfl hl.1 rfl (Nat.le_of_ble_eq_true rfl) dl_711 ⟨(Nat.le_of_ble_eq_true rfl), (Nat.le_of_ble_eq_true rfl)⟩ (fun r2 τ2 H locs q2 hR => ?_)
  have hB := q2.1
  refine lv_icmp_eq (pc := 714) (tgt := 719) hx hb dl_714 (by decide) (fun cq => ?_) (fun cq => absurd hB cq)
  exact next _ _ _ _ hR ⟨q1.1, q2.2⟩
