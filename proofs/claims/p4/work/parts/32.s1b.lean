set_option maxHeartbeats 4000000 in
theorem sX2_doOrder {N : Nat} (hN : 4294967400 ≤ N) {k1 : Nat} (hk1 : jobK k1) {Q : St → Prop} {σ0 σ : St} (hs3_7 : 1 ≤ (σ.1 3 7).toInt) (hσ : K1 σ0 σ) (hQ : ∀ τ : St, K1 σ0 τ → (τ.1 9 9 = σ.1 9 9 ∧ τ.1 9 10 = σ.1 9 10 ∧ τ.1 6 5 = σ.1 6 5 ∧ τ.1 7 4 = σ.1 7 4 ∧ τ.1 2 4 = σ.1 2 4) → Q τ) : fX2_doOrder N k1 Q σ := by
  unfold fX2_doOrder
  have kbhk1 := jobK_b hk1
  intro v1 ev1
  intro σ2 eσ2
  have hσ2 : K1 σ0 σ2 := by rw [eσ2]; exact hσ.u (Rg1.u_3_12 _) (by omega) (by omega)
  refine sX2_nextByte hN hσ2 (fun r15 σ3 hσ3 kk14 p16 => ?_)
  obtain ⟨k4, k5, k6, k7, k8, k9, k10, k11, k12, k13⟩ := kk14
  refine ⟨fun c17 => ?_, fun c17 => ?_⟩
  · have f18 := tB r15
    have f19 : (17 : Int32).toInt = 17 := by decide
    have f20 := Int32.le_iff_toInt_le.mp c17
    unfold fX2_doOrder_j25
    refine ⟨fun c21 => ?_, fun c21 => ?_⟩
    · have f22 := tB (σ3.1 3 11)
      have f23 : (0 : Int32).toInt = 0 := by decide
      have f24 := congrArg Int32.toInt c21
      refine ⟨fun c25 => ?_, fun c25 => ?_⟩
      · have f27 : (6 : Int32).toInt = 6 := by decide
        have f28 := congrArg Int32.toInt c25
        refine sX2_doCallOrder hN hk1 hσ3 (fun σ29 hσ29 kk38 => ?_)
        obtain ⟨k30, k31, k32, k33, k34, k35, k36, k37⟩ := kk38
        exact hQ _ hσ29 (⟨k30.trans (k6.trans ((kq (a := 9) (b := 9) eσ2 (by omega)))), k31.trans (k7.trans ((kq (a := 9) (b := 10) eσ2 (by omega)))), k32.trans (k8.trans ((kq (a := 6) (b := 5) eσ2 (by omega)))), k33.trans (k9.trans ((kq (a := 7) (b := 4) eσ2 (by omega)))), k34.trans (k10.trans ((kq (a := 2) (b := 4) eσ2 (by omega))))⟩)
      · have f40 : (6 : Int32).toInt = 6 := by decide
        have f41 := mt Int32.toInt_inj.mp c25
        have g43 : vp_in r15 18 := inI (by omega) (by omega)
        refine ⟨g43, ?_⟩
        refine ⟨fun c44 => ?_, fun c44 => ?_⟩
        · have f45 := tB (jV r15.toNatClampNeg)
          have f47 := Int32.le_iff_toInt_le.mp c44
          unfold fX2_doOrder_j62
          have g49 : vp_in r15 18 := inI (by omega) (by omega)
          refine ⟨g49, ?_⟩
          refine ⟨fun c50 => ?_, fun c50 => ?_⟩
          · have f52 : (1 : Int32).toInt = 1 := by decide
            have f53 := Int32.le_iff_toInt_le.mp c50
            unfold fX2_doOrder_j81
            have g55 : vp_in r15 18 := inI (by omega) (by omega)
            refine ⟨g55, ?_⟩
            refine ⟨fun c56 => ?_, fun c56 => ?_⟩
            · have f57 := tB (jT r15.toNatClampNeg)
              have f59 := congrArg Int32.toInt c56
              refine sX2_nextTarget hN hk1 hσ3 (fun r72 σ60 hσ60 kk71 p73 => ?_)
              obtain ⟨k61, k62, k63, k64, k65, k66, k67, k68, k69, k70⟩ := kk71
              unfold fX2_doOrder_j103
              have g75 : vp_in r15 18 := inI (by omega) (by omega)
              refine ⟨g75, ?_⟩
              refine ⟨fun c76 => ?_, fun c76 => ?_⟩
              · have f78 : (2 : Int32).toInt = 2 := by decide
                have f79 := congrArg Int32.toInt c76
                refine sX2_nextDistance hN hσ60 (fun r92 σ80 hσ80 kk91 p93 => ?_)
                obtain ⟨k81, k82, k83, k84, k85, k86, k87, k88, k89, k90⟩ := kk91
                unfold fX2_doOrder_j122
                refine ⟨fun c94 => ?_, fun c94 => ?_⟩
                · have f95 := tB (σ80.1 3 11)
                  have f97 := congrArg Int32.toInt c94
                  intro v98 ev98
                  intro σ99 eσ99
                  have kb100 := jobK_b hk1
                  have hσ99 : K1 σ0 σ99 := by rw [eσ99]; exact hσ80.u (rg_jobK hk1) (by omega) (by omega)
                  have g102 : vp_in r15 18 := inI (by omega) (by omega)
                  refine ⟨g102, ?_⟩
                  refine ⟨fun c103 => ?_, fun c103 => ?_⟩
                  · have f106 := congrArg Int32.toInt c103
                    refine sX2_valueFor hN hσ99 (fun r122 σ110 hσ110 kk121 p123 => ?_)
                    obtain ⟨k111, k112, k113, k114, k115, k116, k117, k118, k119, k120⟩ := kk121
                    refine ⟨fun c124 => ?_, fun c124 => ?_⟩
                    · have f125 := tB (σ110.1 3 11)
                      have f127 := congrArg Int32.toInt c124
                      have f128 := tB r72
                      have f129 := tB r122
                      refine sX1_setLocal hN hk1 hσ110 (fun σ130 hσ130 kk142 => ?_)
                      obtain ⟨k131, k132, k133, k134, k135, k136, k137, k138, k139, k140, k141⟩ := kk142
                      unfold fX2_doOrder_j174
                      exact hQ _ hσ130 (⟨k134.trans (k113.trans ((kq (a := 9) (b := 9) eσ99 (by omega)).trans (k83.trans (k63.trans (k6.trans ((kq (a := 9) (b := 9) eσ2 (by omega)))))))), k135.trans (k114.trans ((kq (a := 9) (b := 10) eσ99 (by omega)).trans (k84.trans (k64.trans (k7.trans ((kq (a := 9) (b := 10) eσ2 (by omega)))))))), k136.trans (k115.trans ((kq (a := 6) (b := 5) eσ99 (by omega)).trans (k85.trans (k65.trans (k8.trans ((kq (a := 6) (b := 5) eσ2 (by omega)))))))), k137.trans (k116.trans ((kq (a := 7) (b := 4) eσ99 (by omega)).trans (k86.trans (k66.trans (k9.trans ((kq (a := 7) (b := 4) eσ2 (by omega)))))))), k138.trans (k117.trans ((kq (a := 2) (b := 4) eσ99 (by omega)).trans (k87.trans (k67.trans (k10.trans ((kq (a := 2) (b := 4) eσ2 (by omega))))))))⟩)
                    · have f143 := tB (σ110.1 3 11)
                      have f145 := mt Int32.toInt_inj.mp c124
                      unfold fX2_doOrder_j174
                      exact hQ _ hσ110 (⟨k113.trans ((kq (a := 9) (b := 9) eσ99 (by omega)).trans (k83.trans (k63.trans (k6.trans ((kq (a := 9) (b := 9) eσ2 (by omega))))))), k114.trans ((kq (a := 9) (b := 10) eσ99 (by omega)).trans (k84.trans (k64.trans (k7.trans ((kq (a := 9) (b := 10) eσ2 (by omega))))))), k115.trans ((kq (a := 6) (b := 5) eσ99 (by omega)).trans (k85.trans (k65.trans (k8.trans ((kq (a := 6) (b := 5) eσ2 (by omega))))))), k116.trans ((kq (a := 7) (b := 4) eσ99 (by omega)).trans (k86.trans (k66.trans (k9.trans ((kq (a := 7) (b := 4) eσ2 (by omega))))))), k117.trans ((kq (a := 2) (b := 4) eσ99 (by omega)).trans (k87.trans (k67.trans (k10.trans ((kq (a := 2) (b := 4) eσ2 (by omega)))))))⟩)
                  · have f148 := mt Int32.toInt_inj.mp c103
                    have g150 : vp_in r15 18 := inI (by omega) (by omega)
                    refine ⟨g150, ?_⟩
                    refine ⟨fun c151 => ?_, fun c151 => ?_⟩
                    · have f154 := congrArg Int32.toInt c151
                      refine sX2_goesThere hN hσ99 (fun r171 p172 => ?_)
                      refine ⟨fun c173 => ?_, fun c173 => ?_⟩
                      · have f174 := tB r171
                        have f176 := congrArg Int32.toInt c173
                        exact hQ _ hσ99 (⟨(kq (a := 9) (b := 9) eσ99 (by omega)).trans (k83.trans (k63.trans (k6.trans ((kq (a := 9) (b := 9) eσ2 (by omega)))))), (kq (a := 9) (b := 10) eσ99 (by omega)).trans (k84.trans (k64.trans (k7.trans ((kq (a := 9) (b := 10) eσ2 (by omega)))))), (kq (a := 6) (b := 5) eσ99 (by omega)).trans (k85.trans (k65.trans (k8.trans ((kq (a := 6) (b := 5) eσ2 (by omega)))))), (kq (a := 7) (b := 4) eσ99 (by omega)).trans (k86.trans (k66.trans (k9.trans ((kq (a := 7) (b := 4) eσ2 (by omega)))))), (kq (a := 2) (b := 4) eσ99 (by omega)).trans (k87.trans (k67.trans (k10.trans ((kq (a := 2) (b := 4) eσ2 (by omega))))))⟩)
                      · have f177 := tB r171
                        have f179 := mt Int32.toInt_inj.mp c173
                        intro v180 ev180
                        intro σ181 eσ181
                        have kb182 := jobK_b hk1
                        have hσ181 : K1 σ0 σ181 := by rw [eσ181]; exact hσ99.u (rg_jobK hk1) (by omega) (by omega)
                        exact hQ _ hσ181 (⟨(kq (a := 9) (b := 9) eσ181 (by omega)).trans ((kq (a := 9) (b := 9) eσ99 (by omega)).trans (k83.trans (k63.trans (k6.trans ((kq (a := 9) (b := 9) eσ2 (by omega))))))), (kq (a := 9) (b := 10) eσ181 (by omega)).trans ((kq (a := 9) (b := 10) eσ99 (by omega)).trans (k84.trans (k64.trans (k7.trans ((kq (a := 9) (b := 10) eσ2 (by omega))))))), (kq (a := 6) (b := 5) eσ181 (by omega)).trans ((kq (a := 6) (b := 5) eσ99 (by omega)).trans (k85.trans (k65.trans (k8.trans ((kq (a := 6) (b := 5) eσ2 (by omega))))))), (kq (a := 7) (b := 4) eσ181 (by omega)).trans ((kq (a := 7) (b := 4) eσ99 (by omega)).trans (k86.trans (k66.trans (k9.trans ((kq (a := 7) (b := 4) eσ2 (by omega))))))), (kq (a := 2) (b := 4) eσ181 (by omega)).trans ((kq (a := 2) (b := 4) eσ99 (by omega)).trans (k87.trans (k67.trans (k10.trans ((kq (a := 2) (b := 4) eσ2 (by omega)))))))⟩)
                    · have f185 := mt Int32.toInt_inj.mp c151
                      have f190 := K1.g_3_7 hσ99
                      have q191 : σ99.1 3 7 = σ80.1 3 7 := by rw [eσ99]; exact congrFun (u1_ne (by omega)) 7
                      have f192 := congrArg Int32.toInt q191
                      have f193 := K1.g_3_7 hσ80
                      have f194 := congrArg Int32.toInt k81
                      have f195 := K1.g_3_7 hσ60
                      have f196 := congrArg Int32.toInt k61
                      have f197 := K1.g_3_7 hσ3
                      have f198 := congrArg Int32.toInt k4
                      have f199 := K1.g_3_7 hσ2
                      have q200 : σ2.1 3 7 = σ.1 3 7 := by rw [eσ2, u1_at]; exact if_neg (by decide)
                      have f201 := congrArg Int32.toInt q200
                      have f202 := K1.g_3_7 hσ
                      refine sX2_act hN hk1 (by omega) hσ99 (fun σ189 hσ189 kk208 => ?_)
                      obtain ⟨k203, k204, k205, k206, k207⟩ := kk208
                      exact hQ _ hσ189 (⟨k203.trans ((kq (a := 9) (b := 9) eσ99 (by omega)).trans (k83.trans (k63.trans (k6.trans ((kq (a := 9) (b := 9) eσ2 (by omega))))))), k204.trans ((kq (a := 9) (b := 10) eσ99 (by omega)).trans (k84.trans (k64.trans (k7.trans ((kq (a := 9) (b := 10) eσ2 (by omega))))))), k205.trans ((kq (a := 6) (b := 5) eσ99 (by omega)).trans (k85.trans (k65.trans (k8.trans ((kq (a := 6) (b := 5) eσ2 (by omega))))))), k206.trans ((kq (a := 7) (b := 4) eσ99 (by omega)).trans (k86.trans (k66.trans (k9.trans ((kq (a := 7) (b := 4) eσ2 (by omega))))))), k207.trans ((kq (a := 2) (b := 4) eσ99 (by omega)).trans (k87.trans (k67.trans (k10.trans ((kq (a := 2) (b := 4) eσ2 (by omega)))))))⟩)
                · have f209 := tB (σ80.1 3 11)
                  have f211 := mt Int32.toInt_inj.mp c94
                  exact hQ _ hσ80 (⟨k83.trans (k63.trans (k6.trans ((kq (a := 9) (b := 9) eσ2 (by omega))))), k84.trans (k64.trans (k7.trans ((kq (a := 9) (b := 10) eσ2 (by omega))))), k85.trans (k65.trans (k8.trans ((kq (a := 6) (b := 5) eσ2 (by omega))))), k86.trans (k66.trans (k9.trans ((kq (a := 7) (b := 4) eσ2 (by omega))))), k87.trans (k67.trans (k10.trans ((kq (a := 2) (b := 4) eσ2 (by omega)))))⟩)
              · have f213 : (2 : Int32).toInt = 2 := by decide
                have f214 := mt Int32.toInt_inj.mp c76
                unfold fX2_doOrder_j122
                refine ⟨fun c215 => ?_, fun c215 => ?_⟩
                · have f216 := tB (σ60.1 3 11)
                  have f218 := congrArg Int32.toInt c215
                  intro v219 ev219
                  intro σ220 eσ220
                  have kb221 := jobK_b hk1
                  have hσ220 : K1 σ0 σ220 := by rw [eσ220]; exact hσ60.u (rg_jobK hk1) (by omega) (by omega)
                  have g223 : vp_in r15 18 := inI (by omega) (by omega)
                  refine ⟨g223, ?_⟩
                  refine ⟨fun c224 => ?_, fun c224 => ?_⟩
                  · have f227 := congrArg Int32.toInt c224
                    refine sX2_valueFor hN hσ220 (fun r243 σ231 hσ231 kk242 p244 => ?_)
                    obtain ⟨k232, k233, k234, k235, k236, k237, k238, k239, k240, k241⟩ := kk242
                    refine ⟨fun c245 => ?_, fun c245 => ?_⟩
                    · have f246 := tB (σ231.1 3 11)
                      have f248 := congrArg Int32.toInt c245
                      have f249 := tB r72
                      have f250 := tB r243
                      refine sX1_setLocal hN hk1 hσ231 (fun σ251 hσ251 kk263 => ?_)
                      obtain ⟨k252, k253, k254, k255, k256, k257, k258, k259, k260, k261, k262⟩ := kk263
                      unfold fX2_doOrder_j174
                      exact hQ _ hσ251 (⟨k255.trans (k234.trans ((kq (a := 9) (b := 9) eσ220 (by omega)).trans (k63.trans (k6.trans ((kq (a := 9) (b := 9) eσ2 (by omega))))))), k256.trans (k235.trans ((kq (a := 9) (b := 10) eσ220 (by omega)).trans (k64.trans (k7.trans ((kq (a := 9) (b := 10) eσ2 (by omega))))))), k257.trans (k236.trans ((kq (a := 6) (b := 5) eσ220 (by omega)).trans (k65.trans (k8.trans ((kq (a := 6) (b := 5) eσ2 (by omega))))))), k258.trans (k237.trans ((kq (a := 7) (b := 4) eσ220 (by omega)).trans (k66.trans (k9.trans ((kq (a := 7) (b := 4) eσ2 (by omega))))))), k259.trans (k238.trans ((kq (a := 2) (b := 4) eσ220 (by omega)).trans (k67.trans (k10.trans ((kq (a := 2) (b := 4) eσ2 (by omega)))))))⟩)
                    · have f264 := tB (σ231.1 3 11)
                      have f266 := mt Int32.toInt_inj.mp c245
                      unfold fX2_doOrder_j174
                      exact hQ _ hσ231 (⟨k234.trans ((kq (a := 9) (b := 9) eσ220 (by omega)).trans (k63.trans (k6.trans ((kq (a := 9) (b := 9) eσ2 (by omega)))))), k235.trans ((kq (a := 9) (b := 10) eσ220 (by omega)).trans (k64.trans (k7.trans ((kq (a := 9) (b := 10) eσ2 (by omega)))))), k236.trans ((kq (a := 6) (b := 5) eσ220 (by omega)).trans (k65.trans (k8.trans ((kq (a := 6) (b := 5) eσ2 (by omega)))))), k237.trans ((kq (a := 7) (b := 4) eσ220 (by omega)).trans (k66.trans (k9.trans ((kq (a := 7) (b := 4) eσ2 (by omega)))))), k238.trans ((kq (a := 2) (b := 4) eσ220 (by omega)).trans (k67.trans (k10.trans ((kq (a := 2) (b := 4) eσ2 (by omega))))))⟩)
                  · have f269 := mt Int32.toInt_inj.mp c224
                    have g271 : vp_in r15 18 := inI (by omega) (by omega)
                    refine ⟨g271, ?_⟩
                    refine ⟨fun c272 => ?_, fun c272 => ?_⟩
                    · have f275 := congrArg Int32.toInt c272
                      refine sX2_goesThere hN hσ220 (fun r292 p293 => ?_)
                      refine ⟨fun c294 => ?_, fun c294 => ?_⟩
                      · have f295 := tB r292
                        have f297 := congrArg Int32.toInt c294
                        exact hQ _ hσ220 (⟨(kq (a := 9) (b := 9) eσ220 (by omega)).trans (k63.trans (k6.trans ((kq (a := 9) (b := 9) eσ2 (by omega))))), (kq (a := 9) (b := 10) eσ220 (by omega)).trans (k64.trans (k7.trans ((kq (a := 9) (b := 10) eσ2 (by omega))))), (kq (a := 6) (b := 5) eσ220 (by omega)).trans (k65.trans (k8.trans ((kq (a := 6) (b := 5) eσ2 (by omega))))), (kq (a := 7) (b := 4) eσ220 (by omega)).trans (k66.trans (k9.trans ((kq (a := 7) (b := 4) eσ2 (by omega))))), (kq (a := 2) (b := 4) eσ220 (by omega)).trans (k67.trans (k10.trans ((kq (a := 2) (b := 4) eσ2 (by omega)))))⟩)
                      · have f298 := tB r292
                        have f300 := mt Int32.toInt_inj.mp c294
                        intro v301 ev301
                        intro σ302 eσ302
                        have kb303 := jobK_b hk1
                        have hσ302 : K1 σ0 σ302 := by rw [eσ302]; exact hσ220.u (rg_jobK hk1) (by omega) (by omega)
                        exact hQ _ hσ302 (⟨(kq (a := 9) (b := 9) eσ302 (by omega)).trans ((kq (a := 9) (b := 9) eσ220 (by omega)).trans (k63.trans (k6.trans ((kq (a := 9) (b := 9) eσ2 (by omega)))))), (kq (a := 9) (b := 10) eσ302 (by omega)).trans ((kq (a := 9) (b := 10) eσ220 (by omega)).trans (k64.trans (k7.trans ((kq (a := 9) (b := 10) eσ2 (by omega)))))), (kq (a := 6) (b := 5) eσ302 (by omega)).trans ((kq (a := 6) (b := 5) eσ220 (by omega)).trans (k65.trans (k8.trans ((kq (a := 6) (b := 5) eσ2 (by omega)))))), (kq (a := 7) (b := 4) eσ302 (by omega)).trans ((kq (a := 7) (b := 4) eσ220 (by omega)).trans (k66.trans (k9.trans ((kq (a := 7) (b := 4) eσ2 (by omega)))))), (kq (a := 2) (b := 4) eσ302 (by omega)).trans ((kq (a := 2) (b := 4) eσ220 (by omega)).trans (k67.trans (k10.trans ((kq (a := 2) (b := 4) eσ2 (by omega))))))⟩)
                    · have f306 := mt Int32.toInt_inj.mp c272
                      have f311 := K1.g_3_7 hσ220
                      have q312 : σ220.1 3 7 = σ60.1 3 7 := by rw [eσ220]; exact congrFun (u1_ne (by omega)) 7
                      have f313 := congrArg Int32.toInt q312
                      have f314 := K1.g_3_7 hσ60
                      have f315 := congrArg Int32.toInt k61
                      have f316 := K1.g_3_7 hσ3
                      have f317 := congrArg Int32.toInt k4
                      have f318 := K1.g_3_7 hσ2
                      have q319 : σ2.1 3 7 = σ.1 3 7 := by rw [eσ2, u1_at]; exact if_neg (by decide)
                      have f320 := congrArg Int32.toInt q319
                      have f321 := K1.g_3_7 hσ
                      refine sX2_act hN hk1 (by omega) hσ220 (fun σ310 hσ310 kk327 => ?_)
                      obtain ⟨k322, k323, k324, k325, k326⟩ := kk327
                      exact hQ _ hσ310 (⟨k322.trans ((kq (a := 9) (b := 9) eσ220 (by omega)).trans (k63.trans (k6.trans ((kq (a := 9) (b := 9) eσ2 (by omega)))))), k323.trans ((kq (a := 9) (b := 10) eσ220 (by omega)).trans (k64.trans (k7.trans ((kq (a := 9) (b := 10) eσ2 (by omega)))))), k324.trans ((kq (a := 6) (b := 5) eσ220 (by omega)).trans (k65.trans (k8.trans ((kq (a := 6) (b := 5) eσ2 (by omega)))))), k325.trans ((kq (a := 7) (b := 4) eσ220 (by omega)).trans (k66.trans (k9.trans ((kq (a := 7) (b := 4) eσ2 (by omega)))))), k326.trans ((kq (a := 2) (b := 4) eσ220 (by omega)).trans (k67.trans (k10.trans ((kq (a := 2) (b := 4) eσ2 (by omega))))))⟩)
                · have f328 := tB (σ60.1 3 11)
                  have f330 := mt Int32.toInt_inj.mp c215
                  exact hQ _ hσ60 (⟨k63.trans (k6.trans ((kq (a := 9) (b := 9) eσ2 (by omega)))), k64.trans (k7.trans ((kq (a := 9) (b := 10) eσ2 (by omega)))), k65.trans (k8.trans ((kq (a := 6) (b := 5) eσ2 (by omega)))), k66.trans (k9.trans ((kq (a := 7) (b := 4) eσ2 (by omega)))), k67.trans (k10.trans ((kq (a := 2) (b := 4) eσ2 (by omega))))⟩)
            · have f331 := tB (jT r15.toNatClampNeg)
              have f333 := mt Int32.toInt_inj.mp c56
              unfold fX2_doOrder_j103
              have g335 : vp_in r15 18 := inI (by omega) (by omega)
              refine ⟨g335, ?_⟩
              refine ⟨fun c336 => ?_, fun c336 => ?_⟩
              · have f338 : (2 : Int32).toInt = 2 := by decide
                have f339 := congrArg Int32.toInt c336
                refine sX2_nextDistance hN hσ3 (fun r352 σ340 hσ340 kk351 p353 => ?_)
                obtain ⟨k341, k342, k343, k344, k345, k346, k347, k348, k349, k350⟩ := kk351
                unfold fX2_doOrder_j122
                refine ⟨fun c354 => ?_, fun c354 => ?_⟩
                · have f355 := tB (σ340.1 3 11)
                  have f357 := congrArg Int32.toInt c354
                  intro v358 ev358
                  intro σ359 eσ359
                  have kb360 := jobK_b hk1
                  have hσ359 : K1 σ0 σ359 := by rw [eσ359]; exact hσ340.u (rg_jobK hk1) (by omega) (by omega)
                  have g362 : vp_in r15 18 := inI (by omega) (by omega)
                  refine ⟨g362, ?_⟩
                  refine ⟨fun c363 => ?_, fun c363 => ?_⟩
                  · have f366 := congrArg Int32.toInt c363
                    refine sX2_valueFor hN hσ359 (fun r382 σ370 hσ370 kk381 p383 => ?_)
                    obtain ⟨k371, k372, k373, k374, k375, k376, k377, k378, k379, k380⟩ := kk381
                    refine ⟨fun c384 => ?_, fun c384 => ?_⟩
                    · have f385 := tB (σ370.1 3 11)
                      have f387 := congrArg Int32.toInt c384
                      have f388 : (255 : Int32).toInt = 255 := by decide
                      have f389 := tB r382
                      refine sX1_setLocal hN hk1 hσ370 (fun σ390 hσ390 kk402 => ?_)
                      obtain ⟨k391, k392, k393, k394, k395, k396, k397, k398, k399, k400, k401⟩ := kk402
                      unfold fX2_doOrder_j174
                      exact hQ _ hσ390 (⟨k394.trans (k373.trans ((kq (a := 9) (b := 9) eσ359 (by omega)).trans (k343.trans (k6.trans ((kq (a := 9) (b := 9) eσ2 (by omega))))))), k395.trans (k374.trans ((kq (a := 9) (b := 10) eσ359 (by omega)).trans (k344.trans (k7.trans ((kq (a := 9) (b := 10) eσ2 (by omega))))))), k396.trans (k375.trans ((kq (a := 6) (b := 5) eσ359 (by omega)).trans (k345.trans (k8.trans ((kq (a := 6) (b := 5) eσ2 (by omega))))))), k397.trans (k376.trans ((kq (a := 7) (b := 4) eσ359 (by omega)).trans (k346.trans (k9.trans ((kq (a := 7) (b := 4) eσ2 (by omega))))))), k398.trans (k377.trans ((kq (a := 2) (b := 4) eσ359 (by omega)).trans (k347.trans (k10.trans ((kq (a := 2) (b := 4) eσ2 (by omega)))))))⟩)
                    · have f403 := tB (σ370.1 3 11)
                      have f405 := mt Int32.toInt_inj.mp c384
                      unfold fX2_doOrder_j174
                      exact hQ _ hσ370 (⟨k373.trans ((kq (a := 9) (b := 9) eσ359 (by omega)).trans (k343.trans (k6.trans ((kq (a := 9) (b := 9) eσ2 (by omega)))))), k374.trans ((kq (a := 9) (b := 10) eσ359 (by omega)).trans (k344.trans (k7.trans ((kq (a := 9) (b := 10) eσ2 (by omega)))))), k375.trans ((kq (a := 6) (b := 5) eσ359 (by omega)).trans (k345.trans (k8.trans ((kq (a := 6) (b := 5) eσ2 (by omega)))))), k376.trans ((kq (a := 7) (b := 4) eσ359 (by omega)).trans (k346.trans (k9.trans ((kq (a := 7) (b := 4) eσ2 (by omega)))))), k377.trans ((kq (a := 2) (b := 4) eσ359 (by omega)).trans (k347.trans (k10.trans ((kq (a := 2) (b := 4) eσ2 (by omega))))))⟩)
                  · have f408 := mt Int32.toInt_inj.mp c363
                    have g410 : vp_in r15 18 := inI (by omega) (by omega)
                    refine ⟨g410, ?_⟩
                    refine ⟨fun c411 => ?_, fun c411 => ?_⟩
                    · have f414 := congrArg Int32.toInt c411
                      refine sX2_goesThere hN hσ359 (fun r431 p432 => ?_)
                      refine ⟨fun c433 => ?_, fun c433 => ?_⟩
                      · have f434 := tB r431
                        have f436 := congrArg Int32.toInt c433
                        exact hQ _ hσ359 (⟨(kq (a := 9) (b := 9) eσ359 (by omega)).trans (k343.trans (k6.trans ((kq (a := 9) (b := 9) eσ2 (by omega))))), (kq (a := 9) (b := 10) eσ359 (by omega)).trans (k344.trans (k7.trans ((kq (a := 9) (b := 10) eσ2 (by omega))))), (kq (a := 6) (b := 5) eσ359 (by omega)).trans (k345.trans (k8.trans ((kq (a := 6) (b := 5) eσ2 (by omega))))), (kq (a := 7) (b := 4) eσ359 (by omega)).trans (k346.trans (k9.trans ((kq (a := 7) (b := 4) eσ2 (by omega))))), (kq (a := 2) (b := 4) eσ359 (by omega)).trans (k347.trans (k10.trans ((kq (a := 2) (b := 4) eσ2 (by omega)))))⟩)
                      · have f437 := tB r431
                        have f439 := mt Int32.toInt_inj.mp c433
                        intro v440 ev440
                        intro σ441 eσ441
                        have kb442 := jobK_b hk1
                        have hσ441 : K1 σ0 σ441 := by rw [eσ441]; exact hσ359.u (rg_jobK hk1) (by omega) (by omega)
                        exact hQ _ hσ441 (⟨(kq (a := 9) (b := 9) eσ441 (by omega)).trans ((kq (a := 9) (b := 9) eσ359 (by omega)).trans (k343.trans (k6.trans ((kq (a := 9) (b := 9) eσ2 (by omega)))))), (kq (a := 9) (b := 10) eσ441 (by omega)).trans ((kq (a := 9) (b := 10) eσ359 (by omega)).trans (k344.trans (k7.trans ((kq (a := 9) (b := 10) eσ2 (by omega)))))), (kq (a := 6) (b := 5) eσ441 (by omega)).trans ((kq (a := 6) (b := 5) eσ359 (by omega)).trans (k345.trans (k8.trans ((kq (a := 6) (b := 5) eσ2 (by omega)))))), (kq (a := 7) (b := 4) eσ441 (by omega)).trans ((kq (a := 7) (b := 4) eσ359 (by omega)).trans (k346.trans (k9.trans ((kq (a := 7) (b := 4) eσ2 (by omega)))))), (kq (a := 2) (b := 4) eσ441 (by omega)).trans ((kq (a := 2) (b := 4) eσ359 (by omega)).trans (k347.trans (k10.trans ((kq (a := 2) (b := 4) eσ2 (by omega))))))⟩)
                    · have f445 := mt Int32.toInt_inj.mp c411
                      have f450 := K1.g_3_7 hσ359
                      have q451 : σ359.1 3 7 = σ340.1 3 7 := by rw [eσ359]; exact congrFun (u1_ne (by omega)) 7
                      have f452 := congrArg Int32.toInt q451
                      have f453 := K1.g_3_7 hσ340
                      have f454 := congrArg Int32.toInt k341
                      have f455 := K1.g_3_7 hσ3
                      have f456 := congrArg Int32.toInt k4
                      have f457 := K1.g_3_7 hσ2
                      have q458 : σ2.1 3 7 = σ.1 3 7 := by rw [eσ2, u1_at]; exact if_neg (by decide)
                      have f459 := congrArg Int32.toInt q458
                      have f460 := K1.g_3_7 hσ
                      refine sX2_act hN hk1 (by omega) hσ359 (fun σ449 hσ449 kk466 => ?_)
                      obtain ⟨k461, k462, k463, k464, k465⟩ := kk466
                      exact hQ _ hσ449 (⟨k461.trans ((kq (a := 9) (b := 9) eσ359 (by omega)).trans (k343.trans (k6.trans ((kq (a := 9) (b := 9) eσ2 (by omega)))))), k462.trans ((kq (a := 9) (b := 10) eσ359 (by omega)).trans (k344.trans (k7.trans ((kq (a := 9) (b := 10) eσ2 (by omega)))))), k463.trans ((kq (a := 6) (b := 5) eσ359 (by omega)).trans (k345.trans (k8.trans ((kq (a := 6) (b := 5) eσ2 (by omega)))))), k464.trans ((kq (a := 7) (b := 4) eσ359 (by omega)).trans (k346.trans (k9.trans ((kq (a := 7) (b := 4) eσ2 (by omega)))))), k465.trans ((kq (a := 2) (b := 4) eσ359 (by omega)).trans (k347.trans (k10.trans ((kq (a := 2) (b := 4) eσ2 (by omega))))))⟩)
                · have f467 := tB (σ340.1 3 11)
                  have f469 := mt Int32.toInt_inj.mp c354
                  exact hQ _ hσ340 (⟨k343.trans (k6.trans ((kq (a := 9) (b := 9) eσ2 (by omega)))), k344.trans (k7.trans ((kq (a := 9) (b := 10) eσ2 (by omega)))), k345.trans (k8.trans ((kq (a := 6) (b := 5) eσ2 (by omega)))), k346.trans (k9.trans ((kq (a := 7) (b := 4) eσ2 (by omega)))), k347.trans (k10.trans ((kq (a := 2) (b := 4) eσ2 (by omega))))⟩)
              · have f471 : (2 : Int32).toInt = 2 := by decide
                have f472 := mt Int32.toInt_inj.mp c336
                unfold fX2_doOrder_j122
                refine ⟨fun c473 => ?_, fun c473 => ?_⟩
                · have f476 := congrArg Int32.toInt c473
                  intro v477 ev477
                  intro σ478 eσ478
                  have kb479 := jobK_b hk1
                  have hσ478 : K1 σ0 σ478 := by rw [eσ478]; exact hσ3.u (rg_jobK hk1) (by omega) (by omega)
                  have g481 : vp_in r15 18 := inI (by omega) (by omega)
                  refine ⟨g481, ?_⟩
                  refine ⟨fun c482 => ?_, fun c482 => ?_⟩
                  · have f485 := congrArg Int32.toInt c482
                    refine sX2_valueFor hN hσ478 (fun r501 σ489 hσ489 kk500 p502 => ?_)
                    obtain ⟨k490, k491, k492, k493, k494, k495, k496, k497, k498, k499⟩ := kk500
                    refine ⟨fun c503 => ?_, fun c503 => ?_⟩
                    · have f504 := tB (σ489.1 3 11)
                      have f506 := congrArg Int32.toInt c503
                      have f507 : (255 : Int32).toInt = 255 := by decide
                      have f508 := tB r501
                      refine sX1_setLocal hN hk1 hσ489 (fun σ509 hσ509 kk521 => ?_)
                      obtain ⟨k510, k511, k512, k513, k514, k515, k516, k517, k518, k519, k520⟩ := kk521
                      unfold fX2_doOrder_j174
                      exact hQ _ hσ509 (⟨k513.trans (k492.trans ((kq (a := 9) (b := 9) eσ478 (by omega)).trans (k6.trans ((kq (a := 9) (b := 9) eσ2 (by omega)))))), k514.trans (k493.trans ((kq (a := 9) (b := 10) eσ478 (by omega)).trans (k7.trans ((kq (a := 9) (b := 10) eσ2 (by omega)))))), k515.trans (k494.trans ((kq (a := 6) (b := 5) eσ478 (by omega)).trans (k8.trans ((kq (a := 6) (b := 5) eσ2 (by omega)))))), k516.trans (k495.trans ((kq (a := 7) (b := 4) eσ478 (by omega)).trans (k9.trans ((kq (a := 7) (b := 4) eσ2 (by omega)))))), k517.trans (k496.trans ((kq (a := 2) (b := 4) eσ478 (by omega)).trans (k10.trans ((kq (a := 2) (b := 4) eσ2 (by omega))))))⟩)
                    · have f522 := tB (σ489.1 3 11)
                      have f524 := mt Int32.toInt_inj.mp c503
                      unfold fX2_doOrder_j174
                      exact hQ _ hσ489 (⟨k492.trans ((kq (a := 9) (b := 9) eσ478 (by omega)).trans (k6.trans ((kq (a := 9) (b := 9) eσ2 (by omega))))), k493.trans ((kq (a := 9) (b := 10) eσ478 (by omega)).trans (k7.trans ((kq (a := 9) (b := 10) eσ2 (by omega))))), k494.trans ((kq (a := 6) (b := 5) eσ478 (by omega)).trans (k8.trans ((kq (a := 6) (b := 5) eσ2 (by omega))))), k495.trans ((kq (a := 7) (b := 4) eσ478 (by omega)).trans (k9.trans ((kq (a := 7) (b := 4) eσ2 (by omega))))), k496.trans ((kq (a := 2) (b := 4) eσ478 (by omega)).trans (k10.trans ((kq (a := 2) (b := 4) eσ2 (by omega)))))⟩)
                  · have f527 := mt Int32.toInt_inj.mp c482
                    have g529 : vp_in r15 18 := inI (by omega) (by omega)
                    refine ⟨g529, ?_⟩
                    refine ⟨fun c530 => ?_, fun c530 => ?_⟩
                    · have f533 := congrArg Int32.toInt c530
                      refine sX2_goesThere hN hσ478 (fun r550 p551 => ?_)
                      refine ⟨fun c552 => ?_, fun c552 => ?_⟩
                      · have f553 := tB r550
                        have f555 := congrArg Int32.toInt c552
                        exact hQ _ hσ478 (⟨(kq (a := 9) (b := 9) eσ478 (by omega)).trans (k6.trans ((kq (a := 9) (b := 9) eσ2 (by omega)))), (kq (a := 9) (b := 10) eσ478 (by omega)).trans (k7.trans ((kq (a := 9) (b := 10) eσ2 (by omega)))), (kq (a := 6) (b := 5) eσ478 (by omega)).trans (k8.trans ((kq (a := 6) (b := 5) eσ2 (by omega)))), (kq (a := 7) (b := 4) eσ478 (by omega)).trans (k9.trans ((kq (a := 7) (b := 4) eσ2 (by omega)))), (kq (a := 2) (b := 4) eσ478 (by omega)).trans (k10.trans ((kq (a := 2) (b := 4) eσ2 (by omega))))⟩)
                      · have f556 := tB r550
                        have f558 := mt Int32.toInt_inj.mp c552
                        intro v559 ev559
                        intro σ560 eσ560
                        have kb561 := jobK_b hk1
                        have hσ560 : K1 σ0 σ560 := by rw [eσ560]; exact hσ478.u (rg_jobK hk1) (by omega) (by omega)
                        exact hQ _ hσ560 (⟨(kq (a := 9) (b := 9) eσ560 (by omega)).trans ((kq (a := 9) (b := 9) eσ478 (by omega)).trans (k6.trans ((kq (a := 9) (b := 9) eσ2 (by omega))))), (kq (a := 9) (b := 10) eσ560 (by omega)).trans ((kq (a := 9) (b := 10) eσ478 (by omega)).trans (k7.trans ((kq (a := 9) (b := 10) eσ2 (by omega))))), (kq (a := 6) (b := 5) eσ560 (by omega)).trans ((kq (a := 6) (b := 5) eσ478 (by omega)).trans (k8.trans ((kq (a := 6) (b := 5) eσ2 (by omega))))), (kq (a := 7) (b := 4) eσ560 (by omega)).trans ((kq (a := 7) (b := 4) eσ478 (by omega)).trans (k9.trans ((kq (a := 7) (b := 4) eσ2 (by omega))))), (kq (a := 2) (b := 4) eσ560 (by omega)).trans ((kq (a := 2) (b := 4) eσ478 (by omega)).trans (k10.trans ((kq (a := 2) (b := 4) eσ2 (by omega)))))⟩)
                    · have f564 := mt Int32.toInt_inj.mp c530
                      have f569 := K1.g_3_7 hσ478
                      have q570 : σ478.1 3 7 = σ3.1 3 7 := by rw [eσ478]; exact congrFun (u1_ne (by omega)) 7
                      have f571 := congrArg Int32.toInt q570
                      have f572 := K1.g_3_7 hσ3
                      have f573 := congrArg Int32.toInt k4
                      have f574 := K1.g_3_7 hσ2
                      have q575 : σ2.1 3 7 = σ.1 3 7 := by rw [eσ2, u1_at]; exact if_neg (by decide)
                      have f576 := congrArg Int32.toInt q575
                      have f577 := K1.g_3_7 hσ
                      refine sX2_act hN hk1 (by omega) hσ478 (fun σ568 hσ568 kk583 => ?_)
                      obtain ⟨k578, k579, k580, k581, k582⟩ := kk583
                      exact hQ _ hσ568 (⟨k578.trans ((kq (a := 9) (b := 9) eσ478 (by omega)).trans (k6.trans ((kq (a := 9) (b := 9) eσ2 (by omega))))), k579.trans ((kq (a := 9) (b := 10) eσ478 (by omega)).trans (k7.trans ((kq (a := 9) (b := 10) eσ2 (by omega))))), k580.trans ((kq (a := 6) (b := 5) eσ478 (by omega)).trans (k8.trans ((kq (a := 6) (b := 5) eσ2 (by omega))))), k581.trans ((kq (a := 7) (b := 4) eσ478 (by omega)).trans (k9.trans ((kq (a := 7) (b := 4) eσ2 (by omega))))), k582.trans ((kq (a := 2) (b := 4) eσ478 (by omega)).trans (k10.trans ((kq (a := 2) (b := 4) eσ2 (by omega)))))⟩)
                · have f586 := mt Int32.toInt_inj.mp c473
                  exact hQ _ hσ3 (⟨k6.trans ((kq (a := 9) (b := 9) eσ2 (by omega))), k7.trans ((kq (a := 9) (b := 10) eσ2 (by omega))), k8.trans ((kq (a := 6) (b := 5) eσ2 (by omega))), k9.trans ((kq (a := 7) (b := 4) eσ2 (by omega))), k10.trans ((kq (a := 2) (b := 4) eσ2 (by omega)))⟩)
          · have f588 : (1 : Int32).toInt = 1 := by decide
            have f589 := mt Int32.le_iff_toInt_le.mpr c50
            refine sX2_nextValue hN hk1 hσ3 (fun r602 σ590 hσ590 kk601 p603 => ?_)
            obtain ⟨k591, k592, k593, k594, k595, k596, k597, k598, k599, k600⟩ := kk601
            unfold fX2_doOrder_j81
            have g605 : vp_in r15 18 := inI (by omega) (by omega)
            refine ⟨g605, ?_⟩
            refine ⟨fun c606 => ?_, fun c606 => ?_⟩
            · have f607 := tB (jT r15.toNatClampNeg)
              have f609 := congrArg Int32.toInt c606
              refine sX2_nextTarget hN hk1 hσ590 (fun r622 σ610 hσ610 kk621 p623 => ?_)
              obtain ⟨k611, k612, k613, k614, k615, k616, k617, k618, k619, k620⟩ := kk621
              unfold fX2_doOrder_j103
              have g625 : vp_in r15 18 := inI (by omega) (by omega)
              refine ⟨g625, ?_⟩
              refine ⟨fun c626 => ?_, fun c626 => ?_⟩
              · have f628 : (2 : Int32).toInt = 2 := by decide
                have f629 := congrArg Int32.toInt c626
                refine sX2_nextDistance hN hσ610 (fun r642 σ630 hσ630 kk641 p643 => ?_)
                obtain ⟨k631, k632, k633, k634, k635, k636, k637, k638, k639, k640⟩ := kk641
                unfold fX2_doOrder_j122
                refine ⟨fun c644 => ?_, fun c644 => ?_⟩
                · have f645 := tB (σ630.1 3 11)
                  have f647 := congrArg Int32.toInt c644
                  intro v648 ev648
                  intro σ649 eσ649
                  have kb650 := jobK_b hk1
                  have hσ649 : K1 σ0 σ649 := by rw [eσ649]; exact hσ630.u (rg_jobK hk1) (by omega) (by omega)
                  have g652 : vp_in r15 18 := inI (by omega) (by omega)
                  refine ⟨g652, ?_⟩
                  refine ⟨fun c653 => ?_, fun c653 => ?_⟩
                  · have f656 := congrArg Int32.toInt c653
                    have f659 := tB r602
                    refine sX2_valueFor hN hσ649 (fun r672 σ660 hσ660 kk671 p673 => ?_)
                    obtain ⟨k661, k662, k663, k664, k665, k666, k667, k668, k669, k670⟩ := kk671
                    refine ⟨fun c674 => ?_, fun c674 => ?_⟩
                    · have f675 := tB (σ660.1 3 11)
                      have f677 := congrArg Int32.toInt c674
                      have f678 := tB r622
                      have f679 := tB r672
                      refine sX1_setLocal hN hk1 hσ660 (fun σ680 hσ680 kk692 => ?_)
                      obtain ⟨k681, k682, k683, k684, k685, k686, k687, k688, k689, k690, k691⟩ := kk692
                      unfold fX2_doOrder_j174
                      exact hQ _ hσ680 (⟨k684.trans (k663.trans ((kq (a := 9) (b := 9) eσ649 (by omega)).trans (k633.trans (k613.trans (k593.trans (k6.trans ((kq (a := 9) (b := 9) eσ2 (by omega))))))))), k685.trans (k664.trans ((kq (a := 9) (b := 10) eσ649 (by omega)).trans (k634.trans (k614.trans (k594.trans (k7.trans ((kq (a := 9) (b := 10) eσ2 (by omega))))))))), k686.trans (k665.trans ((kq (a := 6) (b := 5) eσ649 (by omega)).trans (k635.trans (k615.trans (k595.trans (k8.trans ((kq (a := 6) (b := 5) eσ2 (by omega))))))))), k687.trans (k666.trans ((kq (a := 7) (b := 4) eσ649 (by omega)).trans (k636.trans (k616.trans (k596.trans (k9.trans ((kq (a := 7) (b := 4) eσ2 (by omega))))))))), k688.trans (k667.trans ((kq (a := 2) (b := 4) eσ649 (by omega)).trans (k637.trans (k617.trans (k597.trans (k10.trans ((kq (a := 2) (b := 4) eσ2 (by omega)))))))))⟩)
                    · have f693 := tB (σ660.1 3 11)
                      have f695 := mt Int32.toInt_inj.mp c674
                      unfold fX2_doOrder_j174
                      exact hQ _ hσ660 (⟨k663.trans ((kq (a := 9) (b := 9) eσ649 (by omega)).trans (k633.trans (k613.trans (k593.trans (k6.trans ((kq (a := 9) (b := 9) eσ2 (by omega)))))))), k664.trans ((kq (a := 9) (b := 10) eσ649 (by omega)).trans (k634.trans (k614.trans (k594.trans (k7.trans ((kq (a := 9) (b := 10) eσ2 (by omega)))))))), k665.trans ((kq (a := 6) (b := 5) eσ649 (by omega)).trans (k635.trans (k615.trans (k595.trans (k8.trans ((kq (a := 6) (b := 5) eσ2 (by omega)))))))), k666.trans ((kq (a := 7) (b := 4) eσ649 (by omega)).trans (k636.trans (k616.trans (k596.trans (k9.trans ((kq (a := 7) (b := 4) eσ2 (by omega)))))))), k667.trans ((kq (a := 2) (b := 4) eσ649 (by omega)).trans (k637.trans (k617.trans (k597.trans (k10.trans ((kq (a := 2) (b := 4) eσ2 (by omega))))))))⟩)
                  · have f698 := mt Int32.toInt_inj.mp c653
                    have g700 : vp_in r15 18 := inI (by omega) (by omega)
                    refine ⟨g700, ?_⟩
                    refine ⟨fun c701 => ?_, fun c701 => ?_⟩
                    · have f704 := congrArg Int32.toInt c701
                      have f707 := tB r602
                      refine sX2_goesThere hN hσ649 (fun r721 p722 => ?_)
                      refine ⟨fun c723 => ?_, fun c723 => ?_⟩
                      · have f724 := tB r721
                        have f726 := congrArg Int32.toInt c723
                        exact hQ _ hσ649 (⟨(kq (a := 9) (b := 9) eσ649 (by omega)).trans (k633.trans (k613.trans (k593.trans (k6.trans ((kq (a := 9) (b := 9) eσ2 (by omega))))))), (kq (a := 9) (b := 10) eσ649 (by omega)).trans (k634.trans (k614.trans (k594.trans (k7.trans ((kq (a := 9) (b := 10) eσ2 (by omega))))))), (kq (a := 6) (b := 5) eσ649 (by omega)).trans (k635.trans (k615.trans (k595.trans (k8.trans ((kq (a := 6) (b := 5) eσ2 (by omega))))))), (kq (a := 7) (b := 4) eσ649 (by omega)).trans (k636.trans (k616.trans (k596.trans (k9.trans ((kq (a := 7) (b := 4) eσ2 (by omega))))))), (kq (a := 2) (b := 4) eσ649 (by omega)).trans (k637.trans (k617.trans (k597.trans (k10.trans ((kq (a := 2) (b := 4) eσ2 (by omega)))))))⟩)
                      · have f727 := tB r721
                        have f729 := mt Int32.toInt_inj.mp c723
                        intro v730 ev730
                        intro σ731 eσ731
                        have kb732 := jobK_b hk1
                        have hσ731 : K1 σ0 σ731 := by rw [eσ731]; exact hσ649.u (rg_jobK hk1) (by omega) (by omega)
                        exact hQ _ hσ731 (⟨(kq (a := 9) (b := 9) eσ731 (by omega)).trans ((kq (a := 9) (b := 9) eσ649 (by omega)).trans (k633.trans (k613.trans (k593.trans (k6.trans ((kq (a := 9) (b := 9) eσ2 (by omega)))))))), (kq (a := 9) (b := 10) eσ731 (by omega)).trans ((kq (a := 9) (b := 10) eσ649 (by omega)).trans (k634.trans (k614.trans (k594.trans (k7.trans ((kq (a := 9) (b := 10) eσ2 (by omega)))))))), (kq (a := 6) (b := 5) eσ731 (by omega)).trans ((kq (a := 6) (b := 5) eσ649 (by omega)).trans (k635.trans (k615.trans (k595.trans (k8.trans ((kq (a := 6) (b := 5) eσ2 (by omega)))))))), (kq (a := 7) (b := 4) eσ731 (by omega)).trans ((kq (a := 7) (b := 4) eσ649 (by omega)).trans (k636.trans (k616.trans (k596.trans (k9.trans ((kq (a := 7) (b := 4) eσ2 (by omega)))))))), (kq (a := 2) (b := 4) eσ731 (by omega)).trans ((kq (a := 2) (b := 4) eσ649 (by omega)).trans (k637.trans (k617.trans (k597.trans (k10.trans ((kq (a := 2) (b := 4) eσ2 (by omega))))))))⟩)
                    · have f735 := mt Int32.toInt_inj.mp c701
                      have f738 := tB r602
                      have f740 := K1.g_3_7 hσ649
                      have q741 : σ649.1 3 7 = σ630.1 3 7 := by rw [eσ649]; exact congrFun (u1_ne (by omega)) 7
                      have f742 := congrArg Int32.toInt q741
                      have f743 := K1.g_3_7 hσ630
                      have f744 := congrArg Int32.toInt k631
                      have f745 := K1.g_3_7 hσ610
                      have f746 := congrArg Int32.toInt k611
                      have f747 := K1.g_3_7 hσ590
                      have f748 := congrArg Int32.toInt k591
                      have f749 := K1.g_3_7 hσ3
                      have f750 := congrArg Int32.toInt k4
                      have f751 := K1.g_3_7 hσ2
                      have q752 : σ2.1 3 7 = σ.1 3 7 := by rw [eσ2, u1_at]; exact if_neg (by decide)
                      have f753 := congrArg Int32.toInt q752
                      have f754 := K1.g_3_7 hσ
                      refine sX2_act hN hk1 (by omega) hσ649 (fun σ739 hσ739 kk760 => ?_)
                      obtain ⟨k755, k756, k757, k758, k759⟩ := kk760
                      exact hQ _ hσ739 (⟨k755.trans ((kq (a := 9) (b := 9) eσ649 (by omega)).trans (k633.trans (k613.trans (k593.trans (k6.trans ((kq (a := 9) (b := 9) eσ2 (by omega)))))))), k756.trans ((kq (a := 9) (b := 10) eσ649 (by omega)).trans (k634.trans (k614.trans (k594.trans (k7.trans ((kq (a := 9) (b := 10) eσ2 (by omega)))))))), k757.trans ((kq (a := 6) (b := 5) eσ649 (by omega)).trans (k635.trans (k615.trans (k595.trans (k8.trans ((kq (a := 6) (b := 5) eσ2 (by omega)))))))), k758.trans ((kq (a := 7) (b := 4) eσ649 (by omega)).trans (k636.trans (k616.trans (k596.trans (k9.trans ((kq (a := 7) (b := 4) eσ2 (by omega)))))))), k759.trans ((kq (a := 2) (b := 4) eσ649 (by omega)).trans (k637.trans (k617.trans (k597.trans (k10.trans ((kq (a := 2) (b := 4) eσ2 (by omega))))))))⟩)
                · have f761 := tB (σ630.1 3 11)
                  have f763 := mt Int32.toInt_inj.mp c644
                  exact hQ _ hσ630 (⟨k633.trans (k613.trans (k593.trans (k6.trans ((kq (a := 9) (b := 9) eσ2 (by omega)))))), k634.trans (k614.trans (k594.trans (k7.trans ((kq (a := 9) (b := 10) eσ2 (by omega)))))), k635.trans (k615.trans (k595.trans (k8.trans ((kq (a := 6) (b := 5) eσ2 (by omega)))))), k636.trans (k616.trans (k596.trans (k9.trans ((kq (a := 7) (b := 4) eσ2 (by omega)))))), k637.trans (k617.trans (k597.trans (k10.trans ((kq (a := 2) (b := 4) eσ2 (by omega))))))⟩)
              · have f765 : (2 : Int32).toInt = 2 := by decide
                have f766 := mt Int32.toInt_inj.mp c626
                unfold fX2_doOrder_j122
                refine ⟨fun c767 => ?_, fun c767 => ?_⟩
                · have f768 := tB (σ610.1 3 11)
                  have f770 := congrArg Int32.toInt c767
                  intro v771 ev771
                  intro σ772 eσ772
                  have kb773 := jobK_b hk1
                  have hσ772 : K1 σ0 σ772 := by rw [eσ772]; exact hσ610.u (rg_jobK hk1) (by omega) (by omega)
                  have g775 : vp_in r15 18 := inI (by omega) (by omega)
                  refine ⟨g775, ?_⟩
                  refine ⟨fun c776 => ?_, fun c776 => ?_⟩
                  · have f779 := congrArg Int32.toInt c776
                    have f782 := tB r602
                    refine sX2_valueFor hN hσ772 (fun r795 σ783 hσ783 kk794 p796 => ?_)
                    obtain ⟨k784, k785, k786, k787, k788, k789, k790, k791, k792, k793⟩ := kk794
                    refine ⟨fun c797 => ?_, fun c797 => ?_⟩
                    · have f798 := tB (σ783.1 3 11)
                      have f800 := congrArg Int32.toInt c797
                      have f801 := tB r622
                      have f802 := tB r795
                      refine sX1_setLocal hN hk1 hσ783 (fun σ803 hσ803 kk815 => ?_)
                      obtain ⟨k804, k805, k806, k807, k808, k809, k810, k811, k812, k813, k814⟩ := kk815
                      unfold fX2_doOrder_j174
                      exact hQ _ hσ803 (⟨k807.trans (k786.trans ((kq (a := 9) (b := 9) eσ772 (by omega)).trans (k613.trans (k593.trans (k6.trans ((kq (a := 9) (b := 9) eσ2 (by omega)))))))), k808.trans (k787.trans ((kq (a := 9) (b := 10) eσ772 (by omega)).trans (k614.trans (k594.trans (k7.trans ((kq (a := 9) (b := 10) eσ2 (by omega)))))))), k809.trans (k788.trans ((kq (a := 6) (b := 5) eσ772 (by omega)).trans (k615.trans (k595.trans (k8.trans ((kq (a := 6) (b := 5) eσ2 (by omega)))))))), k810.trans (k789.trans ((kq (a := 7) (b := 4) eσ772 (by omega)).trans (k616.trans (k596.trans (k9.trans ((kq (a := 7) (b := 4) eσ2 (by omega)))))))), k811.trans (k790.trans ((kq (a := 2) (b := 4) eσ772 (by omega)).trans (k617.trans (k597.trans (k10.trans ((kq (a := 2) (b := 4) eσ2 (by omega))))))))⟩)
                    · have f816 := tB (σ783.1 3 11)
                      have f818 := mt Int32.toInt_inj.mp c797
                      unfold fX2_doOrder_j174
                      exact hQ _ hσ783 (⟨k786.trans ((kq (a := 9) (b := 9) eσ772 (by omega)).trans (k613.trans (k593.trans (k6.trans ((kq (a := 9) (b := 9) eσ2 (by omega))))))), k787.trans ((kq (a := 9) (b := 10) eσ772 (by omega)).trans (k614.trans (k594.trans (k7.trans ((kq (a := 9) (b := 10) eσ2 (by omega))))))), k788.trans ((kq (a := 6) (b := 5) eσ772 (by omega)).trans (k615.trans (k595.trans (k8.trans ((kq (a := 6) (b := 5) eσ2 (by omega))))))), k789.trans ((kq (a := 7) (b := 4) eσ772 (by omega)).trans (k616.trans (k596.trans (k9.trans ((kq (a := 7) (b := 4) eσ2 (by omega))))))), k790.trans ((kq (a := 2) (b := 4) eσ772 (by omega)).trans (k617.trans (k597.trans (k10.trans ((kq (a := 2) (b := 4) eσ2 (by omega)))))))⟩)
                  · have f821 := mt Int32.toInt_inj.mp c776
                    have g823 : vp_in r15 18 := inI (by omega) (by omega)
                    refine ⟨g823, ?_⟩
                    refine ⟨fun c824 => ?_, fun c824 => ?_⟩
                    · have f827 := congrArg Int32.toInt c824
                      have f830 := tB r602
                      refine sX2_goesThere hN hσ772 (fun r844 p845 => ?_)
                      refine ⟨fun c846 => ?_, fun c846 => ?_⟩
                      · have f847 := tB r844
                        have f849 := congrArg Int32.toInt c846
                        exact hQ _ hσ772 (⟨(kq (a := 9) (b := 9) eσ772 (by omega)).trans (k613.trans (k593.trans (k6.trans ((kq (a := 9) (b := 9) eσ2 (by omega)))))), (kq (a := 9) (b := 10) eσ772 (by omega)).trans (k614.trans (k594.trans (k7.trans ((kq (a := 9) (b := 10) eσ2 (by omega)))))), (kq (a := 6) (b := 5) eσ772 (by omega)).trans (k615.trans (k595.trans (k8.trans ((kq (a := 6) (b := 5) eσ2 (by omega)))))), (kq (a := 7) (b := 4) eσ772 (by omega)).trans (k616.trans (k596.trans (k9.trans ((kq (a := 7) (b := 4) eσ2 (by omega)))))), (kq (a := 2) (b := 4) eσ772 (by omega)).trans (k617.trans (k597.trans (k10.trans ((kq (a := 2) (b := 4) eσ2 (by omega))))))⟩)
                      · have f850 := tB r844
                        have f852 := mt Int32.toInt_inj.mp c846
                        intro v853 ev853
                        intro σ854 eσ854
                        have kb855 := jobK_b hk1
                        have hσ854 : K1 σ0 σ854 := by rw [eσ854]; exact hσ772.u (rg_jobK hk1) (by omega) (by omega)
                        exact hQ _ hσ854 (⟨(kq (a := 9) (b := 9) eσ854 (by omega)).trans ((kq (a := 9) (b := 9) eσ772 (by omega)).trans (k613.trans (k593.trans (k6.trans ((kq (a := 9) (b := 9) eσ2 (by omega))))))), (kq (a := 9) (b := 10) eσ854 (by omega)).trans ((kq (a := 9) (b := 10) eσ772 (by omega)).trans (k614.trans (k594.trans (k7.trans ((kq (a := 9) (b := 10) eσ2 (by omega))))))), (kq (a := 6) (b := 5) eσ854 (by omega)).trans ((kq (a := 6) (b := 5) eσ772 (by omega)).trans (k615.trans (k595.trans (k8.trans ((kq (a := 6) (b := 5) eσ2 (by omega))))))), (kq (a := 7) (b := 4) eσ854 (by omega)).trans ((kq (a := 7) (b := 4) eσ772 (by omega)).trans (k616.trans (k596.trans (k9.trans ((kq (a := 7) (b := 4) eσ2 (by omega))))))), (kq (a := 2) (b := 4) eσ854 (by omega)).trans ((kq (a := 2) (b := 4) eσ772 (by omega)).trans (k617.trans (k597.trans (k10.trans ((kq (a := 2) (b := 4) eσ2 (by omega)))))))⟩)
                    · have f858 := mt Int32.toInt_inj.mp c824
                      have f861 := tB r602
                      have f863 := K1.g_3_7 hσ772
                      have q864 : σ772.1 3 7 = σ610.1 3 7 := by rw [eσ772]; exact congrFun (u1_ne (by omega)) 7
                      have f865 := congrArg Int32.toInt q864
                      have f866 := K1.g_3_7 hσ610
                      have f867 := congrArg Int32.toInt k611
                      have f868 := K1.g_3_7 hσ590
                      have f869 := congrArg Int32.toInt k591
                      have f870 := K1.g_3_7 hσ3
                      have f871 := congrArg Int32.toInt k4
                      have f872 := K1.g_3_7 hσ2
                      have q873 : σ2.1 3 7 = σ.1 3 7 := by rw [eσ2, u1_at]; exact if_neg (by decide)
                      have f874 := congrArg Int32.toInt q873
                      have f875 := K1.g_3_7 hσ
                      refine sX2_act hN hk1 (by omega) hσ772 (fun σ862 hσ862 kk881 => ?_)
                      obtain ⟨k876, k877, k878, k879, k880⟩ := kk881
                      exact hQ _ hσ862 (⟨k876.trans ((kq (a := 9) (b := 9) eσ772 (by omega)).trans (k613.trans (k593.trans (k6.trans ((kq (a := 9) (b := 9) eσ2 (by omega))))))), k877.trans ((kq (a := 9) (b := 10) eσ772 (by omega)).trans (k614.trans (k594.trans (k7.trans ((kq (a := 9) (b := 10) eσ2 (by omega))))))), k878.trans ((kq (a := 6) (b := 5) eσ772 (by omega)).trans (k615.trans (k595.trans (k8.trans ((kq (a := 6) (b := 5) eσ2 (by omega))))))), k879.trans ((kq (a := 7) (b := 4) eσ772 (by omega)).trans (k616.trans (k596.trans (k9.trans ((kq (a := 7) (b := 4) eσ2 (by omega))))))), k880.trans ((kq (a := 2) (b := 4) eσ772 (by omega)).trans (k617.trans (k597.trans (k10.trans ((kq (a := 2) (b := 4) eσ2 (by omega)))))))⟩)
                · have f882 := tB (σ610.1 3 11)
                  have f884 := mt Int32.toInt_inj.mp c767
                  exact hQ _ hσ610 (⟨k613.trans (k593.trans (k6.trans ((kq (a := 9) (b := 9) eσ2 (by omega))))), k614.trans (k594.trans (k7.trans ((kq (a := 9) (b := 10) eσ2 (by omega))))), k615.trans (k595.trans (k8.trans ((kq (a := 6) (b := 5) eσ2 (by omega))))), k616.trans (k596.trans (k9.trans ((kq (a := 7) (b := 4) eσ2 (by omega))))), k617.trans (k597.trans (k10.trans ((kq (a := 2) (b := 4) eσ2 (by omega)))))⟩)
            · have f885 := tB (jT r15.toNatClampNeg)
              have f887 := mt Int32.toInt_inj.mp c606
              unfold fX2_doOrder_j103
              have g889 : vp_in r15 18 := inI (by omega) (by omega)
              refine ⟨g889, ?_⟩
              refine ⟨fun c890 => ?_, fun c890 => ?_⟩
              · have f892 : (2 : Int32).toInt = 2 := by decide
                have f893 := congrArg Int32.toInt c890
                refine sX2_nextDistance hN hσ590 (fun r906 σ894 hσ894 kk905 p907 => ?_)
                obtain ⟨k895, k896, k897, k898, k899, k900, k901, k902, k903, k904⟩ := kk905
                unfold fX2_doOrder_j122
                refine ⟨fun c908 => ?_, fun c908 => ?_⟩
                · have f909 := tB (σ894.1 3 11)
                  have f911 := congrArg Int32.toInt c908
                  intro v912 ev912
                  intro σ913 eσ913
                  have kb914 := jobK_b hk1
                  have hσ913 : K1 σ0 σ913 := by rw [eσ913]; exact hσ894.u (rg_jobK hk1) (by omega) (by omega)
                  have g916 : vp_in r15 18 := inI (by omega) (by omega)
                  refine ⟨g916, ?_⟩
                  refine ⟨fun c917 => ?_, fun c917 => ?_⟩
                  · have f920 := congrArg Int32.toInt c917
                    have f923 := tB r602
                    refine sX2_valueFor hN hσ913 (fun r936 σ924 hσ924 kk935 p937 => ?_)
                    obtain ⟨k925, k926, k927, k928, k929, k930, k931, k932, k933, k934⟩ := kk935
                    refine ⟨fun c938 => ?_, fun c938 => ?_⟩
                    · have f939 := tB (σ924.1 3 11)
                      have f941 := congrArg Int32.toInt c938
                      have f942 : (255 : Int32).toInt = 255 := by decide
                      have f943 := tB r936
                      refine sX1_setLocal hN hk1 hσ924 (fun σ944 hσ944 kk956 => ?_)
                      obtain ⟨k945, k946, k947, k948, k949, k950, k951, k952, k953, k954, k955⟩ := kk956
                      unfold fX2_doOrder_j174
                      exact hQ _ hσ944 (⟨k948.trans (k927.trans ((kq (a := 9) (b := 9) eσ913 (by omega)).trans (k897.trans (k593.trans (k6.trans ((kq (a := 9) (b := 9) eσ2 (by omega)))))))), k949.trans (k928.trans ((kq (a := 9) (b := 10) eσ913 (by omega)).trans (k898.trans (k594.trans (k7.trans ((kq (a := 9) (b := 10) eσ2 (by omega)))))))), k950.trans (k929.trans ((kq (a := 6) (b := 5) eσ913 (by omega)).trans (k899.trans (k595.trans (k8.trans ((kq (a := 6) (b := 5) eσ2 (by omega)))))))), k951.trans (k930.trans ((kq (a := 7) (b := 4) eσ913 (by omega)).trans (k900.trans (k596.trans (k9.trans ((kq (a := 7) (b := 4) eσ2 (by omega)))))))), k952.trans (k931.trans ((kq (a := 2) (b := 4) eσ913 (by omega)).trans (k901.trans (k597.trans (k10.trans ((kq (a := 2) (b := 4) eσ2 (by omega))))))))⟩)
                    · have f957 := tB (σ924.1 3 11)
                      have f959 := mt Int32.toInt_inj.mp c938
                      unfold fX2_doOrder_j174
                      exact hQ _ hσ924 (⟨k927.trans ((kq (a := 9) (b := 9) eσ913 (by omega)).trans (k897.trans (k593.trans (k6.trans ((kq (a := 9) (b := 9) eσ2 (by omega))))))), k928.trans ((kq (a := 9) (b := 10) eσ913 (by omega)).trans (k898.trans (k594.trans (k7.trans ((kq (a := 9) (b := 10) eσ2 (by omega))))))), k929.trans ((kq (a := 6) (b := 5) eσ913 (by omega)).trans (k899.trans (k595.trans (k8.trans ((kq (a := 6) (b := 5) eσ2 (by omega))))))), k930.trans ((kq (a := 7) (b := 4) eσ913 (by omega)).trans (k900.trans (k596.trans (k9.trans ((kq (a := 7) (b := 4) eσ2 (by omega))))))), k931.trans ((kq (a := 2) (b := 4) eσ913 (by omega)).trans (k901.trans (k597.trans (k10.trans ((kq (a := 2) (b := 4) eσ2 (by omega)))))))⟩)
                  · have f962 := mt Int32.toInt_inj.mp c917
                    have g964 : vp_in r15 18 := inI (by omega) (by omega)
                    refine ⟨g964, ?_⟩
                    refine ⟨fun c965 => ?_, fun c965 => ?_⟩
                    · have f968 := congrArg Int32.toInt c965
                      have f971 := tB r602
                      refine sX2_goesThere hN hσ913 (fun r985 p986 => ?_)
                      refine ⟨fun c987 => ?_, fun c987 => ?_⟩
                      · have f988 := tB r985
                        have f990 := congrArg Int32.toInt c987
                        exact hQ _ hσ913 (⟨(kq (a := 9) (b := 9) eσ913 (by omega)).trans (k897.trans (k593.trans (k6.trans ((kq (a := 9) (b := 9) eσ2 (by omega)))))), (kq (a := 9) (b := 10) eσ913 (by omega)).trans (k898.trans (k594.trans (k7.trans ((kq (a := 9) (b := 10) eσ2 (by omega)))))), (kq (a := 6) (b := 5) eσ913 (by omega)).trans (k899.trans (k595.trans (k8.trans ((kq (a := 6) (b := 5) eσ2 (by omega)))))), (kq (a := 7) (b := 4) eσ913 (by omega)).trans (k900.trans (k596.trans (k9.trans ((kq (a := 7) (b := 4) eσ2 (by omega)))))), (kq (a := 2) (b := 4) eσ913 (by omega)).trans (k901.trans (k597.trans (k10.trans ((kq (a := 2) (b := 4) eσ2 (by omega))))))⟩)
                      · have f991 := tB r985
                        have f993 := mt Int32.toInt_inj.mp c987
                        intro v994 ev994
                        intro σ995 eσ995
                        have kb996 := jobK_b hk1
                        have hσ995 : K1 σ0 σ995 := by rw [eσ995]; exact hσ913.u (rg_jobK hk1) (by omega) (by omega)
                        exact hQ _ hσ995 (⟨(kq (a := 9) (b := 9) eσ995 (by omega)).trans ((kq (a := 9) (b := 9) eσ913 (by omega)).trans (k897.trans (k593.trans (k6.trans ((kq (a := 9) (b := 9) eσ2 (by omega))))))), (kq (a := 9) (b := 10) eσ995 (by omega)).trans ((kq (a := 9) (b := 10) eσ913 (by omega)).trans (k898.trans (k594.trans (k7.trans ((kq (a := 9) (b := 10) eσ2 (by omega))))))), (kq (a := 6) (b := 5) eσ995 (by omega)).trans ((kq (a := 6) (b := 5) eσ913 (by omega)).trans (k899.trans (k595.trans (k8.trans ((kq (a := 6) (b := 5) eσ2 (by omega))))))), (kq (a := 7) (b := 4) eσ995 (by omega)).trans ((kq (a := 7) (b := 4) eσ913 (by omega)).trans (k900.trans (k596.trans (k9.trans ((kq (a := 7) (b := 4) eσ2 (by omega))))))), (kq (a := 2) (b := 4) eσ995 (by omega)).trans ((kq (a := 2) (b := 4) eσ913 (by omega)).trans (k901.trans (k597.trans (k10.trans ((kq (a := 2) (b := 4) eσ2 (by omega)))))))⟩)
                    · have f999 := mt Int32.toInt_inj.mp c965
                      have f1002 := tB r602
                      have f1004 := K1.g_3_7 hσ913
                      have q1005 : σ913.1 3 7 = σ894.1 3 7 := by rw [eσ913]; exact congrFun (u1_ne (by omega)) 7
                      have f1006 := congrArg Int32.toInt q1005
                      have f1007 := K1.g_3_7 hσ894
                      have f1008 := congrArg Int32.toInt k895
                      have f1009 := K1.g_3_7 hσ590
                      have f1010 := congrArg Int32.toInt k591
                      have f1011 := K1.g_3_7 hσ3
                      have f1012 := congrArg Int32.toInt k4
                      have f1013 := K1.g_3_7 hσ2
                      have q1014 : σ2.1 3 7 = σ.1 3 7 := by rw [eσ2, u1_at]; exact if_neg (by decide)
                      have f1015 := congrArg Int32.toInt q1014
                      have f1016 := K1.g_3_7 hσ
                      refine sX2_act hN hk1 (by omega) hσ913 (fun σ1003 hσ1003 kk1022 => ?_)
                      obtain ⟨k1017, k1018, k1019, k1020, k1021⟩ := kk1022
                      exact hQ _ hσ1003 (⟨k1017.trans ((kq (a := 9) (b := 9) eσ913 (by omega)).trans (k897.trans (k593.trans (k6.trans ((kq (a := 9) (b := 9) eσ2 (by omega))))))), k1018.trans ((kq (a := 9) (b := 10) eσ913 (by omega)).trans (k898.trans (k594.trans (k7.trans ((kq (a := 9) (b := 10) eσ2 (by omega))))))), k1019.trans ((kq (a := 6) (b := 5) eσ913 (by omega)).trans (k899.trans (k595.trans (k8.trans ((kq (a := 6) (b := 5) eσ2 (by omega))))))), k1020.trans ((kq (a := 7) (b := 4) eσ913 (by omega)).trans (k900.trans (k596.trans (k9.trans ((kq (a := 7) (b := 4) eσ2 (by omega))))))), k1021.trans ((kq (a := 2) (b := 4) eσ913 (by omega)).trans (k901.trans (k597.trans (k10.trans ((kq (a := 2) (b := 4) eσ2 (by omega)))))))⟩)
                · have f1023 := tB (σ894.1 3 11)
                  have f1025 := mt Int32.toInt_inj.mp c908
                  exact hQ _ hσ894 (⟨k897.trans (k593.trans (k6.trans ((kq (a := 9) (b := 9) eσ2 (by omega))))), k898.trans (k594.trans (k7.trans ((kq (a := 9) (b := 10) eσ2 (by omega))))), k899.trans (k595.trans (k8.trans ((kq (a := 6) (b := 5) eσ2 (by omega))))), k900.trans (k596.trans (k9.trans ((kq (a := 7) (b := 4) eσ2 (by omega))))), k901.trans (k597.trans (k10.trans ((kq (a := 2) (b := 4) eσ2 (by omega)))))⟩)
              · have f1027 : (2 : Int32).toInt = 2 := by decide
                have f1028 := mt Int32.toInt_inj.mp c890
                unfold fX2_doOrder_j122
                refine ⟨fun c1029 => ?_, fun c1029 => ?_⟩
                · have f1030 := tB (σ590.1 3 11)
                  have f1032 := congrArg Int32.toInt c1029
                  intro v1033 ev1033
                  intro σ1034 eσ1034
                  have kb1035 := jobK_b hk1
                  have hσ1034 : K1 σ0 σ1034 := by rw [eσ1034]; exact hσ590.u (rg_jobK hk1) (by omega) (by omega)
                  have g1037 : vp_in r15 18 := inI (by omega) (by omega)
                  refine ⟨g1037, ?_⟩
                  refine ⟨fun c1038 => ?_, fun c1038 => ?_⟩
                  · have f1041 := congrArg Int32.toInt c1038
                    have f1044 := tB r602
                    refine sX2_valueFor hN hσ1034 (fun r1057 σ1045 hσ1045 kk1056 p1058 => ?_)
                    obtain ⟨k1046, k1047, k1048, k1049, k1050, k1051, k1052, k1053, k1054, k1055⟩ := kk1056
                    refine ⟨fun c1059 => ?_, fun c1059 => ?_⟩
                    · have f1060 := tB (σ1045.1 3 11)
                      have f1062 := congrArg Int32.toInt c1059
                      have f1063 : (255 : Int32).toInt = 255 := by decide
                      have f1064 := tB r1057
                      refine sX1_setLocal hN hk1 hσ1045 (fun σ1065 hσ1065 kk1077 => ?_)
                      obtain ⟨k1066, k1067, k1068, k1069, k1070, k1071, k1072, k1073, k1074, k1075, k1076⟩ := kk1077
                      unfold fX2_doOrder_j174
                      exact hQ _ hσ1065 (⟨k1069.trans (k1048.trans ((kq (a := 9) (b := 9) eσ1034 (by omega)).trans (k593.trans (k6.trans ((kq (a := 9) (b := 9) eσ2 (by omega))))))), k1070.trans (k1049.trans ((kq (a := 9) (b := 10) eσ1034 (by omega)).trans (k594.trans (k7.trans ((kq (a := 9) (b := 10) eσ2 (by omega))))))), k1071.trans (k1050.trans ((kq (a := 6) (b := 5) eσ1034 (by omega)).trans (k595.trans (k8.trans ((kq (a := 6) (b := 5) eσ2 (by omega))))))), k1072.trans (k1051.trans ((kq (a := 7) (b := 4) eσ1034 (by omega)).trans (k596.trans (k9.trans ((kq (a := 7) (b := 4) eσ2 (by omega))))))), k1073.trans (k1052.trans ((kq (a := 2) (b := 4) eσ1034 (by omega)).trans (k597.trans (k10.trans ((kq (a := 2) (b := 4) eσ2 (by omega)))))))⟩)
                    · have f1078 := tB (σ1045.1 3 11)
                      have f1080 := mt Int32.toInt_inj.mp c1059
                      unfold fX2_doOrder_j174
                      exact hQ _ hσ1045 (⟨k1048.trans ((kq (a := 9) (b := 9) eσ1034 (by omega)).trans (k593.trans (k6.trans ((kq (a := 9) (b := 9) eσ2 (by omega)))))), k1049.trans ((kq (a := 9) (b := 10) eσ1034 (by omega)).trans (k594.trans (k7.trans ((kq (a := 9) (b := 10) eσ2 (by omega)))))), k1050.trans ((kq (a := 6) (b := 5) eσ1034 (by omega)).trans (k595.trans (k8.trans ((kq (a := 6) (b := 5) eσ2 (by omega)))))), k1051.trans ((kq (a := 7) (b := 4) eσ1034 (by omega)).trans (k596.trans (k9.trans ((kq (a := 7) (b := 4) eσ2 (by omega)))))), k1052.trans ((kq (a := 2) (b := 4) eσ1034 (by omega)).trans (k597.trans (k10.trans ((kq (a := 2) (b := 4) eσ2 (by omega))))))⟩)
                  · have f1083 := mt Int32.toInt_inj.mp c1038
                    have g1085 : vp_in r15 18 := inI (by omega) (by omega)
                    refine ⟨g1085, ?_⟩
                    refine ⟨fun c1086 => ?_, fun c1086 => ?_⟩
                    · have f1089 := congrArg Int32.toInt c1086
                      have f1092 := tB r602
                      refine sX2_goesThere hN hσ1034 (fun r1106 p1107 => ?_)
                      refine ⟨fun c1108 => ?_, fun c1108 => ?_⟩
                      · have f1109 := tB r1106
                        have f1111 := congrArg Int32.toInt c1108
                        exact hQ _ hσ1034 (⟨(kq (a := 9) (b := 9) eσ1034 (by omega)).trans (k593.trans (k6.trans ((kq (a := 9) (b := 9) eσ2 (by omega))))), (kq (a := 9) (b := 10) eσ1034 (by omega)).trans (k594.trans (k7.trans ((kq (a := 9) (b := 10) eσ2 (by omega))))), (kq (a := 6) (b := 5) eσ1034 (by omega)).trans (k595.trans (k8.trans ((kq (a := 6) (b := 5) eσ2 (by omega))))), (kq (a := 7) (b := 4) eσ1034 (by omega)).trans (k596.trans (k9.trans ((kq (a := 7) (b := 4) eσ2 (by omega))))), (kq (a := 2) (b := 4) eσ1034 (by omega)).trans (k597.trans (k10.trans ((kq (a := 2) (b := 4) eσ2 (by omega)))))⟩)
                      · have f1112 := tB r1106
                        have f1114 := mt Int32.toInt_inj.mp c1108
                        intro v1115 ev1115
                        intro σ1116 eσ1116
                        have kb1117 := jobK_b hk1
                        have hσ1116 : K1 σ0 σ1116 := by rw [eσ1116]; exact hσ1034.u (rg_jobK hk1) (by omega) (by omega)
                        exact hQ _ hσ1116 (⟨(kq (a := 9) (b := 9) eσ1116 (by omega)).trans ((kq (a := 9) (b := 9) eσ1034 (by omega)).trans (k593.trans (k6.trans ((kq (a := 9) (b := 9) eσ2 (by omega)))))), (kq (a := 9) (b := 10) eσ1116 (by omega)).trans ((kq (a := 9) (b := 10) eσ1034 (by omega)).trans (k594.trans (k7.trans ((kq (a := 9) (b := 10) eσ2 (by omega)))))), (kq (a := 6) (b := 5) eσ1116 (by omega)).trans ((kq (a := 6) (b := 5) eσ1034 (by omega)).trans (k595.trans (k8.trans ((kq (a := 6) (b := 5) eσ2 (by omega)))))), (kq (a := 7) (b := 4) eσ1116 (by omega)).trans ((kq (a := 7) (b := 4) eσ1034 (by omega)).trans (k596.trans (k9.trans ((kq (a := 7) (b := 4) eσ2 (by omega)))))), (kq (a := 2) (b := 4) eσ1116 (by omega)).trans ((kq (a := 2) (b := 4) eσ1034 (by omega)).trans (k597.trans (k10.trans ((kq (a := 2) (b := 4) eσ2 (by omega))))))⟩)
                    · have f1120 := mt Int32.toInt_inj.mp c1086
                      have f1123 := tB r602
                      have f1125 := K1.g_3_7 hσ1034
                      have q1126 : σ1034.1 3 7 = σ590.1 3 7 := by rw [eσ1034]; exact congrFun (u1_ne (by omega)) 7
                      have f1127 := congrArg Int32.toInt q1126
                      have f1128 := K1.g_3_7 hσ590
                      have f1129 := congrArg Int32.toInt k591
                      have f1130 := K1.g_3_7 hσ3
                      have f1131 := congrArg Int32.toInt k4
                      have f1132 := K1.g_3_7 hσ2
                      have q1133 : σ2.1 3 7 = σ.1 3 7 := by rw [eσ2, u1_at]; exact if_neg (by decide)
                      have f1134 := congrArg Int32.toInt q1133
                      have f1135 := K1.g_3_7 hσ
                      refine sX2_act hN hk1 (by omega) hσ1034 (fun σ1124 hσ1124 kk1141 => ?_)
                      obtain ⟨k1136, k1137, k1138, k1139, k1140⟩ := kk1141
                      exact hQ _ hσ1124 (⟨k1136.trans ((kq (a := 9) (b := 9) eσ1034 (by omega)).trans (k593.trans (k6.trans ((kq (a := 9) (b := 9) eσ2 (by omega)))))), k1137.trans ((kq (a := 9) (b := 10) eσ1034 (by omega)).trans (k594.trans (k7.trans ((kq (a := 9) (b := 10) eσ2 (by omega)))))), k1138.trans ((kq (a := 6) (b := 5) eσ1034 (by omega)).trans (k595.trans (k8.trans ((kq (a := 6) (b := 5) eσ2 (by omega)))))), k1139.trans ((kq (a := 7) (b := 4) eσ1034 (by omega)).trans (k596.trans (k9.trans ((kq (a := 7) (b := 4) eσ2 (by omega)))))), k1140.trans ((kq (a := 2) (b := 4) eσ1034 (by omega)).trans (k597.trans (k10.trans ((kq (a := 2) (b := 4) eσ2 (by omega))))))⟩)
                · have f1142 := tB (σ590.1 3 11)
                  have f1144 := mt Int32.toInt_inj.mp c1029
                  exact hQ _ hσ590 (⟨k593.trans (k6.trans ((kq (a := 9) (b := 9) eσ2 (by omega)))), k594.trans (k7.trans ((kq (a := 9) (b := 10) eσ2 (by omega)))), k595.trans (k8.trans ((kq (a := 6) (b := 5) eσ2 (by omega)))), k596.trans (k9.trans ((kq (a := 7) (b := 4) eσ2 (by omega)))), k597.trans (k10.trans ((kq (a := 2) (b := 4) eσ2 (by omega))))⟩)
        · have f1145 := tB (jV r15.toNatClampNeg)
          have f1147 := mt Int32.le_iff_toInt_le.mpr c44
          refine sX2_nextValue hN hk1 hσ3 (fun r1160 σ1148 hσ1148 kk1159 p1161 => ?_)
          obtain ⟨k1149, k1150, k1151, k1152, k1153, k1154, k1155, k1156, k1157, k1158⟩ := kk1159
          unfold fX2_doOrder_j62
          have g1163 : vp_in r15 18 := inI (by omega) (by omega)
          refine ⟨g1163, ?_⟩
          refine ⟨fun c1164 => ?_, fun c1164 => ?_⟩
          · have f1166 : (1 : Int32).toInt = 1 := by decide
            have f1167 := Int32.le_iff_toInt_le.mp c1164
            unfold fX2_doOrder_j81
            have g1169 : vp_in r15 18 := inI (by omega) (by omega)
            refine ⟨g1169, ?_⟩
            refine ⟨fun c1170 => ?_, fun c1170 => ?_⟩
            · have f1171 := tB (jT r15.toNatClampNeg)
              have f1173 := congrArg Int32.toInt c1170
              refine sX2_nextTarget hN hk1 hσ1148 (fun r1186 σ1174 hσ1174 kk1185 p1187 => ?_)
              obtain ⟨k1175, k1176, k1177, k1178, k1179, k1180, k1181, k1182, k1183, k1184⟩ := kk1185
              unfold fX2_doOrder_j103
              have g1189 : vp_in r15 18 := inI (by omega) (by omega)
              refine ⟨g1189, ?_⟩
              refine ⟨fun c1190 => ?_, fun c1190 => ?_⟩
              · have f1192 : (2 : Int32).toInt = 2 := by decide
                have f1193 := congrArg Int32.toInt c1190
                refine sX2_nextDistance hN hσ1174 (fun r1206 σ1194 hσ1194 kk1205 p1207 => ?_)
                obtain ⟨k1195, k1196, k1197, k1198, k1199, k1200, k1201, k1202, k1203, k1204⟩ := kk1205
                unfold fX2_doOrder_j122
                refine ⟨fun c1208 => ?_, fun c1208 => ?_⟩
                · have f1209 := tB (σ1194.1 3 11)
                  have f1211 := congrArg Int32.toInt c1208
                  intro v1212 ev1212
                  intro σ1213 eσ1213
                  have kb1214 := jobK_b hk1
                  have hσ1213 : K1 σ0 σ1213 := by rw [eσ1213]; exact hσ1194.u (rg_jobK hk1) (by omega) (by omega)
                  have g1216 : vp_in r15 18 := inI (by omega) (by omega)
                  refine ⟨g1216, ?_⟩
                  refine ⟨fun c1217 => ?_, fun c1217 => ?_⟩
                  · have f1220 := congrArg Int32.toInt c1217
                    have f1222 := tB r1160
                    refine sX2_valueFor hN hσ1213 (fun r1236 σ1224 hσ1224 kk1235 p1237 => ?_)
                    obtain ⟨k1225, k1226, k1227, k1228, k1229, k1230, k1231, k1232, k1233, k1234⟩ := kk1235
                    refine ⟨fun c1238 => ?_, fun c1238 => ?_⟩
                    · have f1239 := tB (σ1224.1 3 11)
                      have f1241 := congrArg Int32.toInt c1238
                      have f1242 := tB r1186
                      have f1243 := tB r1236
                      refine sX1_setLocal hN hk1 hσ1224 (fun σ1244 hσ1244 kk1256 => ?_)
                      obtain ⟨k1245, k1246, k1247, k1248, k1249, k1250, k1251, k1252, k1253, k1254, k1255⟩ := kk1256
                      unfold fX2_doOrder_j174
                      exact hQ _ hσ1244 (⟨k1248.trans (k1227.trans ((kq (a := 9) (b := 9) eσ1213 (by omega)).trans (k1197.trans (k1177.trans (k1151.trans (k6.trans ((kq (a := 9) (b := 9) eσ2 (by omega))))))))), k1249.trans (k1228.trans ((kq (a := 9) (b := 10) eσ1213 (by omega)).trans (k1198.trans (k1178.trans (k1152.trans (k7.trans ((kq (a := 9) (b := 10) eσ2 (by omega))))))))), k1250.trans (k1229.trans ((kq (a := 6) (b := 5) eσ1213 (by omega)).trans (k1199.trans (k1179.trans (k1153.trans (k8.trans ((kq (a := 6) (b := 5) eσ2 (by omega))))))))), k1251.trans (k1230.trans ((kq (a := 7) (b := 4) eσ1213 (by omega)).trans (k1200.trans (k1180.trans (k1154.trans (k9.trans ((kq (a := 7) (b := 4) eσ2 (by omega))))))))), k1252.trans (k1231.trans ((kq (a := 2) (b := 4) eσ1213 (by omega)).trans (k1201.trans (k1181.trans (k1155.trans (k10.trans ((kq (a := 2) (b := 4) eσ2 (by omega)))))))))⟩)
                    · have f1257 := tB (σ1224.1 3 11)
                      have f1259 := mt Int32.toInt_inj.mp c1238
                      unfold fX2_doOrder_j174
                      exact hQ _ hσ1224 (⟨k1227.trans ((kq (a := 9) (b := 9) eσ1213 (by omega)).trans (k1197.trans (k1177.trans (k1151.trans (k6.trans ((kq (a := 9) (b := 9) eσ2 (by omega)))))))), k1228.trans ((kq (a := 9) (b := 10) eσ1213 (by omega)).trans (k1198.trans (k1178.trans (k1152.trans (k7.trans ((kq (a := 9) (b := 10) eσ2 (by omega)))))))), k1229.trans ((kq (a := 6) (b := 5) eσ1213 (by omega)).trans (k1199.trans (k1179.trans (k1153.trans (k8.trans ((kq (a := 6) (b := 5) eσ2 (by omega)))))))), k1230.trans ((kq (a := 7) (b := 4) eσ1213 (by omega)).trans (k1200.trans (k1180.trans (k1154.trans (k9.trans ((kq (a := 7) (b := 4) eσ2 (by omega)))))))), k1231.trans ((kq (a := 2) (b := 4) eσ1213 (by omega)).trans (k1201.trans (k1181.trans (k1155.trans (k10.trans ((kq (a := 2) (b := 4) eσ2 (by omega))))))))⟩)
                  · have f1262 := mt Int32.toInt_inj.mp c1217
                    have g1264 : vp_in r15 18 := inI (by omega) (by omega)
                    refine ⟨g1264, ?_⟩
                    refine ⟨fun c1265 => ?_, fun c1265 => ?_⟩
                    · have f1268 := congrArg Int32.toInt c1265
                      have f1270 := tB r1160
                      refine sX2_goesThere hN hσ1213 (fun r1285 p1286 => ?_)
                      refine ⟨fun c1287 => ?_, fun c1287 => ?_⟩
                      · have f1288 := tB r1285
                        have f1290 := congrArg Int32.toInt c1287
                        exact hQ _ hσ1213 (⟨(kq (a := 9) (b := 9) eσ1213 (by omega)).trans (k1197.trans (k1177.trans (k1151.trans (k6.trans ((kq (a := 9) (b := 9) eσ2 (by omega))))))), (kq (a := 9) (b := 10) eσ1213 (by omega)).trans (k1198.trans (k1178.trans (k1152.trans (k7.trans ((kq (a := 9) (b := 10) eσ2 (by omega))))))), (kq (a := 6) (b := 5) eσ1213 (by omega)).trans (k1199.trans (k1179.trans (k1153.trans (k8.trans ((kq (a := 6) (b := 5) eσ2 (by omega))))))), (kq (a := 7) (b := 4) eσ1213 (by omega)).trans (k1200.trans (k1180.trans (k1154.trans (k9.trans ((kq (a := 7) (b := 4) eσ2 (by omega))))))), (kq (a := 2) (b := 4) eσ1213 (by omega)).trans (k1201.trans (k1181.trans (k1155.trans (k10.trans ((kq (a := 2) (b := 4) eσ2 (by omega)))))))⟩)
                      · have f1291 := tB r1285
                        have f1293 := mt Int32.toInt_inj.mp c1287
                        intro v1294 ev1294
                        intro σ1295 eσ1295
                        have kb1296 := jobK_b hk1
                        have hσ1295 : K1 σ0 σ1295 := by rw [eσ1295]; exact hσ1213.u (rg_jobK hk1) (by omega) (by omega)
                        exact hQ _ hσ1295 (⟨(kq (a := 9) (b := 9) eσ1295 (by omega)).trans ((kq (a := 9) (b := 9) eσ1213 (by omega)).trans (k1197.trans (k1177.trans (k1151.trans (k6.trans ((kq (a := 9) (b := 9) eσ2 (by omega)))))))), (kq (a := 9) (b := 10) eσ1295 (by omega)).trans ((kq (a := 9) (b := 10) eσ1213 (by omega)).trans (k1198.trans (k1178.trans (k1152.trans (k7.trans ((kq (a := 9) (b := 10) eσ2 (by omega)))))))), (kq (a := 6) (b := 5) eσ1295 (by omega)).trans ((kq (a := 6) (b := 5) eσ1213 (by omega)).trans (k1199.trans (k1179.trans (k1153.trans (k8.trans ((kq (a := 6) (b := 5) eσ2 (by omega)))))))), (kq (a := 7) (b := 4) eσ1295 (by omega)).trans ((kq (a := 7) (b := 4) eσ1213 (by omega)).trans (k1200.trans (k1180.trans (k1154.trans (k9.trans ((kq (a := 7) (b := 4) eσ2 (by omega)))))))), (kq (a := 2) (b := 4) eσ1295 (by omega)).trans ((kq (a := 2) (b := 4) eσ1213 (by omega)).trans (k1201.trans (k1181.trans (k1155.trans (k10.trans ((kq (a := 2) (b := 4) eσ2 (by omega))))))))⟩)
                    · have f1299 := mt Int32.toInt_inj.mp c1265
                      have f1301 := tB r1160
                      have f1304 := K1.g_3_7 hσ1213
                      have q1305 : σ1213.1 3 7 = σ1194.1 3 7 := by rw [eσ1213]; exact congrFun (u1_ne (by omega)) 7
                      have f1306 := congrArg Int32.toInt q1305
                      have f1307 := K1.g_3_7 hσ1194
                      have f1308 := congrArg Int32.toInt k1195
                      have f1309 := K1.g_3_7 hσ1174
                      have f1310 := congrArg Int32.toInt k1175
                      have f1311 := K1.g_3_7 hσ1148
                      have f1312 := congrArg Int32.toInt k1149
                      have f1313 := K1.g_3_7 hσ3
                      have f1314 := congrArg Int32.toInt k4
                      have f1315 := K1.g_3_7 hσ2
                      have q1316 : σ2.1 3 7 = σ.1 3 7 := by rw [eσ2, u1_at]; exact if_neg (by decide)
                      have f1317 := congrArg Int32.toInt q1316
                      have f1318 := K1.g_3_7 hσ
                      refine sX2_act hN hk1 (by omega) hσ1213 (fun σ1303 hσ1303 kk1324 => ?_)
                      obtain ⟨k1319, k1320, k1321, k1322, k1323⟩ := kk1324
                      exact hQ _ hσ1303 (⟨k1319.trans ((kq (a := 9) (b := 9) eσ1213 (by omega)).trans (k1197.trans (k1177.trans (k1151.trans (k6.trans ((kq (a := 9) (b := 9) eσ2 (by omega)))))))), k1320.trans ((kq (a := 9) (b := 10) eσ1213 (by omega)).trans (k1198.trans (k1178.trans (k1152.trans (k7.trans ((kq (a := 9) (b := 10) eσ2 (by omega)))))))), k1321.trans ((kq (a := 6) (b := 5) eσ1213 (by omega)).trans (k1199.trans (k1179.trans (k1153.trans (k8.trans ((kq (a := 6) (b := 5) eσ2 (by omega)))))))), k1322.trans ((kq (a := 7) (b := 4) eσ1213 (by omega)).trans (k1200.trans (k1180.trans (k1154.trans (k9.trans ((kq (a := 7) (b := 4) eσ2 (by omega)))))))), k1323.trans ((kq (a := 2) (b := 4) eσ1213 (by omega)).trans (k1201.trans (k1181.trans (k1155.trans (k10.trans ((kq (a := 2) (b := 4) eσ2 (by omega))))))))⟩)
                · have f1325 := tB (σ1194.1 3 11)
                  have f1327 := mt Int32.toInt_inj.mp c1208
                  exact hQ _ hσ1194 (⟨k1197.trans (k1177.trans (k1151.trans (k6.trans ((kq (a := 9) (b := 9) eσ2 (by omega)))))), k1198.trans (k1178.trans (k1152.trans (k7.trans ((kq (a := 9) (b := 10) eσ2 (by omega)))))), k1199.trans (k1179.trans (k1153.trans (k8.trans ((kq (a := 6) (b := 5) eσ2 (by omega)))))), k1200.trans (k1180.trans (k1154.trans (k9.trans ((kq (a := 7) (b := 4) eσ2 (by omega)))))), k1201.trans (k1181.trans (k1155.trans (k10.trans ((kq (a := 2) (b := 4) eσ2 (by omega))))))⟩)
              · have f1329 : (2 : Int32).toInt = 2 := by decide
                have f1330 := mt Int32.toInt_inj.mp c1190
                unfold fX2_doOrder_j122
                refine ⟨fun c1331 => ?_, fun c1331 => ?_⟩
                · have f1332 := tB (σ1174.1 3 11)
                  have f1334 := congrArg Int32.toInt c1331
                  intro v1335 ev1335
                  intro σ1336 eσ1336
                  have kb1337 := jobK_b hk1
                  have hσ1336 : K1 σ0 σ1336 := by rw [eσ1336]; exact hσ1174.u (rg_jobK hk1) (by omega) (by omega)
                  have g1339 : vp_in r15 18 := inI (by omega) (by omega)
                  refine ⟨g1339, ?_⟩
                  refine ⟨fun c1340 => ?_, fun c1340 => ?_⟩
                  · have f1343 := congrArg Int32.toInt c1340
                    have f1345 := tB r1160
                    refine sX2_valueFor hN hσ1336 (fun r1359 σ1347 hσ1347 kk1358 p1360 => ?_)
                    obtain ⟨k1348, k1349, k1350, k1351, k1352, k1353, k1354, k1355, k1356, k1357⟩ := kk1358
                    refine ⟨fun c1361 => ?_, fun c1361 => ?_⟩
                    · have f1362 := tB (σ1347.1 3 11)
                      have f1364 := congrArg Int32.toInt c1361
                      have f1365 := tB r1186
                      have f1366 := tB r1359
                      refine sX1_setLocal hN hk1 hσ1347 (fun σ1367 hσ1367 kk1379 => ?_)
                      obtain ⟨k1368, k1369, k1370, k1371, k1372, k1373, k1374, k1375, k1376, k1377, k1378⟩ := kk1379
                      unfold fX2_doOrder_j174
                      exact hQ _ hσ1367 (⟨k1371.trans (k1350.trans ((kq (a := 9) (b := 9) eσ1336 (by omega)).trans (k1177.trans (k1151.trans (k6.trans ((kq (a := 9) (b := 9) eσ2 (by omega)))))))), k1372.trans (k1351.trans ((kq (a := 9) (b := 10) eσ1336 (by omega)).trans (k1178.trans (k1152.trans (k7.trans ((kq (a := 9) (b := 10) eσ2 (by omega)))))))), k1373.trans (k1352.trans ((kq (a := 6) (b := 5) eσ1336 (by omega)).trans (k1179.trans (k1153.trans (k8.trans ((kq (a := 6) (b := 5) eσ2 (by omega)))))))), k1374.trans (k1353.trans ((kq (a := 7) (b := 4) eσ1336 (by omega)).trans (k1180.trans (k1154.trans (k9.trans ((kq (a := 7) (b := 4) eσ2 (by omega)))))))), k1375.trans (k1354.trans ((kq (a := 2) (b := 4) eσ1336 (by omega)).trans (k1181.trans (k1155.trans (k10.trans ((kq (a := 2) (b := 4) eσ2 (by omega))))))))⟩)
                    · have f1380 := tB (σ1347.1 3 11)
                      have f1382 := mt Int32.toInt_inj.mp c1361
                      unfold fX2_doOrder_j174
                      exact hQ _ hσ1347 (⟨k1350.trans ((kq (a := 9) (b := 9) eσ1336 (by omega)).trans (k1177.trans (k1151.trans (k6.trans ((kq (a := 9) (b := 9) eσ2 (by omega))))))), k1351.trans ((kq (a := 9) (b := 10) eσ1336 (by omega)).trans (k1178.trans (k1152.trans (k7.trans ((kq (a := 9) (b := 10) eσ2 (by omega))))))), k1352.trans ((kq (a := 6) (b := 5) eσ1336 (by omega)).trans (k1179.trans (k1153.trans (k8.trans ((kq (a := 6) (b := 5) eσ2 (by omega))))))), k1353.trans ((kq (a := 7) (b := 4) eσ1336 (by omega)).trans (k1180.trans (k1154.trans (k9.trans ((kq (a := 7) (b := 4) eσ2 (by omega))))))), k1354.trans ((kq (a := 2) (b := 4) eσ1336 (by omega)).trans (k1181.trans (k1155.trans (k10.trans ((kq (a := 2) (b := 4) eσ2 (by omega)))))))⟩)
                  · have f1385 := mt Int32.toInt_inj.mp c1340
                    have g1387 : vp_in r15 18 := inI (by omega) (by omega)
                    refine ⟨g1387, ?_⟩
                    refine ⟨fun c1388 => ?_, fun c1388 => ?_⟩
                    · have f1391 := congrArg Int32.toInt c1388
                      have f1393 := tB r1160
                      refine sX2_goesThere hN hσ1336 (fun r1408 p1409 => ?_)
                      refine ⟨fun c1410 => ?_, fun c1410 => ?_⟩
                      · have f1411 := tB r1408
                        have f1413 := congrArg Int32.toInt c1410
                        exact hQ _ hσ1336 (⟨(kq (a := 9) (b := 9) eσ1336 (by omega)).trans (k1177.trans (k1151.trans (k6.trans ((kq (a := 9) (b := 9) eσ2 (by omega)))))), (kq (a := 9) (b := 10) eσ1336 (by omega)).trans (k1178.trans (k1152.trans (k7.trans ((kq (a := 9) (b := 10) eσ2 (by omega)))))), (kq (a := 6) (b := 5) eσ1336 (by omega)).trans (k1179.trans (k1153.trans (k8.trans ((kq (a := 6) (b := 5) eσ2 (by omega)))))), (kq (a := 7) (b := 4) eσ1336 (by omega)).trans (k1180.trans (k1154.trans (k9.trans ((kq (a := 7) (b := 4) eσ2 (by omega)))))), (kq (a := 2) (b := 4) eσ1336 (by omega)).trans (k1181.trans (k1155.trans (k10.trans ((kq (a := 2) (b := 4) eσ2 (by omega))))))⟩)
                      · have f1414 := tB r1408
                        have f1416 := mt Int32.toInt_inj.mp c1410
                        intro v1417 ev1417
                        intro σ1418 eσ1418
                        have kb1419 := jobK_b hk1
                        have hσ1418 : K1 σ0 σ1418 := by rw [eσ1418]; exact hσ1336.u (rg_jobK hk1) (by omega) (by omega)
                        exact hQ _ hσ1418 (⟨(kq (a := 9) (b := 9) eσ1418 (by omega)).trans ((kq (a := 9) (b := 9) eσ1336 (by omega)).trans (k1177.trans (k1151.trans (k6.trans ((kq (a := 9) (b := 9) eσ2 (by omega))))))), (kq (a := 9) (b := 10) eσ1418 (by omega)).trans ((kq (a := 9) (b := 10) eσ1336 (by omega)).trans (k1178.trans (k1152.trans (k7.trans ((kq (a := 9) (b := 10) eσ2 (by omega))))))), (kq (a := 6) (b := 5) eσ1418 (by omega)).trans ((kq (a := 6) (b := 5) eσ1336 (by omega)).trans (k1179.trans (k1153.trans (k8.trans ((kq (a := 6) (b := 5) eσ2 (by omega))))))), (kq (a := 7) (b := 4) eσ1418 (by omega)).trans ((kq (a := 7) (b := 4) eσ1336 (by omega)).trans (k1180.trans (k1154.trans (k9.trans ((kq (a := 7) (b := 4) eσ2 (by omega))))))), (kq (a := 2) (b := 4) eσ1418 (by omega)).trans ((kq (a := 2) (b := 4) eσ1336 (by omega)).trans (k1181.trans (k1155.trans (k10.trans ((kq (a := 2) (b := 4) eσ2 (by omega)))))))⟩)
                    · have f1422 := mt Int32.toInt_inj.mp c1388
                      have f1424 := tB r1160
                      have f1427 := K1.g_3_7 hσ1336
                      have q1428 : σ1336.1 3 7 = σ1174.1 3 7 := by rw [eσ1336]; exact congrFun (u1_ne (by omega)) 7
                      have f1429 := congrArg Int32.toInt q1428
                      have f1430 := K1.g_3_7 hσ1174
                      have f1431 := congrArg Int32.toInt k1175
                      have f1432 := K1.g_3_7 hσ1148
                      have f1433 := congrArg Int32.toInt k1149
                      have f1434 := K1.g_3_7 hσ3
                      have f1435 := congrArg Int32.toInt k4
                      have f1436 := K1.g_3_7 hσ2
                      have q1437 : σ2.1 3 7 = σ.1 3 7 := by rw [eσ2, u1_at]; exact if_neg (by decide)
                      have f1438 := congrArg Int32.toInt q1437
                      have f1439 := K1.g_3_7 hσ
                      refine sX2_act hN hk1 (by omega) hσ1336 (fun σ1426 hσ1426 kk1445 => ?_)
                      obtain ⟨k1440, k1441, k1442, k1443, k1444⟩ := kk1445
                      exact hQ _ hσ1426 (⟨k1440.trans ((kq (a := 9) (b := 9) eσ1336 (by omega)).trans (k1177.trans (k1151.trans (k6.trans ((kq (a := 9) (b := 9) eσ2 (by omega))))))), k1441.trans ((kq (a := 9) (b := 10) eσ1336 (by omega)).trans (k1178.trans (k1152.trans (k7.trans ((kq (a := 9) (b := 10) eσ2 (by omega))))))), k1442.trans ((kq (a := 6) (b := 5) eσ1336 (by omega)).trans (k1179.trans (k1153.trans (k8.trans ((kq (a := 6) (b := 5) eσ2 (by omega))))))), k1443.trans ((kq (a := 7) (b := 4) eσ1336 (by omega)).trans (k1180.trans (k1154.trans (k9.trans ((kq (a := 7) (b := 4) eσ2 (by omega))))))), k1444.trans ((kq (a := 2) (b := 4) eσ1336 (by omega)).trans (k1181.trans (k1155.trans (k10.trans ((kq (a := 2) (b := 4) eσ2 (by omega)))))))⟩)
                · have f1446 := tB (σ1174.1 3 11)
                  have f1448 := mt Int32.toInt_inj.mp c1331
                  exact hQ _ hσ1174 (⟨k1177.trans (k1151.trans (k6.trans ((kq (a := 9) (b := 9) eσ2 (by omega))))), k1178.trans (k1152.trans (k7.trans ((kq (a := 9) (b := 10) eσ2 (by omega))))), k1179.trans (k1153.trans (k8.trans ((kq (a := 6) (b := 5) eσ2 (by omega))))), k1180.trans (k1154.trans (k9.trans ((kq (a := 7) (b := 4) eσ2 (by omega))))), k1181.trans (k1155.trans (k10.trans ((kq (a := 2) (b := 4) eσ2 (by omega)))))⟩)
            · have f1449 := tB (jT r15.toNatClampNeg)
              have f1451 := mt Int32.toInt_inj.mp c1170
              unfold fX2_doOrder_j103
              have g1453 : vp_in r15 18 := inI (by omega) (by omega)
              refine ⟨g1453, ?_⟩
              refine ⟨fun c1454 => ?_, fun c1454 => ?_⟩
              · have f1456 : (2 : Int32).toInt = 2 := by decide
                have f1457 := congrArg Int32.toInt c1454
                refine sX2_nextDistance hN hσ1148 (fun r1470 σ1458 hσ1458 kk1469 p1471 => ?_)
                obtain ⟨k1459, k1460, k1461, k1462, k1463, k1464, k1465, k1466, k1467, k1468⟩ := kk1469
                unfold fX2_doOrder_j122
                refine ⟨fun c1472 => ?_, fun c1472 => ?_⟩
                · have f1473 := tB (σ1458.1 3 11)
                  have f1475 := congrArg Int32.toInt c1472
                  intro v1476 ev1476
                  intro σ1477 eσ1477
                  have kb1478 := jobK_b hk1
                  have hσ1477 : K1 σ0 σ1477 := by rw [eσ1477]; exact hσ1458.u (rg_jobK hk1) (by omega) (by omega)
                  have g1480 : vp_in r15 18 := inI (by omega) (by omega)
                  refine ⟨g1480, ?_⟩
                  refine ⟨fun c1481 => ?_, fun c1481 => ?_⟩
                  · have f1484 := congrArg Int32.toInt c1481
                    have f1486 := tB r1160
                    refine sX2_valueFor hN hσ1477 (fun r1500 σ1488 hσ1488 kk1499 p1501 => ?_)
                    obtain ⟨k1489, k1490, k1491, k1492, k1493, k1494, k1495, k1496, k1497, k1498⟩ := kk1499
                    refine ⟨fun c1502 => ?_, fun c1502 => ?_⟩
                    · have f1503 := tB (σ1488.1 3 11)
                      have f1505 := congrArg Int32.toInt c1502
                      have f1506 : (255 : Int32).toInt = 255 := by decide
                      have f1507 := tB r1500
                      refine sX1_setLocal hN hk1 hσ1488 (fun σ1508 hσ1508 kk1520 => ?_)
                      obtain ⟨k1509, k1510, k1511, k1512, k1513, k1514, k1515, k1516, k1517, k1518, k1519⟩ := kk1520
                      unfold fX2_doOrder_j174
                      exact hQ _ hσ1508 (⟨k1512.trans (k1491.trans ((kq (a := 9) (b := 9) eσ1477 (by omega)).trans (k1461.trans (k1151.trans (k6.trans ((kq (a := 9) (b := 9) eσ2 (by omega)))))))), k1513.trans (k1492.trans ((kq (a := 9) (b := 10) eσ1477 (by omega)).trans (k1462.trans (k1152.trans (k7.trans ((kq (a := 9) (b := 10) eσ2 (by omega)))))))), k1514.trans (k1493.trans ((kq (a := 6) (b := 5) eσ1477 (by omega)).trans (k1463.trans (k1153.trans (k8.trans ((kq (a := 6) (b := 5) eσ2 (by omega)))))))), k1515.trans (k1494.trans ((kq (a := 7) (b := 4) eσ1477 (by omega)).trans (k1464.trans (k1154.trans (k9.trans ((kq (a := 7) (b := 4) eσ2 (by omega)))))))), k1516.trans (k1495.trans ((kq (a := 2) (b := 4) eσ1477 (by omega)).trans (k1465.trans (k1155.trans (k10.trans ((kq (a := 2) (b := 4) eσ2 (by omega))))))))⟩)
                    · have f1521 := tB (σ1488.1 3 11)
                      have f1523 := mt Int32.toInt_inj.mp c1502
                      unfold fX2_doOrder_j174
                      exact hQ _ hσ1488 (⟨k1491.trans ((kq (a := 9) (b := 9) eσ1477 (by omega)).trans (k1461.trans (k1151.trans (k6.trans ((kq (a := 9) (b := 9) eσ2 (by omega))))))), k1492.trans ((kq (a := 9) (b := 10) eσ1477 (by omega)).trans (k1462.trans (k1152.trans (k7.trans ((kq (a := 9) (b := 10) eσ2 (by omega))))))), k1493.trans ((kq (a := 6) (b := 5) eσ1477 (by omega)).trans (k1463.trans (k1153.trans (k8.trans ((kq (a := 6) (b := 5) eσ2 (by omega))))))), k1494.trans ((kq (a := 7) (b := 4) eσ1477 (by omega)).trans (k1464.trans (k1154.trans (k9.trans ((kq (a := 7) (b := 4) eσ2 (by omega))))))), k1495.trans ((kq (a := 2) (b := 4) eσ1477 (by omega)).trans (k1465.trans (k1155.trans (k10.trans ((kq (a := 2) (b := 4) eσ2 (by omega)))))))⟩)
                  · have f1526 := mt Int32.toInt_inj.mp c1481
                    have g1528 : vp_in r15 18 := inI (by omega) (by omega)
                    refine ⟨g1528, ?_⟩
                    refine ⟨fun c1529 => ?_, fun c1529 => ?_⟩
                    · have f1532 := congrArg Int32.toInt c1529
                      have f1534 := tB r1160
                      refine sX2_goesThere hN hσ1477 (fun r1549 p1550 => ?_)
                      refine ⟨fun c1551 => ?_, fun c1551 => ?_⟩
                      · have f1552 := tB r1549
                        have f1554 := congrArg Int32.toInt c1551
                        exact hQ _ hσ1477 (⟨(kq (a := 9) (b := 9) eσ1477 (by omega)).trans (k1461.trans (k1151.trans (k6.trans ((kq (a := 9) (b := 9) eσ2 (by omega)))))), (kq (a := 9) (b := 10) eσ1477 (by omega)).trans (k1462.trans (k1152.trans (k7.trans ((kq (a := 9) (b := 10) eσ2 (by omega)))))), (kq (a := 6) (b := 5) eσ1477 (by omega)).trans (k1463.trans (k1153.trans (k8.trans ((kq (a := 6) (b := 5) eσ2 (by omega)))))), (kq (a := 7) (b := 4) eσ1477 (by omega)).trans (k1464.trans (k1154.trans (k9.trans ((kq (a := 7) (b := 4) eσ2 (by omega)))))), (kq (a := 2) (b := 4) eσ1477 (by omega)).trans (k1465.trans (k1155.trans (k10.trans ((kq (a := 2) (b := 4) eσ2 (by omega))))))⟩)
                      · have f1555 := tB r1549
                        have f1557 := mt Int32.toInt_inj.mp c1551
                        intro v1558 ev1558
                        intro σ1559 eσ1559
                        have kb1560 := jobK_b hk1
                        have hσ1559 : K1 σ0 σ1559 := by rw [eσ1559]; exact hσ1477.u (rg_jobK hk1) (by omega) (by omega)
                        exact hQ _ hσ1559 (⟨(kq (a := 9) (b := 9) eσ1559 (by omega)).trans ((kq (a := 9) (b := 9) eσ1477 (by omega)).trans (k1461.trans (k1151.trans (k6.trans ((kq (a := 9) (b := 9) eσ2 (by omega))))))), (kq (a := 9) (b := 10) eσ1559 (by omega)).trans ((kq (a := 9) (b := 10) eσ1477 (by omega)).trans (k1462.trans (k1152.trans (k7.trans ((kq (a := 9) (b := 10) eσ2 (by omega))))))), (kq (a := 6) (b := 5) eσ1559 (by omega)).trans ((kq (a := 6) (b := 5) eσ1477 (by omega)).trans (k1463.trans (k1153.trans (k8.trans ((kq (a := 6) (b := 5) eσ2 (by omega))))))), (kq (a := 7) (b := 4) eσ1559 (by omega)).trans ((kq (a := 7) (b := 4) eσ1477 (by omega)).trans (k1464.trans (k1154.trans (k9.trans ((kq (a := 7) (b := 4) eσ2 (by omega))))))), (kq (a := 2) (b := 4) eσ1559 (by omega)).trans ((kq (a := 2) (b := 4) eσ1477 (by omega)).trans (k1465.trans (k1155.trans (k10.trans ((kq (a := 2) (b := 4) eσ2 (by omega)))))))⟩)
                    · have f1563 := mt Int32.toInt_inj.mp c1529
                      have f1565 := tB r1160
                      have f1568 := K1.g_3_7 hσ1477
                      have q1569 : σ1477.1 3 7 = σ1458.1 3 7 := by rw [eσ1477]; exact congrFun (u1_ne (by omega)) 7
                      have f1570 := congrArg Int32.toInt q1569
                      have f1571 := K1.g_3_7 hσ1458
                      have f1572 := congrArg Int32.toInt k1459
                      have f1573 := K1.g_3_7 hσ1148
                      have f1574 := congrArg Int32.toInt k1149
                      have f1575 := K1.g_3_7 hσ3
                      have f1576 := congrArg Int32.toInt k4
                      have f1577 := K1.g_3_7 hσ2
                      have q1578 : σ2.1 3 7 = σ.1 3 7 := by rw [eσ2, u1_at]; exact if_neg (by decide)
                      have f1579 := congrArg Int32.toInt q1578
                      have f1580 := K1.g_3_7 hσ
                      refine sX2_act hN hk1 (by omega) hσ1477 (fun σ1567 hσ1567 kk1586 => ?_)
                      obtain ⟨k1581, k1582, k1583, k1584, k1585⟩ := kk1586
                      exact hQ _ hσ1567 (⟨k1581.trans ((kq (a := 9) (b := 9) eσ1477 (by omega)).trans (k1461.trans (k1151.trans (k6.trans ((kq (a := 9) (b := 9) eσ2 (by omega))))))), k1582.trans ((kq (a := 9) (b := 10) eσ1477 (by omega)).trans (k1462.trans (k1152.trans (k7.trans ((kq (a := 9) (b := 10) eσ2 (by omega))))))), k1583.trans ((kq (a := 6) (b := 5) eσ1477 (by omega)).trans (k1463.trans (k1153.trans (k8.trans ((kq (a := 6) (b := 5) eσ2 (by omega))))))), k1584.trans ((kq (a := 7) (b := 4) eσ1477 (by omega)).trans (k1464.trans (k1154.trans (k9.trans ((kq (a := 7) (b := 4) eσ2 (by omega))))))), k1585.trans ((kq (a := 2) (b := 4) eσ1477 (by omega)).trans (k1465.trans (k1155.trans (k10.trans ((kq (a := 2) (b := 4) eσ2 (by omega)))))))⟩)
                · have f1587 := tB (σ1458.1 3 11)
                  have f1589 := mt Int32.toInt_inj.mp c1472
                  exact hQ _ hσ1458 (⟨k1461.trans (k1151.trans (k6.trans ((kq (a := 9) (b := 9) eσ2 (by omega))))), k1462.trans (k1152.trans (k7.trans ((kq (a := 9) (b := 10) eσ2 (by omega))))), k1463.trans (k1153.trans (k8.trans ((kq (a := 6) (b := 5) eσ2 (by omega))))), k1464.trans (k1154.trans (k9.trans ((kq (a := 7) (b := 4) eσ2 (by omega))))), k1465.trans (k1155.trans (k10.trans ((kq (a := 2) (b := 4) eσ2 (by omega)))))⟩)
              · have f1591 : (2 : Int32).toInt = 2 := by decide
                have f1592 := mt Int32.toInt_inj.mp c1454
                unfold fX2_doOrder_j122
                refine ⟨fun c1593 => ?_, fun c1593 => ?_⟩
                · have f1594 := tB (σ1148.1 3 11)
                  have f1596 := congrArg Int32.toInt c1593
                  intro v1597 ev1597
                  intro σ1598 eσ1598
                  have kb1599 := jobK_b hk1
                  have hσ1598 : K1 σ0 σ1598 := by rw [eσ1598]; exact hσ1148.u (rg_jobK hk1) (by omega) (by omega)
                  have g1601 : vp_in r15 18 := inI (by omega) (by omega)
                  refine ⟨g1601, ?_⟩
                  refine ⟨fun c1602 => ?_, fun c1602 => ?_⟩
                  · have f1605 := congrArg Int32.toInt c1602
                    have f1607 := tB r1160
                    refine sX2_valueFor hN hσ1598 (fun r1621 σ1609 hσ1609 kk1620 p1622 => ?_)
                    obtain ⟨k1610, k1611, k1612, k1613, k1614, k1615, k1616, k1617, k1618, k1619⟩ := kk1620
                    refine ⟨fun c1623 => ?_, fun c1623 => ?_⟩
                    · have f1624 := tB (σ1609.1 3 11)
                      have f1626 := congrArg Int32.toInt c1623
                      have f1627 : (255 : Int32).toInt = 255 := by decide
                      have f1628 := tB r1621
                      refine sX1_setLocal hN hk1 hσ1609 (fun σ1629 hσ1629 kk1641 => ?_)
                      obtain ⟨k1630, k1631, k1632, k1633, k1634, k1635, k1636, k1637, k1638, k1639, k1640⟩ := kk1641
                      unfold fX2_doOrder_j174
                      exact hQ _ hσ1629 (⟨k1633.trans (k1612.trans ((kq (a := 9) (b := 9) eσ1598 (by omega)).trans (k1151.trans (k6.trans ((kq (a := 9) (b := 9) eσ2 (by omega))))))), k1634.trans (k1613.trans ((kq (a := 9) (b := 10) eσ1598 (by omega)).trans (k1152.trans (k7.trans ((kq (a := 9) (b := 10) eσ2 (by omega))))))), k1635.trans (k1614.trans ((kq (a := 6) (b := 5) eσ1598 (by omega)).trans (k1153.trans (k8.trans ((kq (a := 6) (b := 5) eσ2 (by omega))))))), k1636.trans (k1615.trans ((kq (a := 7) (b := 4) eσ1598 (by omega)).trans (k1154.trans (k9.trans ((kq (a := 7) (b := 4) eσ2 (by omega))))))), k1637.trans (k1616.trans ((kq (a := 2) (b := 4) eσ1598 (by omega)).trans (k1155.trans (k10.trans ((kq (a := 2) (b := 4) eσ2 (by omega)))))))⟩)
                    · have f1642 := tB (σ1609.1 3 11)
                      have f1644 := mt Int32.toInt_inj.mp c1623
                      unfold fX2_doOrder_j174
                      exact hQ _ hσ1609 (⟨k1612.trans ((kq (a := 9) (b := 9) eσ1598 (by omega)).trans (k1151.trans (k6.trans ((kq (a := 9) (b := 9) eσ2 (by omega)))))), k1613.trans ((kq (a := 9) (b := 10) eσ1598 (by omega)).trans (k1152.trans (k7.trans ((kq (a := 9) (b := 10) eσ2 (by omega)))))), k1614.trans ((kq (a := 6) (b := 5) eσ1598 (by omega)).trans (k1153.trans (k8.trans ((kq (a := 6) (b := 5) eσ2 (by omega)))))), k1615.trans ((kq (a := 7) (b := 4) eσ1598 (by omega)).trans (k1154.trans (k9.trans ((kq (a := 7) (b := 4) eσ2 (by omega)))))), k1616.trans ((kq (a := 2) (b := 4) eσ1598 (by omega)).trans (k1155.trans (k10.trans ((kq (a := 2) (b := 4) eσ2 (by omega))))))⟩)
                  · have f1647 := mt Int32.toInt_inj.mp c1602
                    have g1649 : vp_in r15 18 := inI (by omega) (by omega)
                    refine ⟨g1649, ?_⟩
                    refine ⟨fun c1650 => ?_, fun c1650 => ?_⟩
                    · have f1653 := congrArg Int32.toInt c1650
                      have f1655 := tB r1160
                      refine sX2_goesThere hN hσ1598 (fun r1670 p1671 => ?_)
                      refine ⟨fun c1672 => ?_, fun c1672 => ?_⟩
                      · have f1673 := tB r1670
                        have f1675 := congrArg Int32.toInt c1672
                        exact hQ _ hσ1598 (⟨(kq (a := 9) (b := 9) eσ1598 (by omega)).trans (k1151.trans (k6.trans ((kq (a := 9) (b := 9) eσ2 (by omega))))), (kq (a := 9) (b := 10) eσ1598 (by omega)).trans (k1152.trans (k7.trans ((kq (a := 9) (b := 10) eσ2 (by omega))))), (kq (a := 6) (b := 5) eσ1598 (by omega)).trans (k1153.trans (k8.trans ((kq (a := 6) (b := 5) eσ2 (by omega))))), (kq (a := 7) (b := 4) eσ1598 (by omega)).trans (k1154.trans (k9.trans ((kq (a := 7) (b := 4) eσ2 (by omega))))), (kq (a := 2) (b := 4) eσ1598 (by omega)).trans (k1155.trans (k10.trans ((kq (a := 2) (b := 4) eσ2 (by omega)))))⟩)
                      · have f1676 := tB r1670
                        have f1678 := mt Int32.toInt_inj.mp c1672
                        intro v1679 ev1679
                        intro σ1680 eσ1680
                        have kb1681 := jobK_b hk1
                        have hσ1680 : K1 σ0 σ1680 := by rw [eσ1680]; exact hσ1598.u (rg_jobK hk1) (by omega) (by omega)
                        exact hQ _ hσ1680 (⟨(kq (a := 9) (b := 9) eσ1680 (by omega)).trans ((kq (a := 9) (b := 9) eσ1598 (by omega)).trans (k1151.trans (k6.trans ((kq (a := 9) (b := 9) eσ2 (by omega)))))), (kq (a := 9) (b := 10) eσ1680 (by omega)).trans ((kq (a := 9) (b := 10) eσ1598 (by omega)).trans (k1152.trans (k7.trans ((kq (a := 9) (b := 10) eσ2 (by omega)))))), (kq (a := 6) (b := 5) eσ1680 (by omega)).trans ((kq (a := 6) (b := 5) eσ1598 (by omega)).trans (k1153.trans (k8.trans ((kq (a := 6) (b := 5) eσ2 (by omega)))))), (kq (a := 7) (b := 4) eσ1680 (by omega)).trans ((kq (a := 7) (b := 4) eσ1598 (by omega)).trans (k1154.trans (k9.trans ((kq (a := 7) (b := 4) eσ2 (by omega)))))), (kq (a := 2) (b := 4) eσ1680 (by omega)).trans ((kq (a := 2) (b := 4) eσ1598 (by omega)).trans (k1155.trans (k10.trans ((kq (a := 2) (b := 4) eσ2 (by omega))))))⟩)
                    · have f1684 := mt Int32.toInt_inj.mp c1650
                      have f1686 := tB r1160
                      have f1689 := K1.g_3_7 hσ1598
                      have q1690 : σ1598.1 3 7 = σ1148.1 3 7 := by rw [eσ1598]; exact congrFun (u1_ne (by omega)) 7
                      have f1691 := congrArg Int32.toInt q1690
                      have f1692 := K1.g_3_7 hσ1148
                      have f1693 := congrArg Int32.toInt k1149
                      have f1694 := K1.g_3_7 hσ3
                      have f1695 := congrArg Int32.toInt k4
                      have f1696 := K1.g_3_7 hσ2
                      have q1697 : σ2.1 3 7 = σ.1 3 7 := by rw [eσ2, u1_at]; exact if_neg (by decide)
                      have f1698 := congrArg Int32.toInt q1697
                      have f1699 := K1.g_3_7 hσ
                      refine sX2_act hN hk1 (by omega) hσ1598 (fun σ1688 hσ1688 kk1705 => ?_)
                      obtain ⟨k1700, k1701, k1702, k1703, k1704⟩ := kk1705
                      exact hQ _ hσ1688 (⟨k1700.trans ((kq (a := 9) (b := 9) eσ1598 (by omega)).trans (k1151.trans (k6.trans ((kq (a := 9) (b := 9) eσ2 (by omega)))))), k1701.trans ((kq (a := 9) (b := 10) eσ1598 (by omega)).trans (k1152.trans (k7.trans ((kq (a := 9) (b := 10) eσ2 (by omega)))))), k1702.trans ((kq (a := 6) (b := 5) eσ1598 (by omega)).trans (k1153.trans (k8.trans ((kq (a := 6) (b := 5) eσ2 (by omega)))))), k1703.trans ((kq (a := 7) (b := 4) eσ1598 (by omega)).trans (k1154.trans (k9.trans ((kq (a := 7) (b := 4) eσ2 (by omega)))))), k1704.trans ((kq (a := 2) (b := 4) eσ1598 (by omega)).trans (k1155.trans (k10.trans ((kq (a := 2) (b := 4) eσ2 (by omega))))))⟩)
                · have f1706 := tB (σ1148.1 3 11)
                  have f1708 := mt Int32.toInt_inj.mp c1593
                  exact hQ _ hσ1148 (⟨k1151.trans (k6.trans ((kq (a := 9) (b := 9) eσ2 (by omega)))), k1152.trans (k7.trans ((kq (a := 9) (b := 10) eσ2 (by omega)))), k1153.trans (k8.trans ((kq (a := 6) (b := 5) eσ2 (by omega)))), k1154.trans (k9.trans ((kq (a := 7) (b := 4) eσ2 (by omega)))), k1155.trans (k10.trans ((kq (a := 2) (b := 4) eσ2 (by omega))))⟩)
          · have f1710 : (1 : Int32).toInt = 1 := by decide
            have f1711 := mt Int32.le_iff_toInt_le.mpr c1164
            refine sX2_nextValue hN hk1 hσ1148 (fun r1724 σ1712 hσ1712 kk1723 p1725 => ?_)
            obtain ⟨k1713, k1714, k1715, k1716, k1717, k1718, k1719, k1720, k1721, k1722⟩ := kk1723
            unfold fX2_doOrder_j81
            have g1727 : vp_in r15 18 := inI (by omega) (by omega)
            refine ⟨g1727, ?_⟩
            refine ⟨fun c1728 => ?_, fun c1728 => ?_⟩
            · have f1729 := tB (jT r15.toNatClampNeg)
              have f1731 := congrArg Int32.toInt c1728
              refine sX2_nextTarget hN hk1 hσ1712 (fun r1744 σ1732 hσ1732 kk1743 p1745 => ?_)
              obtain ⟨k1733, k1734, k1735, k1736, k1737, k1738, k1739, k1740, k1741, k1742⟩ := kk1743
              unfold fX2_doOrder_j103
              have g1747 : vp_in r15 18 := inI (by omega) (by omega)
              refine ⟨g1747, ?_⟩
              refine ⟨fun c1748 => ?_, fun c1748 => ?_⟩
              · have f1750 : (2 : Int32).toInt = 2 := by decide
                have f1751 := congrArg Int32.toInt c1748
                refine sX2_nextDistance hN hσ1732 (fun r1764 σ1752 hσ1752 kk1763 p1765 => ?_)
                obtain ⟨k1753, k1754, k1755, k1756, k1757, k1758, k1759, k1760, k1761, k1762⟩ := kk1763
                unfold fX2_doOrder_j122
                refine ⟨fun c1766 => ?_, fun c1766 => ?_⟩
                · have f1767 := tB (σ1752.1 3 11)
                  have f1769 := congrArg Int32.toInt c1766
                  intro v1770 ev1770
                  intro σ1771 eσ1771
                  have kb1772 := jobK_b hk1
                  have hσ1771 : K1 σ0 σ1771 := by rw [eσ1771]; exact hσ1752.u (rg_jobK hk1) (by omega) (by omega)
                  have g1774 : vp_in r15 18 := inI (by omega) (by omega)
                  refine ⟨g1774, ?_⟩
                  refine ⟨fun c1775 => ?_, fun c1775 => ?_⟩
                  · have f1778 := congrArg Int32.toInt c1775
                    have f1780 := tB r1160
                    have f1781 := tB r1724
                    refine sX2_valueFor hN hσ1771 (fun r1794 σ1782 hσ1782 kk1793 p1795 => ?_)
                    obtain ⟨k1783, k1784, k1785, k1786, k1787, k1788, k1789, k1790, k1791, k1792⟩ := kk1793
                    refine ⟨fun c1796 => ?_, fun c1796 => ?_⟩
                    · have f1797 := tB (σ1782.1 3 11)
                      have f1799 := congrArg Int32.toInt c1796
                      have f1800 := tB r1744
                      have f1801 := tB r1794
                      refine sX1_setLocal hN hk1 hσ1782 (fun σ1802 hσ1802 kk1814 => ?_)
                      obtain ⟨k1803, k1804, k1805, k1806, k1807, k1808, k1809, k1810, k1811, k1812, k1813⟩ := kk1814
                      unfold fX2_doOrder_j174
                      exact hQ _ hσ1802 (⟨k1806.trans (k1785.trans ((kq (a := 9) (b := 9) eσ1771 (by omega)).trans (k1755.trans (k1735.trans (k1715.trans (k1151.trans (k6.trans ((kq (a := 9) (b := 9) eσ2 (by omega)))))))))), k1807.trans (k1786.trans ((kq (a := 9) (b := 10) eσ1771 (by omega)).trans (k1756.trans (k1736.trans (k1716.trans (k1152.trans (k7.trans ((kq (a := 9) (b := 10) eσ2 (by omega)))))))))), k1808.trans (k1787.trans ((kq (a := 6) (b := 5) eσ1771 (by omega)).trans (k1757.trans (k1737.trans (k1717.trans (k1153.trans (k8.trans ((kq (a := 6) (b := 5) eσ2 (by omega)))))))))), k1809.trans (k1788.trans ((kq (a := 7) (b := 4) eσ1771 (by omega)).trans (k1758.trans (k1738.trans (k1718.trans (k1154.trans (k9.trans ((kq (a := 7) (b := 4) eσ2 (by omega)))))))))), k1810.trans (k1789.trans ((kq (a := 2) (b := 4) eσ1771 (by omega)).trans (k1759.trans (k1739.trans (k1719.trans (k1155.trans (k10.trans ((kq (a := 2) (b := 4) eσ2 (by omega))))))))))⟩)
                    · have f1815 := tB (σ1782.1 3 11)
                      have f1817 := mt Int32.toInt_inj.mp c1796
                      unfold fX2_doOrder_j174
                      exact hQ _ hσ1782 (⟨k1785.trans ((kq (a := 9) (b := 9) eσ1771 (by omega)).trans (k1755.trans (k1735.trans (k1715.trans (k1151.trans (k6.trans ((kq (a := 9) (b := 9) eσ2 (by omega))))))))), k1786.trans ((kq (a := 9) (b := 10) eσ1771 (by omega)).trans (k1756.trans (k1736.trans (k1716.trans (k1152.trans (k7.trans ((kq (a := 9) (b := 10) eσ2 (by omega))))))))), k1787.trans ((kq (a := 6) (b := 5) eσ1771 (by omega)).trans (k1757.trans (k1737.trans (k1717.trans (k1153.trans (k8.trans ((kq (a := 6) (b := 5) eσ2 (by omega))))))))), k1788.trans ((kq (a := 7) (b := 4) eσ1771 (by omega)).trans (k1758.trans (k1738.trans (k1718.trans (k1154.trans (k9.trans ((kq (a := 7) (b := 4) eσ2 (by omega))))))))), k1789.trans ((kq (a := 2) (b := 4) eσ1771 (by omega)).trans (k1759.trans (k1739.trans (k1719.trans (k1155.trans (k10.trans ((kq (a := 2) (b := 4) eσ2 (by omega)))))))))⟩)
                  · have f1820 := mt Int32.toInt_inj.mp c1775
                    have g1822 : vp_in r15 18 := inI (by omega) (by omega)
                    refine ⟨g1822, ?_⟩
                    refine ⟨fun c1823 => ?_, fun c1823 => ?_⟩
                    · have f1826 := congrArg Int32.toInt c1823
                      have f1828 := tB r1160
                      have f1829 := tB r1724
                      refine sX2_goesThere hN hσ1771 (fun r1843 p1844 => ?_)
                      refine ⟨fun c1845 => ?_, fun c1845 => ?_⟩
                      · have f1846 := tB r1843
                        have f1848 := congrArg Int32.toInt c1845
                        exact hQ _ hσ1771 (⟨(kq (a := 9) (b := 9) eσ1771 (by omega)).trans (k1755.trans (k1735.trans (k1715.trans (k1151.trans (k6.trans ((kq (a := 9) (b := 9) eσ2 (by omega)))))))), (kq (a := 9) (b := 10) eσ1771 (by omega)).trans (k1756.trans (k1736.trans (k1716.trans (k1152.trans (k7.trans ((kq (a := 9) (b := 10) eσ2 (by omega)))))))), (kq (a := 6) (b := 5) eσ1771 (by omega)).trans (k1757.trans (k1737.trans (k1717.trans (k1153.trans (k8.trans ((kq (a := 6) (b := 5) eσ2 (by omega)))))))), (kq (a := 7) (b := 4) eσ1771 (by omega)).trans (k1758.trans (k1738.trans (k1718.trans (k1154.trans (k9.trans ((kq (a := 7) (b := 4) eσ2 (by omega)))))))), (kq (a := 2) (b := 4) eσ1771 (by omega)).trans (k1759.trans (k1739.trans (k1719.trans (k1155.trans (k10.trans ((kq (a := 2) (b := 4) eσ2 (by omega))))))))⟩)
                      · have f1849 := tB r1843
                        have f1851 := mt Int32.toInt_inj.mp c1845
                        intro v1852 ev1852
                        intro σ1853 eσ1853
                        have kb1854 := jobK_b hk1
                        have hσ1853 : K1 σ0 σ1853 := by rw [eσ1853]; exact hσ1771.u (rg_jobK hk1) (by omega) (by omega)
                        exact hQ _ hσ1853 (⟨(kq (a := 9) (b := 9) eσ1853 (by omega)).trans ((kq (a := 9) (b := 9) eσ1771 (by omega)).trans (k1755.trans (k1735.trans (k1715.trans (k1151.trans (k6.trans ((kq (a := 9) (b := 9) eσ2 (by omega))))))))), (kq (a := 9) (b := 10) eσ1853 (by omega)).trans ((kq (a := 9) (b := 10) eσ1771 (by omega)).trans (k1756.trans (k1736.trans (k1716.trans (k1152.trans (k7.trans ((kq (a := 9) (b := 10) eσ2 (by omega))))))))), (kq (a := 6) (b := 5) eσ1853 (by omega)).trans ((kq (a := 6) (b := 5) eσ1771 (by omega)).trans (k1757.trans (k1737.trans (k1717.trans (k1153.trans (k8.trans ((kq (a := 6) (b := 5) eσ2 (by omega))))))))), (kq (a := 7) (b := 4) eσ1853 (by omega)).trans ((kq (a := 7) (b := 4) eσ1771 (by omega)).trans (k1758.trans (k1738.trans (k1718.trans (k1154.trans (k9.trans ((kq (a := 7) (b := 4) eσ2 (by omega))))))))), (kq (a := 2) (b := 4) eσ1853 (by omega)).trans ((kq (a := 2) (b := 4) eσ1771 (by omega)).trans (k1759.trans (k1739.trans (k1719.trans (k1155.trans (k10.trans ((kq (a := 2) (b := 4) eσ2 (by omega)))))))))⟩)
                    · have f1857 := mt Int32.toInt_inj.mp c1823
                      have f1859 := tB r1160
                      have f1860 := tB r1724
                      have f1862 := K1.g_3_7 hσ1771
                      have q1863 : σ1771.1 3 7 = σ1752.1 3 7 := by rw [eσ1771]; exact congrFun (u1_ne (by omega)) 7
                      have f1864 := congrArg Int32.toInt q1863
                      have f1865 := K1.g_3_7 hσ1752
                      have f1866 := congrArg Int32.toInt k1753
                      have f1867 := K1.g_3_7 hσ1732
                      have f1868 := congrArg Int32.toInt k1733
                      have f1869 := K1.g_3_7 hσ1712
                      have f1870 := congrArg Int32.toInt k1713
                      have f1871 := K1.g_3_7 hσ1148
                      have f1872 := congrArg Int32.toInt k1149
                      have f1873 := K1.g_3_7 hσ3
                      have f1874 := congrArg Int32.toInt k4
                      have f1875 := K1.g_3_7 hσ2
                      have q1876 : σ2.1 3 7 = σ.1 3 7 := by rw [eσ2, u1_at]; exact if_neg (by decide)
                      have f1877 := congrArg Int32.toInt q1876
                      have f1878 := K1.g_3_7 hσ
                      refine sX2_act hN hk1 (by omega) hσ1771 (fun σ1861 hσ1861 kk1884 => ?_)
                      obtain ⟨k1879, k1880, k1881, k1882, k1883⟩ := kk1884
                      exact hQ _ hσ1861 (⟨k1879.trans ((kq (a := 9) (b := 9) eσ1771 (by omega)).trans (k1755.trans (k1735.trans (k1715.trans (k1151.trans (k6.trans ((kq (a := 9) (b := 9) eσ2 (by omega))))))))), k1880.trans ((kq (a := 9) (b := 10) eσ1771 (by omega)).trans (k1756.trans (k1736.trans (k1716.trans (k1152.trans (k7.trans ((kq (a := 9) (b := 10) eσ2 (by omega))))))))), k1881.trans ((kq (a := 6) (b := 5) eσ1771 (by omega)).trans (k1757.trans (k1737.trans (k1717.trans (k1153.trans (k8.trans ((kq (a := 6) (b := 5) eσ2 (by omega))))))))), k1882.trans ((kq (a := 7) (b := 4) eσ1771 (by omega)).trans (k1758.trans (k1738.trans (k1718.trans (k1154.trans (k9.trans ((kq (a := 7) (b := 4) eσ2 (by omega))))))))), k1883.trans ((kq (a := 2) (b := 4) eσ1771 (by omega)).trans (k1759.trans (k1739.trans (k1719.trans (k1155.trans (k10.trans ((kq (a := 2) (b := 4) eσ2 (by omega)))))))))⟩)
                · have f1885 := tB (σ1752.1 3 11)
                  have f1887 := mt Int32.toInt_inj.mp c1766
                  exact hQ _ hσ1752 (⟨k1755.trans (k1735.trans (k1715.trans (k1151.trans (k6.trans ((kq (a := 9) (b := 9) eσ2 (by omega))))))), k1756.trans (k1736.trans (k1716.trans (k1152.trans (k7.trans ((kq (a := 9) (b := 10) eσ2 (by omega))))))), k1757.trans (k1737.trans (k1717.trans (k1153.trans (k8.trans ((kq (a := 6) (b := 5) eσ2 (by omega))))))), k1758.trans (k1738.trans (k1718.trans (k1154.trans (k9.trans ((kq (a := 7) (b := 4) eσ2 (by omega))))))), k1759.trans (k1739.trans (k1719.trans (k1155.trans (k10.trans ((kq (a := 2) (b := 4) eσ2 (by omega)))))))⟩)
              · have f1889 : (2 : Int32).toInt = 2 := by decide
                have f1890 := mt Int32.toInt_inj.mp c1748
                unfold fX2_doOrder_j122
                refine ⟨fun c1891 => ?_, fun c1891 => ?_⟩
                · have f1892 := tB (σ1732.1 3 11)
                  have f1894 := congrArg Int32.toInt c1891
                  intro v1895 ev1895
                  intro σ1896 eσ1896
                  have kb1897 := jobK_b hk1
                  have hσ1896 : K1 σ0 σ1896 := by rw [eσ1896]; exact hσ1732.u (rg_jobK hk1) (by omega) (by omega)
                  have g1899 : vp_in r15 18 := inI (by omega) (by omega)
                  refine ⟨g1899, ?_⟩
                  refine ⟨fun c1900 => ?_, fun c1900 => ?_⟩
                  · have f1903 := congrArg Int32.toInt c1900
                    have f1905 := tB r1160
                    have f1906 := tB r1724
                    refine sX2_valueFor hN hσ1896 (fun r1919 σ1907 hσ1907 kk1918 p1920 => ?_)
                    obtain ⟨k1908, k1909, k1910, k1911, k1912, k1913, k1914, k1915, k1916, k1917⟩ := kk1918
                    refine ⟨fun c1921 => ?_, fun c1921 => ?_⟩
                    · have f1922 := tB (σ1907.1 3 11)
                      have f1924 := congrArg Int32.toInt c1921
                      have f1925 := tB r1744
                      have f1926 := tB r1919
                      refine sX1_setLocal hN hk1 hσ1907 (fun σ1927 hσ1927 kk1939 => ?_)
                      obtain ⟨k1928, k1929, k1930, k1931, k1932, k1933, k1934, k1935, k1936, k1937, k1938⟩ := kk1939
                      unfold fX2_doOrder_j174
                      exact hQ _ hσ1927 (⟨k1931.trans (k1910.trans ((kq (a := 9) (b := 9) eσ1896 (by omega)).trans (k1735.trans (k1715.trans (k1151.trans (k6.trans ((kq (a := 9) (b := 9) eσ2 (by omega))))))))), k1932.trans (k1911.trans ((kq (a := 9) (b := 10) eσ1896 (by omega)).trans (k1736.trans (k1716.trans (k1152.trans (k7.trans ((kq (a := 9) (b := 10) eσ2 (by omega))))))))), k1933.trans (k1912.trans ((kq (a := 6) (b := 5) eσ1896 (by omega)).trans (k1737.trans (k1717.trans (k1153.trans (k8.trans ((kq (a := 6) (b := 5) eσ2 (by omega))))))))), k1934.trans (k1913.trans ((kq (a := 7) (b := 4) eσ1896 (by omega)).trans (k1738.trans (k1718.trans (k1154.trans (k9.trans ((kq (a := 7) (b := 4) eσ2 (by omega))))))))), k1935.trans (k1914.trans ((kq (a := 2) (b := 4) eσ1896 (by omega)).trans (k1739.trans (k1719.trans (k1155.trans (k10.trans ((kq (a := 2) (b := 4) eσ2 (by omega)))))))))⟩)
                    · have f1940 := tB (σ1907.1 3 11)
                      have f1942 := mt Int32.toInt_inj.mp c1921
                      unfold fX2_doOrder_j174
                      exact hQ _ hσ1907 (⟨k1910.trans ((kq (a := 9) (b := 9) eσ1896 (by omega)).trans (k1735.trans (k1715.trans (k1151.trans (k6.trans ((kq (a := 9) (b := 9) eσ2 (by omega)))))))), k1911.trans ((kq (a := 9) (b := 10) eσ1896 (by omega)).trans (k1736.trans (k1716.trans (k1152.trans (k7.trans ((kq (a := 9) (b := 10) eσ2 (by omega)))))))), k1912.trans ((kq (a := 6) (b := 5) eσ1896 (by omega)).trans (k1737.trans (k1717.trans (k1153.trans (k8.trans ((kq (a := 6) (b := 5) eσ2 (by omega)))))))), k1913.trans ((kq (a := 7) (b := 4) eσ1896 (by omega)).trans (k1738.trans (k1718.trans (k1154.trans (k9.trans ((kq (a := 7) (b := 4) eσ2 (by omega)))))))), k1914.trans ((kq (a := 2) (b := 4) eσ1896 (by omega)).trans (k1739.trans (k1719.trans (k1155.trans (k10.trans ((kq (a := 2) (b := 4) eσ2 (by omega))))))))⟩)
                  · have f1945 := mt Int32.toInt_inj.mp c1900
                    have g1947 : vp_in r15 18 := inI (by omega) (by omega)
                    refine ⟨g1947, ?_⟩
                    refine ⟨fun c1948 => ?_, fun c1948 => ?_⟩
                    · have f1951 := congrArg Int32.toInt c1948
                      have f1953 := tB r1160
                      have f1954 := tB r1724
                      refine sX2_goesThere hN hσ1896 (fun r1968 p1969 => ?_)
                      refine ⟨fun c1970 => ?_, fun c1970 => ?_⟩
                      · have f1971 := tB r1968
                        have f1973 := congrArg Int32.toInt c1970
                        exact hQ _ hσ1896 (⟨(kq (a := 9) (b := 9) eσ1896 (by omega)).trans (k1735.trans (k1715.trans (k1151.trans (k6.trans ((kq (a := 9) (b := 9) eσ2 (by omega))))))), (kq (a := 9) (b := 10) eσ1896 (by omega)).trans (k1736.trans (k1716.trans (k1152.trans (k7.trans ((kq (a := 9) (b := 10) eσ2 (by omega))))))), (kq (a := 6) (b := 5) eσ1896 (by omega)).trans (k1737.trans (k1717.trans (k1153.trans (k8.trans ((kq (a := 6) (b := 5) eσ2 (by omega))))))), (kq (a := 7) (b := 4) eσ1896 (by omega)).trans (k1738.trans (k1718.trans (k1154.trans (k9.trans ((kq (a := 7) (b := 4) eσ2 (by omega))))))), (kq (a := 2) (b := 4) eσ1896 (by omega)).trans (k1739.trans (k1719.trans (k1155.trans (k10.trans ((kq (a := 2) (b := 4) eσ2 (by omega)))))))⟩)
                      · have f1974 := tB r1968
                        have f1976 := mt Int32.toInt_inj.mp c1970
                        intro v1977 ev1977
                        intro σ1978 eσ1978
                        have kb1979 := jobK_b hk1
                        have hσ1978 : K1 σ0 σ1978 := by rw [eσ1978]; exact hσ1896.u (rg_jobK hk1) (by omega) (by omega)
                        exact hQ _ hσ1978 (⟨(kq (a := 9) (b := 9) eσ1978 (by omega)).trans ((kq (a := 9) (b := 9) eσ1896 (by omega)).trans (k1735.trans (k1715.trans (k1151.trans (k6.trans ((kq (a := 9) (b := 9) eσ2 (by omega)))))))), (kq (a := 9) (b := 10) eσ1978 (by omega)).trans ((kq (a := 9) (b := 10) eσ1896 (by omega)).trans (k1736.trans (k1716.trans (k1152.trans (k7.trans ((kq (a := 9) (b := 10) eσ2 (by omega)))))))), (kq (a := 6) (b := 5) eσ1978 (by omega)).trans ((kq (a := 6) (b := 5) eσ1896 (by omega)).trans (k1737.trans (k1717.trans (k1153.trans (k8.trans ((kq (a := 6) (b := 5) eσ2 (by omega)))))))), (kq (a := 7) (b := 4) eσ1978 (by omega)).trans ((kq (a := 7) (b := 4) eσ1896 (by omega)).trans (k1738.trans (k1718.trans (k1154.trans (k9.trans ((kq (a := 7) (b := 4) eσ2 (by omega)))))))), (kq (a := 2) (b := 4) eσ1978 (by omega)).trans ((kq (a := 2) (b := 4) eσ1896 (by omega)).trans (k1739.trans (k1719.trans (k1155.trans (k10.trans ((kq (a := 2) (b := 4) eσ2 (by omega))))))))⟩)
                    · have f1982 := mt Int32.toInt_inj.mp c1948
                      have f1984 := tB r1160
                      have f1985 := tB r1724
                      have f1987 := K1.g_3_7 hσ1896
                      have q1988 : σ1896.1 3 7 = σ1732.1 3 7 := by rw [eσ1896]; exact congrFun (u1_ne (by omega)) 7
                      have f1989 := congrArg Int32.toInt q1988
                      have f1990 := K1.g_3_7 hσ1732
                      have f1991 := congrArg Int32.toInt k1733
                      have f1992 := K1.g_3_7 hσ1712
                      have f1993 := congrArg Int32.toInt k1713
                      have f1994 := K1.g_3_7 hσ1148
                      have f1995 := congrArg Int32.toInt k1149
                      have f1996 := K1.g_3_7 hσ3
                      have f1997 := congrArg Int32.toInt k4
                      have f1998 := K1.g_3_7 hσ2
                      have q1999 : σ2.1 3 7 = σ.1 3 7 := by rw [eσ2, u1_at]; exact if_neg (by decide)
                      have f2000 := congrArg Int32.toInt q1999
                      have f2001 := K1.g_3_7 hσ
                      refine sX2_act hN hk1 (by omega) hσ1896 (fun σ1986 hσ1986 kk2007 => ?_)
                      obtain ⟨k2002, k2003, k2004, k2005, k2006⟩ := kk2007
                      exact hQ _ hσ1986 (⟨k2002.trans ((kq (a := 9) (b := 9) eσ1896 (by omega)).trans (k1735.trans (k1715.trans (k1151.trans (k6.trans ((kq (a := 9) (b := 9) eσ2 (by omega)))))))), k2003.trans ((kq (a := 9) (b := 10) eσ1896 (by omega)).trans (k1736.trans (k1716.trans (k1152.trans (k7.trans ((kq (a := 9) (b := 10) eσ2 (by omega)))))))), k2004.trans ((kq (a := 6) (b := 5) eσ1896 (by omega)).trans (k1737.trans (k1717.trans (k1153.trans (k8.trans ((kq (a := 6) (b := 5) eσ2 (by omega)))))))), k2005.trans ((kq (a := 7) (b := 4) eσ1896 (by omega)).trans (k1738.trans (k1718.trans (k1154.trans (k9.trans ((kq (a := 7) (b := 4) eσ2 (by omega)))))))), k2006.trans ((kq (a := 2) (b := 4) eσ1896 (by omega)).trans (k1739.trans (k1719.trans (k1155.trans (k10.trans ((kq (a := 2) (b := 4) eσ2 (by omega))))))))⟩)
                · have f2008 := tB (σ1732.1 3 11)
                  have f2010 := mt Int32.toInt_inj.mp c1891
                  exact hQ _ hσ1732 (⟨k1735.trans (k1715.trans (k1151.trans (k6.trans ((kq (a := 9) (b := 9) eσ2 (by omega)))))), k1736.trans (k1716.trans (k1152.trans (k7.trans ((kq (a := 9) (b := 10) eσ2 (by omega)))))), k1737.trans (k1717.trans (k1153.trans (k8.trans ((kq (a := 6) (b := 5) eσ2 (by omega)))))), k1738.trans (k1718.trans (k1154.trans (k9.trans ((kq (a := 7) (b := 4) eσ2 (by omega)))))), k1739.trans (k1719.trans (k1155.trans (k10.trans ((kq (a := 2) (b := 4) eσ2 (by omega))))))⟩)
            · have f2011 := tB (jT r15.toNatClampNeg)
              have f2013 := mt Int32.toInt_inj.mp c1728
              unfold fX2_doOrder_j103
              have g2015 : vp_in r15 18 := inI (by omega) (by omega)
              refine ⟨g2015, ?_⟩
              refine ⟨fun c2016 => ?_, fun c2016 => ?_⟩
              · have f2018 : (2 : Int32).toInt = 2 := by decide
                have f2019 := congrArg Int32.toInt c2016
                refine sX2_nextDistance hN hσ1712 (fun r2032 σ2020 hσ2020 kk2031 p2033 => ?_)
                obtain ⟨k2021, k2022, k2023, k2024, k2025, k2026, k2027, k2028, k2029, k2030⟩ := kk2031
                unfold fX2_doOrder_j122
                refine ⟨fun c2034 => ?_, fun c2034 => ?_⟩
                · have f2035 := tB (σ2020.1 3 11)
                  have f2037 := congrArg Int32.toInt c2034
                  intro v2038 ev2038
                  intro σ2039 eσ2039
                  have kb2040 := jobK_b hk1
                  have hσ2039 : K1 σ0 σ2039 := by rw [eσ2039]; exact hσ2020.u (rg_jobK hk1) (by omega) (by omega)
                  have g2042 : vp_in r15 18 := inI (by omega) (by omega)
                  refine ⟨g2042, ?_⟩
                  refine ⟨fun c2043 => ?_, fun c2043 => ?_⟩
                  · have f2046 := congrArg Int32.toInt c2043
                    have f2048 := tB r1160
                    have f2049 := tB r1724
                    refine sX2_valueFor hN hσ2039 (fun r2062 σ2050 hσ2050 kk2061 p2063 => ?_)
                    obtain ⟨k2051, k2052, k2053, k2054, k2055, k2056, k2057, k2058, k2059, k2060⟩ := kk2061
                    refine ⟨fun c2064 => ?_, fun c2064 => ?_⟩
                    · have f2065 := tB (σ2050.1 3 11)
                      have f2067 := congrArg Int32.toInt c2064
                      have f2068 : (255 : Int32).toInt = 255 := by decide
                      have f2069 := tB r2062
                      refine sX1_setLocal hN hk1 hσ2050 (fun σ2070 hσ2070 kk2082 => ?_)
                      obtain ⟨k2071, k2072, k2073, k2074, k2075, k2076, k2077, k2078, k2079, k2080, k2081⟩ := kk2082
                      unfold fX2_doOrder_j174
                      exact hQ _ hσ2070 (⟨k2074.trans (k2053.trans ((kq (a := 9) (b := 9) eσ2039 (by omega)).trans (k2023.trans (k1715.trans (k1151.trans (k6.trans ((kq (a := 9) (b := 9) eσ2 (by omega))))))))), k2075.trans (k2054.trans ((kq (a := 9) (b := 10) eσ2039 (by omega)).trans (k2024.trans (k1716.trans (k1152.trans (k7.trans ((kq (a := 9) (b := 10) eσ2 (by omega))))))))), k2076.trans (k2055.trans ((kq (a := 6) (b := 5) eσ2039 (by omega)).trans (k2025.trans (k1717.trans (k1153.trans (k8.trans ((kq (a := 6) (b := 5) eσ2 (by omega))))))))), k2077.trans (k2056.trans ((kq (a := 7) (b := 4) eσ2039 (by omega)).trans (k2026.trans (k1718.trans (k1154.trans (k9.trans ((kq (a := 7) (b := 4) eσ2 (by omega))))))))), k2078.trans (k2057.trans ((kq (a := 2) (b := 4) eσ2039 (by omega)).trans (k2027.trans (k1719.trans (k1155.trans (k10.trans ((kq (a := 2) (b := 4) eσ2 (by omega)))))))))⟩)
                    · have f2083 := tB (σ2050.1 3 11)
                      have f2085 := mt Int32.toInt_inj.mp c2064
                      unfold fX2_doOrder_j174
                      exact hQ _ hσ2050 (⟨k2053.trans ((kq (a := 9) (b := 9) eσ2039 (by omega)).trans (k2023.trans (k1715.trans (k1151.trans (k6.trans ((kq (a := 9) (b := 9) eσ2 (by omega)))))))), k2054.trans ((kq (a := 9) (b := 10) eσ2039 (by omega)).trans (k2024.trans (k1716.trans (k1152.trans (k7.trans ((kq (a := 9) (b := 10) eσ2 (by omega)))))))), k2055.trans ((kq (a := 6) (b := 5) eσ2039 (by omega)).trans (k2025.trans (k1717.trans (k1153.trans (k8.trans ((kq (a := 6) (b := 5) eσ2 (by omega)))))))), k2056.trans ((kq (a := 7) (b := 4) eσ2039 (by omega)).trans (k2026.trans (k1718.trans (k1154.trans (k9.trans ((kq (a := 7) (b := 4) eσ2 (by omega)))))))), k2057.trans ((kq (a := 2) (b := 4) eσ2039 (by omega)).trans (k2027.trans (k1719.trans (k1155.trans (k10.trans ((kq (a := 2) (b := 4) eσ2 (by omega))))))))⟩)
                  · have f2088 := mt Int32.toInt_inj.mp c2043
                    have g2090 : vp_in r15 18 := inI (by omega) (by omega)
                    refine ⟨g2090, ?_⟩
                    refine ⟨fun c2091 => ?_, fun c2091 => ?_⟩
                    · have f2094 := congrArg Int32.toInt c2091
                      have f2096 := tB r1160
                      have f2097 := tB r1724
                      refine sX2_goesThere hN hσ2039 (fun r2111 p2112 => ?_)
                      refine ⟨fun c2113 => ?_, fun c2113 => ?_⟩
                      · have f2114 := tB r2111
                        have f2116 := congrArg Int32.toInt c2113
                        exact hQ _ hσ2039 (⟨(kq (a := 9) (b := 9) eσ2039 (by omega)).trans (k2023.trans (k1715.trans (k1151.trans (k6.trans ((kq (a := 9) (b := 9) eσ2 (by omega))))))), (kq (a := 9) (b := 10) eσ2039 (by omega)).trans (k2024.trans (k1716.trans (k1152.trans (k7.trans ((kq (a := 9) (b := 10) eσ2 (by omega))))))), (kq (a := 6) (b := 5) eσ2039 (by omega)).trans (k2025.trans (k1717.trans (k1153.trans (k8.trans ((kq (a := 6) (b := 5) eσ2 (by omega))))))), (kq (a := 7) (b := 4) eσ2039 (by omega)).trans (k2026.trans (k1718.trans (k1154.trans (k9.trans ((kq (a := 7) (b := 4) eσ2 (by omega))))))), (kq (a := 2) (b := 4) eσ2039 (by omega)).trans (k2027.trans (k1719.trans (k1155.trans (k10.trans ((kq (a := 2) (b := 4) eσ2 (by omega)))))))⟩)
                      · have f2117 := tB r2111
                        have f2119 := mt Int32.toInt_inj.mp c2113
                        intro v2120 ev2120
                        intro σ2121 eσ2121
                        have kb2122 := jobK_b hk1
                        have hσ2121 : K1 σ0 σ2121 := by rw [eσ2121]; exact hσ2039.u (rg_jobK hk1) (by omega) (by omega)
                        exact hQ _ hσ2121 (⟨(kq (a := 9) (b := 9) eσ2121 (by omega)).trans ((kq (a := 9) (b := 9) eσ2039 (by omega)).trans (k2023.trans (k1715.trans (k1151.trans (k6.trans ((kq (a := 9) (b := 9) eσ2 (by omega)))))))), (kq (a := 9) (b := 10) eσ2121 (by omega)).trans ((kq (a := 9) (b := 10) eσ2039 (by omega)).trans (k2024.trans (k1716.trans (k1152.trans (k7.trans ((kq (a := 9) (b := 10) eσ2 (by omega)))))))), (kq (a := 6) (b := 5) eσ2121 (by omega)).trans ((kq (a := 6) (b := 5) eσ2039 (by omega)).trans (k2025.trans (k1717.trans (k1153.trans (k8.trans ((kq (a := 6) (b := 5) eσ2 (by omega)))))))), (kq (a := 7) (b := 4) eσ2121 (by omega)).trans ((kq (a := 7) (b := 4) eσ2039 (by omega)).trans (k2026.trans (k1718.trans (k1154.trans (k9.trans ((kq (a := 7) (b := 4) eσ2 (by omega)))))))), (kq (a := 2) (b := 4) eσ2121 (by omega)).trans ((kq (a := 2) (b := 4) eσ2039 (by omega)).trans (k2027.trans (k1719.trans (k1155.trans (k10.trans ((kq (a := 2) (b := 4) eσ2 (by omega))))))))⟩)
                    · have f2125 := mt Int32.toInt_inj.mp c2091
                      have f2127 := tB r1160
                      have f2128 := tB r1724
                      have f2130 := K1.g_3_7 hσ2039
                      have q2131 : σ2039.1 3 7 = σ2020.1 3 7 := by rw [eσ2039]; exact congrFun (u1_ne (by omega)) 7
                      have f2132 := congrArg Int32.toInt q2131
                      have f2133 := K1.g_3_7 hσ2020
                      have f2134 := congrArg Int32.toInt k2021
                      have f2135 := K1.g_3_7 hσ1712
                      have f2136 := congrArg Int32.toInt k1713
                      have f2137 := K1.g_3_7 hσ1148
                      have f2138 := congrArg Int32.toInt k1149
                      have f2139 := K1.g_3_7 hσ3
                      have f2140 := congrArg Int32.toInt k4
                      have f2141 := K1.g_3_7 hσ2
                      have q2142 : σ2.1 3 7 = σ.1 3 7 := by rw [eσ2, u1_at]; exact if_neg (by decide)
                      have f2143 := congrArg Int32.toInt q2142
                      have f2144 := K1.g_3_7 hσ
                      refine sX2_act hN hk1 (by omega) hσ2039 (fun σ2129 hσ2129 kk2150 => ?_)
                      obtain ⟨k2145, k2146, k2147, k2148, k2149⟩ := kk2150
                      exact hQ _ hσ2129 (⟨k2145.trans ((kq (a := 9) (b := 9) eσ2039 (by omega)).trans (k2023.trans (k1715.trans (k1151.trans (k6.trans ((kq (a := 9) (b := 9) eσ2 (by omega)))))))), k2146.trans ((kq (a := 9) (b := 10) eσ2039 (by omega)).trans (k2024.trans (k1716.trans (k1152.trans (k7.trans ((kq (a := 9) (b := 10) eσ2 (by omega)))))))), k2147.trans ((kq (a := 6) (b := 5) eσ2039 (by omega)).trans (k2025.trans (k1717.trans (k1153.trans (k8.trans ((kq (a := 6) (b := 5) eσ2 (by omega)))))))), k2148.trans ((kq (a := 7) (b := 4) eσ2039 (by omega)).trans (k2026.trans (k1718.trans (k1154.trans (k9.trans ((kq (a := 7) (b := 4) eσ2 (by omega)))))))), k2149.trans ((kq (a := 2) (b := 4) eσ2039 (by omega)).trans (k2027.trans (k1719.trans (k1155.trans (k10.trans ((kq (a := 2) (b := 4) eσ2 (by omega))))))))⟩)
                · have f2151 := tB (σ2020.1 3 11)
                  have f2153 := mt Int32.toInt_inj.mp c2034
                  exact hQ _ hσ2020 (⟨k2023.trans (k1715.trans (k1151.trans (k6.trans ((kq (a := 9) (b := 9) eσ2 (by omega)))))), k2024.trans (k1716.trans (k1152.trans (k7.trans ((kq (a := 9) (b := 10) eσ2 (by omega)))))), k2025.trans (k1717.trans (k1153.trans (k8.trans ((kq (a := 6) (b := 5) eσ2 (by omega)))))), k2026.trans (k1718.trans (k1154.trans (k9.trans ((kq (a := 7) (b := 4) eσ2 (by omega)))))), k2027.trans (k1719.trans (k1155.trans (k10.trans ((kq (a := 2) (b := 4) eσ2 (by omega))))))⟩)
              · have f2155 : (2 : Int32).toInt = 2 := by decide
                have f2156 := mt Int32.toInt_inj.mp c2016
                unfold fX2_doOrder_j122
                refine ⟨fun c2157 => ?_, fun c2157 => ?_⟩
                · have f2158 := tB (σ1712.1 3 11)
                  have f2160 := congrArg Int32.toInt c2157
                  intro v2161 ev2161
                  intro σ2162 eσ2162
                  have kb2163 := jobK_b hk1
                  have hσ2162 : K1 σ0 σ2162 := by rw [eσ2162]; exact hσ1712.u (rg_jobK hk1) (by omega) (by omega)
                  have g2165 : vp_in r15 18 := inI (by omega) (by omega)
                  refine ⟨g2165, ?_⟩
                  refine ⟨fun c2166 => ?_, fun c2166 => ?_⟩
                  · have f2169 := congrArg Int32.toInt c2166
                    have f2171 := tB r1160
                    have f2172 := tB r1724
                    refine sX2_valueFor hN hσ2162 (fun r2185 σ2173 hσ2173 kk2184 p2186 => ?_)
                    obtain ⟨k2174, k2175, k2176, k2177, k2178, k2179, k2180, k2181, k2182, k2183⟩ := kk2184
                    refine ⟨fun c2187 => ?_, fun c2187 => ?_⟩
                    · have f2188 := tB (σ2173.1 3 11)
                      have f2190 := congrArg Int32.toInt c2187
                      have f2191 : (255 : Int32).toInt = 255 := by decide
                      have f2192 := tB r2185
                      refine sX1_setLocal hN hk1 hσ2173 (fun σ2193 hσ2193 kk2205 => ?_)
                      obtain ⟨k2194, k2195, k2196, k2197, k2198, k2199, k2200, k2201, k2202, k2203, k2204⟩ := kk2205
                      unfold fX2_doOrder_j174
                      exact hQ _ hσ2193 (⟨k2197.trans (k2176.trans ((kq (a := 9) (b := 9) eσ2162 (by omega)).trans (k1715.trans (k1151.trans (k6.trans ((kq (a := 9) (b := 9) eσ2 (by omega)))))))), k2198.trans (k2177.trans ((kq (a := 9) (b := 10) eσ2162 (by omega)).trans (k1716.trans (k1152.trans (k7.trans ((kq (a := 9) (b := 10) eσ2 (by omega)))))))), k2199.trans (k2178.trans ((kq (a := 6) (b := 5) eσ2162 (by omega)).trans (k1717.trans (k1153.trans (k8.trans ((kq (a := 6) (b := 5) eσ2 (by omega)))))))), k2200.trans (k2179.trans ((kq (a := 7) (b := 4) eσ2162 (by omega)).trans (k1718.trans (k1154.trans (k9.trans ((kq (a := 7) (b := 4) eσ2 (by omega)))))))), k2201.trans (k2180.trans ((kq (a := 2) (b := 4) eσ2162 (by omega)).trans (k1719.trans (k1155.trans (k10.trans ((kq (a := 2) (b := 4) eσ2 (by omega))))))))⟩)
                    · have f2206 := tB (σ2173.1 3 11)
                      have f2208 := mt Int32.toInt_inj.mp c2187
                      unfold fX2_doOrder_j174
                      exact hQ _ hσ2173 (⟨k2176.trans ((kq (a := 9) (b := 9) eσ2162 (by omega)).trans (k1715.trans (k1151.trans (k6.trans ((kq (a := 9) (b := 9) eσ2 (by omega))))))), k2177.trans ((kq (a := 9) (b := 10) eσ2162 (by omega)).trans (k1716.trans (k1152.trans (k7.trans ((kq (a := 9) (b := 10) eσ2 (by omega))))))), k2178.trans ((kq (a := 6) (b := 5) eσ2162 (by omega)).trans (k1717.trans (k1153.trans (k8.trans ((kq (a := 6) (b := 5) eσ2 (by omega))))))), k2179.trans ((kq (a := 7) (b := 4) eσ2162 (by omega)).trans (k1718.trans (k1154.trans (k9.trans ((kq (a := 7) (b := 4) eσ2 (by omega))))))), k2180.trans ((kq (a := 2) (b := 4) eσ2162 (by omega)).trans (k1719.trans (k1155.trans (k10.trans ((kq (a := 2) (b := 4) eσ2 (by omega)))))))⟩)
                  · have f2211 := mt Int32.toInt_inj.mp c2166
                    have g2213 : vp_in r15 18 := inI (by omega) (by omega)
                    refine ⟨g2213, ?_⟩
                    refine ⟨fun c2214 => ?_, fun c2214 => ?_⟩
                    · have f2217 := congrArg Int32.toInt c2214
                      have f2219 := tB r1160
                      have f2220 := tB r1724
                      refine sX2_goesThere hN hσ2162 (fun r2234 p2235 => ?_)
                      refine ⟨fun c2236 => ?_, fun c2236 => ?_⟩
                      · have f2237 := tB r2234
                        have f2239 := congrArg Int32.toInt c2236
                        exact hQ _ hσ2162 (⟨(kq (a := 9) (b := 9) eσ2162 (by omega)).trans (k1715.trans (k1151.trans (k6.trans ((kq (a := 9) (b := 9) eσ2 (by omega)))))), (kq (a := 9) (b := 10) eσ2162 (by omega)).trans (k1716.trans (k1152.trans (k7.trans ((kq (a := 9) (b := 10) eσ2 (by omega)))))), (kq (a := 6) (b := 5) eσ2162 (by omega)).trans (k1717.trans (k1153.trans (k8.trans ((kq (a := 6) (b := 5) eσ2 (by omega)))))), (kq (a := 7) (b := 4) eσ2162 (by omega)).trans (k1718.trans (k1154.trans (k9.trans ((kq (a := 7) (b := 4) eσ2 (by omega)))))), (kq (a := 2) (b := 4) eσ2162 (by omega)).trans (k1719.trans (k1155.trans (k10.trans ((kq (a := 2) (b := 4) eσ2 (by omega))))))⟩)
                      · have f2240 := tB r2234
                        have f2242 := mt Int32.toInt_inj.mp c2236
                        intro v2243 ev2243
                        intro σ2244 eσ2244
                        have kb2245 := jobK_b hk1
                        have hσ2244 : K1 σ0 σ2244 := by rw [eσ2244]; exact hσ2162.u (rg_jobK hk1) (by omega) (by omega)
                        exact hQ _ hσ2244 (⟨(kq (a := 9) (b := 9) eσ2244 (by omega)).trans ((kq (a := 9) (b := 9) eσ2162 (by omega)).trans (k1715.trans (k1151.trans (k6.trans ((kq (a := 9) (b := 9) eσ2 (by omega))))))), (kq (a := 9) (b := 10) eσ2244 (by omega)).trans ((kq (a := 9) (b := 10) eσ2162 (by omega)).trans (k1716.trans (k1152.trans (k7.trans ((kq (a := 9) (b := 10) eσ2 (by omega))))))), (kq (a := 6) (b := 5) eσ2244 (by omega)).trans ((kq (a := 6) (b := 5) eσ2162 (by omega)).trans (k1717.trans (k1153.trans (k8.trans ((kq (a := 6) (b := 5) eσ2 (by omega))))))), (kq (a := 7) (b := 4) eσ2244 (by omega)).trans ((kq (a := 7) (b := 4) eσ2162 (by omega)).trans (k1718.trans (k1154.trans (k9.trans ((kq (a := 7) (b := 4) eσ2 (by omega))))))), (kq (a := 2) (b := 4) eσ2244 (by omega)).trans ((kq (a := 2) (b := 4) eσ2162 (by omega)).trans (k1719.trans (k1155.trans (k10.trans ((kq (a := 2) (b := 4) eσ2 (by omega)))))))⟩)
                    · have f2248 := mt Int32.toInt_inj.mp c2214
                      have f2250 := tB r1160
                      have f2251 := tB r1724
                      have f2253 := K1.g_3_7 hσ2162
                      have q2254 : σ2162.1 3 7 = σ1712.1 3 7 := by rw [eσ2162]; exact congrFun (u1_ne (by omega)) 7
                      have f2255 := congrArg Int32.toInt q2254
                      have f2256 := K1.g_3_7 hσ1712
                      have f2257 := congrArg Int32.toInt k1713
                      have f2258 := K1.g_3_7 hσ1148
                      have f2259 := congrArg Int32.toInt k1149
                      have f2260 := K1.g_3_7 hσ3
                      have f2261 := congrArg Int32.toInt k4
                      have f2262 := K1.g_3_7 hσ2
                      have q2263 : σ2.1 3 7 = σ.1 3 7 := by rw [eσ2, u1_at]; exact if_neg (by decide)
                      have f2264 := congrArg Int32.toInt q2263
                      have f2265 := K1.g_3_7 hσ
                      refine sX2_act hN hk1 (by omega) hσ2162 (fun σ2252 hσ2252 kk2271 => ?_)
                      obtain ⟨k2266, k2267, k2268, k2269, k2270⟩ := kk2271
                      exact hQ _ hσ2252 (⟨k2266.trans ((kq (a := 9) (b := 9) eσ2162 (by omega)).trans (k1715.trans (k1151.trans (k6.trans ((kq (a := 9) (b := 9) eσ2 (by omega))))))), k2267.trans ((kq (a := 9) (b := 10) eσ2162 (by omega)).trans (k1716.trans (k1152.trans (k7.trans ((kq (a := 9) (b := 10) eσ2 (by omega))))))), k2268.trans ((kq (a := 6) (b := 5) eσ2162 (by omega)).trans (k1717.trans (k1153.trans (k8.trans ((kq (a := 6) (b := 5) eσ2 (by omega))))))), k2269.trans ((kq (a := 7) (b := 4) eσ2162 (by omega)).trans (k1718.trans (k1154.trans (k9.trans ((kq (a := 7) (b := 4) eσ2 (by omega))))))), k2270.trans ((kq (a := 2) (b := 4) eσ2162 (by omega)).trans (k1719.trans (k1155.trans (k10.trans ((kq (a := 2) (b := 4) eσ2 (by omega)))))))⟩)
                · have f2272 := tB (σ1712.1 3 11)
                  have f2274 := mt Int32.toInt_inj.mp c2157
                  exact hQ _ hσ1712 (⟨k1715.trans (k1151.trans (k6.trans ((kq (a := 9) (b := 9) eσ2 (by omega))))), k1716.trans (k1152.trans (k7.trans ((kq (a := 9) (b := 10) eσ2 (by omega))))), k1717.trans (k1153.trans (k8.trans ((kq (a := 6) (b := 5) eσ2 (by omega))))), k1718.trans (k1154.trans (k9.trans ((kq (a := 7) (b := 4) eσ2 (by omega))))), k1719.trans (k1155.trans (k10.trans ((kq (a := 2) (b := 4) eσ2 (by omega)))))⟩)
    · have f2275 := tB (σ3.1 3 11)
      have f2276 : (0 : Int32).toInt = 0 := by decide
      have f2277 := mt Int32.toInt_inj.mp c21
      exact hQ _ hσ3 (⟨k6.trans ((kq (a := 9) (b := 9) eσ2 (by omega))), k7.trans ((kq (a := 9) (b := 10) eσ2 (by omega))), k8.trans ((kq (a := 6) (b := 5) eσ2 (by omega))), k9.trans ((kq (a := 7) (b := 4) eσ2 (by omega))), k10.trans ((kq (a := 2) (b := 4) eσ2 (by omega)))⟩)
  · have f2278 := tB r15
    have f2279 : (17 : Int32).toInt = 17 := by decide
    have f2280 := mt Int32.le_iff_toInt_le.mpr c17
    unfold fX2_fail
    refine ⟨fun c2281 => ?_, fun c2281 => ?_⟩
    · have f2282 := tB (σ3.1 3 11)
      have f2283 : (0 : Int32).toInt = 0 := by decide
      have f2284 := congrArg Int32.toInt c2281
      intro σ2285 eσ2285
      have hσ2285 : K1 σ0 σ2285 := by rw [eσ2285]; exact hσ3.u (Rg1.u_3_11 _) (by omega) (by omega)
      try dsimp only
      unfold fX2_doOrder_j25
      refine ⟨fun c2286 => ?_, fun c2286 => ?_⟩
      · have f2287 := tB (σ2285.1 3 11)
        have q2288 : σ2285.1 3 11 = 6 := by rw [eσ2285, u1_at]; exact if_pos rfl
        have f2289 := congrArg Int32.toInt q2288
        have f2290 : (6 : Int32).toInt = 6 := by decide
        have f2292 := congrArg Int32.toInt c2286
        refine ⟨fun c2293 => ?_, fun c2293 => ?_⟩
        · have f2296 := congrArg Int32.toInt c2293
          refine sX2_doCallOrder hN hk1 hσ2285 (fun σ2297 hσ2297 kk2306 => ?_)
          obtain ⟨k2298, k2299, k2300, k2301, k2302, k2303, k2304, k2305⟩ := kk2306
          exact hQ _ hσ2297 (⟨k2298.trans ((kq (a := 9) (b := 9) eσ2285 (by omega)).trans (k6.trans ((kq (a := 9) (b := 9) eσ2 (by omega))))), k2299.trans ((kq (a := 9) (b := 10) eσ2285 (by omega)).trans (k7.trans ((kq (a := 9) (b := 10) eσ2 (by omega))))), k2300.trans ((kq (a := 6) (b := 5) eσ2285 (by omega)).trans (k8.trans ((kq (a := 6) (b := 5) eσ2 (by omega))))), k2301.trans ((kq (a := 7) (b := 4) eσ2285 (by omega)).trans (k9.trans ((kq (a := 7) (b := 4) eσ2 (by omega))))), k2302.trans ((kq (a := 2) (b := 4) eσ2285 (by omega)).trans (k10.trans ((kq (a := 2) (b := 4) eσ2 (by omega)))))⟩)
        · have f2309 := mt Int32.toInt_inj.mp c2293
          have g2311 : vp_in r15 18 := inI (by omega) (by omega)
          refine ⟨g2311, ?_⟩
          refine ⟨fun c2312 => ?_, fun c2312 => ?_⟩
          · have f2313 := tB (jV r15.toNatClampNeg)
            have f2315 := Int32.le_iff_toInt_le.mp c2312
            unfold fX2_doOrder_j62
            have g2317 : vp_in r15 18 := inI (by omega) (by omega)
            refine ⟨g2317, ?_⟩
            refine ⟨fun c2318 => ?_, fun c2318 => ?_⟩
            · have f2320 : (1 : Int32).toInt = 1 := by decide
              have f2321 := Int32.le_iff_toInt_le.mp c2318
              unfold fX2_doOrder_j81
              have g2323 : vp_in r15 18 := inI (by omega) (by omega)
              refine ⟨g2323, ?_⟩
              refine ⟨fun c2324 => ?_, fun c2324 => ?_⟩
              · have f2325 := tB (jT r15.toNatClampNeg)
                have f2327 := congrArg Int32.toInt c2324
                refine sX2_nextTarget hN hk1 hσ2285 (fun r2340 σ2328 hσ2328 kk2339 p2341 => ?_)
                obtain ⟨k2329, k2330, k2331, k2332, k2333, k2334, k2335, k2336, k2337, k2338⟩ := kk2339
                unfold fX2_doOrder_j103
                have g2343 : vp_in r15 18 := inI (by omega) (by omega)
                refine ⟨g2343, ?_⟩
                refine ⟨fun c2344 => ?_, fun c2344 => ?_⟩
                · have f2346 : (2 : Int32).toInt = 2 := by decide
                  have f2347 := congrArg Int32.toInt c2344
                  refine sX2_nextDistance hN hσ2328 (fun r2360 σ2348 hσ2348 kk2359 p2361 => ?_)
                  obtain ⟨k2349, k2350, k2351, k2352, k2353, k2354, k2355, k2356, k2357, k2358⟩ := kk2359
                  unfold fX2_doOrder_j122
                  refine ⟨fun c2362 => ?_, fun c2362 => ?_⟩
                  · have f2363 := tB (σ2348.1 3 11)
                    have f2365 := congrArg Int32.toInt c2362
                    intro v2366 ev2366
                    intro σ2367 eσ2367
                    have kb2368 := jobK_b hk1
                    have hσ2367 : K1 σ0 σ2367 := by rw [eσ2367]; exact hσ2348.u (rg_jobK hk1) (by omega) (by omega)
                    have g2370 : vp_in r15 18 := inI (by omega) (by omega)
                    refine ⟨g2370, ?_⟩
                    refine ⟨fun c2371 => ?_, fun c2371 => ?_⟩
                    · have f2374 := congrArg Int32.toInt c2371
                      refine sX2_valueFor hN hσ2367 (fun r2390 σ2378 hσ2378 kk2389 p2391 => ?_)
                      obtain ⟨k2379, k2380, k2381, k2382, k2383, k2384, k2385, k2386, k2387, k2388⟩ := kk2389
                      refine ⟨fun c2392 => ?_, fun c2392 => ?_⟩
                      · have f2393 := tB (σ2378.1 3 11)
                        have f2395 := congrArg Int32.toInt c2392
                        have f2396 := tB r2340
                        have f2397 := tB r2390
                        refine sX1_setLocal hN hk1 hσ2378 (fun σ2398 hσ2398 kk2410 => ?_)
                        obtain ⟨k2399, k2400, k2401, k2402, k2403, k2404, k2405, k2406, k2407, k2408, k2409⟩ := kk2410
                        unfold fX2_doOrder_j174
                        exact hQ _ hσ2398 (⟨k2402.trans (k2381.trans ((kq (a := 9) (b := 9) eσ2367 (by omega)).trans (k2351.trans (k2331.trans ((kq (a := 9) (b := 9) eσ2285 (by omega)).trans (k6.trans ((kq (a := 9) (b := 9) eσ2 (by omega))))))))), k2403.trans (k2382.trans ((kq (a := 9) (b := 10) eσ2367 (by omega)).trans (k2352.trans (k2332.trans ((kq (a := 9) (b := 10) eσ2285 (by omega)).trans (k7.trans ((kq (a := 9) (b := 10) eσ2 (by omega))))))))), k2404.trans (k2383.trans ((kq (a := 6) (b := 5) eσ2367 (by omega)).trans (k2353.trans (k2333.trans ((kq (a := 6) (b := 5) eσ2285 (by omega)).trans (k8.trans ((kq (a := 6) (b := 5) eσ2 (by omega))))))))), k2405.trans (k2384.trans ((kq (a := 7) (b := 4) eσ2367 (by omega)).trans (k2354.trans (k2334.trans ((kq (a := 7) (b := 4) eσ2285 (by omega)).trans (k9.trans ((kq (a := 7) (b := 4) eσ2 (by omega))))))))), k2406.trans (k2385.trans ((kq (a := 2) (b := 4) eσ2367 (by omega)).trans (k2355.trans (k2335.trans ((kq (a := 2) (b := 4) eσ2285 (by omega)).trans (k10.trans ((kq (a := 2) (b := 4) eσ2 (by omega)))))))))⟩)
                      · have f2411 := tB (σ2378.1 3 11)
                        have f2413 := mt Int32.toInt_inj.mp c2392
                        unfold fX2_doOrder_j174
                        exact hQ _ hσ2378 (⟨k2381.trans ((kq (a := 9) (b := 9) eσ2367 (by omega)).trans (k2351.trans (k2331.trans ((kq (a := 9) (b := 9) eσ2285 (by omega)).trans (k6.trans ((kq (a := 9) (b := 9) eσ2 (by omega)))))))), k2382.trans ((kq (a := 9) (b := 10) eσ2367 (by omega)).trans (k2352.trans (k2332.trans ((kq (a := 9) (b := 10) eσ2285 (by omega)).trans (k7.trans ((kq (a := 9) (b := 10) eσ2 (by omega)))))))), k2383.trans ((kq (a := 6) (b := 5) eσ2367 (by omega)).trans (k2353.trans (k2333.trans ((kq (a := 6) (b := 5) eσ2285 (by omega)).trans (k8.trans ((kq (a := 6) (b := 5) eσ2 (by omega)))))))), k2384.trans ((kq (a := 7) (b := 4) eσ2367 (by omega)).trans (k2354.trans (k2334.trans ((kq (a := 7) (b := 4) eσ2285 (by omega)).trans (k9.trans ((kq (a := 7) (b := 4) eσ2 (by omega)))))))), k2385.trans ((kq (a := 2) (b := 4) eσ2367 (by omega)).trans (k2355.trans (k2335.trans ((kq (a := 2) (b := 4) eσ2285 (by omega)).trans (k10.trans ((kq (a := 2) (b := 4) eσ2 (by omega))))))))⟩)
                    · have f2416 := mt Int32.toInt_inj.mp c2371
                      have g2418 : vp_in r15 18 := inI (by omega) (by omega)
                      refine ⟨g2418, ?_⟩
                      refine ⟨fun c2419 => ?_, fun c2419 => ?_⟩
                      · have f2422 := congrArg Int32.toInt c2419
                        refine sX2_goesThere hN hσ2367 (fun r2439 p2440 => ?_)
                        refine ⟨fun c2441 => ?_, fun c2441 => ?_⟩
                        · have f2442 := tB r2439
                          have f2444 := congrArg Int32.toInt c2441
                          exact hQ _ hσ2367 (⟨(kq (a := 9) (b := 9) eσ2367 (by omega)).trans (k2351.trans (k2331.trans ((kq (a := 9) (b := 9) eσ2285 (by omega)).trans (k6.trans ((kq (a := 9) (b := 9) eσ2 (by omega))))))), (kq (a := 9) (b := 10) eσ2367 (by omega)).trans (k2352.trans (k2332.trans ((kq (a := 9) (b := 10) eσ2285 (by omega)).trans (k7.trans ((kq (a := 9) (b := 10) eσ2 (by omega))))))), (kq (a := 6) (b := 5) eσ2367 (by omega)).trans (k2353.trans (k2333.trans ((kq (a := 6) (b := 5) eσ2285 (by omega)).trans (k8.trans ((kq (a := 6) (b := 5) eσ2 (by omega))))))), (kq (a := 7) (b := 4) eσ2367 (by omega)).trans (k2354.trans (k2334.trans ((kq (a := 7) (b := 4) eσ2285 (by omega)).trans (k9.trans ((kq (a := 7) (b := 4) eσ2 (by omega))))))), (kq (a := 2) (b := 4) eσ2367 (by omega)).trans (k2355.trans (k2335.trans ((kq (a := 2) (b := 4) eσ2285 (by omega)).trans (k10.trans ((kq (a := 2) (b := 4) eσ2 (by omega)))))))⟩)
                        · have f2445 := tB r2439
                          have f2447 := mt Int32.toInt_inj.mp c2441
                          intro v2448 ev2448
                          intro σ2449 eσ2449
                          have kb2450 := jobK_b hk1
                          have hσ2449 : K1 σ0 σ2449 := by rw [eσ2449]; exact hσ2367.u (rg_jobK hk1) (by omega) (by omega)
                          exact hQ _ hσ2449 (⟨(kq (a := 9) (b := 9) eσ2449 (by omega)).trans ((kq (a := 9) (b := 9) eσ2367 (by omega)).trans (k2351.trans (k2331.trans ((kq (a := 9) (b := 9) eσ2285 (by omega)).trans (k6.trans ((kq (a := 9) (b := 9) eσ2 (by omega)))))))), (kq (a := 9) (b := 10) eσ2449 (by omega)).trans ((kq (a := 9) (b := 10) eσ2367 (by omega)).trans (k2352.trans (k2332.trans ((kq (a := 9) (b := 10) eσ2285 (by omega)).trans (k7.trans ((kq (a := 9) (b := 10) eσ2 (by omega)))))))), (kq (a := 6) (b := 5) eσ2449 (by omega)).trans ((kq (a := 6) (b := 5) eσ2367 (by omega)).trans (k2353.trans (k2333.trans ((kq (a := 6) (b := 5) eσ2285 (by omega)).trans (k8.trans ((kq (a := 6) (b := 5) eσ2 (by omega)))))))), (kq (a := 7) (b := 4) eσ2449 (by omega)).trans ((kq (a := 7) (b := 4) eσ2367 (by omega)).trans (k2354.trans (k2334.trans ((kq (a := 7) (b := 4) eσ2285 (by omega)).trans (k9.trans ((kq (a := 7) (b := 4) eσ2 (by omega)))))))), (kq (a := 2) (b := 4) eσ2449 (by omega)).trans ((kq (a := 2) (b := 4) eσ2367 (by omega)).trans (k2355.trans (k2335.trans ((kq (a := 2) (b := 4) eσ2285 (by omega)).trans (k10.trans ((kq (a := 2) (b := 4) eσ2 (by omega))))))))⟩)
                      · have f2453 := mt Int32.toInt_inj.mp c2419
                        have f2458 := K1.g_3_7 hσ2367
                        have q2459 : σ2367.1 3 7 = σ2348.1 3 7 := by rw [eσ2367]; exact congrFun (u1_ne (by omega)) 7
                        have f2460 := congrArg Int32.toInt q2459
                        have f2461 := K1.g_3_7 hσ2348
                        have f2462 := congrArg Int32.toInt k2349
                        have f2463 := K1.g_3_7 hσ2328
                        have f2464 := congrArg Int32.toInt k2329
                        have f2465 := K1.g_3_7 hσ2285
                        have q2466 : σ2285.1 3 7 = σ3.1 3 7 := by rw [eσ2285, u1_at]; exact if_neg (by decide)
                        have f2467 := congrArg Int32.toInt q2466
                        have f2468 := K1.g_3_7 hσ3
                        have f2469 := congrArg Int32.toInt k4
                        have f2470 := K1.g_3_7 hσ2
                        have q2471 : σ2.1 3 7 = σ.1 3 7 := by rw [eσ2, u1_at]; exact if_neg (by decide)
                        have f2472 := congrArg Int32.toInt q2471
                        have f2473 := K1.g_3_7 hσ
                        refine sX2_act hN hk1 (by omega) hσ2367 (fun σ2457 hσ2457 kk2479 => ?_)
                        obtain ⟨k2474, k2475, k2476, k2477, k2478⟩ := kk2479
                        exact hQ _ hσ2457 (⟨k2474.trans ((kq (a := 9) (b := 9) eσ2367 (by omega)).trans (k2351.trans (k2331.trans ((kq (a := 9) (b := 9) eσ2285 (by omega)).trans (k6.trans ((kq (a := 9) (b := 9) eσ2 (by omega)))))))), k2475.trans ((kq (a := 9) (b := 10) eσ2367 (by omega)).trans (k2352.trans (k2332.trans ((kq (a := 9) (b := 10) eσ2285 (by omega)).trans (k7.trans ((kq (a := 9) (b := 10) eσ2 (by omega)))))))), k2476.trans ((kq (a := 6) (b := 5) eσ2367 (by omega)).trans (k2353.trans (k2333.trans ((kq (a := 6) (b := 5) eσ2285 (by omega)).trans (k8.trans ((kq (a := 6) (b := 5) eσ2 (by omega)))))))), k2477.trans ((kq (a := 7) (b := 4) eσ2367 (by omega)).trans (k2354.trans (k2334.trans ((kq (a := 7) (b := 4) eσ2285 (by omega)).trans (k9.trans ((kq (a := 7) (b := 4) eσ2 (by omega)))))))), k2478.trans ((kq (a := 2) (b := 4) eσ2367 (by omega)).trans (k2355.trans (k2335.trans ((kq (a := 2) (b := 4) eσ2285 (by omega)).trans (k10.trans ((kq (a := 2) (b := 4) eσ2 (by omega))))))))⟩)
                  · have f2480 := tB (σ2348.1 3 11)
                    have f2482 := mt Int32.toInt_inj.mp c2362
                    exact hQ _ hσ2348 (⟨k2351.trans (k2331.trans ((kq (a := 9) (b := 9) eσ2285 (by omega)).trans (k6.trans ((kq (a := 9) (b := 9) eσ2 (by omega)))))), k2352.trans (k2332.trans ((kq (a := 9) (b := 10) eσ2285 (by omega)).trans (k7.trans ((kq (a := 9) (b := 10) eσ2 (by omega)))))), k2353.trans (k2333.trans ((kq (a := 6) (b := 5) eσ2285 (by omega)).trans (k8.trans ((kq (a := 6) (b := 5) eσ2 (by omega)))))), k2354.trans (k2334.trans ((kq (a := 7) (b := 4) eσ2285 (by omega)).trans (k9.trans ((kq (a := 7) (b := 4) eσ2 (by omega)))))), k2355.trans (k2335.trans ((kq (a := 2) (b := 4) eσ2285 (by omega)).trans (k10.trans ((kq (a := 2) (b := 4) eσ2 (by omega))))))⟩)
                · have f2484 : (2 : Int32).toInt = 2 := by decide
                  have f2485 := mt Int32.toInt_inj.mp c2344
                  unfold fX2_doOrder_j122
                  refine ⟨fun c2486 => ?_, fun c2486 => ?_⟩
                  · have f2487 := tB (σ2328.1 3 11)
                    have f2489 := congrArg Int32.toInt c2486
                    intro v2490 ev2490
                    intro σ2491 eσ2491
                    have kb2492 := jobK_b hk1
                    have hσ2491 : K1 σ0 σ2491 := by rw [eσ2491]; exact hσ2328.u (rg_jobK hk1) (by omega) (by omega)
                    have g2494 : vp_in r15 18 := inI (by omega) (by omega)
                    refine ⟨g2494, ?_⟩
                    refine ⟨fun c2495 => ?_, fun c2495 => ?_⟩
                    · have f2498 := congrArg Int32.toInt c2495
                      refine sX2_valueFor hN hσ2491 (fun r2514 σ2502 hσ2502 kk2513 p2515 => ?_)
                      obtain ⟨k2503, k2504, k2505, k2506, k2507, k2508, k2509, k2510, k2511, k2512⟩ := kk2513
                      refine ⟨fun c2516 => ?_, fun c2516 => ?_⟩
                      · have f2517 := tB (σ2502.1 3 11)
                        have f2519 := congrArg Int32.toInt c2516
                        have f2520 := tB r2340
                        have f2521 := tB r2514
                        refine sX1_setLocal hN hk1 hσ2502 (fun σ2522 hσ2522 kk2534 => ?_)
                        obtain ⟨k2523, k2524, k2525, k2526, k2527, k2528, k2529, k2530, k2531, k2532, k2533⟩ := kk2534
                        unfold fX2_doOrder_j174
                        exact hQ _ hσ2522 (⟨k2526.trans (k2505.trans ((kq (a := 9) (b := 9) eσ2491 (by omega)).trans (k2331.trans ((kq (a := 9) (b := 9) eσ2285 (by omega)).trans (k6.trans ((kq (a := 9) (b := 9) eσ2 (by omega)))))))), k2527.trans (k2506.trans ((kq (a := 9) (b := 10) eσ2491 (by omega)).trans (k2332.trans ((kq (a := 9) (b := 10) eσ2285 (by omega)).trans (k7.trans ((kq (a := 9) (b := 10) eσ2 (by omega)))))))), k2528.trans (k2507.trans ((kq (a := 6) (b := 5) eσ2491 (by omega)).trans (k2333.trans ((kq (a := 6) (b := 5) eσ2285 (by omega)).trans (k8.trans ((kq (a := 6) (b := 5) eσ2 (by omega)))))))), k2529.trans (k2508.trans ((kq (a := 7) (b := 4) eσ2491 (by omega)).trans (k2334.trans ((kq (a := 7) (b := 4) eσ2285 (by omega)).trans (k9.trans ((kq (a := 7) (b := 4) eσ2 (by omega)))))))), k2530.trans (k2509.trans ((kq (a := 2) (b := 4) eσ2491 (by omega)).trans (k2335.trans ((kq (a := 2) (b := 4) eσ2285 (by omega)).trans (k10.trans ((kq (a := 2) (b := 4) eσ2 (by omega))))))))⟩)
                      · have f2535 := tB (σ2502.1 3 11)
                        have f2537 := mt Int32.toInt_inj.mp c2516
                        unfold fX2_doOrder_j174
                        exact hQ _ hσ2502 (⟨k2505.trans ((kq (a := 9) (b := 9) eσ2491 (by omega)).trans (k2331.trans ((kq (a := 9) (b := 9) eσ2285 (by omega)).trans (k6.trans ((kq (a := 9) (b := 9) eσ2 (by omega))))))), k2506.trans ((kq (a := 9) (b := 10) eσ2491 (by omega)).trans (k2332.trans ((kq (a := 9) (b := 10) eσ2285 (by omega)).trans (k7.trans ((kq (a := 9) (b := 10) eσ2 (by omega))))))), k2507.trans ((kq (a := 6) (b := 5) eσ2491 (by omega)).trans (k2333.trans ((kq (a := 6) (b := 5) eσ2285 (by omega)).trans (k8.trans ((kq (a := 6) (b := 5) eσ2 (by omega))))))), k2508.trans ((kq (a := 7) (b := 4) eσ2491 (by omega)).trans (k2334.trans ((kq (a := 7) (b := 4) eσ2285 (by omega)).trans (k9.trans ((kq (a := 7) (b := 4) eσ2 (by omega))))))), k2509.trans ((kq (a := 2) (b := 4) eσ2491 (by omega)).trans (k2335.trans ((kq (a := 2) (b := 4) eσ2285 (by omega)).trans (k10.trans ((kq (a := 2) (b := 4) eσ2 (by omega)))))))⟩)
                    · have f2540 := mt Int32.toInt_inj.mp c2495
                      have g2542 : vp_in r15 18 := inI (by omega) (by omega)
                      refine ⟨g2542, ?_⟩
                      refine ⟨fun c2543 => ?_, fun c2543 => ?_⟩
                      · have f2546 := congrArg Int32.toInt c2543
                        refine sX2_goesThere hN hσ2491 (fun r2563 p2564 => ?_)
                        refine ⟨fun c2565 => ?_, fun c2565 => ?_⟩
                        · have f2566 := tB r2563
                          have f2568 := congrArg Int32.toInt c2565
                          exact hQ _ hσ2491 (⟨(kq (a := 9) (b := 9) eσ2491 (by omega)).trans (k2331.trans ((kq (a := 9) (b := 9) eσ2285 (by omega)).trans (k6.trans ((kq (a := 9) (b := 9) eσ2 (by omega)))))), (kq (a := 9) (b := 10) eσ2491 (by omega)).trans (k2332.trans ((kq (a := 9) (b := 10) eσ2285 (by omega)).trans (k7.trans ((kq (a := 9) (b := 10) eσ2 (by omega)))))), (kq (a := 6) (b := 5) eσ2491 (by omega)).trans (k2333.trans ((kq (a := 6) (b := 5) eσ2285 (by omega)).trans (k8.trans ((kq (a := 6) (b := 5) eσ2 (by omega)))))), (kq (a := 7) (b := 4) eσ2491 (by omega)).trans (k2334.trans ((kq (a := 7) (b := 4) eσ2285 (by omega)).trans (k9.trans ((kq (a := 7) (b := 4) eσ2 (by omega)))))), (kq (a := 2) (b := 4) eσ2491 (by omega)).trans (k2335.trans ((kq (a := 2) (b := 4) eσ2285 (by omega)).trans (k10.trans ((kq (a := 2) (b := 4) eσ2 (by omega))))))⟩)
                        · have f2569 := tB r2563
                          have f2571 := mt Int32.toInt_inj.mp c2565
                          intro v2572 ev2572
                          intro σ2573 eσ2573
                          have kb2574 := jobK_b hk1
                          have hσ2573 : K1 σ0 σ2573 := by rw [eσ2573]; exact hσ2491.u (rg_jobK hk1) (by omega) (by omega)
                          exact hQ _ hσ2573 (⟨(kq (a := 9) (b := 9) eσ2573 (by omega)).trans ((kq (a := 9) (b := 9) eσ2491 (by omega)).trans (k2331.trans ((kq (a := 9) (b := 9) eσ2285 (by omega)).trans (k6.trans ((kq (a := 9) (b := 9) eσ2 (by omega))))))), (kq (a := 9) (b := 10) eσ2573 (by omega)).trans ((kq (a := 9) (b := 10) eσ2491 (by omega)).trans (k2332.trans ((kq (a := 9) (b := 10) eσ2285 (by omega)).trans (k7.trans ((kq (a := 9) (b := 10) eσ2 (by omega))))))), (kq (a := 6) (b := 5) eσ2573 (by omega)).trans ((kq (a := 6) (b := 5) eσ2491 (by omega)).trans (k2333.trans ((kq (a := 6) (b := 5) eσ2285 (by omega)).trans (k8.trans ((kq (a := 6) (b := 5) eσ2 (by omega))))))), (kq (a := 7) (b := 4) eσ2573 (by omega)).trans ((kq (a := 7) (b := 4) eσ2491 (by omega)).trans (k2334.trans ((kq (a := 7) (b := 4) eσ2285 (by omega)).trans (k9.trans ((kq (a := 7) (b := 4) eσ2 (by omega))))))), (kq (a := 2) (b := 4) eσ2573 (by omega)).trans ((kq (a := 2) (b := 4) eσ2491 (by omega)).trans (k2335.trans ((kq (a := 2) (b := 4) eσ2285 (by omega)).trans (k10.trans ((kq (a := 2) (b := 4) eσ2 (by omega)))))))⟩)
                      · have f2577 := mt Int32.toInt_inj.mp c2543
                        have f2582 := K1.g_3_7 hσ2491
                        have q2583 : σ2491.1 3 7 = σ2328.1 3 7 := by rw [eσ2491]; exact congrFun (u1_ne (by omega)) 7
                        have f2584 := congrArg Int32.toInt q2583
                        have f2585 := K1.g_3_7 hσ2328
                        have f2586 := congrArg Int32.toInt k2329
                        have f2587 := K1.g_3_7 hσ2285
                        have q2588 : σ2285.1 3 7 = σ3.1 3 7 := by rw [eσ2285, u1_at]; exact if_neg (by decide)
                        have f2589 := congrArg Int32.toInt q2588
                        have f2590 := K1.g_3_7 hσ3
                        have f2591 := congrArg Int32.toInt k4
                        have f2592 := K1.g_3_7 hσ2
                        have q2593 : σ2.1 3 7 = σ.1 3 7 := by rw [eσ2, u1_at]; exact if_neg (by decide)
                        have f2594 := congrArg Int32.toInt q2593
                        have f2595 := K1.g_3_7 hσ
                        refine sX2_act hN hk1 (by omega) hσ2491 (fun σ2581 hσ2581 kk2601 => ?_)
                        obtain ⟨k2596, k2597, k2598, k2599, k2600⟩ := kk2601
                        exact hQ _ hσ2581 (⟨k2596.trans ((kq (a := 9) (b := 9) eσ2491 (by omega)).trans (k2331.trans ((kq (a := 9) (b := 9) eσ2285 (by omega)).trans (k6.trans ((kq (a := 9) (b := 9) eσ2 (by omega))))))), k2597.trans ((kq (a := 9) (b := 10) eσ2491 (by omega)).trans (k2332.trans ((kq (a := 9) (b := 10) eσ2285 (by omega)).trans (k7.trans ((kq (a := 9) (b := 10) eσ2 (by omega))))))), k2598.trans ((kq (a := 6) (b := 5) eσ2491 (by omega)).trans (k2333.trans ((kq (a := 6) (b := 5) eσ2285 (by omega)).trans (k8.trans ((kq (a := 6) (b := 5) eσ2 (by omega))))))), k2599.trans ((kq (a := 7) (b := 4) eσ2491 (by omega)).trans (k2334.trans ((kq (a := 7) (b := 4) eσ2285 (by omega)).trans (k9.trans ((kq (a := 7) (b := 4) eσ2 (by omega))))))), k2600.trans ((kq (a := 2) (b := 4) eσ2491 (by omega)).trans (k2335.trans ((kq (a := 2) (b := 4) eσ2285 (by omega)).trans (k10.trans ((kq (a := 2) (b := 4) eσ2 (by omega)))))))⟩)
                  · have f2602 := tB (σ2328.1 3 11)
                    have f2604 := mt Int32.toInt_inj.mp c2486
                    exact hQ _ hσ2328 (⟨k2331.trans ((kq (a := 9) (b := 9) eσ2285 (by omega)).trans (k6.trans ((kq (a := 9) (b := 9) eσ2 (by omega))))), k2332.trans ((kq (a := 9) (b := 10) eσ2285 (by omega)).trans (k7.trans ((kq (a := 9) (b := 10) eσ2 (by omega))))), k2333.trans ((kq (a := 6) (b := 5) eσ2285 (by omega)).trans (k8.trans ((kq (a := 6) (b := 5) eσ2 (by omega))))), k2334.trans ((kq (a := 7) (b := 4) eσ2285 (by omega)).trans (k9.trans ((kq (a := 7) (b := 4) eσ2 (by omega))))), k2335.trans ((kq (a := 2) (b := 4) eσ2285 (by omega)).trans (k10.trans ((kq (a := 2) (b := 4) eσ2 (by omega)))))⟩)
              · have f2605 := tB (jT r15.toNatClampNeg)
                have f2607 := mt Int32.toInt_inj.mp c2324
                unfold fX2_doOrder_j103
                have g2609 : vp_in r15 18 := inI (by omega) (by omega)
                refine ⟨g2609, ?_⟩
                refine ⟨fun c2610 => ?_, fun c2610 => ?_⟩
                · have f2612 : (2 : Int32).toInt = 2 := by decide
                  have f2613 := congrArg Int32.toInt c2610
                  refine sX2_nextDistance hN hσ2285 (fun r2626 σ2614 hσ2614 kk2625 p2627 => ?_)
                  obtain ⟨k2615, k2616, k2617, k2618, k2619, k2620, k2621, k2622, k2623, k2624⟩ := kk2625
                  unfold fX2_doOrder_j122
                  refine ⟨fun c2628 => ?_, fun c2628 => ?_⟩
                  · have f2629 := tB (σ2614.1 3 11)
                    have f2631 := congrArg Int32.toInt c2628
                    intro v2632 ev2632
                    intro σ2633 eσ2633
                    have kb2634 := jobK_b hk1
                    have hσ2633 : K1 σ0 σ2633 := by rw [eσ2633]; exact hσ2614.u (rg_jobK hk1) (by omega) (by omega)
                    have g2636 : vp_in r15 18 := inI (by omega) (by omega)
                    refine ⟨g2636, ?_⟩
                    refine ⟨fun c2637 => ?_, fun c2637 => ?_⟩
                    · have f2640 := congrArg Int32.toInt c2637
                      refine sX2_valueFor hN hσ2633 (fun r2656 σ2644 hσ2644 kk2655 p2657 => ?_)
                      obtain ⟨k2645, k2646, k2647, k2648, k2649, k2650, k2651, k2652, k2653, k2654⟩ := kk2655
                      refine ⟨fun c2658 => ?_, fun c2658 => ?_⟩
                      · have f2659 := tB (σ2644.1 3 11)
                        have f2661 := congrArg Int32.toInt c2658
                        have f2662 : (255 : Int32).toInt = 255 := by decide
                        have f2663 := tB r2656
                        refine sX1_setLocal hN hk1 hσ2644 (fun σ2664 hσ2664 kk2676 => ?_)
                        obtain ⟨k2665, k2666, k2667, k2668, k2669, k2670, k2671, k2672, k2673, k2674, k2675⟩ := kk2676
                        unfold fX2_doOrder_j174
                        exact hQ _ hσ2664 (⟨k2668.trans (k2647.trans ((kq (a := 9) (b := 9) eσ2633 (by omega)).trans (k2617.trans ((kq (a := 9) (b := 9) eσ2285 (by omega)).trans (k6.trans ((kq (a := 9) (b := 9) eσ2 (by omega)))))))), k2669.trans (k2648.trans ((kq (a := 9) (b := 10) eσ2633 (by omega)).trans (k2618.trans ((kq (a := 9) (b := 10) eσ2285 (by omega)).trans (k7.trans ((kq (a := 9) (b := 10) eσ2 (by omega)))))))), k2670.trans (k2649.trans ((kq (a := 6) (b := 5) eσ2633 (by omega)).trans (k2619.trans ((kq (a := 6) (b := 5) eσ2285 (by omega)).trans (k8.trans ((kq (a := 6) (b := 5) eσ2 (by omega)))))))), k2671.trans (k2650.trans ((kq (a := 7) (b := 4) eσ2633 (by omega)).trans (k2620.trans ((kq (a := 7) (b := 4) eσ2285 (by omega)).trans (k9.trans ((kq (a := 7) (b := 4) eσ2 (by omega)))))))), k2672.trans (k2651.trans ((kq (a := 2) (b := 4) eσ2633 (by omega)).trans (k2621.trans ((kq (a := 2) (b := 4) eσ2285 (by omega)).trans (k10.trans ((kq (a := 2) (b := 4) eσ2 (by omega))))))))⟩)
                      · have f2677 := tB (σ2644.1 3 11)
                        have f2679 := mt Int32.toInt_inj.mp c2658
                        unfold fX2_doOrder_j174
                        exact hQ _ hσ2644 (⟨k2647.trans ((kq (a := 9) (b := 9) eσ2633 (by omega)).trans (k2617.trans ((kq (a := 9) (b := 9) eσ2285 (by omega)).trans (k6.trans ((kq (a := 9) (b := 9) eσ2 (by omega))))))), k2648.trans ((kq (a := 9) (b := 10) eσ2633 (by omega)).trans (k2618.trans ((kq (a := 9) (b := 10) eσ2285 (by omega)).trans (k7.trans ((kq (a := 9) (b := 10) eσ2 (by omega))))))), k2649.trans ((kq (a := 6) (b := 5) eσ2633 (by omega)).trans (k2619.trans ((kq (a := 6) (b := 5) eσ2285 (by omega)).trans (k8.trans ((kq (a := 6) (b := 5) eσ2 (by omega))))))), k2650.trans ((kq (a := 7) (b := 4) eσ2633 (by omega)).trans (k2620.trans ((kq (a := 7) (b := 4) eσ2285 (by omega)).trans (k9.trans ((kq (a := 7) (b := 4) eσ2 (by omega))))))), k2651.trans ((kq (a := 2) (b := 4) eσ2633 (by omega)).trans (k2621.trans ((kq (a := 2) (b := 4) eσ2285 (by omega)).trans (k10.trans ((kq (a := 2) (b := 4) eσ2 (by omega)))))))⟩)
                    · have f2682 := mt Int32.toInt_inj.mp c2637
                      have g2684 : vp_in r15 18 := inI (by omega) (by omega)
                      refine ⟨g2684, ?_⟩
                      refine ⟨fun c2685 => ?_, fun c2685 => ?_⟩
                      · have f2688 := congrArg Int32.toInt c2685
                        refine sX2_goesThere hN hσ2633 (fun r2705 p2706 => ?_)
                        refine ⟨fun c2707 => ?_, fun c2707 => ?_⟩
                        · have f2708 := tB r2705
                          have f2710 := congrArg Int32.toInt c2707
                          exact hQ _ hσ2633 (⟨(kq (a := 9) (b := 9) eσ2633 (by omega)).trans (k2617.trans ((kq (a := 9) (b := 9) eσ2285 (by omega)).trans (k6.trans ((kq (a := 9) (b := 9) eσ2 (by omega)))))), (kq (a := 9) (b := 10) eσ2633 (by omega)).trans (k2618.trans ((kq (a := 9) (b := 10) eσ2285 (by omega)).trans (k7.trans ((kq (a := 9) (b := 10) eσ2 (by omega)))))), (kq (a := 6) (b := 5) eσ2633 (by omega)).trans (k2619.trans ((kq (a := 6) (b := 5) eσ2285 (by omega)).trans (k8.trans ((kq (a := 6) (b := 5) eσ2 (by omega)))))), (kq (a := 7) (b := 4) eσ2633 (by omega)).trans (k2620.trans ((kq (a := 7) (b := 4) eσ2285 (by omega)).trans (k9.trans ((kq (a := 7) (b := 4) eσ2 (by omega)))))), (kq (a := 2) (b := 4) eσ2633 (by omega)).trans (k2621.trans ((kq (a := 2) (b := 4) eσ2285 (by omega)).trans (k10.trans ((kq (a := 2) (b := 4) eσ2 (by omega))))))⟩)
                        · have f2711 := tB r2705
                          have f2713 := mt Int32.toInt_inj.mp c2707
                          intro v2714 ev2714
                          intro σ2715 eσ2715
                          have kb2716 := jobK_b hk1
                          have hσ2715 : K1 σ0 σ2715 := by rw [eσ2715]; exact hσ2633.u (rg_jobK hk1) (by omega) (by omega)
                          exact hQ _ hσ2715 (⟨(kq (a := 9) (b := 9) eσ2715 (by omega)).trans ((kq (a := 9) (b := 9) eσ2633 (by omega)).trans (k2617.trans ((kq (a := 9) (b := 9) eσ2285 (by omega)).trans (k6.trans ((kq (a := 9) (b := 9) eσ2 (by omega))))))), (kq (a := 9) (b := 10) eσ2715 (by omega)).trans ((kq (a := 9) (b := 10) eσ2633 (by omega)).trans (k2618.trans ((kq (a := 9) (b := 10) eσ2285 (by omega)).trans (k7.trans ((kq (a := 9) (b := 10) eσ2 (by omega))))))), (kq (a := 6) (b := 5) eσ2715 (by omega)).trans ((kq (a := 6) (b := 5) eσ2633 (by omega)).trans (k2619.trans ((kq (a := 6) (b := 5) eσ2285 (by omega)).trans (k8.trans ((kq (a := 6) (b := 5) eσ2 (by omega))))))), (kq (a := 7) (b := 4) eσ2715 (by omega)).trans ((kq (a := 7) (b := 4) eσ2633 (by omega)).trans (k2620.trans ((kq (a := 7) (b := 4) eσ2285 (by omega)).trans (k9.trans ((kq (a := 7) (b := 4) eσ2 (by omega))))))), (kq (a := 2) (b := 4) eσ2715 (by omega)).trans ((kq (a := 2) (b := 4) eσ2633 (by omega)).trans (k2621.trans ((kq (a := 2) (b := 4) eσ2285 (by omega)).trans (k10.trans ((kq (a := 2) (b := 4) eσ2 (by omega)))))))⟩)
                      · have f2719 := mt Int32.toInt_inj.mp c2685
                        have f2724 := K1.g_3_7 hσ2633
                        have q2725 : σ2633.1 3 7 = σ2614.1 3 7 := by rw [eσ2633]; exact congrFun (u1_ne (by omega)) 7
                        have f2726 := congrArg Int32.toInt q2725
                        have f2727 := K1.g_3_7 hσ2614
                        have f2728 := congrArg Int32.toInt k2615
                        have f2729 := K1.g_3_7 hσ2285
                        have q2730 : σ2285.1 3 7 = σ3.1 3 7 := by rw [eσ2285, u1_at]; exact if_neg (by decide)
                        have f2731 := congrArg Int32.toInt q2730
                        have f2732 := K1.g_3_7 hσ3
                        have f2733 := congrArg Int32.toInt k4
                        have f2734 := K1.g_3_7 hσ2
                        have q2735 : σ2.1 3 7 = σ.1 3 7 := by rw [eσ2, u1_at]; exact if_neg (by decide)
                        have f2736 := congrArg Int32.toInt q2735
                        have f2737 := K1.g_3_7 hσ
                        refine sX2_act hN hk1 (by omega) hσ2633 (fun σ2723 hσ2723 kk2743 => ?_)
                        obtain ⟨k2738, k2739, k2740, k2741, k2742⟩ := kk2743
                        exact hQ _ hσ2723 (⟨k2738.trans ((kq (a := 9) (b := 9) eσ2633 (by omega)).trans (k2617.trans ((kq (a := 9) (b := 9) eσ2285 (by omega)).trans (k6.trans ((kq (a := 9) (b := 9) eσ2 (by omega))))))), k2739.trans ((kq (a := 9) (b := 10) eσ2633 (by omega)).trans (k2618.trans ((kq (a := 9) (b := 10) eσ2285 (by omega)).trans (k7.trans ((kq (a := 9) (b := 10) eσ2 (by omega))))))), k2740.trans ((kq (a := 6) (b := 5) eσ2633 (by omega)).trans (k2619.trans ((kq (a := 6) (b := 5) eσ2285 (by omega)).trans (k8.trans ((kq (a := 6) (b := 5) eσ2 (by omega))))))), k2741.trans ((kq (a := 7) (b := 4) eσ2633 (by omega)).trans (k2620.trans ((kq (a := 7) (b := 4) eσ2285 (by omega)).trans (k9.trans ((kq (a := 7) (b := 4) eσ2 (by omega))))))), k2742.trans ((kq (a := 2) (b := 4) eσ2633 (by omega)).trans (k2621.trans ((kq (a := 2) (b := 4) eσ2285 (by omega)).trans (k10.trans ((kq (a := 2) (b := 4) eσ2 (by omega)))))))⟩)
                  · have f2744 := tB (σ2614.1 3 11)
                    have f2746 := mt Int32.toInt_inj.mp c2628
                    exact hQ _ hσ2614 (⟨k2617.trans ((kq (a := 9) (b := 9) eσ2285 (by omega)).trans (k6.trans ((kq (a := 9) (b := 9) eσ2 (by omega))))), k2618.trans ((kq (a := 9) (b := 10) eσ2285 (by omega)).trans (k7.trans ((kq (a := 9) (b := 10) eσ2 (by omega))))), k2619.trans ((kq (a := 6) (b := 5) eσ2285 (by omega)).trans (k8.trans ((kq (a := 6) (b := 5) eσ2 (by omega))))), k2620.trans ((kq (a := 7) (b := 4) eσ2285 (by omega)).trans (k9.trans ((kq (a := 7) (b := 4) eσ2 (by omega))))), k2621.trans ((kq (a := 2) (b := 4) eσ2285 (by omega)).trans (k10.trans ((kq (a := 2) (b := 4) eσ2 (by omega)))))⟩)
                · have f2748 : (2 : Int32).toInt = 2 := by decide
                  have f2749 := mt Int32.toInt_inj.mp c2610
                  unfold fX2_doOrder_j122
                  refine ⟨fun c2750 => ?_, fun c2750 => ?_⟩
                  · have f2753 := congrArg Int32.toInt c2750
                    intro v2754 ev2754
                    intro σ2755 eσ2755
                    have kb2756 := jobK_b hk1
                    have hσ2755 : K1 σ0 σ2755 := by rw [eσ2755]; exact hσ2285.u (rg_jobK hk1) (by omega) (by omega)
                    have g2758 : vp_in r15 18 := inI (by omega) (by omega)
                    refine ⟨g2758, ?_⟩
                    refine ⟨fun c2759 => ?_, fun c2759 => ?_⟩
                    · have f2762 := congrArg Int32.toInt c2759
                      refine sX2_valueFor hN hσ2755 (fun r2778 σ2766 hσ2766 kk2777 p2779 => ?_)
                      obtain ⟨k2767, k2768, k2769, k2770, k2771, k2772, k2773, k2774, k2775, k2776⟩ := kk2777
                      refine ⟨fun c2780 => ?_, fun c2780 => ?_⟩
                      · have f2781 := tB (σ2766.1 3 11)
                        have f2783 := congrArg Int32.toInt c2780
                        have f2784 : (255 : Int32).toInt = 255 := by decide
                        have f2785 := tB r2778
                        refine sX1_setLocal hN hk1 hσ2766 (fun σ2786 hσ2786 kk2798 => ?_)
                        obtain ⟨k2787, k2788, k2789, k2790, k2791, k2792, k2793, k2794, k2795, k2796, k2797⟩ := kk2798
                        unfold fX2_doOrder_j174
                        exact hQ _ hσ2786 (⟨k2790.trans (k2769.trans ((kq (a := 9) (b := 9) eσ2755 (by omega)).trans ((kq (a := 9) (b := 9) eσ2285 (by omega)).trans (k6.trans ((kq (a := 9) (b := 9) eσ2 (by omega))))))), k2791.trans (k2770.trans ((kq (a := 9) (b := 10) eσ2755 (by omega)).trans ((kq (a := 9) (b := 10) eσ2285 (by omega)).trans (k7.trans ((kq (a := 9) (b := 10) eσ2 (by omega))))))), k2792.trans (k2771.trans ((kq (a := 6) (b := 5) eσ2755 (by omega)).trans ((kq (a := 6) (b := 5) eσ2285 (by omega)).trans (k8.trans ((kq (a := 6) (b := 5) eσ2 (by omega))))))), k2793.trans (k2772.trans ((kq (a := 7) (b := 4) eσ2755 (by omega)).trans ((kq (a := 7) (b := 4) eσ2285 (by omega)).trans (k9.trans ((kq (a := 7) (b := 4) eσ2 (by omega))))))), k2794.trans (k2773.trans ((kq (a := 2) (b := 4) eσ2755 (by omega)).trans ((kq (a := 2) (b := 4) eσ2285 (by omega)).trans (k10.trans ((kq (a := 2) (b := 4) eσ2 (by omega)))))))⟩)
                      · have f2799 := tB (σ2766.1 3 11)
                        have f2801 := mt Int32.toInt_inj.mp c2780
                        unfold fX2_doOrder_j174
                        exact hQ _ hσ2766 (⟨k2769.trans ((kq (a := 9) (b := 9) eσ2755 (by omega)).trans ((kq (a := 9) (b := 9) eσ2285 (by omega)).trans (k6.trans ((kq (a := 9) (b := 9) eσ2 (by omega)))))), k2770.trans ((kq (a := 9) (b := 10) eσ2755 (by omega)).trans ((kq (a := 9) (b := 10) eσ2285 (by omega)).trans (k7.trans ((kq (a := 9) (b := 10) eσ2 (by omega)))))), k2771.trans ((kq (a := 6) (b := 5) eσ2755 (by omega)).trans ((kq (a := 6) (b := 5) eσ2285 (by omega)).trans (k8.trans ((kq (a := 6) (b := 5) eσ2 (by omega)))))), k2772.trans ((kq (a := 7) (b := 4) eσ2755 (by omega)).trans ((kq (a := 7) (b := 4) eσ2285 (by omega)).trans (k9.trans ((kq (a := 7) (b := 4) eσ2 (by omega)))))), k2773.trans ((kq (a := 2) (b := 4) eσ2755 (by omega)).trans ((kq (a := 2) (b := 4) eσ2285 (by omega)).trans (k10.trans ((kq (a := 2) (b := 4) eσ2 (by omega))))))⟩)
                    · have f2804 := mt Int32.toInt_inj.mp c2759
                      have g2806 : vp_in r15 18 := inI (by omega) (by omega)
                      refine ⟨g2806, ?_⟩
                      refine ⟨fun c2807 => ?_, fun c2807 => ?_⟩
                      · have f2810 := congrArg Int32.toInt c2807
                        refine sX2_goesThere hN hσ2755 (fun r2827 p2828 => ?_)
                        refine ⟨fun c2829 => ?_, fun c2829 => ?_⟩
                        · have f2830 := tB r2827
                          have f2832 := congrArg Int32.toInt c2829
                          exact hQ _ hσ2755 (⟨(kq (a := 9) (b := 9) eσ2755 (by omega)).trans ((kq (a := 9) (b := 9) eσ2285 (by omega)).trans (k6.trans ((kq (a := 9) (b := 9) eσ2 (by omega))))), (kq (a := 9) (b := 10) eσ2755 (by omega)).trans ((kq (a := 9) (b := 10) eσ2285 (by omega)).trans (k7.trans ((kq (a := 9) (b := 10) eσ2 (by omega))))), (kq (a := 6) (b := 5) eσ2755 (by omega)).trans ((kq (a := 6) (b := 5) eσ2285 (by omega)).trans (k8.trans ((kq (a := 6) (b := 5) eσ2 (by omega))))), (kq (a := 7) (b := 4) eσ2755 (by omega)).trans ((kq (a := 7) (b := 4) eσ2285 (by omega)).trans (k9.trans ((kq (a := 7) (b := 4) eσ2 (by omega))))), (kq (a := 2) (b := 4) eσ2755 (by omega)).trans ((kq (a := 2) (b := 4) eσ2285 (by omega)).trans (k10.trans ((kq (a := 2) (b := 4) eσ2 (by omega)))))⟩)
                        · have f2833 := tB r2827
                          have f2835 := mt Int32.toInt_inj.mp c2829
                          intro v2836 ev2836
                          intro σ2837 eσ2837
                          have kb2838 := jobK_b hk1
                          have hσ2837 : K1 σ0 σ2837 := by rw [eσ2837]; exact hσ2755.u (rg_jobK hk1) (by omega) (by omega)
                          exact hQ _ hσ2837 (⟨(kq (a := 9) (b := 9) eσ2837 (by omega)).trans ((kq (a := 9) (b := 9) eσ2755 (by omega)).trans ((kq (a := 9) (b := 9) eσ2285 (by omega)).trans (k6.trans ((kq (a := 9) (b := 9) eσ2 (by omega)))))), (kq (a := 9) (b := 10) eσ2837 (by omega)).trans ((kq (a := 9) (b := 10) eσ2755 (by omega)).trans ((kq (a := 9) (b := 10) eσ2285 (by omega)).trans (k7.trans ((kq (a := 9) (b := 10) eσ2 (by omega)))))), (kq (a := 6) (b := 5) eσ2837 (by omega)).trans ((kq (a := 6) (b := 5) eσ2755 (by omega)).trans ((kq (a := 6) (b := 5) eσ2285 (by omega)).trans (k8.trans ((kq (a := 6) (b := 5) eσ2 (by omega)))))), (kq (a := 7) (b := 4) eσ2837 (by omega)).trans ((kq (a := 7) (b := 4) eσ2755 (by omega)).trans ((kq (a := 7) (b := 4) eσ2285 (by omega)).trans (k9.trans ((kq (a := 7) (b := 4) eσ2 (by omega)))))), (kq (a := 2) (b := 4) eσ2837 (by omega)).trans ((kq (a := 2) (b := 4) eσ2755 (by omega)).trans ((kq (a := 2) (b := 4) eσ2285 (by omega)).trans (k10.trans ((kq (a := 2) (b := 4) eσ2 (by omega))))))⟩)
                      · have f2841 := mt Int32.toInt_inj.mp c2807
                        have f2846 := K1.g_3_7 hσ2755
                        have q2847 : σ2755.1 3 7 = σ2285.1 3 7 := by rw [eσ2755]; exact congrFun (u1_ne (by omega)) 7
                        have f2848 := congrArg Int32.toInt q2847
                        have f2849 := K1.g_3_7 hσ2285
                        have q2850 : σ2285.1 3 7 = σ3.1 3 7 := by rw [eσ2285, u1_at]; exact if_neg (by decide)
                        have f2851 := congrArg Int32.toInt q2850
                        have f2852 := K1.g_3_7 hσ3
                        have f2853 := congrArg Int32.toInt k4
                        have f2854 := K1.g_3_7 hσ2
                        have q2855 : σ2.1 3 7 = σ.1 3 7 := by rw [eσ2, u1_at]; exact if_neg (by decide)
                        have f2856 := congrArg Int32.toInt q2855
                        have f2857 := K1.g_3_7 hσ
                        refine sX2_act hN hk1 (by omega) hσ2755 (fun σ2845 hσ2845 kk2863 => ?_)
                        obtain ⟨k2858, k2859, k2860, k2861, k2862⟩ := kk2863
                        exact hQ _ hσ2845 (⟨k2858.trans ((kq (a := 9) (b := 9) eσ2755 (by omega)).trans ((kq (a := 9) (b := 9) eσ2285 (by omega)).trans (k6.trans ((kq (a := 9) (b := 9) eσ2 (by omega)))))), k2859.trans ((kq (a := 9) (b := 10) eσ2755 (by omega)).trans ((kq (a := 9) (b := 10) eσ2285 (by omega)).trans (k7.trans ((kq (a := 9) (b := 10) eσ2 (by omega)))))), k2860.trans ((kq (a := 6) (b := 5) eσ2755 (by omega)).trans ((kq (a := 6) (b := 5) eσ2285 (by omega)).trans (k8.trans ((kq (a := 6) (b := 5) eσ2 (by omega)))))), k2861.trans ((kq (a := 7) (b := 4) eσ2755 (by omega)).trans ((kq (a := 7) (b := 4) eσ2285 (by omega)).trans (k9.trans ((kq (a := 7) (b := 4) eσ2 (by omega)))))), k2862.trans ((kq (a := 2) (b := 4) eσ2755 (by omega)).trans ((kq (a := 2) (b := 4) eσ2285 (by omega)).trans (k10.trans ((kq (a := 2) (b := 4) eσ2 (by omega))))))⟩)
                  · have f2866 := mt Int32.toInt_inj.mp c2750
                    exact hQ _ hσ2285 (⟨(kq (a := 9) (b := 9) eσ2285 (by omega)).trans (k6.trans ((kq (a := 9) (b := 9) eσ2 (by omega)))), (kq (a := 9) (b := 10) eσ2285 (by omega)).trans (k7.trans ((kq (a := 9) (b := 10) eσ2 (by omega)))), (kq (a := 6) (b := 5) eσ2285 (by omega)).trans (k8.trans ((kq (a := 6) (b := 5) eσ2 (by omega)))), (kq (a := 7) (b := 4) eσ2285 (by omega)).trans (k9.trans ((kq (a := 7) (b := 4) eσ2 (by omega)))), (kq (a := 2) (b := 4) eσ2285 (by omega)).trans (k10.trans ((kq (a := 2) (b := 4) eσ2 (by omega))))⟩)
            · have f2868 : (1 : Int32).toInt = 1 := by decide
              have f2869 := mt Int32.le_iff_toInt_le.mpr c2318
              refine sX2_nextValue hN hk1 hσ2285 (fun r2882 σ2870 hσ2870 kk2881 p2883 => ?_)
              obtain ⟨k2871, k2872, k2873, k2874, k2875, k2876, k2877, k2878, k2879, k2880⟩ := kk2881
              unfold fX2_doOrder_j81
              have g2885 : vp_in r15 18 := inI (by omega) (by omega)
              refine ⟨g2885, ?_⟩
              refine ⟨fun c2886 => ?_, fun c2886 => ?_⟩
              · have f2887 := tB (jT r15.toNatClampNeg)
                have f2889 := congrArg Int32.toInt c2886
                refine sX2_nextTarget hN hk1 hσ2870 (fun r2902 σ2890 hσ2890 kk2901 p2903 => ?_)
                obtain ⟨k2891, k2892, k2893, k2894, k2895, k2896, k2897, k2898, k2899, k2900⟩ := kk2901
                unfold fX2_doOrder_j103
                have g2905 : vp_in r15 18 := inI (by omega) (by omega)
                refine ⟨g2905, ?_⟩
                refine ⟨fun c2906 => ?_, fun c2906 => ?_⟩
                · have f2908 : (2 : Int32).toInt = 2 := by decide
                  have f2909 := congrArg Int32.toInt c2906
                  refine sX2_nextDistance hN hσ2890 (fun r2922 σ2910 hσ2910 kk2921 p2923 => ?_)
                  obtain ⟨k2911, k2912, k2913, k2914, k2915, k2916, k2917, k2918, k2919, k2920⟩ := kk2921
                  unfold fX2_doOrder_j122
                  refine ⟨fun c2924 => ?_, fun c2924 => ?_⟩
                  · have f2925 := tB (σ2910.1 3 11)
                    have f2927 := congrArg Int32.toInt c2924
                    intro v2928 ev2928
                    intro σ2929 eσ2929
                    have kb2930 := jobK_b hk1
                    have hσ2929 : K1 σ0 σ2929 := by rw [eσ2929]; exact hσ2910.u (rg_jobK hk1) (by omega) (by omega)
                    have g2932 : vp_in r15 18 := inI (by omega) (by omega)
                    refine ⟨g2932, ?_⟩
                    refine ⟨fun c2933 => ?_, fun c2933 => ?_⟩
                    · have f2936 := congrArg Int32.toInt c2933
                      have f2939 := tB r2882
                      refine sX2_valueFor hN hσ2929 (fun r2952 σ2940 hσ2940 kk2951 p2953 => ?_)
                      obtain ⟨k2941, k2942, k2943, k2944, k2945, k2946, k2947, k2948, k2949, k2950⟩ := kk2951
                      refine ⟨fun c2954 => ?_, fun c2954 => ?_⟩
                      · have f2955 := tB (σ2940.1 3 11)
                        have f2957 := congrArg Int32.toInt c2954
                        have f2958 := tB r2902
                        have f2959 := tB r2952
                        refine sX1_setLocal hN hk1 hσ2940 (fun σ2960 hσ2960 kk2972 => ?_)
                        obtain ⟨k2961, k2962, k2963, k2964, k2965, k2966, k2967, k2968, k2969, k2970, k2971⟩ := kk2972
                        unfold fX2_doOrder_j174
                        exact hQ _ hσ2960 (⟨k2964.trans (k2943.trans ((kq (a := 9) (b := 9) eσ2929 (by omega)).trans (k2913.trans (k2893.trans (k2873.trans ((kq (a := 9) (b := 9) eσ2285 (by omega)).trans (k6.trans ((kq (a := 9) (b := 9) eσ2 (by omega)))))))))), k2965.trans (k2944.trans ((kq (a := 9) (b := 10) eσ2929 (by omega)).trans (k2914.trans (k2894.trans (k2874.trans ((kq (a := 9) (b := 10) eσ2285 (by omega)).trans (k7.trans ((kq (a := 9) (b := 10) eσ2 (by omega)))))))))), k2966.trans (k2945.trans ((kq (a := 6) (b := 5) eσ2929 (by omega)).trans (k2915.trans (k2895.trans (k2875.trans ((kq (a := 6) (b := 5) eσ2285 (by omega)).trans (k8.trans ((kq (a := 6) (b := 5) eσ2 (by omega)))))))))), k2967.trans (k2946.trans ((kq (a := 7) (b := 4) eσ2929 (by omega)).trans (k2916.trans (k2896.trans (k2876.trans ((kq (a := 7) (b := 4) eσ2285 (by omega)).trans (k9.trans ((kq (a := 7) (b := 4) eσ2 (by omega)))))))))), k2968.trans (k2947.trans ((kq (a := 2) (b := 4) eσ2929 (by omega)).trans (k2917.trans (k2897.trans (k2877.trans ((kq (a := 2) (b := 4) eσ2285 (by omega)).trans (k10.trans ((kq (a := 2) (b := 4) eσ2 (by omega))))))))))⟩)
                      · have f2973 := tB (σ2940.1 3 11)
                        have f2975 := mt Int32.toInt_inj.mp c2954
                        unfold fX2_doOrder_j174
                        exact hQ _ hσ2940 (⟨k2943.trans ((kq (a := 9) (b := 9) eσ2929 (by omega)).trans (k2913.trans (k2893.trans (k2873.trans ((kq (a := 9) (b := 9) eσ2285 (by omega)).trans (k6.trans ((kq (a := 9) (b := 9) eσ2 (by omega))))))))), k2944.trans ((kq (a := 9) (b := 10) eσ2929 (by omega)).trans (k2914.trans (k2894.trans (k2874.trans ((kq (a := 9) (b := 10) eσ2285 (by omega)).trans (k7.trans ((kq (a := 9) (b := 10) eσ2 (by omega))))))))), k2945.trans ((kq (a := 6) (b := 5) eσ2929 (by omega)).trans (k2915.trans (k2895.trans (k2875.trans ((kq (a := 6) (b := 5) eσ2285 (by omega)).trans (k8.trans ((kq (a := 6) (b := 5) eσ2 (by omega))))))))), k2946.trans ((kq (a := 7) (b := 4) eσ2929 (by omega)).trans (k2916.trans (k2896.trans (k2876.trans ((kq (a := 7) (b := 4) eσ2285 (by omega)).trans (k9.trans ((kq (a := 7) (b := 4) eσ2 (by omega))))))))), k2947.trans ((kq (a := 2) (b := 4) eσ2929 (by omega)).trans (k2917.trans (k2897.trans (k2877.trans ((kq (a := 2) (b := 4) eσ2285 (by omega)).trans (k10.trans ((kq (a := 2) (b := 4) eσ2 (by omega)))))))))⟩)
                    · have f2978 := mt Int32.toInt_inj.mp c2933
                      have g2980 : vp_in r15 18 := inI (by omega) (by omega)
                      refine ⟨g2980, ?_⟩
                      refine ⟨fun c2981 => ?_, fun c2981 => ?_⟩
                      · have f2984 := congrArg Int32.toInt c2981
                        have f2987 := tB r2882
                        refine sX2_goesThere hN hσ2929 (fun r3001 p3002 => ?_)
                        refine ⟨fun c3003 => ?_, fun c3003 => ?_⟩
                        · have f3004 := tB r3001
                          have f3006 := congrArg Int32.toInt c3003
                          exact hQ _ hσ2929 (⟨(kq (a := 9) (b := 9) eσ2929 (by omega)).trans (k2913.trans (k2893.trans (k2873.trans ((kq (a := 9) (b := 9) eσ2285 (by omega)).trans (k6.trans ((kq (a := 9) (b := 9) eσ2 (by omega)))))))), (kq (a := 9) (b := 10) eσ2929 (by omega)).trans (k2914.trans (k2894.trans (k2874.trans ((kq (a := 9) (b := 10) eσ2285 (by omega)).trans (k7.trans ((kq (a := 9) (b := 10) eσ2 (by omega)))))))), (kq (a := 6) (b := 5) eσ2929 (by omega)).trans (k2915.trans (k2895.trans (k2875.trans ((kq (a := 6) (b := 5) eσ2285 (by omega)).trans (k8.trans ((kq (a := 6) (b := 5) eσ2 (by omega)))))))), (kq (a := 7) (b := 4) eσ2929 (by omega)).trans (k2916.trans (k2896.trans (k2876.trans ((kq (a := 7) (b := 4) eσ2285 (by omega)).trans (k9.trans ((kq (a := 7) (b := 4) eσ2 (by omega)))))))), (kq (a := 2) (b := 4) eσ2929 (by omega)).trans (k2917.trans (k2897.trans (k2877.trans ((kq (a := 2) (b := 4) eσ2285 (by omega)).trans (k10.trans ((kq (a := 2) (b := 4) eσ2 (by omega))))))))⟩)
                        · have f3007 := tB r3001
                          have f3009 := mt Int32.toInt_inj.mp c3003
                          intro v3010 ev3010
                          intro σ3011 eσ3011
                          have kb3012 := jobK_b hk1
                          have hσ3011 : K1 σ0 σ3011 := by rw [eσ3011]; exact hσ2929.u (rg_jobK hk1) (by omega) (by omega)
                          exact hQ _ hσ3011 (⟨(kq (a := 9) (b := 9) eσ3011 (by omega)).trans ((kq (a := 9) (b := 9) eσ2929 (by omega)).trans (k2913.trans (k2893.trans (k2873.trans ((kq (a := 9) (b := 9) eσ2285 (by omega)).trans (k6.trans ((kq (a := 9) (b := 9) eσ2 (by omega))))))))), (kq (a := 9) (b := 10) eσ3011 (by omega)).trans ((kq (a := 9) (b := 10) eσ2929 (by omega)).trans (k2914.trans (k2894.trans (k2874.trans ((kq (a := 9) (b := 10) eσ2285 (by omega)).trans (k7.trans ((kq (a := 9) (b := 10) eσ2 (by omega))))))))), (kq (a := 6) (b := 5) eσ3011 (by omega)).trans ((kq (a := 6) (b := 5) eσ2929 (by omega)).trans (k2915.trans (k2895.trans (k2875.trans ((kq (a := 6) (b := 5) eσ2285 (by omega)).trans (k8.trans ((kq (a := 6) (b := 5) eσ2 (by omega))))))))), (kq (a := 7) (b := 4) eσ3011 (by omega)).trans ((kq (a := 7) (b := 4) eσ2929 (by omega)).trans (k2916.trans (k2896.trans (k2876.trans ((kq (a := 7) (b := 4) eσ2285 (by omega)).trans (k9.trans ((kq (a := 7) (b := 4) eσ2 (by omega))))))))), (kq (a := 2) (b := 4) eσ3011 (by omega)).trans ((kq (a := 2) (b := 4) eσ2929 (by omega)).trans (k2917.trans (k2897.trans (k2877.trans ((kq (a := 2) (b := 4) eσ2285 (by omega)).trans (k10.trans ((kq (a := 2) (b := 4) eσ2 (by omega)))))))))⟩)
                      · have f3015 := mt Int32.toInt_inj.mp c2981
                        have f3018 := tB r2882
                        have f3020 := K1.g_3_7 hσ2929
                        have q3021 : σ2929.1 3 7 = σ2910.1 3 7 := by rw [eσ2929]; exact congrFun (u1_ne (by omega)) 7
                        have f3022 := congrArg Int32.toInt q3021
                        have f3023 := K1.g_3_7 hσ2910
                        have f3024 := congrArg Int32.toInt k2911
                        have f3025 := K1.g_3_7 hσ2890
                        have f3026 := congrArg Int32.toInt k2891
                        have f3027 := K1.g_3_7 hσ2870
                        have f3028 := congrArg Int32.toInt k2871
                        have f3029 := K1.g_3_7 hσ2285
                        have q3030 : σ2285.1 3 7 = σ3.1 3 7 := by rw [eσ2285, u1_at]; exact if_neg (by decide)
                        have f3031 := congrArg Int32.toInt q3030
                        have f3032 := K1.g_3_7 hσ3
                        have f3033 := congrArg Int32.toInt k4
                        have f3034 := K1.g_3_7 hσ2
                        have q3035 : σ2.1 3 7 = σ.1 3 7 := by rw [eσ2, u1_at]; exact if_neg (by decide)
                        have f3036 := congrArg Int32.toInt q3035
                        have f3037 := K1.g_3_7 hσ
                        refine sX2_act hN hk1 (by omega) hσ2929 (fun σ3019 hσ3019 kk3043 => ?_)
                        obtain ⟨k3038, k3039, k3040, k3041, k3042⟩ := kk3043
                        exact hQ _ hσ3019 (⟨k3038.trans ((kq (a := 9) (b := 9) eσ2929 (by omega)).trans (k2913.trans (k2893.trans (k2873.trans ((kq (a := 9) (b := 9) eσ2285 (by omega)).trans (k6.trans ((kq (a := 9) (b := 9) eσ2 (by omega))))))))), k3039.trans ((kq (a := 9) (b := 10) eσ2929 (by omega)).trans (k2914.trans (k2894.trans (k2874.trans ((kq (a := 9) (b := 10) eσ2285 (by omega)).trans (k7.trans ((kq (a := 9) (b := 10) eσ2 (by omega))))))))), k3040.trans ((kq (a := 6) (b := 5) eσ2929 (by omega)).trans (k2915.trans (k2895.trans (k2875.trans ((kq (a := 6) (b := 5) eσ2285 (by omega)).trans (k8.trans ((kq (a := 6) (b := 5) eσ2 (by omega))))))))), k3041.trans ((kq (a := 7) (b := 4) eσ2929 (by omega)).trans (k2916.trans (k2896.trans (k2876.trans ((kq (a := 7) (b := 4) eσ2285 (by omega)).trans (k9.trans ((kq (a := 7) (b := 4) eσ2 (by omega))))))))), k3042.trans ((kq (a := 2) (b := 4) eσ2929 (by omega)).trans (k2917.trans (k2897.trans (k2877.trans ((kq (a := 2) (b := 4) eσ2285 (by omega)).trans (k10.trans ((kq (a := 2) (b := 4) eσ2 (by omega)))))))))⟩)
                  · have f3044 := tB (σ2910.1 3 11)
                    have f3046 := mt Int32.toInt_inj.mp c2924
                    exact hQ _ hσ2910 (⟨k2913.trans (k2893.trans (k2873.trans ((kq (a := 9) (b := 9) eσ2285 (by omega)).trans (k6.trans ((kq (a := 9) (b := 9) eσ2 (by omega))))))), k2914.trans (k2894.trans (k2874.trans ((kq (a := 9) (b := 10) eσ2285 (by omega)).trans (k7.trans ((kq (a := 9) (b := 10) eσ2 (by omega))))))), k2915.trans (k2895.trans (k2875.trans ((kq (a := 6) (b := 5) eσ2285 (by omega)).trans (k8.trans ((kq (a := 6) (b := 5) eσ2 (by omega))))))), k2916.trans (k2896.trans (k2876.trans ((kq (a := 7) (b := 4) eσ2285 (by omega)).trans (k9.trans ((kq (a := 7) (b := 4) eσ2 (by omega))))))), k2917.trans (k2897.trans (k2877.trans ((kq (a := 2) (b := 4) eσ2285 (by omega)).trans (k10.trans ((kq (a := 2) (b := 4) eσ2 (by omega)))))))⟩)
                · have f3048 : (2 : Int32).toInt = 2 := by decide
                  have f3049 := mt Int32.toInt_inj.mp c2906
                  unfold fX2_doOrder_j122
                  refine ⟨fun c3050 => ?_, fun c3050 => ?_⟩
                  · have f3051 := tB (σ2890.1 3 11)
                    have f3053 := congrArg Int32.toInt c3050
                    intro v3054 ev3054
                    intro σ3055 eσ3055
                    have kb3056 := jobK_b hk1
                    have hσ3055 : K1 σ0 σ3055 := by rw [eσ3055]; exact hσ2890.u (rg_jobK hk1) (by omega) (by omega)
                    have g3058 : vp_in r15 18 := inI (by omega) (by omega)
                    refine ⟨g3058, ?_⟩
                    refine ⟨fun c3059 => ?_, fun c3059 => ?_⟩
                    · have f3062 := congrArg Int32.toInt c3059
                      have f3065 := tB r2882
                      refine sX2_valueFor hN hσ3055 (fun r3078 σ3066 hσ3066 kk3077 p3079 => ?_)
                      obtain ⟨k3067, k3068, k3069, k3070, k3071, k3072, k3073, k3074, k3075, k3076⟩ := kk3077
                      refine ⟨fun c3080 => ?_, fun c3080 => ?_⟩
                      · have f3081 := tB (σ3066.1 3 11)
                        have f3083 := congrArg Int32.toInt c3080
                        have f3084 := tB r2902
                        have f3085 := tB r3078
                        refine sX1_setLocal hN hk1 hσ3066 (fun σ3086 hσ3086 kk3098 => ?_)
                        obtain ⟨k3087, k3088, k3089, k3090, k3091, k3092, k3093, k3094, k3095, k3096, k3097⟩ := kk3098
                        unfold fX2_doOrder_j174
                        exact hQ _ hσ3086 (⟨k3090.trans (k3069.trans ((kq (a := 9) (b := 9) eσ3055 (by omega)).trans (k2893.trans (k2873.trans ((kq (a := 9) (b := 9) eσ2285 (by omega)).trans (k6.trans ((kq (a := 9) (b := 9) eσ2 (by omega))))))))), k3091.trans (k3070.trans ((kq (a := 9) (b := 10) eσ3055 (by omega)).trans (k2894.trans (k2874.trans ((kq (a := 9) (b := 10) eσ2285 (by omega)).trans (k7.trans ((kq (a := 9) (b := 10) eσ2 (by omega))))))))), k3092.trans (k3071.trans ((kq (a := 6) (b := 5) eσ3055 (by omega)).trans (k2895.trans (k2875.trans ((kq (a := 6) (b := 5) eσ2285 (by omega)).trans (k8.trans ((kq (a := 6) (b := 5) eσ2 (by omega))))))))), k3093.trans (k3072.trans ((kq (a := 7) (b := 4) eσ3055 (by omega)).trans (k2896.trans (k2876.trans ((kq (a := 7) (b := 4) eσ2285 (by omega)).trans (k9.trans ((kq (a := 7) (b := 4) eσ2 (by omega))))))))), k3094.trans (k3073.trans ((kq (a := 2) (b := 4) eσ3055 (by omega)).trans (k2897.trans (k2877.trans ((kq (a := 2) (b := 4) eσ2285 (by omega)).trans (k10.trans ((kq (a := 2) (b := 4) eσ2 (by omega)))))))))⟩)
                      · have f3099 := tB (σ3066.1 3 11)
                        have f3101 := mt Int32.toInt_inj.mp c3080
                        unfold fX2_doOrder_j174
                        exact hQ _ hσ3066 (⟨k3069.trans ((kq (a := 9) (b := 9) eσ3055 (by omega)).trans (k2893.trans (k2873.trans ((kq (a := 9) (b := 9) eσ2285 (by omega)).trans (k6.trans ((kq (a := 9) (b := 9) eσ2 (by omega)))))))), k3070.trans ((kq (a := 9) (b := 10) eσ3055 (by omega)).trans (k2894.trans (k2874.trans ((kq (a := 9) (b := 10) eσ2285 (by omega)).trans (k7.trans ((kq (a := 9) (b := 10) eσ2 (by omega)))))))), k3071.trans ((kq (a := 6) (b := 5) eσ3055 (by omega)).trans (k2895.trans (k2875.trans ((kq (a := 6) (b := 5) eσ2285 (by omega)).trans (k8.trans ((kq (a := 6) (b := 5) eσ2 (by omega)))))))), k3072.trans ((kq (a := 7) (b := 4) eσ3055 (by omega)).trans (k2896.trans (k2876.trans ((kq (a := 7) (b := 4) eσ2285 (by omega)).trans (k9.trans ((kq (a := 7) (b := 4) eσ2 (by omega)))))))), k3073.trans ((kq (a := 2) (b := 4) eσ3055 (by omega)).trans (k2897.trans (k2877.trans ((kq (a := 2) (b := 4) eσ2285 (by omega)).trans (k10.trans ((kq (a := 2) (b := 4) eσ2 (by omega))))))))⟩)
                    · have f3104 := mt Int32.toInt_inj.mp c3059
                      have g3106 : vp_in r15 18 := inI (by omega) (by omega)
                      refine ⟨g3106, ?_⟩
                      refine ⟨fun c3107 => ?_, fun c3107 => ?_⟩
                      · have f3110 := congrArg Int32.toInt c3107
                        have f3113 := tB r2882
                        refine sX2_goesThere hN hσ3055 (fun r3127 p3128 => ?_)
                        refine ⟨fun c3129 => ?_, fun c3129 => ?_⟩
                        · have f3130 := tB r3127
                          have f3132 := congrArg Int32.toInt c3129
                          exact hQ _ hσ3055 (⟨(kq (a := 9) (b := 9) eσ3055 (by omega)).trans (k2893.trans (k2873.trans ((kq (a := 9) (b := 9) eσ2285 (by omega)).trans (k6.trans ((kq (a := 9) (b := 9) eσ2 (by omega))))))), (kq (a := 9) (b := 10) eσ3055 (by omega)).trans (k2894.trans (k2874.trans ((kq (a := 9) (b := 10) eσ2285 (by omega)).trans (k7.trans ((kq (a := 9) (b := 10) eσ2 (by omega))))))), (kq (a := 6) (b := 5) eσ3055 (by omega)).trans (k2895.trans (k2875.trans ((kq (a := 6) (b := 5) eσ2285 (by omega)).trans (k8.trans ((kq (a := 6) (b := 5) eσ2 (by omega))))))), (kq (a := 7) (b := 4) eσ3055 (by omega)).trans (k2896.trans (k2876.trans ((kq (a := 7) (b := 4) eσ2285 (by omega)).trans (k9.trans ((kq (a := 7) (b := 4) eσ2 (by omega))))))), (kq (a := 2) (b := 4) eσ3055 (by omega)).trans (k2897.trans (k2877.trans ((kq (a := 2) (b := 4) eσ2285 (by omega)).trans (k10.trans ((kq (a := 2) (b := 4) eσ2 (by omega)))))))⟩)
                        · have f3133 := tB r3127
                          have f3135 := mt Int32.toInt_inj.mp c3129
                          intro v3136 ev3136
                          intro σ3137 eσ3137
                          have kb3138 := jobK_b hk1
                          have hσ3137 : K1 σ0 σ3137 := by rw [eσ3137]; exact hσ3055.u (rg_jobK hk1) (by omega) (by omega)
                          exact hQ _ hσ3137 (⟨(kq (a := 9) (b := 9) eσ3137 (by omega)).trans ((kq (a := 9) (b := 9) eσ3055 (by omega)).trans (k2893.trans (k2873.trans ((kq (a := 9) (b := 9) eσ2285 (by omega)).trans (k6.trans ((kq (a := 9) (b := 9) eσ2 (by omega)))))))), (kq (a := 9) (b := 10) eσ3137 (by omega)).trans ((kq (a := 9) (b := 10) eσ3055 (by omega)).trans (k2894.trans (k2874.trans ((kq (a := 9) (b := 10) eσ2285 (by omega)).trans (k7.trans ((kq (a := 9) (b := 10) eσ2 (by omega)))))))), (kq (a := 6) (b := 5) eσ3137 (by omega)).trans ((kq (a := 6) (b := 5) eσ3055 (by omega)).trans (k2895.trans (k2875.trans ((kq (a := 6) (b := 5) eσ2285 (by omega)).trans (k8.trans ((kq (a := 6) (b := 5) eσ2 (by omega)))))))), (kq (a := 7) (b := 4) eσ3137 (by omega)).trans ((kq (a := 7) (b := 4) eσ3055 (by omega)).trans (k2896.trans (k2876.trans ((kq (a := 7) (b := 4) eσ2285 (by omega)).trans (k9.trans ((kq (a := 7) (b := 4) eσ2 (by omega)))))))), (kq (a := 2) (b := 4) eσ3137 (by omega)).trans ((kq (a := 2) (b := 4) eσ3055 (by omega)).trans (k2897.trans (k2877.trans ((kq (a := 2) (b := 4) eσ2285 (by omega)).trans (k10.trans ((kq (a := 2) (b := 4) eσ2 (by omega))))))))⟩)
                      · have f3141 := mt Int32.toInt_inj.mp c3107
                        have f3144 := tB r2882
                        have f3146 := K1.g_3_7 hσ3055
                        have q3147 : σ3055.1 3 7 = σ2890.1 3 7 := by rw [eσ3055]; exact congrFun (u1_ne (by omega)) 7
                        have f3148 := congrArg Int32.toInt q3147
                        have f3149 := K1.g_3_7 hσ2890
                        have f3150 := congrArg Int32.toInt k2891
                        have f3151 := K1.g_3_7 hσ2870
                        have f3152 := congrArg Int32.toInt k2871
                        have f3153 := K1.g_3_7 hσ2285
                        have q3154 : σ2285.1 3 7 = σ3.1 3 7 := by rw [eσ2285, u1_at]; exact if_neg (by decide)
                        have f3155 := congrArg Int32.toInt q3154
                        have f3156 := K1.g_3_7 hσ3
                        have f3157 := congrArg Int32.toInt k4
                        have f3158 := K1.g_3_7 hσ2
                        have q3159 : σ2.1 3 7 = σ.1 3 7 := by rw [eσ2, u1_at]; exact if_neg (by decide)
                        have f3160 := congrArg Int32.toInt q3159
                        have f3161 := K1.g_3_7 hσ
                        refine sX2_act hN hk1 (by omega) hσ3055 (fun σ3145 hσ3145 kk3167 => ?_)
                        obtain ⟨k3162, k3163, k3164, k3165, k3166⟩ := kk3167
                        exact hQ _ hσ3145 (⟨k3162.trans ((kq (a := 9) (b := 9) eσ3055 (by omega)).trans (k2893.trans (k2873.trans ((kq (a := 9) (b := 9) eσ2285 (by omega)).trans (k6.trans ((kq (a := 9) (b := 9) eσ2 (by omega)))))))), k3163.trans ((kq (a := 9) (b := 10) eσ3055 (by omega)).trans (k2894.trans (k2874.trans ((kq (a := 9) (b := 10) eσ2285 (by omega)).trans (k7.trans ((kq (a := 9) (b := 10) eσ2 (by omega)))))))), k3164.trans ((kq (a := 6) (b := 5) eσ3055 (by omega)).trans (k2895.trans (k2875.trans ((kq (a := 6) (b := 5) eσ2285 (by omega)).trans (k8.trans ((kq (a := 6) (b := 5) eσ2 (by omega)))))))), k3165.trans ((kq (a := 7) (b := 4) eσ3055 (by omega)).trans (k2896.trans (k2876.trans ((kq (a := 7) (b := 4) eσ2285 (by omega)).trans (k9.trans ((kq (a := 7) (b := 4) eσ2 (by omega)))))))), k3166.trans ((kq (a := 2) (b := 4) eσ3055 (by omega)).trans (k2897.trans (k2877.trans ((kq (a := 2) (b := 4) eσ2285 (by omega)).trans (k10.trans ((kq (a := 2) (b := 4) eσ2 (by omega))))))))⟩)
                  · have f3168 := tB (σ2890.1 3 11)
                    have f3170 := mt Int32.toInt_inj.mp c3050
                    exact hQ _ hσ2890 (⟨k2893.trans (k2873.trans ((kq (a := 9) (b := 9) eσ2285 (by omega)).trans (k6.trans ((kq (a := 9) (b := 9) eσ2 (by omega)))))), k2894.trans (k2874.trans ((kq (a := 9) (b := 10) eσ2285 (by omega)).trans (k7.trans ((kq (a := 9) (b := 10) eσ2 (by omega)))))), k2895.trans (k2875.trans ((kq (a := 6) (b := 5) eσ2285 (by omega)).trans (k8.trans ((kq (a := 6) (b := 5) eσ2 (by omega)))))), k2896.trans (k2876.trans ((kq (a := 7) (b := 4) eσ2285 (by omega)).trans (k9.trans ((kq (a := 7) (b := 4) eσ2 (by omega)))))), k2897.trans (k2877.trans ((kq (a := 2) (b := 4) eσ2285 (by omega)).trans (k10.trans ((kq (a := 2) (b := 4) eσ2 (by omega))))))⟩)
              · have f3171 := tB (jT r15.toNatClampNeg)
                have f3173 := mt Int32.toInt_inj.mp c2886
                unfold fX2_doOrder_j103
                have g3175 : vp_in r15 18 := inI (by omega) (by omega)
                refine ⟨g3175, ?_⟩
                refine ⟨fun c3176 => ?_, fun c3176 => ?_⟩
                · have f3178 : (2 : Int32).toInt = 2 := by decide
                  have f3179 := congrArg Int32.toInt c3176
                  refine sX2_nextDistance hN hσ2870 (fun r3192 σ3180 hσ3180 kk3191 p3193 => ?_)
                  obtain ⟨k3181, k3182, k3183, k3184, k3185, k3186, k3187, k3188, k3189, k3190⟩ := kk3191
                  unfold fX2_doOrder_j122
                  refine ⟨fun c3194 => ?_, fun c3194 => ?_⟩
                  · have f3195 := tB (σ3180.1 3 11)
                    have f3197 := congrArg Int32.toInt c3194
                    intro v3198 ev3198
                    intro σ3199 eσ3199
                    have kb3200 := jobK_b hk1
                    have hσ3199 : K1 σ0 σ3199 := by rw [eσ3199]; exact hσ3180.u (rg_jobK hk1) (by omega) (by omega)
                    have g3202 : vp_in r15 18 := inI (by omega) (by omega)
                    refine ⟨g3202, ?_⟩
                    refine ⟨fun c3203 => ?_, fun c3203 => ?_⟩
                    · have f3206 := congrArg Int32.toInt c3203
                      have f3209 := tB r2882
                      refine sX2_valueFor hN hσ3199 (fun r3222 σ3210 hσ3210 kk3221 p3223 => ?_)
                      obtain ⟨k3211, k3212, k3213, k3214, k3215, k3216, k3217, k3218, k3219, k3220⟩ := kk3221
                      refine ⟨fun c3224 => ?_, fun c3224 => ?_⟩
                      · have f3225 := tB (σ3210.1 3 11)
                        have f3227 := congrArg Int32.toInt c3224
                        have f3228 : (255 : Int32).toInt = 255 := by decide
                        have f3229 := tB r3222
                        refine sX1_setLocal hN hk1 hσ3210 (fun σ3230 hσ3230 kk3242 => ?_)
                        obtain ⟨k3231, k3232, k3233, k3234, k3235, k3236, k3237, k3238, k3239, k3240, k3241⟩ := kk3242
                        unfold fX2_doOrder_j174
                        exact hQ _ hσ3230 (⟨k3234.trans (k3213.trans ((kq (a := 9) (b := 9) eσ3199 (by omega)).trans (k3183.trans (k2873.trans ((kq (a := 9) (b := 9) eσ2285 (by omega)).trans (k6.trans ((kq (a := 9) (b := 9) eσ2 (by omega))))))))), k3235.trans (k3214.trans ((kq (a := 9) (b := 10) eσ3199 (by omega)).trans (k3184.trans (k2874.trans ((kq (a := 9) (b := 10) eσ2285 (by omega)).trans (k7.trans ((kq (a := 9) (b := 10) eσ2 (by omega))))))))), k3236.trans (k3215.trans ((kq (a := 6) (b := 5) eσ3199 (by omega)).trans (k3185.trans (k2875.trans ((kq (a := 6) (b := 5) eσ2285 (by omega)).trans (k8.trans ((kq (a := 6) (b := 5) eσ2 (by omega))))))))), k3237.trans (k3216.trans ((kq (a := 7) (b := 4) eσ3199 (by omega)).trans (k3186.trans (k2876.trans ((kq (a := 7) (b := 4) eσ2285 (by omega)).trans (k9.trans ((kq (a := 7) (b := 4) eσ2 (by omega))))))))), k3238.trans (k3217.trans ((kq (a := 2) (b := 4) eσ3199 (by omega)).trans (k3187.trans (k2877.trans ((kq (a := 2) (b := 4) eσ2285 (by omega)).trans (k10.trans ((kq (a := 2) (b := 4) eσ2 (by omega)))))))))⟩)
                      · have f3243 := tB (σ3210.1 3 11)
                        have f3245 := mt Int32.toInt_inj.mp c3224
                        unfold fX2_doOrder_j174
                        exact hQ _ hσ3210 (⟨k3213.trans ((kq (a := 9) (b := 9) eσ3199 (by omega)).trans (k3183.trans (k2873.trans ((kq (a := 9) (b := 9) eσ2285 (by omega)).trans (k6.trans ((kq (a := 9) (b := 9) eσ2 (by omega)))))))), k3214.trans ((kq (a := 9) (b := 10) eσ3199 (by omega)).trans (k3184.trans (k2874.trans ((kq (a := 9) (b := 10) eσ2285 (by omega)).trans (k7.trans ((kq (a := 9) (b := 10) eσ2 (by omega)))))))), k3215.trans ((kq (a := 6) (b := 5) eσ3199 (by omega)).trans (k3185.trans (k2875.trans ((kq (a := 6) (b := 5) eσ2285 (by omega)).trans (k8.trans ((kq (a := 6) (b := 5) eσ2 (by omega)))))))), k3216.trans ((kq (a := 7) (b := 4) eσ3199 (by omega)).trans (k3186.trans (k2876.trans ((kq (a := 7) (b := 4) eσ2285 (by omega)).trans (k9.trans ((kq (a := 7) (b := 4) eσ2 (by omega)))))))), k3217.trans ((kq (a := 2) (b := 4) eσ3199 (by omega)).trans (k3187.trans (k2877.trans ((kq (a := 2) (b := 4) eσ2285 (by omega)).trans (k10.trans ((kq (a := 2) (b := 4) eσ2 (by omega))))))))⟩)
                    · have f3248 := mt Int32.toInt_inj.mp c3203
                      have g3250 : vp_in r15 18 := inI (by omega) (by omega)
                      refine ⟨g3250, ?_⟩
                      refine ⟨fun c3251 => ?_, fun c3251 => ?_⟩
                      · have f3254 := congrArg Int32.toInt c3251
                        have f3257 := tB r2882
                        refine sX2_goesThere hN hσ3199 (fun r3271 p3272 => ?_)
                        refine ⟨fun c3273 => ?_, fun c3273 => ?_⟩
                        · have f3274 := tB r3271
                          have f3276 := congrArg Int32.toInt c3273
                          exact hQ _ hσ3199 (⟨(kq (a := 9) (b := 9) eσ3199 (by omega)).trans (k3183.trans (k2873.trans ((kq (a := 9) (b := 9) eσ2285 (by omega)).trans (k6.trans ((kq (a := 9) (b := 9) eσ2 (by omega))))))), (kq (a := 9) (b := 10) eσ3199 (by omega)).trans (k3184.trans (k2874.trans ((kq (a := 9) (b := 10) eσ2285 (by omega)).trans (k7.trans ((kq (a := 9) (b := 10) eσ2 (by omega))))))), (kq (a := 6) (b := 5) eσ3199 (by omega)).trans (k3185.trans (k2875.trans ((kq (a := 6) (b := 5) eσ2285 (by omega)).trans (k8.trans ((kq (a := 6) (b := 5) eσ2 (by omega))))))), (kq (a := 7) (b := 4) eσ3199 (by omega)).trans (k3186.trans (k2876.trans ((kq (a := 7) (b := 4) eσ2285 (by omega)).trans (k9.trans ((kq (a := 7) (b := 4) eσ2 (by omega))))))), (kq (a := 2) (b := 4) eσ3199 (by omega)).trans (k3187.trans (k2877.trans ((kq (a := 2) (b := 4) eσ2285 (by omega)).trans (k10.trans ((kq (a := 2) (b := 4) eσ2 (by omega)))))))⟩)
                        · have f3277 := tB r3271
                          have f3279 := mt Int32.toInt_inj.mp c3273
                          intro v3280 ev3280
                          intro σ3281 eσ3281
                          have kb3282 := jobK_b hk1
                          have hσ3281 : K1 σ0 σ3281 := by rw [eσ3281]; exact hσ3199.u (rg_jobK hk1) (by omega) (by omega)
                          exact hQ _ hσ3281 (⟨(kq (a := 9) (b := 9) eσ3281 (by omega)).trans ((kq (a := 9) (b := 9) eσ3199 (by omega)).trans (k3183.trans (k2873.trans ((kq (a := 9) (b := 9) eσ2285 (by omega)).trans (k6.trans ((kq (a := 9) (b := 9) eσ2 (by omega)))))))), (kq (a := 9) (b := 10) eσ3281 (by omega)).trans ((kq (a := 9) (b := 10) eσ3199 (by omega)).trans (k3184.trans (k2874.trans ((kq (a := 9) (b := 10) eσ2285 (by omega)).trans (k7.trans ((kq (a := 9) (b := 10) eσ2 (by omega)))))))), (kq (a := 6) (b := 5) eσ3281 (by omega)).trans ((kq (a := 6) (b := 5) eσ3199 (by omega)).trans (k3185.trans (k2875.trans ((kq (a := 6) (b := 5) eσ2285 (by omega)).trans (k8.trans ((kq (a := 6) (b := 5) eσ2 (by omega)))))))), (kq (a := 7) (b := 4) eσ3281 (by omega)).trans ((kq (a := 7) (b := 4) eσ3199 (by omega)).trans (k3186.trans (k2876.trans ((kq (a := 7) (b := 4) eσ2285 (by omega)).trans (k9.trans ((kq (a := 7) (b := 4) eσ2 (by omega)))))))), (kq (a := 2) (b := 4) eσ3281 (by omega)).trans ((kq (a := 2) (b := 4) eσ3199 (by omega)).trans (k3187.trans (k2877.trans ((kq (a := 2) (b := 4) eσ2285 (by omega)).trans (k10.trans ((kq (a := 2) (b := 4) eσ2 (by omega))))))))⟩)
                      · have f3285 := mt Int32.toInt_inj.mp c3251
                        have f3288 := tB r2882
                        have f3290 := K1.g_3_7 hσ3199
                        have q3291 : σ3199.1 3 7 = σ3180.1 3 7 := by rw [eσ3199]; exact congrFun (u1_ne (by omega)) 7
                        have f3292 := congrArg Int32.toInt q3291
                        have f3293 := K1.g_3_7 hσ3180
                        have f3294 := congrArg Int32.toInt k3181
                        have f3295 := K1.g_3_7 hσ2870
                        have f3296 := congrArg Int32.toInt k2871
                        have f3297 := K1.g_3_7 hσ2285
                        have q3298 : σ2285.1 3 7 = σ3.1 3 7 := by rw [eσ2285, u1_at]; exact if_neg (by decide)
                        have f3299 := congrArg Int32.toInt q3298
                        have f3300 := K1.g_3_7 hσ3
                        have f3301 := congrArg Int32.toInt k4
                        have f3302 := K1.g_3_7 hσ2
                        have q3303 : σ2.1 3 7 = σ.1 3 7 := by rw [eσ2, u1_at]; exact if_neg (by decide)
                        have f3304 := congrArg Int32.toInt q3303
                        have f3305 := K1.g_3_7 hσ
                        refine sX2_act hN hk1 (by omega) hσ3199 (fun σ3289 hσ3289 kk3311 => ?_)
                        obtain ⟨k3306, k3307, k3308, k3309, k3310⟩ := kk3311
                        exact hQ _ hσ3289 (⟨k3306.trans ((kq (a := 9) (b := 9) eσ3199 (by omega)).trans (k3183.trans (k2873.trans ((kq (a := 9) (b := 9) eσ2285 (by omega)).trans (k6.trans ((kq (a := 9) (b := 9) eσ2 (by omega)))))))), k3307.trans ((kq (a := 9) (b := 10) eσ3199 (by omega)).trans (k3184.trans (k2874.trans ((kq (a := 9) (b := 10) eσ2285 (by omega)).trans (k7.trans ((kq (a := 9) (b := 10) eσ2 (by omega)))))))), k3308.trans ((kq (a := 6) (b := 5) eσ3199 (by omega)).trans (k3185.trans (k2875.trans ((kq (a := 6) (b := 5) eσ2285 (by omega)).trans (k8.trans ((kq (a := 6) (b := 5) eσ2 (by omega)))))))), k3309.trans ((kq (a := 7) (b := 4) eσ3199 (by omega)).trans (k3186.trans (k2876.trans ((kq (a := 7) (b := 4) eσ2285 (by omega)).trans (k9.trans ((kq (a := 7) (b := 4) eσ2 (by omega)))))))), k3310.trans ((kq (a := 2) (b := 4) eσ3199 (by omega)).trans (k3187.trans (k2877.trans ((kq (a := 2) (b := 4) eσ2285 (by omega)).trans (k10.trans ((kq (a := 2) (b := 4) eσ2 (by omega))))))))⟩)
                  · have f3312 := tB (σ3180.1 3 11)
                    have f3314 := mt Int32.toInt_inj.mp c3194
                    exact hQ _ hσ3180 (⟨k3183.trans (k2873.trans ((kq (a := 9) (b := 9) eσ2285 (by omega)).trans (k6.trans ((kq (a := 9) (b := 9) eσ2 (by omega)))))), k3184.trans (k2874.trans ((kq (a := 9) (b := 10) eσ2285 (by omega)).trans (k7.trans ((kq (a := 9) (b := 10) eσ2 (by omega)))))), k3185.trans (k2875.trans ((kq (a := 6) (b := 5) eσ2285 (by omega)).trans (k8.trans ((kq (a := 6) (b := 5) eσ2 (by omega)))))), k3186.trans (k2876.trans ((kq (a := 7) (b := 4) eσ2285 (by omega)).trans (k9.trans ((kq (a := 7) (b := 4) eσ2 (by omega)))))), k3187.trans (k2877.trans ((kq (a := 2) (b := 4) eσ2285 (by omega)).trans (k10.trans ((kq (a := 2) (b := 4) eσ2 (by omega))))))⟩)
                · have f3316 : (2 : Int32).toInt = 2 := by decide
                  have f3317 := mt Int32.toInt_inj.mp c3176
                  unfold fX2_doOrder_j122
                  refine ⟨fun c3318 => ?_, fun c3318 => ?_⟩
                  · have f3319 := tB (σ2870.1 3 11)
                    have f3321 := congrArg Int32.toInt c3318
                    intro v3322 ev3322
                    intro σ3323 eσ3323
                    have kb3324 := jobK_b hk1
                    have hσ3323 : K1 σ0 σ3323 := by rw [eσ3323]; exact hσ2870.u (rg_jobK hk1) (by omega) (by omega)
                    have g3326 : vp_in r15 18 := inI (by omega) (by omega)
                    refine ⟨g3326, ?_⟩
                    refine ⟨fun c3327 => ?_, fun c3327 => ?_⟩
                    · have f3330 := congrArg Int32.toInt c3327
                      have f3333 := tB r2882
                      refine sX2_valueFor hN hσ3323 (fun r3346 σ3334 hσ3334 kk3345 p3347 => ?_)
                      obtain ⟨k3335, k3336, k3337, k3338, k3339, k3340, k3341, k3342, k3343, k3344⟩ := kk3345
                      refine ⟨fun c3348 => ?_, fun c3348 => ?_⟩
                      · have f3349 := tB (σ3334.1 3 11)
                        have f3351 := congrArg Int32.toInt c3348
                        have f3352 : (255 : Int32).toInt = 255 := by decide
                        have f3353 := tB r3346
                        refine sX1_setLocal hN hk1 hσ3334 (fun σ3354 hσ3354 kk3366 => ?_)
                        obtain ⟨k3355, k3356, k3357, k3358, k3359, k3360, k3361, k3362, k3363, k3364, k3365⟩ := kk3366
                        unfold fX2_doOrder_j174
                        exact hQ _ hσ3354 (⟨k3358.trans (k3337.trans ((kq (a := 9) (b := 9) eσ3323 (by omega)).trans (k2873.trans ((kq (a := 9) (b := 9) eσ2285 (by omega)).trans (k6.trans ((kq (a := 9) (b := 9) eσ2 (by omega)))))))), k3359.trans (k3338.trans ((kq (a := 9) (b := 10) eσ3323 (by omega)).trans (k2874.trans ((kq (a := 9) (b := 10) eσ2285 (by omega)).trans (k7.trans ((kq (a := 9) (b := 10) eσ2 (by omega)))))))), k3360.trans (k3339.trans ((kq (a := 6) (b := 5) eσ3323 (by omega)).trans (k2875.trans ((kq (a := 6) (b := 5) eσ2285 (by omega)).trans (k8.trans ((kq (a := 6) (b := 5) eσ2 (by omega)))))))), k3361.trans (k3340.trans ((kq (a := 7) (b := 4) eσ3323 (by omega)).trans (k2876.trans ((kq (a := 7) (b := 4) eσ2285 (by omega)).trans (k9.trans ((kq (a := 7) (b := 4) eσ2 (by omega)))))))), k3362.trans (k3341.trans ((kq (a := 2) (b := 4) eσ3323 (by omega)).trans (k2877.trans ((kq (a := 2) (b := 4) eσ2285 (by omega)).trans (k10.trans ((kq (a := 2) (b := 4) eσ2 (by omega))))))))⟩)
                      · have f3367 := tB (σ3334.1 3 11)
                        have f3369 := mt Int32.toInt_inj.mp c3348
                        unfold fX2_doOrder_j174
                        exact hQ _ hσ3334 (⟨k3337.trans ((kq (a := 9) (b := 9) eσ3323 (by omega)).trans (k2873.trans ((kq (a := 9) (b := 9) eσ2285 (by omega)).trans (k6.trans ((kq (a := 9) (b := 9) eσ2 (by omega))))))), k3338.trans ((kq (a := 9) (b := 10) eσ3323 (by omega)).trans (k2874.trans ((kq (a := 9) (b := 10) eσ2285 (by omega)).trans (k7.trans ((kq (a := 9) (b := 10) eσ2 (by omega))))))), k3339.trans ((kq (a := 6) (b := 5) eσ3323 (by omega)).trans (k2875.trans ((kq (a := 6) (b := 5) eσ2285 (by omega)).trans (k8.trans ((kq (a := 6) (b := 5) eσ2 (by omega))))))), k3340.trans ((kq (a := 7) (b := 4) eσ3323 (by omega)).trans (k2876.trans ((kq (a := 7) (b := 4) eσ2285 (by omega)).trans (k9.trans ((kq (a := 7) (b := 4) eσ2 (by omega))))))), k3341.trans ((kq (a := 2) (b := 4) eσ3323 (by omega)).trans (k2877.trans ((kq (a := 2) (b := 4) eσ2285 (by omega)).trans (k10.trans ((kq (a := 2) (b := 4) eσ2 (by omega)))))))⟩)
                    · have f3372 := mt Int32.toInt_inj.mp c3327
                      have g3374 : vp_in r15 18 := inI (by omega) (by omega)
                      refine ⟨g3374, ?_⟩
                      refine ⟨fun c3375 => ?_, fun c3375 => ?_⟩
                      · have f3378 := congrArg Int32.toInt c3375
                        have f3381 := tB r2882
                        refine sX2_goesThere hN hσ3323 (fun r3395 p3396 => ?_)
                        refine ⟨fun c3397 => ?_, fun c3397 => ?_⟩
                        · have f3398 := tB r3395
                          have f3400 := congrArg Int32.toInt c3397
                          exact hQ _ hσ3323 (⟨(kq (a := 9) (b := 9) eσ3323 (by omega)).trans (k2873.trans ((kq (a := 9) (b := 9) eσ2285 (by omega)).trans (k6.trans ((kq (a := 9) (b := 9) eσ2 (by omega)))))), (kq (a := 9) (b := 10) eσ3323 (by omega)).trans (k2874.trans ((kq (a := 9) (b := 10) eσ2285 (by omega)).trans (k7.trans ((kq (a := 9) (b := 10) eσ2 (by omega)))))), (kq (a := 6) (b := 5) eσ3323 (by omega)).trans (k2875.trans ((kq (a := 6) (b := 5) eσ2285 (by omega)).trans (k8.trans ((kq (a := 6) (b := 5) eσ2 (by omega)))))), (kq (a := 7) (b := 4) eσ3323 (by omega)).trans (k2876.trans ((kq (a := 7) (b := 4) eσ2285 (by omega)).trans (k9.trans ((kq (a := 7) (b := 4) eσ2 (by omega)))))), (kq (a := 2) (b := 4) eσ3323 (by omega)).trans (k2877.trans ((kq (a := 2) (b := 4) eσ2285 (by omega)).trans (k10.trans ((kq (a := 2) (b := 4) eσ2 (by omega))))))⟩)
                        · have f3401 := tB r3395
                          have f3403 := mt Int32.toInt_inj.mp c3397
                          intro v3404 ev3404
                          intro σ3405 eσ3405
                          have kb3406 := jobK_b hk1
                          have hσ3405 : K1 σ0 σ3405 := by rw [eσ3405]; exact hσ3323.u (rg_jobK hk1) (by omega) (by omega)
                          exact hQ _ hσ3405 (⟨(kq (a := 9) (b := 9) eσ3405 (by omega)).trans ((kq (a := 9) (b := 9) eσ3323 (by omega)).trans (k2873.trans ((kq (a := 9) (b := 9) eσ2285 (by omega)).trans (k6.trans ((kq (a := 9) (b := 9) eσ2 (by omega))))))), (kq (a := 9) (b := 10) eσ3405 (by omega)).trans ((kq (a := 9) (b := 10) eσ3323 (by omega)).trans (k2874.trans ((kq (a := 9) (b := 10) eσ2285 (by omega)).trans (k7.trans ((kq (a := 9) (b := 10) eσ2 (by omega))))))), (kq (a := 6) (b := 5) eσ3405 (by omega)).trans ((kq (a := 6) (b := 5) eσ3323 (by omega)).trans (k2875.trans ((kq (a := 6) (b := 5) eσ2285 (by omega)).trans (k8.trans ((kq (a := 6) (b := 5) eσ2 (by omega))))))), (kq (a := 7) (b := 4) eσ3405 (by omega)).trans ((kq (a := 7) (b := 4) eσ3323 (by omega)).trans (k2876.trans ((kq (a := 7) (b := 4) eσ2285 (by omega)).trans (k9.trans ((kq (a := 7) (b := 4) eσ2 (by omega))))))), (kq (a := 2) (b := 4) eσ3405 (by omega)).trans ((kq (a := 2) (b := 4) eσ3323 (by omega)).trans (k2877.trans ((kq (a := 2) (b := 4) eσ2285 (by omega)).trans (k10.trans ((kq (a := 2) (b := 4) eσ2 (by omega)))))))⟩)
                      · have f3409 := mt Int32.toInt_inj.mp c3375
                        have f3412 := tB r2882
                        have f3414 := K1.g_3_7 hσ3323
                        have q3415 : σ3323.1 3 7 = σ2870.1 3 7 := by rw [eσ3323]; exact congrFun (u1_ne (by omega)) 7
                        have f3416 := congrArg Int32.toInt q3415
                        have f3417 := K1.g_3_7 hσ2870
                        have f3418 := congrArg Int32.toInt k2871
                        have f3419 := K1.g_3_7 hσ2285
                        have q3420 : σ2285.1 3 7 = σ3.1 3 7 := by rw [eσ2285, u1_at]; exact if_neg (by decide)
                        have f3421 := congrArg Int32.toInt q3420
                        have f3422 := K1.g_3_7 hσ3
                        have f3423 := congrArg Int32.toInt k4
                        have f3424 := K1.g_3_7 hσ2
                        have q3425 : σ2.1 3 7 = σ.1 3 7 := by rw [eσ2, u1_at]; exact if_neg (by decide)
                        have f3426 := congrArg Int32.toInt q3425
                        have f3427 := K1.g_3_7 hσ
                        refine sX2_act hN hk1 (by omega) hσ3323 (fun σ3413 hσ3413 kk3433 => ?_)
                        obtain ⟨k3428, k3429, k3430, k3431, k3432⟩ := kk3433
                        exact hQ _ hσ3413 (⟨k3428.trans ((kq (a := 9) (b := 9) eσ3323 (by omega)).trans (k2873.trans ((kq (a := 9) (b := 9) eσ2285 (by omega)).trans (k6.trans ((kq (a := 9) (b := 9) eσ2 (by omega))))))), k3429.trans ((kq (a := 9) (b := 10) eσ3323 (by omega)).trans (k2874.trans ((kq (a := 9) (b := 10) eσ2285 (by omega)).trans (k7.trans ((kq (a := 9) (b := 10) eσ2 (by omega))))))), k3430.trans ((kq (a := 6) (b := 5) eσ3323 (by omega)).trans (k2875.trans ((kq (a := 6) (b := 5) eσ2285 (by omega)).trans (k8.trans ((kq (a := 6) (b := 5) eσ2 (by omega))))))), k3431.trans ((kq (a := 7) (b := 4) eσ3323 (by omega)).trans (k2876.trans ((kq (a := 7) (b := 4) eσ2285 (by omega)).trans (k9.trans ((kq (a := 7) (b := 4) eσ2 (by omega))))))), k3432.trans ((kq (a := 2) (b := 4) eσ3323 (by omega)).trans (k2877.trans ((kq (a := 2) (b := 4) eσ2285 (by omega)).trans (k10.trans ((kq (a := 2) (b := 4) eσ2 (by omega)))))))⟩)
                  · have f3434 := tB (σ2870.1 3 11)
                    have f3436 := mt Int32.toInt_inj.mp c3318
                    exact hQ _ hσ2870 (⟨k2873.trans ((kq (a := 9) (b := 9) eσ2285 (by omega)).trans (k6.trans ((kq (a := 9) (b := 9) eσ2 (by omega))))), k2874.trans ((kq (a := 9) (b := 10) eσ2285 (by omega)).trans (k7.trans ((kq (a := 9) (b := 10) eσ2 (by omega))))), k2875.trans ((kq (a := 6) (b := 5) eσ2285 (by omega)).trans (k8.trans ((kq (a := 6) (b := 5) eσ2 (by omega))))), k2876.trans ((kq (a := 7) (b := 4) eσ2285 (by omega)).trans (k9.trans ((kq (a := 7) (b := 4) eσ2 (by omega))))), k2877.trans ((kq (a := 2) (b := 4) eσ2285 (by omega)).trans (k10.trans ((kq (a := 2) (b := 4) eσ2 (by omega)))))⟩)
          · have f3437 := tB (jV r15.toNatClampNeg)
            have f3439 := mt Int32.le_iff_toInt_le.mpr c2312
            refine sX2_nextValue hN hk1 hσ2285 (fun r3452 σ3440 hσ3440 kk3451 p3453 => ?_)
            obtain ⟨k3441, k3442, k3443, k3444, k3445, k3446, k3447, k3448, k3449, k3450⟩ := kk3451
            unfold fX2_doOrder_j62
            have g3455 : vp_in r15 18 := inI (by omega) (by omega)
            refine ⟨g3455, ?_⟩
            refine ⟨fun c3456 => ?_, fun c3456 => ?_⟩
            · have f3458 : (1 : Int32).toInt = 1 := by decide
              have f3459 := Int32.le_iff_toInt_le.mp c3456
              unfold fX2_doOrder_j81
              have g3461 : vp_in r15 18 := inI (by omega) (by omega)
              refine ⟨g3461, ?_⟩
              refine ⟨fun c3462 => ?_, fun c3462 => ?_⟩
              · have f3463 := tB (jT r15.toNatClampNeg)
                have f3465 := congrArg Int32.toInt c3462
                refine sX2_nextTarget hN hk1 hσ3440 (fun r3478 σ3466 hσ3466 kk3477 p3479 => ?_)
                obtain ⟨k3467, k3468, k3469, k3470, k3471, k3472, k3473, k3474, k3475, k3476⟩ := kk3477
                unfold fX2_doOrder_j103
                have g3481 : vp_in r15 18 := inI (by omega) (by omega)
                refine ⟨g3481, ?_⟩
                refine ⟨fun c3482 => ?_, fun c3482 => ?_⟩
                · have f3484 : (2 : Int32).toInt = 2 := by decide
                  have f3485 := congrArg Int32.toInt c3482
                  refine sX2_nextDistance hN hσ3466 (fun r3498 σ3486 hσ3486 kk3497 p3499 => ?_)
                  obtain ⟨k3487, k3488, k3489, k3490, k3491, k3492, k3493, k3494, k3495, k3496⟩ := kk3497
                  unfold fX2_doOrder_j122
                  refine ⟨fun c3500 => ?_, fun c3500 => ?_⟩
                  · have f3501 := tB (σ3486.1 3 11)
                    have f3503 := congrArg Int32.toInt c3500
                    intro v3504 ev3504
                    intro σ3505 eσ3505
                    have kb3506 := jobK_b hk1
                    have hσ3505 : K1 σ0 σ3505 := by rw [eσ3505]; exact hσ3486.u (rg_jobK hk1) (by omega) (by omega)
                    have g3508 : vp_in r15 18 := inI (by omega) (by omega)
                    refine ⟨g3508, ?_⟩
                    refine ⟨fun c3509 => ?_, fun c3509 => ?_⟩
                    · have f3512 := congrArg Int32.toInt c3509
                      have f3514 := tB r3452
                      refine sX2_valueFor hN hσ3505 (fun r3528 σ3516 hσ3516 kk3527 p3529 => ?_)
                      obtain ⟨k3517, k3518, k3519, k3520, k3521, k3522, k3523, k3524, k3525, k3526⟩ := kk3527
                      refine ⟨fun c3530 => ?_, fun c3530 => ?_⟩
                      · have f3531 := tB (σ3516.1 3 11)
                        have f3533 := congrArg Int32.toInt c3530
                        have f3534 := tB r3478
                        have f3535 := tB r3528
                        refine sX1_setLocal hN hk1 hσ3516 (fun σ3536 hσ3536 kk3548 => ?_)
                        obtain ⟨k3537, k3538, k3539, k3540, k3541, k3542, k3543, k3544, k3545, k3546, k3547⟩ := kk3548
                        unfold fX2_doOrder_j174
                        exact hQ _ hσ3536 (⟨k3540.trans (k3519.trans ((kq (a := 9) (b := 9) eσ3505 (by omega)).trans (k3489.trans (k3469.trans (k3443.trans ((kq (a := 9) (b := 9) eσ2285 (by omega)).trans (k6.trans ((kq (a := 9) (b := 9) eσ2 (by omega)))))))))), k3541.trans (k3520.trans ((kq (a := 9) (b := 10) eσ3505 (by omega)).trans (k3490.trans (k3470.trans (k3444.trans ((kq (a := 9) (b := 10) eσ2285 (by omega)).trans (k7.trans ((kq (a := 9) (b := 10) eσ2 (by omega)))))))))), k3542.trans (k3521.trans ((kq (a := 6) (b := 5) eσ3505 (by omega)).trans (k3491.trans (k3471.trans (k3445.trans ((kq (a := 6) (b := 5) eσ2285 (by omega)).trans (k8.trans ((kq (a := 6) (b := 5) eσ2 (by omega)))))))))), k3543.trans (k3522.trans ((kq (a := 7) (b := 4) eσ3505 (by omega)).trans (k3492.trans (k3472.trans (k3446.trans ((kq (a := 7) (b := 4) eσ2285 (by omega)).trans (k9.trans ((kq (a := 7) (b := 4) eσ2 (by omega)))))))))), k3544.trans (k3523.trans ((kq (a := 2) (b := 4) eσ3505 (by omega)).trans (k3493.trans (k3473.trans (k3447.trans ((kq (a := 2) (b := 4) eσ2285 (by omega)).trans (k10.trans ((kq (a := 2) (b := 4) eσ2 (by omega))))))))))⟩)
                      · have f3549 := tB (σ3516.1 3 11)
                        have f3551 := mt Int32.toInt_inj.mp c3530
                        unfold fX2_doOrder_j174
                        exact hQ _ hσ3516 (⟨k3519.trans ((kq (a := 9) (b := 9) eσ3505 (by omega)).trans (k3489.trans (k3469.trans (k3443.trans ((kq (a := 9) (b := 9) eσ2285 (by omega)).trans (k6.trans ((kq (a := 9) (b := 9) eσ2 (by omega))))))))), k3520.trans ((kq (a := 9) (b := 10) eσ3505 (by omega)).trans (k3490.trans (k3470.trans (k3444.trans ((kq (a := 9) (b := 10) eσ2285 (by omega)).trans (k7.trans ((kq (a := 9) (b := 10) eσ2 (by omega))))))))), k3521.trans ((kq (a := 6) (b := 5) eσ3505 (by omega)).trans (k3491.trans (k3471.trans (k3445.trans ((kq (a := 6) (b := 5) eσ2285 (by omega)).trans (k8.trans ((kq (a := 6) (b := 5) eσ2 (by omega))))))))), k3522.trans ((kq (a := 7) (b := 4) eσ3505 (by omega)).trans (k3492.trans (k3472.trans (k3446.trans ((kq (a := 7) (b := 4) eσ2285 (by omega)).trans (k9.trans ((kq (a := 7) (b := 4) eσ2 (by omega))))))))), k3523.trans ((kq (a := 2) (b := 4) eσ3505 (by omega)).trans (k3493.trans (k3473.trans (k3447.trans ((kq (a := 2) (b := 4) eσ2285 (by omega)).trans (k10.trans ((kq (a := 2) (b := 4) eσ2 (by omega)))))))))⟩)
                    · have f3554 := mt Int32.toInt_inj.mp c3509
                      have g3556 : vp_in r15 18 := inI (by omega) (by omega)
                      refine ⟨g3556, ?_⟩
                      refine ⟨fun c3557 => ?_, fun c3557 => ?_⟩
                      · have f3560 := congrArg Int32.toInt c3557
                        have f3562 := tB r3452
                        refine sX2_goesThere hN hσ3505 (fun r3577 p3578 => ?_)
                        refine ⟨fun c3579 => ?_, fun c3579 => ?_⟩
                        · have f3580 := tB r3577
                          have f3582 := congrArg Int32.toInt c3579
                          exact hQ _ hσ3505 (⟨(kq (a := 9) (b := 9) eσ3505 (by omega)).trans (k3489.trans (k3469.trans (k3443.trans ((kq (a := 9) (b := 9) eσ2285 (by omega)).trans (k6.trans ((kq (a := 9) (b := 9) eσ2 (by omega)))))))), (kq (a := 9) (b := 10) eσ3505 (by omega)).trans (k3490.trans (k3470.trans (k3444.trans ((kq (a := 9) (b := 10) eσ2285 (by omega)).trans (k7.trans ((kq (a := 9) (b := 10) eσ2 (by omega)))))))), (kq (a := 6) (b := 5) eσ3505 (by omega)).trans (k3491.trans (k3471.trans (k3445.trans ((kq (a := 6) (b := 5) eσ2285 (by omega)).trans (k8.trans ((kq (a := 6) (b := 5) eσ2 (by omega)))))))), (kq (a := 7) (b := 4) eσ3505 (by omega)).trans (k3492.trans (k3472.trans (k3446.trans ((kq (a := 7) (b := 4) eσ2285 (by omega)).trans (k9.trans ((kq (a := 7) (b := 4) eσ2 (by omega)))))))), (kq (a := 2) (b := 4) eσ3505 (by omega)).trans (k3493.trans (k3473.trans (k3447.trans ((kq (a := 2) (b := 4) eσ2285 (by omega)).trans (k10.trans ((kq (a := 2) (b := 4) eσ2 (by omega))))))))⟩)
                        · have f3583 := tB r3577
                          have f3585 := mt Int32.toInt_inj.mp c3579
                          intro v3586 ev3586
                          intro σ3587 eσ3587
                          have kb3588 := jobK_b hk1
                          have hσ3587 : K1 σ0 σ3587 := by rw [eσ3587]; exact hσ3505.u (rg_jobK hk1) (by omega) (by omega)
                          exact hQ _ hσ3587 (⟨(kq (a := 9) (b := 9) eσ3587 (by omega)).trans ((kq (a := 9) (b := 9) eσ3505 (by omega)).trans (k3489.trans (k3469.trans (k3443.trans ((kq (a := 9) (b := 9) eσ2285 (by omega)).trans (k6.trans ((kq (a := 9) (b := 9) eσ2 (by omega))))))))), (kq (a := 9) (b := 10) eσ3587 (by omega)).trans ((kq (a := 9) (b := 10) eσ3505 (by omega)).trans (k3490.trans (k3470.trans (k3444.trans ((kq (a := 9) (b := 10) eσ2285 (by omega)).trans (k7.trans ((kq (a := 9) (b := 10) eσ2 (by omega))))))))), (kq (a := 6) (b := 5) eσ3587 (by omega)).trans ((kq (a := 6) (b := 5) eσ3505 (by omega)).trans (k3491.trans (k3471.trans (k3445.trans ((kq (a := 6) (b := 5) eσ2285 (by omega)).trans (k8.trans ((kq (a := 6) (b := 5) eσ2 (by omega))))))))), (kq (a := 7) (b := 4) eσ3587 (by omega)).trans ((kq (a := 7) (b := 4) eσ3505 (by omega)).trans (k3492.trans (k3472.trans (k3446.trans ((kq (a := 7) (b := 4) eσ2285 (by omega)).trans (k9.trans ((kq (a := 7) (b := 4) eσ2 (by omega))))))))), (kq (a := 2) (b := 4) eσ3587 (by omega)).trans ((kq (a := 2) (b := 4) eσ3505 (by omega)).trans (k3493.trans (k3473.trans (k3447.trans ((kq (a := 2) (b := 4) eσ2285 (by omega)).trans (k10.trans ((kq (a := 2) (b := 4) eσ2 (by omega)))))))))⟩)
                      · have f3591 := mt Int32.toInt_inj.mp c3557
                        have f3593 := tB r3452
                        have f3596 := K1.g_3_7 hσ3505
                        have q3597 : σ3505.1 3 7 = σ3486.1 3 7 := by rw [eσ3505]; exact congrFun (u1_ne (by omega)) 7
                        have f3598 := congrArg Int32.toInt q3597
                        have f3599 := K1.g_3_7 hσ3486
                        have f3600 := congrArg Int32.toInt k3487
                        have f3601 := K1.g_3_7 hσ3466
                        have f3602 := congrArg Int32.toInt k3467
                        have f3603 := K1.g_3_7 hσ3440
                        have f3604 := congrArg Int32.toInt k3441
                        have f3605 := K1.g_3_7 hσ2285
                        have q3606 : σ2285.1 3 7 = σ3.1 3 7 := by rw [eσ2285, u1_at]; exact if_neg (by decide)
                        have f3607 := congrArg Int32.toInt q3606
                        have f3608 := K1.g_3_7 hσ3
                        have f3609 := congrArg Int32.toInt k4
                        have f3610 := K1.g_3_7 hσ2
                        have q3611 : σ2.1 3 7 = σ.1 3 7 := by rw [eσ2, u1_at]; exact if_neg (by decide)
                        have f3612 := congrArg Int32.toInt q3611
                        have f3613 := K1.g_3_7 hσ
                        refine sX2_act hN hk1 (by omega) hσ3505 (fun σ3595 hσ3595 kk3619 => ?_)
                        obtain ⟨k3614, k3615, k3616, k3617, k3618⟩ := kk3619
                        exact hQ _ hσ3595 (⟨k3614.trans ((kq (a := 9) (b := 9) eσ3505 (by omega)).trans (k3489.trans (k3469.trans (k3443.trans ((kq (a := 9) (b := 9) eσ2285 (by omega)).trans (k6.trans ((kq (a := 9) (b := 9) eσ2 (by omega))))))))), k3615.trans ((kq (a := 9) (b := 10) eσ3505 (by omega)).trans (k3490.trans (k3470.trans (k3444.trans ((kq (a := 9) (b := 10) eσ2285 (by omega)).trans (k7.trans ((kq (a := 9) (b := 10) eσ2 (by omega))))))))), k3616.trans ((kq (a := 6) (b := 5) eσ3505 (by omega)).trans (k3491.trans (k3471.trans (k3445.trans ((kq (a := 6) (b := 5) eσ2285 (by omega)).trans (k8.trans ((kq (a := 6) (b := 5) eσ2 (by omega))))))))), k3617.trans ((kq (a := 7) (b := 4) eσ3505 (by omega)).trans (k3492.trans (k3472.trans (k3446.trans ((kq (a := 7) (b := 4) eσ2285 (by omega)).trans (k9.trans ((kq (a := 7) (b := 4) eσ2 (by omega))))))))), k3618.trans ((kq (a := 2) (b := 4) eσ3505 (by omega)).trans (k3493.trans (k3473.trans (k3447.trans ((kq (a := 2) (b := 4) eσ2285 (by omega)).trans (k10.trans ((kq (a := 2) (b := 4) eσ2 (by omega)))))))))⟩)
                  · have f3620 := tB (σ3486.1 3 11)
                    have f3622 := mt Int32.toInt_inj.mp c3500
                    exact hQ _ hσ3486 (⟨k3489.trans (k3469.trans (k3443.trans ((kq (a := 9) (b := 9) eσ2285 (by omega)).trans (k6.trans ((kq (a := 9) (b := 9) eσ2 (by omega))))))), k3490.trans (k3470.trans (k3444.trans ((kq (a := 9) (b := 10) eσ2285 (by omega)).trans (k7.trans ((kq (a := 9) (b := 10) eσ2 (by omega))))))), k3491.trans (k3471.trans (k3445.trans ((kq (a := 6) (b := 5) eσ2285 (by omega)).trans (k8.trans ((kq (a := 6) (b := 5) eσ2 (by omega))))))), k3492.trans (k3472.trans (k3446.trans ((kq (a := 7) (b := 4) eσ2285 (by omega)).trans (k9.trans ((kq (a := 7) (b := 4) eσ2 (by omega))))))), k3493.trans (k3473.trans (k3447.trans ((kq (a := 2) (b := 4) eσ2285 (by omega)).trans (k10.trans ((kq (a := 2) (b := 4) eσ2 (by omega)))))))⟩)
                · have f3624 : (2 : Int32).toInt = 2 := by decide
                  have f3625 := mt Int32.toInt_inj.mp c3482
                  unfold fX2_doOrder_j122
                  refine ⟨fun c3626 => ?_, fun c3626 => ?_⟩
                  · have f3627 := tB (σ3466.1 3 11)
                    have f3629 := congrArg Int32.toInt c3626
                    intro v3630 ev3630
                    intro σ3631 eσ3631
                    have kb3632 := jobK_b hk1
                    have hσ3631 : K1 σ0 σ3631 := by rw [eσ3631]; exact hσ3466.u (rg_jobK hk1) (by omega) (by omega)
                    have g3634 : vp_in r15 18 := inI (by omega) (by omega)
                    refine ⟨g3634, ?_⟩
                    refine ⟨fun c3635 => ?_, fun c3635 => ?_⟩
                    · have f3638 := congrArg Int32.toInt c3635
                      have f3640 := tB r3452
                      refine sX2_valueFor hN hσ3631 (fun r3654 σ3642 hσ3642 kk3653 p3655 => ?_)
                      obtain ⟨k3643, k3644, k3645, k3646, k3647, k3648, k3649, k3650, k3651, k3652⟩ := kk3653
                      refine ⟨fun c3656 => ?_, fun c3656 => ?_⟩
                      · have f3657 := tB (σ3642.1 3 11)
                        have f3659 := congrArg Int32.toInt c3656
                        have f3660 := tB r3478
                        have f3661 := tB r3654
                        refine sX1_setLocal hN hk1 hσ3642 (fun σ3662 hσ3662 kk3674 => ?_)
                        obtain ⟨k3663, k3664, k3665, k3666, k3667, k3668, k3669, k3670, k3671, k3672, k3673⟩ := kk3674
                        unfold fX2_doOrder_j174
                        exact hQ _ hσ3662 (⟨k3666.trans (k3645.trans ((kq (a := 9) (b := 9) eσ3631 (by omega)).trans (k3469.trans (k3443.trans ((kq (a := 9) (b := 9) eσ2285 (by omega)).trans (k6.trans ((kq (a := 9) (b := 9) eσ2 (by omega))))))))), k3667.trans (k3646.trans ((kq (a := 9) (b := 10) eσ3631 (by omega)).trans (k3470.trans (k3444.trans ((kq (a := 9) (b := 10) eσ2285 (by omega)).trans (k7.trans ((kq (a := 9) (b := 10) eσ2 (by omega))))))))), k3668.trans (k3647.trans ((kq (a := 6) (b := 5) eσ3631 (by omega)).trans (k3471.trans (k3445.trans ((kq (a := 6) (b := 5) eσ2285 (by omega)).trans (k8.trans ((kq (a := 6) (b := 5) eσ2 (by omega))))))))), k3669.trans (k3648.trans ((kq (a := 7) (b := 4) eσ3631 (by omega)).trans (k3472.trans (k3446.trans ((kq (a := 7) (b := 4) eσ2285 (by omega)).trans (k9.trans ((kq (a := 7) (b := 4) eσ2 (by omega))))))))), k3670.trans (k3649.trans ((kq (a := 2) (b := 4) eσ3631 (by omega)).trans (k3473.trans (k3447.trans ((kq (a := 2) (b := 4) eσ2285 (by omega)).trans (k10.trans ((kq (a := 2) (b := 4) eσ2 (by omega)))))))))⟩)
                      · have f3675 := tB (σ3642.1 3 11)
                        have f3677 := mt Int32.toInt_inj.mp c3656
                        unfold fX2_doOrder_j174
                        exact hQ _ hσ3642 (⟨k3645.trans ((kq (a := 9) (b := 9) eσ3631 (by omega)).trans (k3469.trans (k3443.trans ((kq (a := 9) (b := 9) eσ2285 (by omega)).trans (k6.trans ((kq (a := 9) (b := 9) eσ2 (by omega)))))))), k3646.trans ((kq (a := 9) (b := 10) eσ3631 (by omega)).trans (k3470.trans (k3444.trans ((kq (a := 9) (b := 10) eσ2285 (by omega)).trans (k7.trans ((kq (a := 9) (b := 10) eσ2 (by omega)))))))), k3647.trans ((kq (a := 6) (b := 5) eσ3631 (by omega)).trans (k3471.trans (k3445.trans ((kq (a := 6) (b := 5) eσ2285 (by omega)).trans (k8.trans ((kq (a := 6) (b := 5) eσ2 (by omega)))))))), k3648.trans ((kq (a := 7) (b := 4) eσ3631 (by omega)).trans (k3472.trans (k3446.trans ((kq (a := 7) (b := 4) eσ2285 (by omega)).trans (k9.trans ((kq (a := 7) (b := 4) eσ2 (by omega)))))))), k3649.trans ((kq (a := 2) (b := 4) eσ3631 (by omega)).trans (k3473.trans (k3447.trans ((kq (a := 2) (b := 4) eσ2285 (by omega)).trans (k10.trans ((kq (a := 2) (b := 4) eσ2 (by omega))))))))⟩)
                    · have f3680 := mt Int32.toInt_inj.mp c3635
                      have g3682 : vp_in r15 18 := inI (by omega) (by omega)
                      refine ⟨g3682, ?_⟩
                      refine ⟨fun c3683 => ?_, fun c3683 => ?_⟩
                      · have f3686 := congrArg Int32.toInt c3683
                        have f3688 := tB r3452
                        refine sX2_goesThere hN hσ3631 (fun r3703 p3704 => ?_)
                        refine ⟨fun c3705 => ?_, fun c3705 => ?_⟩
                        · have f3706 := tB r3703
                          have f3708 := congrArg Int32.toInt c3705
                          exact hQ _ hσ3631 (⟨(kq (a := 9) (b := 9) eσ3631 (by omega)).trans (k3469.trans (k3443.trans ((kq (a := 9) (b := 9) eσ2285 (by omega)).trans (k6.trans ((kq (a := 9) (b := 9) eσ2 (by omega))))))), (kq (a := 9) (b := 10) eσ3631 (by omega)).trans (k3470.trans (k3444.trans ((kq (a := 9) (b := 10) eσ2285 (by omega)).trans (k7.trans ((kq (a := 9) (b := 10) eσ2 (by omega))))))), (kq (a := 6) (b := 5) eσ3631 (by omega)).trans (k3471.trans (k3445.trans ((kq (a := 6) (b := 5) eσ2285 (by omega)).trans (k8.trans ((kq (a := 6) (b := 5) eσ2 (by omega))))))), (kq (a := 7) (b := 4) eσ3631 (by omega)).trans (k3472.trans (k3446.trans ((kq (a := 7) (b := 4) eσ2285 (by omega)).trans (k9.trans ((kq (a := 7) (b := 4) eσ2 (by omega))))))), (kq (a := 2) (b := 4) eσ3631 (by omega)).trans (k3473.trans (k3447.trans ((kq (a := 2) (b := 4) eσ2285 (by omega)).trans (k10.trans ((kq (a := 2) (b := 4) eσ2 (by omega)))))))⟩)
                        · have f3709 := tB r3703
                          have f3711 := mt Int32.toInt_inj.mp c3705
                          intro v3712 ev3712
                          intro σ3713 eσ3713
                          have kb3714 := jobK_b hk1
                          have hσ3713 : K1 σ0 σ3713 := by rw [eσ3713]; exact hσ3631.u (rg_jobK hk1) (by omega) (by omega)
                          exact hQ _ hσ3713 (⟨(kq (a := 9) (b := 9) eσ3713 (by omega)).trans ((kq (a := 9) (b := 9) eσ3631 (by omega)).trans (k3469.trans (k3443.trans ((kq (a := 9) (b := 9) eσ2285 (by omega)).trans (k6.trans ((kq (a := 9) (b := 9) eσ2 (by omega)))))))), (kq (a := 9) (b := 10) eσ3713 (by omega)).trans ((kq (a := 9) (b := 10) eσ3631 (by omega)).trans (k3470.trans (k3444.trans ((kq (a := 9) (b := 10) eσ2285 (by omega)).trans (k7.trans ((kq (a := 9) (b := 10) eσ2 (by omega)))))))), (kq (a := 6) (b := 5) eσ3713 (by omega)).trans ((kq (a := 6) (b := 5) eσ3631 (by omega)).trans (k3471.trans (k3445.trans ((kq (a := 6) (b := 5) eσ2285 (by omega)).trans (k8.trans ((kq (a := 6) (b := 5) eσ2 (by omega)))))))), (kq (a := 7) (b := 4) eσ3713 (by omega)).trans ((kq (a := 7) (b := 4) eσ3631 (by omega)).trans (k3472.trans (k3446.trans ((kq (a := 7) (b := 4) eσ2285 (by omega)).trans (k9.trans ((kq (a := 7) (b := 4) eσ2 (by omega)))))))), (kq (a := 2) (b := 4) eσ3713 (by omega)).trans ((kq (a := 2) (b := 4) eσ3631 (by omega)).trans (k3473.trans (k3447.trans ((kq (a := 2) (b := 4) eσ2285 (by omega)).trans (k10.trans ((kq (a := 2) (b := 4) eσ2 (by omega))))))))⟩)
                      · have f3717 := mt Int32.toInt_inj.mp c3683
                        have f3719 := tB r3452
                        have f3722 := K1.g_3_7 hσ3631
                        have q3723 : σ3631.1 3 7 = σ3466.1 3 7 := by rw [eσ3631]; exact congrFun (u1_ne (by omega)) 7
                        have f3724 := congrArg Int32.toInt q3723
                        have f3725 := K1.g_3_7 hσ3466
                        have f3726 := congrArg Int32.toInt k3467
                        have f3727 := K1.g_3_7 hσ3440
                        have f3728 := congrArg Int32.toInt k3441
                        have f3729 := K1.g_3_7 hσ2285
                        have q3730 : σ2285.1 3 7 = σ3.1 3 7 := by rw [eσ2285, u1_at]; exact if_neg (by decide)
                        have f3731 := congrArg Int32.toInt q3730
                        have f3732 := K1.g_3_7 hσ3
                        have f3733 := congrArg Int32.toInt k4
                        have f3734 := K1.g_3_7 hσ2
                        have q3735 : σ2.1 3 7 = σ.1 3 7 := by rw [eσ2, u1_at]; exact if_neg (by decide)
                        have f3736 := congrArg Int32.toInt q3735
                        have f3737 := K1.g_3_7 hσ
                        refine sX2_act hN hk1 (by omega) hσ3631 (fun σ3721 hσ3721 kk3743 => ?_)
                        obtain ⟨k3738, k3739, k3740, k3741, k3742⟩ := kk3743
                        exact hQ _ hσ3721 (⟨k3738.trans ((kq (a := 9) (b := 9) eσ3631 (by omega)).trans (k3469.trans (k3443.trans ((kq (a := 9) (b := 9) eσ2285 (by omega)).trans (k6.trans ((kq (a := 9) (b := 9) eσ2 (by omega)))))))), k3739.trans ((kq (a := 9) (b := 10) eσ3631 (by omega)).trans (k3470.trans (k3444.trans ((kq (a := 9) (b := 10) eσ2285 (by omega)).trans (k7.trans ((kq (a := 9) (b := 10) eσ2 (by omega)))))))), k3740.trans ((kq (a := 6) (b := 5) eσ3631 (by omega)).trans (k3471.trans (k3445.trans ((kq (a := 6) (b := 5) eσ2285 (by omega)).trans (k8.trans ((kq (a := 6) (b := 5) eσ2 (by omega)))))))), k3741.trans ((kq (a := 7) (b := 4) eσ3631 (by omega)).trans (k3472.trans (k3446.trans ((kq (a := 7) (b := 4) eσ2285 (by omega)).trans (k9.trans ((kq (a := 7) (b := 4) eσ2 (by omega)))))))), k3742.trans ((kq (a := 2) (b := 4) eσ3631 (by omega)).trans (k3473.trans (k3447.trans ((kq (a := 2) (b := 4) eσ2285 (by omega)).trans (k10.trans ((kq (a := 2) (b := 4) eσ2 (by omega))))))))⟩)
                  · have f3744 := tB (σ3466.1 3 11)
                    have f3746 := mt Int32.toInt_inj.mp c3626
                    exact hQ _ hσ3466 (⟨k3469.trans (k3443.trans ((kq (a := 9) (b := 9) eσ2285 (by omega)).trans (k6.trans ((kq (a := 9) (b := 9) eσ2 (by omega)))))), k3470.trans (k3444.trans ((kq (a := 9) (b := 10) eσ2285 (by omega)).trans (k7.trans ((kq (a := 9) (b := 10) eσ2 (by omega)))))), k3471.trans (k3445.trans ((kq (a := 6) (b := 5) eσ2285 (by omega)).trans (k8.trans ((kq (a := 6) (b := 5) eσ2 (by omega)))))), k3472.trans (k3446.trans ((kq (a := 7) (b := 4) eσ2285 (by omega)).trans (k9.trans ((kq (a := 7) (b := 4) eσ2 (by omega)))))), k3473.trans (k3447.trans ((kq (a := 2) (b := 4) eσ2285 (by omega)).trans (k10.trans ((kq (a := 2) (b := 4) eσ2 (by omega))))))⟩)
              · have f3747 := tB (jT r15.toNatClampNeg)
                have f3749 := mt Int32.toInt_inj.mp c3462
                unfold fX2_doOrder_j103
                have g3751 : vp_in r15 18 := inI (by omega) (by omega)
                refine ⟨g3751, ?_⟩
                refine ⟨fun c3752 => ?_, fun c3752 => ?_⟩
                · have f3754 : (2 : Int32).toInt = 2 := by decide
                  have f3755 := congrArg Int32.toInt c3752
                  refine sX2_nextDistance hN hσ3440 (fun r3768 σ3756 hσ3756 kk3767 p3769 => ?_)
                  obtain ⟨k3757, k3758, k3759, k3760, k3761, k3762, k3763, k3764, k3765, k3766⟩ := kk3767
                  unfold fX2_doOrder_j122
                  refine ⟨fun c3770 => ?_, fun c3770 => ?_⟩
                  · have f3771 := tB (σ3756.1 3 11)
                    have f3773 := congrArg Int32.toInt c3770
                    intro v3774 ev3774
                    intro σ3775 eσ3775
                    have kb3776 := jobK_b hk1
                    have hσ3775 : K1 σ0 σ3775 := by rw [eσ3775]; exact hσ3756.u (rg_jobK hk1) (by omega) (by omega)
                    have g3778 : vp_in r15 18 := inI (by omega) (by omega)
                    refine ⟨g3778, ?_⟩
                    refine ⟨fun c3779 => ?_, fun c3779 => ?_⟩
                    · have f3782 := congrArg Int32.toInt c3779
                      have f3784 := tB r3452
                      refine sX2_valueFor hN hσ3775 (fun r3798 σ3786 hσ3786 kk3797 p3799 => ?_)
                      obtain ⟨k3787, k3788, k3789, k3790, k3791, k3792, k3793, k3794, k3795, k3796⟩ := kk3797
                      refine ⟨fun c3800 => ?_, fun c3800 => ?_⟩
                      · have f3801 := tB (σ3786.1 3 11)
                        have f3803 := congrArg Int32.toInt c3800
                        have f3804 : (255 : Int32).toInt = 255 := by decide
                        have f3805 := tB r3798
                        refine sX1_setLocal hN hk1 hσ3786 (fun σ3806 hσ3806 kk3818 => ?_)
                        obtain ⟨k3807, k3808, k3809, k3810, k3811, k3812, k3813, k3814, k3815, k3816, k3817⟩ := kk3818
                        unfold fX2_doOrder_j174
                        exact hQ _ hσ3806 (⟨k3810.trans (k3789.trans ((kq (a := 9) (b := 9) eσ3775 (by omega)).trans (k3759.trans (k3443.trans ((kq (a := 9) (b := 9) eσ2285 (by omega)).trans (k6.trans ((kq (a := 9) (b := 9) eσ2 (by omega))))))))), k3811.trans (k3790.trans ((kq (a := 9) (b := 10) eσ3775 (by omega)).trans (k3760.trans (k3444.trans ((kq (a := 9) (b := 10) eσ2285 (by omega)).trans (k7.trans ((kq (a := 9) (b := 10) eσ2 (by omega))))))))), k3812.trans (k3791.trans ((kq (a := 6) (b := 5) eσ3775 (by omega)).trans (k3761.trans (k3445.trans ((kq (a := 6) (b := 5) eσ2285 (by omega)).trans (k8.trans ((kq (a := 6) (b := 5) eσ2 (by omega))))))))), k3813.trans (k3792.trans ((kq (a := 7) (b := 4) eσ3775 (by omega)).trans (k3762.trans (k3446.trans ((kq (a := 7) (b := 4) eσ2285 (by omega)).trans (k9.trans ((kq (a := 7) (b := 4) eσ2 (by omega))))))))), k3814.trans (k3793.trans ((kq (a := 2) (b := 4) eσ3775 (by omega)).trans (k3763.trans (k3447.trans ((kq (a := 2) (b := 4) eσ2285 (by omega)).trans (k10.trans ((kq (a := 2) (b := 4) eσ2 (by omega)))))))))⟩)
                      · have f3819 := tB (σ3786.1 3 11)
                        have f3821 := mt Int32.toInt_inj.mp c3800
                        unfold fX2_doOrder_j174
                        exact hQ _ hσ3786 (⟨k3789.trans ((kq (a := 9) (b := 9) eσ3775 (by omega)).trans (k3759.trans (k3443.trans ((kq (a := 9) (b := 9) eσ2285 (by omega)).trans (k6.trans ((kq (a := 9) (b := 9) eσ2 (by omega)))))))), k3790.trans ((kq (a := 9) (b := 10) eσ3775 (by omega)).trans (k3760.trans (k3444.trans ((kq (a := 9) (b := 10) eσ2285 (by omega)).trans (k7.trans ((kq (a := 9) (b := 10) eσ2 (by omega)))))))), k3791.trans ((kq (a := 6) (b := 5) eσ3775 (by omega)).trans (k3761.trans (k3445.trans ((kq (a := 6) (b := 5) eσ2285 (by omega)).trans (k8.trans ((kq (a := 6) (b := 5) eσ2 (by omega)))))))), k3792.trans ((kq (a := 7) (b := 4) eσ3775 (by omega)).trans (k3762.trans (k3446.trans ((kq (a := 7) (b := 4) eσ2285 (by omega)).trans (k9.trans ((kq (a := 7) (b := 4) eσ2 (by omega)))))))), k3793.trans ((kq (a := 2) (b := 4) eσ3775 (by omega)).trans (k3763.trans (k3447.trans ((kq (a := 2) (b := 4) eσ2285 (by omega)).trans (k10.trans ((kq (a := 2) (b := 4) eσ2 (by omega))))))))⟩)
                    · have f3824 := mt Int32.toInt_inj.mp c3779
                      have g3826 : vp_in r15 18 := inI (by omega) (by omega)
                      refine ⟨g3826, ?_⟩
                      refine ⟨fun c3827 => ?_, fun c3827 => ?_⟩
                      · have f3830 := congrArg Int32.toInt c3827
                        have f3832 := tB r3452
                        refine sX2_goesThere hN hσ3775 (fun r3847 p3848 => ?_)
                        refine ⟨fun c3849 => ?_, fun c3849 => ?_⟩
                        · have f3850 := tB r3847
                          have f3852 := congrArg Int32.toInt c3849
                          exact hQ _ hσ3775 (⟨(kq (a := 9) (b := 9) eσ3775 (by omega)).trans (k3759.trans (k3443.trans ((kq (a := 9) (b := 9) eσ2285 (by omega)).trans (k6.trans ((kq (a := 9) (b := 9) eσ2 (by omega))))))), (kq (a := 9) (b := 10) eσ3775 (by omega)).trans (k3760.trans (k3444.trans ((kq (a := 9) (b := 10) eσ2285 (by omega)).trans (k7.trans ((kq (a := 9) (b := 10) eσ2 (by omega))))))), (kq (a := 6) (b := 5) eσ3775 (by omega)).trans (k3761.trans (k3445.trans ((kq (a := 6) (b := 5) eσ2285 (by omega)).trans (k8.trans ((kq (a := 6) (b := 5) eσ2 (by omega))))))), (kq (a := 7) (b := 4) eσ3775 (by omega)).trans (k3762.trans (k3446.trans ((kq (a := 7) (b := 4) eσ2285 (by omega)).trans (k9.trans ((kq (a := 7) (b := 4) eσ2 (by omega))))))), (kq (a := 2) (b := 4) eσ3775 (by omega)).trans (k3763.trans (k3447.trans ((kq (a := 2) (b := 4) eσ2285 (by omega)).trans (k10.trans ((kq (a := 2) (b := 4) eσ2 (by omega)))))))⟩)
                        · have f3853 := tB r3847
                          have f3855 := mt Int32.toInt_inj.mp c3849
                          intro v3856 ev3856
                          intro σ3857 eσ3857
                          have kb3858 := jobK_b hk1
                          have hσ3857 : K1 σ0 σ3857 := by rw [eσ3857]; exact hσ3775.u (rg_jobK hk1) (by omega) (by omega)
                          exact hQ _ hσ3857 (⟨(kq (a := 9) (b := 9) eσ3857 (by omega)).trans ((kq (a := 9) (b := 9) eσ3775 (by omega)).trans (k3759.trans (k3443.trans ((kq (a := 9) (b := 9) eσ2285 (by omega)).trans (k6.trans ((kq (a := 9) (b := 9) eσ2 (by omega)))))))), (kq (a := 9) (b := 10) eσ3857 (by omega)).trans ((kq (a := 9) (b := 10) eσ3775 (by omega)).trans (k3760.trans (k3444.trans ((kq (a := 9) (b := 10) eσ2285 (by omega)).trans (k7.trans ((kq (a := 9) (b := 10) eσ2 (by omega)))))))), (kq (a := 6) (b := 5) eσ3857 (by omega)).trans ((kq (a := 6) (b := 5) eσ3775 (by omega)).trans (k3761.trans (k3445.trans ((kq (a := 6) (b := 5) eσ2285 (by omega)).trans (k8.trans ((kq (a := 6) (b := 5) eσ2 (by omega)))))))), (kq (a := 7) (b := 4) eσ3857 (by omega)).trans ((kq (a := 7) (b := 4) eσ3775 (by omega)).trans (k3762.trans (k3446.trans ((kq (a := 7) (b := 4) eσ2285 (by omega)).trans (k9.trans ((kq (a := 7) (b := 4) eσ2 (by omega)))))))), (kq (a := 2) (b := 4) eσ3857 (by omega)).trans ((kq (a := 2) (b := 4) eσ3775 (by omega)).trans (k3763.trans (k3447.trans ((kq (a := 2) (b := 4) eσ2285 (by omega)).trans (k10.trans ((kq (a := 2) (b := 4) eσ2 (by omega))))))))⟩)
                      · have f3861 := mt Int32.toInt_inj.mp c3827
                        have f3863 := tB r3452
                        have f3866 := K1.g_3_7 hσ3775
                        have q3867 : σ3775.1 3 7 = σ3756.1 3 7 := by rw [eσ3775]; exact congrFun (u1_ne (by omega)) 7
                        have f3868 := congrArg Int32.toInt q3867
                        have f3869 := K1.g_3_7 hσ3756
                        have f3870 := congrArg Int32.toInt k3757
                        have f3871 := K1.g_3_7 hσ3440
                        have f3872 := congrArg Int32.toInt k3441
                        have f3873 := K1.g_3_7 hσ2285
                        have q3874 : σ2285.1 3 7 = σ3.1 3 7 := by rw [eσ2285, u1_at]; exact if_neg (by decide)
                        have f3875 := congrArg Int32.toInt q3874
                        have f3876 := K1.g_3_7 hσ3
                        have f3877 := congrArg Int32.toInt k4
                        have f3878 := K1.g_3_7 hσ2
                        have q3879 : σ2.1 3 7 = σ.1 3 7 := by rw [eσ2, u1_at]; exact if_neg (by decide)
                        have f3880 := congrArg Int32.toInt q3879
                        have f3881 := K1.g_3_7 hσ
                        refine sX2_act hN hk1 (by omega) hσ3775 (fun σ3865 hσ3865 kk3887 => ?_)
                        obtain ⟨k3882, k3883, k3884, k3885, k3886⟩ := kk3887
                        exact hQ _ hσ3865 (⟨k3882.trans ((kq (a := 9) (b := 9) eσ3775 (by omega)).trans (k3759.trans (k3443.trans ((kq (a := 9) (b := 9) eσ2285 (by omega)).trans (k6.trans ((kq (a := 9) (b := 9) eσ2 (by omega)))))))), k3883.trans ((kq (a := 9) (b := 10) eσ3775 (by omega)).trans (k3760.trans (k3444.trans ((kq (a := 9) (b := 10) eσ2285 (by omega)).trans (k7.trans ((kq (a := 9) (b := 10) eσ2 (by omega)))))))), k3884.trans ((kq (a := 6) (b := 5) eσ3775 (by omega)).trans (k3761.trans (k3445.trans ((kq (a := 6) (b := 5) eσ2285 (by omega)).trans (k8.trans ((kq (a := 6) (b := 5) eσ2 (by omega)))))))), k3885.trans ((kq (a := 7) (b := 4) eσ3775 (by omega)).trans (k3762.trans (k3446.trans ((kq (a := 7) (b := 4) eσ2285 (by omega)).trans (k9.trans ((kq (a := 7) (b := 4) eσ2 (by omega)))))))), k3886.trans ((kq (a := 2) (b := 4) eσ3775 (by omega)).trans (k3763.trans (k3447.trans ((kq (a := 2) (b := 4) eσ2285 (by omega)).trans (k10.trans ((kq (a := 2) (b := 4) eσ2 (by omega))))))))⟩)
                  · have f3888 := tB (σ3756.1 3 11)
                    have f3890 := mt Int32.toInt_inj.mp c3770
                    exact hQ _ hσ3756 (⟨k3759.trans (k3443.trans ((kq (a := 9) (b := 9) eσ2285 (by omega)).trans (k6.trans ((kq (a := 9) (b := 9) eσ2 (by omega)))))), k3760.trans (k3444.trans ((kq (a := 9) (b := 10) eσ2285 (by omega)).trans (k7.trans ((kq (a := 9) (b := 10) eσ2 (by omega)))))), k3761.trans (k3445.trans ((kq (a := 6) (b := 5) eσ2285 (by omega)).trans (k8.trans ((kq (a := 6) (b := 5) eσ2 (by omega)))))), k3762.trans (k3446.trans ((kq (a := 7) (b := 4) eσ2285 (by omega)).trans (k9.trans ((kq (a := 7) (b := 4) eσ2 (by omega)))))), k3763.trans (k3447.trans ((kq (a := 2) (b := 4) eσ2285 (by omega)).trans (k10.trans ((kq (a := 2) (b := 4) eσ2 (by omega))))))⟩)
                · have f3892 : (2 : Int32).toInt = 2 := by decide
                  have f3893 := mt Int32.toInt_inj.mp c3752
                  unfold fX2_doOrder_j122
                  refine ⟨fun c3894 => ?_, fun c3894 => ?_⟩
                  · have f3895 := tB (σ3440.1 3 11)
                    have f3897 := congrArg Int32.toInt c3894
                    intro v3898 ev3898
                    intro σ3899 eσ3899
                    have kb3900 := jobK_b hk1
                    have hσ3899 : K1 σ0 σ3899 := by rw [eσ3899]; exact hσ3440.u (rg_jobK hk1) (by omega) (by omega)
                    have g3902 : vp_in r15 18 := inI (by omega) (by omega)
                    refine ⟨g3902, ?_⟩
                    refine ⟨fun c3903 => ?_, fun c3903 => ?_⟩
                    · have f3906 := congrArg Int32.toInt c3903
                      have f3908 := tB r3452
                      refine sX2_valueFor hN hσ3899 (fun r3922 σ3910 hσ3910 kk3921 p3923 => ?_)
                      obtain ⟨k3911, k3912, k3913, k3914, k3915, k3916, k3917, k3918, k3919, k3920⟩ := kk3921
                      refine ⟨fun c3924 => ?_, fun c3924 => ?_⟩
                      · have f3925 := tB (σ3910.1 3 11)
                        have f3927 := congrArg Int32.toInt c3924
                        have f3928 : (255 : Int32).toInt = 255 := by decide
                        have f3929 := tB r3922
                        refine sX1_setLocal hN hk1 hσ3910 (fun σ3930 hσ3930 kk3942 => ?_)
                        obtain ⟨k3931, k3932, k3933, k3934, k3935, k3936, k3937, k3938, k3939, k3940, k3941⟩ := kk3942
                        unfold fX2_doOrder_j174
                        exact hQ _ hσ3930 (⟨k3934.trans (k3913.trans ((kq (a := 9) (b := 9) eσ3899 (by omega)).trans (k3443.trans ((kq (a := 9) (b := 9) eσ2285 (by omega)).trans (k6.trans ((kq (a := 9) (b := 9) eσ2 (by omega)))))))), k3935.trans (k3914.trans ((kq (a := 9) (b := 10) eσ3899 (by omega)).trans (k3444.trans ((kq (a := 9) (b := 10) eσ2285 (by omega)).trans (k7.trans ((kq (a := 9) (b := 10) eσ2 (by omega)))))))), k3936.trans (k3915.trans ((kq (a := 6) (b := 5) eσ3899 (by omega)).trans (k3445.trans ((kq (a := 6) (b := 5) eσ2285 (by omega)).trans (k8.trans ((kq (a := 6) (b := 5) eσ2 (by omega)))))))), k3937.trans (k3916.trans ((kq (a := 7) (b := 4) eσ3899 (by omega)).trans (k3446.trans ((kq (a := 7) (b := 4) eσ2285 (by omega)).trans (k9.trans ((kq (a := 7) (b := 4) eσ2 (by omega)))))))), k3938.trans (k3917.trans ((kq (a := 2) (b := 4) eσ3899 (by omega)).trans (k3447.trans ((kq (a := 2) (b := 4) eσ2285 (by omega)).trans (k10.trans ((kq (a := 2) (b := 4) eσ2 (by omega))))))))⟩)
                      · have f3943 := tB (σ3910.1 3 11)
                        have f3945 := mt Int32.toInt_inj.mp c3924
                        unfold fX2_doOrder_j174
                        exact hQ _ hσ3910 (⟨k3913.trans ((kq (a := 9) (b := 9) eσ3899 (by omega)).trans (k3443.trans ((kq (a := 9) (b := 9) eσ2285 (by omega)).trans (k6.trans ((kq (a := 9) (b := 9) eσ2 (by omega))))))), k3914.trans ((kq (a := 9) (b := 10) eσ3899 (by omega)).trans (k3444.trans ((kq (a := 9) (b := 10) eσ2285 (by omega)).trans (k7.trans ((kq (a := 9) (b := 10) eσ2 (by omega))))))), k3915.trans ((kq (a := 6) (b := 5) eσ3899 (by omega)).trans (k3445.trans ((kq (a := 6) (b := 5) eσ2285 (by omega)).trans (k8.trans ((kq (a := 6) (b := 5) eσ2 (by omega))))))), k3916.trans ((kq (a := 7) (b := 4) eσ3899 (by omega)).trans (k3446.trans ((kq (a := 7) (b := 4) eσ2285 (by omega)).trans (k9.trans ((kq (a := 7) (b := 4) eσ2 (by omega))))))), k3917.trans ((kq (a := 2) (b := 4) eσ3899 (by omega)).trans (k3447.trans ((kq (a := 2) (b := 4) eσ2285 (by omega)).trans (k10.trans ((kq (a := 2) (b := 4) eσ2 (by omega)))))))⟩)
                    · have f3948 := mt Int32.toInt_inj.mp c3903
                      have g3950 : vp_in r15 18 := inI (by omega) (by omega)
                      refine ⟨g3950, ?_⟩
                      refine ⟨fun c3951 => ?_, fun c3951 => ?_⟩
                      · have f3954 := congrArg Int32.toInt c3951
                        have f3956 := tB r3452
                        refine sX2_goesThere hN hσ3899 (fun r3971 p3972 => ?_)
                        refine ⟨fun c3973 => ?_, fun c3973 => ?_⟩
                        · have f3974 := tB r3971
                          have f3976 := congrArg Int32.toInt c3973
                          exact hQ _ hσ3899 (⟨(kq (a := 9) (b := 9) eσ3899 (by omega)).trans (k3443.trans ((kq (a := 9) (b := 9) eσ2285 (by omega)).trans (k6.trans ((kq (a := 9) (b := 9) eσ2 (by omega)))))), (kq (a := 9) (b := 10) eσ3899 (by omega)).trans (k3444.trans ((kq (a := 9) (b := 10) eσ2285 (by omega)).trans (k7.trans ((kq (a := 9) (b := 10) eσ2 (by omega)))))), (kq (a := 6) (b := 5) eσ3899 (by omega)).trans (k3445.trans ((kq (a := 6) (b := 5) eσ2285 (by omega)).trans (k8.trans ((kq (a := 6) (b := 5) eσ2 (by omega)))))), (kq (a := 7) (b := 4) eσ3899 (by omega)).trans (k3446.trans ((kq (a := 7) (b := 4) eσ2285 (by omega)).trans (k9.trans ((kq (a := 7) (b := 4) eσ2 (by omega)))))), (kq (a := 2) (b := 4) eσ3899 (by omega)).trans (k3447.trans ((kq (a := 2) (b := 4) eσ2285 (by omega)).trans (k10.trans ((kq (a := 2) (b := 4) eσ2 (by omega))))))⟩)
                        · have f3977 := tB r3971
                          have f3979 := mt Int32.toInt_inj.mp c3973
                          intro v3980 ev3980
                          intro σ3981 eσ3981
                          have kb3982 := jobK_b hk1
                          have hσ3981 : K1 σ0 σ3981 := by rw [eσ3981]; exact hσ3899.u (rg_jobK hk1) (by omega) (by omega)
                          exact hQ _ hσ3981 (⟨(kq (a := 9) (b := 9) eσ3981 (by omega)).trans ((kq (a := 9) (b := 9) eσ3899 (by omega)).trans (k3443.trans ((kq (a := 9) (b := 9) eσ2285 (by omega)).trans (k6.trans ((kq (a := 9) (b := 9) eσ2 (by omega))))))), (kq (a := 9) (b := 10) eσ3981 (by omega)).trans ((kq (a := 9) (b := 10) eσ3899 (by omega)).trans (k3444.trans ((kq (a := 9) (b := 10) eσ2285 (by omega)).trans (k7.trans ((kq (a := 9) (b := 10) eσ2 (by omega))))))), (kq (a := 6) (b := 5) eσ3981 (by omega)).trans ((kq (a := 6) (b := 5) eσ3899 (by omega)).trans (k3445.trans ((kq (a := 6) (b := 5) eσ2285 (by omega)).trans (k8.trans ((kq (a := 6) (b := 5) eσ2 (by omega))))))), (kq (a := 7) (b := 4) eσ3981 (by omega)).trans ((kq (a := 7) (b := 4) eσ3899 (by omega)).trans (k3446.trans ((kq (a := 7) (b := 4) eσ2285 (by omega)).trans (k9.trans ((kq (a := 7) (b := 4) eσ2 (by omega))))))), (kq (a := 2) (b := 4) eσ3981 (by omega)).trans ((kq (a := 2) (b := 4) eσ3899 (by omega)).trans (k3447.trans ((kq (a := 2) (b := 4) eσ2285 (by omega)).trans (k10.trans ((kq (a := 2) (b := 4) eσ2 (by omega)))))))⟩)
                      · have f3985 := mt Int32.toInt_inj.mp c3951
                        have f3987 := tB r3452
                        have f3990 := K1.g_3_7 hσ3899
                        have q3991 : σ3899.1 3 7 = σ3440.1 3 7 := by rw [eσ3899]; exact congrFun (u1_ne (by omega)) 7
                        have f3992 := congrArg Int32.toInt q3991
                        have f3993 := K1.g_3_7 hσ3440
                        have f3994 := congrArg Int32.toInt k3441
                        have f3995 := K1.g_3_7 hσ2285
                        have q3996 : σ2285.1 3 7 = σ3.1 3 7 := by rw [eσ2285, u1_at]; exact if_neg (by decide)
                        have f3997 := congrArg Int32.toInt q3996
                        have f3998 := K1.g_3_7 hσ3
                        have f3999 := congrArg Int32.toInt k4
                        have f4000 := K1.g_3_7 hσ2
                        have q4001 : σ2.1 3 7 = σ.1 3 7 := by rw [eσ2, u1_at]; exact if_neg (by decide)
                        have f4002 := congrArg Int32.toInt q4001
                        have f4003 := K1.g_3_7 hσ
                        refine sX2_act hN hk1 (by omega) hσ3899 (fun σ3989 hσ3989 kk4009 => ?_)
                        obtain ⟨k4004, k4005, k4006, k4007, k4008⟩ := kk4009
                        exact hQ _ hσ3989 (⟨k4004.trans ((kq (a := 9) (b := 9) eσ3899 (by omega)).trans (k3443.trans ((kq (a := 9) (b := 9) eσ2285 (by omega)).trans (k6.trans ((kq (a := 9) (b := 9) eσ2 (by omega))))))), k4005.trans ((kq (a := 9) (b := 10) eσ3899 (by omega)).trans (k3444.trans ((kq (a := 9) (b := 10) eσ2285 (by omega)).trans (k7.trans ((kq (a := 9) (b := 10) eσ2 (by omega))))))), k4006.trans ((kq (a := 6) (b := 5) eσ3899 (by omega)).trans (k3445.trans ((kq (a := 6) (b := 5) eσ2285 (by omega)).trans (k8.trans ((kq (a := 6) (b := 5) eσ2 (by omega))))))), k4007.trans ((kq (a := 7) (b := 4) eσ3899 (by omega)).trans (k3446.trans ((kq (a := 7) (b := 4) eσ2285 (by omega)).trans (k9.trans ((kq (a := 7) (b := 4) eσ2 (by omega))))))), k4008.trans ((kq (a := 2) (b := 4) eσ3899 (by omega)).trans (k3447.trans ((kq (a := 2) (b := 4) eσ2285 (by omega)).trans (k10.trans ((kq (a := 2) (b := 4) eσ2 (by omega)))))))⟩)
                  · have f4010 := tB (σ3440.1 3 11)
                    have f4012 := mt Int32.toInt_inj.mp c3894
                    exact hQ _ hσ3440 (⟨k3443.trans ((kq (a := 9) (b := 9) eσ2285 (by omega)).trans (k6.trans ((kq (a := 9) (b := 9) eσ2 (by omega))))), k3444.trans ((kq (a := 9) (b := 10) eσ2285 (by omega)).trans (k7.trans ((kq (a := 9) (b := 10) eσ2 (by omega))))), k3445.trans ((kq (a := 6) (b := 5) eσ2285 (by omega)).trans (k8.trans ((kq (a := 6) (b := 5) eσ2 (by omega))))), k3446.trans ((kq (a := 7) (b := 4) eσ2285 (by omega)).trans (k9.trans ((kq (a := 7) (b := 4) eσ2 (by omega))))), k3447.trans ((kq (a := 2) (b := 4) eσ2285 (by omega)).trans (k10.trans ((kq (a := 2) (b := 4) eσ2 (by omega)))))⟩)
            · have f4014 : (1 : Int32).toInt = 1 := by decide
              have f4015 := mt Int32.le_iff_toInt_le.mpr c3456
              refine sX2_nextValue hN hk1 hσ3440 (fun r4028 σ4016 hσ4016 kk4027 p4029 => ?_)
              obtain ⟨k4017, k4018, k4019, k4020, k4021, k4022, k4023, k4024, k4025, k4026⟩ := kk4027
              unfold fX2_doOrder_j81
              have g4031 : vp_in r15 18 := inI (by omega) (by omega)
              refine ⟨g4031, ?_⟩
              refine ⟨fun c4032 => ?_, fun c4032 => ?_⟩
              · have f4033 := tB (jT r15.toNatClampNeg)
                have f4035 := congrArg Int32.toInt c4032
                refine sX2_nextTarget hN hk1 hσ4016 (fun r4048 σ4036 hσ4036 kk4047 p4049 => ?_)
                obtain ⟨k4037, k4038, k4039, k4040, k4041, k4042, k4043, k4044, k4045, k4046⟩ := kk4047
                unfold fX2_doOrder_j103
                have g4051 : vp_in r15 18 := inI (by omega) (by omega)
                refine ⟨g4051, ?_⟩
                refine ⟨fun c4052 => ?_, fun c4052 => ?_⟩
                · have f4054 : (2 : Int32).toInt = 2 := by decide
                  have f4055 := congrArg Int32.toInt c4052
                  refine sX2_nextDistance hN hσ4036 (fun r4068 σ4056 hσ4056 kk4067 p4069 => ?_)
                  obtain ⟨k4057, k4058, k4059, k4060, k4061, k4062, k4063, k4064, k4065, k4066⟩ := kk4067
                  unfold fX2_doOrder_j122
                  refine ⟨fun c4070 => ?_, fun c4070 => ?_⟩
                  · have f4071 := tB (σ4056.1 3 11)
                    have f4073 := congrArg Int32.toInt c4070
                    intro v4074 ev4074
                    intro σ4075 eσ4075
                    have kb4076 := jobK_b hk1
                    have hσ4075 : K1 σ0 σ4075 := by rw [eσ4075]; exact hσ4056.u (rg_jobK hk1) (by omega) (by omega)
                    have g4078 : vp_in r15 18 := inI (by omega) (by omega)
                    refine ⟨g4078, ?_⟩
                    refine ⟨fun c4079 => ?_, fun c4079 => ?_⟩
                    · have f4082 := congrArg Int32.toInt c4079
                      have f4084 := tB r3452
                      have f4085 := tB r4028
                      refine sX2_valueFor hN hσ4075 (fun r4098 σ4086 hσ4086 kk4097 p4099 => ?_)
                      obtain ⟨k4087, k4088, k4089, k4090, k4091, k4092, k4093, k4094, k4095, k4096⟩ := kk4097
                      refine ⟨fun c4100 => ?_, fun c4100 => ?_⟩
                      · have f4101 := tB (σ4086.1 3 11)
                        have f4103 := congrArg Int32.toInt c4100
                        have f4104 := tB r4048
                        have f4105 := tB r4098
                        refine sX1_setLocal hN hk1 hσ4086 (fun σ4106 hσ4106 kk4118 => ?_)
                        obtain ⟨k4107, k4108, k4109, k4110, k4111, k4112, k4113, k4114, k4115, k4116, k4117⟩ := kk4118
                        unfold fX2_doOrder_j174
                        exact hQ _ hσ4106 (⟨k4110.trans (k4089.trans ((kq (a := 9) (b := 9) eσ4075 (by omega)).trans (k4059.trans (k4039.trans (k4019.trans (k3443.trans ((kq (a := 9) (b := 9) eσ2285 (by omega)).trans (k6.trans ((kq (a := 9) (b := 9) eσ2 (by omega))))))))))), k4111.trans (k4090.trans ((kq (a := 9) (b := 10) eσ4075 (by omega)).trans (k4060.trans (k4040.trans (k4020.trans (k3444.trans ((kq (a := 9) (b := 10) eσ2285 (by omega)).trans (k7.trans ((kq (a := 9) (b := 10) eσ2 (by omega))))))))))), k4112.trans (k4091.trans ((kq (a := 6) (b := 5) eσ4075 (by omega)).trans (k4061.trans (k4041.trans (k4021.trans (k3445.trans ((kq (a := 6) (b := 5) eσ2285 (by omega)).trans (k8.trans ((kq (a := 6) (b := 5) eσ2 (by omega))))))))))), k4113.trans (k4092.trans ((kq (a := 7) (b := 4) eσ4075 (by omega)).trans (k4062.trans (k4042.trans (k4022.trans (k3446.trans ((kq (a := 7) (b := 4) eσ2285 (by omega)).trans (k9.trans ((kq (a := 7) (b := 4) eσ2 (by omega))))))))))), k4114.trans (k4093.trans ((kq (a := 2) (b := 4) eσ4075 (by omega)).trans (k4063.trans (k4043.trans (k4023.trans (k3447.trans ((kq (a := 2) (b := 4) eσ2285 (by omega)).trans (k10.trans ((kq (a := 2) (b := 4) eσ2 (by omega)))))))))))⟩)
                      · have f4119 := tB (σ4086.1 3 11)
                        have f4121 := mt Int32.toInt_inj.mp c4100
                        unfold fX2_doOrder_j174
                        exact hQ _ hσ4086 (⟨k4089.trans ((kq (a := 9) (b := 9) eσ4075 (by omega)).trans (k4059.trans (k4039.trans (k4019.trans (k3443.trans ((kq (a := 9) (b := 9) eσ2285 (by omega)).trans (k6.trans ((kq (a := 9) (b := 9) eσ2 (by omega)))))))))), k4090.trans ((kq (a := 9) (b := 10) eσ4075 (by omega)).trans (k4060.trans (k4040.trans (k4020.trans (k3444.trans ((kq (a := 9) (b := 10) eσ2285 (by omega)).trans (k7.trans ((kq (a := 9) (b := 10) eσ2 (by omega)))))))))), k4091.trans ((kq (a := 6) (b := 5) eσ4075 (by omega)).trans (k4061.trans (k4041.trans (k4021.trans (k3445.trans ((kq (a := 6) (b := 5) eσ2285 (by omega)).trans (k8.trans ((kq (a := 6) (b := 5) eσ2 (by omega)))))))))), k4092.trans ((kq (a := 7) (b := 4) eσ4075 (by omega)).trans (k4062.trans (k4042.trans (k4022.trans (k3446.trans ((kq (a := 7) (b := 4) eσ2285 (by omega)).trans (k9.trans ((kq (a := 7) (b := 4) eσ2 (by omega)))))))))), k4093.trans ((kq (a := 2) (b := 4) eσ4075 (by omega)).trans (k4063.trans (k4043.trans (k4023.trans (k3447.trans ((kq (a := 2) (b := 4) eσ2285 (by omega)).trans (k10.trans ((kq (a := 2) (b := 4) eσ2 (by omega))))))))))⟩)
                    · have f4124 := mt Int32.toInt_inj.mp c4079
                      have g4126 : vp_in r15 18 := inI (by omega) (by omega)
                      refine ⟨g4126, ?_⟩
                      refine ⟨fun c4127 => ?_, fun c4127 => ?_⟩
                      · have f4130 := congrArg Int32.toInt c4127
                        have f4132 := tB r3452
                        have f4133 := tB r4028
                        refine sX2_goesThere hN hσ4075 (fun r4147 p4148 => ?_)
                        refine ⟨fun c4149 => ?_, fun c4149 => ?_⟩
                        · have f4150 := tB r4147
                          have f4152 := congrArg Int32.toInt c4149
                          exact hQ _ hσ4075 (⟨(kq (a := 9) (b := 9) eσ4075 (by omega)).trans (k4059.trans (k4039.trans (k4019.trans (k3443.trans ((kq (a := 9) (b := 9) eσ2285 (by omega)).trans (k6.trans ((kq (a := 9) (b := 9) eσ2 (by omega))))))))), (kq (a := 9) (b := 10) eσ4075 (by omega)).trans (k4060.trans (k4040.trans (k4020.trans (k3444.trans ((kq (a := 9) (b := 10) eσ2285 (by omega)).trans (k7.trans ((kq (a := 9) (b := 10) eσ2 (by omega))))))))), (kq (a := 6) (b := 5) eσ4075 (by omega)).trans (k4061.trans (k4041.trans (k4021.trans (k3445.trans ((kq (a := 6) (b := 5) eσ2285 (by omega)).trans (k8.trans ((kq (a := 6) (b := 5) eσ2 (by omega))))))))), (kq (a := 7) (b := 4) eσ4075 (by omega)).trans (k4062.trans (k4042.trans (k4022.trans (k3446.trans ((kq (a := 7) (b := 4) eσ2285 (by omega)).trans (k9.trans ((kq (a := 7) (b := 4) eσ2 (by omega))))))))), (kq (a := 2) (b := 4) eσ4075 (by omega)).trans (k4063.trans (k4043.trans (k4023.trans (k3447.trans ((kq (a := 2) (b := 4) eσ2285 (by omega)).trans (k10.trans ((kq (a := 2) (b := 4) eσ2 (by omega)))))))))⟩)
                        · have f4153 := tB r4147
                          have f4155 := mt Int32.toInt_inj.mp c4149
                          intro v4156 ev4156
                          intro σ4157 eσ4157
                          have kb4158 := jobK_b hk1
                          have hσ4157 : K1 σ0 σ4157 := by rw [eσ4157]; exact hσ4075.u (rg_jobK hk1) (by omega) (by omega)
                          exact hQ _ hσ4157 (⟨(kq (a := 9) (b := 9) eσ4157 (by omega)).trans ((kq (a := 9) (b := 9) eσ4075 (by omega)).trans (k4059.trans (k4039.trans (k4019.trans (k3443.trans ((kq (a := 9) (b := 9) eσ2285 (by omega)).trans (k6.trans ((kq (a := 9) (b := 9) eσ2 (by omega)))))))))), (kq (a := 9) (b := 10) eσ4157 (by omega)).trans ((kq (a := 9) (b := 10) eσ4075 (by omega)).trans (k4060.trans (k4040.trans (k4020.trans (k3444.trans ((kq (a := 9) (b := 10) eσ2285 (by omega)).trans (k7.trans ((kq (a := 9) (b := 10) eσ2 (by omega)))))))))), (kq (a := 6) (b := 5) eσ4157 (by omega)).trans ((kq (a := 6) (b := 5) eσ4075 (by omega)).trans (k4061.trans (k4041.trans (k4021.trans (k3445.trans ((kq (a := 6) (b := 5) eσ2285 (by omega)).trans (k8.trans ((kq (a := 6) (b := 5) eσ2 (by omega)))))))))), (kq (a := 7) (b := 4) eσ4157 (by omega)).trans ((kq (a := 7) (b := 4) eσ4075 (by omega)).trans (k4062.trans (k4042.trans (k4022.trans (k3446.trans ((kq (a := 7) (b := 4) eσ2285 (by omega)).trans (k9.trans ((kq (a := 7) (b := 4) eσ2 (by omega)))))))))), (kq (a := 2) (b := 4) eσ4157 (by omega)).trans ((kq (a := 2) (b := 4) eσ4075 (by omega)).trans (k4063.trans (k4043.trans (k4023.trans (k3447.trans ((kq (a := 2) (b := 4) eσ2285 (by omega)).trans (k10.trans ((kq (a := 2) (b := 4) eσ2 (by omega))))))))))⟩)
                      · have f4161 := mt Int32.toInt_inj.mp c4127
                        have f4163 := tB r3452
                        have f4164 := tB r4028
                        have f4166 := K1.g_3_7 hσ4075
                        have q4167 : σ4075.1 3 7 = σ4056.1 3 7 := by rw [eσ4075]; exact congrFun (u1_ne (by omega)) 7
                        have f4168 := congrArg Int32.toInt q4167
                        have f4169 := K1.g_3_7 hσ4056
                        have f4170 := congrArg Int32.toInt k4057
                        have f4171 := K1.g_3_7 hσ4036
                        have f4172 := congrArg Int32.toInt k4037
                        have f4173 := K1.g_3_7 hσ4016
                        have f4174 := congrArg Int32.toInt k4017
                        have f4175 := K1.g_3_7 hσ3440
                        have f4176 := congrArg Int32.toInt k3441
                        have f4177 := K1.g_3_7 hσ2285
                        have q4178 : σ2285.1 3 7 = σ3.1 3 7 := by rw [eσ2285, u1_at]; exact if_neg (by decide)
                        have f4179 := congrArg Int32.toInt q4178
                        have f4180 := K1.g_3_7 hσ3
                        have f4181 := congrArg Int32.toInt k4
                        have f4182 := K1.g_3_7 hσ2
                        have q4183 : σ2.1 3 7 = σ.1 3 7 := by rw [eσ2, u1_at]; exact if_neg (by decide)
                        have f4184 := congrArg Int32.toInt q4183
                        have f4185 := K1.g_3_7 hσ
                        refine sX2_act hN hk1 (by omega) hσ4075 (fun σ4165 hσ4165 kk4191 => ?_)
                        obtain ⟨k4186, k4187, k4188, k4189, k4190⟩ := kk4191
                        exact hQ _ hσ4165 (⟨k4186.trans ((kq (a := 9) (b := 9) eσ4075 (by omega)).trans (k4059.trans (k4039.trans (k4019.trans (k3443.trans ((kq (a := 9) (b := 9) eσ2285 (by omega)).trans (k6.trans ((kq (a := 9) (b := 9) eσ2 (by omega)))))))))), k4187.trans ((kq (a := 9) (b := 10) eσ4075 (by omega)).trans (k4060.trans (k4040.trans (k4020.trans (k3444.trans ((kq (a := 9) (b := 10) eσ2285 (by omega)).trans (k7.trans ((kq (a := 9) (b := 10) eσ2 (by omega)))))))))), k4188.trans ((kq (a := 6) (b := 5) eσ4075 (by omega)).trans (k4061.trans (k4041.trans (k4021.trans (k3445.trans ((kq (a := 6) (b := 5) eσ2285 (by omega)).trans (k8.trans ((kq (a := 6) (b := 5) eσ2 (by omega)))))))))), k4189.trans ((kq (a := 7) (b := 4) eσ4075 (by omega)).trans (k4062.trans (k4042.trans (k4022.trans (k3446.trans ((kq (a := 7) (b := 4) eσ2285 (by omega)).trans (k9.trans ((kq (a := 7) (b := 4) eσ2 (by omega)))))))))), k4190.trans ((kq (a := 2) (b := 4) eσ4075 (by omega)).trans (k4063.trans (k4043.trans (k4023.trans (k3447.trans ((kq (a := 2) (b := 4) eσ2285 (by omega)).trans (k10.trans ((kq (a := 2) (b := 4) eσ2 (by omega))))))))))⟩)
                  · have f4192 := tB (σ4056.1 3 11)
                    have f4194 := mt Int32.toInt_inj.mp c4070
                    exact hQ _ hσ4056 (⟨k4059.trans (k4039.trans (k4019.trans (k3443.trans ((kq (a := 9) (b := 9) eσ2285 (by omega)).trans (k6.trans ((kq (a := 9) (b := 9) eσ2 (by omega)))))))), k4060.trans (k4040.trans (k4020.trans (k3444.trans ((kq (a := 9) (b := 10) eσ2285 (by omega)).trans (k7.trans ((kq (a := 9) (b := 10) eσ2 (by omega)))))))), k4061.trans (k4041.trans (k4021.trans (k3445.trans ((kq (a := 6) (b := 5) eσ2285 (by omega)).trans (k8.trans ((kq (a := 6) (b := 5) eσ2 (by omega)))))))), k4062.trans (k4042.trans (k4022.trans (k3446.trans ((kq (a := 7) (b := 4) eσ2285 (by omega)).trans (k9.trans ((kq (a := 7) (b := 4) eσ2 (by omega)))))))), k4063.trans (k4043.trans (k4023.trans (k3447.trans ((kq (a := 2) (b := 4) eσ2285 (by omega)).trans (k10.trans ((kq (a := 2) (b := 4) eσ2 (by omega))))))))⟩)
                · have f4196 : (2 : Int32).toInt = 2 := by decide
                  have f4197 := mt Int32.toInt_inj.mp c4052
                  unfold fX2_doOrder_j122
                  refine ⟨fun c4198 => ?_, fun c4198 => ?_⟩
                  · have f4199 := tB (σ4036.1 3 11)
                    have f4201 := congrArg Int32.toInt c4198
                    intro v4202 ev4202
                    intro σ4203 eσ4203
                    have kb4204 := jobK_b hk1
                    have hσ4203 : K1 σ0 σ4203 := by rw [eσ4203]; exact hσ4036.u (rg_jobK hk1) (by omega) (by omega)
                    have g4206 : vp_in r15 18 := inI (by omega) (by omega)
                    refine ⟨g4206, ?_⟩
                    refine ⟨fun c4207 => ?_, fun c4207 => ?_⟩
                    · have f4210 := congrArg Int32.toInt c4207
                      have f4212 := tB r3452
                      have f4213 := tB r4028
                      refine sX2_valueFor hN hσ4203 (fun r4226 σ4214 hσ4214 kk4225 p4227 => ?_)
                      obtain ⟨k4215, k4216, k4217, k4218, k4219, k4220, k4221, k4222, k4223, k4224⟩ := kk4225
                      refine ⟨fun c4228 => ?_, fun c4228 => ?_⟩
                      · have f4229 := tB (σ4214.1 3 11)
                        have f4231 := congrArg Int32.toInt c4228
                        have f4232 := tB r4048
                        have f4233 := tB r4226
                        refine sX1_setLocal hN hk1 hσ4214 (fun σ4234 hσ4234 kk4246 => ?_)
                        obtain ⟨k4235, k4236, k4237, k4238, k4239, k4240, k4241, k4242, k4243, k4244, k4245⟩ := kk4246
                        unfold fX2_doOrder_j174
                        exact hQ _ hσ4234 (⟨k4238.trans (k4217.trans ((kq (a := 9) (b := 9) eσ4203 (by omega)).trans (k4039.trans (k4019.trans (k3443.trans ((kq (a := 9) (b := 9) eσ2285 (by omega)).trans (k6.trans ((kq (a := 9) (b := 9) eσ2 (by omega)))))))))), k4239.trans (k4218.trans ((kq (a := 9) (b := 10) eσ4203 (by omega)).trans (k4040.trans (k4020.trans (k3444.trans ((kq (a := 9) (b := 10) eσ2285 (by omega)).trans (k7.trans ((kq (a := 9) (b := 10) eσ2 (by omega)))))))))), k4240.trans (k4219.trans ((kq (a := 6) (b := 5) eσ4203 (by omega)).trans (k4041.trans (k4021.trans (k3445.trans ((kq (a := 6) (b := 5) eσ2285 (by omega)).trans (k8.trans ((kq (a := 6) (b := 5) eσ2 (by omega)))))))))), k4241.trans (k4220.trans ((kq (a := 7) (b := 4) eσ4203 (by omega)).trans (k4042.trans (k4022.trans (k3446.trans ((kq (a := 7) (b := 4) eσ2285 (by omega)).trans (k9.trans ((kq (a := 7) (b := 4) eσ2 (by omega)))))))))), k4242.trans (k4221.trans ((kq (a := 2) (b := 4) eσ4203 (by omega)).trans (k4043.trans (k4023.trans (k3447.trans ((kq (a := 2) (b := 4) eσ2285 (by omega)).trans (k10.trans ((kq (a := 2) (b := 4) eσ2 (by omega))))))))))⟩)
                      · have f4247 := tB (σ4214.1 3 11)
                        have f4249 := mt Int32.toInt_inj.mp c4228
                        unfold fX2_doOrder_j174
                        exact hQ _ hσ4214 (⟨k4217.trans ((kq (a := 9) (b := 9) eσ4203 (by omega)).trans (k4039.trans (k4019.trans (k3443.trans ((kq (a := 9) (b := 9) eσ2285 (by omega)).trans (k6.trans ((kq (a := 9) (b := 9) eσ2 (by omega))))))))), k4218.trans ((kq (a := 9) (b := 10) eσ4203 (by omega)).trans (k4040.trans (k4020.trans (k3444.trans ((kq (a := 9) (b := 10) eσ2285 (by omega)).trans (k7.trans ((kq (a := 9) (b := 10) eσ2 (by omega))))))))), k4219.trans ((kq (a := 6) (b := 5) eσ4203 (by omega)).trans (k4041.trans (k4021.trans (k3445.trans ((kq (a := 6) (b := 5) eσ2285 (by omega)).trans (k8.trans ((kq (a := 6) (b := 5) eσ2 (by omega))))))))), k4220.trans ((kq (a := 7) (b := 4) eσ4203 (by omega)).trans (k4042.trans (k4022.trans (k3446.trans ((kq (a := 7) (b := 4) eσ2285 (by omega)).trans (k9.trans ((kq (a := 7) (b := 4) eσ2 (by omega))))))))), k4221.trans ((kq (a := 2) (b := 4) eσ4203 (by omega)).trans (k4043.trans (k4023.trans (k3447.trans ((kq (a := 2) (b := 4) eσ2285 (by omega)).trans (k10.trans ((kq (a := 2) (b := 4) eσ2 (by omega)))))))))⟩)
                    · have f4252 := mt Int32.toInt_inj.mp c4207
                      have g4254 : vp_in r15 18 := inI (by omega) (by omega)
                      refine ⟨g4254, ?_⟩
                      refine ⟨fun c4255 => ?_, fun c4255 => ?_⟩
                      · have f4258 := congrArg Int32.toInt c4255
                        have f4260 := tB r3452
                        have f4261 := tB r4028
                        refine sX2_goesThere hN hσ4203 (fun r4275 p4276 => ?_)
                        refine ⟨fun c4277 => ?_, fun c4277 => ?_⟩
                        · have f4278 := tB r4275
                          have f4280 := congrArg Int32.toInt c4277
                          exact hQ _ hσ4203 (⟨(kq (a := 9) (b := 9) eσ4203 (by omega)).trans (k4039.trans (k4019.trans (k3443.trans ((kq (a := 9) (b := 9) eσ2285 (by omega)).trans (k6.trans ((kq (a := 9) (b := 9) eσ2 (by omega)))))))), (kq (a := 9) (b := 10) eσ4203 (by omega)).trans (k4040.trans (k4020.trans (k3444.trans ((kq (a := 9) (b := 10) eσ2285 (by omega)).trans (k7.trans ((kq (a := 9) (b := 10) eσ2 (by omega)))))))), (kq (a := 6) (b := 5) eσ4203 (by omega)).trans (k4041.trans (k4021.trans (k3445.trans ((kq (a := 6) (b := 5) eσ2285 (by omega)).trans (k8.trans ((kq (a := 6) (b := 5) eσ2 (by omega)))))))), (kq (a := 7) (b := 4) eσ4203 (by omega)).trans (k4042.trans (k4022.trans (k3446.trans ((kq (a := 7) (b := 4) eσ2285 (by omega)).trans (k9.trans ((kq (a := 7) (b := 4) eσ2 (by omega)))))))), (kq (a := 2) (b := 4) eσ4203 (by omega)).trans (k4043.trans (k4023.trans (k3447.trans ((kq (a := 2) (b := 4) eσ2285 (by omega)).trans (k10.trans ((kq (a := 2) (b := 4) eσ2 (by omega))))))))⟩)
                        · have f4281 := tB r4275
                          have f4283 := mt Int32.toInt_inj.mp c4277
                          intro v4284 ev4284
                          intro σ4285 eσ4285
                          have kb4286 := jobK_b hk1
                          have hσ4285 : K1 σ0 σ4285 := by rw [eσ4285]; exact hσ4203.u (rg_jobK hk1) (by omega) (by omega)
                          exact hQ _ hσ4285 (⟨(kq (a := 9) (b := 9) eσ4285 (by omega)).trans ((kq (a := 9) (b := 9) eσ4203 (by omega)).trans (k4039.trans (k4019.trans (k3443.trans ((kq (a := 9) (b := 9) eσ2285 (by omega)).trans (k6.trans ((kq (a := 9) (b := 9) eσ2 (by omega))))))))), (kq (a := 9) (b := 10) eσ4285 (by omega)).trans ((kq (a := 9) (b := 10) eσ4203 (by omega)).trans (k4040.trans (k4020.trans (k3444.trans ((kq (a := 9) (b := 10) eσ2285 (by omega)).trans (k7.trans ((kq (a := 9) (b := 10) eσ2 (by omega))))))))), (kq (a := 6) (b := 5) eσ4285 (by omega)).trans ((kq (a := 6) (b := 5) eσ4203 (by omega)).trans (k4041.trans (k4021.trans (k3445.trans ((kq (a := 6) (b := 5) eσ2285 (by omega)).trans (k8.trans ((kq (a := 6) (b := 5) eσ2 (by omega))))))))), (kq (a := 7) (b := 4) eσ4285 (by omega)).trans ((kq (a := 7) (b := 4) eσ4203 (by omega)).trans (k4042.trans (k4022.trans (k3446.trans ((kq (a := 7) (b := 4) eσ2285 (by omega)).trans (k9.trans ((kq (a := 7) (b := 4) eσ2 (by omega))))))))), (kq (a := 2) (b := 4) eσ4285 (by omega)).trans ((kq (a := 2) (b := 4) eσ4203 (by omega)).trans (k4043.trans (k4023.trans (k3447.trans ((kq (a := 2) (b := 4) eσ2285 (by omega)).trans (k10.trans ((kq (a := 2) (b := 4) eσ2 (by omega)))))))))⟩)
                      · have f4289 := mt Int32.toInt_inj.mp c4255
                        have f4291 := tB r3452
                        have f4292 := tB r4028
                        have f4294 := K1.g_3_7 hσ4203
                        have q4295 : σ4203.1 3 7 = σ4036.1 3 7 := by rw [eσ4203]; exact congrFun (u1_ne (by omega)) 7
                        have f4296 := congrArg Int32.toInt q4295
                        have f4297 := K1.g_3_7 hσ4036
                        have f4298 := congrArg Int32.toInt k4037
                        have f4299 := K1.g_3_7 hσ4016
                        have f4300 := congrArg Int32.toInt k4017
                        have f4301 := K1.g_3_7 hσ3440
                        have f4302 := congrArg Int32.toInt k3441
                        have f4303 := K1.g_3_7 hσ2285
                        have q4304 : σ2285.1 3 7 = σ3.1 3 7 := by rw [eσ2285, u1_at]; exact if_neg (by decide)
                        have f4305 := congrArg Int32.toInt q4304
                        have f4306 := K1.g_3_7 hσ3
                        have f4307 := congrArg Int32.toInt k4
                        have f4308 := K1.g_3_7 hσ2
                        have q4309 : σ2.1 3 7 = σ.1 3 7 := by rw [eσ2, u1_at]; exact if_neg (by decide)
                        have f4310 := congrArg Int32.toInt q4309
                        have f4311 := K1.g_3_7 hσ
                        refine sX2_act hN hk1 (by omega) hσ4203 (fun σ4293 hσ4293 kk4317 => ?_)
                        obtain ⟨k4312, k4313, k4314, k4315, k4316⟩ := kk4317
                        exact hQ _ hσ4293 (⟨k4312.trans ((kq (a := 9) (b := 9) eσ4203 (by omega)).trans (k4039.trans (k4019.trans (k3443.trans ((kq (a := 9) (b := 9) eσ2285 (by omega)).trans (k6.trans ((kq (a := 9) (b := 9) eσ2 (by omega))))))))), k4313.trans ((kq (a := 9) (b := 10) eσ4203 (by omega)).trans (k4040.trans (k4020.trans (k3444.trans ((kq (a := 9) (b := 10) eσ2285 (by omega)).trans (k7.trans ((kq (a := 9) (b := 10) eσ2 (by omega))))))))), k4314.trans ((kq (a := 6) (b := 5) eσ4203 (by omega)).trans (k4041.trans (k4021.trans (k3445.trans ((kq (a := 6) (b := 5) eσ2285 (by omega)).trans (k8.trans ((kq (a := 6) (b := 5) eσ2 (by omega))))))))), k4315.trans ((kq (a := 7) (b := 4) eσ4203 (by omega)).trans (k4042.trans (k4022.trans (k3446.trans ((kq (a := 7) (b := 4) eσ2285 (by omega)).trans (k9.trans ((kq (a := 7) (b := 4) eσ2 (by omega))))))))), k4316.trans ((kq (a := 2) (b := 4) eσ4203 (by omega)).trans (k4043.trans (k4023.trans (k3447.trans ((kq (a := 2) (b := 4) eσ2285 (by omega)).trans (k10.trans ((kq (a := 2) (b := 4) eσ2 (by omega)))))))))⟩)
                  · have f4318 := tB (σ4036.1 3 11)
                    have f4320 := mt Int32.toInt_inj.mp c4198
                    exact hQ _ hσ4036 (⟨k4039.trans (k4019.trans (k3443.trans ((kq (a := 9) (b := 9) eσ2285 (by omega)).trans (k6.trans ((kq (a := 9) (b := 9) eσ2 (by omega))))))), k4040.trans (k4020.trans (k3444.trans ((kq (a := 9) (b := 10) eσ2285 (by omega)).trans (k7.trans ((kq (a := 9) (b := 10) eσ2 (by omega))))))), k4041.trans (k4021.trans (k3445.trans ((kq (a := 6) (b := 5) eσ2285 (by omega)).trans (k8.trans ((kq (a := 6) (b := 5) eσ2 (by omega))))))), k4042.trans (k4022.trans (k3446.trans ((kq (a := 7) (b := 4) eσ2285 (by omega)).trans (k9.trans ((kq (a := 7) (b := 4) eσ2 (by omega))))))), k4043.trans (k4023.trans (k3447.trans ((kq (a := 2) (b := 4) eσ2285 (by omega)).trans (k10.trans ((kq (a := 2) (b := 4) eσ2 (by omega)))))))⟩)
              · have f4321 := tB (jT r15.toNatClampNeg)
                have f4323 := mt Int32.toInt_inj.mp c4032
                unfold fX2_doOrder_j103
                have g4325 : vp_in r15 18 := inI (by omega) (by omega)
                refine ⟨g4325, ?_⟩
                refine ⟨fun c4326 => ?_, fun c4326 => ?_⟩
                · have f4328 : (2 : Int32).toInt = 2 := by decide
                  have f4329 := congrArg Int32.toInt c4326
                  refine sX2_nextDistance hN hσ4016 (fun r4342 σ4330 hσ4330 kk4341 p4343 => ?_)
                  obtain ⟨k4331, k4332, k4333, k4334, k4335, k4336, k4337, k4338, k4339, k4340⟩ := kk4341
                  unfold fX2_doOrder_j122
                  refine ⟨fun c4344 => ?_, fun c4344 => ?_⟩
                  · have f4345 := tB (σ4330.1 3 11)
                    have f4347 := congrArg Int32.toInt c4344
                    intro v4348 ev4348
                    intro σ4349 eσ4349
                    have kb4350 := jobK_b hk1
                    have hσ4349 : K1 σ0 σ4349 := by rw [eσ4349]; exact hσ4330.u (rg_jobK hk1) (by omega) (by omega)
                    have g4352 : vp_in r15 18 := inI (by omega) (by omega)
                    refine ⟨g4352, ?_⟩
                    refine ⟨fun c4353 => ?_, fun c4353 => ?_⟩
                    · have f4356 := congrArg Int32.toInt c4353
                      have f4358 := tB r3452
                      have f4359 := tB r4028
                      refine sX2_valueFor hN hσ4349 (fun r4372 σ4360 hσ4360 kk4371 p4373 => ?_)
                      obtain ⟨k4361, k4362, k4363, k4364, k4365, k4366, k4367, k4368, k4369, k4370⟩ := kk4371
                      refine ⟨fun c4374 => ?_, fun c4374 => ?_⟩
                      · have f4375 := tB (σ4360.1 3 11)
                        have f4377 := congrArg Int32.toInt c4374
                        have f4378 : (255 : Int32).toInt = 255 := by decide
                        have f4379 := tB r4372
                        refine sX1_setLocal hN hk1 hσ4360 (fun σ4380 hσ4380 kk4392 => ?_)
                        obtain ⟨k4381, k4382, k4383, k4384, k4385, k4386, k4387, k4388, k4389, k4390, k4391⟩ := kk4392
                        unfold fX2_doOrder_j174
                        exact hQ _ hσ4380 (⟨k4384.trans (k4363.trans ((kq (a := 9) (b := 9) eσ4349 (by omega)).trans (k4333.trans (k4019.trans (k3443.trans ((kq (a := 9) (b := 9) eσ2285 (by omega)).trans (k6.trans ((kq (a := 9) (b := 9) eσ2 (by omega)))))))))), k4385.trans (k4364.trans ((kq (a := 9) (b := 10) eσ4349 (by omega)).trans (k4334.trans (k4020.trans (k3444.trans ((kq (a := 9) (b := 10) eσ2285 (by omega)).trans (k7.trans ((kq (a := 9) (b := 10) eσ2 (by omega)))))))))), k4386.trans (k4365.trans ((kq (a := 6) (b := 5) eσ4349 (by omega)).trans (k4335.trans (k4021.trans (k3445.trans ((kq (a := 6) (b := 5) eσ2285 (by omega)).trans (k8.trans ((kq (a := 6) (b := 5) eσ2 (by omega)))))))))), k4387.trans (k4366.trans ((kq (a := 7) (b := 4) eσ4349 (by omega)).trans (k4336.trans (k4022.trans (k3446.trans ((kq (a := 7) (b := 4) eσ2285 (by omega)).trans (k9.trans ((kq (a := 7) (b := 4) eσ2 (by omega)))))))))), k4388.trans (k4367.trans ((kq (a := 2) (b := 4) eσ4349 (by omega)).trans (k4337.trans (k4023.trans (k3447.trans ((kq (a := 2) (b := 4) eσ2285 (by omega)).trans (k10.trans ((kq (a := 2) (b := 4) eσ2 (by omega))))))))))⟩)
                      · have f4393 := tB (σ4360.1 3 11)
                        have f4395 := mt Int32.toInt_inj.mp c4374
                        unfold fX2_doOrder_j174
                        exact hQ _ hσ4360 (⟨k4363.trans ((kq (a := 9) (b := 9) eσ4349 (by omega)).trans (k4333.trans (k4019.trans (k3443.trans ((kq (a := 9) (b := 9) eσ2285 (by omega)).trans (k6.trans ((kq (a := 9) (b := 9) eσ2 (by omega))))))))), k4364.trans ((kq (a := 9) (b := 10) eσ4349 (by omega)).trans (k4334.trans (k4020.trans (k3444.trans ((kq (a := 9) (b := 10) eσ2285 (by omega)).trans (k7.trans ((kq (a := 9) (b := 10) eσ2 (by omega))))))))), k4365.trans ((kq (a := 6) (b := 5) eσ4349 (by omega)).trans (k4335.trans (k4021.trans (k3445.trans ((kq (a := 6) (b := 5) eσ2285 (by omega)).trans (k8.trans ((kq (a := 6) (b := 5) eσ2 (by omega))))))))), k4366.trans ((kq (a := 7) (b := 4) eσ4349 (by omega)).trans (k4336.trans (k4022.trans (k3446.trans ((kq (a := 7) (b := 4) eσ2285 (by omega)).trans (k9.trans ((kq (a := 7) (b := 4) eσ2 (by omega))))))))), k4367.trans ((kq (a := 2) (b := 4) eσ4349 (by omega)).trans (k4337.trans (k4023.trans (k3447.trans ((kq (a := 2) (b := 4) eσ2285 (by omega)).trans (k10.trans ((kq (a := 2) (b := 4) eσ2 (by omega)))))))))⟩)
                    · have f4398 := mt Int32.toInt_inj.mp c4353
                      have g4400 : vp_in r15 18 := inI (by omega) (by omega)
                      refine ⟨g4400, ?_⟩
                      refine ⟨fun c4401 => ?_, fun c4401 => ?_⟩
                      · have f4404 := congrArg Int32.toInt c4401
                        have f4406 := tB r3452
                        have f4407 := tB r4028
                        refine sX2_goesThere hN hσ4349 (fun r4421 p4422 => ?_)
                        refine ⟨fun c4423 => ?_, fun c4423 => ?_⟩
                        · have f4424 := tB r4421
                          have f4426 := congrArg Int32.toInt c4423
                          exact hQ _ hσ4349 (⟨(kq (a := 9) (b := 9) eσ4349 (by omega)).trans (k4333.trans (k4019.trans (k3443.trans ((kq (a := 9) (b := 9) eσ2285 (by omega)).trans (k6.trans ((kq (a := 9) (b := 9) eσ2 (by omega)))))))), (kq (a := 9) (b := 10) eσ4349 (by omega)).trans (k4334.trans (k4020.trans (k3444.trans ((kq (a := 9) (b := 10) eσ2285 (by omega)).trans (k7.trans ((kq (a := 9) (b := 10) eσ2 (by omega)))))))), (kq (a := 6) (b := 5) eσ4349 (by omega)).trans (k4335.trans (k4021.trans (k3445.trans ((kq (a := 6) (b := 5) eσ2285 (by omega)).trans (k8.trans ((kq (a := 6) (b := 5) eσ2 (by omega)))))))), (kq (a := 7) (b := 4) eσ4349 (by omega)).trans (k4336.trans (k4022.trans (k3446.trans ((kq (a := 7) (b := 4) eσ2285 (by omega)).trans (k9.trans ((kq (a := 7) (b := 4) eσ2 (by omega)))))))), (kq (a := 2) (b := 4) eσ4349 (by omega)).trans (k4337.trans (k4023.trans (k3447.trans ((kq (a := 2) (b := 4) eσ2285 (by omega)).trans (k10.trans ((kq (a := 2) (b := 4) eσ2 (by omega))))))))⟩)
                        · have f4427 := tB r4421
                          have f4429 := mt Int32.toInt_inj.mp c4423
                          intro v4430 ev4430
                          intro σ4431 eσ4431
                          have kb4432 := jobK_b hk1
                          have hσ4431 : K1 σ0 σ4431 := by rw [eσ4431]; exact hσ4349.u (rg_jobK hk1) (by omega) (by omega)
                          exact hQ _ hσ4431 (⟨(kq (a := 9) (b := 9) eσ4431 (by omega)).trans ((kq (a := 9) (b := 9) eσ4349 (by omega)).trans (k4333.trans (k4019.trans (k3443.trans ((kq (a := 9) (b := 9) eσ2285 (by omega)).trans (k6.trans ((kq (a := 9) (b := 9) eσ2 (by omega))))))))), (kq (a := 9) (b := 10) eσ4431 (by omega)).trans ((kq (a := 9) (b := 10) eσ4349 (by omega)).trans (k4334.trans (k4020.trans (k3444.trans ((kq (a := 9) (b := 10) eσ2285 (by omega)).trans (k7.trans ((kq (a := 9) (b := 10) eσ2 (by omega))))))))), (kq (a := 6) (b := 5) eσ4431 (by omega)).trans ((kq (a := 6) (b := 5) eσ4349 (by omega)).trans (k4335.trans (k4021.trans (k3445.trans ((kq (a := 6) (b := 5) eσ2285 (by omega)).trans (k8.trans ((kq (a := 6) (b := 5) eσ2 (by omega))))))))), (kq (a := 7) (b := 4) eσ4431 (by omega)).trans ((kq (a := 7) (b := 4) eσ4349 (by omega)).trans (k4336.trans (k4022.trans (k3446.trans ((kq (a := 7) (b := 4) eσ2285 (by omega)).trans (k9.trans ((kq (a := 7) (b := 4) eσ2 (by omega))))))))), (kq (a := 2) (b := 4) eσ4431 (by omega)).trans ((kq (a := 2) (b := 4) eσ4349 (by omega)).trans (k4337.trans (k4023.trans (k3447.trans ((kq (a := 2) (b := 4) eσ2285 (by omega)).trans (k10.trans ((kq (a := 2) (b := 4) eσ2 (by omega)))))))))⟩)
                      · have f4435 := mt Int32.toInt_inj.mp c4401
                        have f4437 := tB r3452
                        have f4438 := tB r4028
                        have f4440 := K1.g_3_7 hσ4349
                        have q4441 : σ4349.1 3 7 = σ4330.1 3 7 := by rw [eσ4349]; exact congrFun (u1_ne (by omega)) 7
                        have f4442 := congrArg Int32.toInt q4441
                        have f4443 := K1.g_3_7 hσ4330
                        have f4444 := congrArg Int32.toInt k4331
                        have f4445 := K1.g_3_7 hσ4016
                        have f4446 := congrArg Int32.toInt k4017
                        have f4447 := K1.g_3_7 hσ3440
                        have f4448 := congrArg Int32.toInt k3441
                        have f4449 := K1.g_3_7 hσ2285
                        have q4450 : σ2285.1 3 7 = σ3.1 3 7 := by rw [eσ2285, u1_at]; exact if_neg (by decide)
                        have f4451 := congrArg Int32.toInt q4450
                        have f4452 := K1.g_3_7 hσ3
                        have f4453 := congrArg Int32.toInt k4
                        have f4454 := K1.g_3_7 hσ2
                        have q4455 : σ2.1 3 7 = σ.1 3 7 := by rw [eσ2, u1_at]; exact if_neg (by decide)
                        have f4456 := congrArg Int32.toInt q4455
                        have f4457 := K1.g_3_7 hσ
                        refine sX2_act hN hk1 (by omega) hσ4349 (fun σ4439 hσ4439 kk4463 => ?_)
                        obtain ⟨k4458, k4459, k4460, k4461, k4462⟩ := kk4463
                        exact hQ _ hσ4439 (⟨k4458.trans ((kq (a := 9) (b := 9) eσ4349 (by omega)).trans (k4333.trans (k4019.trans (k3443.trans ((kq (a := 9) (b := 9) eσ2285 (by omega)).trans (k6.trans ((kq (a := 9) (b := 9) eσ2 (by omega))))))))), k4459.trans ((kq (a := 9) (b := 10) eσ4349 (by omega)).trans (k4334.trans (k4020.trans (k3444.trans ((kq (a := 9) (b := 10) eσ2285 (by omega)).trans (k7.trans ((kq (a := 9) (b := 10) eσ2 (by omega))))))))), k4460.trans ((kq (a := 6) (b := 5) eσ4349 (by omega)).trans (k4335.trans (k4021.trans (k3445.trans ((kq (a := 6) (b := 5) eσ2285 (by omega)).trans (k8.trans ((kq (a := 6) (b := 5) eσ2 (by omega))))))))), k4461.trans ((kq (a := 7) (b := 4) eσ4349 (by omega)).trans (k4336.trans (k4022.trans (k3446.trans ((kq (a := 7) (b := 4) eσ2285 (by omega)).trans (k9.trans ((kq (a := 7) (b := 4) eσ2 (by omega))))))))), k4462.trans ((kq (a := 2) (b := 4) eσ4349 (by omega)).trans (k4337.trans (k4023.trans (k3447.trans ((kq (a := 2) (b := 4) eσ2285 (by omega)).trans (k10.trans ((kq (a := 2) (b := 4) eσ2 (by omega)))))))))⟩)
                  · have f4464 := tB (σ4330.1 3 11)
                    have f4466 := mt Int32.toInt_inj.mp c4344
                    exact hQ _ hσ4330 (⟨k4333.trans (k4019.trans (k3443.trans ((kq (a := 9) (b := 9) eσ2285 (by omega)).trans (k6.trans ((kq (a := 9) (b := 9) eσ2 (by omega))))))), k4334.trans (k4020.trans (k3444.trans ((kq (a := 9) (b := 10) eσ2285 (by omega)).trans (k7.trans ((kq (a := 9) (b := 10) eσ2 (by omega))))))), k4335.trans (k4021.trans (k3445.trans ((kq (a := 6) (b := 5) eσ2285 (by omega)).trans (k8.trans ((kq (a := 6) (b := 5) eσ2 (by omega))))))), k4336.trans (k4022.trans (k3446.trans ((kq (a := 7) (b := 4) eσ2285 (by omega)).trans (k9.trans ((kq (a := 7) (b := 4) eσ2 (by omega))))))), k4337.trans (k4023.trans (k3447.trans ((kq (a := 2) (b := 4) eσ2285 (by omega)).trans (k10.trans ((kq (a := 2) (b := 4) eσ2 (by omega)))))))⟩)
                · have f4468 : (2 : Int32).toInt = 2 := by decide
                  have f4469 := mt Int32.toInt_inj.mp c4326
                  unfold fX2_doOrder_j122
                  refine ⟨fun c4470 => ?_, fun c4470 => ?_⟩
                  · have f4471 := tB (σ4016.1 3 11)
                    have f4473 := congrArg Int32.toInt c4470
                    intro v4474 ev4474
                    intro σ4475 eσ4475
                    have kb4476 := jobK_b hk1
                    have hσ4475 : K1 σ0 σ4475 := by rw [eσ4475]; exact hσ4016.u (rg_jobK hk1) (by omega) (by omega)
                    have g4478 : vp_in r15 18 := inI (by omega) (by omega)
                    refine ⟨g4478, ?_⟩
                    refine ⟨fun c4479 => ?_, fun c4479 => ?_⟩
                    · have f4482 := congrArg Int32.toInt c4479
                      have f4484 := tB r3452
                      have f4485 := tB r4028
                      refine sX2_valueFor hN hσ4475 (fun r4498 σ4486 hσ4486 kk4497 p4499 => ?_)
                      obtain ⟨k4487, k4488, k4489, k4490, k4491, k4492, k4493, k4494, k4495, k4496⟩ := kk4497
                      refine ⟨fun c4500 => ?_, fun c4500 => ?_⟩
                      · have f4501 := tB (σ4486.1 3 11)
                        have f4503 := congrArg Int32.toInt c4500
                        have f4504 : (255 : Int32).toInt = 255 := by decide
                        have f4505 := tB r4498
                        refine sX1_setLocal hN hk1 hσ4486 (fun σ4506 hσ4506 kk4518 => ?_)
                        obtain ⟨k4507, k4508, k4509, k4510, k4511, k4512, k4513, k4514, k4515, k4516, k4517⟩ := kk4518
                        unfold fX2_doOrder_j174
                        exact hQ _ hσ4506 (⟨k4510.trans (k4489.trans ((kq (a := 9) (b := 9) eσ4475 (by omega)).trans (k4019.trans (k3443.trans ((kq (a := 9) (b := 9) eσ2285 (by omega)).trans (k6.trans ((kq (a := 9) (b := 9) eσ2 (by omega))))))))), k4511.trans (k4490.trans ((kq (a := 9) (b := 10) eσ4475 (by omega)).trans (k4020.trans (k3444.trans ((kq (a := 9) (b := 10) eσ2285 (by omega)).trans (k7.trans ((kq (a := 9) (b := 10) eσ2 (by omega))))))))), k4512.trans (k4491.trans ((kq (a := 6) (b := 5) eσ4475 (by omega)).trans (k4021.trans (k3445.trans ((kq (a := 6) (b := 5) eσ2285 (by omega)).trans (k8.trans ((kq (a := 6) (b := 5) eσ2 (by omega))))))))), k4513.trans (k4492.trans ((kq (a := 7) (b := 4) eσ4475 (by omega)).trans (k4022.trans (k3446.trans ((kq (a := 7) (b := 4) eσ2285 (by omega)).trans (k9.trans ((kq (a := 7) (b := 4) eσ2 (by omega))))))))), k4514.trans (k4493.trans ((kq (a := 2) (b := 4) eσ4475 (by omega)).trans (k4023.trans (k3447.trans ((kq (a := 2) (b := 4) eσ2285 (by omega)).trans (k10.trans ((kq (a := 2) (b := 4) eσ2 (by omega)))))))))⟩)
                      · have f4519 := tB (σ4486.1 3 11)
                        have f4521 := mt Int32.toInt_inj.mp c4500
                        unfold fX2_doOrder_j174
                        exact hQ _ hσ4486 (⟨k4489.trans ((kq (a := 9) (b := 9) eσ4475 (by omega)).trans (k4019.trans (k3443.trans ((kq (a := 9) (b := 9) eσ2285 (by omega)).trans (k6.trans ((kq (a := 9) (b := 9) eσ2 (by omega)))))))), k4490.trans ((kq (a := 9) (b := 10) eσ4475 (by omega)).trans (k4020.trans (k3444.trans ((kq (a := 9) (b := 10) eσ2285 (by omega)).trans (k7.trans ((kq (a := 9) (b := 10) eσ2 (by omega)))))))), k4491.trans ((kq (a := 6) (b := 5) eσ4475 (by omega)).trans (k4021.trans (k3445.trans ((kq (a := 6) (b := 5) eσ2285 (by omega)).trans (k8.trans ((kq (a := 6) (b := 5) eσ2 (by omega)))))))), k4492.trans ((kq (a := 7) (b := 4) eσ4475 (by omega)).trans (k4022.trans (k3446.trans ((kq (a := 7) (b := 4) eσ2285 (by omega)).trans (k9.trans ((kq (a := 7) (b := 4) eσ2 (by omega)))))))), k4493.trans ((kq (a := 2) (b := 4) eσ4475 (by omega)).trans (k4023.trans (k3447.trans ((kq (a := 2) (b := 4) eσ2285 (by omega)).trans (k10.trans ((kq (a := 2) (b := 4) eσ2 (by omega))))))))⟩)
                    · have f4524 := mt Int32.toInt_inj.mp c4479
                      have g4526 : vp_in r15 18 := inI (by omega) (by omega)
                      refine ⟨g4526, ?_⟩
                      refine ⟨fun c4527 => ?_, fun c4527 => ?_⟩
                      · have f4530 := congrArg Int32.toInt c4527
                        have f4532 := tB r3452
                        have f4533 := tB r4028
                        refine sX2_goesThere hN hσ4475 (fun r4547 p4548 => ?_)
                        refine ⟨fun c4549 => ?_, fun c4549 => ?_⟩
                        · have f4550 := tB r4547
                          have f4552 := congrArg Int32.toInt c4549
                          exact hQ _ hσ4475 (⟨(kq (a := 9) (b := 9) eσ4475 (by omega)).trans (k4019.trans (k3443.trans ((kq (a := 9) (b := 9) eσ2285 (by omega)).trans (k6.trans ((kq (a := 9) (b := 9) eσ2 (by omega))))))), (kq (a := 9) (b := 10) eσ4475 (by omega)).trans (k4020.trans (k3444.trans ((kq (a := 9) (b := 10) eσ2285 (by omega)).trans (k7.trans ((kq (a := 9) (b := 10) eσ2 (by omega))))))), (kq (a := 6) (b := 5) eσ4475 (by omega)).trans (k4021.trans (k3445.trans ((kq (a := 6) (b := 5) eσ2285 (by omega)).trans (k8.trans ((kq (a := 6) (b := 5) eσ2 (by omega))))))), (kq (a := 7) (b := 4) eσ4475 (by omega)).trans (k4022.trans (k3446.trans ((kq (a := 7) (b := 4) eσ2285 (by omega)).trans (k9.trans ((kq (a := 7) (b := 4) eσ2 (by omega))))))), (kq (a := 2) (b := 4) eσ4475 (by omega)).trans (k4023.trans (k3447.trans ((kq (a := 2) (b := 4) eσ2285 (by omega)).trans (k10.trans ((kq (a := 2) (b := 4) eσ2 (by omega)))))))⟩)
                        · have f4553 := tB r4547
                          have f4555 := mt Int32.toInt_inj.mp c4549
                          intro v4556 ev4556
                          intro σ4557 eσ4557
                          have kb4558 := jobK_b hk1
                          have hσ4557 : K1 σ0 σ4557 := by rw [eσ4557]; exact hσ4475.u (rg_jobK hk1) (by omega) (by omega)
                          exact hQ _ hσ4557 (⟨(kq (a := 9) (b := 9) eσ4557 (by omega)).trans ((kq (a := 9) (b := 9) eσ4475 (by omega)).trans (k4019.trans (k3443.trans ((kq (a := 9) (b := 9) eσ2285 (by omega)).trans (k6.trans ((kq (a := 9) (b := 9) eσ2 (by omega)))))))), (kq (a := 9) (b := 10) eσ4557 (by omega)).trans ((kq (a := 9) (b := 10) eσ4475 (by omega)).trans (k4020.trans (k3444.trans ((kq (a := 9) (b := 10) eσ2285 (by omega)).trans (k7.trans ((kq (a := 9) (b := 10) eσ2 (by omega)))))))), (kq (a := 6) (b := 5) eσ4557 (by omega)).trans ((kq (a := 6) (b := 5) eσ4475 (by omega)).trans (k4021.trans (k3445.trans ((kq (a := 6) (b := 5) eσ2285 (by omega)).trans (k8.trans ((kq (a := 6) (b := 5) eσ2 (by omega)))))))), (kq (a := 7) (b := 4) eσ4557 (by omega)).trans ((kq (a := 7) (b := 4) eσ4475 (by omega)).trans (k4022.trans (k3446.trans ((kq (a := 7) (b := 4) eσ2285 (by omega)).trans (k9.trans ((kq (a := 7) (b := 4) eσ2 (by omega)))))))), (kq (a := 2) (b := 4) eσ4557 (by omega)).trans ((kq (a := 2) (b := 4) eσ4475 (by omega)).trans (k4023.trans (k3447.trans ((kq (a := 2) (b := 4) eσ2285 (by omega)).trans (k10.trans ((kq (a := 2) (b := 4) eσ2 (by omega))))))))⟩)
                      · have f4561 := mt Int32.toInt_inj.mp c4527
                        have f4563 := tB r3452
                        have f4564 := tB r4028
                        have f4566 := K1.g_3_7 hσ4475
                        have q4567 : σ4475.1 3 7 = σ4016.1 3 7 := by rw [eσ4475]; exact congrFun (u1_ne (by omega)) 7
                        have f4568 := congrArg Int32.toInt q4567
                        have f4569 := K1.g_3_7 hσ4016
                        have f4570 := congrArg Int32.toInt k4017
                        have f4571 := K1.g_3_7 hσ3440
                        have f4572 := congrArg Int32.toInt k3441
                        have f4573 := K1.g_3_7 hσ2285
                        have q4574 : σ2285.1 3 7 = σ3.1 3 7 := by rw [eσ2285, u1_at]; exact if_neg (by decide)
                        have f4575 := congrArg Int32.toInt q4574
                        have f4576 := K1.g_3_7 hσ3
                        have f4577 := congrArg Int32.toInt k4
                        have f4578 := K1.g_3_7 hσ2
                        have q4579 : σ2.1 3 7 = σ.1 3 7 := by rw [eσ2, u1_at]; exact if_neg (by decide)
                        have f4580 := congrArg Int32.toInt q4579
                        have f4581 := K1.g_3_7 hσ
                        refine sX2_act hN hk1 (by omega) hσ4475 (fun σ4565 hσ4565 kk4587 => ?_)
                        obtain ⟨k4582, k4583, k4584, k4585, k4586⟩ := kk4587
                        exact hQ _ hσ4565 (⟨k4582.trans ((kq (a := 9) (b := 9) eσ4475 (by omega)).trans (k4019.trans (k3443.trans ((kq (a := 9) (b := 9) eσ2285 (by omega)).trans (k6.trans ((kq (a := 9) (b := 9) eσ2 (by omega)))))))), k4583.trans ((kq (a := 9) (b := 10) eσ4475 (by omega)).trans (k4020.trans (k3444.trans ((kq (a := 9) (b := 10) eσ2285 (by omega)).trans (k7.trans ((kq (a := 9) (b := 10) eσ2 (by omega)))))))), k4584.trans ((kq (a := 6) (b := 5) eσ4475 (by omega)).trans (k4021.trans (k3445.trans ((kq (a := 6) (b := 5) eσ2285 (by omega)).trans (k8.trans ((kq (a := 6) (b := 5) eσ2 (by omega)))))))), k4585.trans ((kq (a := 7) (b := 4) eσ4475 (by omega)).trans (k4022.trans (k3446.trans ((kq (a := 7) (b := 4) eσ2285 (by omega)).trans (k9.trans ((kq (a := 7) (b := 4) eσ2 (by omega)))))))), k4586.trans ((kq (a := 2) (b := 4) eσ4475 (by omega)).trans (k4023.trans (k3447.trans ((kq (a := 2) (b := 4) eσ2285 (by omega)).trans (k10.trans ((kq (a := 2) (b := 4) eσ2 (by omega))))))))⟩)
                  · have f4588 := tB (σ4016.1 3 11)
                    have f4590 := mt Int32.toInt_inj.mp c4470
                    exact hQ _ hσ4016 (⟨k4019.trans (k3443.trans ((kq (a := 9) (b := 9) eσ2285 (by omega)).trans (k6.trans ((kq (a := 9) (b := 9) eσ2 (by omega)))))), k4020.trans (k3444.trans ((kq (a := 9) (b := 10) eσ2285 (by omega)).trans (k7.trans ((kq (a := 9) (b := 10) eσ2 (by omega)))))), k4021.trans (k3445.trans ((kq (a := 6) (b := 5) eσ2285 (by omega)).trans (k8.trans ((kq (a := 6) (b := 5) eσ2 (by omega)))))), k4022.trans (k3446.trans ((kq (a := 7) (b := 4) eσ2285 (by omega)).trans (k9.trans ((kq (a := 7) (b := 4) eσ2 (by omega)))))), k4023.trans (k3447.trans ((kq (a := 2) (b := 4) eσ2285 (by omega)).trans (k10.trans ((kq (a := 2) (b := 4) eσ2 (by omega))))))⟩)
      · have f4591 := tB (σ2285.1 3 11)
        have q4592 : σ2285.1 3 11 = 6 := by rw [eσ2285, u1_at]; exact if_pos rfl
        have f4593 := congrArg Int32.toInt q4592
        have f4594 : (6 : Int32).toInt = 6 := by decide
        have f4596 := mt Int32.toInt_inj.mp c2286
        exact hQ _ hσ2285 (⟨(kq (a := 9) (b := 9) eσ2285 (by omega)).trans (k6.trans ((kq (a := 9) (b := 9) eσ2 (by omega)))), (kq (a := 9) (b := 10) eσ2285 (by omega)).trans (k7.trans ((kq (a := 9) (b := 10) eσ2 (by omega)))), (kq (a := 6) (b := 5) eσ2285 (by omega)).trans (k8.trans ((kq (a := 6) (b := 5) eσ2 (by omega)))), (kq (a := 7) (b := 4) eσ2285 (by omega)).trans (k9.trans ((kq (a := 7) (b := 4) eσ2 (by omega)))), (kq (a := 2) (b := 4) eσ2285 (by omega)).trans (k10.trans ((kq (a := 2) (b := 4) eσ2 (by omega))))⟩)
    · have f4597 := tB (σ3.1 3 11)
      have f4598 : (0 : Int32).toInt = 0 := by decide
      have f4599 := mt Int32.toInt_inj.mp c2281
      try dsimp only
      unfold fX2_doOrder_j25
      refine ⟨fun c4600 => ?_, fun c4600 => ?_⟩
      · have f4603 := congrArg Int32.toInt c4600
        refine ⟨fun c4604 => ?_, fun c4604 => ?_⟩
        · have f4606 : (6 : Int32).toInt = 6 := by decide
          have f4607 := congrArg Int32.toInt c4604
          refine sX2_doCallOrder hN hk1 hσ3 (fun σ4608 hσ4608 kk4617 => ?_)
          obtain ⟨k4609, k4610, k4611, k4612, k4613, k4614, k4615, k4616⟩ := kk4617
          exact hQ _ hσ4608 (⟨k4609.trans (k6.trans ((kq (a := 9) (b := 9) eσ2 (by omega)))), k4610.trans (k7.trans ((kq (a := 9) (b := 10) eσ2 (by omega)))), k4611.trans (k8.trans ((kq (a := 6) (b := 5) eσ2 (by omega)))), k4612.trans (k9.trans ((kq (a := 7) (b := 4) eσ2 (by omega)))), k4613.trans (k10.trans ((kq (a := 2) (b := 4) eσ2 (by omega))))⟩)
        · have f4619 : (6 : Int32).toInt = 6 := by decide
          have f4620 := mt Int32.toInt_inj.mp c4604
          have g4622 : vp_in r15 18 := inI (by omega) (by omega)
          refine ⟨g4622, ?_⟩
          refine ⟨fun c4623 => ?_, fun c4623 => ?_⟩
          · have f4624 := tB (jV r15.toNatClampNeg)
            have f4626 := Int32.le_iff_toInt_le.mp c4623
            unfold fX2_doOrder_j62
            have g4628 : vp_in r15 18 := inI (by omega) (by omega)
            refine ⟨g4628, ?_⟩
            refine ⟨fun c4629 => ?_, fun c4629 => ?_⟩
            · have f4631 : (1 : Int32).toInt = 1 := by decide
              have f4632 := Int32.le_iff_toInt_le.mp c4629
              unfold fX2_doOrder_j81
              have g4634 : vp_in r15 18 := inI (by omega) (by omega)
              refine ⟨g4634, ?_⟩
              refine ⟨fun c4635 => ?_, fun c4635 => ?_⟩
              · have f4636 := tB (jT r15.toNatClampNeg)
                have f4638 := congrArg Int32.toInt c4635
                refine sX2_nextTarget hN hk1 hσ3 (fun r4651 σ4639 hσ4639 kk4650 p4652 => ?_)
                obtain ⟨k4640, k4641, k4642, k4643, k4644, k4645, k4646, k4647, k4648, k4649⟩ := kk4650
                unfold fX2_doOrder_j103
                have g4654 : vp_in r15 18 := inI (by omega) (by omega)
                refine ⟨g4654, ?_⟩
                refine ⟨fun c4655 => ?_, fun c4655 => ?_⟩
                · have f4657 : (2 : Int32).toInt = 2 := by decide
                  have f4658 := congrArg Int32.toInt c4655
                  refine sX2_nextDistance hN hσ4639 (fun r4671 σ4659 hσ4659 kk4670 p4672 => ?_)
                  obtain ⟨k4660, k4661, k4662, k4663, k4664, k4665, k4666, k4667, k4668, k4669⟩ := kk4670
                  unfold fX2_doOrder_j122
                  refine ⟨fun c4673 => ?_, fun c4673 => ?_⟩
                  · have f4674 := tB (σ4659.1 3 11)
                    have f4676 := congrArg Int32.toInt c4673
                    intro v4677 ev4677
                    intro σ4678 eσ4678
                    have kb4679 := jobK_b hk1
                    have hσ4678 : K1 σ0 σ4678 := by rw [eσ4678]; exact hσ4659.u (rg_jobK hk1) (by omega) (by omega)
                    have g4681 : vp_in r15 18 := inI (by omega) (by omega)
                    refine ⟨g4681, ?_⟩
                    refine ⟨fun c4682 => ?_, fun c4682 => ?_⟩
                    · have f4685 := congrArg Int32.toInt c4682
                      refine sX2_valueFor hN hσ4678 (fun r4701 σ4689 hσ4689 kk4700 p4702 => ?_)
                      obtain ⟨k4690, k4691, k4692, k4693, k4694, k4695, k4696, k4697, k4698, k4699⟩ := kk4700
                      refine ⟨fun c4703 => ?_, fun c4703 => ?_⟩
                      · have f4704 := tB (σ4689.1 3 11)
                        have f4706 := congrArg Int32.toInt c4703
                        have f4707 := tB r4651
                        have f4708 := tB r4701
                        refine sX1_setLocal hN hk1 hσ4689 (fun σ4709 hσ4709 kk4721 => ?_)
                        obtain ⟨k4710, k4711, k4712, k4713, k4714, k4715, k4716, k4717, k4718, k4719, k4720⟩ := kk4721
                        unfold fX2_doOrder_j174
                        exact hQ _ hσ4709 (⟨k4713.trans (k4692.trans ((kq (a := 9) (b := 9) eσ4678 (by omega)).trans (k4662.trans (k4642.trans (k6.trans ((kq (a := 9) (b := 9) eσ2 (by omega)))))))), k4714.trans (k4693.trans ((kq (a := 9) (b := 10) eσ4678 (by omega)).trans (k4663.trans (k4643.trans (k7.trans ((kq (a := 9) (b := 10) eσ2 (by omega)))))))), k4715.trans (k4694.trans ((kq (a := 6) (b := 5) eσ4678 (by omega)).trans (k4664.trans (k4644.trans (k8.trans ((kq (a := 6) (b := 5) eσ2 (by omega)))))))), k4716.trans (k4695.trans ((kq (a := 7) (b := 4) eσ4678 (by omega)).trans (k4665.trans (k4645.trans (k9.trans ((kq (a := 7) (b := 4) eσ2 (by omega)))))))), k4717.trans (k4696.trans ((kq (a := 2) (b := 4) eσ4678 (by omega)).trans (k4666.trans (k4646.trans (k10.trans ((kq (a := 2) (b := 4) eσ2 (by omega))))))))⟩)
                      · have f4722 := tB (σ4689.1 3 11)
                        have f4724 := mt Int32.toInt_inj.mp c4703
                        unfold fX2_doOrder_j174
                        exact hQ _ hσ4689 (⟨k4692.trans ((kq (a := 9) (b := 9) eσ4678 (by omega)).trans (k4662.trans (k4642.trans (k6.trans ((kq (a := 9) (b := 9) eσ2 (by omega))))))), k4693.trans ((kq (a := 9) (b := 10) eσ4678 (by omega)).trans (k4663.trans (k4643.trans (k7.trans ((kq (a := 9) (b := 10) eσ2 (by omega))))))), k4694.trans ((kq (a := 6) (b := 5) eσ4678 (by omega)).trans (k4664.trans (k4644.trans (k8.trans ((kq (a := 6) (b := 5) eσ2 (by omega))))))), k4695.trans ((kq (a := 7) (b := 4) eσ4678 (by omega)).trans (k4665.trans (k4645.trans (k9.trans ((kq (a := 7) (b := 4) eσ2 (by omega))))))), k4696.trans ((kq (a := 2) (b := 4) eσ4678 (by omega)).trans (k4666.trans (k4646.trans (k10.trans ((kq (a := 2) (b := 4) eσ2 (by omega)))))))⟩)
                    · have f4727 := mt Int32.toInt_inj.mp c4682
                      have g4729 : vp_in r15 18 := inI (by omega) (by omega)
                      refine ⟨g4729, ?_⟩
                      refine ⟨fun c4730 => ?_, fun c4730 => ?_⟩
                      · have f4733 := congrArg Int32.toInt c4730
                        refine sX2_goesThere hN hσ4678 (fun r4750 p4751 => ?_)
                        refine ⟨fun c4752 => ?_, fun c4752 => ?_⟩
                        · have f4753 := tB r4750
                          have f4755 := congrArg Int32.toInt c4752
                          exact hQ _ hσ4678 (⟨(kq (a := 9) (b := 9) eσ4678 (by omega)).trans (k4662.trans (k4642.trans (k6.trans ((kq (a := 9) (b := 9) eσ2 (by omega)))))), (kq (a := 9) (b := 10) eσ4678 (by omega)).trans (k4663.trans (k4643.trans (k7.trans ((kq (a := 9) (b := 10) eσ2 (by omega)))))), (kq (a := 6) (b := 5) eσ4678 (by omega)).trans (k4664.trans (k4644.trans (k8.trans ((kq (a := 6) (b := 5) eσ2 (by omega)))))), (kq (a := 7) (b := 4) eσ4678 (by omega)).trans (k4665.trans (k4645.trans (k9.trans ((kq (a := 7) (b := 4) eσ2 (by omega)))))), (kq (a := 2) (b := 4) eσ4678 (by omega)).trans (k4666.trans (k4646.trans (k10.trans ((kq (a := 2) (b := 4) eσ2 (by omega))))))⟩)
                        · have f4756 := tB r4750
                          have f4758 := mt Int32.toInt_inj.mp c4752
                          intro v4759 ev4759
                          intro σ4760 eσ4760
                          have kb4761 := jobK_b hk1
                          have hσ4760 : K1 σ0 σ4760 := by rw [eσ4760]; exact hσ4678.u (rg_jobK hk1) (by omega) (by omega)
                          exact hQ _ hσ4760 (⟨(kq (a := 9) (b := 9) eσ4760 (by omega)).trans ((kq (a := 9) (b := 9) eσ4678 (by omega)).trans (k4662.trans (k4642.trans (k6.trans ((kq (a := 9) (b := 9) eσ2 (by omega))))))), (kq (a := 9) (b := 10) eσ4760 (by omega)).trans ((kq (a := 9) (b := 10) eσ4678 (by omega)).trans (k4663.trans (k4643.trans (k7.trans ((kq (a := 9) (b := 10) eσ2 (by omega))))))), (kq (a := 6) (b := 5) eσ4760 (by omega)).trans ((kq (a := 6) (b := 5) eσ4678 (by omega)).trans (k4664.trans (k4644.trans (k8.trans ((kq (a := 6) (b := 5) eσ2 (by omega))))))), (kq (a := 7) (b := 4) eσ4760 (by omega)).trans ((kq (a := 7) (b := 4) eσ4678 (by omega)).trans (k4665.trans (k4645.trans (k9.trans ((kq (a := 7) (b := 4) eσ2 (by omega))))))), (kq (a := 2) (b := 4) eσ4760 (by omega)).trans ((kq (a := 2) (b := 4) eσ4678 (by omega)).trans (k4666.trans (k4646.trans (k10.trans ((kq (a := 2) (b := 4) eσ2 (by omega)))))))⟩)
                      · have f4764 := mt Int32.toInt_inj.mp c4730
                        have f4769 := K1.g_3_7 hσ4678
                        have q4770 : σ4678.1 3 7 = σ4659.1 3 7 := by rw [eσ4678]; exact congrFun (u1_ne (by omega)) 7
                        have f4771 := congrArg Int32.toInt q4770
                        have f4772 := K1.g_3_7 hσ4659
                        have f4773 := congrArg Int32.toInt k4660
                        have f4774 := K1.g_3_7 hσ4639
                        have f4775 := congrArg Int32.toInt k4640
                        have f4776 := K1.g_3_7 hσ3
                        have f4777 := congrArg Int32.toInt k4
                        have f4778 := K1.g_3_7 hσ2
                        have q4779 : σ2.1 3 7 = σ.1 3 7 := by rw [eσ2, u1_at]; exact if_neg (by decide)
                        have f4780 := congrArg Int32.toInt q4779
                        have f4781 := K1.g_3_7 hσ
                        refine sX2_act hN hk1 (by omega) hσ4678 (fun σ4768 hσ4768 kk4787 => ?_)
                        obtain ⟨k4782, k4783, k4784, k4785, k4786⟩ := kk4787
                        exact hQ _ hσ4768 (⟨k4782.trans ((kq (a := 9) (b := 9) eσ4678 (by omega)).trans (k4662.trans (k4642.trans (k6.trans ((kq (a := 9) (b := 9) eσ2 (by omega))))))), k4783.trans ((kq (a := 9) (b := 10) eσ4678 (by omega)).trans (k4663.trans (k4643.trans (k7.trans ((kq (a := 9) (b := 10) eσ2 (by omega))))))), k4784.trans ((kq (a := 6) (b := 5) eσ4678 (by omega)).trans (k4664.trans (k4644.trans (k8.trans ((kq (a := 6) (b := 5) eσ2 (by omega))))))), k4785.trans ((kq (a := 7) (b := 4) eσ4678 (by omega)).trans (k4665.trans (k4645.trans (k9.trans ((kq (a := 7) (b := 4) eσ2 (by omega))))))), k4786.trans ((kq (a := 2) (b := 4) eσ4678 (by omega)).trans (k4666.trans (k4646.trans (k10.trans ((kq (a := 2) (b := 4) eσ2 (by omega)))))))⟩)
                  · have f4788 := tB (σ4659.1 3 11)
                    have f4790 := mt Int32.toInt_inj.mp c4673
                    exact hQ _ hσ4659 (⟨k4662.trans (k4642.trans (k6.trans ((kq (a := 9) (b := 9) eσ2 (by omega))))), k4663.trans (k4643.trans (k7.trans ((kq (a := 9) (b := 10) eσ2 (by omega))))), k4664.trans (k4644.trans (k8.trans ((kq (a := 6) (b := 5) eσ2 (by omega))))), k4665.trans (k4645.trans (k9.trans ((kq (a := 7) (b := 4) eσ2 (by omega))))), k4666.trans (k4646.trans (k10.trans ((kq (a := 2) (b := 4) eσ2 (by omega)))))⟩)
                · have f4792 : (2 : Int32).toInt = 2 := by decide
                  have f4793 := mt Int32.toInt_inj.mp c4655
                  unfold fX2_doOrder_j122
                  refine ⟨fun c4794 => ?_, fun c4794 => ?_⟩
                  · have f4795 := tB (σ4639.1 3 11)
                    have f4797 := congrArg Int32.toInt c4794
                    intro v4798 ev4798
                    intro σ4799 eσ4799
                    have kb4800 := jobK_b hk1
                    have hσ4799 : K1 σ0 σ4799 := by rw [eσ4799]; exact hσ4639.u (rg_jobK hk1) (by omega) (by omega)
                    have g4802 : vp_in r15 18 := inI (by omega) (by omega)
                    refine ⟨g4802, ?_⟩
                    refine ⟨fun c4803 => ?_, fun c4803 => ?_⟩
                    · have f4806 := congrArg Int32.toInt c4803
                      refine sX2_valueFor hN hσ4799 (fun r4822 σ4810 hσ4810 kk4821 p4823 => ?_)
                      obtain ⟨k4811, k4812, k4813, k4814, k4815, k4816, k4817, k4818, k4819, k4820⟩ := kk4821
                      refine ⟨fun c4824 => ?_, fun c4824 => ?_⟩
                      · have f4825 := tB (σ4810.1 3 11)
                        have f4827 := congrArg Int32.toInt c4824
                        have f4828 := tB r4651
                        have f4829 := tB r4822
                        refine sX1_setLocal hN hk1 hσ4810 (fun σ4830 hσ4830 kk4842 => ?_)
                        obtain ⟨k4831, k4832, k4833, k4834, k4835, k4836, k4837, k4838, k4839, k4840, k4841⟩ := kk4842
                        unfold fX2_doOrder_j174
                        exact hQ _ hσ4830 (⟨k4834.trans (k4813.trans ((kq (a := 9) (b := 9) eσ4799 (by omega)).trans (k4642.trans (k6.trans ((kq (a := 9) (b := 9) eσ2 (by omega))))))), k4835.trans (k4814.trans ((kq (a := 9) (b := 10) eσ4799 (by omega)).trans (k4643.trans (k7.trans ((kq (a := 9) (b := 10) eσ2 (by omega))))))), k4836.trans (k4815.trans ((kq (a := 6) (b := 5) eσ4799 (by omega)).trans (k4644.trans (k8.trans ((kq (a := 6) (b := 5) eσ2 (by omega))))))), k4837.trans (k4816.trans ((kq (a := 7) (b := 4) eσ4799 (by omega)).trans (k4645.trans (k9.trans ((kq (a := 7) (b := 4) eσ2 (by omega))))))), k4838.trans (k4817.trans ((kq (a := 2) (b := 4) eσ4799 (by omega)).trans (k4646.trans (k10.trans ((kq (a := 2) (b := 4) eσ2 (by omega)))))))⟩)
                      · have f4843 := tB (σ4810.1 3 11)
                        have f4845 := mt Int32.toInt_inj.mp c4824
                        unfold fX2_doOrder_j174
                        exact hQ _ hσ4810 (⟨k4813.trans ((kq (a := 9) (b := 9) eσ4799 (by omega)).trans (k4642.trans (k6.trans ((kq (a := 9) (b := 9) eσ2 (by omega)))))), k4814.trans ((kq (a := 9) (b := 10) eσ4799 (by omega)).trans (k4643.trans (k7.trans ((kq (a := 9) (b := 10) eσ2 (by omega)))))), k4815.trans ((kq (a := 6) (b := 5) eσ4799 (by omega)).trans (k4644.trans (k8.trans ((kq (a := 6) (b := 5) eσ2 (by omega)))))), k4816.trans ((kq (a := 7) (b := 4) eσ4799 (by omega)).trans (k4645.trans (k9.trans ((kq (a := 7) (b := 4) eσ2 (by omega)))))), k4817.trans ((kq (a := 2) (b := 4) eσ4799 (by omega)).trans (k4646.trans (k10.trans ((kq (a := 2) (b := 4) eσ2 (by omega))))))⟩)
                    · have f4848 := mt Int32.toInt_inj.mp c4803
                      have g4850 : vp_in r15 18 := inI (by omega) (by omega)
                      refine ⟨g4850, ?_⟩
                      refine ⟨fun c4851 => ?_, fun c4851 => ?_⟩
                      · have f4854 := congrArg Int32.toInt c4851
                        refine sX2_goesThere hN hσ4799 (fun r4871 p4872 => ?_)
                        refine ⟨fun c4873 => ?_, fun c4873 => ?_⟩
                        · have f4874 := tB r4871
                          have f4876 := congrArg Int32.toInt c4873
                          exact hQ _ hσ4799 (⟨(kq (a := 9) (b := 9) eσ4799 (by omega)).trans (k4642.trans (k6.trans ((kq (a := 9) (b := 9) eσ2 (by omega))))), (kq (a := 9) (b := 10) eσ4799 (by omega)).trans (k4643.trans (k7.trans ((kq (a := 9) (b := 10) eσ2 (by omega))))), (kq (a := 6) (b := 5) eσ4799 (by omega)).trans (k4644.trans (k8.trans ((kq (a := 6) (b := 5) eσ2 (by omega))))), (kq (a := 7) (b := 4) eσ4799 (by omega)).trans (k4645.trans (k9.trans ((kq (a := 7) (b := 4) eσ2 (by omega))))), (kq (a := 2) (b := 4) eσ4799 (by omega)).trans (k4646.trans (k10.trans ((kq (a := 2) (b := 4) eσ2 (by omega)))))⟩)
                        · have f4877 := tB r4871
                          have f4879 := mt Int32.toInt_inj.mp c4873
                          intro v4880 ev4880
                          intro σ4881 eσ4881
                          have kb4882 := jobK_b hk1
                          have hσ4881 : K1 σ0 σ4881 := by rw [eσ4881]; exact hσ4799.u (rg_jobK hk1) (by omega) (by omega)
                          exact hQ _ hσ4881 (⟨(kq (a := 9) (b := 9) eσ4881 (by omega)).trans ((kq (a := 9) (b := 9) eσ4799 (by omega)).trans (k4642.trans (k6.trans ((kq (a := 9) (b := 9) eσ2 (by omega)))))), (kq (a := 9) (b := 10) eσ4881 (by omega)).trans ((kq (a := 9) (b := 10) eσ4799 (by omega)).trans (k4643.trans (k7.trans ((kq (a := 9) (b := 10) eσ2 (by omega)))))), (kq (a := 6) (b := 5) eσ4881 (by omega)).trans ((kq (a := 6) (b := 5) eσ4799 (by omega)).trans (k4644.trans (k8.trans ((kq (a := 6) (b := 5) eσ2 (by omega)))))), (kq (a := 7) (b := 4) eσ4881 (by omega)).trans ((kq (a := 7) (b := 4) eσ4799 (by omega)).trans (k4645.trans (k9.trans ((kq (a := 7) (b := 4) eσ2 (by omega)))))), (kq (a := 2) (b := 4) eσ4881 (by omega)).trans ((kq (a := 2) (b := 4) eσ4799 (by omega)).trans (k4646.trans (k10.trans ((kq (a := 2) (b := 4) eσ2 (by omega))))))⟩)
                      · have f4885 := mt Int32.toInt_inj.mp c4851
                        have f4890 := K1.g_3_7 hσ4799
                        have q4891 : σ4799.1 3 7 = σ4639.1 3 7 := by rw [eσ4799]; exact congrFun (u1_ne (by omega)) 7
                        have f4892 := congrArg Int32.toInt q4891
                        have f4893 := K1.g_3_7 hσ4639
                        have f4894 := congrArg Int32.toInt k4640
                        have f4895 := K1.g_3_7 hσ3
                        have f4896 := congrArg Int32.toInt k4
                        have f4897 := K1.g_3_7 hσ2
                        have q4898 : σ2.1 3 7 = σ.1 3 7 := by rw [eσ2, u1_at]; exact if_neg (by decide)
                        have f4899 := congrArg Int32.toInt q4898
                        have f4900 := K1.g_3_7 hσ
                        refine sX2_act hN hk1 (by omega) hσ4799 (fun σ4889 hσ4889 kk4906 => ?_)
                        obtain ⟨k4901, k4902, k4903, k4904, k4905⟩ := kk4906
                        exact hQ _ hσ4889 (⟨k4901.trans ((kq (a := 9) (b := 9) eσ4799 (by omega)).trans (k4642.trans (k6.trans ((kq (a := 9) (b := 9) eσ2 (by omega)))))), k4902.trans ((kq (a := 9) (b := 10) eσ4799 (by omega)).trans (k4643.trans (k7.trans ((kq (a := 9) (b := 10) eσ2 (by omega)))))), k4903.trans ((kq (a := 6) (b := 5) eσ4799 (by omega)).trans (k4644.trans (k8.trans ((kq (a := 6) (b := 5) eσ2 (by omega)))))), k4904.trans ((kq (a := 7) (b := 4) eσ4799 (by omega)).trans (k4645.trans (k9.trans ((kq (a := 7) (b := 4) eσ2 (by omega)))))), k4905.trans ((kq (a := 2) (b := 4) eσ4799 (by omega)).trans (k4646.trans (k10.trans ((kq (a := 2) (b := 4) eσ2 (by omega))))))⟩)
                  · have f4907 := tB (σ4639.1 3 11)
                    have f4909 := mt Int32.toInt_inj.mp c4794
                    exact hQ _ hσ4639 (⟨k4642.trans (k6.trans ((kq (a := 9) (b := 9) eσ2 (by omega)))), k4643.trans (k7.trans ((kq (a := 9) (b := 10) eσ2 (by omega)))), k4644.trans (k8.trans ((kq (a := 6) (b := 5) eσ2 (by omega)))), k4645.trans (k9.trans ((kq (a := 7) (b := 4) eσ2 (by omega)))), k4646.trans (k10.trans ((kq (a := 2) (b := 4) eσ2 (by omega))))⟩)
              · have f4910 := tB (jT r15.toNatClampNeg)
                have f4912 := mt Int32.toInt_inj.mp c4635
                unfold fX2_doOrder_j103
                have g4914 : vp_in r15 18 := inI (by omega) (by omega)
                refine ⟨g4914, ?_⟩
                refine ⟨fun c4915 => ?_, fun c4915 => ?_⟩
                · have f4917 : (2 : Int32).toInt = 2 := by decide
                  have f4918 := congrArg Int32.toInt c4915
                  refine sX2_nextDistance hN hσ3 (fun r4931 σ4919 hσ4919 kk4930 p4932 => ?_)
                  obtain ⟨k4920, k4921, k4922, k4923, k4924, k4925, k4926, k4927, k4928, k4929⟩ := kk4930
                  unfold fX2_doOrder_j122
                  refine ⟨fun c4933 => ?_, fun c4933 => ?_⟩
                  · have f4934 := tB (σ4919.1 3 11)
                    have f4936 := congrArg Int32.toInt c4933
                    intro v4937 ev4937
                    intro σ4938 eσ4938
                    have kb4939 := jobK_b hk1
                    have hσ4938 : K1 σ0 σ4938 := by rw [eσ4938]; exact hσ4919.u (rg_jobK hk1) (by omega) (by omega)
                    have g4941 : vp_in r15 18 := inI (by omega) (by omega)
                    refine ⟨g4941, ?_⟩
                    refine ⟨fun c4942 => ?_, fun c4942 => ?_⟩
                    · have f4945 := congrArg Int32.toInt c4942
                      refine sX2_valueFor hN hσ4938 (fun r4961 σ4949 hσ4949 kk4960 p4962 => ?_)
                      obtain ⟨k4950, k4951, k4952, k4953, k4954, k4955, k4956, k4957, k4958, k4959⟩ := kk4960
                      refine ⟨fun c4963 => ?_, fun c4963 => ?_⟩
                      · have f4964 := tB (σ4949.1 3 11)
                        have f4966 := congrArg Int32.toInt c4963
                        have f4967 : (255 : Int32).toInt = 255 := by decide
                        have f4968 := tB r4961
                        refine sX1_setLocal hN hk1 hσ4949 (fun σ4969 hσ4969 kk4981 => ?_)
                        obtain ⟨k4970, k4971, k4972, k4973, k4974, k4975, k4976, k4977, k4978, k4979, k4980⟩ := kk4981
                        unfold fX2_doOrder_j174
                        exact hQ _ hσ4969 (⟨k4973.trans (k4952.trans ((kq (a := 9) (b := 9) eσ4938 (by omega)).trans (k4922.trans (k6.trans ((kq (a := 9) (b := 9) eσ2 (by omega))))))), k4974.trans (k4953.trans ((kq (a := 9) (b := 10) eσ4938 (by omega)).trans (k4923.trans (k7.trans ((kq (a := 9) (b := 10) eσ2 (by omega))))))), k4975.trans (k4954.trans ((kq (a := 6) (b := 5) eσ4938 (by omega)).trans (k4924.trans (k8.trans ((kq (a := 6) (b := 5) eσ2 (by omega))))))), k4976.trans (k4955.trans ((kq (a := 7) (b := 4) eσ4938 (by omega)).trans (k4925.trans (k9.trans ((kq (a := 7) (b := 4) eσ2 (by omega))))))), k4977.trans (k4956.trans ((kq (a := 2) (b := 4) eσ4938 (by omega)).trans (k4926.trans (k10.trans ((kq (a := 2) (b := 4) eσ2 (by omega)))))))⟩)
                      · have f4982 := tB (σ4949.1 3 11)
                        have f4984 := mt Int32.toInt_inj.mp c4963
                        unfold fX2_doOrder_j174
                        exact hQ _ hσ4949 (⟨k4952.trans ((kq (a := 9) (b := 9) eσ4938 (by omega)).trans (k4922.trans (k6.trans ((kq (a := 9) (b := 9) eσ2 (by omega)))))), k4953.trans ((kq (a := 9) (b := 10) eσ4938 (by omega)).trans (k4923.trans (k7.trans ((kq (a := 9) (b := 10) eσ2 (by omega)))))), k4954.trans ((kq (a := 6) (b := 5) eσ4938 (by omega)).trans (k4924.trans (k8.trans ((kq (a := 6) (b := 5) eσ2 (by omega)))))), k4955.trans ((kq (a := 7) (b := 4) eσ4938 (by omega)).trans (k4925.trans (k9.trans ((kq (a := 7) (b := 4) eσ2 (by omega)))))), k4956.trans ((kq (a := 2) (b := 4) eσ4938 (by omega)).trans (k4926.trans (k10.trans ((kq (a := 2) (b := 4) eσ2 (by omega))))))⟩)
                    · have f4987 := mt Int32.toInt_inj.mp c4942
                      have g4989 : vp_in r15 18 := inI (by omega) (by omega)
                      refine ⟨g4989, ?_⟩
                      refine ⟨fun c4990 => ?_, fun c4990 => ?_⟩
                      · have f4993 := congrArg Int32.toInt c4990
                        refine sX2_goesThere hN hσ4938 (fun r5010 p5011 => ?_)
                        refine ⟨fun c5012 => ?_, fun c5012 => ?_⟩
                        · have f5013 := tB r5010
                          have f5015 := congrArg Int32.toInt c5012
                          exact hQ _ hσ4938 (⟨(kq (a := 9) (b := 9) eσ4938 (by omega)).trans (k4922.trans (k6.trans ((kq (a := 9) (b := 9) eσ2 (by omega))))), (kq (a := 9) (b := 10) eσ4938 (by omega)).trans (k4923.trans (k7.trans ((kq (a := 9) (b := 10) eσ2 (by omega))))), (kq (a := 6) (b := 5) eσ4938 (by omega)).trans (k4924.trans (k8.trans ((kq (a := 6) (b := 5) eσ2 (by omega))))), (kq (a := 7) (b := 4) eσ4938 (by omega)).trans (k4925.trans (k9.trans ((kq (a := 7) (b := 4) eσ2 (by omega))))), (kq (a := 2) (b := 4) eσ4938 (by omega)).trans (k4926.trans (k10.trans ((kq (a := 2) (b := 4) eσ2 (by omega)))))⟩)
                        · have f5016 := tB r5010
                          have f5018 := mt Int32.toInt_inj.mp c5012
                          intro v5019 ev5019
                          intro σ5020 eσ5020
                          have kb5021 := jobK_b hk1
                          have hσ5020 : K1 σ0 σ5020 := by rw [eσ5020]; exact hσ4938.u (rg_jobK hk1) (by omega) (by omega)
                          exact hQ _ hσ5020 (⟨(kq (a := 9) (b := 9) eσ5020 (by omega)).trans ((kq (a := 9) (b := 9) eσ4938 (by omega)).trans (k4922.trans (k6.trans ((kq (a := 9) (b := 9) eσ2 (by omega)))))), (kq (a := 9) (b := 10) eσ5020 (by omega)).trans ((kq (a := 9) (b := 10) eσ4938 (by omega)).trans (k4923.trans (k7.trans ((kq (a := 9) (b := 10) eσ2 (by omega)))))), (kq (a := 6) (b := 5) eσ5020 (by omega)).trans ((kq (a := 6) (b := 5) eσ4938 (by omega)).trans (k4924.trans (k8.trans ((kq (a := 6) (b := 5) eσ2 (by omega)))))), (kq (a := 7) (b := 4) eσ5020 (by omega)).trans ((kq (a := 7) (b := 4) eσ4938 (by omega)).trans (k4925.trans (k9.trans ((kq (a := 7) (b := 4) eσ2 (by omega)))))), (kq (a := 2) (b := 4) eσ5020 (by omega)).trans ((kq (a := 2) (b := 4) eσ4938 (by omega)).trans (k4926.trans (k10.trans ((kq (a := 2) (b := 4) eσ2 (by omega))))))⟩)
                      · have f5024 := mt Int32.toInt_inj.mp c4990
                        have f5029 := K1.g_3_7 hσ4938
                        have q5030 : σ4938.1 3 7 = σ4919.1 3 7 := by rw [eσ4938]; exact congrFun (u1_ne (by omega)) 7
                        have f5031 := congrArg Int32.toInt q5030
                        have f5032 := K1.g_3_7 hσ4919
                        have f5033 := congrArg Int32.toInt k4920
                        have f5034 := K1.g_3_7 hσ3
                        have f5035 := congrArg Int32.toInt k4
                        have f5036 := K1.g_3_7 hσ2
                        have q5037 : σ2.1 3 7 = σ.1 3 7 := by rw [eσ2, u1_at]; exact if_neg (by decide)
                        have f5038 := congrArg Int32.toInt q5037
                        have f5039 := K1.g_3_7 hσ
                        refine sX2_act hN hk1 (by omega) hσ4938 (fun σ5028 hσ5028 kk5045 => ?_)
                        obtain ⟨k5040, k5041, k5042, k5043, k5044⟩ := kk5045
                        exact hQ _ hσ5028 (⟨k5040.trans ((kq (a := 9) (b := 9) eσ4938 (by omega)).trans (k4922.trans (k6.trans ((kq (a := 9) (b := 9) eσ2 (by omega)))))), k5041.trans ((kq (a := 9) (b := 10) eσ4938 (by omega)).trans (k4923.trans (k7.trans ((kq (a := 9) (b := 10) eσ2 (by omega)))))), k5042.trans ((kq (a := 6) (b := 5) eσ4938 (by omega)).trans (k4924.trans (k8.trans ((kq (a := 6) (b := 5) eσ2 (by omega)))))), k5043.trans ((kq (a := 7) (b := 4) eσ4938 (by omega)).trans (k4925.trans (k9.trans ((kq (a := 7) (b := 4) eσ2 (by omega)))))), k5044.trans ((kq (a := 2) (b := 4) eσ4938 (by omega)).trans (k4926.trans (k10.trans ((kq (a := 2) (b := 4) eσ2 (by omega))))))⟩)
                  · have f5046 := tB (σ4919.1 3 11)
                    have f5048 := mt Int32.toInt_inj.mp c4933
                    exact hQ _ hσ4919 (⟨k4922.trans (k6.trans ((kq (a := 9) (b := 9) eσ2 (by omega)))), k4923.trans (k7.trans ((kq (a := 9) (b := 10) eσ2 (by omega)))), k4924.trans (k8.trans ((kq (a := 6) (b := 5) eσ2 (by omega)))), k4925.trans (k9.trans ((kq (a := 7) (b := 4) eσ2 (by omega)))), k4926.trans (k10.trans ((kq (a := 2) (b := 4) eσ2 (by omega))))⟩)
                · have f5050 : (2 : Int32).toInt = 2 := by decide
                  have f5051 := mt Int32.toInt_inj.mp c4915
                  unfold fX2_doOrder_j122
                  refine ⟨fun c5052 => ?_, fun c5052 => ?_⟩
                  · have f5055 := congrArg Int32.toInt c5052
                    intro v5056 ev5056
                    intro σ5057 eσ5057
                    have kb5058 := jobK_b hk1
                    have hσ5057 : K1 σ0 σ5057 := by rw [eσ5057]; exact hσ3.u (rg_jobK hk1) (by omega) (by omega)
                    have g5060 : vp_in r15 18 := inI (by omega) (by omega)
                    refine ⟨g5060, ?_⟩
                    refine ⟨fun c5061 => ?_, fun c5061 => ?_⟩
                    · have f5064 := congrArg Int32.toInt c5061
                      refine sX2_valueFor hN hσ5057 (fun r5080 σ5068 hσ5068 kk5079 p5081 => ?_)
                      obtain ⟨k5069, k5070, k5071, k5072, k5073, k5074, k5075, k5076, k5077, k5078⟩ := kk5079
                      refine ⟨fun c5082 => ?_, fun c5082 => ?_⟩
                      · have f5083 := tB (σ5068.1 3 11)
                        have f5085 := congrArg Int32.toInt c5082
                        have f5086 : (255 : Int32).toInt = 255 := by decide
                        have f5087 := tB r5080
                        refine sX1_setLocal hN hk1 hσ5068 (fun σ5088 hσ5088 kk5100 => ?_)
                        obtain ⟨k5089, k5090, k5091, k5092, k5093, k5094, k5095, k5096, k5097, k5098, k5099⟩ := kk5100
                        unfold fX2_doOrder_j174
                        exact hQ _ hσ5088 (⟨k5092.trans (k5071.trans ((kq (a := 9) (b := 9) eσ5057 (by omega)).trans (k6.trans ((kq (a := 9) (b := 9) eσ2 (by omega)))))), k5093.trans (k5072.trans ((kq (a := 9) (b := 10) eσ5057 (by omega)).trans (k7.trans ((kq (a := 9) (b := 10) eσ2 (by omega)))))), k5094.trans (k5073.trans ((kq (a := 6) (b := 5) eσ5057 (by omega)).trans (k8.trans ((kq (a := 6) (b := 5) eσ2 (by omega)))))), k5095.trans (k5074.trans ((kq (a := 7) (b := 4) eσ5057 (by omega)).trans (k9.trans ((kq (a := 7) (b := 4) eσ2 (by omega)))))), k5096.trans (k5075.trans ((kq (a := 2) (b := 4) eσ5057 (by omega)).trans (k10.trans ((kq (a := 2) (b := 4) eσ2 (by omega))))))⟩)
                      · have f5101 := tB (σ5068.1 3 11)
                        have f5103 := mt Int32.toInt_inj.mp c5082
                        unfold fX2_doOrder_j174
                        exact hQ _ hσ5068 (⟨k5071.trans ((kq (a := 9) (b := 9) eσ5057 (by omega)).trans (k6.trans ((kq (a := 9) (b := 9) eσ2 (by omega))))), k5072.trans ((kq (a := 9) (b := 10) eσ5057 (by omega)).trans (k7.trans ((kq (a := 9) (b := 10) eσ2 (by omega))))), k5073.trans ((kq (a := 6) (b := 5) eσ5057 (by omega)).trans (k8.trans ((kq (a := 6) (b := 5) eσ2 (by omega))))), k5074.trans ((kq (a := 7) (b := 4) eσ5057 (by omega)).trans (k9.trans ((kq (a := 7) (b := 4) eσ2 (by omega))))), k5075.trans ((kq (a := 2) (b := 4) eσ5057 (by omega)).trans (k10.trans ((kq (a := 2) (b := 4) eσ2 (by omega)))))⟩)
                    · have f5106 := mt Int32.toInt_inj.mp c5061
                      have g5108 : vp_in r15 18 := inI (by omega) (by omega)
                      refine ⟨g5108, ?_⟩
                      refine ⟨fun c5109 => ?_, fun c5109 => ?_⟩
                      · have f5112 := congrArg Int32.toInt c5109
                        refine sX2_goesThere hN hσ5057 (fun r5129 p5130 => ?_)
                        refine ⟨fun c5131 => ?_, fun c5131 => ?_⟩
                        · have f5132 := tB r5129
                          have f5134 := congrArg Int32.toInt c5131
                          exact hQ _ hσ5057 (⟨(kq (a := 9) (b := 9) eσ5057 (by omega)).trans (k6.trans ((kq (a := 9) (b := 9) eσ2 (by omega)))), (kq (a := 9) (b := 10) eσ5057 (by omega)).trans (k7.trans ((kq (a := 9) (b := 10) eσ2 (by omega)))), (kq (a := 6) (b := 5) eσ5057 (by omega)).trans (k8.trans ((kq (a := 6) (b := 5) eσ2 (by omega)))), (kq (a := 7) (b := 4) eσ5057 (by omega)).trans (k9.trans ((kq (a := 7) (b := 4) eσ2 (by omega)))), (kq (a := 2) (b := 4) eσ5057 (by omega)).trans (k10.trans ((kq (a := 2) (b := 4) eσ2 (by omega))))⟩)
                        · have f5135 := tB r5129
                          have f5137 := mt Int32.toInt_inj.mp c5131
                          intro v5138 ev5138
                          intro σ5139 eσ5139
                          have kb5140 := jobK_b hk1
                          have hσ5139 : K1 σ0 σ5139 := by rw [eσ5139]; exact hσ5057.u (rg_jobK hk1) (by omega) (by omega)
                          exact hQ _ hσ5139 (⟨(kq (a := 9) (b := 9) eσ5139 (by omega)).trans ((kq (a := 9) (b := 9) eσ5057 (by omega)).trans (k6.trans ((kq (a := 9) (b := 9) eσ2 (by omega))))), (kq (a := 9) (b := 10) eσ5139 (by omega)).trans ((kq (a := 9) (b := 10) eσ5057 (by omega)).trans (k7.trans ((kq (a := 9) (b := 10) eσ2 (by omega))))), (kq (a := 6) (b := 5) eσ5139 (by omega)).trans ((kq (a := 6) (b := 5) eσ5057 (by omega)).trans (k8.trans ((kq (a := 6) (b := 5) eσ2 (by omega))))), (kq (a := 7) (b := 4) eσ5139 (by omega)).trans ((kq (a := 7) (b := 4) eσ5057 (by omega)).trans (k9.trans ((kq (a := 7) (b := 4) eσ2 (by omega))))), (kq (a := 2) (b := 4) eσ5139 (by omega)).trans ((kq (a := 2) (b := 4) eσ5057 (by omega)).trans (k10.trans ((kq (a := 2) (b := 4) eσ2 (by omega)))))⟩)
                      · have f5143 := mt Int32.toInt_inj.mp c5109
                        have f5148 := K1.g_3_7 hσ5057
                        have q5149 : σ5057.1 3 7 = σ3.1 3 7 := by rw [eσ5057]; exact congrFun (u1_ne (by omega)) 7
                        have f5150 := congrArg Int32.toInt q5149
                        have f5151 := K1.g_3_7 hσ3
                        have f5152 := congrArg Int32.toInt k4
                        have f5153 := K1.g_3_7 hσ2
                        have q5154 : σ2.1 3 7 = σ.1 3 7 := by rw [eσ2, u1_at]; exact if_neg (by decide)
                        have f5155 := congrArg Int32.toInt q5154
                        have f5156 := K1.g_3_7 hσ
                        refine sX2_act hN hk1 (by omega) hσ5057 (fun σ5147 hσ5147 kk5162 => ?_)
                        obtain ⟨k5157, k5158, k5159, k5160, k5161⟩ := kk5162
                        exact hQ _ hσ5147 (⟨k5157.trans ((kq (a := 9) (b := 9) eσ5057 (by omega)).trans (k6.trans ((kq (a := 9) (b := 9) eσ2 (by omega))))), k5158.trans ((kq (a := 9) (b := 10) eσ5057 (by omega)).trans (k7.trans ((kq (a := 9) (b := 10) eσ2 (by omega))))), k5159.trans ((kq (a := 6) (b := 5) eσ5057 (by omega)).trans (k8.trans ((kq (a := 6) (b := 5) eσ2 (by omega))))), k5160.trans ((kq (a := 7) (b := 4) eσ5057 (by omega)).trans (k9.trans ((kq (a := 7) (b := 4) eσ2 (by omega))))), k5161.trans ((kq (a := 2) (b := 4) eσ5057 (by omega)).trans (k10.trans ((kq (a := 2) (b := 4) eσ2 (by omega)))))⟩)
                  · have f5165 := mt Int32.toInt_inj.mp c5052
                    exact hQ _ hσ3 (⟨k6.trans ((kq (a := 9) (b := 9) eσ2 (by omega))), k7.trans ((kq (a := 9) (b := 10) eσ2 (by omega))), k8.trans ((kq (a := 6) (b := 5) eσ2 (by omega))), k9.trans ((kq (a := 7) (b := 4) eσ2 (by omega))), k10.trans ((kq (a := 2) (b := 4) eσ2 (by omega)))⟩)
            · have f5167 : (1 : Int32).toInt = 1 := by decide
              have f5168 := mt Int32.le_iff_toInt_le.mpr c4629
              refine sX2_nextValue hN hk1 hσ3 (fun r5181 σ5169 hσ5169 kk5180 p5182 => ?_)
              obtain ⟨k5170, k5171, k5172, k5173, k5174, k5175, k5176, k5177, k5178, k5179⟩ := kk5180
              unfold fX2_doOrder_j81
              have g5184 : vp_in r15 18 := inI (by omega) (by omega)
              refine ⟨g5184, ?_⟩
              refine ⟨fun c5185 => ?_, fun c5185 => ?_⟩
              · have f5186 := tB (jT r15.toNatClampNeg)
                have f5188 := congrArg Int32.toInt c5185
                refine sX2_nextTarget hN hk1 hσ5169 (fun r5201 σ5189 hσ5189 kk5200 p5202 => ?_)
                obtain ⟨k5190, k5191, k5192, k5193, k5194, k5195, k5196, k5197, k5198, k5199⟩ := kk5200
                unfold fX2_doOrder_j103
                have g5204 : vp_in r15 18 := inI (by omega) (by omega)
                refine ⟨g5204, ?_⟩
                refine ⟨fun c5205 => ?_, fun c5205 => ?_⟩
                · have f5207 : (2 : Int32).toInt = 2 := by decide
                  have f5208 := congrArg Int32.toInt c5205
                  refine sX2_nextDistance hN hσ5189 (fun r5221 σ5209 hσ5209 kk5220 p5222 => ?_)
                  obtain ⟨k5210, k5211, k5212, k5213, k5214, k5215, k5216, k5217, k5218, k5219⟩ := kk5220
                  unfold fX2_doOrder_j122
                  refine ⟨fun c5223 => ?_, fun c5223 => ?_⟩
                  · have f5224 := tB (σ5209.1 3 11)
                    have f5226 := congrArg Int32.toInt c5223
                    intro v5227 ev5227
                    intro σ5228 eσ5228
                    have kb5229 := jobK_b hk1
                    have hσ5228 : K1 σ0 σ5228 := by rw [eσ5228]; exact hσ5209.u (rg_jobK hk1) (by omega) (by omega)
                    have g5231 : vp_in r15 18 := inI (by omega) (by omega)
                    refine ⟨g5231, ?_⟩
                    refine ⟨fun c5232 => ?_, fun c5232 => ?_⟩
                    · have f5235 := congrArg Int32.toInt c5232
                      have f5238 := tB r5181
                      refine sX2_valueFor hN hσ5228 (fun r5251 σ5239 hσ5239 kk5250 p5252 => ?_)
                      obtain ⟨k5240, k5241, k5242, k5243, k5244, k5245, k5246, k5247, k5248, k5249⟩ := kk5250
                      refine ⟨fun c5253 => ?_, fun c5253 => ?_⟩
                      · have f5254 := tB (σ5239.1 3 11)
                        have f5256 := congrArg Int32.toInt c5253
                        have f5257 := tB r5201
                        have f5258 := tB r5251
                        refine sX1_setLocal hN hk1 hσ5239 (fun σ5259 hσ5259 kk5271 => ?_)
                        obtain ⟨k5260, k5261, k5262, k5263, k5264, k5265, k5266, k5267, k5268, k5269, k5270⟩ := kk5271
                        unfold fX2_doOrder_j174
                        exact hQ _ hσ5259 (⟨k5263.trans (k5242.trans ((kq (a := 9) (b := 9) eσ5228 (by omega)).trans (k5212.trans (k5192.trans (k5172.trans (k6.trans ((kq (a := 9) (b := 9) eσ2 (by omega))))))))), k5264.trans (k5243.trans ((kq (a := 9) (b := 10) eσ5228 (by omega)).trans (k5213.trans (k5193.trans (k5173.trans (k7.trans ((kq (a := 9) (b := 10) eσ2 (by omega))))))))), k5265.trans (k5244.trans ((kq (a := 6) (b := 5) eσ5228 (by omega)).trans (k5214.trans (k5194.trans (k5174.trans (k8.trans ((kq (a := 6) (b := 5) eσ2 (by omega))))))))), k5266.trans (k5245.trans ((kq (a := 7) (b := 4) eσ5228 (by omega)).trans (k5215.trans (k5195.trans (k5175.trans (k9.trans ((kq (a := 7) (b := 4) eσ2 (by omega))))))))), k5267.trans (k5246.trans ((kq (a := 2) (b := 4) eσ5228 (by omega)).trans (k5216.trans (k5196.trans (k5176.trans (k10.trans ((kq (a := 2) (b := 4) eσ2 (by omega)))))))))⟩)
                      · have f5272 := tB (σ5239.1 3 11)
                        have f5274 := mt Int32.toInt_inj.mp c5253
                        unfold fX2_doOrder_j174
                        exact hQ _ hσ5239 (⟨k5242.trans ((kq (a := 9) (b := 9) eσ5228 (by omega)).trans (k5212.trans (k5192.trans (k5172.trans (k6.trans ((kq (a := 9) (b := 9) eσ2 (by omega)))))))), k5243.trans ((kq (a := 9) (b := 10) eσ5228 (by omega)).trans (k5213.trans (k5193.trans (k5173.trans (k7.trans ((kq (a := 9) (b := 10) eσ2 (by omega)))))))), k5244.trans ((kq (a := 6) (b := 5) eσ5228 (by omega)).trans (k5214.trans (k5194.trans (k5174.trans (k8.trans ((kq (a := 6) (b := 5) eσ2 (by omega)))))))), k5245.trans ((kq (a := 7) (b := 4) eσ5228 (by omega)).trans (k5215.trans (k5195.trans (k5175.trans (k9.trans ((kq (a := 7) (b := 4) eσ2 (by omega)))))))), k5246.trans ((kq (a := 2) (b := 4) eσ5228 (by omega)).trans (k5216.trans (k5196.trans (k5176.trans (k10.trans ((kq (a := 2) (b := 4) eσ2 (by omega))))))))⟩)
                    · have f5277 := mt Int32.toInt_inj.mp c5232
                      have g5279 : vp_in r15 18 := inI (by omega) (by omega)
                      refine ⟨g5279, ?_⟩
                      refine ⟨fun c5280 => ?_, fun c5280 => ?_⟩
                      · have f5283 := congrArg Int32.toInt c5280
                        have f5286 := tB r5181
                        refine sX2_goesThere hN hσ5228 (fun r5300 p5301 => ?_)
                        refine ⟨fun c5302 => ?_, fun c5302 => ?_⟩
                        · have f5303 := tB r5300
                          have f5305 := congrArg Int32.toInt c5302
                          exact hQ _ hσ5228 (⟨(kq (a := 9) (b := 9) eσ5228 (by omega)).trans (k5212.trans (k5192.trans (k5172.trans (k6.trans ((kq (a := 9) (b := 9) eσ2 (by omega))))))), (kq (a := 9) (b := 10) eσ5228 (by omega)).trans (k5213.trans (k5193.trans (k5173.trans (k7.trans ((kq (a := 9) (b := 10) eσ2 (by omega))))))), (kq (a := 6) (b := 5) eσ5228 (by omega)).trans (k5214.trans (k5194.trans (k5174.trans (k8.trans ((kq (a := 6) (b := 5) eσ2 (by omega))))))), (kq (a := 7) (b := 4) eσ5228 (by omega)).trans (k5215.trans (k5195.trans (k5175.trans (k9.trans ((kq (a := 7) (b := 4) eσ2 (by omega))))))), (kq (a := 2) (b := 4) eσ5228 (by omega)).trans (k5216.trans (k5196.trans (k5176.trans (k10.trans ((kq (a := 2) (b := 4) eσ2 (by omega)))))))⟩)
                        · have f5306 := tB r5300
                          have f5308 := mt Int32.toInt_inj.mp c5302
                          intro v5309 ev5309
                          intro σ5310 eσ5310
                          have kb5311 := jobK_b hk1
                          have hσ5310 : K1 σ0 σ5310 := by rw [eσ5310]; exact hσ5228.u (rg_jobK hk1) (by omega) (by omega)
                          exact hQ _ hσ5310 (⟨(kq (a := 9) (b := 9) eσ5310 (by omega)).trans ((kq (a := 9) (b := 9) eσ5228 (by omega)).trans (k5212.trans (k5192.trans (k5172.trans (k6.trans ((kq (a := 9) (b := 9) eσ2 (by omega)))))))), (kq (a := 9) (b := 10) eσ5310 (by omega)).trans ((kq (a := 9) (b := 10) eσ5228 (by omega)).trans (k5213.trans (k5193.trans (k5173.trans (k7.trans ((kq (a := 9) (b := 10) eσ2 (by omega)))))))), (kq (a := 6) (b := 5) eσ5310 (by omega)).trans ((kq (a := 6) (b := 5) eσ5228 (by omega)).trans (k5214.trans (k5194.trans (k5174.trans (k8.trans ((kq (a := 6) (b := 5) eσ2 (by omega)))))))), (kq (a := 7) (b := 4) eσ5310 (by omega)).trans ((kq (a := 7) (b := 4) eσ5228 (by omega)).trans (k5215.trans (k5195.trans (k5175.trans (k9.trans ((kq (a := 7) (b := 4) eσ2 (by omega)))))))), (kq (a := 2) (b := 4) eσ5310 (by omega)).trans ((kq (a := 2) (b := 4) eσ5228 (by omega)).trans (k5216.trans (k5196.trans (k5176.trans (k10.trans ((kq (a := 2) (b := 4) eσ2 (by omega))))))))⟩)
                      · have f5314 := mt Int32.toInt_inj.mp c5280
                        have f5317 := tB r5181
                        have f5319 := K1.g_3_7 hσ5228
                        have q5320 : σ5228.1 3 7 = σ5209.1 3 7 := by rw [eσ5228]; exact congrFun (u1_ne (by omega)) 7
                        have f5321 := congrArg Int32.toInt q5320
                        have f5322 := K1.g_3_7 hσ5209
                        have f5323 := congrArg Int32.toInt k5210
                        have f5324 := K1.g_3_7 hσ5189
                        have f5325 := congrArg Int32.toInt k5190
                        have f5326 := K1.g_3_7 hσ5169
                        have f5327 := congrArg Int32.toInt k5170
                        have f5328 := K1.g_3_7 hσ3
                        have f5329 := congrArg Int32.toInt k4
                        have f5330 := K1.g_3_7 hσ2
                        have q5331 : σ2.1 3 7 = σ.1 3 7 := by rw [eσ2, u1_at]; exact if_neg (by decide)
                        have f5332 := congrArg Int32.toInt q5331
                        have f5333 := K1.g_3_7 hσ
                        refine sX2_act hN hk1 (by omega) hσ5228 (fun σ5318 hσ5318 kk5339 => ?_)
                        obtain ⟨k5334, k5335, k5336, k5337, k5338⟩ := kk5339
                        exact hQ _ hσ5318 (⟨k5334.trans ((kq (a := 9) (b := 9) eσ5228 (by omega)).trans (k5212.trans (k5192.trans (k5172.trans (k6.trans ((kq (a := 9) (b := 9) eσ2 (by omega)))))))), k5335.trans ((kq (a := 9) (b := 10) eσ5228 (by omega)).trans (k5213.trans (k5193.trans (k5173.trans (k7.trans ((kq (a := 9) (b := 10) eσ2 (by omega)))))))), k5336.trans ((kq (a := 6) (b := 5) eσ5228 (by omega)).trans (k5214.trans (k5194.trans (k5174.trans (k8.trans ((kq (a := 6) (b := 5) eσ2 (by omega)))))))), k5337.trans ((kq (a := 7) (b := 4) eσ5228 (by omega)).trans (k5215.trans (k5195.trans (k5175.trans (k9.trans ((kq (a := 7) (b := 4) eσ2 (by omega)))))))), k5338.trans ((kq (a := 2) (b := 4) eσ5228 (by omega)).trans (k5216.trans (k5196.trans (k5176.trans (k10.trans ((kq (a := 2) (b := 4) eσ2 (by omega))))))))⟩)
                  · have f5340 := tB (σ5209.1 3 11)
                    have f5342 := mt Int32.toInt_inj.mp c5223
                    exact hQ _ hσ5209 (⟨k5212.trans (k5192.trans (k5172.trans (k6.trans ((kq (a := 9) (b := 9) eσ2 (by omega)))))), k5213.trans (k5193.trans (k5173.trans (k7.trans ((kq (a := 9) (b := 10) eσ2 (by omega)))))), k5214.trans (k5194.trans (k5174.trans (k8.trans ((kq (a := 6) (b := 5) eσ2 (by omega)))))), k5215.trans (k5195.trans (k5175.trans (k9.trans ((kq (a := 7) (b := 4) eσ2 (by omega)))))), k5216.trans (k5196.trans (k5176.trans (k10.trans ((kq (a := 2) (b := 4) eσ2 (by omega))))))⟩)
                · have f5344 : (2 : Int32).toInt = 2 := by decide
                  have f5345 := mt Int32.toInt_inj.mp c5205
                  unfold fX2_doOrder_j122
                  refine ⟨fun c5346 => ?_, fun c5346 => ?_⟩
                  · have f5347 := tB (σ5189.1 3 11)
                    have f5349 := congrArg Int32.toInt c5346
                    intro v5350 ev5350
                    intro σ5351 eσ5351
                    have kb5352 := jobK_b hk1
                    have hσ5351 : K1 σ0 σ5351 := by rw [eσ5351]; exact hσ5189.u (rg_jobK hk1) (by omega) (by omega)
                    have g5354 : vp_in r15 18 := inI (by omega) (by omega)
                    refine ⟨g5354, ?_⟩
                    refine ⟨fun c5355 => ?_, fun c5355 => ?_⟩
                    · have f5358 := congrArg Int32.toInt c5355
                      have f5361 := tB r5181
                      refine sX2_valueFor hN hσ5351 (fun r5374 σ5362 hσ5362 kk5373 p5375 => ?_)
                      obtain ⟨k5363, k5364, k5365, k5366, k5367, k5368, k5369, k5370, k5371, k5372⟩ := kk5373
                      refine ⟨fun c5376 => ?_, fun c5376 => ?_⟩
                      · have f5377 := tB (σ5362.1 3 11)
                        have f5379 := congrArg Int32.toInt c5376
                        have f5380 := tB r5201
                        have f5381 := tB r5374
                        refine sX1_setLocal hN hk1 hσ5362 (fun σ5382 hσ5382 kk5394 => ?_)
                        obtain ⟨k5383, k5384, k5385, k5386, k5387, k5388, k5389, k5390, k5391, k5392, k5393⟩ := kk5394
                        unfold fX2_doOrder_j174
                        exact hQ _ hσ5382 (⟨k5386.trans (k5365.trans ((kq (a := 9) (b := 9) eσ5351 (by omega)).trans (k5192.trans (k5172.trans (k6.trans ((kq (a := 9) (b := 9) eσ2 (by omega)))))))), k5387.trans (k5366.trans ((kq (a := 9) (b := 10) eσ5351 (by omega)).trans (k5193.trans (k5173.trans (k7.trans ((kq (a := 9) (b := 10) eσ2 (by omega)))))))), k5388.trans (k5367.trans ((kq (a := 6) (b := 5) eσ5351 (by omega)).trans (k5194.trans (k5174.trans (k8.trans ((kq (a := 6) (b := 5) eσ2 (by omega)))))))), k5389.trans (k5368.trans ((kq (a := 7) (b := 4) eσ5351 (by omega)).trans (k5195.trans (k5175.trans (k9.trans ((kq (a := 7) (b := 4) eσ2 (by omega)))))))), k5390.trans (k5369.trans ((kq (a := 2) (b := 4) eσ5351 (by omega)).trans (k5196.trans (k5176.trans (k10.trans ((kq (a := 2) (b := 4) eσ2 (by omega))))))))⟩)
                      · have f5395 := tB (σ5362.1 3 11)
                        have f5397 := mt Int32.toInt_inj.mp c5376
                        unfold fX2_doOrder_j174
                        exact hQ _ hσ5362 (⟨k5365.trans ((kq (a := 9) (b := 9) eσ5351 (by omega)).trans (k5192.trans (k5172.trans (k6.trans ((kq (a := 9) (b := 9) eσ2 (by omega))))))), k5366.trans ((kq (a := 9) (b := 10) eσ5351 (by omega)).trans (k5193.trans (k5173.trans (k7.trans ((kq (a := 9) (b := 10) eσ2 (by omega))))))), k5367.trans ((kq (a := 6) (b := 5) eσ5351 (by omega)).trans (k5194.trans (k5174.trans (k8.trans ((kq (a := 6) (b := 5) eσ2 (by omega))))))), k5368.trans ((kq (a := 7) (b := 4) eσ5351 (by omega)).trans (k5195.trans (k5175.trans (k9.trans ((kq (a := 7) (b := 4) eσ2 (by omega))))))), k5369.trans ((kq (a := 2) (b := 4) eσ5351 (by omega)).trans (k5196.trans (k5176.trans (k10.trans ((kq (a := 2) (b := 4) eσ2 (by omega)))))))⟩)
                    · have f5400 := mt Int32.toInt_inj.mp c5355
                      have g5402 : vp_in r15 18 := inI (by omega) (by omega)
                      refine ⟨g5402, ?_⟩
                      refine ⟨fun c5403 => ?_, fun c5403 => ?_⟩
                      · have f5406 := congrArg Int32.toInt c5403
                        have f5409 := tB r5181
                        refine sX2_goesThere hN hσ5351 (fun r5423 p5424 => ?_)
                        refine ⟨fun c5425 => ?_, fun c5425 => ?_⟩
                        · have f5426 := tB r5423
                          have f5428 := congrArg Int32.toInt c5425
                          exact hQ _ hσ5351 (⟨(kq (a := 9) (b := 9) eσ5351 (by omega)).trans (k5192.trans (k5172.trans (k6.trans ((kq (a := 9) (b := 9) eσ2 (by omega)))))), (kq (a := 9) (b := 10) eσ5351 (by omega)).trans (k5193.trans (k5173.trans (k7.trans ((kq (a := 9) (b := 10) eσ2 (by omega)))))), (kq (a := 6) (b := 5) eσ5351 (by omega)).trans (k5194.trans (k5174.trans (k8.trans ((kq (a := 6) (b := 5) eσ2 (by omega)))))), (kq (a := 7) (b := 4) eσ5351 (by omega)).trans (k5195.trans (k5175.trans (k9.trans ((kq (a := 7) (b := 4) eσ2 (by omega)))))), (kq (a := 2) (b := 4) eσ5351 (by omega)).trans (k5196.trans (k5176.trans (k10.trans ((kq (a := 2) (b := 4) eσ2 (by omega))))))⟩)
                        · have f5429 := tB r5423
                          have f5431 := mt Int32.toInt_inj.mp c5425
                          intro v5432 ev5432
                          intro σ5433 eσ5433
                          have kb5434 := jobK_b hk1
                          have hσ5433 : K1 σ0 σ5433 := by rw [eσ5433]; exact hσ5351.u (rg_jobK hk1) (by omega) (by omega)
                          exact hQ _ hσ5433 (⟨(kq (a := 9) (b := 9) eσ5433 (by omega)).trans ((kq (a := 9) (b := 9) eσ5351 (by omega)).trans (k5192.trans (k5172.trans (k6.trans ((kq (a := 9) (b := 9) eσ2 (by omega))))))), (kq (a := 9) (b := 10) eσ5433 (by omega)).trans ((kq (a := 9) (b := 10) eσ5351 (by omega)).trans (k5193.trans (k5173.trans (k7.trans ((kq (a := 9) (b := 10) eσ2 (by omega))))))), (kq (a := 6) (b := 5) eσ5433 (by omega)).trans ((kq (a := 6) (b := 5) eσ5351 (by omega)).trans (k5194.trans (k5174.trans (k8.trans ((kq (a := 6) (b := 5) eσ2 (by omega))))))), (kq (a := 7) (b := 4) eσ5433 (by omega)).trans ((kq (a := 7) (b := 4) eσ5351 (by omega)).trans (k5195.trans (k5175.trans (k9.trans ((kq (a := 7) (b := 4) eσ2 (by omega))))))), (kq (a := 2) (b := 4) eσ5433 (by omega)).trans ((kq (a := 2) (b := 4) eσ5351 (by omega)).trans (k5196.trans (k5176.trans (k10.trans ((kq (a := 2) (b := 4) eσ2 (by omega)))))))⟩)
                      · have f5437 := mt Int32.toInt_inj.mp c5403
                        have f5440 := tB r5181
                        have f5442 := K1.g_3_7 hσ5351
                        have q5443 : σ5351.1 3 7 = σ5189.1 3 7 := by rw [eσ5351]; exact congrFun (u1_ne (by omega)) 7
                        have f5444 := congrArg Int32.toInt q5443
                        have f5445 := K1.g_3_7 hσ5189
                        have f5446 := congrArg Int32.toInt k5190
                        have f5447 := K1.g_3_7 hσ5169
                        have f5448 := congrArg Int32.toInt k5170
                        have f5449 := K1.g_3_7 hσ3
                        have f5450 := congrArg Int32.toInt k4
                        have f5451 := K1.g_3_7 hσ2
                        have q5452 : σ2.1 3 7 = σ.1 3 7 := by rw [eσ2, u1_at]; exact if_neg (by decide)
                        have f5453 := congrArg Int32.toInt q5452
                        have f5454 := K1.g_3_7 hσ
                        refine sX2_act hN hk1 (by omega) hσ5351 (fun σ5441 hσ5441 kk5460 => ?_)
                        obtain ⟨k5455, k5456, k5457, k5458, k5459⟩ := kk5460
                        exact hQ _ hσ5441 (⟨k5455.trans ((kq (a := 9) (b := 9) eσ5351 (by omega)).trans (k5192.trans (k5172.trans (k6.trans ((kq (a := 9) (b := 9) eσ2 (by omega))))))), k5456.trans ((kq (a := 9) (b := 10) eσ5351 (by omega)).trans (k5193.trans (k5173.trans (k7.trans ((kq (a := 9) (b := 10) eσ2 (by omega))))))), k5457.trans ((kq (a := 6) (b := 5) eσ5351 (by omega)).trans (k5194.trans (k5174.trans (k8.trans ((kq (a := 6) (b := 5) eσ2 (by omega))))))), k5458.trans ((kq (a := 7) (b := 4) eσ5351 (by omega)).trans (k5195.trans (k5175.trans (k9.trans ((kq (a := 7) (b := 4) eσ2 (by omega))))))), k5459.trans ((kq (a := 2) (b := 4) eσ5351 (by omega)).trans (k5196.trans (k5176.trans (k10.trans ((kq (a := 2) (b := 4) eσ2 (by omega)))))))⟩)
                  · have f5461 := tB (σ5189.1 3 11)
                    have f5463 := mt Int32.toInt_inj.mp c5346
                    exact hQ _ hσ5189 (⟨k5192.trans (k5172.trans (k6.trans ((kq (a := 9) (b := 9) eσ2 (by omega))))), k5193.trans (k5173.trans (k7.trans ((kq (a := 9) (b := 10) eσ2 (by omega))))), k5194.trans (k5174.trans (k8.trans ((kq (a := 6) (b := 5) eσ2 (by omega))))), k5195.trans (k5175.trans (k9.trans ((kq (a := 7) (b := 4) eσ2 (by omega))))), k5196.trans (k5176.trans (k10.trans ((kq (a := 2) (b := 4) eσ2 (by omega)))))⟩)
              · have f5464 := tB (jT r15.toNatClampNeg)
                have f5466 := mt Int32.toInt_inj.mp c5185
                unfold fX2_doOrder_j103
                have g5468 : vp_in r15 18 := inI (by omega) (by omega)
                refine ⟨g5468, ?_⟩
                refine ⟨fun c5469 => ?_, fun c5469 => ?_⟩
                · have f5471 : (2 : Int32).toInt = 2 := by decide
                  have f5472 := congrArg Int32.toInt c5469
                  refine sX2_nextDistance hN hσ5169 (fun r5485 σ5473 hσ5473 kk5484 p5486 => ?_)
                  obtain ⟨k5474, k5475, k5476, k5477, k5478, k5479, k5480, k5481, k5482, k5483⟩ := kk5484
                  unfold fX2_doOrder_j122
                  refine ⟨fun c5487 => ?_, fun c5487 => ?_⟩
                  · have f5488 := tB (σ5473.1 3 11)
                    have f5490 := congrArg Int32.toInt c5487
                    intro v5491 ev5491
                    intro σ5492 eσ5492
                    have kb5493 := jobK_b hk1
                    have hσ5492 : K1 σ0 σ5492 := by rw [eσ5492]; exact hσ5473.u (rg_jobK hk1) (by omega) (by omega)
                    have g5495 : vp_in r15 18 := inI (by omega) (by omega)
                    refine ⟨g5495, ?_⟩
                    refine ⟨fun c5496 => ?_, fun c5496 => ?_⟩
                    · have f5499 := congrArg Int32.toInt c5496
                      have f5502 := tB r5181
                      refine sX2_valueFor hN hσ5492 (fun r5515 σ5503 hσ5503 kk5514 p5516 => ?_)
                      obtain ⟨k5504, k5505, k5506, k5507, k5508, k5509, k5510, k5511, k5512, k5513⟩ := kk5514
                      refine ⟨fun c5517 => ?_, fun c5517 => ?_⟩
                      · have f5518 := tB (σ5503.1 3 11)
                        have f5520 := congrArg Int32.toInt c5517
                        have f5521 : (255 : Int32).toInt = 255 := by decide
                        have f5522 := tB r5515
                        refine sX1_setLocal hN hk1 hσ5503 (fun σ5523 hσ5523 kk5535 => ?_)
                        obtain ⟨k5524, k5525, k5526, k5527, k5528, k5529, k5530, k5531, k5532, k5533, k5534⟩ := kk5535
                        unfold fX2_doOrder_j174
                        exact hQ _ hσ5523 (⟨k5527.trans (k5506.trans ((kq (a := 9) (b := 9) eσ5492 (by omega)).trans (k5476.trans (k5172.trans (k6.trans ((kq (a := 9) (b := 9) eσ2 (by omega)))))))), k5528.trans (k5507.trans ((kq (a := 9) (b := 10) eσ5492 (by omega)).trans (k5477.trans (k5173.trans (k7.trans ((kq (a := 9) (b := 10) eσ2 (by omega)))))))), k5529.trans (k5508.trans ((kq (a := 6) (b := 5) eσ5492 (by omega)).trans (k5478.trans (k5174.trans (k8.trans ((kq (a := 6) (b := 5) eσ2 (by omega)))))))), k5530.trans (k5509.trans ((kq (a := 7) (b := 4) eσ5492 (by omega)).trans (k5479.trans (k5175.trans (k9.trans ((kq (a := 7) (b := 4) eσ2 (by omega)))))))), k5531.trans (k5510.trans ((kq (a := 2) (b := 4) eσ5492 (by omega)).trans (k5480.trans (k5176.trans (k10.trans ((kq (a := 2) (b := 4) eσ2 (by omega))))))))⟩)
                      · have f5536 := tB (σ5503.1 3 11)
                        have f5538 := mt Int32.toInt_inj.mp c5517
                        unfold fX2_doOrder_j174
                        exact hQ _ hσ5503 (⟨k5506.trans ((kq (a := 9) (b := 9) eσ5492 (by omega)).trans (k5476.trans (k5172.trans (k6.trans ((kq (a := 9) (b := 9) eσ2 (by omega))))))), k5507.trans ((kq (a := 9) (b := 10) eσ5492 (by omega)).trans (k5477.trans (k5173.trans (k7.trans ((kq (a := 9) (b := 10) eσ2 (by omega))))))), k5508.trans ((kq (a := 6) (b := 5) eσ5492 (by omega)).trans (k5478.trans (k5174.trans (k8.trans ((kq (a := 6) (b := 5) eσ2 (by omega))))))), k5509.trans ((kq (a := 7) (b := 4) eσ5492 (by omega)).trans (k5479.trans (k5175.trans (k9.trans ((kq (a := 7) (b := 4) eσ2 (by omega))))))), k5510.trans ((kq (a := 2) (b := 4) eσ5492 (by omega)).trans (k5480.trans (k5176.trans (k10.trans ((kq (a := 2) (b := 4) eσ2 (by omega)))))))⟩)
                    · have f5541 := mt Int32.toInt_inj.mp c5496
                      have g5543 : vp_in r15 18 := inI (by omega) (by omega)
                      refine ⟨g5543, ?_⟩
                      refine ⟨fun c5544 => ?_, fun c5544 => ?_⟩
                      · have f5547 := congrArg Int32.toInt c5544
                        have f5550 := tB r5181
                        refine sX2_goesThere hN hσ5492 (fun r5564 p5565 => ?_)
                        refine ⟨fun c5566 => ?_, fun c5566 => ?_⟩
                        · have f5567 := tB r5564
                          have f5569 := congrArg Int32.toInt c5566
                          exact hQ _ hσ5492 (⟨(kq (a := 9) (b := 9) eσ5492 (by omega)).trans (k5476.trans (k5172.trans (k6.trans ((kq (a := 9) (b := 9) eσ2 (by omega)))))), (kq (a := 9) (b := 10) eσ5492 (by omega)).trans (k5477.trans (k5173.trans (k7.trans ((kq (a := 9) (b := 10) eσ2 (by omega)))))), (kq (a := 6) (b := 5) eσ5492 (by omega)).trans (k5478.trans (k5174.trans (k8.trans ((kq (a := 6) (b := 5) eσ2 (by omega)))))), (kq (a := 7) (b := 4) eσ5492 (by omega)).trans (k5479.trans (k5175.trans (k9.trans ((kq (a := 7) (b := 4) eσ2 (by omega)))))), (kq (a := 2) (b := 4) eσ5492 (by omega)).trans (k5480.trans (k5176.trans (k10.trans ((kq (a := 2) (b := 4) eσ2 (by omega))))))⟩)
                        · have f5570 := tB r5564
                          have f5572 := mt Int32.toInt_inj.mp c5566
                          intro v5573 ev5573
                          intro σ5574 eσ5574
                          have kb5575 := jobK_b hk1
                          have hσ5574 : K1 σ0 σ5574 := by rw [eσ5574]; exact hσ5492.u (rg_jobK hk1) (by omega) (by omega)
                          exact hQ _ hσ5574 (⟨(kq (a := 9) (b := 9) eσ5574 (by omega)).trans ((kq (a := 9) (b := 9) eσ5492 (by omega)).trans (k5476.trans (k5172.trans (k6.trans ((kq (a := 9) (b := 9) eσ2 (by omega))))))), (kq (a := 9) (b := 10) eσ5574 (by omega)).trans ((kq (a := 9) (b := 10) eσ5492 (by omega)).trans (k5477.trans (k5173.trans (k7.trans ((kq (a := 9) (b := 10) eσ2 (by omega))))))), (kq (a := 6) (b := 5) eσ5574 (by omega)).trans ((kq (a := 6) (b := 5) eσ5492 (by omega)).trans (k5478.trans (k5174.trans (k8.trans ((kq (a := 6) (b := 5) eσ2 (by omega))))))), (kq (a := 7) (b := 4) eσ5574 (by omega)).trans ((kq (a := 7) (b := 4) eσ5492 (by omega)).trans (k5479.trans (k5175.trans (k9.trans ((kq (a := 7) (b := 4) eσ2 (by omega))))))), (kq (a := 2) (b := 4) eσ5574 (by omega)).trans ((kq (a := 2) (b := 4) eσ5492 (by omega)).trans (k5480.trans (k5176.trans (k10.trans ((kq (a := 2) (b := 4) eσ2 (by omega)))))))⟩)
                      · have f5578 := mt Int32.toInt_inj.mp c5544
                        have f5581 := tB r5181
                        have f5583 := K1.g_3_7 hσ5492
                        have q5584 : σ5492.1 3 7 = σ5473.1 3 7 := by rw [eσ5492]; exact congrFun (u1_ne (by omega)) 7
                        have f5585 := congrArg Int32.toInt q5584
                        have f5586 := K1.g_3_7 hσ5473
                        have f5587 := congrArg Int32.toInt k5474
                        have f5588 := K1.g_3_7 hσ5169
                        have f5589 := congrArg Int32.toInt k5170
                        have f5590 := K1.g_3_7 hσ3
                        have f5591 := congrArg Int32.toInt k4
                        have f5592 := K1.g_3_7 hσ2
                        have q5593 : σ2.1 3 7 = σ.1 3 7 := by rw [eσ2, u1_at]; exact if_neg (by decide)
                        have f5594 := congrArg Int32.toInt q5593
                        have f5595 := K1.g_3_7 hσ
                        refine sX2_act hN hk1 (by omega) hσ5492 (fun σ5582 hσ5582 kk5601 => ?_)
                        obtain ⟨k5596, k5597, k5598, k5599, k5600⟩ := kk5601
                        exact hQ _ hσ5582 (⟨k5596.trans ((kq (a := 9) (b := 9) eσ5492 (by omega)).trans (k5476.trans (k5172.trans (k6.trans ((kq (a := 9) (b := 9) eσ2 (by omega))))))), k5597.trans ((kq (a := 9) (b := 10) eσ5492 (by omega)).trans (k5477.trans (k5173.trans (k7.trans ((kq (a := 9) (b := 10) eσ2 (by omega))))))), k5598.trans ((kq (a := 6) (b := 5) eσ5492 (by omega)).trans (k5478.trans (k5174.trans (k8.trans ((kq (a := 6) (b := 5) eσ2 (by omega))))))), k5599.trans ((kq (a := 7) (b := 4) eσ5492 (by omega)).trans (k5479.trans (k5175.trans (k9.trans ((kq (a := 7) (b := 4) eσ2 (by omega))))))), k5600.trans ((kq (a := 2) (b := 4) eσ5492 (by omega)).trans (k5480.trans (k5176.trans (k10.trans ((kq (a := 2) (b := 4) eσ2 (by omega)))))))⟩)
                  · have f5602 := tB (σ5473.1 3 11)
                    have f5604 := mt Int32.toInt_inj.mp c5487
                    exact hQ _ hσ5473 (⟨k5476.trans (k5172.trans (k6.trans ((kq (a := 9) (b := 9) eσ2 (by omega))))), k5477.trans (k5173.trans (k7.trans ((kq (a := 9) (b := 10) eσ2 (by omega))))), k5478.trans (k5174.trans (k8.trans ((kq (a := 6) (b := 5) eσ2 (by omega))))), k5479.trans (k5175.trans (k9.trans ((kq (a := 7) (b := 4) eσ2 (by omega))))), k5480.trans (k5176.trans (k10.trans ((kq (a := 2) (b := 4) eσ2 (by omega)))))⟩)
                · have f5606 : (2 : Int32).toInt = 2 := by decide
                  have f5607 := mt Int32.toInt_inj.mp c5469
                  unfold fX2_doOrder_j122
                  refine ⟨fun c5608 => ?_, fun c5608 => ?_⟩
                  · have f5609 := tB (σ5169.1 3 11)
                    have f5611 := congrArg Int32.toInt c5608
                    intro v5612 ev5612
                    intro σ5613 eσ5613
                    have kb5614 := jobK_b hk1
                    have hσ5613 : K1 σ0 σ5613 := by rw [eσ5613]; exact hσ5169.u (rg_jobK hk1) (by omega) (by omega)
                    have g5616 : vp_in r15 18 := inI (by omega) (by omega)
                    refine ⟨g5616, ?_⟩
                    refine ⟨fun c5617 => ?_, fun c5617 => ?_⟩
                    · have f5620 := congrArg Int32.toInt c5617
                      have f5623 := tB r5181
                      refine sX2_valueFor hN hσ5613 (fun r5636 σ5624 hσ5624 kk5635 p5637 => ?_)
                      obtain ⟨k5625, k5626, k5627, k5628, k5629, k5630, k5631, k5632, k5633, k5634⟩ := kk5635
                      refine ⟨fun c5638 => ?_, fun c5638 => ?_⟩
                      · have f5639 := tB (σ5624.1 3 11)
                        have f5641 := congrArg Int32.toInt c5638
                        have f5642 : (255 : Int32).toInt = 255 := by decide
                        have f5643 := tB r5636
                        refine sX1_setLocal hN hk1 hσ5624 (fun σ5644 hσ5644 kk5656 => ?_)
                        obtain ⟨k5645, k5646, k5647, k5648, k5649, k5650, k5651, k5652, k5653, k5654, k5655⟩ := kk5656
                        unfold fX2_doOrder_j174
                        exact hQ _ hσ5644 (⟨k5648.trans (k5627.trans ((kq (a := 9) (b := 9) eσ5613 (by omega)).trans (k5172.trans (k6.trans ((kq (a := 9) (b := 9) eσ2 (by omega))))))), k5649.trans (k5628.trans ((kq (a := 9) (b := 10) eσ5613 (by omega)).trans (k5173.trans (k7.trans ((kq (a := 9) (b := 10) eσ2 (by omega))))))), k5650.trans (k5629.trans ((kq (a := 6) (b := 5) eσ5613 (by omega)).trans (k5174.trans (k8.trans ((kq (a := 6) (b := 5) eσ2 (by omega))))))), k5651.trans (k5630.trans ((kq (a := 7) (b := 4) eσ5613 (by omega)).trans (k5175.trans (k9.trans ((kq (a := 7) (b := 4) eσ2 (by omega))))))), k5652.trans (k5631.trans ((kq (a := 2) (b := 4) eσ5613 (by omega)).trans (k5176.trans (k10.trans ((kq (a := 2) (b := 4) eσ2 (by omega)))))))⟩)
                      · have f5657 := tB (σ5624.1 3 11)
                        have f5659 := mt Int32.toInt_inj.mp c5638
                        unfold fX2_doOrder_j174
                        exact hQ _ hσ5624 (⟨k5627.trans ((kq (a := 9) (b := 9) eσ5613 (by omega)).trans (k5172.trans (k6.trans ((kq (a := 9) (b := 9) eσ2 (by omega)))))), k5628.trans ((kq (a := 9) (b := 10) eσ5613 (by omega)).trans (k5173.trans (k7.trans ((kq (a := 9) (b := 10) eσ2 (by omega)))))), k5629.trans ((kq (a := 6) (b := 5) eσ5613 (by omega)).trans (k5174.trans (k8.trans ((kq (a := 6) (b := 5) eσ2 (by omega)))))), k5630.trans ((kq (a := 7) (b := 4) eσ5613 (by omega)).trans (k5175.trans (k9.trans ((kq (a := 7) (b := 4) eσ2 (by omega)))))), k5631.trans ((kq (a := 2) (b := 4) eσ5613 (by omega)).trans (k5176.trans (k10.trans ((kq (a := 2) (b := 4) eσ2 (by omega))))))⟩)
                    · have f5662 := mt Int32.toInt_inj.mp c5617
                      have g5664 : vp_in r15 18 := inI (by omega) (by omega)
                      refine ⟨g5664, ?_⟩
                      refine ⟨fun c5665 => ?_, fun c5665 => ?_⟩
                      · have f5668 := congrArg Int32.toInt c5665
                        have f5671 := tB r5181
                        refine sX2_goesThere hN hσ5613 (fun r5685 p5686 => ?_)
                        refine ⟨fun c5687 => ?_, fun c5687 => ?_⟩
                        · have f5688 := tB r5685
                          have f5690 := congrArg Int32.toInt c5687
                          exact hQ _ hσ5613 (⟨(kq (a := 9) (b := 9) eσ5613 (by omega)).trans (k5172.trans (k6.trans ((kq (a := 9) (b := 9) eσ2 (by omega))))), (kq (a := 9) (b := 10) eσ5613 (by omega)).trans (k5173.trans (k7.trans ((kq (a := 9) (b := 10) eσ2 (by omega))))), (kq (a := 6) (b := 5) eσ5613 (by omega)).trans (k5174.trans (k8.trans ((kq (a := 6) (b := 5) eσ2 (by omega))))), (kq (a := 7) (b := 4) eσ5613 (by omega)).trans (k5175.trans (k9.trans ((kq (a := 7) (b := 4) eσ2 (by omega))))), (kq (a := 2) (b := 4) eσ5613 (by omega)).trans (k5176.trans (k10.trans ((kq (a := 2) (b := 4) eσ2 (by omega)))))⟩)
                        · have f5691 := tB r5685
                          have f5693 := mt Int32.toInt_inj.mp c5687
                          intro v5694 ev5694
                          intro σ5695 eσ5695
                          have kb5696 := jobK_b hk1
                          have hσ5695 : K1 σ0 σ5695 := by rw [eσ5695]; exact hσ5613.u (rg_jobK hk1) (by omega) (by omega)
                          exact hQ _ hσ5695 (⟨(kq (a := 9) (b := 9) eσ5695 (by omega)).trans ((kq (a := 9) (b := 9) eσ5613 (by omega)).trans (k5172.trans (k6.trans ((kq (a := 9) (b := 9) eσ2 (by omega)))))), (kq (a := 9) (b := 10) eσ5695 (by omega)).trans ((kq (a := 9) (b := 10) eσ5613 (by omega)).trans (k5173.trans (k7.trans ((kq (a := 9) (b := 10) eσ2 (by omega)))))), (kq (a := 6) (b := 5) eσ5695 (by omega)).trans ((kq (a := 6) (b := 5) eσ5613 (by omega)).trans (k5174.trans (k8.trans ((kq (a := 6) (b := 5) eσ2 (by omega)))))), (kq (a := 7) (b := 4) eσ5695 (by omega)).trans ((kq (a := 7) (b := 4) eσ5613 (by omega)).trans (k5175.trans (k9.trans ((kq (a := 7) (b := 4) eσ2 (by omega)))))), (kq (a := 2) (b := 4) eσ5695 (by omega)).trans ((kq (a := 2) (b := 4) eσ5613 (by omega)).trans (k5176.trans (k10.trans ((kq (a := 2) (b := 4) eσ2 (by omega))))))⟩)
                      · have f5699 := mt Int32.toInt_inj.mp c5665
                        have f5702 := tB r5181
                        have f5704 := K1.g_3_7 hσ5613
                        have q5705 : σ5613.1 3 7 = σ5169.1 3 7 := by rw [eσ5613]; exact congrFun (u1_ne (by omega)) 7
                        have f5706 := congrArg Int32.toInt q5705
                        have f5707 := K1.g_3_7 hσ5169
                        have f5708 := congrArg Int32.toInt k5170
                        have f5709 := K1.g_3_7 hσ3
                        have f5710 := congrArg Int32.toInt k4
                        have f5711 := K1.g_3_7 hσ2
                        have q5712 : σ2.1 3 7 = σ.1 3 7 := by rw [eσ2, u1_at]; exact if_neg (by decide)
                        have f5713 := congrArg Int32.toInt q5712
                        have f5714 := K1.g_3_7 hσ
                        refine sX2_act hN hk1 (by omega) hσ5613 (fun σ5703 hσ5703 kk5720 => ?_)
                        obtain ⟨k5715, k5716, k5717, k5718, k5719⟩ := kk5720
                        exact hQ _ hσ5703 (⟨k5715.trans ((kq (a := 9) (b := 9) eσ5613 (by omega)).trans (k5172.trans (k6.trans ((kq (a := 9) (b := 9) eσ2 (by omega)))))), k5716.trans ((kq (a := 9) (b := 10) eσ5613 (by omega)).trans (k5173.trans (k7.trans ((kq (a := 9) (b := 10) eσ2 (by omega)))))), k5717.trans ((kq (a := 6) (b := 5) eσ5613 (by omega)).trans (k5174.trans (k8.trans ((kq (a := 6) (b := 5) eσ2 (by omega)))))), k5718.trans ((kq (a := 7) (b := 4) eσ5613 (by omega)).trans (k5175.trans (k9.trans ((kq (a := 7) (b := 4) eσ2 (by omega)))))), k5719.trans ((kq (a := 2) (b := 4) eσ5613 (by omega)).trans (k5176.trans (k10.trans ((kq (a := 2) (b := 4) eσ2 (by omega))))))⟩)
                  · have f5721 := tB (σ5169.1 3 11)
                    have f5723 := mt Int32.toInt_inj.mp c5608
                    exact hQ _ hσ5169 (⟨k5172.trans (k6.trans ((kq (a := 9) (b := 9) eσ2 (by omega)))), k5173.trans (k7.trans ((kq (a := 9) (b := 10) eσ2 (by omega)))), k5174.trans (k8.trans ((kq (a := 6) (b := 5) eσ2 (by omega)))), k5175.trans (k9.trans ((kq (a := 7) (b := 4) eσ2 (by omega)))), k5176.trans (k10.trans ((kq (a := 2) (b := 4) eσ2 (by omega))))⟩)
          · have f5724 := tB (jV r15.toNatClampNeg)
            have f5726 := mt Int32.le_iff_toInt_le.mpr c4623
            refine sX2_nextValue hN hk1 hσ3 (fun r5739 σ5727 hσ5727 kk5738 p5740 => ?_)
            obtain ⟨k5728, k5729, k5730, k5731, k5732, k5733, k5734, k5735, k5736, k5737⟩ := kk5738
            unfold fX2_doOrder_j62
            have g5742 : vp_in r15 18 := inI (by omega) (by omega)
            refine ⟨g5742, ?_⟩
            refine ⟨fun c5743 => ?_, fun c5743 => ?_⟩
            · have f5745 : (1 : Int32).toInt = 1 := by decide
              have f5746 := Int32.le_iff_toInt_le.mp c5743
              unfold fX2_doOrder_j81
              have g5748 : vp_in r15 18 := inI (by omega) (by omega)
              refine ⟨g5748, ?_⟩
              refine ⟨fun c5749 => ?_, fun c5749 => ?_⟩
              · have f5750 := tB (jT r15.toNatClampNeg)
                have f5752 := congrArg Int32.toInt c5749
                refine sX2_nextTarget hN hk1 hσ5727 (fun r5765 σ5753 hσ5753 kk5764 p5766 => ?_)
                obtain ⟨k5754, k5755, k5756, k5757, k5758, k5759, k5760, k5761, k5762, k5763⟩ := kk5764
                unfold fX2_doOrder_j103
                have g5768 : vp_in r15 18 := inI (by omega) (by omega)
                refine ⟨g5768, ?_⟩
                refine ⟨fun c5769 => ?_, fun c5769 => ?_⟩
                · have f5771 : (2 : Int32).toInt = 2 := by decide
                  have f5772 := congrArg Int32.toInt c5769
                  refine sX2_nextDistance hN hσ5753 (fun r5785 σ5773 hσ5773 kk5784 p5786 => ?_)
                  obtain ⟨k5774, k5775, k5776, k5777, k5778, k5779, k5780, k5781, k5782, k5783⟩ := kk5784
                  unfold fX2_doOrder_j122
                  refine ⟨fun c5787 => ?_, fun c5787 => ?_⟩
                  · have f5788 := tB (σ5773.1 3 11)
                    have f5790 := congrArg Int32.toInt c5787
                    intro v5791 ev5791
                    intro σ5792 eσ5792
                    have kb5793 := jobK_b hk1
                    have hσ5792 : K1 σ0 σ5792 := by rw [eσ5792]; exact hσ5773.u (rg_jobK hk1) (by omega) (by omega)
                    have g5795 : vp_in r15 18 := inI (by omega) (by omega)
                    refine ⟨g5795, ?_⟩
                    refine ⟨fun c5796 => ?_, fun c5796 => ?_⟩
                    · have f5799 := congrArg Int32.toInt c5796
                      have f5801 := tB r5739
                      refine sX2_valueFor hN hσ5792 (fun r5815 σ5803 hσ5803 kk5814 p5816 => ?_)
                      obtain ⟨k5804, k5805, k5806, k5807, k5808, k5809, k5810, k5811, k5812, k5813⟩ := kk5814
                      refine ⟨fun c5817 => ?_, fun c5817 => ?_⟩
                      · have f5818 := tB (σ5803.1 3 11)
                        have f5820 := congrArg Int32.toInt c5817
                        have f5821 := tB r5765
                        have f5822 := tB r5815
                        refine sX1_setLocal hN hk1 hσ5803 (fun σ5823 hσ5823 kk5835 => ?_)
                        obtain ⟨k5824, k5825, k5826, k5827, k5828, k5829, k5830, k5831, k5832, k5833, k5834⟩ := kk5835
                        unfold fX2_doOrder_j174
                        exact hQ _ hσ5823 (⟨k5827.trans (k5806.trans ((kq (a := 9) (b := 9) eσ5792 (by omega)).trans (k5776.trans (k5756.trans (k5730.trans (k6.trans ((kq (a := 9) (b := 9) eσ2 (by omega))))))))), k5828.trans (k5807.trans ((kq (a := 9) (b := 10) eσ5792 (by omega)).trans (k5777.trans (k5757.trans (k5731.trans (k7.trans ((kq (a := 9) (b := 10) eσ2 (by omega))))))))), k5829.trans (k5808.trans ((kq (a := 6) (b := 5) eσ5792 (by omega)).trans (k5778.trans (k5758.trans (k5732.trans (k8.trans ((kq (a := 6) (b := 5) eσ2 (by omega))))))))), k5830.trans (k5809.trans ((kq (a := 7) (b := 4) eσ5792 (by omega)).trans (k5779.trans (k5759.trans (k5733.trans (k9.trans ((kq (a := 7) (b := 4) eσ2 (by omega))))))))), k5831.trans (k5810.trans ((kq (a := 2) (b := 4) eσ5792 (by omega)).trans (k5780.trans (k5760.trans (k5734.trans (k10.trans ((kq (a := 2) (b := 4) eσ2 (by omega)))))))))⟩)
                      · have f5836 := tB (σ5803.1 3 11)
                        have f5838 := mt Int32.toInt_inj.mp c5817
                        unfold fX2_doOrder_j174
                        exact hQ _ hσ5803 (⟨k5806.trans ((kq (a := 9) (b := 9) eσ5792 (by omega)).trans (k5776.trans (k5756.trans (k5730.trans (k6.trans ((kq (a := 9) (b := 9) eσ2 (by omega)))))))), k5807.trans ((kq (a := 9) (b := 10) eσ5792 (by omega)).trans (k5777.trans (k5757.trans (k5731.trans (k7.trans ((kq (a := 9) (b := 10) eσ2 (by omega)))))))), k5808.trans ((kq (a := 6) (b := 5) eσ5792 (by omega)).trans (k5778.trans (k5758.trans (k5732.trans (k8.trans ((kq (a := 6) (b := 5) eσ2 (by omega)))))))), k5809.trans ((kq (a := 7) (b := 4) eσ5792 (by omega)).trans (k5779.trans (k5759.trans (k5733.trans (k9.trans ((kq (a := 7) (b := 4) eσ2 (by omega)))))))), k5810.trans ((kq (a := 2) (b := 4) eσ5792 (by omega)).trans (k5780.trans (k5760.trans (k5734.trans (k10.trans ((kq (a := 2) (b := 4) eσ2 (by omega))))))))⟩)
                    · have f5841 := mt Int32.toInt_inj.mp c5796
                      have g5843 : vp_in r15 18 := inI (by omega) (by omega)
                      refine ⟨g5843, ?_⟩
                      refine ⟨fun c5844 => ?_, fun c5844 => ?_⟩
                      · have f5847 := congrArg Int32.toInt c5844
                        have f5849 := tB r5739
                        refine sX2_goesThere hN hσ5792 (fun r5864 p5865 => ?_)
                        refine ⟨fun c5866 => ?_, fun c5866 => ?_⟩
                        · have f5867 := tB r5864
                          have f5869 := congrArg Int32.toInt c5866
                          exact hQ _ hσ5792 (⟨(kq (a := 9) (b := 9) eσ5792 (by omega)).trans (k5776.trans (k5756.trans (k5730.trans (k6.trans ((kq (a := 9) (b := 9) eσ2 (by omega))))))), (kq (a := 9) (b := 10) eσ5792 (by omega)).trans (k5777.trans (k5757.trans (k5731.trans (k7.trans ((kq (a := 9) (b := 10) eσ2 (by omega))))))), (kq (a := 6) (b := 5) eσ5792 (by omega)).trans (k5778.trans (k5758.trans (k5732.trans (k8.trans ((kq (a := 6) (b := 5) eσ2 (by omega))))))), (kq (a := 7) (b := 4) eσ5792 (by omega)).trans (k5779.trans (k5759.trans (k5733.trans (k9.trans ((kq (a := 7) (b := 4) eσ2 (by omega))))))), (kq (a := 2) (b := 4) eσ5792 (by omega)).trans (k5780.trans (k5760.trans (k5734.trans (k10.trans ((kq (a := 2) (b := 4) eσ2 (by omega)))))))⟩)
                        · have f5870 := tB r5864
                          have f5872 := mt Int32.toInt_inj.mp c5866
                          intro v5873 ev5873
                          intro σ5874 eσ5874
                          have kb5875 := jobK_b hk1
                          have hσ5874 : K1 σ0 σ5874 := by rw [eσ5874]; exact hσ5792.u (rg_jobK hk1) (by omega) (by omega)
                          exact hQ _ hσ5874 (⟨(kq (a := 9) (b := 9) eσ5874 (by omega)).trans ((kq (a := 9) (b := 9) eσ5792 (by omega)).trans (k5776.trans (k5756.trans (k5730.trans (k6.trans ((kq (a := 9) (b := 9) eσ2 (by omega)))))))), (kq (a := 9) (b := 10) eσ5874 (by omega)).trans ((kq (a := 9) (b := 10) eσ5792 (by omega)).trans (k5777.trans (k5757.trans (k5731.trans (k7.trans ((kq (a := 9) (b := 10) eσ2 (by omega)))))))), (kq (a := 6) (b := 5) eσ5874 (by omega)).trans ((kq (a := 6) (b := 5) eσ5792 (by omega)).trans (k5778.trans (k5758.trans (k5732.trans (k8.trans ((kq (a := 6) (b := 5) eσ2 (by omega)))))))), (kq (a := 7) (b := 4) eσ5874 (by omega)).trans ((kq (a := 7) (b := 4) eσ5792 (by omega)).trans (k5779.trans (k5759.trans (k5733.trans (k9.trans ((kq (a := 7) (b := 4) eσ2 (by omega)))))))), (kq (a := 2) (b := 4) eσ5874 (by omega)).trans ((kq (a := 2) (b := 4) eσ5792 (by omega)).trans (k5780.trans (k5760.trans (k5734.trans (k10.trans ((kq (a := 2) (b := 4) eσ2 (by omega))))))))⟩)
                      · have f5878 := mt Int32.toInt_inj.mp c5844
                        have f5880 := tB r5739
                        have f5883 := K1.g_3_7 hσ5792
                        have q5884 : σ5792.1 3 7 = σ5773.1 3 7 := by rw [eσ5792]; exact congrFun (u1_ne (by omega)) 7
                        have f5885 := congrArg Int32.toInt q5884
                        have f5886 := K1.g_3_7 hσ5773
                        have f5887 := congrArg Int32.toInt k5774
                        have f5888 := K1.g_3_7 hσ5753
                        have f5889 := congrArg Int32.toInt k5754
                        have f5890 := K1.g_3_7 hσ5727
                        have f5891 := congrArg Int32.toInt k5728
                        have f5892 := K1.g_3_7 hσ3
                        have f5893 := congrArg Int32.toInt k4
                        have f5894 := K1.g_3_7 hσ2
                        have q5895 : σ2.1 3 7 = σ.1 3 7 := by rw [eσ2, u1_at]; exact if_neg (by decide)
                        have f5896 := congrArg Int32.toInt q5895
                        have f5897 := K1.g_3_7 hσ
                        refine sX2_act hN hk1 (by omega) hσ5792 (fun σ5882 hσ5882 kk5903 => ?_)
                        obtain ⟨k5898, k5899, k5900, k5901, k5902⟩ := kk5903
                        exact hQ _ hσ5882 (⟨k5898.trans ((kq (a := 9) (b := 9) eσ5792 (by omega)).trans (k5776.trans (k5756.trans (k5730.trans (k6.trans ((kq (a := 9) (b := 9) eσ2 (by omega)))))))), k5899.trans ((kq (a := 9) (b := 10) eσ5792 (by omega)).trans (k5777.trans (k5757.trans (k5731.trans (k7.trans ((kq (a := 9) (b := 10) eσ2 (by omega)))))))), k5900.trans ((kq (a := 6) (b := 5) eσ5792 (by omega)).trans (k5778.trans (k5758.trans (k5732.trans (k8.trans ((kq (a := 6) (b := 5) eσ2 (by omega)))))))), k5901.trans ((kq (a := 7) (b := 4) eσ5792 (by omega)).trans (k5779.trans (k5759.trans (k5733.trans (k9.trans ((kq (a := 7) (b := 4) eσ2 (by omega)))))))), k5902.trans ((kq (a := 2) (b := 4) eσ5792 (by omega)).trans (k5780.trans (k5760.trans (k5734.trans (k10.trans ((kq (a := 2) (b := 4) eσ2 (by omega))))))))⟩)
                  · have f5904 := tB (σ5773.1 3 11)
                    have f5906 := mt Int32.toInt_inj.mp c5787
                    exact hQ _ hσ5773 (⟨k5776.trans (k5756.trans (k5730.trans (k6.trans ((kq (a := 9) (b := 9) eσ2 (by omega)))))), k5777.trans (k5757.trans (k5731.trans (k7.trans ((kq (a := 9) (b := 10) eσ2 (by omega)))))), k5778.trans (k5758.trans (k5732.trans (k8.trans ((kq (a := 6) (b := 5) eσ2 (by omega)))))), k5779.trans (k5759.trans (k5733.trans (k9.trans ((kq (a := 7) (b := 4) eσ2 (by omega)))))), k5780.trans (k5760.trans (k5734.trans (k10.trans ((kq (a := 2) (b := 4) eσ2 (by omega))))))⟩)
                · have f5908 : (2 : Int32).toInt = 2 := by decide
                  have f5909 := mt Int32.toInt_inj.mp c5769
                  unfold fX2_doOrder_j122
                  refine ⟨fun c5910 => ?_, fun c5910 => ?_⟩
                  · have f5911 := tB (σ5753.1 3 11)
                    have f5913 := congrArg Int32.toInt c5910
                    intro v5914 ev5914
                    intro σ5915 eσ5915
                    have kb5916 := jobK_b hk1
                    have hσ5915 : K1 σ0 σ5915 := by rw [eσ5915]; exact hσ5753.u (rg_jobK hk1) (by omega) (by omega)
                    have g5918 : vp_in r15 18 := inI (by omega) (by omega)
                    refine ⟨g5918, ?_⟩
                    refine ⟨fun c5919 => ?_, fun c5919 => ?_⟩
                    · have f5922 := congrArg Int32.toInt c5919
                      have f5924 := tB r5739
                      refine sX2_valueFor hN hσ5915 (fun r5938 σ5926 hσ5926 kk5937 p5939 => ?_)
                      obtain ⟨k5927, k5928, k5929, k5930, k5931, k5932, k5933, k5934, k5935, k5936⟩ := kk5937
                      refine ⟨fun c5940 => ?_, fun c5940 => ?_⟩
                      · have f5941 := tB (σ5926.1 3 11)
                        have f5943 := congrArg Int32.toInt c5940
                        have f5944 := tB r5765
                        have f5945 := tB r5938
                        refine sX1_setLocal hN hk1 hσ5926 (fun σ5946 hσ5946 kk5958 => ?_)
                        obtain ⟨k5947, k5948, k5949, k5950, k5951, k5952, k5953, k5954, k5955, k5956, k5957⟩ := kk5958
                        unfold fX2_doOrder_j174
                        exact hQ _ hσ5946 (⟨k5950.trans (k5929.trans ((kq (a := 9) (b := 9) eσ5915 (by omega)).trans (k5756.trans (k5730.trans (k6.trans ((kq (a := 9) (b := 9) eσ2 (by omega)))))))), k5951.trans (k5930.trans ((kq (a := 9) (b := 10) eσ5915 (by omega)).trans (k5757.trans (k5731.trans (k7.trans ((kq (a := 9) (b := 10) eσ2 (by omega)))))))), k5952.trans (k5931.trans ((kq (a := 6) (b := 5) eσ5915 (by omega)).trans (k5758.trans (k5732.trans (k8.trans ((kq (a := 6) (b := 5) eσ2 (by omega)))))))), k5953.trans (k5932.trans ((kq (a := 7) (b := 4) eσ5915 (by omega)).trans (k5759.trans (k5733.trans (k9.trans ((kq (a := 7) (b := 4) eσ2 (by omega)))))))), k5954.trans (k5933.trans ((kq (a := 2) (b := 4) eσ5915 (by omega)).trans (k5760.trans (k5734.trans (k10.trans ((kq (a := 2) (b := 4) eσ2 (by omega))))))))⟩)
                      · have f5959 := tB (σ5926.1 3 11)
                        have f5961 := mt Int32.toInt_inj.mp c5940
                        unfold fX2_doOrder_j174
                        exact hQ _ hσ5926 (⟨k5929.trans ((kq (a := 9) (b := 9) eσ5915 (by omega)).trans (k5756.trans (k5730.trans (k6.trans ((kq (a := 9) (b := 9) eσ2 (by omega))))))), k5930.trans ((kq (a := 9) (b := 10) eσ5915 (by omega)).trans (k5757.trans (k5731.trans (k7.trans ((kq (a := 9) (b := 10) eσ2 (by omega))))))), k5931.trans ((kq (a := 6) (b := 5) eσ5915 (by omega)).trans (k5758.trans (k5732.trans (k8.trans ((kq (a := 6) (b := 5) eσ2 (by omega))))))), k5932.trans ((kq (a := 7) (b := 4) eσ5915 (by omega)).trans (k5759.trans (k5733.trans (k9.trans ((kq (a := 7) (b := 4) eσ2 (by omega))))))), k5933.trans ((kq (a := 2) (b := 4) eσ5915 (by omega)).trans (k5760.trans (k5734.trans (k10.trans ((kq (a := 2) (b := 4) eσ2 (by omega)))))))⟩)
                    · have f5964 := mt Int32.toInt_inj.mp c5919
                      have g5966 : vp_in r15 18 := inI (by omega) (by omega)
                      refine ⟨g5966, ?_⟩
                      refine ⟨fun c5967 => ?_, fun c5967 => ?_⟩
                      · have f5970 := congrArg Int32.toInt c5967
                        have f5972 := tB r5739
                        refine sX2_goesThere hN hσ5915 (fun r5987 p5988 => ?_)
                        refine ⟨fun c5989 => ?_, fun c5989 => ?_⟩
                        · have f5990 := tB r5987
                          have f5992 := congrArg Int32.toInt c5989
                          exact hQ _ hσ5915 (⟨(kq (a := 9) (b := 9) eσ5915 (by omega)).trans (k5756.trans (k5730.trans (k6.trans ((kq (a := 9) (b := 9) eσ2 (by omega)))))), (kq (a := 9) (b := 10) eσ5915 (by omega)).trans (k5757.trans (k5731.trans (k7.trans ((kq (a := 9) (b := 10) eσ2 (by omega)))))), (kq (a := 6) (b := 5) eσ5915 (by omega)).trans (k5758.trans (k5732.trans (k8.trans ((kq (a := 6) (b := 5) eσ2 (by omega)))))), (kq (a := 7) (b := 4) eσ5915 (by omega)).trans (k5759.trans (k5733.trans (k9.trans ((kq (a := 7) (b := 4) eσ2 (by omega)))))), (kq (a := 2) (b := 4) eσ5915 (by omega)).trans (k5760.trans (k5734.trans (k10.trans ((kq (a := 2) (b := 4) eσ2 (by omega))))))⟩)
                        · have f5993 := tB r5987
                          have f5995 := mt Int32.toInt_inj.mp c5989
                          intro v5996 ev5996
                          intro σ5997 eσ5997
                          have kb5998 := jobK_b hk1
                          have hσ5997 : K1 σ0 σ5997 := by rw [eσ5997]; exact hσ5915.u (rg_jobK hk1) (by omega) (by omega)
                          exact hQ _ hσ5997 (⟨(kq (a := 9) (b := 9) eσ5997 (by omega)).trans ((kq (a := 9) (b := 9) eσ5915 (by omega)).trans (k5756.trans (k5730.trans (k6.trans ((kq (a := 9) (b := 9) eσ2 (by omega))))))), (kq (a := 9) (b := 10) eσ5997 (by omega)).trans ((kq (a := 9) (b := 10) eσ5915 (by omega)).trans (k5757.trans (k5731.trans (k7.trans ((kq (a := 9) (b := 10) eσ2 (by omega))))))), (kq (a := 6) (b := 5) eσ5997 (by omega)).trans ((kq (a := 6) (b := 5) eσ5915 (by omega)).trans (k5758.trans (k5732.trans (k8.trans ((kq (a := 6) (b := 5) eσ2 (by omega))))))), (kq (a := 7) (b := 4) eσ5997 (by omega)).trans ((kq (a := 7) (b := 4) eσ5915 (by omega)).trans (k5759.trans (k5733.trans (k9.trans ((kq (a := 7) (b := 4) eσ2 (by omega))))))), (kq (a := 2) (b := 4) eσ5997 (by omega)).trans ((kq (a := 2) (b := 4) eσ5915 (by omega)).trans (k5760.trans (k5734.trans (k10.trans ((kq (a := 2) (b := 4) eσ2 (by omega)))))))⟩)
                      · have f6001 := mt Int32.toInt_inj.mp c5967
                        have f6003 := tB r5739
                        have f6006 := K1.g_3_7 hσ5915
                        have q6007 : σ5915.1 3 7 = σ5753.1 3 7 := by rw [eσ5915]; exact congrFun (u1_ne (by omega)) 7
                        have f6008 := congrArg Int32.toInt q6007
                        have f6009 := K1.g_3_7 hσ5753
                        have f6010 := congrArg Int32.toInt k5754
                        have f6011 := K1.g_3_7 hσ5727
                        have f6012 := congrArg Int32.toInt k5728
                        have f6013 := K1.g_3_7 hσ3
                        have f6014 := congrArg Int32.toInt k4
                        have f6015 := K1.g_3_7 hσ2
                        have q6016 : σ2.1 3 7 = σ.1 3 7 := by rw [eσ2, u1_at]; exact if_neg (by decide)
                        have f6017 := congrArg Int32.toInt q6016
                        have f6018 := K1.g_3_7 hσ
                        refine sX2_act hN hk1 (by omega) hσ5915 (fun σ6005 hσ6005 kk6024 => ?_)
                        obtain ⟨k6019, k6020, k6021, k6022, k6023⟩ := kk6024
                        exact hQ _ hσ6005 (⟨k6019.trans ((kq (a := 9) (b := 9) eσ5915 (by omega)).trans (k5756.trans (k5730.trans (k6.trans ((kq (a := 9) (b := 9) eσ2 (by omega))))))), k6020.trans ((kq (a := 9) (b := 10) eσ5915 (by omega)).trans (k5757.trans (k5731.trans (k7.trans ((kq (a := 9) (b := 10) eσ2 (by omega))))))), k6021.trans ((kq (a := 6) (b := 5) eσ5915 (by omega)).trans (k5758.trans (k5732.trans (k8.trans ((kq (a := 6) (b := 5) eσ2 (by omega))))))), k6022.trans ((kq (a := 7) (b := 4) eσ5915 (by omega)).trans (k5759.trans (k5733.trans (k9.trans ((kq (a := 7) (b := 4) eσ2 (by omega))))))), k6023.trans ((kq (a := 2) (b := 4) eσ5915 (by omega)).trans (k5760.trans (k5734.trans (k10.trans ((kq (a := 2) (b := 4) eσ2 (by omega)))))))⟩)
                  · have f6025 := tB (σ5753.1 3 11)
                    have f6027 := mt Int32.toInt_inj.mp c5910
                    exact hQ _ hσ5753 (⟨k5756.trans (k5730.trans (k6.trans ((kq (a := 9) (b := 9) eσ2 (by omega))))), k5757.trans (k5731.trans (k7.trans ((kq (a := 9) (b := 10) eσ2 (by omega))))), k5758.trans (k5732.trans (k8.trans ((kq (a := 6) (b := 5) eσ2 (by omega))))), k5759.trans (k5733.trans (k9.trans ((kq (a := 7) (b := 4) eσ2 (by omega))))), k5760.trans (k5734.trans (k10.trans ((kq (a := 2) (b := 4) eσ2 (by omega)))))⟩)
              · have f6028 := tB (jT r15.toNatClampNeg)
                have f6030 := mt Int32.toInt_inj.mp c5749
                unfold fX2_doOrder_j103
                have g6032 : vp_in r15 18 := inI (by omega) (by omega)
                refine ⟨g6032, ?_⟩
                refine ⟨fun c6033 => ?_, fun c6033 => ?_⟩
                · have f6035 : (2 : Int32).toInt = 2 := by decide
                  have f6036 := congrArg Int32.toInt c6033
                  refine sX2_nextDistance hN hσ5727 (fun r6049 σ6037 hσ6037 kk6048 p6050 => ?_)
                  obtain ⟨k6038, k6039, k6040, k6041, k6042, k6043, k6044, k6045, k6046, k6047⟩ := kk6048
                  unfold fX2_doOrder_j122
                  refine ⟨fun c6051 => ?_, fun c6051 => ?_⟩
                  · have f6052 := tB (σ6037.1 3 11)
                    have f6054 := congrArg Int32.toInt c6051
                    intro v6055 ev6055
                    intro σ6056 eσ6056
                    have kb6057 := jobK_b hk1
                    have hσ6056 : K1 σ0 σ6056 := by rw [eσ6056]; exact hσ6037.u (rg_jobK hk1) (by omega) (by omega)
                    have g6059 : vp_in r15 18 := inI (by omega) (by omega)
                    refine ⟨g6059, ?_⟩
                    refine ⟨fun c6060 => ?_, fun c6060 => ?_⟩
                    · have f6063 := congrArg Int32.toInt c6060
                      have f6065 := tB r5739
                      refine sX2_valueFor hN hσ6056 (fun r6079 σ6067 hσ6067 kk6078 p6080 => ?_)
                      obtain ⟨k6068, k6069, k6070, k6071, k6072, k6073, k6074, k6075, k6076, k6077⟩ := kk6078
                      refine ⟨fun c6081 => ?_, fun c6081 => ?_⟩
                      · have f6082 := tB (σ6067.1 3 11)
                        have f6084 := congrArg Int32.toInt c6081
                        have f6085 : (255 : Int32).toInt = 255 := by decide
                        have f6086 := tB r6079
                        refine sX1_setLocal hN hk1 hσ6067 (fun σ6087 hσ6087 kk6099 => ?_)
                        obtain ⟨k6088, k6089, k6090, k6091, k6092, k6093, k6094, k6095, k6096, k6097, k6098⟩ := kk6099
                        unfold fX2_doOrder_j174
                        exact hQ _ hσ6087 (⟨k6091.trans (k6070.trans ((kq (a := 9) (b := 9) eσ6056 (by omega)).trans (k6040.trans (k5730.trans (k6.trans ((kq (a := 9) (b := 9) eσ2 (by omega)))))))), k6092.trans (k6071.trans ((kq (a := 9) (b := 10) eσ6056 (by omega)).trans (k6041.trans (k5731.trans (k7.trans ((kq (a := 9) (b := 10) eσ2 (by omega)))))))), k6093.trans (k6072.trans ((kq (a := 6) (b := 5) eσ6056 (by omega)).trans (k6042.trans (k5732.trans (k8.trans ((kq (a := 6) (b := 5) eσ2 (by omega)))))))), k6094.trans (k6073.trans ((kq (a := 7) (b := 4) eσ6056 (by omega)).trans (k6043.trans (k5733.trans (k9.trans ((kq (a := 7) (b := 4) eσ2 (by omega)))))))), k6095.trans (k6074.trans ((kq (a := 2) (b := 4) eσ6056 (by omega)).trans (k6044.trans (k5734.trans (k10.trans ((kq (a := 2) (b := 4) eσ2 (by omega))))))))⟩)
                      · have f6100 := tB (σ6067.1 3 11)
                        have f6102 := mt Int32.toInt_inj.mp c6081
                        unfold fX2_doOrder_j174
                        exact hQ _ hσ6067 (⟨k6070.trans ((kq (a := 9) (b := 9) eσ6056 (by omega)).trans (k6040.trans (k5730.trans (k6.trans ((kq (a := 9) (b := 9) eσ2 (by omega))))))), k6071.trans ((kq (a := 9) (b := 10) eσ6056 (by omega)).trans (k6041.trans (k5731.trans (k7.trans ((kq (a := 9) (b := 10) eσ2 (by omega))))))), k6072.trans ((kq (a := 6) (b := 5) eσ6056 (by omega)).trans (k6042.trans (k5732.trans (k8.trans ((kq (a := 6) (b := 5) eσ2 (by omega))))))), k6073.trans ((kq (a := 7) (b := 4) eσ6056 (by omega)).trans (k6043.trans (k5733.trans (k9.trans ((kq (a := 7) (b := 4) eσ2 (by omega))))))), k6074.trans ((kq (a := 2) (b := 4) eσ6056 (by omega)).trans (k6044.trans (k5734.trans (k10.trans ((kq (a := 2) (b := 4) eσ2 (by omega)))))))⟩)
                    · have f6105 := mt Int32.toInt_inj.mp c6060
                      have g6107 : vp_in r15 18 := inI (by omega) (by omega)
                      refine ⟨g6107, ?_⟩
                      refine ⟨fun c6108 => ?_, fun c6108 => ?_⟩
                      · have f6111 := congrArg Int32.toInt c6108
                        have f6113 := tB r5739
                        refine sX2_goesThere hN hσ6056 (fun r6128 p6129 => ?_)
                        refine ⟨fun c6130 => ?_, fun c6130 => ?_⟩
                        · have f6131 := tB r6128
                          have f6133 := congrArg Int32.toInt c6130
                          exact hQ _ hσ6056 (⟨(kq (a := 9) (b := 9) eσ6056 (by omega)).trans (k6040.trans (k5730.trans (k6.trans ((kq (a := 9) (b := 9) eσ2 (by omega)))))), (kq (a := 9) (b := 10) eσ6056 (by omega)).trans (k6041.trans (k5731.trans (k7.trans ((kq (a := 9) (b := 10) eσ2 (by omega)))))), (kq (a := 6) (b := 5) eσ6056 (by omega)).trans (k6042.trans (k5732.trans (k8.trans ((kq (a := 6) (b := 5) eσ2 (by omega)))))), (kq (a := 7) (b := 4) eσ6056 (by omega)).trans (k6043.trans (k5733.trans (k9.trans ((kq (a := 7) (b := 4) eσ2 (by omega)))))), (kq (a := 2) (b := 4) eσ6056 (by omega)).trans (k6044.trans (k5734.trans (k10.trans ((kq (a := 2) (b := 4) eσ2 (by omega))))))⟩)
                        · have f6134 := tB r6128
                          have f6136 := mt Int32.toInt_inj.mp c6130
                          intro v6137 ev6137
                          intro σ6138 eσ6138
                          have kb6139 := jobK_b hk1
                          have hσ6138 : K1 σ0 σ6138 := by rw [eσ6138]; exact hσ6056.u (rg_jobK hk1) (by omega) (by omega)
                          exact hQ _ hσ6138 (⟨(kq (a := 9) (b := 9) eσ6138 (by omega)).trans ((kq (a := 9) (b := 9) eσ6056 (by omega)).trans (k6040.trans (k5730.trans (k6.trans ((kq (a := 9) (b := 9) eσ2 (by omega))))))), (kq (a := 9) (b := 10) eσ6138 (by omega)).trans ((kq (a := 9) (b := 10) eσ6056 (by omega)).trans (k6041.trans (k5731.trans (k7.trans ((kq (a := 9) (b := 10) eσ2 (by omega))))))), (kq (a := 6) (b := 5) eσ6138 (by omega)).trans ((kq (a := 6) (b := 5) eσ6056 (by omega)).trans (k6042.trans (k5732.trans (k8.trans ((kq (a := 6) (b := 5) eσ2 (by omega))))))), (kq (a := 7) (b := 4) eσ6138 (by omega)).trans ((kq (a := 7) (b := 4) eσ6056 (by omega)).trans (k6043.trans (k5733.trans (k9.trans ((kq (a := 7) (b := 4) eσ2 (by omega))))))), (kq (a := 2) (b := 4) eσ6138 (by omega)).trans ((kq (a := 2) (b := 4) eσ6056 (by omega)).trans (k6044.trans (k5734.trans (k10.trans ((kq (a := 2) (b := 4) eσ2 (by omega)))))))⟩)
                      · have f6142 := mt Int32.toInt_inj.mp c6108
                        have f6144 := tB r5739
                        have f6147 := K1.g_3_7 hσ6056
                        have q6148 : σ6056.1 3 7 = σ6037.1 3 7 := by rw [eσ6056]; exact congrFun (u1_ne (by omega)) 7
                        have f6149 := congrArg Int32.toInt q6148
                        have f6150 := K1.g_3_7 hσ6037
                        have f6151 := congrArg Int32.toInt k6038
                        have f6152 := K1.g_3_7 hσ5727
                        have f6153 := congrArg Int32.toInt k5728
                        have f6154 := K1.g_3_7 hσ3
                        have f6155 := congrArg Int32.toInt k4
                        have f6156 := K1.g_3_7 hσ2
                        have q6157 : σ2.1 3 7 = σ.1 3 7 := by rw [eσ2, u1_at]; exact if_neg (by decide)
                        have f6158 := congrArg Int32.toInt q6157
                        have f6159 := K1.g_3_7 hσ
                        refine sX2_act hN hk1 (by omega) hσ6056 (fun σ6146 hσ6146 kk6165 => ?_)
                        obtain ⟨k6160, k6161, k6162, k6163, k6164⟩ := kk6165
                        exact hQ _ hσ6146 (⟨k6160.trans ((kq (a := 9) (b := 9) eσ6056 (by omega)).trans (k6040.trans (k5730.trans (k6.trans ((kq (a := 9) (b := 9) eσ2 (by omega))))))), k6161.trans ((kq (a := 9) (b := 10) eσ6056 (by omega)).trans (k6041.trans (k5731.trans (k7.trans ((kq (a := 9) (b := 10) eσ2 (by omega))))))), k6162.trans ((kq (a := 6) (b := 5) eσ6056 (by omega)).trans (k6042.trans (k5732.trans (k8.trans ((kq (a := 6) (b := 5) eσ2 (by omega))))))), k6163.trans ((kq (a := 7) (b := 4) eσ6056 (by omega)).trans (k6043.trans (k5733.trans (k9.trans ((kq (a := 7) (b := 4) eσ2 (by omega))))))), k6164.trans ((kq (a := 2) (b := 4) eσ6056 (by omega)).trans (k6044.trans (k5734.trans (k10.trans ((kq (a := 2) (b := 4) eσ2 (by omega)))))))⟩)
                  · have f6166 := tB (σ6037.1 3 11)
                    have f6168 := mt Int32.toInt_inj.mp c6051
                    exact hQ _ hσ6037 (⟨k6040.trans (k5730.trans (k6.trans ((kq (a := 9) (b := 9) eσ2 (by omega))))), k6041.trans (k5731.trans (k7.trans ((kq (a := 9) (b := 10) eσ2 (by omega))))), k6042.trans (k5732.trans (k8.trans ((kq (a := 6) (b := 5) eσ2 (by omega))))), k6043.trans (k5733.trans (k9.trans ((kq (a := 7) (b := 4) eσ2 (by omega))))), k6044.trans (k5734.trans (k10.trans ((kq (a := 2) (b := 4) eσ2 (by omega)))))⟩)
                · have f6170 : (2 : Int32).toInt = 2 := by decide
                  have f6171 := mt Int32.toInt_inj.mp c6033
                  unfold fX2_doOrder_j122
                  refine ⟨fun c6172 => ?_, fun c6172 => ?_⟩
                  · have f6173 := tB (σ5727.1 3 11)
                    have f6175 := congrArg Int32.toInt c6172
                    intro v6176 ev6176
                    intro σ6177 eσ6177
                    have kb6178 := jobK_b hk1
                    have hσ6177 : K1 σ0 σ6177 := by rw [eσ6177]; exact hσ5727.u (rg_jobK hk1) (by omega) (by omega)
                    have g6180 : vp_in r15 18 := inI (by omega) (by omega)
                    refine ⟨g6180, ?_⟩
                    refine ⟨fun c6181 => ?_, fun c6181 => ?_⟩
                    · have f6184 := congrArg Int32.toInt c6181
                      have f6186 := tB r5739
                      refine sX2_valueFor hN hσ6177 (fun r6200 σ6188 hσ6188 kk6199 p6201 => ?_)
                      obtain ⟨k6189, k6190, k6191, k6192, k6193, k6194, k6195, k6196, k6197, k6198⟩ := kk6199
                      refine ⟨fun c6202 => ?_, fun c6202 => ?_⟩
                      · have f6203 := tB (σ6188.1 3 11)
                        have f6205 := congrArg Int32.toInt c6202
                        have f6206 : (255 : Int32).toInt = 255 := by decide
                        have f6207 := tB r6200
                        refine sX1_setLocal hN hk1 hσ6188 (fun σ6208 hσ6208 kk6220 => ?_)
                        obtain ⟨k6209, k6210, k6211, k6212, k6213, k6214, k6215, k6216, k6217, k6218, k6219⟩ := kk6220
                        unfold fX2_doOrder_j174
                        exact hQ _ hσ6208 (⟨k6212.trans (k6191.trans ((kq (a := 9) (b := 9) eσ6177 (by omega)).trans (k5730.trans (k6.trans ((kq (a := 9) (b := 9) eσ2 (by omega))))))), k6213.trans (k6192.trans ((kq (a := 9) (b := 10) eσ6177 (by omega)).trans (k5731.trans (k7.trans ((kq (a := 9) (b := 10) eσ2 (by omega))))))), k6214.trans (k6193.trans ((kq (a := 6) (b := 5) eσ6177 (by omega)).trans (k5732.trans (k8.trans ((kq (a := 6) (b := 5) eσ2 (by omega))))))), k6215.trans (k6194.trans ((kq (a := 7) (b := 4) eσ6177 (by omega)).trans (k5733.trans (k9.trans ((kq (a := 7) (b := 4) eσ2 (by omega))))))), k6216.trans (k6195.trans ((kq (a := 2) (b := 4) eσ6177 (by omega)).trans (k5734.trans (k10.trans ((kq (a := 2) (b := 4) eσ2 (by omega)))))))⟩)
                      · have f6221 := tB (σ6188.1 3 11)
                        have f6223 := mt Int32.toInt_inj.mp c6202
                        unfold fX2_doOrder_j174
                        exact hQ _ hσ6188 (⟨k6191.trans ((kq (a := 9) (b := 9) eσ6177 (by omega)).trans (k5730.trans (k6.trans ((kq (a := 9) (b := 9) eσ2 (by omega)))))), k6192.trans ((kq (a := 9) (b := 10) eσ6177 (by omega)).trans (k5731.trans (k7.trans ((kq (a := 9) (b := 10) eσ2 (by omega)))))), k6193.trans ((kq (a := 6) (b := 5) eσ6177 (by omega)).trans (k5732.trans (k8.trans ((kq (a := 6) (b := 5) eσ2 (by omega)))))), k6194.trans ((kq (a := 7) (b := 4) eσ6177 (by omega)).trans (k5733.trans (k9.trans ((kq (a := 7) (b := 4) eσ2 (by omega)))))), k6195.trans ((kq (a := 2) (b := 4) eσ6177 (by omega)).trans (k5734.trans (k10.trans ((kq (a := 2) (b := 4) eσ2 (by omega))))))⟩)
                    · have f6226 := mt Int32.toInt_inj.mp c6181
                      have g6228 : vp_in r15 18 := inI (by omega) (by omega)
                      refine ⟨g6228, ?_⟩
                      refine ⟨fun c6229 => ?_, fun c6229 => ?_⟩
                      · have f6232 := congrArg Int32.toInt c6229
                        have f6234 := tB r5739
                        refine sX2_goesThere hN hσ6177 (fun r6249 p6250 => ?_)
                        refine ⟨fun c6251 => ?_, fun c6251 => ?_⟩
                        · have f6252 := tB r6249
                          have f6254 := congrArg Int32.toInt c6251
                          exact hQ _ hσ6177 (⟨(kq (a := 9) (b := 9) eσ6177 (by omega)).trans (k5730.trans (k6.trans ((kq (a := 9) (b := 9) eσ2 (by omega))))), (kq (a := 9) (b := 10) eσ6177 (by omega)).trans (k5731.trans (k7.trans ((kq (a := 9) (b := 10) eσ2 (by omega))))), (kq (a := 6) (b := 5) eσ6177 (by omega)).trans (k5732.trans (k8.trans ((kq (a := 6) (b := 5) eσ2 (by omega))))), (kq (a := 7) (b := 4) eσ6177 (by omega)).trans (k5733.trans (k9.trans ((kq (a := 7) (b := 4) eσ2 (by omega))))), (kq (a := 2) (b := 4) eσ6177 (by omega)).trans (k5734.trans (k10.trans ((kq (a := 2) (b := 4) eσ2 (by omega)))))⟩)
                        · have f6255 := tB r6249
                          have f6257 := mt Int32.toInt_inj.mp c6251
                          intro v6258 ev6258
                          intro σ6259 eσ6259
                          have kb6260 := jobK_b hk1
                          have hσ6259 : K1 σ0 σ6259 := by rw [eσ6259]; exact hσ6177.u (rg_jobK hk1) (by omega) (by omega)
                          exact hQ _ hσ6259 (⟨(kq (a := 9) (b := 9) eσ6259 (by omega)).trans ((kq (a := 9) (b := 9) eσ6177 (by omega)).trans (k5730.trans (k6.trans ((kq (a := 9) (b := 9) eσ2 (by omega)))))), (kq (a := 9) (b := 10) eσ6259 (by omega)).trans ((kq (a := 9) (b := 10) eσ6177 (by omega)).trans (k5731.trans (k7.trans ((kq (a := 9) (b := 10) eσ2 (by omega)))))), (kq (a := 6) (b := 5) eσ6259 (by omega)).trans ((kq (a := 6) (b := 5) eσ6177 (by omega)).trans (k5732.trans (k8.trans ((kq (a := 6) (b := 5) eσ2 (by omega)))))), (kq (a := 7) (b := 4) eσ6259 (by omega)).trans ((kq (a := 7) (b := 4) eσ6177 (by omega)).trans (k5733.trans (k9.trans ((kq (a := 7) (b := 4) eσ2 (by omega)))))), (kq (a := 2) (b := 4) eσ6259 (by omega)).trans ((kq (a := 2) (b := 4) eσ6177 (by omega)).trans (k5734.trans (k10.trans ((kq (a := 2) (b := 4) eσ2 (by omega))))))⟩)
                      · have f6263 := mt Int32.toInt_inj.mp c6229
                        have f6265 := tB r5739
                        have f6268 := K1.g_3_7 hσ6177
                        have q6269 : σ6177.1 3 7 = σ5727.1 3 7 := by rw [eσ6177]; exact congrFun (u1_ne (by omega)) 7
                        have f6270 := congrArg Int32.toInt q6269
                        have f6271 := K1.g_3_7 hσ5727
                        have f6272 := congrArg Int32.toInt k5728
                        have f6273 := K1.g_3_7 hσ3
                        have f6274 := congrArg Int32.toInt k4
                        have f6275 := K1.g_3_7 hσ2
                        have q6276 : σ2.1 3 7 = σ.1 3 7 := by rw [eσ2, u1_at]; exact if_neg (by decide)
                        have f6277 := congrArg Int32.toInt q6276
                        have f6278 := K1.g_3_7 hσ
                        refine sX2_act hN hk1 (by omega) hσ6177 (fun σ6267 hσ6267 kk6284 => ?_)
                        obtain ⟨k6279, k6280, k6281, k6282, k6283⟩ := kk6284
                        exact hQ _ hσ6267 (⟨k6279.trans ((kq (a := 9) (b := 9) eσ6177 (by omega)).trans (k5730.trans (k6.trans ((kq (a := 9) (b := 9) eσ2 (by omega)))))), k6280.trans ((kq (a := 9) (b := 10) eσ6177 (by omega)).trans (k5731.trans (k7.trans ((kq (a := 9) (b := 10) eσ2 (by omega)))))), k6281.trans ((kq (a := 6) (b := 5) eσ6177 (by omega)).trans (k5732.trans (k8.trans ((kq (a := 6) (b := 5) eσ2 (by omega)))))), k6282.trans ((kq (a := 7) (b := 4) eσ6177 (by omega)).trans (k5733.trans (k9.trans ((kq (a := 7) (b := 4) eσ2 (by omega)))))), k6283.trans ((kq (a := 2) (b := 4) eσ6177 (by omega)).trans (k5734.trans (k10.trans ((kq (a := 2) (b := 4) eσ2 (by omega))))))⟩)
                  · have f6285 := tB (σ5727.1 3 11)
                    have f6287 := mt Int32.toInt_inj.mp c6172
                    exact hQ _ hσ5727 (⟨k5730.trans (k6.trans ((kq (a := 9) (b := 9) eσ2 (by omega)))), k5731.trans (k7.trans ((kq (a := 9) (b := 10) eσ2 (by omega)))), k5732.trans (k8.trans ((kq (a := 6) (b := 5) eσ2 (by omega)))), k5733.trans (k9.trans ((kq (a := 7) (b := 4) eσ2 (by omega)))), k5734.trans (k10.trans ((kq (a := 2) (b := 4) eσ2 (by omega))))⟩)
            · have f6289 : (1 : Int32).toInt = 1 := by decide
              have f6290 := mt Int32.le_iff_toInt_le.mpr c5743
              refine sX2_nextValue hN hk1 hσ5727 (fun r6303 σ6291 hσ6291 kk6302 p6304 => ?_)
              obtain ⟨k6292, k6293, k6294, k6295, k6296, k6297, k6298, k6299, k6300, k6301⟩ := kk6302
              unfold fX2_doOrder_j81
              have g6306 : vp_in r15 18 := inI (by omega) (by omega)
              refine ⟨g6306, ?_⟩
              refine ⟨fun c6307 => ?_, fun c6307 => ?_⟩
              · have f6308 := tB (jT r15.toNatClampNeg)
                have f6310 := congrArg Int32.toInt c6307
                refine sX2_nextTarget hN hk1 hσ6291 (fun r6323 σ6311 hσ6311 kk6322 p6324 => ?_)
                obtain ⟨k6312, k6313, k6314, k6315, k6316, k6317, k6318, k6319, k6320, k6321⟩ := kk6322
                unfold fX2_doOrder_j103
                have g6326 : vp_in r15 18 := inI (by omega) (by omega)
                refine ⟨g6326, ?_⟩
                refine ⟨fun c6327 => ?_, fun c6327 => ?_⟩
                · have f6329 : (2 : Int32).toInt = 2 := by decide
                  have f6330 := congrArg Int32.toInt c6327
                  refine sX2_nextDistance hN hσ6311 (fun r6343 σ6331 hσ6331 kk6342 p6344 => ?_)
                  obtain ⟨k6332, k6333, k6334, k6335, k6336, k6337, k6338, k6339, k6340, k6341⟩ := kk6342
                  unfold fX2_doOrder_j122
                  refine ⟨fun c6345 => ?_, fun c6345 => ?_⟩
                  · have f6346 := tB (σ6331.1 3 11)
                    have f6348 := congrArg Int32.toInt c6345
                    intro v6349 ev6349
                    intro σ6350 eσ6350
                    have kb6351 := jobK_b hk1
                    have hσ6350 : K1 σ0 σ6350 := by rw [eσ6350]; exact hσ6331.u (rg_jobK hk1) (by omega) (by omega)
                    have g6353 : vp_in r15 18 := inI (by omega) (by omega)
                    refine ⟨g6353, ?_⟩
                    refine ⟨fun c6354 => ?_, fun c6354 => ?_⟩
                    · have f6357 := congrArg Int32.toInt c6354
                      have f6359 := tB r5739
                      have f6360 := tB r6303
                      refine sX2_valueFor hN hσ6350 (fun r6373 σ6361 hσ6361 kk6372 p6374 => ?_)
                      obtain ⟨k6362, k6363, k6364, k6365, k6366, k6367, k6368, k6369, k6370, k6371⟩ := kk6372
                      refine ⟨fun c6375 => ?_, fun c6375 => ?_⟩
                      · have f6376 := tB (σ6361.1 3 11)
                        have f6378 := congrArg Int32.toInt c6375
                        have f6379 := tB r6323
                        have f6380 := tB r6373
                        refine sX1_setLocal hN hk1 hσ6361 (fun σ6381 hσ6381 kk6393 => ?_)
                        obtain ⟨k6382, k6383, k6384, k6385, k6386, k6387, k6388, k6389, k6390, k6391, k6392⟩ := kk6393
                        unfold fX2_doOrder_j174
                        exact hQ _ hσ6381 (⟨k6385.trans (k6364.trans ((kq (a := 9) (b := 9) eσ6350 (by omega)).trans (k6334.trans (k6314.trans (k6294.trans (k5730.trans (k6.trans ((kq (a := 9) (b := 9) eσ2 (by omega)))))))))), k6386.trans (k6365.trans ((kq (a := 9) (b := 10) eσ6350 (by omega)).trans (k6335.trans (k6315.trans (k6295.trans (k5731.trans (k7.trans ((kq (a := 9) (b := 10) eσ2 (by omega)))))))))), k6387.trans (k6366.trans ((kq (a := 6) (b := 5) eσ6350 (by omega)).trans (k6336.trans (k6316.trans (k6296.trans (k5732.trans (k8.trans ((kq (a := 6) (b := 5) eσ2 (by omega)))))))))), k6388.trans (k6367.trans ((kq (a := 7) (b := 4) eσ6350 (by omega)).trans (k6337.trans (k6317.trans (k6297.trans (k5733.trans (k9.trans ((kq (a := 7) (b := 4) eσ2 (by omega)))))))))), k6389.trans (k6368.trans ((kq (a := 2) (b := 4) eσ6350 (by omega)).trans (k6338.trans (k6318.trans (k6298.trans (k5734.trans (k10.trans ((kq (a := 2) (b := 4) eσ2 (by omega))))))))))⟩)
                      · have f6394 := tB (σ6361.1 3 11)
                        have f6396 := mt Int32.toInt_inj.mp c6375
                        unfold fX2_doOrder_j174
                        exact hQ _ hσ6361 (⟨k6364.trans ((kq (a := 9) (b := 9) eσ6350 (by omega)).trans (k6334.trans (k6314.trans (k6294.trans (k5730.trans (k6.trans ((kq (a := 9) (b := 9) eσ2 (by omega))))))))), k6365.trans ((kq (a := 9) (b := 10) eσ6350 (by omega)).trans (k6335.trans (k6315.trans (k6295.trans (k5731.trans (k7.trans ((kq (a := 9) (b := 10) eσ2 (by omega))))))))), k6366.trans ((kq (a := 6) (b := 5) eσ6350 (by omega)).trans (k6336.trans (k6316.trans (k6296.trans (k5732.trans (k8.trans ((kq (a := 6) (b := 5) eσ2 (by omega))))))))), k6367.trans ((kq (a := 7) (b := 4) eσ6350 (by omega)).trans (k6337.trans (k6317.trans (k6297.trans (k5733.trans (k9.trans ((kq (a := 7) (b := 4) eσ2 (by omega))))))))), k6368.trans ((kq (a := 2) (b := 4) eσ6350 (by omega)).trans (k6338.trans (k6318.trans (k6298.trans (k5734.trans (k10.trans ((kq (a := 2) (b := 4) eσ2 (by omega)))))))))⟩)
                    · have f6399 := mt Int32.toInt_inj.mp c6354
                      have g6401 : vp_in r15 18 := inI (by omega) (by omega)
                      refine ⟨g6401, ?_⟩
                      refine ⟨fun c6402 => ?_, fun c6402 => ?_⟩
                      · have f6405 := congrArg Int32.toInt c6402
                        have f6407 := tB r5739
                        have f6408 := tB r6303
                        refine sX2_goesThere hN hσ6350 (fun r6422 p6423 => ?_)
                        refine ⟨fun c6424 => ?_, fun c6424 => ?_⟩
                        · have f6425 := tB r6422
                          have f6427 := congrArg Int32.toInt c6424
                          exact hQ _ hσ6350 (⟨(kq (a := 9) (b := 9) eσ6350 (by omega)).trans (k6334.trans (k6314.trans (k6294.trans (k5730.trans (k6.trans ((kq (a := 9) (b := 9) eσ2 (by omega)))))))), (kq (a := 9) (b := 10) eσ6350 (by omega)).trans (k6335.trans (k6315.trans (k6295.trans (k5731.trans (k7.trans ((kq (a := 9) (b := 10) eσ2 (by omega)))))))), (kq (a := 6) (b := 5) eσ6350 (by omega)).trans (k6336.trans (k6316.trans (k6296.trans (k5732.trans (k8.trans ((kq (a := 6) (b := 5) eσ2 (by omega)))))))), (kq (a := 7) (b := 4) eσ6350 (by omega)).trans (k6337.trans (k6317.trans (k6297.trans (k5733.trans (k9.trans ((kq (a := 7) (b := 4) eσ2 (by omega)))))))), (kq (a := 2) (b := 4) eσ6350 (by omega)).trans (k6338.trans (k6318.trans (k6298.trans (k5734.trans (k10.trans ((kq (a := 2) (b := 4) eσ2 (by omega))))))))⟩)
                        · have f6428 := tB r6422
                          have f6430 := mt Int32.toInt_inj.mp c6424
                          intro v6431 ev6431
                          intro σ6432 eσ6432
                          have kb6433 := jobK_b hk1
                          have hσ6432 : K1 σ0 σ6432 := by rw [eσ6432]; exact hσ6350.u (rg_jobK hk1) (by omega) (by omega)
                          exact hQ _ hσ6432 (⟨(kq (a := 9) (b := 9) eσ6432 (by omega)).trans ((kq (a := 9) (b := 9) eσ6350 (by omega)).trans (k6334.trans (k6314.trans (k6294.trans (k5730.trans (k6.trans ((kq (a := 9) (b := 9) eσ2 (by omega))))))))), (kq (a := 9) (b := 10) eσ6432 (by omega)).trans ((kq (a := 9) (b := 10) eσ6350 (by omega)).trans (k6335.trans (k6315.trans (k6295.trans (k5731.trans (k7.trans ((kq (a := 9) (b := 10) eσ2 (by omega))))))))), (kq (a := 6) (b := 5) eσ6432 (by omega)).trans ((kq (a := 6) (b := 5) eσ6350 (by omega)).trans (k6336.trans (k6316.trans (k6296.trans (k5732.trans (k8.trans ((kq (a := 6) (b := 5) eσ2 (by omega))))))))), (kq (a := 7) (b := 4) eσ6432 (by omega)).trans ((kq (a := 7) (b := 4) eσ6350 (by omega)).trans (k6337.trans (k6317.trans (k6297.trans (k5733.trans (k9.trans ((kq (a := 7) (b := 4) eσ2 (by omega))))))))), (kq (a := 2) (b := 4) eσ6432 (by omega)).trans ((kq (a := 2) (b := 4) eσ6350 (by omega)).trans (k6338.trans (k6318.trans (k6298.trans (k5734.trans (k10.trans ((kq (a := 2) (b := 4) eσ2 (by omega)))))))))⟩)
                      · have f6436 := mt Int32.toInt_inj.mp c6402
                        have f6438 := tB r5739
                        have f6439 := tB r6303
                        have f6441 := K1.g_3_7 hσ6350
                        have q6442 : σ6350.1 3 7 = σ6331.1 3 7 := by rw [eσ6350]; exact congrFun (u1_ne (by omega)) 7
                        have f6443 := congrArg Int32.toInt q6442
                        have f6444 := K1.g_3_7 hσ6331
                        have f6445 := congrArg Int32.toInt k6332
                        have f6446 := K1.g_3_7 hσ6311
                        have f6447 := congrArg Int32.toInt k6312
                        have f6448 := K1.g_3_7 hσ6291
                        have f6449 := congrArg Int32.toInt k6292
                        have f6450 := K1.g_3_7 hσ5727
                        have f6451 := congrArg Int32.toInt k5728
                        have f6452 := K1.g_3_7 hσ3
                        have f6453 := congrArg Int32.toInt k4
                        have f6454 := K1.g_3_7 hσ2
                        have q6455 : σ2.1 3 7 = σ.1 3 7 := by rw [eσ2, u1_at]; exact if_neg (by decide)
                        have f6456 := congrArg Int32.toInt q6455
                        have f6457 := K1.g_3_7 hσ
                        refine sX2_act hN hk1 (by omega) hσ6350 (fun σ6440 hσ6440 kk6463 => ?_)
                        obtain ⟨k6458, k6459, k6460, k6461, k6462⟩ := kk6463
                        exact hQ _ hσ6440 (⟨k6458.trans ((kq (a := 9) (b := 9) eσ6350 (by omega)).trans (k6334.trans (k6314.trans (k6294.trans (k5730.trans (k6.trans ((kq (a := 9) (b := 9) eσ2 (by omega))))))))), k6459.trans ((kq (a := 9) (b := 10) eσ6350 (by omega)).trans (k6335.trans (k6315.trans (k6295.trans (k5731.trans (k7.trans ((kq (a := 9) (b := 10) eσ2 (by omega))))))))), k6460.trans ((kq (a := 6) (b := 5) eσ6350 (by omega)).trans (k6336.trans (k6316.trans (k6296.trans (k5732.trans (k8.trans ((kq (a := 6) (b := 5) eσ2 (by omega))))))))), k6461.trans ((kq (a := 7) (b := 4) eσ6350 (by omega)).trans (k6337.trans (k6317.trans (k6297.trans (k5733.trans (k9.trans ((kq (a := 7) (b := 4) eσ2 (by omega))))))))), k6462.trans ((kq (a := 2) (b := 4) eσ6350 (by omega)).trans (k6338.trans (k6318.trans (k6298.trans (k5734.trans (k10.trans ((kq (a := 2) (b := 4) eσ2 (by omega)))))))))⟩)
                  · have f6464 := tB (σ6331.1 3 11)
                    have f6466 := mt Int32.toInt_inj.mp c6345
                    exact hQ _ hσ6331 (⟨k6334.trans (k6314.trans (k6294.trans (k5730.trans (k6.trans ((kq (a := 9) (b := 9) eσ2 (by omega))))))), k6335.trans (k6315.trans (k6295.trans (k5731.trans (k7.trans ((kq (a := 9) (b := 10) eσ2 (by omega))))))), k6336.trans (k6316.trans (k6296.trans (k5732.trans (k8.trans ((kq (a := 6) (b := 5) eσ2 (by omega))))))), k6337.trans (k6317.trans (k6297.trans (k5733.trans (k9.trans ((kq (a := 7) (b := 4) eσ2 (by omega))))))), k6338.trans (k6318.trans (k6298.trans (k5734.trans (k10.trans ((kq (a := 2) (b := 4) eσ2 (by omega)))))))⟩)
                · have f6468 : (2 : Int32).toInt = 2 := by decide
                  have f6469 := mt Int32.toInt_inj.mp c6327
                  unfold fX2_doOrder_j122
                  refine ⟨fun c6470 => ?_, fun c6470 => ?_⟩
                  · have f6471 := tB (σ6311.1 3 11)
                    have f6473 := congrArg Int32.toInt c6470
                    intro v6474 ev6474
                    intro σ6475 eσ6475
                    have kb6476 := jobK_b hk1
                    have hσ6475 : K1 σ0 σ6475 := by rw [eσ6475]; exact hσ6311.u (rg_jobK hk1) (by omega) (by omega)
                    have g6478 : vp_in r15 18 := inI (by omega) (by omega)
                    refine ⟨g6478, ?_⟩
                    refine ⟨fun c6479 => ?_, fun c6479 => ?_⟩
                    · have f6482 := congrArg Int32.toInt c6479
                      have f6484 := tB r5739
                      have f6485 := tB r6303
                      refine sX2_valueFor hN hσ6475 (fun r6498 σ6486 hσ6486 kk6497 p6499 => ?_)
                      obtain ⟨k6487, k6488, k6489, k6490, k6491, k6492, k6493, k6494, k6495, k6496⟩ := kk6497
                      refine ⟨fun c6500 => ?_, fun c6500 => ?_⟩
                      · have f6501 := tB (σ6486.1 3 11)
                        have f6503 := congrArg Int32.toInt c6500
                        have f6504 := tB r6323
                        have f6505 := tB r6498
                        refine sX1_setLocal hN hk1 hσ6486 (fun σ6506 hσ6506 kk6518 => ?_)
                        obtain ⟨k6507, k6508, k6509, k6510, k6511, k6512, k6513, k6514, k6515, k6516, k6517⟩ := kk6518
                        unfold fX2_doOrder_j174
                        exact hQ _ hσ6506 (⟨k6510.trans (k6489.trans ((kq (a := 9) (b := 9) eσ6475 (by omega)).trans (k6314.trans (k6294.trans (k5730.trans (k6.trans ((kq (a := 9) (b := 9) eσ2 (by omega))))))))), k6511.trans (k6490.trans ((kq (a := 9) (b := 10) eσ6475 (by omega)).trans (k6315.trans (k6295.trans (k5731.trans (k7.trans ((kq (a := 9) (b := 10) eσ2 (by omega))))))))), k6512.trans (k6491.trans ((kq (a := 6) (b := 5) eσ6475 (by omega)).trans (k6316.trans (k6296.trans (k5732.trans (k8.trans ((kq (a := 6) (b := 5) eσ2 (by omega))))))))), k6513.trans (k6492.trans ((kq (a := 7) (b := 4) eσ6475 (by omega)).trans (k6317.trans (k6297.trans (k5733.trans (k9.trans ((kq (a := 7) (b := 4) eσ2 (by omega))))))))), k6514.trans (k6493.trans ((kq (a := 2) (b := 4) eσ6475 (by omega)).trans (k6318.trans (k6298.trans (k5734.trans (k10.trans ((kq (a := 2) (b := 4) eσ2 (by omega)))))))))⟩)
                      · have f6519 := tB (σ6486.1 3 11)
                        have f6521 := mt Int32.toInt_inj.mp c6500
                        unfold fX2_doOrder_j174
                        exact hQ _ hσ6486 (⟨k6489.trans ((kq (a := 9) (b := 9) eσ6475 (by omega)).trans (k6314.trans (k6294.trans (k5730.trans (k6.trans ((kq (a := 9) (b := 9) eσ2 (by omega)))))))), k6490.trans ((kq (a := 9) (b := 10) eσ6475 (by omega)).trans (k6315.trans (k6295.trans (k5731.trans (k7.trans ((kq (a := 9) (b := 10) eσ2 (by omega)))))))), k6491.trans ((kq (a := 6) (b := 5) eσ6475 (by omega)).trans (k6316.trans (k6296.trans (k5732.trans (k8.trans ((kq (a := 6) (b := 5) eσ2 (by omega)))))))), k6492.trans ((kq (a := 7) (b := 4) eσ6475 (by omega)).trans (k6317.trans (k6297.trans (k5733.trans (k9.trans ((kq (a := 7) (b := 4) eσ2 (by omega)))))))), k6493.trans ((kq (a := 2) (b := 4) eσ6475 (by omega)).trans (k6318.trans (k6298.trans (k5734.trans (k10.trans ((kq (a := 2) (b := 4) eσ2 (by omega))))))))⟩)
                    · have f6524 := mt Int32.toInt_inj.mp c6479
                      have g6526 : vp_in r15 18 := inI (by omega) (by omega)
                      refine ⟨g6526, ?_⟩
                      refine ⟨fun c6527 => ?_, fun c6527 => ?_⟩
                      · have f6530 := congrArg Int32.toInt c6527
                        have f6532 := tB r5739
                        have f6533 := tB r6303
                        refine sX2_goesThere hN hσ6475 (fun r6547 p6548 => ?_)
                        refine ⟨fun c6549 => ?_, fun c6549 => ?_⟩
                        · have f6550 := tB r6547
                          have f6552 := congrArg Int32.toInt c6549
                          exact hQ _ hσ6475 (⟨(kq (a := 9) (b := 9) eσ6475 (by omega)).trans (k6314.trans (k6294.trans (k5730.trans (k6.trans ((kq (a := 9) (b := 9) eσ2 (by omega))))))), (kq (a := 9) (b := 10) eσ6475 (by omega)).trans (k6315.trans (k6295.trans (k5731.trans (k7.trans ((kq (a := 9) (b := 10) eσ2 (by omega))))))), (kq (a := 6) (b := 5) eσ6475 (by omega)).trans (k6316.trans (k6296.trans (k5732.trans (k8.trans ((kq (a := 6) (b := 5) eσ2 (by omega))))))), (kq (a := 7) (b := 4) eσ6475 (by omega)).trans (k6317.trans (k6297.trans (k5733.trans (k9.trans ((kq (a := 7) (b := 4) eσ2 (by omega))))))), (kq (a := 2) (b := 4) eσ6475 (by omega)).trans (k6318.trans (k6298.trans (k5734.trans (k10.trans ((kq (a := 2) (b := 4) eσ2 (by omega)))))))⟩)
                        · have f6553 := tB r6547
                          have f6555 := mt Int32.toInt_inj.mp c6549
                          intro v6556 ev6556
                          intro σ6557 eσ6557
                          have kb6558 := jobK_b hk1
                          have hσ6557 : K1 σ0 σ6557 := by rw [eσ6557]; exact hσ6475.u (rg_jobK hk1) (by omega) (by omega)
                          exact hQ _ hσ6557 (⟨(kq (a := 9) (b := 9) eσ6557 (by omega)).trans ((kq (a := 9) (b := 9) eσ6475 (by omega)).trans (k6314.trans (k6294.trans (k5730.trans (k6.trans ((kq (a := 9) (b := 9) eσ2 (by omega)))))))), (kq (a := 9) (b := 10) eσ6557 (by omega)).trans ((kq (a := 9) (b := 10) eσ6475 (by omega)).trans (k6315.trans (k6295.trans (k5731.trans (k7.trans ((kq (a := 9) (b := 10) eσ2 (by omega)))))))), (kq (a := 6) (b := 5) eσ6557 (by omega)).trans ((kq (a := 6) (b := 5) eσ6475 (by omega)).trans (k6316.trans (k6296.trans (k5732.trans (k8.trans ((kq (a := 6) (b := 5) eσ2 (by omega)))))))), (kq (a := 7) (b := 4) eσ6557 (by omega)).trans ((kq (a := 7) (b := 4) eσ6475 (by omega)).trans (k6317.trans (k6297.trans (k5733.trans (k9.trans ((kq (a := 7) (b := 4) eσ2 (by omega)))))))), (kq (a := 2) (b := 4) eσ6557 (by omega)).trans ((kq (a := 2) (b := 4) eσ6475 (by omega)).trans (k6318.trans (k6298.trans (k5734.trans (k10.trans ((kq (a := 2) (b := 4) eσ2 (by omega))))))))⟩)
                      · have f6561 := mt Int32.toInt_inj.mp c6527
                        have f6563 := tB r5739
                        have f6564 := tB r6303
                        have f6566 := K1.g_3_7 hσ6475
                        have q6567 : σ6475.1 3 7 = σ6311.1 3 7 := by rw [eσ6475]; exact congrFun (u1_ne (by omega)) 7
                        have f6568 := congrArg Int32.toInt q6567
                        have f6569 := K1.g_3_7 hσ6311
                        have f6570 := congrArg Int32.toInt k6312
                        have f6571 := K1.g_3_7 hσ6291
                        have f6572 := congrArg Int32.toInt k6292
                        have f6573 := K1.g_3_7 hσ5727
                        have f6574 := congrArg Int32.toInt k5728
                        have f6575 := K1.g_3_7 hσ3
                        have f6576 := congrArg Int32.toInt k4
                        have f6577 := K1.g_3_7 hσ2
                        have q6578 : σ2.1 3 7 = σ.1 3 7 := by rw [eσ2, u1_at]; exact if_neg (by decide)
                        have f6579 := congrArg Int32.toInt q6578
                        have f6580 := K1.g_3_7 hσ
                        refine sX2_act hN hk1 (by omega) hσ6475 (fun σ6565 hσ6565 kk6586 => ?_)
                        obtain ⟨k6581, k6582, k6583, k6584, k6585⟩ := kk6586
                        exact hQ _ hσ6565 (⟨k6581.trans ((kq (a := 9) (b := 9) eσ6475 (by omega)).trans (k6314.trans (k6294.trans (k5730.trans (k6.trans ((kq (a := 9) (b := 9) eσ2 (by omega)))))))), k6582.trans ((kq (a := 9) (b := 10) eσ6475 (by omega)).trans (k6315.trans (k6295.trans (k5731.trans (k7.trans ((kq (a := 9) (b := 10) eσ2 (by omega)))))))), k6583.trans ((kq (a := 6) (b := 5) eσ6475 (by omega)).trans (k6316.trans (k6296.trans (k5732.trans (k8.trans ((kq (a := 6) (b := 5) eσ2 (by omega)))))))), k6584.trans ((kq (a := 7) (b := 4) eσ6475 (by omega)).trans (k6317.trans (k6297.trans (k5733.trans (k9.trans ((kq (a := 7) (b := 4) eσ2 (by omega)))))))), k6585.trans ((kq (a := 2) (b := 4) eσ6475 (by omega)).trans (k6318.trans (k6298.trans (k5734.trans (k10.trans ((kq (a := 2) (b := 4) eσ2 (by omega))))))))⟩)
                  · have f6587 := tB (σ6311.1 3 11)
                    have f6589 := mt Int32.toInt_inj.mp c6470
                    exact hQ _ hσ6311 (⟨k6314.trans (k6294.trans (k5730.trans (k6.trans ((kq (a := 9) (b := 9) eσ2 (by omega)))))), k6315.trans (k6295.trans (k5731.trans (k7.trans ((kq (a := 9) (b := 10) eσ2 (by omega)))))), k6316.trans (k6296.trans (k5732.trans (k8.trans ((kq (a := 6) (b := 5) eσ2 (by omega)))))), k6317.trans (k6297.trans (k5733.trans (k9.trans ((kq (a := 7) (b := 4) eσ2 (by omega)))))), k6318.trans (k6298.trans (k5734.trans (k10.trans ((kq (a := 2) (b := 4) eσ2 (by omega))))))⟩)
              · have f6590 := tB (jT r15.toNatClampNeg)
                have f6592 := mt Int32.toInt_inj.mp c6307
                unfold fX2_doOrder_j103
                have g6594 : vp_in r15 18 := inI (by omega) (by omega)
                refine ⟨g6594, ?_⟩
                refine ⟨fun c6595 => ?_, fun c6595 => ?_⟩
                · have f6597 : (2 : Int32).toInt = 2 := by decide
                  have f6598 := congrArg Int32.toInt c6595
                  refine sX2_nextDistance hN hσ6291 (fun r6611 σ6599 hσ6599 kk6610 p6612 => ?_)
                  obtain ⟨k6600, k6601, k6602, k6603, k6604, k6605, k6606, k6607, k6608, k6609⟩ := kk6610
                  unfold fX2_doOrder_j122
                  refine ⟨fun c6613 => ?_, fun c6613 => ?_⟩
                  · have f6614 := tB (σ6599.1 3 11)
                    have f6616 := congrArg Int32.toInt c6613
                    intro v6617 ev6617
                    intro σ6618 eσ6618
                    have kb6619 := jobK_b hk1
                    have hσ6618 : K1 σ0 σ6618 := by rw [eσ6618]; exact hσ6599.u (rg_jobK hk1) (by omega) (by omega)
                    have g6621 : vp_in r15 18 := inI (by omega) (by omega)
                    refine ⟨g6621, ?_⟩
                    refine ⟨fun c6622 => ?_, fun c6622 => ?_⟩
                    · have f6625 := congrArg Int32.toInt c6622
                      have f6627 := tB r5739
                      have f6628 := tB r6303
                      refine sX2_valueFor hN hσ6618 (fun r6641 σ6629 hσ6629 kk6640 p6642 => ?_)
                      obtain ⟨k6630, k6631, k6632, k6633, k6634, k6635, k6636, k6637, k6638, k6639⟩ := kk6640
                      refine ⟨fun c6643 => ?_, fun c6643 => ?_⟩
                      · have f6644 := tB (σ6629.1 3 11)
                        have f6646 := congrArg Int32.toInt c6643
                        have f6647 : (255 : Int32).toInt = 255 := by decide
                        have f6648 := tB r6641
                        refine sX1_setLocal hN hk1 hσ6629 (fun σ6649 hσ6649 kk6661 => ?_)
                        obtain ⟨k6650, k6651, k6652, k6653, k6654, k6655, k6656, k6657, k6658, k6659, k6660⟩ := kk6661
                        unfold fX2_doOrder_j174
                        exact hQ _ hσ6649 (⟨k6653.trans (k6632.trans ((kq (a := 9) (b := 9) eσ6618 (by omega)).trans (k6602.trans (k6294.trans (k5730.trans (k6.trans ((kq (a := 9) (b := 9) eσ2 (by omega))))))))), k6654.trans (k6633.trans ((kq (a := 9) (b := 10) eσ6618 (by omega)).trans (k6603.trans (k6295.trans (k5731.trans (k7.trans ((kq (a := 9) (b := 10) eσ2 (by omega))))))))), k6655.trans (k6634.trans ((kq (a := 6) (b := 5) eσ6618 (by omega)).trans (k6604.trans (k6296.trans (k5732.trans (k8.trans ((kq (a := 6) (b := 5) eσ2 (by omega))))))))), k6656.trans (k6635.trans ((kq (a := 7) (b := 4) eσ6618 (by omega)).trans (k6605.trans (k6297.trans (k5733.trans (k9.trans ((kq (a := 7) (b := 4) eσ2 (by omega))))))))), k6657.trans (k6636.trans ((kq (a := 2) (b := 4) eσ6618 (by omega)).trans (k6606.trans (k6298.trans (k5734.trans (k10.trans ((kq (a := 2) (b := 4) eσ2 (by omega)))))))))⟩)
                      · have f6662 := tB (σ6629.1 3 11)
                        have f6664 := mt Int32.toInt_inj.mp c6643
                        unfold fX2_doOrder_j174
                        exact hQ _ hσ6629 (⟨k6632.trans ((kq (a := 9) (b := 9) eσ6618 (by omega)).trans (k6602.trans (k6294.trans (k5730.trans (k6.trans ((kq (a := 9) (b := 9) eσ2 (by omega)))))))), k6633.trans ((kq (a := 9) (b := 10) eσ6618 (by omega)).trans (k6603.trans (k6295.trans (k5731.trans (k7.trans ((kq (a := 9) (b := 10) eσ2 (by omega)))))))), k6634.trans ((kq (a := 6) (b := 5) eσ6618 (by omega)).trans (k6604.trans (k6296.trans (k5732.trans (k8.trans ((kq (a := 6) (b := 5) eσ2 (by omega)))))))), k6635.trans ((kq (a := 7) (b := 4) eσ6618 (by omega)).trans (k6605.trans (k6297.trans (k5733.trans (k9.trans ((kq (a := 7) (b := 4) eσ2 (by omega)))))))), k6636.trans ((kq (a := 2) (b := 4) eσ6618 (by omega)).trans (k6606.trans (k6298.trans (k5734.trans (k10.trans ((kq (a := 2) (b := 4) eσ2 (by omega))))))))⟩)
                    · have f6667 := mt Int32.toInt_inj.mp c6622
                      have g6669 : vp_in r15 18 := inI (by omega) (by omega)
                      refine ⟨g6669, ?_⟩
                      refine ⟨fun c6670 => ?_, fun c6670 => ?_⟩
                      · have f6673 := congrArg Int32.toInt c6670
                        have f6675 := tB r5739
                        have f6676 := tB r6303
                        refine sX2_goesThere hN hσ6618 (fun r6690 p6691 => ?_)
                        refine ⟨fun c6692 => ?_, fun c6692 => ?_⟩
                        · have f6693 := tB r6690
                          have f6695 := congrArg Int32.toInt c6692
                          exact hQ _ hσ6618 (⟨(kq (a := 9) (b := 9) eσ6618 (by omega)).trans (k6602.trans (k6294.trans (k5730.trans (k6.trans ((kq (a := 9) (b := 9) eσ2 (by omega))))))), (kq (a := 9) (b := 10) eσ6618 (by omega)).trans (k6603.trans (k6295.trans (k5731.trans (k7.trans ((kq (a := 9) (b := 10) eσ2 (by omega))))))), (kq (a := 6) (b := 5) eσ6618 (by omega)).trans (k6604.trans (k6296.trans (k5732.trans (k8.trans ((kq (a := 6) (b := 5) eσ2 (by omega))))))), (kq (a := 7) (b := 4) eσ6618 (by omega)).trans (k6605.trans (k6297.trans (k5733.trans (k9.trans ((kq (a := 7) (b := 4) eσ2 (by omega))))))), (kq (a := 2) (b := 4) eσ6618 (by omega)).trans (k6606.trans (k6298.trans (k5734.trans (k10.trans ((kq (a := 2) (b := 4) eσ2 (by omega)))))))⟩)
                        · have f6696 := tB r6690
                          have f6698 := mt Int32.toInt_inj.mp c6692
                          intro v6699 ev6699
                          intro σ6700 eσ6700
                          have kb6701 := jobK_b hk1
                          have hσ6700 : K1 σ0 σ6700 := by rw [eσ6700]; exact hσ6618.u (rg_jobK hk1) (by omega) (by omega)
                          exact hQ _ hσ6700 (⟨(kq (a := 9) (b := 9) eσ6700 (by omega)).trans ((kq (a := 9) (b := 9) eσ6618 (by omega)).trans (k6602.trans (k6294.trans (k5730.trans (k6.trans ((kq (a := 9) (b := 9) eσ2 (by omega)))))))), (kq (a := 9) (b := 10) eσ6700 (by omega)).trans ((kq (a := 9) (b := 10) eσ6618 (by omega)).trans (k6603.trans (k6295.trans (k5731.trans (k7.trans ((kq (a := 9) (b := 10) eσ2 (by omega)))))))), (kq (a := 6) (b := 5) eσ6700 (by omega)).trans ((kq (a := 6) (b := 5) eσ6618 (by omega)).trans (k6604.trans (k6296.trans (k5732.trans (k8.trans ((kq (a := 6) (b := 5) eσ2 (by omega)))))))), (kq (a := 7) (b := 4) eσ6700 (by omega)).trans ((kq (a := 7) (b := 4) eσ6618 (by omega)).trans (k6605.trans (k6297.trans (k5733.trans (k9.trans ((kq (a := 7) (b := 4) eσ2 (by omega)))))))), (kq (a := 2) (b := 4) eσ6700 (by omega)).trans ((kq (a := 2) (b := 4) eσ6618 (by omega)).trans (k6606.trans (k6298.trans (k5734.trans (k10.trans ((kq (a := 2) (b := 4) eσ2 (by omega))))))))⟩)
                      · have f6704 := mt Int32.toInt_inj.mp c6670
                        have f6706 := tB r5739
                        have f6707 := tB r6303
                        have f6709 := K1.g_3_7 hσ6618
                        have q6710 : σ6618.1 3 7 = σ6599.1 3 7 := by rw [eσ6618]; exact congrFun (u1_ne (by omega)) 7
                        have f6711 := congrArg Int32.toInt q6710
                        have f6712 := K1.g_3_7 hσ6599
                        have f6713 := congrArg Int32.toInt k6600
                        have f6714 := K1.g_3_7 hσ6291
                        have f6715 := congrArg Int32.toInt k6292
                        have f6716 := K1.g_3_7 hσ5727
                        have f6717 := congrArg Int32.toInt k5728
                        have f6718 := K1.g_3_7 hσ3
                        have f6719 := congrArg Int32.toInt k4
                        have f6720 := K1.g_3_7 hσ2
                        have q6721 : σ2.1 3 7 = σ.1 3 7 := by rw [eσ2, u1_at]; exact if_neg (by decide)
                        have f6722 := congrArg Int32.toInt q6721
                        have f6723 := K1.g_3_7 hσ
                        refine sX2_act hN hk1 (by omega) hσ6618 (fun σ6708 hσ6708 kk6729 => ?_)
                        obtain ⟨k6724, k6725, k6726, k6727, k6728⟩ := kk6729
                        exact hQ _ hσ6708 (⟨k6724.trans ((kq (a := 9) (b := 9) eσ6618 (by omega)).trans (k6602.trans (k6294.trans (k5730.trans (k6.trans ((kq (a := 9) (b := 9) eσ2 (by omega)))))))), k6725.trans ((kq (a := 9) (b := 10) eσ6618 (by omega)).trans (k6603.trans (k6295.trans (k5731.trans (k7.trans ((kq (a := 9) (b := 10) eσ2 (by omega)))))))), k6726.trans ((kq (a := 6) (b := 5) eσ6618 (by omega)).trans (k6604.trans (k6296.trans (k5732.trans (k8.trans ((kq (a := 6) (b := 5) eσ2 (by omega)))))))), k6727.trans ((kq (a := 7) (b := 4) eσ6618 (by omega)).trans (k6605.trans (k6297.trans (k5733.trans (k9.trans ((kq (a := 7) (b := 4) eσ2 (by omega)))))))), k6728.trans ((kq (a := 2) (b := 4) eσ6618 (by omega)).trans (k6606.trans (k6298.trans (k5734.trans (k10.trans ((kq (a := 2) (b := 4) eσ2 (by omega))))))))⟩)
                  · have f6730 := tB (σ6599.1 3 11)
                    have f6732 := mt Int32.toInt_inj.mp c6613
                    exact hQ _ hσ6599 (⟨k6602.trans (k6294.trans (k5730.trans (k6.trans ((kq (a := 9) (b := 9) eσ2 (by omega)))))), k6603.trans (k6295.trans (k5731.trans (k7.trans ((kq (a := 9) (b := 10) eσ2 (by omega)))))), k6604.trans (k6296.trans (k5732.trans (k8.trans ((kq (a := 6) (b := 5) eσ2 (by omega)))))), k6605.trans (k6297.trans (k5733.trans (k9.trans ((kq (a := 7) (b := 4) eσ2 (by omega)))))), k6606.trans (k6298.trans (k5734.trans (k10.trans ((kq (a := 2) (b := 4) eσ2 (by omega))))))⟩)
                · have f6734 : (2 : Int32).toInt = 2 := by decide
                  have f6735 := mt Int32.toInt_inj.mp c6595
                  unfold fX2_doOrder_j122
                  refine ⟨fun c6736 => ?_, fun c6736 => ?_⟩
                  · have f6737 := tB (σ6291.1 3 11)
                    have f6739 := congrArg Int32.toInt c6736
                    intro v6740 ev6740
                    intro σ6741 eσ6741
                    have kb6742 := jobK_b hk1
                    have hσ6741 : K1 σ0 σ6741 := by rw [eσ6741]; exact hσ6291.u (rg_jobK hk1) (by omega) (by omega)
                    have g6744 : vp_in r15 18 := inI (by omega) (by omega)
                    refine ⟨g6744, ?_⟩
                    refine ⟨fun c6745 => ?_, fun c6745 => ?_⟩
                    · have f6748 := congrArg Int32.toInt c6745
                      have f6750 := tB r5739
                      have f6751 := tB r6303
                      refine sX2_valueFor hN hσ6741 (fun r6764 σ6752 hσ6752 kk6763 p6765 => ?_)
                      obtain ⟨k6753, k6754, k6755, k6756, k6757, k6758, k6759, k6760, k6761, k6762⟩ := kk6763
                      refine ⟨fun c6766 => ?_, fun c6766 => ?_⟩
                      · have f6767 := tB (σ6752.1 3 11)
                        have f6769 := congrArg Int32.toInt c6766
                        have f6770 : (255 : Int32).toInt = 255 := by decide
                        have f6771 := tB r6764
                        refine sX1_setLocal hN hk1 hσ6752 (fun σ6772 hσ6772 kk6784 => ?_)
                        obtain ⟨k6773, k6774, k6775, k6776, k6777, k6778, k6779, k6780, k6781, k6782, k6783⟩ := kk6784
                        unfold fX2_doOrder_j174
                        exact hQ _ hσ6772 (⟨k6776.trans (k6755.trans ((kq (a := 9) (b := 9) eσ6741 (by omega)).trans (k6294.trans (k5730.trans (k6.trans ((kq (a := 9) (b := 9) eσ2 (by omega)))))))), k6777.trans (k6756.trans ((kq (a := 9) (b := 10) eσ6741 (by omega)).trans (k6295.trans (k5731.trans (k7.trans ((kq (a := 9) (b := 10) eσ2 (by omega)))))))), k6778.trans (k6757.trans ((kq (a := 6) (b := 5) eσ6741 (by omega)).trans (k6296.trans (k5732.trans (k8.trans ((kq (a := 6) (b := 5) eσ2 (by omega)))))))), k6779.trans (k6758.trans ((kq (a := 7) (b := 4) eσ6741 (by omega)).trans (k6297.trans (k5733.trans (k9.trans ((kq (a := 7) (b := 4) eσ2 (by omega)))))))), k6780.trans (k6759.trans ((kq (a := 2) (b := 4) eσ6741 (by omega)).trans (k6298.trans (k5734.trans (k10.trans ((kq (a := 2) (b := 4) eσ2 (by omega))))))))⟩)
                      · have f6785 := tB (σ6752.1 3 11)
                        have f6787 := mt Int32.toInt_inj.mp c6766
                        unfold fX2_doOrder_j174
                        exact hQ _ hσ6752 (⟨k6755.trans ((kq (a := 9) (b := 9) eσ6741 (by omega)).trans (k6294.trans (k5730.trans (k6.trans ((kq (a := 9) (b := 9) eσ2 (by omega))))))), k6756.trans ((kq (a := 9) (b := 10) eσ6741 (by omega)).trans (k6295.trans (k5731.trans (k7.trans ((kq (a := 9) (b := 10) eσ2 (by omega))))))), k6757.trans ((kq (a := 6) (b := 5) eσ6741 (by omega)).trans (k6296.trans (k5732.trans (k8.trans ((kq (a := 6) (b := 5) eσ2 (by omega))))))), k6758.trans ((kq (a := 7) (b := 4) eσ6741 (by omega)).trans (k6297.trans (k5733.trans (k9.trans ((kq (a := 7) (b := 4) eσ2 (by omega))))))), k6759.trans ((kq (a := 2) (b := 4) eσ6741 (by omega)).trans (k6298.trans (k5734.trans (k10.trans ((kq (a := 2) (b := 4) eσ2 (by omega)))))))⟩)
                    · have f6790 := mt Int32.toInt_inj.mp c6745
                      have g6792 : vp_in r15 18 := inI (by omega) (by omega)
                      refine ⟨g6792, ?_⟩
                      refine ⟨fun c6793 => ?_, fun c6793 => ?_⟩
                      · have f6796 := congrArg Int32.toInt c6793
                        have f6798 := tB r5739
                        have f6799 := tB r6303
                        refine sX2_goesThere hN hσ6741 (fun r6813 p6814 => ?_)
                        refine ⟨fun c6815 => ?_, fun c6815 => ?_⟩
                        · have f6816 := tB r6813
                          have f6818 := congrArg Int32.toInt c6815
                          exact hQ _ hσ6741 (⟨(kq (a := 9) (b := 9) eσ6741 (by omega)).trans (k6294.trans (k5730.trans (k6.trans ((kq (a := 9) (b := 9) eσ2 (by omega)))))), (kq (a := 9) (b := 10) eσ6741 (by omega)).trans (k6295.trans (k5731.trans (k7.trans ((kq (a := 9) (b := 10) eσ2 (by omega)))))), (kq (a := 6) (b := 5) eσ6741 (by omega)).trans (k6296.trans (k5732.trans (k8.trans ((kq (a := 6) (b := 5) eσ2 (by omega)))))), (kq (a := 7) (b := 4) eσ6741 (by omega)).trans (k6297.trans (k5733.trans (k9.trans ((kq (a := 7) (b := 4) eσ2 (by omega)))))), (kq (a := 2) (b := 4) eσ6741 (by omega)).trans (k6298.trans (k5734.trans (k10.trans ((kq (a := 2) (b := 4) eσ2 (by omega))))))⟩)
                        · have f6819 := tB r6813
                          have f6821 := mt Int32.toInt_inj.mp c6815
                          intro v6822 ev6822
                          intro σ6823 eσ6823
                          have kb6824 := jobK_b hk1
                          have hσ6823 : K1 σ0 σ6823 := by rw [eσ6823]; exact hσ6741.u (rg_jobK hk1) (by omega) (by omega)
                          exact hQ _ hσ6823 (⟨(kq (a := 9) (b := 9) eσ6823 (by omega)).trans ((kq (a := 9) (b := 9) eσ6741 (by omega)).trans (k6294.trans (k5730.trans (k6.trans ((kq (a := 9) (b := 9) eσ2 (by omega))))))), (kq (a := 9) (b := 10) eσ6823 (by omega)).trans ((kq (a := 9) (b := 10) eσ6741 (by omega)).trans (k6295.trans (k5731.trans (k7.trans ((kq (a := 9) (b := 10) eσ2 (by omega))))))), (kq (a := 6) (b := 5) eσ6823 (by omega)).trans ((kq (a := 6) (b := 5) eσ6741 (by omega)).trans (k6296.trans (k5732.trans (k8.trans ((kq (a := 6) (b := 5) eσ2 (by omega))))))), (kq (a := 7) (b := 4) eσ6823 (by omega)).trans ((kq (a := 7) (b := 4) eσ6741 (by omega)).trans (k6297.trans (k5733.trans (k9.trans ((kq (a := 7) (b := 4) eσ2 (by omega))))))), (kq (a := 2) (b := 4) eσ6823 (by omega)).trans ((kq (a := 2) (b := 4) eσ6741 (by omega)).trans (k6298.trans (k5734.trans (k10.trans ((kq (a := 2) (b := 4) eσ2 (by omega)))))))⟩)
                      · have f6827 := mt Int32.toInt_inj.mp c6793
                        have f6829 := tB r5739
                        have f6830 := tB r6303
                        have f6832 := K1.g_3_7 hσ6741
                        have q6833 : σ6741.1 3 7 = σ6291.1 3 7 := by rw [eσ6741]; exact congrFun (u1_ne (by omega)) 7
                        have f6834 := congrArg Int32.toInt q6833
                        have f6835 := K1.g_3_7 hσ6291
                        have f6836 := congrArg Int32.toInt k6292
                        have f6837 := K1.g_3_7 hσ5727
                        have f6838 := congrArg Int32.toInt k5728
                        have f6839 := K1.g_3_7 hσ3
                        have f6840 := congrArg Int32.toInt k4
                        have f6841 := K1.g_3_7 hσ2
                        have q6842 : σ2.1 3 7 = σ.1 3 7 := by rw [eσ2, u1_at]; exact if_neg (by decide)
                        have f6843 := congrArg Int32.toInt q6842
                        have f6844 := K1.g_3_7 hσ
                        refine sX2_act hN hk1 (by omega) hσ6741 (fun σ6831 hσ6831 kk6850 => ?_)
                        obtain ⟨k6845, k6846, k6847, k6848, k6849⟩ := kk6850
                        exact hQ _ hσ6831 (⟨k6845.trans ((kq (a := 9) (b := 9) eσ6741 (by omega)).trans (k6294.trans (k5730.trans (k6.trans ((kq (a := 9) (b := 9) eσ2 (by omega))))))), k6846.trans ((kq (a := 9) (b := 10) eσ6741 (by omega)).trans (k6295.trans (k5731.trans (k7.trans ((kq (a := 9) (b := 10) eσ2 (by omega))))))), k6847.trans ((kq (a := 6) (b := 5) eσ6741 (by omega)).trans (k6296.trans (k5732.trans (k8.trans ((kq (a := 6) (b := 5) eσ2 (by omega))))))), k6848.trans ((kq (a := 7) (b := 4) eσ6741 (by omega)).trans (k6297.trans (k5733.trans (k9.trans ((kq (a := 7) (b := 4) eσ2 (by omega))))))), k6849.trans ((kq (a := 2) (b := 4) eσ6741 (by omega)).trans (k6298.trans (k5734.trans (k10.trans ((kq (a := 2) (b := 4) eσ2 (by omega)))))))⟩)
                  · have f6851 := tB (σ6291.1 3 11)
                    have f6853 := mt Int32.toInt_inj.mp c6736
                    exact hQ _ hσ6291 (⟨k6294.trans (k5730.trans (k6.trans ((kq (a := 9) (b := 9) eσ2 (by omega))))), k6295.trans (k5731.trans (k7.trans ((kq (a := 9) (b := 10) eσ2 (by omega))))), k6296.trans (k5732.trans (k8.trans ((kq (a := 6) (b := 5) eσ2 (by omega))))), k6297.trans (k5733.trans (k9.trans ((kq (a := 7) (b := 4) eσ2 (by omega))))), k6298.trans (k5734.trans (k10.trans ((kq (a := 2) (b := 4) eσ2 (by omega)))))⟩)
      · have f6856 := mt Int32.toInt_inj.mp c4600
        exact hQ _ hσ3 (⟨k6.trans ((kq (a := 9) (b := 9) eσ2 (by omega))), k7.trans ((kq (a := 9) (b := 10) eσ2 (by omega))), k8.trans ((kq (a := 6) (b := 5) eσ2 (by omega))), k9.trans ((kq (a := 7) (b := 4) eσ2 (by omega))), k10.trans ((kq (a := 2) (b := 4) eσ2 (by omega)))⟩)
