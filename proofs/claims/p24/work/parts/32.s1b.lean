set_option maxHeartbeats 4000000 in
theorem sX2_doOrder {N : Nat} (hN : 4294967400 ≤ N) {k1 : Nat} (hk1 : jobK k1) {Q : St → Prop} {σ0 σ : St} (hs3_7 : 1 ≤ (σ.1 3 7).toInt ∧ (σ.1 3 7).toInt ≤ 40) (hσ : K1 σ0 σ) (hQ : ∀ τ : St, K1 σ0 τ → (τ.1 9 9 = σ.1 9 9 ∧ τ.1 9 10 = σ.1 9 10 ∧ τ.1 6 5 = σ.1 6 5 ∧ τ.1 7 4 = σ.1 7 4 ∧ τ.1 2 4 = σ.1 2 4) → Q τ) : fX2_doOrder N k1 Q σ := by
  unfold fX2_doOrder
  have kbhk1 := jobK_b hk1
  intro v1 ev1
  intro σ2 eσ2
  have hσ2 : K1 σ0 σ2 := by rw [eσ2]; exact hσ.u (Rg1.u_3_12 _) (fun q => absurd q.1 (by decide)) (fun q => absurd q.1 (by decide))
  refine sX2_nextByte hN hσ2 (fun r15 σ3 hσ3 kk14 p16 => ?_)
  obtain ⟨k4, k5, k6, k7, k8, k9, k10, k11, k12, k13⟩ := kk14
  refine ⟨fun c17 => ?_, fun c17 => ?_⟩
  · have f18 := tB r15
    first | have f19 := (leE (rfl : r15.toInt = r15.toInt) (show (17 : Int32).toInt = 17 from by decide)).mp c17 | skip
    unfold fX2_doOrder_j25
    refine ⟨fun c20 => ?_, fun c20 => ?_⟩
    · have f21 := tB (σ3.1 3 11)
      first | have f22 := (eqE (rfl : (σ3.1 3 11).toInt = (σ3.1 3 11).toInt) (show (0 : Int32).toInt = 0 from by decide)).mp c20 | skip
      refine ⟨fun c23 => ?_, fun c23 => ?_⟩
      · first | have f25 := (eqE (rfl : r15.toInt = r15.toInt) (show (6 : Int32).toInt = 6 from by decide)).mp c23 | skip
        refine sX2_doCallOrder hN hk1 hσ3 (fun σ26 hσ26 kk35 => ?_)
        obtain ⟨k27, k28, k29, k30, k31, k32, k33, k34⟩ := kk35
        exact hQ _ hσ26 (⟨k27.trans (k6.trans ((kq (a := 9) (b := 9) eσ2 (fun q => absurd q.1 (by decide))))), k28.trans (k7.trans ((kq (a := 9) (b := 10) eσ2 (fun q => absurd q.1 (by decide))))), k29.trans (k8.trans ((kq (a := 6) (b := 5) eσ2 (fun q => absurd q.1 (by decide))))), k30.trans (k9.trans ((kq (a := 7) (b := 4) eσ2 (fun q => absurd q.1 (by decide))))), k31.trans (k10.trans ((kq (a := 2) (b := 4) eσ2 (fun q => absurd q.1 (by decide)))))⟩)
      · first | have f37 := (noteqE (rfl : r15.toInt = r15.toInt) (show (6 : Int32).toInt = 6 from by decide)).mp c23 | skip
        have g39 : vp_in r15 18 := inE (rfl : r15.toInt = r15.toInt) (by omega) (by omega)
        refine ⟨g39, ?_⟩
        refine ⟨fun c40 => ?_, fun c40 => ?_⟩
        · have f41 := tB (jV r15.toNatClampNeg)
          first | have f42 := (leE (rfl : (jV r15.toNatClampNeg).toInt = (jV r15.toNatClampNeg).toInt) (show (0 : Int32).toInt = 0 from by decide)).mp c40 | skip
          unfold fX2_doOrder_j62
          have g44 : vp_in r15 18 := inE (rfl : r15.toInt = r15.toInt) (by omega) (by omega)
          refine ⟨g44, ?_⟩
          refine ⟨fun c45 => ?_, fun c45 => ?_⟩
          · first | have f47 := (leE (rfl : (jV r15.toNatClampNeg).toInt = (jV r15.toNatClampNeg).toInt) (show (1 : Int32).toInt = 1 from by decide)).mp c45 | skip
            unfold fX2_doOrder_j81
            have g49 : vp_in r15 18 := inE (rfl : r15.toInt = r15.toInt) (by omega) (by omega)
            refine ⟨g49, ?_⟩
            refine ⟨fun c50 => ?_, fun c50 => ?_⟩
            · have f51 := tB (jT r15.toNatClampNeg)
              first | have f52 := (eqE (rfl : (jT r15.toNatClampNeg).toInt = (jT r15.toNatClampNeg).toInt) (show (1 : Int32).toInt = 1 from by decide)).mp c50 | skip
              refine sX2_nextTarget hN hk1 hσ3 (fun r65 σ53 hσ53 kk64 p66 => ?_)
              obtain ⟨k54, k55, k56, k57, k58, k59, k60, k61, k62, k63⟩ := kk64
              unfold fX2_doOrder_j103
              have g68 : vp_in r15 18 := inE (rfl : r15.toInt = r15.toInt) (by omega) (by omega)
              refine ⟨g68, ?_⟩
              refine ⟨fun c69 => ?_, fun c69 => ?_⟩
              · first | have f71 := (eqE (rfl : (jT r15.toNatClampNeg).toInt = (jT r15.toNatClampNeg).toInt) (show (2 : Int32).toInt = 2 from by decide)).mp c69 | skip
                refine sX2_nextDistance hN hσ53 (fun r84 σ72 hσ72 kk83 p85 => ?_)
                obtain ⟨k73, k74, k75, k76, k77, k78, k79, k80, k81, k82⟩ := kk83
                unfold fX2_doOrder_j122
                refine ⟨fun c86 => ?_, fun c86 => ?_⟩
                · have f87 := tB (σ72.1 3 11)
                  first | have f88 := (eqE (rfl : (σ72.1 3 11).toInt = (σ72.1 3 11).toInt) (show (0 : Int32).toInt = 0 from by decide)).mp c86 | skip
                  intro v89 ev89
                  intro σ90 eσ90
                  have kb91 := jobK_b hk1
                  have hσ90 : K1 σ0 σ90 := by rw [eσ90]; exact hσ72.u (rg_jobK hk1) (by omega) (by omega)
                  have g93 : vp_in r15 18 := inE (rfl : r15.toInt = r15.toInt) (by omega) (by omega)
                  refine ⟨g93, ?_⟩
                  refine ⟨fun c94 => ?_, fun c94 => ?_⟩
                  · first | have f96 := (eqE (rfl : (jT r15.toNatClampNeg).toInt = (jT r15.toNatClampNeg).toInt) (show (1 : Int32).toInt = 1 from by decide)).mp c94 | skip
                    refine sX2_valueFor hN hσ90 (fun r110 σ98 hσ98 kk109 p111 => ?_)
                    obtain ⟨k99, k100, k101, k102, k103, k104, k105, k106, k107, k108⟩ := kk109
                    refine ⟨fun c112 => ?_, fun c112 => ?_⟩
                    · have f113 := tB (σ98.1 3 11)
                      first | have f114 := (eqE (rfl : (σ98.1 3 11).toInt = (σ98.1 3 11).toInt) (show (0 : Int32).toInt = 0 from by decide)).mp c112 | skip
                      have f115 := tB r65
                      have f116 := tB r110
                      refine sX1_setLocal hN hk1 hσ98 (fun σ117 hσ117 kk129 => ?_)
                      obtain ⟨k118, k119, k120, k121, k122, k123, k124, k125, k126, k127, k128⟩ := kk129
                      unfold fX2_doOrder_j174
                      exact hQ _ hσ117 (⟨k121.trans (k101.trans ((kq (a := 9) (b := 9) eσ90 (by omega)).trans (k75.trans (k56.trans (k6.trans ((kq (a := 9) (b := 9) eσ2 (fun q => absurd q.1 (by decide))))))))), k122.trans (k102.trans ((kq (a := 9) (b := 10) eσ90 (by omega)).trans (k76.trans (k57.trans (k7.trans ((kq (a := 9) (b := 10) eσ2 (fun q => absurd q.1 (by decide))))))))), k123.trans (k103.trans ((kq (a := 6) (b := 5) eσ90 (by omega)).trans (k77.trans (k58.trans (k8.trans ((kq (a := 6) (b := 5) eσ2 (fun q => absurd q.1 (by decide))))))))), k124.trans (k104.trans ((kq (a := 7) (b := 4) eσ90 (by omega)).trans (k78.trans (k59.trans (k9.trans ((kq (a := 7) (b := 4) eσ2 (fun q => absurd q.1 (by decide))))))))), k125.trans (k105.trans ((kq (a := 2) (b := 4) eσ90 (by omega)).trans (k79.trans (k60.trans (k10.trans ((kq (a := 2) (b := 4) eσ2 (fun q => absurd q.1 (by decide)))))))))⟩)
                    · have f130 := tB (σ98.1 3 11)
                      first | have f131 := (noteqE (rfl : (σ98.1 3 11).toInt = (σ98.1 3 11).toInt) (show (0 : Int32).toInt = 0 from by decide)).mp c112 | skip
                      unfold fX2_doOrder_j174
                      exact hQ _ hσ98 (⟨k101.trans ((kq (a := 9) (b := 9) eσ90 (by omega)).trans (k75.trans (k56.trans (k6.trans ((kq (a := 9) (b := 9) eσ2 (fun q => absurd q.1 (by decide)))))))), k102.trans ((kq (a := 9) (b := 10) eσ90 (by omega)).trans (k76.trans (k57.trans (k7.trans ((kq (a := 9) (b := 10) eσ2 (fun q => absurd q.1 (by decide)))))))), k103.trans ((kq (a := 6) (b := 5) eσ90 (by omega)).trans (k77.trans (k58.trans (k8.trans ((kq (a := 6) (b := 5) eσ2 (fun q => absurd q.1 (by decide)))))))), k104.trans ((kq (a := 7) (b := 4) eσ90 (by omega)).trans (k78.trans (k59.trans (k9.trans ((kq (a := 7) (b := 4) eσ2 (fun q => absurd q.1 (by decide)))))))), k105.trans ((kq (a := 2) (b := 4) eσ90 (by omega)).trans (k79.trans (k60.trans (k10.trans ((kq (a := 2) (b := 4) eσ2 (fun q => absurd q.1 (by decide))))))))⟩)
                  · first | have f133 := (noteqE (rfl : (jT r15.toNatClampNeg).toInt = (jT r15.toNatClampNeg).toInt) (show (1 : Int32).toInt = 1 from by decide)).mp c94 | skip
                    have g135 : vp_in r15 18 := inE (rfl : r15.toInt = r15.toInt) (by omega) (by omega)
                    refine ⟨g135, ?_⟩
                    refine ⟨fun c136 => ?_, fun c136 => ?_⟩
                    · first | have f138 := (eqE (rfl : (jT r15.toNatClampNeg).toInt = (jT r15.toNatClampNeg).toInt) (show (2 : Int32).toInt = 2 from by decide)).mp c136 | skip
                      refine sX2_goesThere hN hσ90 (fun r153 p154 => ?_)
                      refine ⟨fun c155 => ?_, fun c155 => ?_⟩
                      · have f156 := tB r153
                        first | have f157 := (eqE (rfl : r153.toInt = r153.toInt) (show (0 : Int32).toInt = 0 from by decide)).mp c155 | skip
                        exact hQ _ hσ90 (⟨(kq (a := 9) (b := 9) eσ90 (by omega)).trans (k75.trans (k56.trans (k6.trans ((kq (a := 9) (b := 9) eσ2 (fun q => absurd q.1 (by decide))))))), (kq (a := 9) (b := 10) eσ90 (by omega)).trans (k76.trans (k57.trans (k7.trans ((kq (a := 9) (b := 10) eσ2 (fun q => absurd q.1 (by decide))))))), (kq (a := 6) (b := 5) eσ90 (by omega)).trans (k77.trans (k58.trans (k8.trans ((kq (a := 6) (b := 5) eσ2 (fun q => absurd q.1 (by decide))))))), (kq (a := 7) (b := 4) eσ90 (by omega)).trans (k78.trans (k59.trans (k9.trans ((kq (a := 7) (b := 4) eσ2 (fun q => absurd q.1 (by decide))))))), (kq (a := 2) (b := 4) eσ90 (by omega)).trans (k79.trans (k60.trans (k10.trans ((kq (a := 2) (b := 4) eσ2 (fun q => absurd q.1 (by decide)))))))⟩)
                      · have f158 := tB r153
                        first | have f159 := (noteqE (rfl : r153.toInt = r153.toInt) (show (0 : Int32).toInt = 0 from by decide)).mp c155 | skip
                        intro v160 ev160
                        intro σ161 eσ161
                        have kb162 := jobK_b hk1
                        have hσ161 : K1 σ0 σ161 := by rw [eσ161]; exact hσ90.u (rg_jobK hk1) (by omega) (by omega)
                        exact hQ _ hσ161 (⟨(kq (a := 9) (b := 9) eσ161 (by omega)).trans ((kq (a := 9) (b := 9) eσ90 (by omega)).trans (k75.trans (k56.trans (k6.trans ((kq (a := 9) (b := 9) eσ2 (fun q => absurd q.1 (by decide)))))))), (kq (a := 9) (b := 10) eσ161 (by omega)).trans ((kq (a := 9) (b := 10) eσ90 (by omega)).trans (k76.trans (k57.trans (k7.trans ((kq (a := 9) (b := 10) eσ2 (fun q => absurd q.1 (by decide)))))))), (kq (a := 6) (b := 5) eσ161 (by omega)).trans ((kq (a := 6) (b := 5) eσ90 (by omega)).trans (k77.trans (k58.trans (k8.trans ((kq (a := 6) (b := 5) eσ2 (fun q => absurd q.1 (by decide)))))))), (kq (a := 7) (b := 4) eσ161 (by omega)).trans ((kq (a := 7) (b := 4) eσ90 (by omega)).trans (k78.trans (k59.trans (k9.trans ((kq (a := 7) (b := 4) eσ2 (fun q => absurd q.1 (by decide)))))))), (kq (a := 2) (b := 4) eσ161 (by omega)).trans ((kq (a := 2) (b := 4) eσ90 (by omega)).trans (k79.trans (k60.trans (k10.trans ((kq (a := 2) (b := 4) eσ2 (fun q => absurd q.1 (by decide))))))))⟩)
                    · first | have f164 := (noteqE (rfl : (jT r15.toNatClampNeg).toInt = (jT r15.toNatClampNeg).toInt) (show (2 : Int32).toInt = 2 from by decide)).mp c136 | skip
                      have f167 := K1.g_3_7 hσ90
                      have q168 : σ90.1 3 7 = σ72.1 3 7 := by rw [eσ90]; exact congrFun (u1_ne (by omega)) 7
                      have f169 := congrArg Int32.toInt q168
                      have f170 := K1.g_3_7 hσ72
                      have f171 := congrArg Int32.toInt k73
                      have f172 := K1.g_3_7 hσ53
                      have f173 := congrArg Int32.toInt k54
                      have f174 := K1.g_3_7 hσ3
                      have f175 := congrArg Int32.toInt k4
                      have f176 := K1.g_3_7 hσ2
                      have q177 : σ2.1 3 7 = σ.1 3 7 := by rw [eσ2, u1_at]; exact if_neg (by decide)
                      have f178 := congrArg Int32.toInt q177
                      have f179 := K1.g_3_7 hσ
                      refine sX2_act hN hk1 ⟨by omega, by omega⟩ hσ90 (fun σ166 hσ166 kk185 => ?_)
                      obtain ⟨k180, k181, k182, k183, k184⟩ := kk185
                      exact hQ _ hσ166 (⟨k180.trans ((kq (a := 9) (b := 9) eσ90 (by omega)).trans (k75.trans (k56.trans (k6.trans ((kq (a := 9) (b := 9) eσ2 (fun q => absurd q.1 (by decide)))))))), k181.trans ((kq (a := 9) (b := 10) eσ90 (by omega)).trans (k76.trans (k57.trans (k7.trans ((kq (a := 9) (b := 10) eσ2 (fun q => absurd q.1 (by decide)))))))), k182.trans ((kq (a := 6) (b := 5) eσ90 (by omega)).trans (k77.trans (k58.trans (k8.trans ((kq (a := 6) (b := 5) eσ2 (fun q => absurd q.1 (by decide)))))))), k183.trans ((kq (a := 7) (b := 4) eσ90 (by omega)).trans (k78.trans (k59.trans (k9.trans ((kq (a := 7) (b := 4) eσ2 (fun q => absurd q.1 (by decide)))))))), k184.trans ((kq (a := 2) (b := 4) eσ90 (by omega)).trans (k79.trans (k60.trans (k10.trans ((kq (a := 2) (b := 4) eσ2 (fun q => absurd q.1 (by decide))))))))⟩)
                · have f186 := tB (σ72.1 3 11)
                  first | have f187 := (noteqE (rfl : (σ72.1 3 11).toInt = (σ72.1 3 11).toInt) (show (0 : Int32).toInt = 0 from by decide)).mp c86 | skip
                  exact hQ _ hσ72 (⟨k75.trans (k56.trans (k6.trans ((kq (a := 9) (b := 9) eσ2 (fun q => absurd q.1 (by decide)))))), k76.trans (k57.trans (k7.trans ((kq (a := 9) (b := 10) eσ2 (fun q => absurd q.1 (by decide)))))), k77.trans (k58.trans (k8.trans ((kq (a := 6) (b := 5) eσ2 (fun q => absurd q.1 (by decide)))))), k78.trans (k59.trans (k9.trans ((kq (a := 7) (b := 4) eσ2 (fun q => absurd q.1 (by decide)))))), k79.trans (k60.trans (k10.trans ((kq (a := 2) (b := 4) eσ2 (fun q => absurd q.1 (by decide))))))⟩)
              · first | have f189 := (noteqE (rfl : (jT r15.toNatClampNeg).toInt = (jT r15.toNatClampNeg).toInt) (show (2 : Int32).toInt = 2 from by decide)).mp c69 | skip
                unfold fX2_doOrder_j122
                refine ⟨fun c190 => ?_, fun c190 => ?_⟩
                · have f191 := tB (σ53.1 3 11)
                  first | have f192 := (eqE (rfl : (σ53.1 3 11).toInt = (σ53.1 3 11).toInt) (show (0 : Int32).toInt = 0 from by decide)).mp c190 | skip
                  intro v193 ev193
                  intro σ194 eσ194
                  have kb195 := jobK_b hk1
                  have hσ194 : K1 σ0 σ194 := by rw [eσ194]; exact hσ53.u (rg_jobK hk1) (by omega) (by omega)
                  have g197 : vp_in r15 18 := inE (rfl : r15.toInt = r15.toInt) (by omega) (by omega)
                  refine ⟨g197, ?_⟩
                  refine ⟨fun c198 => ?_, fun c198 => ?_⟩
                  · first | have f200 := (eqE (rfl : (jT r15.toNatClampNeg).toInt = (jT r15.toNatClampNeg).toInt) (show (1 : Int32).toInt = 1 from by decide)).mp c198 | skip
                    refine sX2_valueFor hN hσ194 (fun r214 σ202 hσ202 kk213 p215 => ?_)
                    obtain ⟨k203, k204, k205, k206, k207, k208, k209, k210, k211, k212⟩ := kk213
                    refine ⟨fun c216 => ?_, fun c216 => ?_⟩
                    · have f217 := tB (σ202.1 3 11)
                      first | have f218 := (eqE (rfl : (σ202.1 3 11).toInt = (σ202.1 3 11).toInt) (show (0 : Int32).toInt = 0 from by decide)).mp c216 | skip
                      have f219 := tB r65
                      have f220 := tB r214
                      refine sX1_setLocal hN hk1 hσ202 (fun σ221 hσ221 kk233 => ?_)
                      obtain ⟨k222, k223, k224, k225, k226, k227, k228, k229, k230, k231, k232⟩ := kk233
                      unfold fX2_doOrder_j174
                      exact hQ _ hσ221 (⟨k225.trans (k205.trans ((kq (a := 9) (b := 9) eσ194 (by omega)).trans (k56.trans (k6.trans ((kq (a := 9) (b := 9) eσ2 (fun q => absurd q.1 (by decide)))))))), k226.trans (k206.trans ((kq (a := 9) (b := 10) eσ194 (by omega)).trans (k57.trans (k7.trans ((kq (a := 9) (b := 10) eσ2 (fun q => absurd q.1 (by decide)))))))), k227.trans (k207.trans ((kq (a := 6) (b := 5) eσ194 (by omega)).trans (k58.trans (k8.trans ((kq (a := 6) (b := 5) eσ2 (fun q => absurd q.1 (by decide)))))))), k228.trans (k208.trans ((kq (a := 7) (b := 4) eσ194 (by omega)).trans (k59.trans (k9.trans ((kq (a := 7) (b := 4) eσ2 (fun q => absurd q.1 (by decide)))))))), k229.trans (k209.trans ((kq (a := 2) (b := 4) eσ194 (by omega)).trans (k60.trans (k10.trans ((kq (a := 2) (b := 4) eσ2 (fun q => absurd q.1 (by decide))))))))⟩)
                    · have f234 := tB (σ202.1 3 11)
                      first | have f235 := (noteqE (rfl : (σ202.1 3 11).toInt = (σ202.1 3 11).toInt) (show (0 : Int32).toInt = 0 from by decide)).mp c216 | skip
                      unfold fX2_doOrder_j174
                      exact hQ _ hσ202 (⟨k205.trans ((kq (a := 9) (b := 9) eσ194 (by omega)).trans (k56.trans (k6.trans ((kq (a := 9) (b := 9) eσ2 (fun q => absurd q.1 (by decide))))))), k206.trans ((kq (a := 9) (b := 10) eσ194 (by omega)).trans (k57.trans (k7.trans ((kq (a := 9) (b := 10) eσ2 (fun q => absurd q.1 (by decide))))))), k207.trans ((kq (a := 6) (b := 5) eσ194 (by omega)).trans (k58.trans (k8.trans ((kq (a := 6) (b := 5) eσ2 (fun q => absurd q.1 (by decide))))))), k208.trans ((kq (a := 7) (b := 4) eσ194 (by omega)).trans (k59.trans (k9.trans ((kq (a := 7) (b := 4) eσ2 (fun q => absurd q.1 (by decide))))))), k209.trans ((kq (a := 2) (b := 4) eσ194 (by omega)).trans (k60.trans (k10.trans ((kq (a := 2) (b := 4) eσ2 (fun q => absurd q.1 (by decide)))))))⟩)
                  · first | have f237 := (noteqE (rfl : (jT r15.toNatClampNeg).toInt = (jT r15.toNatClampNeg).toInt) (show (1 : Int32).toInt = 1 from by decide)).mp c198 | skip
                    have g239 : vp_in r15 18 := inE (rfl : r15.toInt = r15.toInt) (by omega) (by omega)
                    refine ⟨g239, ?_⟩
                    refine ⟨fun c240 => ?_, fun c240 => ?_⟩
                    · first | have f242 := (eqE (rfl : (jT r15.toNatClampNeg).toInt = (jT r15.toNatClampNeg).toInt) (show (2 : Int32).toInt = 2 from by decide)).mp c240 | skip
                      refine sX2_goesThere hN hσ194 (fun r257 p258 => ?_)
                      refine ⟨fun c259 => ?_, fun c259 => ?_⟩
                      · have f260 := tB r257
                        first | have f261 := (eqE (rfl : r257.toInt = r257.toInt) (show (0 : Int32).toInt = 0 from by decide)).mp c259 | skip
                        exact hQ _ hσ194 (⟨(kq (a := 9) (b := 9) eσ194 (by omega)).trans (k56.trans (k6.trans ((kq (a := 9) (b := 9) eσ2 (fun q => absurd q.1 (by decide)))))), (kq (a := 9) (b := 10) eσ194 (by omega)).trans (k57.trans (k7.trans ((kq (a := 9) (b := 10) eσ2 (fun q => absurd q.1 (by decide)))))), (kq (a := 6) (b := 5) eσ194 (by omega)).trans (k58.trans (k8.trans ((kq (a := 6) (b := 5) eσ2 (fun q => absurd q.1 (by decide)))))), (kq (a := 7) (b := 4) eσ194 (by omega)).trans (k59.trans (k9.trans ((kq (a := 7) (b := 4) eσ2 (fun q => absurd q.1 (by decide)))))), (kq (a := 2) (b := 4) eσ194 (by omega)).trans (k60.trans (k10.trans ((kq (a := 2) (b := 4) eσ2 (fun q => absurd q.1 (by decide))))))⟩)
                      · have f262 := tB r257
                        first | have f263 := (noteqE (rfl : r257.toInt = r257.toInt) (show (0 : Int32).toInt = 0 from by decide)).mp c259 | skip
                        intro v264 ev264
                        intro σ265 eσ265
                        have kb266 := jobK_b hk1
                        have hσ265 : K1 σ0 σ265 := by rw [eσ265]; exact hσ194.u (rg_jobK hk1) (by omega) (by omega)
                        exact hQ _ hσ265 (⟨(kq (a := 9) (b := 9) eσ265 (by omega)).trans ((kq (a := 9) (b := 9) eσ194 (by omega)).trans (k56.trans (k6.trans ((kq (a := 9) (b := 9) eσ2 (fun q => absurd q.1 (by decide))))))), (kq (a := 9) (b := 10) eσ265 (by omega)).trans ((kq (a := 9) (b := 10) eσ194 (by omega)).trans (k57.trans (k7.trans ((kq (a := 9) (b := 10) eσ2 (fun q => absurd q.1 (by decide))))))), (kq (a := 6) (b := 5) eσ265 (by omega)).trans ((kq (a := 6) (b := 5) eσ194 (by omega)).trans (k58.trans (k8.trans ((kq (a := 6) (b := 5) eσ2 (fun q => absurd q.1 (by decide))))))), (kq (a := 7) (b := 4) eσ265 (by omega)).trans ((kq (a := 7) (b := 4) eσ194 (by omega)).trans (k59.trans (k9.trans ((kq (a := 7) (b := 4) eσ2 (fun q => absurd q.1 (by decide))))))), (kq (a := 2) (b := 4) eσ265 (by omega)).trans ((kq (a := 2) (b := 4) eσ194 (by omega)).trans (k60.trans (k10.trans ((kq (a := 2) (b := 4) eσ2 (fun q => absurd q.1 (by decide)))))))⟩)
                    · first | have f268 := (noteqE (rfl : (jT r15.toNatClampNeg).toInt = (jT r15.toNatClampNeg).toInt) (show (2 : Int32).toInt = 2 from by decide)).mp c240 | skip
                      have f271 := K1.g_3_7 hσ194
                      have q272 : σ194.1 3 7 = σ53.1 3 7 := by rw [eσ194]; exact congrFun (u1_ne (by omega)) 7
                      have f273 := congrArg Int32.toInt q272
                      have f274 := K1.g_3_7 hσ53
                      have f275 := congrArg Int32.toInt k54
                      have f276 := K1.g_3_7 hσ3
                      have f277 := congrArg Int32.toInt k4
                      have f278 := K1.g_3_7 hσ2
                      have q279 : σ2.1 3 7 = σ.1 3 7 := by rw [eσ2, u1_at]; exact if_neg (by decide)
                      have f280 := congrArg Int32.toInt q279
                      have f281 := K1.g_3_7 hσ
                      refine sX2_act hN hk1 ⟨by omega, by omega⟩ hσ194 (fun σ270 hσ270 kk287 => ?_)
                      obtain ⟨k282, k283, k284, k285, k286⟩ := kk287
                      exact hQ _ hσ270 (⟨k282.trans ((kq (a := 9) (b := 9) eσ194 (by omega)).trans (k56.trans (k6.trans ((kq (a := 9) (b := 9) eσ2 (fun q => absurd q.1 (by decide))))))), k283.trans ((kq (a := 9) (b := 10) eσ194 (by omega)).trans (k57.trans (k7.trans ((kq (a := 9) (b := 10) eσ2 (fun q => absurd q.1 (by decide))))))), k284.trans ((kq (a := 6) (b := 5) eσ194 (by omega)).trans (k58.trans (k8.trans ((kq (a := 6) (b := 5) eσ2 (fun q => absurd q.1 (by decide))))))), k285.trans ((kq (a := 7) (b := 4) eσ194 (by omega)).trans (k59.trans (k9.trans ((kq (a := 7) (b := 4) eσ2 (fun q => absurd q.1 (by decide))))))), k286.trans ((kq (a := 2) (b := 4) eσ194 (by omega)).trans (k60.trans (k10.trans ((kq (a := 2) (b := 4) eσ2 (fun q => absurd q.1 (by decide)))))))⟩)
                · have f288 := tB (σ53.1 3 11)
                  first | have f289 := (noteqE (rfl : (σ53.1 3 11).toInt = (σ53.1 3 11).toInt) (show (0 : Int32).toInt = 0 from by decide)).mp c190 | skip
                  exact hQ _ hσ53 (⟨k56.trans (k6.trans ((kq (a := 9) (b := 9) eσ2 (fun q => absurd q.1 (by decide))))), k57.trans (k7.trans ((kq (a := 9) (b := 10) eσ2 (fun q => absurd q.1 (by decide))))), k58.trans (k8.trans ((kq (a := 6) (b := 5) eσ2 (fun q => absurd q.1 (by decide))))), k59.trans (k9.trans ((kq (a := 7) (b := 4) eσ2 (fun q => absurd q.1 (by decide))))), k60.trans (k10.trans ((kq (a := 2) (b := 4) eσ2 (fun q => absurd q.1 (by decide)))))⟩)
            · have f290 := tB (jT r15.toNatClampNeg)
              first | have f291 := (noteqE (rfl : (jT r15.toNatClampNeg).toInt = (jT r15.toNatClampNeg).toInt) (show (1 : Int32).toInt = 1 from by decide)).mp c50 | skip
              unfold fX2_doOrder_j103
              have g293 : vp_in r15 18 := inE (rfl : r15.toInt = r15.toInt) (by omega) (by omega)
              refine ⟨g293, ?_⟩
              refine ⟨fun c294 => ?_, fun c294 => ?_⟩
              · first | have f296 := (eqE (rfl : (jT r15.toNatClampNeg).toInt = (jT r15.toNatClampNeg).toInt) (show (2 : Int32).toInt = 2 from by decide)).mp c294 | skip
                refine sX2_nextDistance hN hσ3 (fun r309 σ297 hσ297 kk308 p310 => ?_)
                obtain ⟨k298, k299, k300, k301, k302, k303, k304, k305, k306, k307⟩ := kk308
                unfold fX2_doOrder_j122
                refine ⟨fun c311 => ?_, fun c311 => ?_⟩
                · have f312 := tB (σ297.1 3 11)
                  first | have f313 := (eqE (rfl : (σ297.1 3 11).toInt = (σ297.1 3 11).toInt) (show (0 : Int32).toInt = 0 from by decide)).mp c311 | skip
                  intro v314 ev314
                  intro σ315 eσ315
                  have kb316 := jobK_b hk1
                  have hσ315 : K1 σ0 σ315 := by rw [eσ315]; exact hσ297.u (rg_jobK hk1) (by omega) (by omega)
                  have g318 : vp_in r15 18 := inE (rfl : r15.toInt = r15.toInt) (by omega) (by omega)
                  refine ⟨g318, ?_⟩
                  refine ⟨fun c319 => ?_, fun c319 => ?_⟩
                  · first | have f321 := (eqE (rfl : (jT r15.toNatClampNeg).toInt = (jT r15.toNatClampNeg).toInt) (show (1 : Int32).toInt = 1 from by decide)).mp c319 | skip
                    refine sX2_valueFor hN hσ315 (fun r335 σ323 hσ323 kk334 p336 => ?_)
                    obtain ⟨k324, k325, k326, k327, k328, k329, k330, k331, k332, k333⟩ := kk334
                    refine ⟨fun c337 => ?_, fun c337 => ?_⟩
                    · have f338 := tB (σ323.1 3 11)
                      first | have f339 := (eqE (rfl : (σ323.1 3 11).toInt = (σ323.1 3 11).toInt) (show (0 : Int32).toInt = 0 from by decide)).mp c337 | skip
                      have f340 := tB r335
                      refine sX1_setLocal hN hk1 hσ323 (fun σ341 hσ341 kk353 => ?_)
                      obtain ⟨k342, k343, k344, k345, k346, k347, k348, k349, k350, k351, k352⟩ := kk353
                      unfold fX2_doOrder_j174
                      exact hQ _ hσ341 (⟨k345.trans (k326.trans ((kq (a := 9) (b := 9) eσ315 (by omega)).trans (k300.trans (k6.trans ((kq (a := 9) (b := 9) eσ2 (fun q => absurd q.1 (by decide)))))))), k346.trans (k327.trans ((kq (a := 9) (b := 10) eσ315 (by omega)).trans (k301.trans (k7.trans ((kq (a := 9) (b := 10) eσ2 (fun q => absurd q.1 (by decide)))))))), k347.trans (k328.trans ((kq (a := 6) (b := 5) eσ315 (by omega)).trans (k302.trans (k8.trans ((kq (a := 6) (b := 5) eσ2 (fun q => absurd q.1 (by decide)))))))), k348.trans (k329.trans ((kq (a := 7) (b := 4) eσ315 (by omega)).trans (k303.trans (k9.trans ((kq (a := 7) (b := 4) eσ2 (fun q => absurd q.1 (by decide)))))))), k349.trans (k330.trans ((kq (a := 2) (b := 4) eσ315 (by omega)).trans (k304.trans (k10.trans ((kq (a := 2) (b := 4) eσ2 (fun q => absurd q.1 (by decide))))))))⟩)
                    · have f354 := tB (σ323.1 3 11)
                      first | have f355 := (noteqE (rfl : (σ323.1 3 11).toInt = (σ323.1 3 11).toInt) (show (0 : Int32).toInt = 0 from by decide)).mp c337 | skip
                      unfold fX2_doOrder_j174
                      exact hQ _ hσ323 (⟨k326.trans ((kq (a := 9) (b := 9) eσ315 (by omega)).trans (k300.trans (k6.trans ((kq (a := 9) (b := 9) eσ2 (fun q => absurd q.1 (by decide))))))), k327.trans ((kq (a := 9) (b := 10) eσ315 (by omega)).trans (k301.trans (k7.trans ((kq (a := 9) (b := 10) eσ2 (fun q => absurd q.1 (by decide))))))), k328.trans ((kq (a := 6) (b := 5) eσ315 (by omega)).trans (k302.trans (k8.trans ((kq (a := 6) (b := 5) eσ2 (fun q => absurd q.1 (by decide))))))), k329.trans ((kq (a := 7) (b := 4) eσ315 (by omega)).trans (k303.trans (k9.trans ((kq (a := 7) (b := 4) eσ2 (fun q => absurd q.1 (by decide))))))), k330.trans ((kq (a := 2) (b := 4) eσ315 (by omega)).trans (k304.trans (k10.trans ((kq (a := 2) (b := 4) eσ2 (fun q => absurd q.1 (by decide)))))))⟩)
                  · first | have f357 := (noteqE (rfl : (jT r15.toNatClampNeg).toInt = (jT r15.toNatClampNeg).toInt) (show (1 : Int32).toInt = 1 from by decide)).mp c319 | skip
                    have g359 : vp_in r15 18 := inE (rfl : r15.toInt = r15.toInt) (by omega) (by omega)
                    refine ⟨g359, ?_⟩
                    refine ⟨fun c360 => ?_, fun c360 => ?_⟩
                    · first | have f362 := (eqE (rfl : (jT r15.toNatClampNeg).toInt = (jT r15.toNatClampNeg).toInt) (show (2 : Int32).toInt = 2 from by decide)).mp c360 | skip
                      refine sX2_goesThere hN hσ315 (fun r377 p378 => ?_)
                      refine ⟨fun c379 => ?_, fun c379 => ?_⟩
                      · have f380 := tB r377
                        first | have f381 := (eqE (rfl : r377.toInt = r377.toInt) (show (0 : Int32).toInt = 0 from by decide)).mp c379 | skip
                        exact hQ _ hσ315 (⟨(kq (a := 9) (b := 9) eσ315 (by omega)).trans (k300.trans (k6.trans ((kq (a := 9) (b := 9) eσ2 (fun q => absurd q.1 (by decide)))))), (kq (a := 9) (b := 10) eσ315 (by omega)).trans (k301.trans (k7.trans ((kq (a := 9) (b := 10) eσ2 (fun q => absurd q.1 (by decide)))))), (kq (a := 6) (b := 5) eσ315 (by omega)).trans (k302.trans (k8.trans ((kq (a := 6) (b := 5) eσ2 (fun q => absurd q.1 (by decide)))))), (kq (a := 7) (b := 4) eσ315 (by omega)).trans (k303.trans (k9.trans ((kq (a := 7) (b := 4) eσ2 (fun q => absurd q.1 (by decide)))))), (kq (a := 2) (b := 4) eσ315 (by omega)).trans (k304.trans (k10.trans ((kq (a := 2) (b := 4) eσ2 (fun q => absurd q.1 (by decide))))))⟩)
                      · have f382 := tB r377
                        first | have f383 := (noteqE (rfl : r377.toInt = r377.toInt) (show (0 : Int32).toInt = 0 from by decide)).mp c379 | skip
                        intro v384 ev384
                        intro σ385 eσ385
                        have kb386 := jobK_b hk1
                        have hσ385 : K1 σ0 σ385 := by rw [eσ385]; exact hσ315.u (rg_jobK hk1) (by omega) (by omega)
                        exact hQ _ hσ385 (⟨(kq (a := 9) (b := 9) eσ385 (by omega)).trans ((kq (a := 9) (b := 9) eσ315 (by omega)).trans (k300.trans (k6.trans ((kq (a := 9) (b := 9) eσ2 (fun q => absurd q.1 (by decide))))))), (kq (a := 9) (b := 10) eσ385 (by omega)).trans ((kq (a := 9) (b := 10) eσ315 (by omega)).trans (k301.trans (k7.trans ((kq (a := 9) (b := 10) eσ2 (fun q => absurd q.1 (by decide))))))), (kq (a := 6) (b := 5) eσ385 (by omega)).trans ((kq (a := 6) (b := 5) eσ315 (by omega)).trans (k302.trans (k8.trans ((kq (a := 6) (b := 5) eσ2 (fun q => absurd q.1 (by decide))))))), (kq (a := 7) (b := 4) eσ385 (by omega)).trans ((kq (a := 7) (b := 4) eσ315 (by omega)).trans (k303.trans (k9.trans ((kq (a := 7) (b := 4) eσ2 (fun q => absurd q.1 (by decide))))))), (kq (a := 2) (b := 4) eσ385 (by omega)).trans ((kq (a := 2) (b := 4) eσ315 (by omega)).trans (k304.trans (k10.trans ((kq (a := 2) (b := 4) eσ2 (fun q => absurd q.1 (by decide)))))))⟩)
                    · first | have f388 := (noteqE (rfl : (jT r15.toNatClampNeg).toInt = (jT r15.toNatClampNeg).toInt) (show (2 : Int32).toInt = 2 from by decide)).mp c360 | skip
                      have f391 := K1.g_3_7 hσ315
                      have q392 : σ315.1 3 7 = σ297.1 3 7 := by rw [eσ315]; exact congrFun (u1_ne (by omega)) 7
                      have f393 := congrArg Int32.toInt q392
                      have f394 := K1.g_3_7 hσ297
                      have f395 := congrArg Int32.toInt k298
                      have f396 := K1.g_3_7 hσ3
                      have f397 := congrArg Int32.toInt k4
                      have f398 := K1.g_3_7 hσ2
                      have q399 : σ2.1 3 7 = σ.1 3 7 := by rw [eσ2, u1_at]; exact if_neg (by decide)
                      have f400 := congrArg Int32.toInt q399
                      have f401 := K1.g_3_7 hσ
                      refine sX2_act hN hk1 ⟨by omega, by omega⟩ hσ315 (fun σ390 hσ390 kk407 => ?_)
                      obtain ⟨k402, k403, k404, k405, k406⟩ := kk407
                      exact hQ _ hσ390 (⟨k402.trans ((kq (a := 9) (b := 9) eσ315 (by omega)).trans (k300.trans (k6.trans ((kq (a := 9) (b := 9) eσ2 (fun q => absurd q.1 (by decide))))))), k403.trans ((kq (a := 9) (b := 10) eσ315 (by omega)).trans (k301.trans (k7.trans ((kq (a := 9) (b := 10) eσ2 (fun q => absurd q.1 (by decide))))))), k404.trans ((kq (a := 6) (b := 5) eσ315 (by omega)).trans (k302.trans (k8.trans ((kq (a := 6) (b := 5) eσ2 (fun q => absurd q.1 (by decide))))))), k405.trans ((kq (a := 7) (b := 4) eσ315 (by omega)).trans (k303.trans (k9.trans ((kq (a := 7) (b := 4) eσ2 (fun q => absurd q.1 (by decide))))))), k406.trans ((kq (a := 2) (b := 4) eσ315 (by omega)).trans (k304.trans (k10.trans ((kq (a := 2) (b := 4) eσ2 (fun q => absurd q.1 (by decide)))))))⟩)
                · have f408 := tB (σ297.1 3 11)
                  first | have f409 := (noteqE (rfl : (σ297.1 3 11).toInt = (σ297.1 3 11).toInt) (show (0 : Int32).toInt = 0 from by decide)).mp c311 | skip
                  exact hQ _ hσ297 (⟨k300.trans (k6.trans ((kq (a := 9) (b := 9) eσ2 (fun q => absurd q.1 (by decide))))), k301.trans (k7.trans ((kq (a := 9) (b := 10) eσ2 (fun q => absurd q.1 (by decide))))), k302.trans (k8.trans ((kq (a := 6) (b := 5) eσ2 (fun q => absurd q.1 (by decide))))), k303.trans (k9.trans ((kq (a := 7) (b := 4) eσ2 (fun q => absurd q.1 (by decide))))), k304.trans (k10.trans ((kq (a := 2) (b := 4) eσ2 (fun q => absurd q.1 (by decide)))))⟩)
              · first | have f411 := (noteqE (rfl : (jT r15.toNatClampNeg).toInt = (jT r15.toNatClampNeg).toInt) (show (2 : Int32).toInt = 2 from by decide)).mp c294 | skip
                unfold fX2_doOrder_j122
                refine ⟨fun c412 => ?_, fun c412 => ?_⟩
                · first | have f414 := (eqE (rfl : (σ3.1 3 11).toInt = (σ3.1 3 11).toInt) (show (0 : Int32).toInt = 0 from by decide)).mp c412 | skip
                  intro v415 ev415
                  intro σ416 eσ416
                  have kb417 := jobK_b hk1
                  have hσ416 : K1 σ0 σ416 := by rw [eσ416]; exact hσ3.u (rg_jobK hk1) (by omega) (by omega)
                  have g419 : vp_in r15 18 := inE (rfl : r15.toInt = r15.toInt) (by omega) (by omega)
                  refine ⟨g419, ?_⟩
                  refine ⟨fun c420 => ?_, fun c420 => ?_⟩
                  · first | have f422 := (eqE (rfl : (jT r15.toNatClampNeg).toInt = (jT r15.toNatClampNeg).toInt) (show (1 : Int32).toInt = 1 from by decide)).mp c420 | skip
                    refine sX2_valueFor hN hσ416 (fun r436 σ424 hσ424 kk435 p437 => ?_)
                    obtain ⟨k425, k426, k427, k428, k429, k430, k431, k432, k433, k434⟩ := kk435
                    refine ⟨fun c438 => ?_, fun c438 => ?_⟩
                    · have f439 := tB (σ424.1 3 11)
                      first | have f440 := (eqE (rfl : (σ424.1 3 11).toInt = (σ424.1 3 11).toInt) (show (0 : Int32).toInt = 0 from by decide)).mp c438 | skip
                      have f441 := tB r436
                      refine sX1_setLocal hN hk1 hσ424 (fun σ442 hσ442 kk454 => ?_)
                      obtain ⟨k443, k444, k445, k446, k447, k448, k449, k450, k451, k452, k453⟩ := kk454
                      unfold fX2_doOrder_j174
                      exact hQ _ hσ442 (⟨k446.trans (k427.trans ((kq (a := 9) (b := 9) eσ416 (by omega)).trans (k6.trans ((kq (a := 9) (b := 9) eσ2 (fun q => absurd q.1 (by decide))))))), k447.trans (k428.trans ((kq (a := 9) (b := 10) eσ416 (by omega)).trans (k7.trans ((kq (a := 9) (b := 10) eσ2 (fun q => absurd q.1 (by decide))))))), k448.trans (k429.trans ((kq (a := 6) (b := 5) eσ416 (by omega)).trans (k8.trans ((kq (a := 6) (b := 5) eσ2 (fun q => absurd q.1 (by decide))))))), k449.trans (k430.trans ((kq (a := 7) (b := 4) eσ416 (by omega)).trans (k9.trans ((kq (a := 7) (b := 4) eσ2 (fun q => absurd q.1 (by decide))))))), k450.trans (k431.trans ((kq (a := 2) (b := 4) eσ416 (by omega)).trans (k10.trans ((kq (a := 2) (b := 4) eσ2 (fun q => absurd q.1 (by decide)))))))⟩)
                    · have f455 := tB (σ424.1 3 11)
                      first | have f456 := (noteqE (rfl : (σ424.1 3 11).toInt = (σ424.1 3 11).toInt) (show (0 : Int32).toInt = 0 from by decide)).mp c438 | skip
                      unfold fX2_doOrder_j174
                      exact hQ _ hσ424 (⟨k427.trans ((kq (a := 9) (b := 9) eσ416 (by omega)).trans (k6.trans ((kq (a := 9) (b := 9) eσ2 (fun q => absurd q.1 (by decide)))))), k428.trans ((kq (a := 9) (b := 10) eσ416 (by omega)).trans (k7.trans ((kq (a := 9) (b := 10) eσ2 (fun q => absurd q.1 (by decide)))))), k429.trans ((kq (a := 6) (b := 5) eσ416 (by omega)).trans (k8.trans ((kq (a := 6) (b := 5) eσ2 (fun q => absurd q.1 (by decide)))))), k430.trans ((kq (a := 7) (b := 4) eσ416 (by omega)).trans (k9.trans ((kq (a := 7) (b := 4) eσ2 (fun q => absurd q.1 (by decide)))))), k431.trans ((kq (a := 2) (b := 4) eσ416 (by omega)).trans (k10.trans ((kq (a := 2) (b := 4) eσ2 (fun q => absurd q.1 (by decide))))))⟩)
                  · first | have f458 := (noteqE (rfl : (jT r15.toNatClampNeg).toInt = (jT r15.toNatClampNeg).toInt) (show (1 : Int32).toInt = 1 from by decide)).mp c420 | skip
                    have g460 : vp_in r15 18 := inE (rfl : r15.toInt = r15.toInt) (by omega) (by omega)
                    refine ⟨g460, ?_⟩
                    refine ⟨fun c461 => ?_, fun c461 => ?_⟩
                    · first | have f463 := (eqE (rfl : (jT r15.toNatClampNeg).toInt = (jT r15.toNatClampNeg).toInt) (show (2 : Int32).toInt = 2 from by decide)).mp c461 | skip
                      refine sX2_goesThere hN hσ416 (fun r478 p479 => ?_)
                      refine ⟨fun c480 => ?_, fun c480 => ?_⟩
                      · have f481 := tB r478
                        first | have f482 := (eqE (rfl : r478.toInt = r478.toInt) (show (0 : Int32).toInt = 0 from by decide)).mp c480 | skip
                        exact hQ _ hσ416 (⟨(kq (a := 9) (b := 9) eσ416 (by omega)).trans (k6.trans ((kq (a := 9) (b := 9) eσ2 (fun q => absurd q.1 (by decide))))), (kq (a := 9) (b := 10) eσ416 (by omega)).trans (k7.trans ((kq (a := 9) (b := 10) eσ2 (fun q => absurd q.1 (by decide))))), (kq (a := 6) (b := 5) eσ416 (by omega)).trans (k8.trans ((kq (a := 6) (b := 5) eσ2 (fun q => absurd q.1 (by decide))))), (kq (a := 7) (b := 4) eσ416 (by omega)).trans (k9.trans ((kq (a := 7) (b := 4) eσ2 (fun q => absurd q.1 (by decide))))), (kq (a := 2) (b := 4) eσ416 (by omega)).trans (k10.trans ((kq (a := 2) (b := 4) eσ2 (fun q => absurd q.1 (by decide)))))⟩)
                      · have f483 := tB r478
                        first | have f484 := (noteqE (rfl : r478.toInt = r478.toInt) (show (0 : Int32).toInt = 0 from by decide)).mp c480 | skip
                        intro v485 ev485
                        intro σ486 eσ486
                        have kb487 := jobK_b hk1
                        have hσ486 : K1 σ0 σ486 := by rw [eσ486]; exact hσ416.u (rg_jobK hk1) (by omega) (by omega)
                        exact hQ _ hσ486 (⟨(kq (a := 9) (b := 9) eσ486 (by omega)).trans ((kq (a := 9) (b := 9) eσ416 (by omega)).trans (k6.trans ((kq (a := 9) (b := 9) eσ2 (fun q => absurd q.1 (by decide)))))), (kq (a := 9) (b := 10) eσ486 (by omega)).trans ((kq (a := 9) (b := 10) eσ416 (by omega)).trans (k7.trans ((kq (a := 9) (b := 10) eσ2 (fun q => absurd q.1 (by decide)))))), (kq (a := 6) (b := 5) eσ486 (by omega)).trans ((kq (a := 6) (b := 5) eσ416 (by omega)).trans (k8.trans ((kq (a := 6) (b := 5) eσ2 (fun q => absurd q.1 (by decide)))))), (kq (a := 7) (b := 4) eσ486 (by omega)).trans ((kq (a := 7) (b := 4) eσ416 (by omega)).trans (k9.trans ((kq (a := 7) (b := 4) eσ2 (fun q => absurd q.1 (by decide)))))), (kq (a := 2) (b := 4) eσ486 (by omega)).trans ((kq (a := 2) (b := 4) eσ416 (by omega)).trans (k10.trans ((kq (a := 2) (b := 4) eσ2 (fun q => absurd q.1 (by decide))))))⟩)
                    · first | have f489 := (noteqE (rfl : (jT r15.toNatClampNeg).toInt = (jT r15.toNatClampNeg).toInt) (show (2 : Int32).toInt = 2 from by decide)).mp c461 | skip
                      have f492 := K1.g_3_7 hσ416
                      have q493 : σ416.1 3 7 = σ3.1 3 7 := by rw [eσ416]; exact congrFun (u1_ne (by omega)) 7
                      have f494 := congrArg Int32.toInt q493
                      have f495 := K1.g_3_7 hσ3
                      have f496 := congrArg Int32.toInt k4
                      have f497 := K1.g_3_7 hσ2
                      have q498 : σ2.1 3 7 = σ.1 3 7 := by rw [eσ2, u1_at]; exact if_neg (by decide)
                      have f499 := congrArg Int32.toInt q498
                      have f500 := K1.g_3_7 hσ
                      refine sX2_act hN hk1 ⟨by omega, by omega⟩ hσ416 (fun σ491 hσ491 kk506 => ?_)
                      obtain ⟨k501, k502, k503, k504, k505⟩ := kk506
                      exact hQ _ hσ491 (⟨k501.trans ((kq (a := 9) (b := 9) eσ416 (by omega)).trans (k6.trans ((kq (a := 9) (b := 9) eσ2 (fun q => absurd q.1 (by decide)))))), k502.trans ((kq (a := 9) (b := 10) eσ416 (by omega)).trans (k7.trans ((kq (a := 9) (b := 10) eσ2 (fun q => absurd q.1 (by decide)))))), k503.trans ((kq (a := 6) (b := 5) eσ416 (by omega)).trans (k8.trans ((kq (a := 6) (b := 5) eσ2 (fun q => absurd q.1 (by decide)))))), k504.trans ((kq (a := 7) (b := 4) eσ416 (by omega)).trans (k9.trans ((kq (a := 7) (b := 4) eσ2 (fun q => absurd q.1 (by decide)))))), k505.trans ((kq (a := 2) (b := 4) eσ416 (by omega)).trans (k10.trans ((kq (a := 2) (b := 4) eσ2 (fun q => absurd q.1 (by decide))))))⟩)
                · first | have f508 := (noteqE (rfl : (σ3.1 3 11).toInt = (σ3.1 3 11).toInt) (show (0 : Int32).toInt = 0 from by decide)).mp c412 | skip
                  exact hQ _ hσ3 (⟨k6.trans ((kq (a := 9) (b := 9) eσ2 (fun q => absurd q.1 (by decide)))), k7.trans ((kq (a := 9) (b := 10) eσ2 (fun q => absurd q.1 (by decide)))), k8.trans ((kq (a := 6) (b := 5) eσ2 (fun q => absurd q.1 (by decide)))), k9.trans ((kq (a := 7) (b := 4) eσ2 (fun q => absurd q.1 (by decide)))), k10.trans ((kq (a := 2) (b := 4) eσ2 (fun q => absurd q.1 (by decide))))⟩)
          · first | have f510 := (notleE (rfl : (jV r15.toNatClampNeg).toInt = (jV r15.toNatClampNeg).toInt) (show (1 : Int32).toInt = 1 from by decide)).mp c45 | skip
            refine sX2_nextValue hN hk1 hσ3 (fun r523 σ511 hσ511 kk522 p524 => ?_)
            obtain ⟨k512, k513, k514, k515, k516, k517, k518, k519, k520, k521⟩ := kk522
            unfold fX2_doOrder_j81
            have g526 : vp_in r15 18 := inE (rfl : r15.toInt = r15.toInt) (by omega) (by omega)
            refine ⟨g526, ?_⟩
            refine ⟨fun c527 => ?_, fun c527 => ?_⟩
            · have f528 := tB (jT r15.toNatClampNeg)
              first | have f529 := (eqE (rfl : (jT r15.toNatClampNeg).toInt = (jT r15.toNatClampNeg).toInt) (show (1 : Int32).toInt = 1 from by decide)).mp c527 | skip
              refine sX2_nextTarget hN hk1 hσ511 (fun r542 σ530 hσ530 kk541 p543 => ?_)
              obtain ⟨k531, k532, k533, k534, k535, k536, k537, k538, k539, k540⟩ := kk541
              unfold fX2_doOrder_j103
              have g545 : vp_in r15 18 := inE (rfl : r15.toInt = r15.toInt) (by omega) (by omega)
              refine ⟨g545, ?_⟩
              refine ⟨fun c546 => ?_, fun c546 => ?_⟩
              · first | have f548 := (eqE (rfl : (jT r15.toNatClampNeg).toInt = (jT r15.toNatClampNeg).toInt) (show (2 : Int32).toInt = 2 from by decide)).mp c546 | skip
                refine sX2_nextDistance hN hσ530 (fun r561 σ549 hσ549 kk560 p562 => ?_)
                obtain ⟨k550, k551, k552, k553, k554, k555, k556, k557, k558, k559⟩ := kk560
                unfold fX2_doOrder_j122
                refine ⟨fun c563 => ?_, fun c563 => ?_⟩
                · have f564 := tB (σ549.1 3 11)
                  first | have f565 := (eqE (rfl : (σ549.1 3 11).toInt = (σ549.1 3 11).toInt) (show (0 : Int32).toInt = 0 from by decide)).mp c563 | skip
                  intro v566 ev566
                  intro σ567 eσ567
                  have kb568 := jobK_b hk1
                  have hσ567 : K1 σ0 σ567 := by rw [eσ567]; exact hσ549.u (rg_jobK hk1) (by omega) (by omega)
                  have g570 : vp_in r15 18 := inE (rfl : r15.toInt = r15.toInt) (by omega) (by omega)
                  refine ⟨g570, ?_⟩
                  refine ⟨fun c571 => ?_, fun c571 => ?_⟩
                  · first | have f573 := (eqE (rfl : (jT r15.toNatClampNeg).toInt = (jT r15.toNatClampNeg).toInt) (show (1 : Int32).toInt = 1 from by decide)).mp c571 | skip
                    have f575 := tB r523
                    refine sX2_valueFor hN hσ567 (fun r588 σ576 hσ576 kk587 p589 => ?_)
                    obtain ⟨k577, k578, k579, k580, k581, k582, k583, k584, k585, k586⟩ := kk587
                    refine ⟨fun c590 => ?_, fun c590 => ?_⟩
                    · have f591 := tB (σ576.1 3 11)
                      first | have f592 := (eqE (rfl : (σ576.1 3 11).toInt = (σ576.1 3 11).toInt) (show (0 : Int32).toInt = 0 from by decide)).mp c590 | skip
                      have f593 := tB r542
                      have f594 := tB r588
                      refine sX1_setLocal hN hk1 hσ576 (fun σ595 hσ595 kk607 => ?_)
                      obtain ⟨k596, k597, k598, k599, k600, k601, k602, k603, k604, k605, k606⟩ := kk607
                      unfold fX2_doOrder_j174
                      exact hQ _ hσ595 (⟨k599.trans (k579.trans ((kq (a := 9) (b := 9) eσ567 (by omega)).trans (k552.trans (k533.trans (k514.trans (k6.trans ((kq (a := 9) (b := 9) eσ2 (fun q => absurd q.1 (by decide)))))))))), k600.trans (k580.trans ((kq (a := 9) (b := 10) eσ567 (by omega)).trans (k553.trans (k534.trans (k515.trans (k7.trans ((kq (a := 9) (b := 10) eσ2 (fun q => absurd q.1 (by decide)))))))))), k601.trans (k581.trans ((kq (a := 6) (b := 5) eσ567 (by omega)).trans (k554.trans (k535.trans (k516.trans (k8.trans ((kq (a := 6) (b := 5) eσ2 (fun q => absurd q.1 (by decide)))))))))), k602.trans (k582.trans ((kq (a := 7) (b := 4) eσ567 (by omega)).trans (k555.trans (k536.trans (k517.trans (k9.trans ((kq (a := 7) (b := 4) eσ2 (fun q => absurd q.1 (by decide)))))))))), k603.trans (k583.trans ((kq (a := 2) (b := 4) eσ567 (by omega)).trans (k556.trans (k537.trans (k518.trans (k10.trans ((kq (a := 2) (b := 4) eσ2 (fun q => absurd q.1 (by decide))))))))))⟩)
                    · have f608 := tB (σ576.1 3 11)
                      first | have f609 := (noteqE (rfl : (σ576.1 3 11).toInt = (σ576.1 3 11).toInt) (show (0 : Int32).toInt = 0 from by decide)).mp c590 | skip
                      unfold fX2_doOrder_j174
                      exact hQ _ hσ576 (⟨k579.trans ((kq (a := 9) (b := 9) eσ567 (by omega)).trans (k552.trans (k533.trans (k514.trans (k6.trans ((kq (a := 9) (b := 9) eσ2 (fun q => absurd q.1 (by decide))))))))), k580.trans ((kq (a := 9) (b := 10) eσ567 (by omega)).trans (k553.trans (k534.trans (k515.trans (k7.trans ((kq (a := 9) (b := 10) eσ2 (fun q => absurd q.1 (by decide))))))))), k581.trans ((kq (a := 6) (b := 5) eσ567 (by omega)).trans (k554.trans (k535.trans (k516.trans (k8.trans ((kq (a := 6) (b := 5) eσ2 (fun q => absurd q.1 (by decide))))))))), k582.trans ((kq (a := 7) (b := 4) eσ567 (by omega)).trans (k555.trans (k536.trans (k517.trans (k9.trans ((kq (a := 7) (b := 4) eσ2 (fun q => absurd q.1 (by decide))))))))), k583.trans ((kq (a := 2) (b := 4) eσ567 (by omega)).trans (k556.trans (k537.trans (k518.trans (k10.trans ((kq (a := 2) (b := 4) eσ2 (fun q => absurd q.1 (by decide)))))))))⟩)
                  · first | have f611 := (noteqE (rfl : (jT r15.toNatClampNeg).toInt = (jT r15.toNatClampNeg).toInt) (show (1 : Int32).toInt = 1 from by decide)).mp c571 | skip
                    have g613 : vp_in r15 18 := inE (rfl : r15.toInt = r15.toInt) (by omega) (by omega)
                    refine ⟨g613, ?_⟩
                    refine ⟨fun c614 => ?_, fun c614 => ?_⟩
                    · first | have f616 := (eqE (rfl : (jT r15.toNatClampNeg).toInt = (jT r15.toNatClampNeg).toInt) (show (2 : Int32).toInt = 2 from by decide)).mp c614 | skip
                      have f618 := tB r523
                      refine sX2_goesThere hN hσ567 (fun r632 p633 => ?_)
                      refine ⟨fun c634 => ?_, fun c634 => ?_⟩
                      · have f635 := tB r632
                        first | have f636 := (eqE (rfl : r632.toInt = r632.toInt) (show (0 : Int32).toInt = 0 from by decide)).mp c634 | skip
                        exact hQ _ hσ567 (⟨(kq (a := 9) (b := 9) eσ567 (by omega)).trans (k552.trans (k533.trans (k514.trans (k6.trans ((kq (a := 9) (b := 9) eσ2 (fun q => absurd q.1 (by decide)))))))), (kq (a := 9) (b := 10) eσ567 (by omega)).trans (k553.trans (k534.trans (k515.trans (k7.trans ((kq (a := 9) (b := 10) eσ2 (fun q => absurd q.1 (by decide)))))))), (kq (a := 6) (b := 5) eσ567 (by omega)).trans (k554.trans (k535.trans (k516.trans (k8.trans ((kq (a := 6) (b := 5) eσ2 (fun q => absurd q.1 (by decide)))))))), (kq (a := 7) (b := 4) eσ567 (by omega)).trans (k555.trans (k536.trans (k517.trans (k9.trans ((kq (a := 7) (b := 4) eσ2 (fun q => absurd q.1 (by decide)))))))), (kq (a := 2) (b := 4) eσ567 (by omega)).trans (k556.trans (k537.trans (k518.trans (k10.trans ((kq (a := 2) (b := 4) eσ2 (fun q => absurd q.1 (by decide))))))))⟩)
                      · have f637 := tB r632
                        first | have f638 := (noteqE (rfl : r632.toInt = r632.toInt) (show (0 : Int32).toInt = 0 from by decide)).mp c634 | skip
                        intro v639 ev639
                        intro σ640 eσ640
                        have kb641 := jobK_b hk1
                        have hσ640 : K1 σ0 σ640 := by rw [eσ640]; exact hσ567.u (rg_jobK hk1) (by omega) (by omega)
                        exact hQ _ hσ640 (⟨(kq (a := 9) (b := 9) eσ640 (by omega)).trans ((kq (a := 9) (b := 9) eσ567 (by omega)).trans (k552.trans (k533.trans (k514.trans (k6.trans ((kq (a := 9) (b := 9) eσ2 (fun q => absurd q.1 (by decide))))))))), (kq (a := 9) (b := 10) eσ640 (by omega)).trans ((kq (a := 9) (b := 10) eσ567 (by omega)).trans (k553.trans (k534.trans (k515.trans (k7.trans ((kq (a := 9) (b := 10) eσ2 (fun q => absurd q.1 (by decide))))))))), (kq (a := 6) (b := 5) eσ640 (by omega)).trans ((kq (a := 6) (b := 5) eσ567 (by omega)).trans (k554.trans (k535.trans (k516.trans (k8.trans ((kq (a := 6) (b := 5) eσ2 (fun q => absurd q.1 (by decide))))))))), (kq (a := 7) (b := 4) eσ640 (by omega)).trans ((kq (a := 7) (b := 4) eσ567 (by omega)).trans (k555.trans (k536.trans (k517.trans (k9.trans ((kq (a := 7) (b := 4) eσ2 (fun q => absurd q.1 (by decide))))))))), (kq (a := 2) (b := 4) eσ640 (by omega)).trans ((kq (a := 2) (b := 4) eσ567 (by omega)).trans (k556.trans (k537.trans (k518.trans (k10.trans ((kq (a := 2) (b := 4) eσ2 (fun q => absurd q.1 (by decide)))))))))⟩)
                    · first | have f643 := (noteqE (rfl : (jT r15.toNatClampNeg).toInt = (jT r15.toNatClampNeg).toInt) (show (2 : Int32).toInt = 2 from by decide)).mp c614 | skip
                      have f645 := tB r523
                      have f647 := K1.g_3_7 hσ567
                      have q648 : σ567.1 3 7 = σ549.1 3 7 := by rw [eσ567]; exact congrFun (u1_ne (by omega)) 7
                      have f649 := congrArg Int32.toInt q648
                      have f650 := K1.g_3_7 hσ549
                      have f651 := congrArg Int32.toInt k550
                      have f652 := K1.g_3_7 hσ530
                      have f653 := congrArg Int32.toInt k531
                      have f654 := K1.g_3_7 hσ511
                      have f655 := congrArg Int32.toInt k512
                      have f656 := K1.g_3_7 hσ3
                      have f657 := congrArg Int32.toInt k4
                      have f658 := K1.g_3_7 hσ2
                      have q659 : σ2.1 3 7 = σ.1 3 7 := by rw [eσ2, u1_at]; exact if_neg (by decide)
                      have f660 := congrArg Int32.toInt q659
                      have f661 := K1.g_3_7 hσ
                      refine sX2_act hN hk1 ⟨by omega, by omega⟩ hσ567 (fun σ646 hσ646 kk667 => ?_)
                      obtain ⟨k662, k663, k664, k665, k666⟩ := kk667
                      exact hQ _ hσ646 (⟨k662.trans ((kq (a := 9) (b := 9) eσ567 (by omega)).trans (k552.trans (k533.trans (k514.trans (k6.trans ((kq (a := 9) (b := 9) eσ2 (fun q => absurd q.1 (by decide))))))))), k663.trans ((kq (a := 9) (b := 10) eσ567 (by omega)).trans (k553.trans (k534.trans (k515.trans (k7.trans ((kq (a := 9) (b := 10) eσ2 (fun q => absurd q.1 (by decide))))))))), k664.trans ((kq (a := 6) (b := 5) eσ567 (by omega)).trans (k554.trans (k535.trans (k516.trans (k8.trans ((kq (a := 6) (b := 5) eσ2 (fun q => absurd q.1 (by decide))))))))), k665.trans ((kq (a := 7) (b := 4) eσ567 (by omega)).trans (k555.trans (k536.trans (k517.trans (k9.trans ((kq (a := 7) (b := 4) eσ2 (fun q => absurd q.1 (by decide))))))))), k666.trans ((kq (a := 2) (b := 4) eσ567 (by omega)).trans (k556.trans (k537.trans (k518.trans (k10.trans ((kq (a := 2) (b := 4) eσ2 (fun q => absurd q.1 (by decide)))))))))⟩)
                · have f668 := tB (σ549.1 3 11)
                  first | have f669 := (noteqE (rfl : (σ549.1 3 11).toInt = (σ549.1 3 11).toInt) (show (0 : Int32).toInt = 0 from by decide)).mp c563 | skip
                  exact hQ _ hσ549 (⟨k552.trans (k533.trans (k514.trans (k6.trans ((kq (a := 9) (b := 9) eσ2 (fun q => absurd q.1 (by decide))))))), k553.trans (k534.trans (k515.trans (k7.trans ((kq (a := 9) (b := 10) eσ2 (fun q => absurd q.1 (by decide))))))), k554.trans (k535.trans (k516.trans (k8.trans ((kq (a := 6) (b := 5) eσ2 (fun q => absurd q.1 (by decide))))))), k555.trans (k536.trans (k517.trans (k9.trans ((kq (a := 7) (b := 4) eσ2 (fun q => absurd q.1 (by decide))))))), k556.trans (k537.trans (k518.trans (k10.trans ((kq (a := 2) (b := 4) eσ2 (fun q => absurd q.1 (by decide)))))))⟩)
              · first | have f671 := (noteqE (rfl : (jT r15.toNatClampNeg).toInt = (jT r15.toNatClampNeg).toInt) (show (2 : Int32).toInt = 2 from by decide)).mp c546 | skip
                unfold fX2_doOrder_j122
                refine ⟨fun c672 => ?_, fun c672 => ?_⟩
                · have f673 := tB (σ530.1 3 11)
                  first | have f674 := (eqE (rfl : (σ530.1 3 11).toInt = (σ530.1 3 11).toInt) (show (0 : Int32).toInt = 0 from by decide)).mp c672 | skip
                  intro v675 ev675
                  intro σ676 eσ676
                  have kb677 := jobK_b hk1
                  have hσ676 : K1 σ0 σ676 := by rw [eσ676]; exact hσ530.u (rg_jobK hk1) (by omega) (by omega)
                  have g679 : vp_in r15 18 := inE (rfl : r15.toInt = r15.toInt) (by omega) (by omega)
                  refine ⟨g679, ?_⟩
                  refine ⟨fun c680 => ?_, fun c680 => ?_⟩
                  · first | have f682 := (eqE (rfl : (jT r15.toNatClampNeg).toInt = (jT r15.toNatClampNeg).toInt) (show (1 : Int32).toInt = 1 from by decide)).mp c680 | skip
                    have f684 := tB r523
                    refine sX2_valueFor hN hσ676 (fun r697 σ685 hσ685 kk696 p698 => ?_)
                    obtain ⟨k686, k687, k688, k689, k690, k691, k692, k693, k694, k695⟩ := kk696
                    refine ⟨fun c699 => ?_, fun c699 => ?_⟩
                    · have f700 := tB (σ685.1 3 11)
                      first | have f701 := (eqE (rfl : (σ685.1 3 11).toInt = (σ685.1 3 11).toInt) (show (0 : Int32).toInt = 0 from by decide)).mp c699 | skip
                      have f702 := tB r542
                      have f703 := tB r697
                      refine sX1_setLocal hN hk1 hσ685 (fun σ704 hσ704 kk716 => ?_)
                      obtain ⟨k705, k706, k707, k708, k709, k710, k711, k712, k713, k714, k715⟩ := kk716
                      unfold fX2_doOrder_j174
                      exact hQ _ hσ704 (⟨k708.trans (k688.trans ((kq (a := 9) (b := 9) eσ676 (by omega)).trans (k533.trans (k514.trans (k6.trans ((kq (a := 9) (b := 9) eσ2 (fun q => absurd q.1 (by decide))))))))), k709.trans (k689.trans ((kq (a := 9) (b := 10) eσ676 (by omega)).trans (k534.trans (k515.trans (k7.trans ((kq (a := 9) (b := 10) eσ2 (fun q => absurd q.1 (by decide))))))))), k710.trans (k690.trans ((kq (a := 6) (b := 5) eσ676 (by omega)).trans (k535.trans (k516.trans (k8.trans ((kq (a := 6) (b := 5) eσ2 (fun q => absurd q.1 (by decide))))))))), k711.trans (k691.trans ((kq (a := 7) (b := 4) eσ676 (by omega)).trans (k536.trans (k517.trans (k9.trans ((kq (a := 7) (b := 4) eσ2 (fun q => absurd q.1 (by decide))))))))), k712.trans (k692.trans ((kq (a := 2) (b := 4) eσ676 (by omega)).trans (k537.trans (k518.trans (k10.trans ((kq (a := 2) (b := 4) eσ2 (fun q => absurd q.1 (by decide)))))))))⟩)
                    · have f717 := tB (σ685.1 3 11)
                      first | have f718 := (noteqE (rfl : (σ685.1 3 11).toInt = (σ685.1 3 11).toInt) (show (0 : Int32).toInt = 0 from by decide)).mp c699 | skip
                      unfold fX2_doOrder_j174
                      exact hQ _ hσ685 (⟨k688.trans ((kq (a := 9) (b := 9) eσ676 (by omega)).trans (k533.trans (k514.trans (k6.trans ((kq (a := 9) (b := 9) eσ2 (fun q => absurd q.1 (by decide)))))))), k689.trans ((kq (a := 9) (b := 10) eσ676 (by omega)).trans (k534.trans (k515.trans (k7.trans ((kq (a := 9) (b := 10) eσ2 (fun q => absurd q.1 (by decide)))))))), k690.trans ((kq (a := 6) (b := 5) eσ676 (by omega)).trans (k535.trans (k516.trans (k8.trans ((kq (a := 6) (b := 5) eσ2 (fun q => absurd q.1 (by decide)))))))), k691.trans ((kq (a := 7) (b := 4) eσ676 (by omega)).trans (k536.trans (k517.trans (k9.trans ((kq (a := 7) (b := 4) eσ2 (fun q => absurd q.1 (by decide)))))))), k692.trans ((kq (a := 2) (b := 4) eσ676 (by omega)).trans (k537.trans (k518.trans (k10.trans ((kq (a := 2) (b := 4) eσ2 (fun q => absurd q.1 (by decide))))))))⟩)
                  · first | have f720 := (noteqE (rfl : (jT r15.toNatClampNeg).toInt = (jT r15.toNatClampNeg).toInt) (show (1 : Int32).toInt = 1 from by decide)).mp c680 | skip
                    have g722 : vp_in r15 18 := inE (rfl : r15.toInt = r15.toInt) (by omega) (by omega)
                    refine ⟨g722, ?_⟩
                    refine ⟨fun c723 => ?_, fun c723 => ?_⟩
                    · first | have f725 := (eqE (rfl : (jT r15.toNatClampNeg).toInt = (jT r15.toNatClampNeg).toInt) (show (2 : Int32).toInt = 2 from by decide)).mp c723 | skip
                      have f727 := tB r523
                      refine sX2_goesThere hN hσ676 (fun r741 p742 => ?_)
                      refine ⟨fun c743 => ?_, fun c743 => ?_⟩
                      · have f744 := tB r741
                        first | have f745 := (eqE (rfl : r741.toInt = r741.toInt) (show (0 : Int32).toInt = 0 from by decide)).mp c743 | skip
                        exact hQ _ hσ676 (⟨(kq (a := 9) (b := 9) eσ676 (by omega)).trans (k533.trans (k514.trans (k6.trans ((kq (a := 9) (b := 9) eσ2 (fun q => absurd q.1 (by decide))))))), (kq (a := 9) (b := 10) eσ676 (by omega)).trans (k534.trans (k515.trans (k7.trans ((kq (a := 9) (b := 10) eσ2 (fun q => absurd q.1 (by decide))))))), (kq (a := 6) (b := 5) eσ676 (by omega)).trans (k535.trans (k516.trans (k8.trans ((kq (a := 6) (b := 5) eσ2 (fun q => absurd q.1 (by decide))))))), (kq (a := 7) (b := 4) eσ676 (by omega)).trans (k536.trans (k517.trans (k9.trans ((kq (a := 7) (b := 4) eσ2 (fun q => absurd q.1 (by decide))))))), (kq (a := 2) (b := 4) eσ676 (by omega)).trans (k537.trans (k518.trans (k10.trans ((kq (a := 2) (b := 4) eσ2 (fun q => absurd q.1 (by decide)))))))⟩)
                      · have f746 := tB r741
                        first | have f747 := (noteqE (rfl : r741.toInt = r741.toInt) (show (0 : Int32).toInt = 0 from by decide)).mp c743 | skip
                        intro v748 ev748
                        intro σ749 eσ749
                        have kb750 := jobK_b hk1
                        have hσ749 : K1 σ0 σ749 := by rw [eσ749]; exact hσ676.u (rg_jobK hk1) (by omega) (by omega)
                        exact hQ _ hσ749 (⟨(kq (a := 9) (b := 9) eσ749 (by omega)).trans ((kq (a := 9) (b := 9) eσ676 (by omega)).trans (k533.trans (k514.trans (k6.trans ((kq (a := 9) (b := 9) eσ2 (fun q => absurd q.1 (by decide)))))))), (kq (a := 9) (b := 10) eσ749 (by omega)).trans ((kq (a := 9) (b := 10) eσ676 (by omega)).trans (k534.trans (k515.trans (k7.trans ((kq (a := 9) (b := 10) eσ2 (fun q => absurd q.1 (by decide)))))))), (kq (a := 6) (b := 5) eσ749 (by omega)).trans ((kq (a := 6) (b := 5) eσ676 (by omega)).trans (k535.trans (k516.trans (k8.trans ((kq (a := 6) (b := 5) eσ2 (fun q => absurd q.1 (by decide)))))))), (kq (a := 7) (b := 4) eσ749 (by omega)).trans ((kq (a := 7) (b := 4) eσ676 (by omega)).trans (k536.trans (k517.trans (k9.trans ((kq (a := 7) (b := 4) eσ2 (fun q => absurd q.1 (by decide)))))))), (kq (a := 2) (b := 4) eσ749 (by omega)).trans ((kq (a := 2) (b := 4) eσ676 (by omega)).trans (k537.trans (k518.trans (k10.trans ((kq (a := 2) (b := 4) eσ2 (fun q => absurd q.1 (by decide))))))))⟩)
                    · first | have f752 := (noteqE (rfl : (jT r15.toNatClampNeg).toInt = (jT r15.toNatClampNeg).toInt) (show (2 : Int32).toInt = 2 from by decide)).mp c723 | skip
                      have f754 := tB r523
                      have f756 := K1.g_3_7 hσ676
                      have q757 : σ676.1 3 7 = σ530.1 3 7 := by rw [eσ676]; exact congrFun (u1_ne (by omega)) 7
                      have f758 := congrArg Int32.toInt q757
                      have f759 := K1.g_3_7 hσ530
                      have f760 := congrArg Int32.toInt k531
                      have f761 := K1.g_3_7 hσ511
                      have f762 := congrArg Int32.toInt k512
                      have f763 := K1.g_3_7 hσ3
                      have f764 := congrArg Int32.toInt k4
                      have f765 := K1.g_3_7 hσ2
                      have q766 : σ2.1 3 7 = σ.1 3 7 := by rw [eσ2, u1_at]; exact if_neg (by decide)
                      have f767 := congrArg Int32.toInt q766
                      have f768 := K1.g_3_7 hσ
                      refine sX2_act hN hk1 ⟨by omega, by omega⟩ hσ676 (fun σ755 hσ755 kk774 => ?_)
                      obtain ⟨k769, k770, k771, k772, k773⟩ := kk774
                      exact hQ _ hσ755 (⟨k769.trans ((kq (a := 9) (b := 9) eσ676 (by omega)).trans (k533.trans (k514.trans (k6.trans ((kq (a := 9) (b := 9) eσ2 (fun q => absurd q.1 (by decide)))))))), k770.trans ((kq (a := 9) (b := 10) eσ676 (by omega)).trans (k534.trans (k515.trans (k7.trans ((kq (a := 9) (b := 10) eσ2 (fun q => absurd q.1 (by decide)))))))), k771.trans ((kq (a := 6) (b := 5) eσ676 (by omega)).trans (k535.trans (k516.trans (k8.trans ((kq (a := 6) (b := 5) eσ2 (fun q => absurd q.1 (by decide)))))))), k772.trans ((kq (a := 7) (b := 4) eσ676 (by omega)).trans (k536.trans (k517.trans (k9.trans ((kq (a := 7) (b := 4) eσ2 (fun q => absurd q.1 (by decide)))))))), k773.trans ((kq (a := 2) (b := 4) eσ676 (by omega)).trans (k537.trans (k518.trans (k10.trans ((kq (a := 2) (b := 4) eσ2 (fun q => absurd q.1 (by decide))))))))⟩)
                · have f775 := tB (σ530.1 3 11)
                  first | have f776 := (noteqE (rfl : (σ530.1 3 11).toInt = (σ530.1 3 11).toInt) (show (0 : Int32).toInt = 0 from by decide)).mp c672 | skip
                  exact hQ _ hσ530 (⟨k533.trans (k514.trans (k6.trans ((kq (a := 9) (b := 9) eσ2 (fun q => absurd q.1 (by decide)))))), k534.trans (k515.trans (k7.trans ((kq (a := 9) (b := 10) eσ2 (fun q => absurd q.1 (by decide)))))), k535.trans (k516.trans (k8.trans ((kq (a := 6) (b := 5) eσ2 (fun q => absurd q.1 (by decide)))))), k536.trans (k517.trans (k9.trans ((kq (a := 7) (b := 4) eσ2 (fun q => absurd q.1 (by decide)))))), k537.trans (k518.trans (k10.trans ((kq (a := 2) (b := 4) eσ2 (fun q => absurd q.1 (by decide))))))⟩)
            · have f777 := tB (jT r15.toNatClampNeg)
              first | have f778 := (noteqE (rfl : (jT r15.toNatClampNeg).toInt = (jT r15.toNatClampNeg).toInt) (show (1 : Int32).toInt = 1 from by decide)).mp c527 | skip
              unfold fX2_doOrder_j103
              have g780 : vp_in r15 18 := inE (rfl : r15.toInt = r15.toInt) (by omega) (by omega)
              refine ⟨g780, ?_⟩
              refine ⟨fun c781 => ?_, fun c781 => ?_⟩
              · first | have f783 := (eqE (rfl : (jT r15.toNatClampNeg).toInt = (jT r15.toNatClampNeg).toInt) (show (2 : Int32).toInt = 2 from by decide)).mp c781 | skip
                refine sX2_nextDistance hN hσ511 (fun r796 σ784 hσ784 kk795 p797 => ?_)
                obtain ⟨k785, k786, k787, k788, k789, k790, k791, k792, k793, k794⟩ := kk795
                unfold fX2_doOrder_j122
                refine ⟨fun c798 => ?_, fun c798 => ?_⟩
                · have f799 := tB (σ784.1 3 11)
                  first | have f800 := (eqE (rfl : (σ784.1 3 11).toInt = (σ784.1 3 11).toInt) (show (0 : Int32).toInt = 0 from by decide)).mp c798 | skip
                  intro v801 ev801
                  intro σ802 eσ802
                  have kb803 := jobK_b hk1
                  have hσ802 : K1 σ0 σ802 := by rw [eσ802]; exact hσ784.u (rg_jobK hk1) (by omega) (by omega)
                  have g805 : vp_in r15 18 := inE (rfl : r15.toInt = r15.toInt) (by omega) (by omega)
                  refine ⟨g805, ?_⟩
                  refine ⟨fun c806 => ?_, fun c806 => ?_⟩
                  · first | have f808 := (eqE (rfl : (jT r15.toNatClampNeg).toInt = (jT r15.toNatClampNeg).toInt) (show (1 : Int32).toInt = 1 from by decide)).mp c806 | skip
                    have f810 := tB r523
                    refine sX2_valueFor hN hσ802 (fun r823 σ811 hσ811 kk822 p824 => ?_)
                    obtain ⟨k812, k813, k814, k815, k816, k817, k818, k819, k820, k821⟩ := kk822
                    refine ⟨fun c825 => ?_, fun c825 => ?_⟩
                    · have f826 := tB (σ811.1 3 11)
                      first | have f827 := (eqE (rfl : (σ811.1 3 11).toInt = (σ811.1 3 11).toInt) (show (0 : Int32).toInt = 0 from by decide)).mp c825 | skip
                      have f828 := tB r823
                      refine sX1_setLocal hN hk1 hσ811 (fun σ829 hσ829 kk841 => ?_)
                      obtain ⟨k830, k831, k832, k833, k834, k835, k836, k837, k838, k839, k840⟩ := kk841
                      unfold fX2_doOrder_j174
                      exact hQ _ hσ829 (⟨k833.trans (k814.trans ((kq (a := 9) (b := 9) eσ802 (by omega)).trans (k787.trans (k514.trans (k6.trans ((kq (a := 9) (b := 9) eσ2 (fun q => absurd q.1 (by decide))))))))), k834.trans (k815.trans ((kq (a := 9) (b := 10) eσ802 (by omega)).trans (k788.trans (k515.trans (k7.trans ((kq (a := 9) (b := 10) eσ2 (fun q => absurd q.1 (by decide))))))))), k835.trans (k816.trans ((kq (a := 6) (b := 5) eσ802 (by omega)).trans (k789.trans (k516.trans (k8.trans ((kq (a := 6) (b := 5) eσ2 (fun q => absurd q.1 (by decide))))))))), k836.trans (k817.trans ((kq (a := 7) (b := 4) eσ802 (by omega)).trans (k790.trans (k517.trans (k9.trans ((kq (a := 7) (b := 4) eσ2 (fun q => absurd q.1 (by decide))))))))), k837.trans (k818.trans ((kq (a := 2) (b := 4) eσ802 (by omega)).trans (k791.trans (k518.trans (k10.trans ((kq (a := 2) (b := 4) eσ2 (fun q => absurd q.1 (by decide)))))))))⟩)
                    · have f842 := tB (σ811.1 3 11)
                      first | have f843 := (noteqE (rfl : (σ811.1 3 11).toInt = (σ811.1 3 11).toInt) (show (0 : Int32).toInt = 0 from by decide)).mp c825 | skip
                      unfold fX2_doOrder_j174
                      exact hQ _ hσ811 (⟨k814.trans ((kq (a := 9) (b := 9) eσ802 (by omega)).trans (k787.trans (k514.trans (k6.trans ((kq (a := 9) (b := 9) eσ2 (fun q => absurd q.1 (by decide)))))))), k815.trans ((kq (a := 9) (b := 10) eσ802 (by omega)).trans (k788.trans (k515.trans (k7.trans ((kq (a := 9) (b := 10) eσ2 (fun q => absurd q.1 (by decide)))))))), k816.trans ((kq (a := 6) (b := 5) eσ802 (by omega)).trans (k789.trans (k516.trans (k8.trans ((kq (a := 6) (b := 5) eσ2 (fun q => absurd q.1 (by decide)))))))), k817.trans ((kq (a := 7) (b := 4) eσ802 (by omega)).trans (k790.trans (k517.trans (k9.trans ((kq (a := 7) (b := 4) eσ2 (fun q => absurd q.1 (by decide)))))))), k818.trans ((kq (a := 2) (b := 4) eσ802 (by omega)).trans (k791.trans (k518.trans (k10.trans ((kq (a := 2) (b := 4) eσ2 (fun q => absurd q.1 (by decide))))))))⟩)
                  · first | have f845 := (noteqE (rfl : (jT r15.toNatClampNeg).toInt = (jT r15.toNatClampNeg).toInt) (show (1 : Int32).toInt = 1 from by decide)).mp c806 | skip
                    have g847 : vp_in r15 18 := inE (rfl : r15.toInt = r15.toInt) (by omega) (by omega)
                    refine ⟨g847, ?_⟩
                    refine ⟨fun c848 => ?_, fun c848 => ?_⟩
                    · first | have f850 := (eqE (rfl : (jT r15.toNatClampNeg).toInt = (jT r15.toNatClampNeg).toInt) (show (2 : Int32).toInt = 2 from by decide)).mp c848 | skip
                      have f852 := tB r523
                      refine sX2_goesThere hN hσ802 (fun r866 p867 => ?_)
                      refine ⟨fun c868 => ?_, fun c868 => ?_⟩
                      · have f869 := tB r866
                        first | have f870 := (eqE (rfl : r866.toInt = r866.toInt) (show (0 : Int32).toInt = 0 from by decide)).mp c868 | skip
                        exact hQ _ hσ802 (⟨(kq (a := 9) (b := 9) eσ802 (by omega)).trans (k787.trans (k514.trans (k6.trans ((kq (a := 9) (b := 9) eσ2 (fun q => absurd q.1 (by decide))))))), (kq (a := 9) (b := 10) eσ802 (by omega)).trans (k788.trans (k515.trans (k7.trans ((kq (a := 9) (b := 10) eσ2 (fun q => absurd q.1 (by decide))))))), (kq (a := 6) (b := 5) eσ802 (by omega)).trans (k789.trans (k516.trans (k8.trans ((kq (a := 6) (b := 5) eσ2 (fun q => absurd q.1 (by decide))))))), (kq (a := 7) (b := 4) eσ802 (by omega)).trans (k790.trans (k517.trans (k9.trans ((kq (a := 7) (b := 4) eσ2 (fun q => absurd q.1 (by decide))))))), (kq (a := 2) (b := 4) eσ802 (by omega)).trans (k791.trans (k518.trans (k10.trans ((kq (a := 2) (b := 4) eσ2 (fun q => absurd q.1 (by decide)))))))⟩)
                      · have f871 := tB r866
                        first | have f872 := (noteqE (rfl : r866.toInt = r866.toInt) (show (0 : Int32).toInt = 0 from by decide)).mp c868 | skip
                        intro v873 ev873
                        intro σ874 eσ874
                        have kb875 := jobK_b hk1
                        have hσ874 : K1 σ0 σ874 := by rw [eσ874]; exact hσ802.u (rg_jobK hk1) (by omega) (by omega)
                        exact hQ _ hσ874 (⟨(kq (a := 9) (b := 9) eσ874 (by omega)).trans ((kq (a := 9) (b := 9) eσ802 (by omega)).trans (k787.trans (k514.trans (k6.trans ((kq (a := 9) (b := 9) eσ2 (fun q => absurd q.1 (by decide)))))))), (kq (a := 9) (b := 10) eσ874 (by omega)).trans ((kq (a := 9) (b := 10) eσ802 (by omega)).trans (k788.trans (k515.trans (k7.trans ((kq (a := 9) (b := 10) eσ2 (fun q => absurd q.1 (by decide)))))))), (kq (a := 6) (b := 5) eσ874 (by omega)).trans ((kq (a := 6) (b := 5) eσ802 (by omega)).trans (k789.trans (k516.trans (k8.trans ((kq (a := 6) (b := 5) eσ2 (fun q => absurd q.1 (by decide)))))))), (kq (a := 7) (b := 4) eσ874 (by omega)).trans ((kq (a := 7) (b := 4) eσ802 (by omega)).trans (k790.trans (k517.trans (k9.trans ((kq (a := 7) (b := 4) eσ2 (fun q => absurd q.1 (by decide)))))))), (kq (a := 2) (b := 4) eσ874 (by omega)).trans ((kq (a := 2) (b := 4) eσ802 (by omega)).trans (k791.trans (k518.trans (k10.trans ((kq (a := 2) (b := 4) eσ2 (fun q => absurd q.1 (by decide))))))))⟩)
                    · first | have f877 := (noteqE (rfl : (jT r15.toNatClampNeg).toInt = (jT r15.toNatClampNeg).toInt) (show (2 : Int32).toInt = 2 from by decide)).mp c848 | skip
                      have f879 := tB r523
                      have f881 := K1.g_3_7 hσ802
                      have q882 : σ802.1 3 7 = σ784.1 3 7 := by rw [eσ802]; exact congrFun (u1_ne (by omega)) 7
                      have f883 := congrArg Int32.toInt q882
                      have f884 := K1.g_3_7 hσ784
                      have f885 := congrArg Int32.toInt k785
                      have f886 := K1.g_3_7 hσ511
                      have f887 := congrArg Int32.toInt k512
                      have f888 := K1.g_3_7 hσ3
                      have f889 := congrArg Int32.toInt k4
                      have f890 := K1.g_3_7 hσ2
                      have q891 : σ2.1 3 7 = σ.1 3 7 := by rw [eσ2, u1_at]; exact if_neg (by decide)
                      have f892 := congrArg Int32.toInt q891
                      have f893 := K1.g_3_7 hσ
                      refine sX2_act hN hk1 ⟨by omega, by omega⟩ hσ802 (fun σ880 hσ880 kk899 => ?_)
                      obtain ⟨k894, k895, k896, k897, k898⟩ := kk899
                      exact hQ _ hσ880 (⟨k894.trans ((kq (a := 9) (b := 9) eσ802 (by omega)).trans (k787.trans (k514.trans (k6.trans ((kq (a := 9) (b := 9) eσ2 (fun q => absurd q.1 (by decide)))))))), k895.trans ((kq (a := 9) (b := 10) eσ802 (by omega)).trans (k788.trans (k515.trans (k7.trans ((kq (a := 9) (b := 10) eσ2 (fun q => absurd q.1 (by decide)))))))), k896.trans ((kq (a := 6) (b := 5) eσ802 (by omega)).trans (k789.trans (k516.trans (k8.trans ((kq (a := 6) (b := 5) eσ2 (fun q => absurd q.1 (by decide)))))))), k897.trans ((kq (a := 7) (b := 4) eσ802 (by omega)).trans (k790.trans (k517.trans (k9.trans ((kq (a := 7) (b := 4) eσ2 (fun q => absurd q.1 (by decide)))))))), k898.trans ((kq (a := 2) (b := 4) eσ802 (by omega)).trans (k791.trans (k518.trans (k10.trans ((kq (a := 2) (b := 4) eσ2 (fun q => absurd q.1 (by decide))))))))⟩)
                · have f900 := tB (σ784.1 3 11)
                  first | have f901 := (noteqE (rfl : (σ784.1 3 11).toInt = (σ784.1 3 11).toInt) (show (0 : Int32).toInt = 0 from by decide)).mp c798 | skip
                  exact hQ _ hσ784 (⟨k787.trans (k514.trans (k6.trans ((kq (a := 9) (b := 9) eσ2 (fun q => absurd q.1 (by decide)))))), k788.trans (k515.trans (k7.trans ((kq (a := 9) (b := 10) eσ2 (fun q => absurd q.1 (by decide)))))), k789.trans (k516.trans (k8.trans ((kq (a := 6) (b := 5) eσ2 (fun q => absurd q.1 (by decide)))))), k790.trans (k517.trans (k9.trans ((kq (a := 7) (b := 4) eσ2 (fun q => absurd q.1 (by decide)))))), k791.trans (k518.trans (k10.trans ((kq (a := 2) (b := 4) eσ2 (fun q => absurd q.1 (by decide))))))⟩)
              · first | have f903 := (noteqE (rfl : (jT r15.toNatClampNeg).toInt = (jT r15.toNatClampNeg).toInt) (show (2 : Int32).toInt = 2 from by decide)).mp c781 | skip
                unfold fX2_doOrder_j122
                refine ⟨fun c904 => ?_, fun c904 => ?_⟩
                · have f905 := tB (σ511.1 3 11)
                  first | have f906 := (eqE (rfl : (σ511.1 3 11).toInt = (σ511.1 3 11).toInt) (show (0 : Int32).toInt = 0 from by decide)).mp c904 | skip
                  intro v907 ev907
                  intro σ908 eσ908
                  have kb909 := jobK_b hk1
                  have hσ908 : K1 σ0 σ908 := by rw [eσ908]; exact hσ511.u (rg_jobK hk1) (by omega) (by omega)
                  have g911 : vp_in r15 18 := inE (rfl : r15.toInt = r15.toInt) (by omega) (by omega)
                  refine ⟨g911, ?_⟩
                  refine ⟨fun c912 => ?_, fun c912 => ?_⟩
                  · first | have f914 := (eqE (rfl : (jT r15.toNatClampNeg).toInt = (jT r15.toNatClampNeg).toInt) (show (1 : Int32).toInt = 1 from by decide)).mp c912 | skip
                    have f916 := tB r523
                    refine sX2_valueFor hN hσ908 (fun r929 σ917 hσ917 kk928 p930 => ?_)
                    obtain ⟨k918, k919, k920, k921, k922, k923, k924, k925, k926, k927⟩ := kk928
                    refine ⟨fun c931 => ?_, fun c931 => ?_⟩
                    · have f932 := tB (σ917.1 3 11)
                      first | have f933 := (eqE (rfl : (σ917.1 3 11).toInt = (σ917.1 3 11).toInt) (show (0 : Int32).toInt = 0 from by decide)).mp c931 | skip
                      have f934 := tB r929
                      refine sX1_setLocal hN hk1 hσ917 (fun σ935 hσ935 kk947 => ?_)
                      obtain ⟨k936, k937, k938, k939, k940, k941, k942, k943, k944, k945, k946⟩ := kk947
                      unfold fX2_doOrder_j174
                      exact hQ _ hσ935 (⟨k939.trans (k920.trans ((kq (a := 9) (b := 9) eσ908 (by omega)).trans (k514.trans (k6.trans ((kq (a := 9) (b := 9) eσ2 (fun q => absurd q.1 (by decide)))))))), k940.trans (k921.trans ((kq (a := 9) (b := 10) eσ908 (by omega)).trans (k515.trans (k7.trans ((kq (a := 9) (b := 10) eσ2 (fun q => absurd q.1 (by decide)))))))), k941.trans (k922.trans ((kq (a := 6) (b := 5) eσ908 (by omega)).trans (k516.trans (k8.trans ((kq (a := 6) (b := 5) eσ2 (fun q => absurd q.1 (by decide)))))))), k942.trans (k923.trans ((kq (a := 7) (b := 4) eσ908 (by omega)).trans (k517.trans (k9.trans ((kq (a := 7) (b := 4) eσ2 (fun q => absurd q.1 (by decide)))))))), k943.trans (k924.trans ((kq (a := 2) (b := 4) eσ908 (by omega)).trans (k518.trans (k10.trans ((kq (a := 2) (b := 4) eσ2 (fun q => absurd q.1 (by decide))))))))⟩)
                    · have f948 := tB (σ917.1 3 11)
                      first | have f949 := (noteqE (rfl : (σ917.1 3 11).toInt = (σ917.1 3 11).toInt) (show (0 : Int32).toInt = 0 from by decide)).mp c931 | skip
                      unfold fX2_doOrder_j174
                      exact hQ _ hσ917 (⟨k920.trans ((kq (a := 9) (b := 9) eσ908 (by omega)).trans (k514.trans (k6.trans ((kq (a := 9) (b := 9) eσ2 (fun q => absurd q.1 (by decide))))))), k921.trans ((kq (a := 9) (b := 10) eσ908 (by omega)).trans (k515.trans (k7.trans ((kq (a := 9) (b := 10) eσ2 (fun q => absurd q.1 (by decide))))))), k922.trans ((kq (a := 6) (b := 5) eσ908 (by omega)).trans (k516.trans (k8.trans ((kq (a := 6) (b := 5) eσ2 (fun q => absurd q.1 (by decide))))))), k923.trans ((kq (a := 7) (b := 4) eσ908 (by omega)).trans (k517.trans (k9.trans ((kq (a := 7) (b := 4) eσ2 (fun q => absurd q.1 (by decide))))))), k924.trans ((kq (a := 2) (b := 4) eσ908 (by omega)).trans (k518.trans (k10.trans ((kq (a := 2) (b := 4) eσ2 (fun q => absurd q.1 (by decide)))))))⟩)
                  · first | have f951 := (noteqE (rfl : (jT r15.toNatClampNeg).toInt = (jT r15.toNatClampNeg).toInt) (show (1 : Int32).toInt = 1 from by decide)).mp c912 | skip
                    have g953 : vp_in r15 18 := inE (rfl : r15.toInt = r15.toInt) (by omega) (by omega)
                    refine ⟨g953, ?_⟩
                    refine ⟨fun c954 => ?_, fun c954 => ?_⟩
                    · first | have f956 := (eqE (rfl : (jT r15.toNatClampNeg).toInt = (jT r15.toNatClampNeg).toInt) (show (2 : Int32).toInt = 2 from by decide)).mp c954 | skip
                      have f958 := tB r523
                      refine sX2_goesThere hN hσ908 (fun r972 p973 => ?_)
                      refine ⟨fun c974 => ?_, fun c974 => ?_⟩
                      · have f975 := tB r972
                        first | have f976 := (eqE (rfl : r972.toInt = r972.toInt) (show (0 : Int32).toInt = 0 from by decide)).mp c974 | skip
                        exact hQ _ hσ908 (⟨(kq (a := 9) (b := 9) eσ908 (by omega)).trans (k514.trans (k6.trans ((kq (a := 9) (b := 9) eσ2 (fun q => absurd q.1 (by decide)))))), (kq (a := 9) (b := 10) eσ908 (by omega)).trans (k515.trans (k7.trans ((kq (a := 9) (b := 10) eσ2 (fun q => absurd q.1 (by decide)))))), (kq (a := 6) (b := 5) eσ908 (by omega)).trans (k516.trans (k8.trans ((kq (a := 6) (b := 5) eσ2 (fun q => absurd q.1 (by decide)))))), (kq (a := 7) (b := 4) eσ908 (by omega)).trans (k517.trans (k9.trans ((kq (a := 7) (b := 4) eσ2 (fun q => absurd q.1 (by decide)))))), (kq (a := 2) (b := 4) eσ908 (by omega)).trans (k518.trans (k10.trans ((kq (a := 2) (b := 4) eσ2 (fun q => absurd q.1 (by decide))))))⟩)
                      · have f977 := tB r972
                        first | have f978 := (noteqE (rfl : r972.toInt = r972.toInt) (show (0 : Int32).toInt = 0 from by decide)).mp c974 | skip
                        intro v979 ev979
                        intro σ980 eσ980
                        have kb981 := jobK_b hk1
                        have hσ980 : K1 σ0 σ980 := by rw [eσ980]; exact hσ908.u (rg_jobK hk1) (by omega) (by omega)
                        exact hQ _ hσ980 (⟨(kq (a := 9) (b := 9) eσ980 (by omega)).trans ((kq (a := 9) (b := 9) eσ908 (by omega)).trans (k514.trans (k6.trans ((kq (a := 9) (b := 9) eσ2 (fun q => absurd q.1 (by decide))))))), (kq (a := 9) (b := 10) eσ980 (by omega)).trans ((kq (a := 9) (b := 10) eσ908 (by omega)).trans (k515.trans (k7.trans ((kq (a := 9) (b := 10) eσ2 (fun q => absurd q.1 (by decide))))))), (kq (a := 6) (b := 5) eσ980 (by omega)).trans ((kq (a := 6) (b := 5) eσ908 (by omega)).trans (k516.trans (k8.trans ((kq (a := 6) (b := 5) eσ2 (fun q => absurd q.1 (by decide))))))), (kq (a := 7) (b := 4) eσ980 (by omega)).trans ((kq (a := 7) (b := 4) eσ908 (by omega)).trans (k517.trans (k9.trans ((kq (a := 7) (b := 4) eσ2 (fun q => absurd q.1 (by decide))))))), (kq (a := 2) (b := 4) eσ980 (by omega)).trans ((kq (a := 2) (b := 4) eσ908 (by omega)).trans (k518.trans (k10.trans ((kq (a := 2) (b := 4) eσ2 (fun q => absurd q.1 (by decide)))))))⟩)
                    · first | have f983 := (noteqE (rfl : (jT r15.toNatClampNeg).toInt = (jT r15.toNatClampNeg).toInt) (show (2 : Int32).toInt = 2 from by decide)).mp c954 | skip
                      have f985 := tB r523
                      have f987 := K1.g_3_7 hσ908
                      have q988 : σ908.1 3 7 = σ511.1 3 7 := by rw [eσ908]; exact congrFun (u1_ne (by omega)) 7
                      have f989 := congrArg Int32.toInt q988
                      have f990 := K1.g_3_7 hσ511
                      have f991 := congrArg Int32.toInt k512
                      have f992 := K1.g_3_7 hσ3
                      have f993 := congrArg Int32.toInt k4
                      have f994 := K1.g_3_7 hσ2
                      have q995 : σ2.1 3 7 = σ.1 3 7 := by rw [eσ2, u1_at]; exact if_neg (by decide)
                      have f996 := congrArg Int32.toInt q995
                      have f997 := K1.g_3_7 hσ
                      refine sX2_act hN hk1 ⟨by omega, by omega⟩ hσ908 (fun σ986 hσ986 kk1003 => ?_)
                      obtain ⟨k998, k999, k1000, k1001, k1002⟩ := kk1003
                      exact hQ _ hσ986 (⟨k998.trans ((kq (a := 9) (b := 9) eσ908 (by omega)).trans (k514.trans (k6.trans ((kq (a := 9) (b := 9) eσ2 (fun q => absurd q.1 (by decide))))))), k999.trans ((kq (a := 9) (b := 10) eσ908 (by omega)).trans (k515.trans (k7.trans ((kq (a := 9) (b := 10) eσ2 (fun q => absurd q.1 (by decide))))))), k1000.trans ((kq (a := 6) (b := 5) eσ908 (by omega)).trans (k516.trans (k8.trans ((kq (a := 6) (b := 5) eσ2 (fun q => absurd q.1 (by decide))))))), k1001.trans ((kq (a := 7) (b := 4) eσ908 (by omega)).trans (k517.trans (k9.trans ((kq (a := 7) (b := 4) eσ2 (fun q => absurd q.1 (by decide))))))), k1002.trans ((kq (a := 2) (b := 4) eσ908 (by omega)).trans (k518.trans (k10.trans ((kq (a := 2) (b := 4) eσ2 (fun q => absurd q.1 (by decide)))))))⟩)
                · have f1004 := tB (σ511.1 3 11)
                  first | have f1005 := (noteqE (rfl : (σ511.1 3 11).toInt = (σ511.1 3 11).toInt) (show (0 : Int32).toInt = 0 from by decide)).mp c904 | skip
                  exact hQ _ hσ511 (⟨k514.trans (k6.trans ((kq (a := 9) (b := 9) eσ2 (fun q => absurd q.1 (by decide))))), k515.trans (k7.trans ((kq (a := 9) (b := 10) eσ2 (fun q => absurd q.1 (by decide))))), k516.trans (k8.trans ((kq (a := 6) (b := 5) eσ2 (fun q => absurd q.1 (by decide))))), k517.trans (k9.trans ((kq (a := 7) (b := 4) eσ2 (fun q => absurd q.1 (by decide))))), k518.trans (k10.trans ((kq (a := 2) (b := 4) eσ2 (fun q => absurd q.1 (by decide)))))⟩)
        · have f1006 := tB (jV r15.toNatClampNeg)
          first | have f1007 := (notleE (rfl : (jV r15.toNatClampNeg).toInt = (jV r15.toNatClampNeg).toInt) (show (0 : Int32).toInt = 0 from by decide)).mp c40 | skip
          refine sX2_nextValue hN hk1 hσ3 (fun r1020 σ1008 hσ1008 kk1019 p1021 => ?_)
          obtain ⟨k1009, k1010, k1011, k1012, k1013, k1014, k1015, k1016, k1017, k1018⟩ := kk1019
          unfold fX2_doOrder_j62
          have g1023 : vp_in r15 18 := inE (rfl : r15.toInt = r15.toInt) (by omega) (by omega)
          refine ⟨g1023, ?_⟩
          refine ⟨fun c1024 => ?_, fun c1024 => ?_⟩
          · first | have f1026 := (leE (rfl : (jV r15.toNatClampNeg).toInt = (jV r15.toNatClampNeg).toInt) (show (1 : Int32).toInt = 1 from by decide)).mp c1024 | skip
            unfold fX2_doOrder_j81
            have g1028 : vp_in r15 18 := inE (rfl : r15.toInt = r15.toInt) (by omega) (by omega)
            refine ⟨g1028, ?_⟩
            refine ⟨fun c1029 => ?_, fun c1029 => ?_⟩
            · have f1030 := tB (jT r15.toNatClampNeg)
              first | have f1031 := (eqE (rfl : (jT r15.toNatClampNeg).toInt = (jT r15.toNatClampNeg).toInt) (show (1 : Int32).toInt = 1 from by decide)).mp c1029 | skip
              refine sX2_nextTarget hN hk1 hσ1008 (fun r1044 σ1032 hσ1032 kk1043 p1045 => ?_)
              obtain ⟨k1033, k1034, k1035, k1036, k1037, k1038, k1039, k1040, k1041, k1042⟩ := kk1043
              unfold fX2_doOrder_j103
              have g1047 : vp_in r15 18 := inE (rfl : r15.toInt = r15.toInt) (by omega) (by omega)
              refine ⟨g1047, ?_⟩
              refine ⟨fun c1048 => ?_, fun c1048 => ?_⟩
              · first | have f1050 := (eqE (rfl : (jT r15.toNatClampNeg).toInt = (jT r15.toNatClampNeg).toInt) (show (2 : Int32).toInt = 2 from by decide)).mp c1048 | skip
                refine sX2_nextDistance hN hσ1032 (fun r1063 σ1051 hσ1051 kk1062 p1064 => ?_)
                obtain ⟨k1052, k1053, k1054, k1055, k1056, k1057, k1058, k1059, k1060, k1061⟩ := kk1062
                unfold fX2_doOrder_j122
                refine ⟨fun c1065 => ?_, fun c1065 => ?_⟩
                · have f1066 := tB (σ1051.1 3 11)
                  first | have f1067 := (eqE (rfl : (σ1051.1 3 11).toInt = (σ1051.1 3 11).toInt) (show (0 : Int32).toInt = 0 from by decide)).mp c1065 | skip
                  intro v1068 ev1068
                  intro σ1069 eσ1069
                  have kb1070 := jobK_b hk1
                  have hσ1069 : K1 σ0 σ1069 := by rw [eσ1069]; exact hσ1051.u (rg_jobK hk1) (by omega) (by omega)
                  have g1072 : vp_in r15 18 := inE (rfl : r15.toInt = r15.toInt) (by omega) (by omega)
                  refine ⟨g1072, ?_⟩
                  refine ⟨fun c1073 => ?_, fun c1073 => ?_⟩
                  · first | have f1075 := (eqE (rfl : (jT r15.toNatClampNeg).toInt = (jT r15.toNatClampNeg).toInt) (show (1 : Int32).toInt = 1 from by decide)).mp c1073 | skip
                    have f1077 := tB r1020
                    refine sX2_valueFor hN hσ1069 (fun r1090 σ1078 hσ1078 kk1089 p1091 => ?_)
                    obtain ⟨k1079, k1080, k1081, k1082, k1083, k1084, k1085, k1086, k1087, k1088⟩ := kk1089
                    refine ⟨fun c1092 => ?_, fun c1092 => ?_⟩
                    · have f1093 := tB (σ1078.1 3 11)
                      first | have f1094 := (eqE (rfl : (σ1078.1 3 11).toInt = (σ1078.1 3 11).toInt) (show (0 : Int32).toInt = 0 from by decide)).mp c1092 | skip
                      have f1095 := tB r1044
                      have f1096 := tB r1090
                      refine sX1_setLocal hN hk1 hσ1078 (fun σ1097 hσ1097 kk1109 => ?_)
                      obtain ⟨k1098, k1099, k1100, k1101, k1102, k1103, k1104, k1105, k1106, k1107, k1108⟩ := kk1109
                      unfold fX2_doOrder_j174
                      exact hQ _ hσ1097 (⟨k1101.trans (k1081.trans ((kq (a := 9) (b := 9) eσ1069 (by omega)).trans (k1054.trans (k1035.trans (k1011.trans (k6.trans ((kq (a := 9) (b := 9) eσ2 (fun q => absurd q.1 (by decide)))))))))), k1102.trans (k1082.trans ((kq (a := 9) (b := 10) eσ1069 (by omega)).trans (k1055.trans (k1036.trans (k1012.trans (k7.trans ((kq (a := 9) (b := 10) eσ2 (fun q => absurd q.1 (by decide)))))))))), k1103.trans (k1083.trans ((kq (a := 6) (b := 5) eσ1069 (by omega)).trans (k1056.trans (k1037.trans (k1013.trans (k8.trans ((kq (a := 6) (b := 5) eσ2 (fun q => absurd q.1 (by decide)))))))))), k1104.trans (k1084.trans ((kq (a := 7) (b := 4) eσ1069 (by omega)).trans (k1057.trans (k1038.trans (k1014.trans (k9.trans ((kq (a := 7) (b := 4) eσ2 (fun q => absurd q.1 (by decide)))))))))), k1105.trans (k1085.trans ((kq (a := 2) (b := 4) eσ1069 (by omega)).trans (k1058.trans (k1039.trans (k1015.trans (k10.trans ((kq (a := 2) (b := 4) eσ2 (fun q => absurd q.1 (by decide))))))))))⟩)
                    · have f1110 := tB (σ1078.1 3 11)
                      first | have f1111 := (noteqE (rfl : (σ1078.1 3 11).toInt = (σ1078.1 3 11).toInt) (show (0 : Int32).toInt = 0 from by decide)).mp c1092 | skip
                      unfold fX2_doOrder_j174
                      exact hQ _ hσ1078 (⟨k1081.trans ((kq (a := 9) (b := 9) eσ1069 (by omega)).trans (k1054.trans (k1035.trans (k1011.trans (k6.trans ((kq (a := 9) (b := 9) eσ2 (fun q => absurd q.1 (by decide))))))))), k1082.trans ((kq (a := 9) (b := 10) eσ1069 (by omega)).trans (k1055.trans (k1036.trans (k1012.trans (k7.trans ((kq (a := 9) (b := 10) eσ2 (fun q => absurd q.1 (by decide))))))))), k1083.trans ((kq (a := 6) (b := 5) eσ1069 (by omega)).trans (k1056.trans (k1037.trans (k1013.trans (k8.trans ((kq (a := 6) (b := 5) eσ2 (fun q => absurd q.1 (by decide))))))))), k1084.trans ((kq (a := 7) (b := 4) eσ1069 (by omega)).trans (k1057.trans (k1038.trans (k1014.trans (k9.trans ((kq (a := 7) (b := 4) eσ2 (fun q => absurd q.1 (by decide))))))))), k1085.trans ((kq (a := 2) (b := 4) eσ1069 (by omega)).trans (k1058.trans (k1039.trans (k1015.trans (k10.trans ((kq (a := 2) (b := 4) eσ2 (fun q => absurd q.1 (by decide)))))))))⟩)
                  · first | have f1113 := (noteqE (rfl : (jT r15.toNatClampNeg).toInt = (jT r15.toNatClampNeg).toInt) (show (1 : Int32).toInt = 1 from by decide)).mp c1073 | skip
                    have g1115 : vp_in r15 18 := inE (rfl : r15.toInt = r15.toInt) (by omega) (by omega)
                    refine ⟨g1115, ?_⟩
                    refine ⟨fun c1116 => ?_, fun c1116 => ?_⟩
                    · first | have f1118 := (eqE (rfl : (jT r15.toNatClampNeg).toInt = (jT r15.toNatClampNeg).toInt) (show (2 : Int32).toInt = 2 from by decide)).mp c1116 | skip
                      have f1120 := tB r1020
                      refine sX2_goesThere hN hσ1069 (fun r1134 p1135 => ?_)
                      refine ⟨fun c1136 => ?_, fun c1136 => ?_⟩
                      · have f1137 := tB r1134
                        first | have f1138 := (eqE (rfl : r1134.toInt = r1134.toInt) (show (0 : Int32).toInt = 0 from by decide)).mp c1136 | skip
                        exact hQ _ hσ1069 (⟨(kq (a := 9) (b := 9) eσ1069 (by omega)).trans (k1054.trans (k1035.trans (k1011.trans (k6.trans ((kq (a := 9) (b := 9) eσ2 (fun q => absurd q.1 (by decide)))))))), (kq (a := 9) (b := 10) eσ1069 (by omega)).trans (k1055.trans (k1036.trans (k1012.trans (k7.trans ((kq (a := 9) (b := 10) eσ2 (fun q => absurd q.1 (by decide)))))))), (kq (a := 6) (b := 5) eσ1069 (by omega)).trans (k1056.trans (k1037.trans (k1013.trans (k8.trans ((kq (a := 6) (b := 5) eσ2 (fun q => absurd q.1 (by decide)))))))), (kq (a := 7) (b := 4) eσ1069 (by omega)).trans (k1057.trans (k1038.trans (k1014.trans (k9.trans ((kq (a := 7) (b := 4) eσ2 (fun q => absurd q.1 (by decide)))))))), (kq (a := 2) (b := 4) eσ1069 (by omega)).trans (k1058.trans (k1039.trans (k1015.trans (k10.trans ((kq (a := 2) (b := 4) eσ2 (fun q => absurd q.1 (by decide))))))))⟩)
                      · have f1139 := tB r1134
                        first | have f1140 := (noteqE (rfl : r1134.toInt = r1134.toInt) (show (0 : Int32).toInt = 0 from by decide)).mp c1136 | skip
                        intro v1141 ev1141
                        intro σ1142 eσ1142
                        have kb1143 := jobK_b hk1
                        have hσ1142 : K1 σ0 σ1142 := by rw [eσ1142]; exact hσ1069.u (rg_jobK hk1) (by omega) (by omega)
                        exact hQ _ hσ1142 (⟨(kq (a := 9) (b := 9) eσ1142 (by omega)).trans ((kq (a := 9) (b := 9) eσ1069 (by omega)).trans (k1054.trans (k1035.trans (k1011.trans (k6.trans ((kq (a := 9) (b := 9) eσ2 (fun q => absurd q.1 (by decide))))))))), (kq (a := 9) (b := 10) eσ1142 (by omega)).trans ((kq (a := 9) (b := 10) eσ1069 (by omega)).trans (k1055.trans (k1036.trans (k1012.trans (k7.trans ((kq (a := 9) (b := 10) eσ2 (fun q => absurd q.1 (by decide))))))))), (kq (a := 6) (b := 5) eσ1142 (by omega)).trans ((kq (a := 6) (b := 5) eσ1069 (by omega)).trans (k1056.trans (k1037.trans (k1013.trans (k8.trans ((kq (a := 6) (b := 5) eσ2 (fun q => absurd q.1 (by decide))))))))), (kq (a := 7) (b := 4) eσ1142 (by omega)).trans ((kq (a := 7) (b := 4) eσ1069 (by omega)).trans (k1057.trans (k1038.trans (k1014.trans (k9.trans ((kq (a := 7) (b := 4) eσ2 (fun q => absurd q.1 (by decide))))))))), (kq (a := 2) (b := 4) eσ1142 (by omega)).trans ((kq (a := 2) (b := 4) eσ1069 (by omega)).trans (k1058.trans (k1039.trans (k1015.trans (k10.trans ((kq (a := 2) (b := 4) eσ2 (fun q => absurd q.1 (by decide)))))))))⟩)
                    · first | have f1145 := (noteqE (rfl : (jT r15.toNatClampNeg).toInt = (jT r15.toNatClampNeg).toInt) (show (2 : Int32).toInt = 2 from by decide)).mp c1116 | skip
                      have f1147 := tB r1020
                      have f1149 := K1.g_3_7 hσ1069
                      have q1150 : σ1069.1 3 7 = σ1051.1 3 7 := by rw [eσ1069]; exact congrFun (u1_ne (by omega)) 7
                      have f1151 := congrArg Int32.toInt q1150
                      have f1152 := K1.g_3_7 hσ1051
                      have f1153 := congrArg Int32.toInt k1052
                      have f1154 := K1.g_3_7 hσ1032
                      have f1155 := congrArg Int32.toInt k1033
                      have f1156 := K1.g_3_7 hσ1008
                      have f1157 := congrArg Int32.toInt k1009
                      have f1158 := K1.g_3_7 hσ3
                      have f1159 := congrArg Int32.toInt k4
                      have f1160 := K1.g_3_7 hσ2
                      have q1161 : σ2.1 3 7 = σ.1 3 7 := by rw [eσ2, u1_at]; exact if_neg (by decide)
                      have f1162 := congrArg Int32.toInt q1161
                      have f1163 := K1.g_3_7 hσ
                      refine sX2_act hN hk1 ⟨by omega, by omega⟩ hσ1069 (fun σ1148 hσ1148 kk1169 => ?_)
                      obtain ⟨k1164, k1165, k1166, k1167, k1168⟩ := kk1169
                      exact hQ _ hσ1148 (⟨k1164.trans ((kq (a := 9) (b := 9) eσ1069 (by omega)).trans (k1054.trans (k1035.trans (k1011.trans (k6.trans ((kq (a := 9) (b := 9) eσ2 (fun q => absurd q.1 (by decide))))))))), k1165.trans ((kq (a := 9) (b := 10) eσ1069 (by omega)).trans (k1055.trans (k1036.trans (k1012.trans (k7.trans ((kq (a := 9) (b := 10) eσ2 (fun q => absurd q.1 (by decide))))))))), k1166.trans ((kq (a := 6) (b := 5) eσ1069 (by omega)).trans (k1056.trans (k1037.trans (k1013.trans (k8.trans ((kq (a := 6) (b := 5) eσ2 (fun q => absurd q.1 (by decide))))))))), k1167.trans ((kq (a := 7) (b := 4) eσ1069 (by omega)).trans (k1057.trans (k1038.trans (k1014.trans (k9.trans ((kq (a := 7) (b := 4) eσ2 (fun q => absurd q.1 (by decide))))))))), k1168.trans ((kq (a := 2) (b := 4) eσ1069 (by omega)).trans (k1058.trans (k1039.trans (k1015.trans (k10.trans ((kq (a := 2) (b := 4) eσ2 (fun q => absurd q.1 (by decide)))))))))⟩)
                · have f1170 := tB (σ1051.1 3 11)
                  first | have f1171 := (noteqE (rfl : (σ1051.1 3 11).toInt = (σ1051.1 3 11).toInt) (show (0 : Int32).toInt = 0 from by decide)).mp c1065 | skip
                  exact hQ _ hσ1051 (⟨k1054.trans (k1035.trans (k1011.trans (k6.trans ((kq (a := 9) (b := 9) eσ2 (fun q => absurd q.1 (by decide))))))), k1055.trans (k1036.trans (k1012.trans (k7.trans ((kq (a := 9) (b := 10) eσ2 (fun q => absurd q.1 (by decide))))))), k1056.trans (k1037.trans (k1013.trans (k8.trans ((kq (a := 6) (b := 5) eσ2 (fun q => absurd q.1 (by decide))))))), k1057.trans (k1038.trans (k1014.trans (k9.trans ((kq (a := 7) (b := 4) eσ2 (fun q => absurd q.1 (by decide))))))), k1058.trans (k1039.trans (k1015.trans (k10.trans ((kq (a := 2) (b := 4) eσ2 (fun q => absurd q.1 (by decide)))))))⟩)
              · first | have f1173 := (noteqE (rfl : (jT r15.toNatClampNeg).toInt = (jT r15.toNatClampNeg).toInt) (show (2 : Int32).toInt = 2 from by decide)).mp c1048 | skip
                unfold fX2_doOrder_j122
                refine ⟨fun c1174 => ?_, fun c1174 => ?_⟩
                · have f1175 := tB (σ1032.1 3 11)
                  first | have f1176 := (eqE (rfl : (σ1032.1 3 11).toInt = (σ1032.1 3 11).toInt) (show (0 : Int32).toInt = 0 from by decide)).mp c1174 | skip
                  intro v1177 ev1177
                  intro σ1178 eσ1178
                  have kb1179 := jobK_b hk1
                  have hσ1178 : K1 σ0 σ1178 := by rw [eσ1178]; exact hσ1032.u (rg_jobK hk1) (by omega) (by omega)
                  have g1181 : vp_in r15 18 := inE (rfl : r15.toInt = r15.toInt) (by omega) (by omega)
                  refine ⟨g1181, ?_⟩
                  refine ⟨fun c1182 => ?_, fun c1182 => ?_⟩
                  · first | have f1184 := (eqE (rfl : (jT r15.toNatClampNeg).toInt = (jT r15.toNatClampNeg).toInt) (show (1 : Int32).toInt = 1 from by decide)).mp c1182 | skip
                    have f1186 := tB r1020
                    refine sX2_valueFor hN hσ1178 (fun r1199 σ1187 hσ1187 kk1198 p1200 => ?_)
                    obtain ⟨k1188, k1189, k1190, k1191, k1192, k1193, k1194, k1195, k1196, k1197⟩ := kk1198
                    refine ⟨fun c1201 => ?_, fun c1201 => ?_⟩
                    · have f1202 := tB (σ1187.1 3 11)
                      first | have f1203 := (eqE (rfl : (σ1187.1 3 11).toInt = (σ1187.1 3 11).toInt) (show (0 : Int32).toInt = 0 from by decide)).mp c1201 | skip
                      have f1204 := tB r1044
                      have f1205 := tB r1199
                      refine sX1_setLocal hN hk1 hσ1187 (fun σ1206 hσ1206 kk1218 => ?_)
                      obtain ⟨k1207, k1208, k1209, k1210, k1211, k1212, k1213, k1214, k1215, k1216, k1217⟩ := kk1218
                      unfold fX2_doOrder_j174
                      exact hQ _ hσ1206 (⟨k1210.trans (k1190.trans ((kq (a := 9) (b := 9) eσ1178 (by omega)).trans (k1035.trans (k1011.trans (k6.trans ((kq (a := 9) (b := 9) eσ2 (fun q => absurd q.1 (by decide))))))))), k1211.trans (k1191.trans ((kq (a := 9) (b := 10) eσ1178 (by omega)).trans (k1036.trans (k1012.trans (k7.trans ((kq (a := 9) (b := 10) eσ2 (fun q => absurd q.1 (by decide))))))))), k1212.trans (k1192.trans ((kq (a := 6) (b := 5) eσ1178 (by omega)).trans (k1037.trans (k1013.trans (k8.trans ((kq (a := 6) (b := 5) eσ2 (fun q => absurd q.1 (by decide))))))))), k1213.trans (k1193.trans ((kq (a := 7) (b := 4) eσ1178 (by omega)).trans (k1038.trans (k1014.trans (k9.trans ((kq (a := 7) (b := 4) eσ2 (fun q => absurd q.1 (by decide))))))))), k1214.trans (k1194.trans ((kq (a := 2) (b := 4) eσ1178 (by omega)).trans (k1039.trans (k1015.trans (k10.trans ((kq (a := 2) (b := 4) eσ2 (fun q => absurd q.1 (by decide)))))))))⟩)
                    · have f1219 := tB (σ1187.1 3 11)
                      first | have f1220 := (noteqE (rfl : (σ1187.1 3 11).toInt = (σ1187.1 3 11).toInt) (show (0 : Int32).toInt = 0 from by decide)).mp c1201 | skip
                      unfold fX2_doOrder_j174
                      exact hQ _ hσ1187 (⟨k1190.trans ((kq (a := 9) (b := 9) eσ1178 (by omega)).trans (k1035.trans (k1011.trans (k6.trans ((kq (a := 9) (b := 9) eσ2 (fun q => absurd q.1 (by decide)))))))), k1191.trans ((kq (a := 9) (b := 10) eσ1178 (by omega)).trans (k1036.trans (k1012.trans (k7.trans ((kq (a := 9) (b := 10) eσ2 (fun q => absurd q.1 (by decide)))))))), k1192.trans ((kq (a := 6) (b := 5) eσ1178 (by omega)).trans (k1037.trans (k1013.trans (k8.trans ((kq (a := 6) (b := 5) eσ2 (fun q => absurd q.1 (by decide)))))))), k1193.trans ((kq (a := 7) (b := 4) eσ1178 (by omega)).trans (k1038.trans (k1014.trans (k9.trans ((kq (a := 7) (b := 4) eσ2 (fun q => absurd q.1 (by decide)))))))), k1194.trans ((kq (a := 2) (b := 4) eσ1178 (by omega)).trans (k1039.trans (k1015.trans (k10.trans ((kq (a := 2) (b := 4) eσ2 (fun q => absurd q.1 (by decide))))))))⟩)
                  · first | have f1222 := (noteqE (rfl : (jT r15.toNatClampNeg).toInt = (jT r15.toNatClampNeg).toInt) (show (1 : Int32).toInt = 1 from by decide)).mp c1182 | skip
                    have g1224 : vp_in r15 18 := inE (rfl : r15.toInt = r15.toInt) (by omega) (by omega)
                    refine ⟨g1224, ?_⟩
                    refine ⟨fun c1225 => ?_, fun c1225 => ?_⟩
                    · first | have f1227 := (eqE (rfl : (jT r15.toNatClampNeg).toInt = (jT r15.toNatClampNeg).toInt) (show (2 : Int32).toInt = 2 from by decide)).mp c1225 | skip
                      have f1229 := tB r1020
                      refine sX2_goesThere hN hσ1178 (fun r1243 p1244 => ?_)
                      refine ⟨fun c1245 => ?_, fun c1245 => ?_⟩
                      · have f1246 := tB r1243
                        first | have f1247 := (eqE (rfl : r1243.toInt = r1243.toInt) (show (0 : Int32).toInt = 0 from by decide)).mp c1245 | skip
                        exact hQ _ hσ1178 (⟨(kq (a := 9) (b := 9) eσ1178 (by omega)).trans (k1035.trans (k1011.trans (k6.trans ((kq (a := 9) (b := 9) eσ2 (fun q => absurd q.1 (by decide))))))), (kq (a := 9) (b := 10) eσ1178 (by omega)).trans (k1036.trans (k1012.trans (k7.trans ((kq (a := 9) (b := 10) eσ2 (fun q => absurd q.1 (by decide))))))), (kq (a := 6) (b := 5) eσ1178 (by omega)).trans (k1037.trans (k1013.trans (k8.trans ((kq (a := 6) (b := 5) eσ2 (fun q => absurd q.1 (by decide))))))), (kq (a := 7) (b := 4) eσ1178 (by omega)).trans (k1038.trans (k1014.trans (k9.trans ((kq (a := 7) (b := 4) eσ2 (fun q => absurd q.1 (by decide))))))), (kq (a := 2) (b := 4) eσ1178 (by omega)).trans (k1039.trans (k1015.trans (k10.trans ((kq (a := 2) (b := 4) eσ2 (fun q => absurd q.1 (by decide)))))))⟩)
                      · have f1248 := tB r1243
                        first | have f1249 := (noteqE (rfl : r1243.toInt = r1243.toInt) (show (0 : Int32).toInt = 0 from by decide)).mp c1245 | skip
                        intro v1250 ev1250
                        intro σ1251 eσ1251
                        have kb1252 := jobK_b hk1
                        have hσ1251 : K1 σ0 σ1251 := by rw [eσ1251]; exact hσ1178.u (rg_jobK hk1) (by omega) (by omega)
                        exact hQ _ hσ1251 (⟨(kq (a := 9) (b := 9) eσ1251 (by omega)).trans ((kq (a := 9) (b := 9) eσ1178 (by omega)).trans (k1035.trans (k1011.trans (k6.trans ((kq (a := 9) (b := 9) eσ2 (fun q => absurd q.1 (by decide)))))))), (kq (a := 9) (b := 10) eσ1251 (by omega)).trans ((kq (a := 9) (b := 10) eσ1178 (by omega)).trans (k1036.trans (k1012.trans (k7.trans ((kq (a := 9) (b := 10) eσ2 (fun q => absurd q.1 (by decide)))))))), (kq (a := 6) (b := 5) eσ1251 (by omega)).trans ((kq (a := 6) (b := 5) eσ1178 (by omega)).trans (k1037.trans (k1013.trans (k8.trans ((kq (a := 6) (b := 5) eσ2 (fun q => absurd q.1 (by decide)))))))), (kq (a := 7) (b := 4) eσ1251 (by omega)).trans ((kq (a := 7) (b := 4) eσ1178 (by omega)).trans (k1038.trans (k1014.trans (k9.trans ((kq (a := 7) (b := 4) eσ2 (fun q => absurd q.1 (by decide)))))))), (kq (a := 2) (b := 4) eσ1251 (by omega)).trans ((kq (a := 2) (b := 4) eσ1178 (by omega)).trans (k1039.trans (k1015.trans (k10.trans ((kq (a := 2) (b := 4) eσ2 (fun q => absurd q.1 (by decide))))))))⟩)
                    · first | have f1254 := (noteqE (rfl : (jT r15.toNatClampNeg).toInt = (jT r15.toNatClampNeg).toInt) (show (2 : Int32).toInt = 2 from by decide)).mp c1225 | skip
                      have f1256 := tB r1020
                      have f1258 := K1.g_3_7 hσ1178
                      have q1259 : σ1178.1 3 7 = σ1032.1 3 7 := by rw [eσ1178]; exact congrFun (u1_ne (by omega)) 7
                      have f1260 := congrArg Int32.toInt q1259
                      have f1261 := K1.g_3_7 hσ1032
                      have f1262 := congrArg Int32.toInt k1033
                      have f1263 := K1.g_3_7 hσ1008
                      have f1264 := congrArg Int32.toInt k1009
                      have f1265 := K1.g_3_7 hσ3
                      have f1266 := congrArg Int32.toInt k4
                      have f1267 := K1.g_3_7 hσ2
                      have q1268 : σ2.1 3 7 = σ.1 3 7 := by rw [eσ2, u1_at]; exact if_neg (by decide)
                      have f1269 := congrArg Int32.toInt q1268
                      have f1270 := K1.g_3_7 hσ
                      refine sX2_act hN hk1 ⟨by omega, by omega⟩ hσ1178 (fun σ1257 hσ1257 kk1276 => ?_)
                      obtain ⟨k1271, k1272, k1273, k1274, k1275⟩ := kk1276
                      exact hQ _ hσ1257 (⟨k1271.trans ((kq (a := 9) (b := 9) eσ1178 (by omega)).trans (k1035.trans (k1011.trans (k6.trans ((kq (a := 9) (b := 9) eσ2 (fun q => absurd q.1 (by decide)))))))), k1272.trans ((kq (a := 9) (b := 10) eσ1178 (by omega)).trans (k1036.trans (k1012.trans (k7.trans ((kq (a := 9) (b := 10) eσ2 (fun q => absurd q.1 (by decide)))))))), k1273.trans ((kq (a := 6) (b := 5) eσ1178 (by omega)).trans (k1037.trans (k1013.trans (k8.trans ((kq (a := 6) (b := 5) eσ2 (fun q => absurd q.1 (by decide)))))))), k1274.trans ((kq (a := 7) (b := 4) eσ1178 (by omega)).trans (k1038.trans (k1014.trans (k9.trans ((kq (a := 7) (b := 4) eσ2 (fun q => absurd q.1 (by decide)))))))), k1275.trans ((kq (a := 2) (b := 4) eσ1178 (by omega)).trans (k1039.trans (k1015.trans (k10.trans ((kq (a := 2) (b := 4) eσ2 (fun q => absurd q.1 (by decide))))))))⟩)
                · have f1277 := tB (σ1032.1 3 11)
                  first | have f1278 := (noteqE (rfl : (σ1032.1 3 11).toInt = (σ1032.1 3 11).toInt) (show (0 : Int32).toInt = 0 from by decide)).mp c1174 | skip
                  exact hQ _ hσ1032 (⟨k1035.trans (k1011.trans (k6.trans ((kq (a := 9) (b := 9) eσ2 (fun q => absurd q.1 (by decide)))))), k1036.trans (k1012.trans (k7.trans ((kq (a := 9) (b := 10) eσ2 (fun q => absurd q.1 (by decide)))))), k1037.trans (k1013.trans (k8.trans ((kq (a := 6) (b := 5) eσ2 (fun q => absurd q.1 (by decide)))))), k1038.trans (k1014.trans (k9.trans ((kq (a := 7) (b := 4) eσ2 (fun q => absurd q.1 (by decide)))))), k1039.trans (k1015.trans (k10.trans ((kq (a := 2) (b := 4) eσ2 (fun q => absurd q.1 (by decide))))))⟩)
            · have f1279 := tB (jT r15.toNatClampNeg)
              first | have f1280 := (noteqE (rfl : (jT r15.toNatClampNeg).toInt = (jT r15.toNatClampNeg).toInt) (show (1 : Int32).toInt = 1 from by decide)).mp c1029 | skip
              unfold fX2_doOrder_j103
              have g1282 : vp_in r15 18 := inE (rfl : r15.toInt = r15.toInt) (by omega) (by omega)
              refine ⟨g1282, ?_⟩
              refine ⟨fun c1283 => ?_, fun c1283 => ?_⟩
              · first | have f1285 := (eqE (rfl : (jT r15.toNatClampNeg).toInt = (jT r15.toNatClampNeg).toInt) (show (2 : Int32).toInt = 2 from by decide)).mp c1283 | skip
                refine sX2_nextDistance hN hσ1008 (fun r1298 σ1286 hσ1286 kk1297 p1299 => ?_)
                obtain ⟨k1287, k1288, k1289, k1290, k1291, k1292, k1293, k1294, k1295, k1296⟩ := kk1297
                unfold fX2_doOrder_j122
                refine ⟨fun c1300 => ?_, fun c1300 => ?_⟩
                · have f1301 := tB (σ1286.1 3 11)
                  first | have f1302 := (eqE (rfl : (σ1286.1 3 11).toInt = (σ1286.1 3 11).toInt) (show (0 : Int32).toInt = 0 from by decide)).mp c1300 | skip
                  intro v1303 ev1303
                  intro σ1304 eσ1304
                  have kb1305 := jobK_b hk1
                  have hσ1304 : K1 σ0 σ1304 := by rw [eσ1304]; exact hσ1286.u (rg_jobK hk1) (by omega) (by omega)
                  have g1307 : vp_in r15 18 := inE (rfl : r15.toInt = r15.toInt) (by omega) (by omega)
                  refine ⟨g1307, ?_⟩
                  refine ⟨fun c1308 => ?_, fun c1308 => ?_⟩
                  · first | have f1310 := (eqE (rfl : (jT r15.toNatClampNeg).toInt = (jT r15.toNatClampNeg).toInt) (show (1 : Int32).toInt = 1 from by decide)).mp c1308 | skip
                    have f1312 := tB r1020
                    refine sX2_valueFor hN hσ1304 (fun r1325 σ1313 hσ1313 kk1324 p1326 => ?_)
                    obtain ⟨k1314, k1315, k1316, k1317, k1318, k1319, k1320, k1321, k1322, k1323⟩ := kk1324
                    refine ⟨fun c1327 => ?_, fun c1327 => ?_⟩
                    · have f1328 := tB (σ1313.1 3 11)
                      first | have f1329 := (eqE (rfl : (σ1313.1 3 11).toInt = (σ1313.1 3 11).toInt) (show (0 : Int32).toInt = 0 from by decide)).mp c1327 | skip
                      have f1330 := tB r1325
                      refine sX1_setLocal hN hk1 hσ1313 (fun σ1331 hσ1331 kk1343 => ?_)
                      obtain ⟨k1332, k1333, k1334, k1335, k1336, k1337, k1338, k1339, k1340, k1341, k1342⟩ := kk1343
                      unfold fX2_doOrder_j174
                      exact hQ _ hσ1331 (⟨k1335.trans (k1316.trans ((kq (a := 9) (b := 9) eσ1304 (by omega)).trans (k1289.trans (k1011.trans (k6.trans ((kq (a := 9) (b := 9) eσ2 (fun q => absurd q.1 (by decide))))))))), k1336.trans (k1317.trans ((kq (a := 9) (b := 10) eσ1304 (by omega)).trans (k1290.trans (k1012.trans (k7.trans ((kq (a := 9) (b := 10) eσ2 (fun q => absurd q.1 (by decide))))))))), k1337.trans (k1318.trans ((kq (a := 6) (b := 5) eσ1304 (by omega)).trans (k1291.trans (k1013.trans (k8.trans ((kq (a := 6) (b := 5) eσ2 (fun q => absurd q.1 (by decide))))))))), k1338.trans (k1319.trans ((kq (a := 7) (b := 4) eσ1304 (by omega)).trans (k1292.trans (k1014.trans (k9.trans ((kq (a := 7) (b := 4) eσ2 (fun q => absurd q.1 (by decide))))))))), k1339.trans (k1320.trans ((kq (a := 2) (b := 4) eσ1304 (by omega)).trans (k1293.trans (k1015.trans (k10.trans ((kq (a := 2) (b := 4) eσ2 (fun q => absurd q.1 (by decide)))))))))⟩)
                    · have f1344 := tB (σ1313.1 3 11)
                      first | have f1345 := (noteqE (rfl : (σ1313.1 3 11).toInt = (σ1313.1 3 11).toInt) (show (0 : Int32).toInt = 0 from by decide)).mp c1327 | skip
                      unfold fX2_doOrder_j174
                      exact hQ _ hσ1313 (⟨k1316.trans ((kq (a := 9) (b := 9) eσ1304 (by omega)).trans (k1289.trans (k1011.trans (k6.trans ((kq (a := 9) (b := 9) eσ2 (fun q => absurd q.1 (by decide)))))))), k1317.trans ((kq (a := 9) (b := 10) eσ1304 (by omega)).trans (k1290.trans (k1012.trans (k7.trans ((kq (a := 9) (b := 10) eσ2 (fun q => absurd q.1 (by decide)))))))), k1318.trans ((kq (a := 6) (b := 5) eσ1304 (by omega)).trans (k1291.trans (k1013.trans (k8.trans ((kq (a := 6) (b := 5) eσ2 (fun q => absurd q.1 (by decide)))))))), k1319.trans ((kq (a := 7) (b := 4) eσ1304 (by omega)).trans (k1292.trans (k1014.trans (k9.trans ((kq (a := 7) (b := 4) eσ2 (fun q => absurd q.1 (by decide)))))))), k1320.trans ((kq (a := 2) (b := 4) eσ1304 (by omega)).trans (k1293.trans (k1015.trans (k10.trans ((kq (a := 2) (b := 4) eσ2 (fun q => absurd q.1 (by decide))))))))⟩)
                  · first | have f1347 := (noteqE (rfl : (jT r15.toNatClampNeg).toInt = (jT r15.toNatClampNeg).toInt) (show (1 : Int32).toInt = 1 from by decide)).mp c1308 | skip
                    have g1349 : vp_in r15 18 := inE (rfl : r15.toInt = r15.toInt) (by omega) (by omega)
                    refine ⟨g1349, ?_⟩
                    refine ⟨fun c1350 => ?_, fun c1350 => ?_⟩
                    · first | have f1352 := (eqE (rfl : (jT r15.toNatClampNeg).toInt = (jT r15.toNatClampNeg).toInt) (show (2 : Int32).toInt = 2 from by decide)).mp c1350 | skip
                      have f1354 := tB r1020
                      refine sX2_goesThere hN hσ1304 (fun r1368 p1369 => ?_)
                      refine ⟨fun c1370 => ?_, fun c1370 => ?_⟩
                      · have f1371 := tB r1368
                        first | have f1372 := (eqE (rfl : r1368.toInt = r1368.toInt) (show (0 : Int32).toInt = 0 from by decide)).mp c1370 | skip
                        exact hQ _ hσ1304 (⟨(kq (a := 9) (b := 9) eσ1304 (by omega)).trans (k1289.trans (k1011.trans (k6.trans ((kq (a := 9) (b := 9) eσ2 (fun q => absurd q.1 (by decide))))))), (kq (a := 9) (b := 10) eσ1304 (by omega)).trans (k1290.trans (k1012.trans (k7.trans ((kq (a := 9) (b := 10) eσ2 (fun q => absurd q.1 (by decide))))))), (kq (a := 6) (b := 5) eσ1304 (by omega)).trans (k1291.trans (k1013.trans (k8.trans ((kq (a := 6) (b := 5) eσ2 (fun q => absurd q.1 (by decide))))))), (kq (a := 7) (b := 4) eσ1304 (by omega)).trans (k1292.trans (k1014.trans (k9.trans ((kq (a := 7) (b := 4) eσ2 (fun q => absurd q.1 (by decide))))))), (kq (a := 2) (b := 4) eσ1304 (by omega)).trans (k1293.trans (k1015.trans (k10.trans ((kq (a := 2) (b := 4) eσ2 (fun q => absurd q.1 (by decide)))))))⟩)
                      · have f1373 := tB r1368
                        first | have f1374 := (noteqE (rfl : r1368.toInt = r1368.toInt) (show (0 : Int32).toInt = 0 from by decide)).mp c1370 | skip
                        intro v1375 ev1375
                        intro σ1376 eσ1376
                        have kb1377 := jobK_b hk1
                        have hσ1376 : K1 σ0 σ1376 := by rw [eσ1376]; exact hσ1304.u (rg_jobK hk1) (by omega) (by omega)
                        exact hQ _ hσ1376 (⟨(kq (a := 9) (b := 9) eσ1376 (by omega)).trans ((kq (a := 9) (b := 9) eσ1304 (by omega)).trans (k1289.trans (k1011.trans (k6.trans ((kq (a := 9) (b := 9) eσ2 (fun q => absurd q.1 (by decide)))))))), (kq (a := 9) (b := 10) eσ1376 (by omega)).trans ((kq (a := 9) (b := 10) eσ1304 (by omega)).trans (k1290.trans (k1012.trans (k7.trans ((kq (a := 9) (b := 10) eσ2 (fun q => absurd q.1 (by decide)))))))), (kq (a := 6) (b := 5) eσ1376 (by omega)).trans ((kq (a := 6) (b := 5) eσ1304 (by omega)).trans (k1291.trans (k1013.trans (k8.trans ((kq (a := 6) (b := 5) eσ2 (fun q => absurd q.1 (by decide)))))))), (kq (a := 7) (b := 4) eσ1376 (by omega)).trans ((kq (a := 7) (b := 4) eσ1304 (by omega)).trans (k1292.trans (k1014.trans (k9.trans ((kq (a := 7) (b := 4) eσ2 (fun q => absurd q.1 (by decide)))))))), (kq (a := 2) (b := 4) eσ1376 (by omega)).trans ((kq (a := 2) (b := 4) eσ1304 (by omega)).trans (k1293.trans (k1015.trans (k10.trans ((kq (a := 2) (b := 4) eσ2 (fun q => absurd q.1 (by decide))))))))⟩)
                    · first | have f1379 := (noteqE (rfl : (jT r15.toNatClampNeg).toInt = (jT r15.toNatClampNeg).toInt) (show (2 : Int32).toInt = 2 from by decide)).mp c1350 | skip
                      have f1381 := tB r1020
                      have f1383 := K1.g_3_7 hσ1304
                      have q1384 : σ1304.1 3 7 = σ1286.1 3 7 := by rw [eσ1304]; exact congrFun (u1_ne (by omega)) 7
                      have f1385 := congrArg Int32.toInt q1384
                      have f1386 := K1.g_3_7 hσ1286
                      have f1387 := congrArg Int32.toInt k1287
                      have f1388 := K1.g_3_7 hσ1008
                      have f1389 := congrArg Int32.toInt k1009
                      have f1390 := K1.g_3_7 hσ3
                      have f1391 := congrArg Int32.toInt k4
                      have f1392 := K1.g_3_7 hσ2
                      have q1393 : σ2.1 3 7 = σ.1 3 7 := by rw [eσ2, u1_at]; exact if_neg (by decide)
                      have f1394 := congrArg Int32.toInt q1393
                      have f1395 := K1.g_3_7 hσ
                      refine sX2_act hN hk1 ⟨by omega, by omega⟩ hσ1304 (fun σ1382 hσ1382 kk1401 => ?_)
                      obtain ⟨k1396, k1397, k1398, k1399, k1400⟩ := kk1401
                      exact hQ _ hσ1382 (⟨k1396.trans ((kq (a := 9) (b := 9) eσ1304 (by omega)).trans (k1289.trans (k1011.trans (k6.trans ((kq (a := 9) (b := 9) eσ2 (fun q => absurd q.1 (by decide)))))))), k1397.trans ((kq (a := 9) (b := 10) eσ1304 (by omega)).trans (k1290.trans (k1012.trans (k7.trans ((kq (a := 9) (b := 10) eσ2 (fun q => absurd q.1 (by decide)))))))), k1398.trans ((kq (a := 6) (b := 5) eσ1304 (by omega)).trans (k1291.trans (k1013.trans (k8.trans ((kq (a := 6) (b := 5) eσ2 (fun q => absurd q.1 (by decide)))))))), k1399.trans ((kq (a := 7) (b := 4) eσ1304 (by omega)).trans (k1292.trans (k1014.trans (k9.trans ((kq (a := 7) (b := 4) eσ2 (fun q => absurd q.1 (by decide)))))))), k1400.trans ((kq (a := 2) (b := 4) eσ1304 (by omega)).trans (k1293.trans (k1015.trans (k10.trans ((kq (a := 2) (b := 4) eσ2 (fun q => absurd q.1 (by decide))))))))⟩)
                · have f1402 := tB (σ1286.1 3 11)
                  first | have f1403 := (noteqE (rfl : (σ1286.1 3 11).toInt = (σ1286.1 3 11).toInt) (show (0 : Int32).toInt = 0 from by decide)).mp c1300 | skip
                  exact hQ _ hσ1286 (⟨k1289.trans (k1011.trans (k6.trans ((kq (a := 9) (b := 9) eσ2 (fun q => absurd q.1 (by decide)))))), k1290.trans (k1012.trans (k7.trans ((kq (a := 9) (b := 10) eσ2 (fun q => absurd q.1 (by decide)))))), k1291.trans (k1013.trans (k8.trans ((kq (a := 6) (b := 5) eσ2 (fun q => absurd q.1 (by decide)))))), k1292.trans (k1014.trans (k9.trans ((kq (a := 7) (b := 4) eσ2 (fun q => absurd q.1 (by decide)))))), k1293.trans (k1015.trans (k10.trans ((kq (a := 2) (b := 4) eσ2 (fun q => absurd q.1 (by decide))))))⟩)
              · first | have f1405 := (noteqE (rfl : (jT r15.toNatClampNeg).toInt = (jT r15.toNatClampNeg).toInt) (show (2 : Int32).toInt = 2 from by decide)).mp c1283 | skip
                unfold fX2_doOrder_j122
                refine ⟨fun c1406 => ?_, fun c1406 => ?_⟩
                · have f1407 := tB (σ1008.1 3 11)
                  first | have f1408 := (eqE (rfl : (σ1008.1 3 11).toInt = (σ1008.1 3 11).toInt) (show (0 : Int32).toInt = 0 from by decide)).mp c1406 | skip
                  intro v1409 ev1409
                  intro σ1410 eσ1410
                  have kb1411 := jobK_b hk1
                  have hσ1410 : K1 σ0 σ1410 := by rw [eσ1410]; exact hσ1008.u (rg_jobK hk1) (by omega) (by omega)
                  have g1413 : vp_in r15 18 := inE (rfl : r15.toInt = r15.toInt) (by omega) (by omega)
                  refine ⟨g1413, ?_⟩
                  refine ⟨fun c1414 => ?_, fun c1414 => ?_⟩
                  · first | have f1416 := (eqE (rfl : (jT r15.toNatClampNeg).toInt = (jT r15.toNatClampNeg).toInt) (show (1 : Int32).toInt = 1 from by decide)).mp c1414 | skip
                    have f1418 := tB r1020
                    refine sX2_valueFor hN hσ1410 (fun r1431 σ1419 hσ1419 kk1430 p1432 => ?_)
                    obtain ⟨k1420, k1421, k1422, k1423, k1424, k1425, k1426, k1427, k1428, k1429⟩ := kk1430
                    refine ⟨fun c1433 => ?_, fun c1433 => ?_⟩
                    · have f1434 := tB (σ1419.1 3 11)
                      first | have f1435 := (eqE (rfl : (σ1419.1 3 11).toInt = (σ1419.1 3 11).toInt) (show (0 : Int32).toInt = 0 from by decide)).mp c1433 | skip
                      have f1436 := tB r1431
                      refine sX1_setLocal hN hk1 hσ1419 (fun σ1437 hσ1437 kk1449 => ?_)
                      obtain ⟨k1438, k1439, k1440, k1441, k1442, k1443, k1444, k1445, k1446, k1447, k1448⟩ := kk1449
                      unfold fX2_doOrder_j174
                      exact hQ _ hσ1437 (⟨k1441.trans (k1422.trans ((kq (a := 9) (b := 9) eσ1410 (by omega)).trans (k1011.trans (k6.trans ((kq (a := 9) (b := 9) eσ2 (fun q => absurd q.1 (by decide)))))))), k1442.trans (k1423.trans ((kq (a := 9) (b := 10) eσ1410 (by omega)).trans (k1012.trans (k7.trans ((kq (a := 9) (b := 10) eσ2 (fun q => absurd q.1 (by decide)))))))), k1443.trans (k1424.trans ((kq (a := 6) (b := 5) eσ1410 (by omega)).trans (k1013.trans (k8.trans ((kq (a := 6) (b := 5) eσ2 (fun q => absurd q.1 (by decide)))))))), k1444.trans (k1425.trans ((kq (a := 7) (b := 4) eσ1410 (by omega)).trans (k1014.trans (k9.trans ((kq (a := 7) (b := 4) eσ2 (fun q => absurd q.1 (by decide)))))))), k1445.trans (k1426.trans ((kq (a := 2) (b := 4) eσ1410 (by omega)).trans (k1015.trans (k10.trans ((kq (a := 2) (b := 4) eσ2 (fun q => absurd q.1 (by decide))))))))⟩)
                    · have f1450 := tB (σ1419.1 3 11)
                      first | have f1451 := (noteqE (rfl : (σ1419.1 3 11).toInt = (σ1419.1 3 11).toInt) (show (0 : Int32).toInt = 0 from by decide)).mp c1433 | skip
                      unfold fX2_doOrder_j174
                      exact hQ _ hσ1419 (⟨k1422.trans ((kq (a := 9) (b := 9) eσ1410 (by omega)).trans (k1011.trans (k6.trans ((kq (a := 9) (b := 9) eσ2 (fun q => absurd q.1 (by decide))))))), k1423.trans ((kq (a := 9) (b := 10) eσ1410 (by omega)).trans (k1012.trans (k7.trans ((kq (a := 9) (b := 10) eσ2 (fun q => absurd q.1 (by decide))))))), k1424.trans ((kq (a := 6) (b := 5) eσ1410 (by omega)).trans (k1013.trans (k8.trans ((kq (a := 6) (b := 5) eσ2 (fun q => absurd q.1 (by decide))))))), k1425.trans ((kq (a := 7) (b := 4) eσ1410 (by omega)).trans (k1014.trans (k9.trans ((kq (a := 7) (b := 4) eσ2 (fun q => absurd q.1 (by decide))))))), k1426.trans ((kq (a := 2) (b := 4) eσ1410 (by omega)).trans (k1015.trans (k10.trans ((kq (a := 2) (b := 4) eσ2 (fun q => absurd q.1 (by decide)))))))⟩)
                  · first | have f1453 := (noteqE (rfl : (jT r15.toNatClampNeg).toInt = (jT r15.toNatClampNeg).toInt) (show (1 : Int32).toInt = 1 from by decide)).mp c1414 | skip
                    have g1455 : vp_in r15 18 := inE (rfl : r15.toInt = r15.toInt) (by omega) (by omega)
                    refine ⟨g1455, ?_⟩
                    refine ⟨fun c1456 => ?_, fun c1456 => ?_⟩
                    · first | have f1458 := (eqE (rfl : (jT r15.toNatClampNeg).toInt = (jT r15.toNatClampNeg).toInt) (show (2 : Int32).toInt = 2 from by decide)).mp c1456 | skip
                      have f1460 := tB r1020
                      refine sX2_goesThere hN hσ1410 (fun r1474 p1475 => ?_)
                      refine ⟨fun c1476 => ?_, fun c1476 => ?_⟩
                      · have f1477 := tB r1474
                        first | have f1478 := (eqE (rfl : r1474.toInt = r1474.toInt) (show (0 : Int32).toInt = 0 from by decide)).mp c1476 | skip
                        exact hQ _ hσ1410 (⟨(kq (a := 9) (b := 9) eσ1410 (by omega)).trans (k1011.trans (k6.trans ((kq (a := 9) (b := 9) eσ2 (fun q => absurd q.1 (by decide)))))), (kq (a := 9) (b := 10) eσ1410 (by omega)).trans (k1012.trans (k7.trans ((kq (a := 9) (b := 10) eσ2 (fun q => absurd q.1 (by decide)))))), (kq (a := 6) (b := 5) eσ1410 (by omega)).trans (k1013.trans (k8.trans ((kq (a := 6) (b := 5) eσ2 (fun q => absurd q.1 (by decide)))))), (kq (a := 7) (b := 4) eσ1410 (by omega)).trans (k1014.trans (k9.trans ((kq (a := 7) (b := 4) eσ2 (fun q => absurd q.1 (by decide)))))), (kq (a := 2) (b := 4) eσ1410 (by omega)).trans (k1015.trans (k10.trans ((kq (a := 2) (b := 4) eσ2 (fun q => absurd q.1 (by decide))))))⟩)
                      · have f1479 := tB r1474
                        first | have f1480 := (noteqE (rfl : r1474.toInt = r1474.toInt) (show (0 : Int32).toInt = 0 from by decide)).mp c1476 | skip
                        intro v1481 ev1481
                        intro σ1482 eσ1482
                        have kb1483 := jobK_b hk1
                        have hσ1482 : K1 σ0 σ1482 := by rw [eσ1482]; exact hσ1410.u (rg_jobK hk1) (by omega) (by omega)
                        exact hQ _ hσ1482 (⟨(kq (a := 9) (b := 9) eσ1482 (by omega)).trans ((kq (a := 9) (b := 9) eσ1410 (by omega)).trans (k1011.trans (k6.trans ((kq (a := 9) (b := 9) eσ2 (fun q => absurd q.1 (by decide))))))), (kq (a := 9) (b := 10) eσ1482 (by omega)).trans ((kq (a := 9) (b := 10) eσ1410 (by omega)).trans (k1012.trans (k7.trans ((kq (a := 9) (b := 10) eσ2 (fun q => absurd q.1 (by decide))))))), (kq (a := 6) (b := 5) eσ1482 (by omega)).trans ((kq (a := 6) (b := 5) eσ1410 (by omega)).trans (k1013.trans (k8.trans ((kq (a := 6) (b := 5) eσ2 (fun q => absurd q.1 (by decide))))))), (kq (a := 7) (b := 4) eσ1482 (by omega)).trans ((kq (a := 7) (b := 4) eσ1410 (by omega)).trans (k1014.trans (k9.trans ((kq (a := 7) (b := 4) eσ2 (fun q => absurd q.1 (by decide))))))), (kq (a := 2) (b := 4) eσ1482 (by omega)).trans ((kq (a := 2) (b := 4) eσ1410 (by omega)).trans (k1015.trans (k10.trans ((kq (a := 2) (b := 4) eσ2 (fun q => absurd q.1 (by decide)))))))⟩)
                    · first | have f1485 := (noteqE (rfl : (jT r15.toNatClampNeg).toInt = (jT r15.toNatClampNeg).toInt) (show (2 : Int32).toInt = 2 from by decide)).mp c1456 | skip
                      have f1487 := tB r1020
                      have f1489 := K1.g_3_7 hσ1410
                      have q1490 : σ1410.1 3 7 = σ1008.1 3 7 := by rw [eσ1410]; exact congrFun (u1_ne (by omega)) 7
                      have f1491 := congrArg Int32.toInt q1490
                      have f1492 := K1.g_3_7 hσ1008
                      have f1493 := congrArg Int32.toInt k1009
                      have f1494 := K1.g_3_7 hσ3
                      have f1495 := congrArg Int32.toInt k4
                      have f1496 := K1.g_3_7 hσ2
                      have q1497 : σ2.1 3 7 = σ.1 3 7 := by rw [eσ2, u1_at]; exact if_neg (by decide)
                      have f1498 := congrArg Int32.toInt q1497
                      have f1499 := K1.g_3_7 hσ
                      refine sX2_act hN hk1 ⟨by omega, by omega⟩ hσ1410 (fun σ1488 hσ1488 kk1505 => ?_)
                      obtain ⟨k1500, k1501, k1502, k1503, k1504⟩ := kk1505
                      exact hQ _ hσ1488 (⟨k1500.trans ((kq (a := 9) (b := 9) eσ1410 (by omega)).trans (k1011.trans (k6.trans ((kq (a := 9) (b := 9) eσ2 (fun q => absurd q.1 (by decide))))))), k1501.trans ((kq (a := 9) (b := 10) eσ1410 (by omega)).trans (k1012.trans (k7.trans ((kq (a := 9) (b := 10) eσ2 (fun q => absurd q.1 (by decide))))))), k1502.trans ((kq (a := 6) (b := 5) eσ1410 (by omega)).trans (k1013.trans (k8.trans ((kq (a := 6) (b := 5) eσ2 (fun q => absurd q.1 (by decide))))))), k1503.trans ((kq (a := 7) (b := 4) eσ1410 (by omega)).trans (k1014.trans (k9.trans ((kq (a := 7) (b := 4) eσ2 (fun q => absurd q.1 (by decide))))))), k1504.trans ((kq (a := 2) (b := 4) eσ1410 (by omega)).trans (k1015.trans (k10.trans ((kq (a := 2) (b := 4) eσ2 (fun q => absurd q.1 (by decide)))))))⟩)
                · have f1506 := tB (σ1008.1 3 11)
                  first | have f1507 := (noteqE (rfl : (σ1008.1 3 11).toInt = (σ1008.1 3 11).toInt) (show (0 : Int32).toInt = 0 from by decide)).mp c1406 | skip
                  exact hQ _ hσ1008 (⟨k1011.trans (k6.trans ((kq (a := 9) (b := 9) eσ2 (fun q => absurd q.1 (by decide))))), k1012.trans (k7.trans ((kq (a := 9) (b := 10) eσ2 (fun q => absurd q.1 (by decide))))), k1013.trans (k8.trans ((kq (a := 6) (b := 5) eσ2 (fun q => absurd q.1 (by decide))))), k1014.trans (k9.trans ((kq (a := 7) (b := 4) eσ2 (fun q => absurd q.1 (by decide))))), k1015.trans (k10.trans ((kq (a := 2) (b := 4) eσ2 (fun q => absurd q.1 (by decide)))))⟩)
          · first | have f1509 := (notleE (rfl : (jV r15.toNatClampNeg).toInt = (jV r15.toNatClampNeg).toInt) (show (1 : Int32).toInt = 1 from by decide)).mp c1024 | skip
            refine sX2_nextValue hN hk1 hσ1008 (fun r1522 σ1510 hσ1510 kk1521 p1523 => ?_)
            obtain ⟨k1511, k1512, k1513, k1514, k1515, k1516, k1517, k1518, k1519, k1520⟩ := kk1521
            unfold fX2_doOrder_j81
            have g1525 : vp_in r15 18 := inE (rfl : r15.toInt = r15.toInt) (by omega) (by omega)
            refine ⟨g1525, ?_⟩
            refine ⟨fun c1526 => ?_, fun c1526 => ?_⟩
            · have f1527 := tB (jT r15.toNatClampNeg)
              first | have f1528 := (eqE (rfl : (jT r15.toNatClampNeg).toInt = (jT r15.toNatClampNeg).toInt) (show (1 : Int32).toInt = 1 from by decide)).mp c1526 | skip
              refine sX2_nextTarget hN hk1 hσ1510 (fun r1541 σ1529 hσ1529 kk1540 p1542 => ?_)
              obtain ⟨k1530, k1531, k1532, k1533, k1534, k1535, k1536, k1537, k1538, k1539⟩ := kk1540
              unfold fX2_doOrder_j103
              have g1544 : vp_in r15 18 := inE (rfl : r15.toInt = r15.toInt) (by omega) (by omega)
              refine ⟨g1544, ?_⟩
              refine ⟨fun c1545 => ?_, fun c1545 => ?_⟩
              · first | have f1547 := (eqE (rfl : (jT r15.toNatClampNeg).toInt = (jT r15.toNatClampNeg).toInt) (show (2 : Int32).toInt = 2 from by decide)).mp c1545 | skip
                refine sX2_nextDistance hN hσ1529 (fun r1560 σ1548 hσ1548 kk1559 p1561 => ?_)
                obtain ⟨k1549, k1550, k1551, k1552, k1553, k1554, k1555, k1556, k1557, k1558⟩ := kk1559
                unfold fX2_doOrder_j122
                refine ⟨fun c1562 => ?_, fun c1562 => ?_⟩
                · have f1563 := tB (σ1548.1 3 11)
                  first | have f1564 := (eqE (rfl : (σ1548.1 3 11).toInt = (σ1548.1 3 11).toInt) (show (0 : Int32).toInt = 0 from by decide)).mp c1562 | skip
                  intro v1565 ev1565
                  intro σ1566 eσ1566
                  have kb1567 := jobK_b hk1
                  have hσ1566 : K1 σ0 σ1566 := by rw [eσ1566]; exact hσ1548.u (rg_jobK hk1) (by omega) (by omega)
                  have g1569 : vp_in r15 18 := inE (rfl : r15.toInt = r15.toInt) (by omega) (by omega)
                  refine ⟨g1569, ?_⟩
                  refine ⟨fun c1570 => ?_, fun c1570 => ?_⟩
                  · first | have f1572 := (eqE (rfl : (jT r15.toNatClampNeg).toInt = (jT r15.toNatClampNeg).toInt) (show (1 : Int32).toInt = 1 from by decide)).mp c1570 | skip
                    have f1574 := tB r1020
                    have f1575 := tB r1522
                    refine sX2_valueFor hN hσ1566 (fun r1588 σ1576 hσ1576 kk1587 p1589 => ?_)
                    obtain ⟨k1577, k1578, k1579, k1580, k1581, k1582, k1583, k1584, k1585, k1586⟩ := kk1587
                    refine ⟨fun c1590 => ?_, fun c1590 => ?_⟩
                    · have f1591 := tB (σ1576.1 3 11)
                      first | have f1592 := (eqE (rfl : (σ1576.1 3 11).toInt = (σ1576.1 3 11).toInt) (show (0 : Int32).toInt = 0 from by decide)).mp c1590 | skip
                      have f1593 := tB r1541
                      have f1594 := tB r1588
                      refine sX1_setLocal hN hk1 hσ1576 (fun σ1595 hσ1595 kk1607 => ?_)
                      obtain ⟨k1596, k1597, k1598, k1599, k1600, k1601, k1602, k1603, k1604, k1605, k1606⟩ := kk1607
                      unfold fX2_doOrder_j174
                      exact hQ _ hσ1595 (⟨k1599.trans (k1579.trans ((kq (a := 9) (b := 9) eσ1566 (by omega)).trans (k1551.trans (k1532.trans (k1513.trans (k1011.trans (k6.trans ((kq (a := 9) (b := 9) eσ2 (fun q => absurd q.1 (by decide))))))))))), k1600.trans (k1580.trans ((kq (a := 9) (b := 10) eσ1566 (by omega)).trans (k1552.trans (k1533.trans (k1514.trans (k1012.trans (k7.trans ((kq (a := 9) (b := 10) eσ2 (fun q => absurd q.1 (by decide))))))))))), k1601.trans (k1581.trans ((kq (a := 6) (b := 5) eσ1566 (by omega)).trans (k1553.trans (k1534.trans (k1515.trans (k1013.trans (k8.trans ((kq (a := 6) (b := 5) eσ2 (fun q => absurd q.1 (by decide))))))))))), k1602.trans (k1582.trans ((kq (a := 7) (b := 4) eσ1566 (by omega)).trans (k1554.trans (k1535.trans (k1516.trans (k1014.trans (k9.trans ((kq (a := 7) (b := 4) eσ2 (fun q => absurd q.1 (by decide))))))))))), k1603.trans (k1583.trans ((kq (a := 2) (b := 4) eσ1566 (by omega)).trans (k1555.trans (k1536.trans (k1517.trans (k1015.trans (k10.trans ((kq (a := 2) (b := 4) eσ2 (fun q => absurd q.1 (by decide)))))))))))⟩)
                    · have f1608 := tB (σ1576.1 3 11)
                      first | have f1609 := (noteqE (rfl : (σ1576.1 3 11).toInt = (σ1576.1 3 11).toInt) (show (0 : Int32).toInt = 0 from by decide)).mp c1590 | skip
                      unfold fX2_doOrder_j174
                      exact hQ _ hσ1576 (⟨k1579.trans ((kq (a := 9) (b := 9) eσ1566 (by omega)).trans (k1551.trans (k1532.trans (k1513.trans (k1011.trans (k6.trans ((kq (a := 9) (b := 9) eσ2 (fun q => absurd q.1 (by decide)))))))))), k1580.trans ((kq (a := 9) (b := 10) eσ1566 (by omega)).trans (k1552.trans (k1533.trans (k1514.trans (k1012.trans (k7.trans ((kq (a := 9) (b := 10) eσ2 (fun q => absurd q.1 (by decide)))))))))), k1581.trans ((kq (a := 6) (b := 5) eσ1566 (by omega)).trans (k1553.trans (k1534.trans (k1515.trans (k1013.trans (k8.trans ((kq (a := 6) (b := 5) eσ2 (fun q => absurd q.1 (by decide)))))))))), k1582.trans ((kq (a := 7) (b := 4) eσ1566 (by omega)).trans (k1554.trans (k1535.trans (k1516.trans (k1014.trans (k9.trans ((kq (a := 7) (b := 4) eσ2 (fun q => absurd q.1 (by decide)))))))))), k1583.trans ((kq (a := 2) (b := 4) eσ1566 (by omega)).trans (k1555.trans (k1536.trans (k1517.trans (k1015.trans (k10.trans ((kq (a := 2) (b := 4) eσ2 (fun q => absurd q.1 (by decide))))))))))⟩)
                  · first | have f1611 := (noteqE (rfl : (jT r15.toNatClampNeg).toInt = (jT r15.toNatClampNeg).toInt) (show (1 : Int32).toInt = 1 from by decide)).mp c1570 | skip
                    have g1613 : vp_in r15 18 := inE (rfl : r15.toInt = r15.toInt) (by omega) (by omega)
                    refine ⟨g1613, ?_⟩
                    refine ⟨fun c1614 => ?_, fun c1614 => ?_⟩
                    · first | have f1616 := (eqE (rfl : (jT r15.toNatClampNeg).toInt = (jT r15.toNatClampNeg).toInt) (show (2 : Int32).toInt = 2 from by decide)).mp c1614 | skip
                      have f1618 := tB r1020
                      have f1619 := tB r1522
                      refine sX2_goesThere hN hσ1566 (fun r1633 p1634 => ?_)
                      refine ⟨fun c1635 => ?_, fun c1635 => ?_⟩
                      · have f1636 := tB r1633
                        first | have f1637 := (eqE (rfl : r1633.toInt = r1633.toInt) (show (0 : Int32).toInt = 0 from by decide)).mp c1635 | skip
                        exact hQ _ hσ1566 (⟨(kq (a := 9) (b := 9) eσ1566 (by omega)).trans (k1551.trans (k1532.trans (k1513.trans (k1011.trans (k6.trans ((kq (a := 9) (b := 9) eσ2 (fun q => absurd q.1 (by decide))))))))), (kq (a := 9) (b := 10) eσ1566 (by omega)).trans (k1552.trans (k1533.trans (k1514.trans (k1012.trans (k7.trans ((kq (a := 9) (b := 10) eσ2 (fun q => absurd q.1 (by decide))))))))), (kq (a := 6) (b := 5) eσ1566 (by omega)).trans (k1553.trans (k1534.trans (k1515.trans (k1013.trans (k8.trans ((kq (a := 6) (b := 5) eσ2 (fun q => absurd q.1 (by decide))))))))), (kq (a := 7) (b := 4) eσ1566 (by omega)).trans (k1554.trans (k1535.trans (k1516.trans (k1014.trans (k9.trans ((kq (a := 7) (b := 4) eσ2 (fun q => absurd q.1 (by decide))))))))), (kq (a := 2) (b := 4) eσ1566 (by omega)).trans (k1555.trans (k1536.trans (k1517.trans (k1015.trans (k10.trans ((kq (a := 2) (b := 4) eσ2 (fun q => absurd q.1 (by decide)))))))))⟩)
                      · have f1638 := tB r1633
                        first | have f1639 := (noteqE (rfl : r1633.toInt = r1633.toInt) (show (0 : Int32).toInt = 0 from by decide)).mp c1635 | skip
                        intro v1640 ev1640
                        intro σ1641 eσ1641
                        have kb1642 := jobK_b hk1
                        have hσ1641 : K1 σ0 σ1641 := by rw [eσ1641]; exact hσ1566.u (rg_jobK hk1) (by omega) (by omega)
                        exact hQ _ hσ1641 (⟨(kq (a := 9) (b := 9) eσ1641 (by omega)).trans ((kq (a := 9) (b := 9) eσ1566 (by omega)).trans (k1551.trans (k1532.trans (k1513.trans (k1011.trans (k6.trans ((kq (a := 9) (b := 9) eσ2 (fun q => absurd q.1 (by decide)))))))))), (kq (a := 9) (b := 10) eσ1641 (by omega)).trans ((kq (a := 9) (b := 10) eσ1566 (by omega)).trans (k1552.trans (k1533.trans (k1514.trans (k1012.trans (k7.trans ((kq (a := 9) (b := 10) eσ2 (fun q => absurd q.1 (by decide)))))))))), (kq (a := 6) (b := 5) eσ1641 (by omega)).trans ((kq (a := 6) (b := 5) eσ1566 (by omega)).trans (k1553.trans (k1534.trans (k1515.trans (k1013.trans (k8.trans ((kq (a := 6) (b := 5) eσ2 (fun q => absurd q.1 (by decide)))))))))), (kq (a := 7) (b := 4) eσ1641 (by omega)).trans ((kq (a := 7) (b := 4) eσ1566 (by omega)).trans (k1554.trans (k1535.trans (k1516.trans (k1014.trans (k9.trans ((kq (a := 7) (b := 4) eσ2 (fun q => absurd q.1 (by decide)))))))))), (kq (a := 2) (b := 4) eσ1641 (by omega)).trans ((kq (a := 2) (b := 4) eσ1566 (by omega)).trans (k1555.trans (k1536.trans (k1517.trans (k1015.trans (k10.trans ((kq (a := 2) (b := 4) eσ2 (fun q => absurd q.1 (by decide))))))))))⟩)
                    · first | have f1644 := (noteqE (rfl : (jT r15.toNatClampNeg).toInt = (jT r15.toNatClampNeg).toInt) (show (2 : Int32).toInt = 2 from by decide)).mp c1614 | skip
                      have f1646 := tB r1020
                      have f1647 := tB r1522
                      have f1649 := K1.g_3_7 hσ1566
                      have q1650 : σ1566.1 3 7 = σ1548.1 3 7 := by rw [eσ1566]; exact congrFun (u1_ne (by omega)) 7
                      have f1651 := congrArg Int32.toInt q1650
                      have f1652 := K1.g_3_7 hσ1548
                      have f1653 := congrArg Int32.toInt k1549
                      have f1654 := K1.g_3_7 hσ1529
                      have f1655 := congrArg Int32.toInt k1530
                      have f1656 := K1.g_3_7 hσ1510
                      have f1657 := congrArg Int32.toInt k1511
                      have f1658 := K1.g_3_7 hσ1008
                      have f1659 := congrArg Int32.toInt k1009
                      have f1660 := K1.g_3_7 hσ3
                      have f1661 := congrArg Int32.toInt k4
                      have f1662 := K1.g_3_7 hσ2
                      have q1663 : σ2.1 3 7 = σ.1 3 7 := by rw [eσ2, u1_at]; exact if_neg (by decide)
                      have f1664 := congrArg Int32.toInt q1663
                      have f1665 := K1.g_3_7 hσ
                      refine sX2_act hN hk1 ⟨by omega, by omega⟩ hσ1566 (fun σ1648 hσ1648 kk1671 => ?_)
                      obtain ⟨k1666, k1667, k1668, k1669, k1670⟩ := kk1671
                      exact hQ _ hσ1648 (⟨k1666.trans ((kq (a := 9) (b := 9) eσ1566 (by omega)).trans (k1551.trans (k1532.trans (k1513.trans (k1011.trans (k6.trans ((kq (a := 9) (b := 9) eσ2 (fun q => absurd q.1 (by decide)))))))))), k1667.trans ((kq (a := 9) (b := 10) eσ1566 (by omega)).trans (k1552.trans (k1533.trans (k1514.trans (k1012.trans (k7.trans ((kq (a := 9) (b := 10) eσ2 (fun q => absurd q.1 (by decide)))))))))), k1668.trans ((kq (a := 6) (b := 5) eσ1566 (by omega)).trans (k1553.trans (k1534.trans (k1515.trans (k1013.trans (k8.trans ((kq (a := 6) (b := 5) eσ2 (fun q => absurd q.1 (by decide)))))))))), k1669.trans ((kq (a := 7) (b := 4) eσ1566 (by omega)).trans (k1554.trans (k1535.trans (k1516.trans (k1014.trans (k9.trans ((kq (a := 7) (b := 4) eσ2 (fun q => absurd q.1 (by decide)))))))))), k1670.trans ((kq (a := 2) (b := 4) eσ1566 (by omega)).trans (k1555.trans (k1536.trans (k1517.trans (k1015.trans (k10.trans ((kq (a := 2) (b := 4) eσ2 (fun q => absurd q.1 (by decide))))))))))⟩)
                · have f1672 := tB (σ1548.1 3 11)
                  first | have f1673 := (noteqE (rfl : (σ1548.1 3 11).toInt = (σ1548.1 3 11).toInt) (show (0 : Int32).toInt = 0 from by decide)).mp c1562 | skip
                  exact hQ _ hσ1548 (⟨k1551.trans (k1532.trans (k1513.trans (k1011.trans (k6.trans ((kq (a := 9) (b := 9) eσ2 (fun q => absurd q.1 (by decide)))))))), k1552.trans (k1533.trans (k1514.trans (k1012.trans (k7.trans ((kq (a := 9) (b := 10) eσ2 (fun q => absurd q.1 (by decide)))))))), k1553.trans (k1534.trans (k1515.trans (k1013.trans (k8.trans ((kq (a := 6) (b := 5) eσ2 (fun q => absurd q.1 (by decide)))))))), k1554.trans (k1535.trans (k1516.trans (k1014.trans (k9.trans ((kq (a := 7) (b := 4) eσ2 (fun q => absurd q.1 (by decide)))))))), k1555.trans (k1536.trans (k1517.trans (k1015.trans (k10.trans ((kq (a := 2) (b := 4) eσ2 (fun q => absurd q.1 (by decide))))))))⟩)
              · first | have f1675 := (noteqE (rfl : (jT r15.toNatClampNeg).toInt = (jT r15.toNatClampNeg).toInt) (show (2 : Int32).toInt = 2 from by decide)).mp c1545 | skip
                unfold fX2_doOrder_j122
                refine ⟨fun c1676 => ?_, fun c1676 => ?_⟩
                · have f1677 := tB (σ1529.1 3 11)
                  first | have f1678 := (eqE (rfl : (σ1529.1 3 11).toInt = (σ1529.1 3 11).toInt) (show (0 : Int32).toInt = 0 from by decide)).mp c1676 | skip
                  intro v1679 ev1679
                  intro σ1680 eσ1680
                  have kb1681 := jobK_b hk1
                  have hσ1680 : K1 σ0 σ1680 := by rw [eσ1680]; exact hσ1529.u (rg_jobK hk1) (by omega) (by omega)
                  have g1683 : vp_in r15 18 := inE (rfl : r15.toInt = r15.toInt) (by omega) (by omega)
                  refine ⟨g1683, ?_⟩
                  refine ⟨fun c1684 => ?_, fun c1684 => ?_⟩
                  · first | have f1686 := (eqE (rfl : (jT r15.toNatClampNeg).toInt = (jT r15.toNatClampNeg).toInt) (show (1 : Int32).toInt = 1 from by decide)).mp c1684 | skip
                    have f1688 := tB r1020
                    have f1689 := tB r1522
                    refine sX2_valueFor hN hσ1680 (fun r1702 σ1690 hσ1690 kk1701 p1703 => ?_)
                    obtain ⟨k1691, k1692, k1693, k1694, k1695, k1696, k1697, k1698, k1699, k1700⟩ := kk1701
                    refine ⟨fun c1704 => ?_, fun c1704 => ?_⟩
                    · have f1705 := tB (σ1690.1 3 11)
                      first | have f1706 := (eqE (rfl : (σ1690.1 3 11).toInt = (σ1690.1 3 11).toInt) (show (0 : Int32).toInt = 0 from by decide)).mp c1704 | skip
                      have f1707 := tB r1541
                      have f1708 := tB r1702
                      refine sX1_setLocal hN hk1 hσ1690 (fun σ1709 hσ1709 kk1721 => ?_)
                      obtain ⟨k1710, k1711, k1712, k1713, k1714, k1715, k1716, k1717, k1718, k1719, k1720⟩ := kk1721
                      unfold fX2_doOrder_j174
                      exact hQ _ hσ1709 (⟨k1713.trans (k1693.trans ((kq (a := 9) (b := 9) eσ1680 (by omega)).trans (k1532.trans (k1513.trans (k1011.trans (k6.trans ((kq (a := 9) (b := 9) eσ2 (fun q => absurd q.1 (by decide)))))))))), k1714.trans (k1694.trans ((kq (a := 9) (b := 10) eσ1680 (by omega)).trans (k1533.trans (k1514.trans (k1012.trans (k7.trans ((kq (a := 9) (b := 10) eσ2 (fun q => absurd q.1 (by decide)))))))))), k1715.trans (k1695.trans ((kq (a := 6) (b := 5) eσ1680 (by omega)).trans (k1534.trans (k1515.trans (k1013.trans (k8.trans ((kq (a := 6) (b := 5) eσ2 (fun q => absurd q.1 (by decide)))))))))), k1716.trans (k1696.trans ((kq (a := 7) (b := 4) eσ1680 (by omega)).trans (k1535.trans (k1516.trans (k1014.trans (k9.trans ((kq (a := 7) (b := 4) eσ2 (fun q => absurd q.1 (by decide)))))))))), k1717.trans (k1697.trans ((kq (a := 2) (b := 4) eσ1680 (by omega)).trans (k1536.trans (k1517.trans (k1015.trans (k10.trans ((kq (a := 2) (b := 4) eσ2 (fun q => absurd q.1 (by decide))))))))))⟩)
                    · have f1722 := tB (σ1690.1 3 11)
                      first | have f1723 := (noteqE (rfl : (σ1690.1 3 11).toInt = (σ1690.1 3 11).toInt) (show (0 : Int32).toInt = 0 from by decide)).mp c1704 | skip
                      unfold fX2_doOrder_j174
                      exact hQ _ hσ1690 (⟨k1693.trans ((kq (a := 9) (b := 9) eσ1680 (by omega)).trans (k1532.trans (k1513.trans (k1011.trans (k6.trans ((kq (a := 9) (b := 9) eσ2 (fun q => absurd q.1 (by decide))))))))), k1694.trans ((kq (a := 9) (b := 10) eσ1680 (by omega)).trans (k1533.trans (k1514.trans (k1012.trans (k7.trans ((kq (a := 9) (b := 10) eσ2 (fun q => absurd q.1 (by decide))))))))), k1695.trans ((kq (a := 6) (b := 5) eσ1680 (by omega)).trans (k1534.trans (k1515.trans (k1013.trans (k8.trans ((kq (a := 6) (b := 5) eσ2 (fun q => absurd q.1 (by decide))))))))), k1696.trans ((kq (a := 7) (b := 4) eσ1680 (by omega)).trans (k1535.trans (k1516.trans (k1014.trans (k9.trans ((kq (a := 7) (b := 4) eσ2 (fun q => absurd q.1 (by decide))))))))), k1697.trans ((kq (a := 2) (b := 4) eσ1680 (by omega)).trans (k1536.trans (k1517.trans (k1015.trans (k10.trans ((kq (a := 2) (b := 4) eσ2 (fun q => absurd q.1 (by decide)))))))))⟩)
                  · first | have f1725 := (noteqE (rfl : (jT r15.toNatClampNeg).toInt = (jT r15.toNatClampNeg).toInt) (show (1 : Int32).toInt = 1 from by decide)).mp c1684 | skip
                    have g1727 : vp_in r15 18 := inE (rfl : r15.toInt = r15.toInt) (by omega) (by omega)
                    refine ⟨g1727, ?_⟩
                    refine ⟨fun c1728 => ?_, fun c1728 => ?_⟩
                    · first | have f1730 := (eqE (rfl : (jT r15.toNatClampNeg).toInt = (jT r15.toNatClampNeg).toInt) (show (2 : Int32).toInt = 2 from by decide)).mp c1728 | skip
                      have f1732 := tB r1020
                      have f1733 := tB r1522
                      refine sX2_goesThere hN hσ1680 (fun r1747 p1748 => ?_)
                      refine ⟨fun c1749 => ?_, fun c1749 => ?_⟩
                      · have f1750 := tB r1747
                        first | have f1751 := (eqE (rfl : r1747.toInt = r1747.toInt) (show (0 : Int32).toInt = 0 from by decide)).mp c1749 | skip
                        exact hQ _ hσ1680 (⟨(kq (a := 9) (b := 9) eσ1680 (by omega)).trans (k1532.trans (k1513.trans (k1011.trans (k6.trans ((kq (a := 9) (b := 9) eσ2 (fun q => absurd q.1 (by decide)))))))), (kq (a := 9) (b := 10) eσ1680 (by omega)).trans (k1533.trans (k1514.trans (k1012.trans (k7.trans ((kq (a := 9) (b := 10) eσ2 (fun q => absurd q.1 (by decide)))))))), (kq (a := 6) (b := 5) eσ1680 (by omega)).trans (k1534.trans (k1515.trans (k1013.trans (k8.trans ((kq (a := 6) (b := 5) eσ2 (fun q => absurd q.1 (by decide)))))))), (kq (a := 7) (b := 4) eσ1680 (by omega)).trans (k1535.trans (k1516.trans (k1014.trans (k9.trans ((kq (a := 7) (b := 4) eσ2 (fun q => absurd q.1 (by decide)))))))), (kq (a := 2) (b := 4) eσ1680 (by omega)).trans (k1536.trans (k1517.trans (k1015.trans (k10.trans ((kq (a := 2) (b := 4) eσ2 (fun q => absurd q.1 (by decide))))))))⟩)
                      · have f1752 := tB r1747
                        first | have f1753 := (noteqE (rfl : r1747.toInt = r1747.toInt) (show (0 : Int32).toInt = 0 from by decide)).mp c1749 | skip
                        intro v1754 ev1754
                        intro σ1755 eσ1755
                        have kb1756 := jobK_b hk1
                        have hσ1755 : K1 σ0 σ1755 := by rw [eσ1755]; exact hσ1680.u (rg_jobK hk1) (by omega) (by omega)
                        exact hQ _ hσ1755 (⟨(kq (a := 9) (b := 9) eσ1755 (by omega)).trans ((kq (a := 9) (b := 9) eσ1680 (by omega)).trans (k1532.trans (k1513.trans (k1011.trans (k6.trans ((kq (a := 9) (b := 9) eσ2 (fun q => absurd q.1 (by decide))))))))), (kq (a := 9) (b := 10) eσ1755 (by omega)).trans ((kq (a := 9) (b := 10) eσ1680 (by omega)).trans (k1533.trans (k1514.trans (k1012.trans (k7.trans ((kq (a := 9) (b := 10) eσ2 (fun q => absurd q.1 (by decide))))))))), (kq (a := 6) (b := 5) eσ1755 (by omega)).trans ((kq (a := 6) (b := 5) eσ1680 (by omega)).trans (k1534.trans (k1515.trans (k1013.trans (k8.trans ((kq (a := 6) (b := 5) eσ2 (fun q => absurd q.1 (by decide))))))))), (kq (a := 7) (b := 4) eσ1755 (by omega)).trans ((kq (a := 7) (b := 4) eσ1680 (by omega)).trans (k1535.trans (k1516.trans (k1014.trans (k9.trans ((kq (a := 7) (b := 4) eσ2 (fun q => absurd q.1 (by decide))))))))), (kq (a := 2) (b := 4) eσ1755 (by omega)).trans ((kq (a := 2) (b := 4) eσ1680 (by omega)).trans (k1536.trans (k1517.trans (k1015.trans (k10.trans ((kq (a := 2) (b := 4) eσ2 (fun q => absurd q.1 (by decide)))))))))⟩)
                    · first | have f1758 := (noteqE (rfl : (jT r15.toNatClampNeg).toInt = (jT r15.toNatClampNeg).toInt) (show (2 : Int32).toInt = 2 from by decide)).mp c1728 | skip
                      have f1760 := tB r1020
                      have f1761 := tB r1522
                      have f1763 := K1.g_3_7 hσ1680
                      have q1764 : σ1680.1 3 7 = σ1529.1 3 7 := by rw [eσ1680]; exact congrFun (u1_ne (by omega)) 7
                      have f1765 := congrArg Int32.toInt q1764
                      have f1766 := K1.g_3_7 hσ1529
                      have f1767 := congrArg Int32.toInt k1530
                      have f1768 := K1.g_3_7 hσ1510
                      have f1769 := congrArg Int32.toInt k1511
                      have f1770 := K1.g_3_7 hσ1008
                      have f1771 := congrArg Int32.toInt k1009
                      have f1772 := K1.g_3_7 hσ3
                      have f1773 := congrArg Int32.toInt k4
                      have f1774 := K1.g_3_7 hσ2
                      have q1775 : σ2.1 3 7 = σ.1 3 7 := by rw [eσ2, u1_at]; exact if_neg (by decide)
                      have f1776 := congrArg Int32.toInt q1775
                      have f1777 := K1.g_3_7 hσ
                      refine sX2_act hN hk1 ⟨by omega, by omega⟩ hσ1680 (fun σ1762 hσ1762 kk1783 => ?_)
                      obtain ⟨k1778, k1779, k1780, k1781, k1782⟩ := kk1783
                      exact hQ _ hσ1762 (⟨k1778.trans ((kq (a := 9) (b := 9) eσ1680 (by omega)).trans (k1532.trans (k1513.trans (k1011.trans (k6.trans ((kq (a := 9) (b := 9) eσ2 (fun q => absurd q.1 (by decide))))))))), k1779.trans ((kq (a := 9) (b := 10) eσ1680 (by omega)).trans (k1533.trans (k1514.trans (k1012.trans (k7.trans ((kq (a := 9) (b := 10) eσ2 (fun q => absurd q.1 (by decide))))))))), k1780.trans ((kq (a := 6) (b := 5) eσ1680 (by omega)).trans (k1534.trans (k1515.trans (k1013.trans (k8.trans ((kq (a := 6) (b := 5) eσ2 (fun q => absurd q.1 (by decide))))))))), k1781.trans ((kq (a := 7) (b := 4) eσ1680 (by omega)).trans (k1535.trans (k1516.trans (k1014.trans (k9.trans ((kq (a := 7) (b := 4) eσ2 (fun q => absurd q.1 (by decide))))))))), k1782.trans ((kq (a := 2) (b := 4) eσ1680 (by omega)).trans (k1536.trans (k1517.trans (k1015.trans (k10.trans ((kq (a := 2) (b := 4) eσ2 (fun q => absurd q.1 (by decide)))))))))⟩)
                · have f1784 := tB (σ1529.1 3 11)
                  first | have f1785 := (noteqE (rfl : (σ1529.1 3 11).toInt = (σ1529.1 3 11).toInt) (show (0 : Int32).toInt = 0 from by decide)).mp c1676 | skip
                  exact hQ _ hσ1529 (⟨k1532.trans (k1513.trans (k1011.trans (k6.trans ((kq (a := 9) (b := 9) eσ2 (fun q => absurd q.1 (by decide))))))), k1533.trans (k1514.trans (k1012.trans (k7.trans ((kq (a := 9) (b := 10) eσ2 (fun q => absurd q.1 (by decide))))))), k1534.trans (k1515.trans (k1013.trans (k8.trans ((kq (a := 6) (b := 5) eσ2 (fun q => absurd q.1 (by decide))))))), k1535.trans (k1516.trans (k1014.trans (k9.trans ((kq (a := 7) (b := 4) eσ2 (fun q => absurd q.1 (by decide))))))), k1536.trans (k1517.trans (k1015.trans (k10.trans ((kq (a := 2) (b := 4) eσ2 (fun q => absurd q.1 (by decide)))))))⟩)
            · have f1786 := tB (jT r15.toNatClampNeg)
              first | have f1787 := (noteqE (rfl : (jT r15.toNatClampNeg).toInt = (jT r15.toNatClampNeg).toInt) (show (1 : Int32).toInt = 1 from by decide)).mp c1526 | skip
              unfold fX2_doOrder_j103
              have g1789 : vp_in r15 18 := inE (rfl : r15.toInt = r15.toInt) (by omega) (by omega)
              refine ⟨g1789, ?_⟩
              refine ⟨fun c1790 => ?_, fun c1790 => ?_⟩
              · first | have f1792 := (eqE (rfl : (jT r15.toNatClampNeg).toInt = (jT r15.toNatClampNeg).toInt) (show (2 : Int32).toInt = 2 from by decide)).mp c1790 | skip
                refine sX2_nextDistance hN hσ1510 (fun r1805 σ1793 hσ1793 kk1804 p1806 => ?_)
                obtain ⟨k1794, k1795, k1796, k1797, k1798, k1799, k1800, k1801, k1802, k1803⟩ := kk1804
                unfold fX2_doOrder_j122
                refine ⟨fun c1807 => ?_, fun c1807 => ?_⟩
                · have f1808 := tB (σ1793.1 3 11)
                  first | have f1809 := (eqE (rfl : (σ1793.1 3 11).toInt = (σ1793.1 3 11).toInt) (show (0 : Int32).toInt = 0 from by decide)).mp c1807 | skip
                  intro v1810 ev1810
                  intro σ1811 eσ1811
                  have kb1812 := jobK_b hk1
                  have hσ1811 : K1 σ0 σ1811 := by rw [eσ1811]; exact hσ1793.u (rg_jobK hk1) (by omega) (by omega)
                  have g1814 : vp_in r15 18 := inE (rfl : r15.toInt = r15.toInt) (by omega) (by omega)
                  refine ⟨g1814, ?_⟩
                  refine ⟨fun c1815 => ?_, fun c1815 => ?_⟩
                  · first | have f1817 := (eqE (rfl : (jT r15.toNatClampNeg).toInt = (jT r15.toNatClampNeg).toInt) (show (1 : Int32).toInt = 1 from by decide)).mp c1815 | skip
                    have f1819 := tB r1020
                    have f1820 := tB r1522
                    refine sX2_valueFor hN hσ1811 (fun r1833 σ1821 hσ1821 kk1832 p1834 => ?_)
                    obtain ⟨k1822, k1823, k1824, k1825, k1826, k1827, k1828, k1829, k1830, k1831⟩ := kk1832
                    refine ⟨fun c1835 => ?_, fun c1835 => ?_⟩
                    · have f1836 := tB (σ1821.1 3 11)
                      first | have f1837 := (eqE (rfl : (σ1821.1 3 11).toInt = (σ1821.1 3 11).toInt) (show (0 : Int32).toInt = 0 from by decide)).mp c1835 | skip
                      have f1838 := tB r1833
                      refine sX1_setLocal hN hk1 hσ1821 (fun σ1839 hσ1839 kk1851 => ?_)
                      obtain ⟨k1840, k1841, k1842, k1843, k1844, k1845, k1846, k1847, k1848, k1849, k1850⟩ := kk1851
                      unfold fX2_doOrder_j174
                      exact hQ _ hσ1839 (⟨k1843.trans (k1824.trans ((kq (a := 9) (b := 9) eσ1811 (by omega)).trans (k1796.trans (k1513.trans (k1011.trans (k6.trans ((kq (a := 9) (b := 9) eσ2 (fun q => absurd q.1 (by decide)))))))))), k1844.trans (k1825.trans ((kq (a := 9) (b := 10) eσ1811 (by omega)).trans (k1797.trans (k1514.trans (k1012.trans (k7.trans ((kq (a := 9) (b := 10) eσ2 (fun q => absurd q.1 (by decide)))))))))), k1845.trans (k1826.trans ((kq (a := 6) (b := 5) eσ1811 (by omega)).trans (k1798.trans (k1515.trans (k1013.trans (k8.trans ((kq (a := 6) (b := 5) eσ2 (fun q => absurd q.1 (by decide)))))))))), k1846.trans (k1827.trans ((kq (a := 7) (b := 4) eσ1811 (by omega)).trans (k1799.trans (k1516.trans (k1014.trans (k9.trans ((kq (a := 7) (b := 4) eσ2 (fun q => absurd q.1 (by decide)))))))))), k1847.trans (k1828.trans ((kq (a := 2) (b := 4) eσ1811 (by omega)).trans (k1800.trans (k1517.trans (k1015.trans (k10.trans ((kq (a := 2) (b := 4) eσ2 (fun q => absurd q.1 (by decide))))))))))⟩)
                    · have f1852 := tB (σ1821.1 3 11)
                      first | have f1853 := (noteqE (rfl : (σ1821.1 3 11).toInt = (σ1821.1 3 11).toInt) (show (0 : Int32).toInt = 0 from by decide)).mp c1835 | skip
                      unfold fX2_doOrder_j174
                      exact hQ _ hσ1821 (⟨k1824.trans ((kq (a := 9) (b := 9) eσ1811 (by omega)).trans (k1796.trans (k1513.trans (k1011.trans (k6.trans ((kq (a := 9) (b := 9) eσ2 (fun q => absurd q.1 (by decide))))))))), k1825.trans ((kq (a := 9) (b := 10) eσ1811 (by omega)).trans (k1797.trans (k1514.trans (k1012.trans (k7.trans ((kq (a := 9) (b := 10) eσ2 (fun q => absurd q.1 (by decide))))))))), k1826.trans ((kq (a := 6) (b := 5) eσ1811 (by omega)).trans (k1798.trans (k1515.trans (k1013.trans (k8.trans ((kq (a := 6) (b := 5) eσ2 (fun q => absurd q.1 (by decide))))))))), k1827.trans ((kq (a := 7) (b := 4) eσ1811 (by omega)).trans (k1799.trans (k1516.trans (k1014.trans (k9.trans ((kq (a := 7) (b := 4) eσ2 (fun q => absurd q.1 (by decide))))))))), k1828.trans ((kq (a := 2) (b := 4) eσ1811 (by omega)).trans (k1800.trans (k1517.trans (k1015.trans (k10.trans ((kq (a := 2) (b := 4) eσ2 (fun q => absurd q.1 (by decide)))))))))⟩)
                  · first | have f1855 := (noteqE (rfl : (jT r15.toNatClampNeg).toInt = (jT r15.toNatClampNeg).toInt) (show (1 : Int32).toInt = 1 from by decide)).mp c1815 | skip
                    have g1857 : vp_in r15 18 := inE (rfl : r15.toInt = r15.toInt) (by omega) (by omega)
                    refine ⟨g1857, ?_⟩
                    refine ⟨fun c1858 => ?_, fun c1858 => ?_⟩
                    · first | have f1860 := (eqE (rfl : (jT r15.toNatClampNeg).toInt = (jT r15.toNatClampNeg).toInt) (show (2 : Int32).toInt = 2 from by decide)).mp c1858 | skip
                      have f1862 := tB r1020
                      have f1863 := tB r1522
                      refine sX2_goesThere hN hσ1811 (fun r1877 p1878 => ?_)
                      refine ⟨fun c1879 => ?_, fun c1879 => ?_⟩
                      · have f1880 := tB r1877
                        first | have f1881 := (eqE (rfl : r1877.toInt = r1877.toInt) (show (0 : Int32).toInt = 0 from by decide)).mp c1879 | skip
                        exact hQ _ hσ1811 (⟨(kq (a := 9) (b := 9) eσ1811 (by omega)).trans (k1796.trans (k1513.trans (k1011.trans (k6.trans ((kq (a := 9) (b := 9) eσ2 (fun q => absurd q.1 (by decide)))))))), (kq (a := 9) (b := 10) eσ1811 (by omega)).trans (k1797.trans (k1514.trans (k1012.trans (k7.trans ((kq (a := 9) (b := 10) eσ2 (fun q => absurd q.1 (by decide)))))))), (kq (a := 6) (b := 5) eσ1811 (by omega)).trans (k1798.trans (k1515.trans (k1013.trans (k8.trans ((kq (a := 6) (b := 5) eσ2 (fun q => absurd q.1 (by decide)))))))), (kq (a := 7) (b := 4) eσ1811 (by omega)).trans (k1799.trans (k1516.trans (k1014.trans (k9.trans ((kq (a := 7) (b := 4) eσ2 (fun q => absurd q.1 (by decide)))))))), (kq (a := 2) (b := 4) eσ1811 (by omega)).trans (k1800.trans (k1517.trans (k1015.trans (k10.trans ((kq (a := 2) (b := 4) eσ2 (fun q => absurd q.1 (by decide))))))))⟩)
                      · have f1882 := tB r1877
                        first | have f1883 := (noteqE (rfl : r1877.toInt = r1877.toInt) (show (0 : Int32).toInt = 0 from by decide)).mp c1879 | skip
                        intro v1884 ev1884
                        intro σ1885 eσ1885
                        have kb1886 := jobK_b hk1
                        have hσ1885 : K1 σ0 σ1885 := by rw [eσ1885]; exact hσ1811.u (rg_jobK hk1) (by omega) (by omega)
                        exact hQ _ hσ1885 (⟨(kq (a := 9) (b := 9) eσ1885 (by omega)).trans ((kq (a := 9) (b := 9) eσ1811 (by omega)).trans (k1796.trans (k1513.trans (k1011.trans (k6.trans ((kq (a := 9) (b := 9) eσ2 (fun q => absurd q.1 (by decide))))))))), (kq (a := 9) (b := 10) eσ1885 (by omega)).trans ((kq (a := 9) (b := 10) eσ1811 (by omega)).trans (k1797.trans (k1514.trans (k1012.trans (k7.trans ((kq (a := 9) (b := 10) eσ2 (fun q => absurd q.1 (by decide))))))))), (kq (a := 6) (b := 5) eσ1885 (by omega)).trans ((kq (a := 6) (b := 5) eσ1811 (by omega)).trans (k1798.trans (k1515.trans (k1013.trans (k8.trans ((kq (a := 6) (b := 5) eσ2 (fun q => absurd q.1 (by decide))))))))), (kq (a := 7) (b := 4) eσ1885 (by omega)).trans ((kq (a := 7) (b := 4) eσ1811 (by omega)).trans (k1799.trans (k1516.trans (k1014.trans (k9.trans ((kq (a := 7) (b := 4) eσ2 (fun q => absurd q.1 (by decide))))))))), (kq (a := 2) (b := 4) eσ1885 (by omega)).trans ((kq (a := 2) (b := 4) eσ1811 (by omega)).trans (k1800.trans (k1517.trans (k1015.trans (k10.trans ((kq (a := 2) (b := 4) eσ2 (fun q => absurd q.1 (by decide)))))))))⟩)
                    · first | have f1888 := (noteqE (rfl : (jT r15.toNatClampNeg).toInt = (jT r15.toNatClampNeg).toInt) (show (2 : Int32).toInt = 2 from by decide)).mp c1858 | skip
                      have f1890 := tB r1020
                      have f1891 := tB r1522
                      have f1893 := K1.g_3_7 hσ1811
                      have q1894 : σ1811.1 3 7 = σ1793.1 3 7 := by rw [eσ1811]; exact congrFun (u1_ne (by omega)) 7
                      have f1895 := congrArg Int32.toInt q1894
                      have f1896 := K1.g_3_7 hσ1793
                      have f1897 := congrArg Int32.toInt k1794
                      have f1898 := K1.g_3_7 hσ1510
                      have f1899 := congrArg Int32.toInt k1511
                      have f1900 := K1.g_3_7 hσ1008
                      have f1901 := congrArg Int32.toInt k1009
                      have f1902 := K1.g_3_7 hσ3
                      have f1903 := congrArg Int32.toInt k4
                      have f1904 := K1.g_3_7 hσ2
                      have q1905 : σ2.1 3 7 = σ.1 3 7 := by rw [eσ2, u1_at]; exact if_neg (by decide)
                      have f1906 := congrArg Int32.toInt q1905
                      have f1907 := K1.g_3_7 hσ
                      refine sX2_act hN hk1 ⟨by omega, by omega⟩ hσ1811 (fun σ1892 hσ1892 kk1913 => ?_)
                      obtain ⟨k1908, k1909, k1910, k1911, k1912⟩ := kk1913
                      exact hQ _ hσ1892 (⟨k1908.trans ((kq (a := 9) (b := 9) eσ1811 (by omega)).trans (k1796.trans (k1513.trans (k1011.trans (k6.trans ((kq (a := 9) (b := 9) eσ2 (fun q => absurd q.1 (by decide))))))))), k1909.trans ((kq (a := 9) (b := 10) eσ1811 (by omega)).trans (k1797.trans (k1514.trans (k1012.trans (k7.trans ((kq (a := 9) (b := 10) eσ2 (fun q => absurd q.1 (by decide))))))))), k1910.trans ((kq (a := 6) (b := 5) eσ1811 (by omega)).trans (k1798.trans (k1515.trans (k1013.trans (k8.trans ((kq (a := 6) (b := 5) eσ2 (fun q => absurd q.1 (by decide))))))))), k1911.trans ((kq (a := 7) (b := 4) eσ1811 (by omega)).trans (k1799.trans (k1516.trans (k1014.trans (k9.trans ((kq (a := 7) (b := 4) eσ2 (fun q => absurd q.1 (by decide))))))))), k1912.trans ((kq (a := 2) (b := 4) eσ1811 (by omega)).trans (k1800.trans (k1517.trans (k1015.trans (k10.trans ((kq (a := 2) (b := 4) eσ2 (fun q => absurd q.1 (by decide)))))))))⟩)
                · have f1914 := tB (σ1793.1 3 11)
                  first | have f1915 := (noteqE (rfl : (σ1793.1 3 11).toInt = (σ1793.1 3 11).toInt) (show (0 : Int32).toInt = 0 from by decide)).mp c1807 | skip
                  exact hQ _ hσ1793 (⟨k1796.trans (k1513.trans (k1011.trans (k6.trans ((kq (a := 9) (b := 9) eσ2 (fun q => absurd q.1 (by decide))))))), k1797.trans (k1514.trans (k1012.trans (k7.trans ((kq (a := 9) (b := 10) eσ2 (fun q => absurd q.1 (by decide))))))), k1798.trans (k1515.trans (k1013.trans (k8.trans ((kq (a := 6) (b := 5) eσ2 (fun q => absurd q.1 (by decide))))))), k1799.trans (k1516.trans (k1014.trans (k9.trans ((kq (a := 7) (b := 4) eσ2 (fun q => absurd q.1 (by decide))))))), k1800.trans (k1517.trans (k1015.trans (k10.trans ((kq (a := 2) (b := 4) eσ2 (fun q => absurd q.1 (by decide)))))))⟩)
              · first | have f1917 := (noteqE (rfl : (jT r15.toNatClampNeg).toInt = (jT r15.toNatClampNeg).toInt) (show (2 : Int32).toInt = 2 from by decide)).mp c1790 | skip
                unfold fX2_doOrder_j122
                refine ⟨fun c1918 => ?_, fun c1918 => ?_⟩
                · have f1919 := tB (σ1510.1 3 11)
                  first | have f1920 := (eqE (rfl : (σ1510.1 3 11).toInt = (σ1510.1 3 11).toInt) (show (0 : Int32).toInt = 0 from by decide)).mp c1918 | skip
                  intro v1921 ev1921
                  intro σ1922 eσ1922
                  have kb1923 := jobK_b hk1
                  have hσ1922 : K1 σ0 σ1922 := by rw [eσ1922]; exact hσ1510.u (rg_jobK hk1) (by omega) (by omega)
                  have g1925 : vp_in r15 18 := inE (rfl : r15.toInt = r15.toInt) (by omega) (by omega)
                  refine ⟨g1925, ?_⟩
                  refine ⟨fun c1926 => ?_, fun c1926 => ?_⟩
                  · first | have f1928 := (eqE (rfl : (jT r15.toNatClampNeg).toInt = (jT r15.toNatClampNeg).toInt) (show (1 : Int32).toInt = 1 from by decide)).mp c1926 | skip
                    have f1930 := tB r1020
                    have f1931 := tB r1522
                    refine sX2_valueFor hN hσ1922 (fun r1944 σ1932 hσ1932 kk1943 p1945 => ?_)
                    obtain ⟨k1933, k1934, k1935, k1936, k1937, k1938, k1939, k1940, k1941, k1942⟩ := kk1943
                    refine ⟨fun c1946 => ?_, fun c1946 => ?_⟩
                    · have f1947 := tB (σ1932.1 3 11)
                      first | have f1948 := (eqE (rfl : (σ1932.1 3 11).toInt = (σ1932.1 3 11).toInt) (show (0 : Int32).toInt = 0 from by decide)).mp c1946 | skip
                      have f1949 := tB r1944
                      refine sX1_setLocal hN hk1 hσ1932 (fun σ1950 hσ1950 kk1962 => ?_)
                      obtain ⟨k1951, k1952, k1953, k1954, k1955, k1956, k1957, k1958, k1959, k1960, k1961⟩ := kk1962
                      unfold fX2_doOrder_j174
                      exact hQ _ hσ1950 (⟨k1954.trans (k1935.trans ((kq (a := 9) (b := 9) eσ1922 (by omega)).trans (k1513.trans (k1011.trans (k6.trans ((kq (a := 9) (b := 9) eσ2 (fun q => absurd q.1 (by decide))))))))), k1955.trans (k1936.trans ((kq (a := 9) (b := 10) eσ1922 (by omega)).trans (k1514.trans (k1012.trans (k7.trans ((kq (a := 9) (b := 10) eσ2 (fun q => absurd q.1 (by decide))))))))), k1956.trans (k1937.trans ((kq (a := 6) (b := 5) eσ1922 (by omega)).trans (k1515.trans (k1013.trans (k8.trans ((kq (a := 6) (b := 5) eσ2 (fun q => absurd q.1 (by decide))))))))), k1957.trans (k1938.trans ((kq (a := 7) (b := 4) eσ1922 (by omega)).trans (k1516.trans (k1014.trans (k9.trans ((kq (a := 7) (b := 4) eσ2 (fun q => absurd q.1 (by decide))))))))), k1958.trans (k1939.trans ((kq (a := 2) (b := 4) eσ1922 (by omega)).trans (k1517.trans (k1015.trans (k10.trans ((kq (a := 2) (b := 4) eσ2 (fun q => absurd q.1 (by decide)))))))))⟩)
                    · have f1963 := tB (σ1932.1 3 11)
                      first | have f1964 := (noteqE (rfl : (σ1932.1 3 11).toInt = (σ1932.1 3 11).toInt) (show (0 : Int32).toInt = 0 from by decide)).mp c1946 | skip
                      unfold fX2_doOrder_j174
                      exact hQ _ hσ1932 (⟨k1935.trans ((kq (a := 9) (b := 9) eσ1922 (by omega)).trans (k1513.trans (k1011.trans (k6.trans ((kq (a := 9) (b := 9) eσ2 (fun q => absurd q.1 (by decide)))))))), k1936.trans ((kq (a := 9) (b := 10) eσ1922 (by omega)).trans (k1514.trans (k1012.trans (k7.trans ((kq (a := 9) (b := 10) eσ2 (fun q => absurd q.1 (by decide)))))))), k1937.trans ((kq (a := 6) (b := 5) eσ1922 (by omega)).trans (k1515.trans (k1013.trans (k8.trans ((kq (a := 6) (b := 5) eσ2 (fun q => absurd q.1 (by decide)))))))), k1938.trans ((kq (a := 7) (b := 4) eσ1922 (by omega)).trans (k1516.trans (k1014.trans (k9.trans ((kq (a := 7) (b := 4) eσ2 (fun q => absurd q.1 (by decide)))))))), k1939.trans ((kq (a := 2) (b := 4) eσ1922 (by omega)).trans (k1517.trans (k1015.trans (k10.trans ((kq (a := 2) (b := 4) eσ2 (fun q => absurd q.1 (by decide))))))))⟩)
                  · first | have f1966 := (noteqE (rfl : (jT r15.toNatClampNeg).toInt = (jT r15.toNatClampNeg).toInt) (show (1 : Int32).toInt = 1 from by decide)).mp c1926 | skip
                    have g1968 : vp_in r15 18 := inE (rfl : r15.toInt = r15.toInt) (by omega) (by omega)
                    refine ⟨g1968, ?_⟩
                    refine ⟨fun c1969 => ?_, fun c1969 => ?_⟩
                    · first | have f1971 := (eqE (rfl : (jT r15.toNatClampNeg).toInt = (jT r15.toNatClampNeg).toInt) (show (2 : Int32).toInt = 2 from by decide)).mp c1969 | skip
                      have f1973 := tB r1020
                      have f1974 := tB r1522
                      refine sX2_goesThere hN hσ1922 (fun r1988 p1989 => ?_)
                      refine ⟨fun c1990 => ?_, fun c1990 => ?_⟩
                      · have f1991 := tB r1988
                        first | have f1992 := (eqE (rfl : r1988.toInt = r1988.toInt) (show (0 : Int32).toInt = 0 from by decide)).mp c1990 | skip
                        exact hQ _ hσ1922 (⟨(kq (a := 9) (b := 9) eσ1922 (by omega)).trans (k1513.trans (k1011.trans (k6.trans ((kq (a := 9) (b := 9) eσ2 (fun q => absurd q.1 (by decide))))))), (kq (a := 9) (b := 10) eσ1922 (by omega)).trans (k1514.trans (k1012.trans (k7.trans ((kq (a := 9) (b := 10) eσ2 (fun q => absurd q.1 (by decide))))))), (kq (a := 6) (b := 5) eσ1922 (by omega)).trans (k1515.trans (k1013.trans (k8.trans ((kq (a := 6) (b := 5) eσ2 (fun q => absurd q.1 (by decide))))))), (kq (a := 7) (b := 4) eσ1922 (by omega)).trans (k1516.trans (k1014.trans (k9.trans ((kq (a := 7) (b := 4) eσ2 (fun q => absurd q.1 (by decide))))))), (kq (a := 2) (b := 4) eσ1922 (by omega)).trans (k1517.trans (k1015.trans (k10.trans ((kq (a := 2) (b := 4) eσ2 (fun q => absurd q.1 (by decide)))))))⟩)
                      · have f1993 := tB r1988
                        first | have f1994 := (noteqE (rfl : r1988.toInt = r1988.toInt) (show (0 : Int32).toInt = 0 from by decide)).mp c1990 | skip
                        intro v1995 ev1995
                        intro σ1996 eσ1996
                        have kb1997 := jobK_b hk1
                        have hσ1996 : K1 σ0 σ1996 := by rw [eσ1996]; exact hσ1922.u (rg_jobK hk1) (by omega) (by omega)
                        exact hQ _ hσ1996 (⟨(kq (a := 9) (b := 9) eσ1996 (by omega)).trans ((kq (a := 9) (b := 9) eσ1922 (by omega)).trans (k1513.trans (k1011.trans (k6.trans ((kq (a := 9) (b := 9) eσ2 (fun q => absurd q.1 (by decide)))))))), (kq (a := 9) (b := 10) eσ1996 (by omega)).trans ((kq (a := 9) (b := 10) eσ1922 (by omega)).trans (k1514.trans (k1012.trans (k7.trans ((kq (a := 9) (b := 10) eσ2 (fun q => absurd q.1 (by decide)))))))), (kq (a := 6) (b := 5) eσ1996 (by omega)).trans ((kq (a := 6) (b := 5) eσ1922 (by omega)).trans (k1515.trans (k1013.trans (k8.trans ((kq (a := 6) (b := 5) eσ2 (fun q => absurd q.1 (by decide)))))))), (kq (a := 7) (b := 4) eσ1996 (by omega)).trans ((kq (a := 7) (b := 4) eσ1922 (by omega)).trans (k1516.trans (k1014.trans (k9.trans ((kq (a := 7) (b := 4) eσ2 (fun q => absurd q.1 (by decide)))))))), (kq (a := 2) (b := 4) eσ1996 (by omega)).trans ((kq (a := 2) (b := 4) eσ1922 (by omega)).trans (k1517.trans (k1015.trans (k10.trans ((kq (a := 2) (b := 4) eσ2 (fun q => absurd q.1 (by decide))))))))⟩)
                    · first | have f1999 := (noteqE (rfl : (jT r15.toNatClampNeg).toInt = (jT r15.toNatClampNeg).toInt) (show (2 : Int32).toInt = 2 from by decide)).mp c1969 | skip
                      have f2001 := tB r1020
                      have f2002 := tB r1522
                      have f2004 := K1.g_3_7 hσ1922
                      have q2005 : σ1922.1 3 7 = σ1510.1 3 7 := by rw [eσ1922]; exact congrFun (u1_ne (by omega)) 7
                      have f2006 := congrArg Int32.toInt q2005
                      have f2007 := K1.g_3_7 hσ1510
                      have f2008 := congrArg Int32.toInt k1511
                      have f2009 := K1.g_3_7 hσ1008
                      have f2010 := congrArg Int32.toInt k1009
                      have f2011 := K1.g_3_7 hσ3
                      have f2012 := congrArg Int32.toInt k4
                      have f2013 := K1.g_3_7 hσ2
                      have q2014 : σ2.1 3 7 = σ.1 3 7 := by rw [eσ2, u1_at]; exact if_neg (by decide)
                      have f2015 := congrArg Int32.toInt q2014
                      have f2016 := K1.g_3_7 hσ
                      refine sX2_act hN hk1 ⟨by omega, by omega⟩ hσ1922 (fun σ2003 hσ2003 kk2022 => ?_)
                      obtain ⟨k2017, k2018, k2019, k2020, k2021⟩ := kk2022
                      exact hQ _ hσ2003 (⟨k2017.trans ((kq (a := 9) (b := 9) eσ1922 (by omega)).trans (k1513.trans (k1011.trans (k6.trans ((kq (a := 9) (b := 9) eσ2 (fun q => absurd q.1 (by decide)))))))), k2018.trans ((kq (a := 9) (b := 10) eσ1922 (by omega)).trans (k1514.trans (k1012.trans (k7.trans ((kq (a := 9) (b := 10) eσ2 (fun q => absurd q.1 (by decide)))))))), k2019.trans ((kq (a := 6) (b := 5) eσ1922 (by omega)).trans (k1515.trans (k1013.trans (k8.trans ((kq (a := 6) (b := 5) eσ2 (fun q => absurd q.1 (by decide)))))))), k2020.trans ((kq (a := 7) (b := 4) eσ1922 (by omega)).trans (k1516.trans (k1014.trans (k9.trans ((kq (a := 7) (b := 4) eσ2 (fun q => absurd q.1 (by decide)))))))), k2021.trans ((kq (a := 2) (b := 4) eσ1922 (by omega)).trans (k1517.trans (k1015.trans (k10.trans ((kq (a := 2) (b := 4) eσ2 (fun q => absurd q.1 (by decide))))))))⟩)
                · have f2023 := tB (σ1510.1 3 11)
                  first | have f2024 := (noteqE (rfl : (σ1510.1 3 11).toInt = (σ1510.1 3 11).toInt) (show (0 : Int32).toInt = 0 from by decide)).mp c1918 | skip
                  exact hQ _ hσ1510 (⟨k1513.trans (k1011.trans (k6.trans ((kq (a := 9) (b := 9) eσ2 (fun q => absurd q.1 (by decide)))))), k1514.trans (k1012.trans (k7.trans ((kq (a := 9) (b := 10) eσ2 (fun q => absurd q.1 (by decide)))))), k1515.trans (k1013.trans (k8.trans ((kq (a := 6) (b := 5) eσ2 (fun q => absurd q.1 (by decide)))))), k1516.trans (k1014.trans (k9.trans ((kq (a := 7) (b := 4) eσ2 (fun q => absurd q.1 (by decide)))))), k1517.trans (k1015.trans (k10.trans ((kq (a := 2) (b := 4) eσ2 (fun q => absurd q.1 (by decide))))))⟩)
    · have f2025 := tB (σ3.1 3 11)
      first | have f2026 := (noteqE (rfl : (σ3.1 3 11).toInt = (σ3.1 3 11).toInt) (show (0 : Int32).toInt = 0 from by decide)).mp c20 | skip
      exact hQ _ hσ3 (⟨k6.trans ((kq (a := 9) (b := 9) eσ2 (fun q => absurd q.1 (by decide)))), k7.trans ((kq (a := 9) (b := 10) eσ2 (fun q => absurd q.1 (by decide)))), k8.trans ((kq (a := 6) (b := 5) eσ2 (fun q => absurd q.1 (by decide)))), k9.trans ((kq (a := 7) (b := 4) eσ2 (fun q => absurd q.1 (by decide)))), k10.trans ((kq (a := 2) (b := 4) eσ2 (fun q => absurd q.1 (by decide))))⟩)
  · have f2027 := tB r15
    first | have f2028 := (notleE (rfl : r15.toInt = r15.toInt) (show (17 : Int32).toInt = 17 from by decide)).mp c17 | skip
    unfold fX2_fail
    refine ⟨fun c2029 => ?_, fun c2029 => ?_⟩
    · have f2030 := tB (σ3.1 3 11)
      first | have f2031 := (eqE (rfl : (σ3.1 3 11).toInt = (σ3.1 3 11).toInt) (show (0 : Int32).toInt = 0 from by decide)).mp c2029 | skip
      intro σ2032 eσ2032
      have hσ2032 : K1 σ0 σ2032 := by rw [eσ2032]; exact hσ3.u (Rg1.u_3_11 _) (fun q => absurd q.1 (by decide)) (fun q => absurd q.1 (by decide))
      try dsimp only
      unfold fX2_doOrder_j25
      refine ⟨fun c2033 => ?_, fun c2033 => ?_⟩
      · have f2034 := tB (σ2032.1 3 11)
        have q2035 : σ2032.1 3 11 = 6 := by rw [eσ2032, u1_at]; exact if_pos rfl
        first | have f2036 : (σ2032.1 3 11).toInt = (6) := (congrArg Int32.toInt q2035).trans (show (6 : Int32).toInt = 6 from by decide) | skip
        first | have f2037 := (eqE (rfl : (σ2032.1 3 11).toInt = (σ2032.1 3 11).toInt) (show (0 : Int32).toInt = 0 from by decide)).mp c2033 | skip
        refine ⟨fun c2038 => ?_, fun c2038 => ?_⟩
        · first | have f2040 := (eqE (rfl : r15.toInt = r15.toInt) (show (6 : Int32).toInt = 6 from by decide)).mp c2038 | skip
          refine sX2_doCallOrder hN hk1 hσ2032 (fun σ2041 hσ2041 kk2050 => ?_)
          obtain ⟨k2042, k2043, k2044, k2045, k2046, k2047, k2048, k2049⟩ := kk2050
          exact hQ _ hσ2041 (⟨k2042.trans ((kq (a := 9) (b := 9) eσ2032 (fun q => absurd q.1 (by decide))).trans (k6.trans ((kq (a := 9) (b := 9) eσ2 (fun q => absurd q.1 (by decide)))))), k2043.trans ((kq (a := 9) (b := 10) eσ2032 (fun q => absurd q.1 (by decide))).trans (k7.trans ((kq (a := 9) (b := 10) eσ2 (fun q => absurd q.1 (by decide)))))), k2044.trans ((kq (a := 6) (b := 5) eσ2032 (fun q => absurd q.1 (by decide))).trans (k8.trans ((kq (a := 6) (b := 5) eσ2 (fun q => absurd q.1 (by decide)))))), k2045.trans ((kq (a := 7) (b := 4) eσ2032 (fun q => absurd q.1 (by decide))).trans (k9.trans ((kq (a := 7) (b := 4) eσ2 (fun q => absurd q.1 (by decide)))))), k2046.trans ((kq (a := 2) (b := 4) eσ2032 (fun q => absurd q.1 (by decide))).trans (k10.trans ((kq (a := 2) (b := 4) eσ2 (fun q => absurd q.1 (by decide))))))⟩)
        · first | have f2052 := (noteqE (rfl : r15.toInt = r15.toInt) (show (6 : Int32).toInt = 6 from by decide)).mp c2038 | skip
          have g2054 : vp_in r15 18 := inE (rfl : r15.toInt = r15.toInt) (by omega) (by omega)
          refine ⟨g2054, ?_⟩
          refine ⟨fun c2055 => ?_, fun c2055 => ?_⟩
          · have f2056 := tB (jV r15.toNatClampNeg)
            first | have f2057 := (leE (rfl : (jV r15.toNatClampNeg).toInt = (jV r15.toNatClampNeg).toInt) (show (0 : Int32).toInt = 0 from by decide)).mp c2055 | skip
            unfold fX2_doOrder_j62
            have g2059 : vp_in r15 18 := inE (rfl : r15.toInt = r15.toInt) (by omega) (by omega)
            refine ⟨g2059, ?_⟩
            refine ⟨fun c2060 => ?_, fun c2060 => ?_⟩
            · first | have f2062 := (leE (rfl : (jV r15.toNatClampNeg).toInt = (jV r15.toNatClampNeg).toInt) (show (1 : Int32).toInt = 1 from by decide)).mp c2060 | skip
              unfold fX2_doOrder_j81
              have g2064 : vp_in r15 18 := inE (rfl : r15.toInt = r15.toInt) (by omega) (by omega)
              refine ⟨g2064, ?_⟩
              refine ⟨fun c2065 => ?_, fun c2065 => ?_⟩
              · have f2066 := tB (jT r15.toNatClampNeg)
                first | have f2067 := (eqE (rfl : (jT r15.toNatClampNeg).toInt = (jT r15.toNatClampNeg).toInt) (show (1 : Int32).toInt = 1 from by decide)).mp c2065 | skip
                refine sX2_nextTarget hN hk1 hσ2032 (fun r2080 σ2068 hσ2068 kk2079 p2081 => ?_)
                obtain ⟨k2069, k2070, k2071, k2072, k2073, k2074, k2075, k2076, k2077, k2078⟩ := kk2079
                unfold fX2_doOrder_j103
                have g2083 : vp_in r15 18 := inE (rfl : r15.toInt = r15.toInt) (by omega) (by omega)
                refine ⟨g2083, ?_⟩
                refine ⟨fun c2084 => ?_, fun c2084 => ?_⟩
                · first | have f2086 := (eqE (rfl : (jT r15.toNatClampNeg).toInt = (jT r15.toNatClampNeg).toInt) (show (2 : Int32).toInt = 2 from by decide)).mp c2084 | skip
                  refine sX2_nextDistance hN hσ2068 (fun r2099 σ2087 hσ2087 kk2098 p2100 => ?_)
                  obtain ⟨k2088, k2089, k2090, k2091, k2092, k2093, k2094, k2095, k2096, k2097⟩ := kk2098
                  unfold fX2_doOrder_j122
                  refine ⟨fun c2101 => ?_, fun c2101 => ?_⟩
                  · have f2102 := tB (σ2087.1 3 11)
                    first | have f2103 := (eqE (rfl : (σ2087.1 3 11).toInt = (σ2087.1 3 11).toInt) (show (0 : Int32).toInt = 0 from by decide)).mp c2101 | skip
                    intro v2104 ev2104
                    intro σ2105 eσ2105
                    have kb2106 := jobK_b hk1
                    have hσ2105 : K1 σ0 σ2105 := by rw [eσ2105]; exact hσ2087.u (rg_jobK hk1) (by omega) (by omega)
                    have g2108 : vp_in r15 18 := inE (rfl : r15.toInt = r15.toInt) (by omega) (by omega)
                    refine ⟨g2108, ?_⟩
                    refine ⟨fun c2109 => ?_, fun c2109 => ?_⟩
                    · first | have f2111 := (eqE (rfl : (jT r15.toNatClampNeg).toInt = (jT r15.toNatClampNeg).toInt) (show (1 : Int32).toInt = 1 from by decide)).mp c2109 | skip
                      refine sX2_valueFor hN hσ2105 (fun r2125 σ2113 hσ2113 kk2124 p2126 => ?_)
                      obtain ⟨k2114, k2115, k2116, k2117, k2118, k2119, k2120, k2121, k2122, k2123⟩ := kk2124
                      refine ⟨fun c2127 => ?_, fun c2127 => ?_⟩
                      · have f2128 := tB (σ2113.1 3 11)
                        first | have f2129 := (eqE (rfl : (σ2113.1 3 11).toInt = (σ2113.1 3 11).toInt) (show (0 : Int32).toInt = 0 from by decide)).mp c2127 | skip
                        have f2130 := tB r2080
                        have f2131 := tB r2125
                        refine sX1_setLocal hN hk1 hσ2113 (fun σ2132 hσ2132 kk2144 => ?_)
                        obtain ⟨k2133, k2134, k2135, k2136, k2137, k2138, k2139, k2140, k2141, k2142, k2143⟩ := kk2144
                        unfold fX2_doOrder_j174
                        exact hQ _ hσ2132 (⟨k2136.trans (k2116.trans ((kq (a := 9) (b := 9) eσ2105 (by omega)).trans (k2090.trans (k2071.trans ((kq (a := 9) (b := 9) eσ2032 (fun q => absurd q.1 (by decide))).trans (k6.trans ((kq (a := 9) (b := 9) eσ2 (fun q => absurd q.1 (by decide)))))))))), k2137.trans (k2117.trans ((kq (a := 9) (b := 10) eσ2105 (by omega)).trans (k2091.trans (k2072.trans ((kq (a := 9) (b := 10) eσ2032 (fun q => absurd q.1 (by decide))).trans (k7.trans ((kq (a := 9) (b := 10) eσ2 (fun q => absurd q.1 (by decide)))))))))), k2138.trans (k2118.trans ((kq (a := 6) (b := 5) eσ2105 (by omega)).trans (k2092.trans (k2073.trans ((kq (a := 6) (b := 5) eσ2032 (fun q => absurd q.1 (by decide))).trans (k8.trans ((kq (a := 6) (b := 5) eσ2 (fun q => absurd q.1 (by decide)))))))))), k2139.trans (k2119.trans ((kq (a := 7) (b := 4) eσ2105 (by omega)).trans (k2093.trans (k2074.trans ((kq (a := 7) (b := 4) eσ2032 (fun q => absurd q.1 (by decide))).trans (k9.trans ((kq (a := 7) (b := 4) eσ2 (fun q => absurd q.1 (by decide)))))))))), k2140.trans (k2120.trans ((kq (a := 2) (b := 4) eσ2105 (by omega)).trans (k2094.trans (k2075.trans ((kq (a := 2) (b := 4) eσ2032 (fun q => absurd q.1 (by decide))).trans (k10.trans ((kq (a := 2) (b := 4) eσ2 (fun q => absurd q.1 (by decide))))))))))⟩)
                      · have f2145 := tB (σ2113.1 3 11)
                        first | have f2146 := (noteqE (rfl : (σ2113.1 3 11).toInt = (σ2113.1 3 11).toInt) (show (0 : Int32).toInt = 0 from by decide)).mp c2127 | skip
                        unfold fX2_doOrder_j174
                        exact hQ _ hσ2113 (⟨k2116.trans ((kq (a := 9) (b := 9) eσ2105 (by omega)).trans (k2090.trans (k2071.trans ((kq (a := 9) (b := 9) eσ2032 (fun q => absurd q.1 (by decide))).trans (k6.trans ((kq (a := 9) (b := 9) eσ2 (fun q => absurd q.1 (by decide))))))))), k2117.trans ((kq (a := 9) (b := 10) eσ2105 (by omega)).trans (k2091.trans (k2072.trans ((kq (a := 9) (b := 10) eσ2032 (fun q => absurd q.1 (by decide))).trans (k7.trans ((kq (a := 9) (b := 10) eσ2 (fun q => absurd q.1 (by decide))))))))), k2118.trans ((kq (a := 6) (b := 5) eσ2105 (by omega)).trans (k2092.trans (k2073.trans ((kq (a := 6) (b := 5) eσ2032 (fun q => absurd q.1 (by decide))).trans (k8.trans ((kq (a := 6) (b := 5) eσ2 (fun q => absurd q.1 (by decide))))))))), k2119.trans ((kq (a := 7) (b := 4) eσ2105 (by omega)).trans (k2093.trans (k2074.trans ((kq (a := 7) (b := 4) eσ2032 (fun q => absurd q.1 (by decide))).trans (k9.trans ((kq (a := 7) (b := 4) eσ2 (fun q => absurd q.1 (by decide))))))))), k2120.trans ((kq (a := 2) (b := 4) eσ2105 (by omega)).trans (k2094.trans (k2075.trans ((kq (a := 2) (b := 4) eσ2032 (fun q => absurd q.1 (by decide))).trans (k10.trans ((kq (a := 2) (b := 4) eσ2 (fun q => absurd q.1 (by decide)))))))))⟩)
                    · first | have f2148 := (noteqE (rfl : (jT r15.toNatClampNeg).toInt = (jT r15.toNatClampNeg).toInt) (show (1 : Int32).toInt = 1 from by decide)).mp c2109 | skip
                      have g2150 : vp_in r15 18 := inE (rfl : r15.toInt = r15.toInt) (by omega) (by omega)
                      refine ⟨g2150, ?_⟩
                      refine ⟨fun c2151 => ?_, fun c2151 => ?_⟩
                      · first | have f2153 := (eqE (rfl : (jT r15.toNatClampNeg).toInt = (jT r15.toNatClampNeg).toInt) (show (2 : Int32).toInt = 2 from by decide)).mp c2151 | skip
                        refine sX2_goesThere hN hσ2105 (fun r2168 p2169 => ?_)
                        refine ⟨fun c2170 => ?_, fun c2170 => ?_⟩
                        · have f2171 := tB r2168
                          first | have f2172 := (eqE (rfl : r2168.toInt = r2168.toInt) (show (0 : Int32).toInt = 0 from by decide)).mp c2170 | skip
                          exact hQ _ hσ2105 (⟨(kq (a := 9) (b := 9) eσ2105 (by omega)).trans (k2090.trans (k2071.trans ((kq (a := 9) (b := 9) eσ2032 (fun q => absurd q.1 (by decide))).trans (k6.trans ((kq (a := 9) (b := 9) eσ2 (fun q => absurd q.1 (by decide)))))))), (kq (a := 9) (b := 10) eσ2105 (by omega)).trans (k2091.trans (k2072.trans ((kq (a := 9) (b := 10) eσ2032 (fun q => absurd q.1 (by decide))).trans (k7.trans ((kq (a := 9) (b := 10) eσ2 (fun q => absurd q.1 (by decide)))))))), (kq (a := 6) (b := 5) eσ2105 (by omega)).trans (k2092.trans (k2073.trans ((kq (a := 6) (b := 5) eσ2032 (fun q => absurd q.1 (by decide))).trans (k8.trans ((kq (a := 6) (b := 5) eσ2 (fun q => absurd q.1 (by decide)))))))), (kq (a := 7) (b := 4) eσ2105 (by omega)).trans (k2093.trans (k2074.trans ((kq (a := 7) (b := 4) eσ2032 (fun q => absurd q.1 (by decide))).trans (k9.trans ((kq (a := 7) (b := 4) eσ2 (fun q => absurd q.1 (by decide)))))))), (kq (a := 2) (b := 4) eσ2105 (by omega)).trans (k2094.trans (k2075.trans ((kq (a := 2) (b := 4) eσ2032 (fun q => absurd q.1 (by decide))).trans (k10.trans ((kq (a := 2) (b := 4) eσ2 (fun q => absurd q.1 (by decide))))))))⟩)
                        · have f2173 := tB r2168
                          first | have f2174 := (noteqE (rfl : r2168.toInt = r2168.toInt) (show (0 : Int32).toInt = 0 from by decide)).mp c2170 | skip
                          intro v2175 ev2175
                          intro σ2176 eσ2176
                          have kb2177 := jobK_b hk1
                          have hσ2176 : K1 σ0 σ2176 := by rw [eσ2176]; exact hσ2105.u (rg_jobK hk1) (by omega) (by omega)
                          exact hQ _ hσ2176 (⟨(kq (a := 9) (b := 9) eσ2176 (by omega)).trans ((kq (a := 9) (b := 9) eσ2105 (by omega)).trans (k2090.trans (k2071.trans ((kq (a := 9) (b := 9) eσ2032 (fun q => absurd q.1 (by decide))).trans (k6.trans ((kq (a := 9) (b := 9) eσ2 (fun q => absurd q.1 (by decide))))))))), (kq (a := 9) (b := 10) eσ2176 (by omega)).trans ((kq (a := 9) (b := 10) eσ2105 (by omega)).trans (k2091.trans (k2072.trans ((kq (a := 9) (b := 10) eσ2032 (fun q => absurd q.1 (by decide))).trans (k7.trans ((kq (a := 9) (b := 10) eσ2 (fun q => absurd q.1 (by decide))))))))), (kq (a := 6) (b := 5) eσ2176 (by omega)).trans ((kq (a := 6) (b := 5) eσ2105 (by omega)).trans (k2092.trans (k2073.trans ((kq (a := 6) (b := 5) eσ2032 (fun q => absurd q.1 (by decide))).trans (k8.trans ((kq (a := 6) (b := 5) eσ2 (fun q => absurd q.1 (by decide))))))))), (kq (a := 7) (b := 4) eσ2176 (by omega)).trans ((kq (a := 7) (b := 4) eσ2105 (by omega)).trans (k2093.trans (k2074.trans ((kq (a := 7) (b := 4) eσ2032 (fun q => absurd q.1 (by decide))).trans (k9.trans ((kq (a := 7) (b := 4) eσ2 (fun q => absurd q.1 (by decide))))))))), (kq (a := 2) (b := 4) eσ2176 (by omega)).trans ((kq (a := 2) (b := 4) eσ2105 (by omega)).trans (k2094.trans (k2075.trans ((kq (a := 2) (b := 4) eσ2032 (fun q => absurd q.1 (by decide))).trans (k10.trans ((kq (a := 2) (b := 4) eσ2 (fun q => absurd q.1 (by decide)))))))))⟩)
                      · first | have f2179 := (noteqE (rfl : (jT r15.toNatClampNeg).toInt = (jT r15.toNatClampNeg).toInt) (show (2 : Int32).toInt = 2 from by decide)).mp c2151 | skip
                        have f2182 := K1.g_3_7 hσ2105
                        have q2183 : σ2105.1 3 7 = σ2087.1 3 7 := by rw [eσ2105]; exact congrFun (u1_ne (by omega)) 7
                        have f2184 := congrArg Int32.toInt q2183
                        have f2185 := K1.g_3_7 hσ2087
                        have f2186 := congrArg Int32.toInt k2088
                        have f2187 := K1.g_3_7 hσ2068
                        have f2188 := congrArg Int32.toInt k2069
                        have f2189 := K1.g_3_7 hσ2032
                        have q2190 : σ2032.1 3 7 = σ3.1 3 7 := by rw [eσ2032, u1_at]; exact if_neg (by decide)
                        have f2191 := congrArg Int32.toInt q2190
                        have f2192 := K1.g_3_7 hσ3
                        have f2193 := congrArg Int32.toInt k4
                        have f2194 := K1.g_3_7 hσ2
                        have q2195 : σ2.1 3 7 = σ.1 3 7 := by rw [eσ2, u1_at]; exact if_neg (by decide)
                        have f2196 := congrArg Int32.toInt q2195
                        have f2197 := K1.g_3_7 hσ
                        refine sX2_act hN hk1 ⟨by omega, by omega⟩ hσ2105 (fun σ2181 hσ2181 kk2203 => ?_)
                        obtain ⟨k2198, k2199, k2200, k2201, k2202⟩ := kk2203
                        exact hQ _ hσ2181 (⟨k2198.trans ((kq (a := 9) (b := 9) eσ2105 (by omega)).trans (k2090.trans (k2071.trans ((kq (a := 9) (b := 9) eσ2032 (fun q => absurd q.1 (by decide))).trans (k6.trans ((kq (a := 9) (b := 9) eσ2 (fun q => absurd q.1 (by decide))))))))), k2199.trans ((kq (a := 9) (b := 10) eσ2105 (by omega)).trans (k2091.trans (k2072.trans ((kq (a := 9) (b := 10) eσ2032 (fun q => absurd q.1 (by decide))).trans (k7.trans ((kq (a := 9) (b := 10) eσ2 (fun q => absurd q.1 (by decide))))))))), k2200.trans ((kq (a := 6) (b := 5) eσ2105 (by omega)).trans (k2092.trans (k2073.trans ((kq (a := 6) (b := 5) eσ2032 (fun q => absurd q.1 (by decide))).trans (k8.trans ((kq (a := 6) (b := 5) eσ2 (fun q => absurd q.1 (by decide))))))))), k2201.trans ((kq (a := 7) (b := 4) eσ2105 (by omega)).trans (k2093.trans (k2074.trans ((kq (a := 7) (b := 4) eσ2032 (fun q => absurd q.1 (by decide))).trans (k9.trans ((kq (a := 7) (b := 4) eσ2 (fun q => absurd q.1 (by decide))))))))), k2202.trans ((kq (a := 2) (b := 4) eσ2105 (by omega)).trans (k2094.trans (k2075.trans ((kq (a := 2) (b := 4) eσ2032 (fun q => absurd q.1 (by decide))).trans (k10.trans ((kq (a := 2) (b := 4) eσ2 (fun q => absurd q.1 (by decide)))))))))⟩)
                  · have f2204 := tB (σ2087.1 3 11)
                    first | have f2205 := (noteqE (rfl : (σ2087.1 3 11).toInt = (σ2087.1 3 11).toInt) (show (0 : Int32).toInt = 0 from by decide)).mp c2101 | skip
                    exact hQ _ hσ2087 (⟨k2090.trans (k2071.trans ((kq (a := 9) (b := 9) eσ2032 (fun q => absurd q.1 (by decide))).trans (k6.trans ((kq (a := 9) (b := 9) eσ2 (fun q => absurd q.1 (by decide))))))), k2091.trans (k2072.trans ((kq (a := 9) (b := 10) eσ2032 (fun q => absurd q.1 (by decide))).trans (k7.trans ((kq (a := 9) (b := 10) eσ2 (fun q => absurd q.1 (by decide))))))), k2092.trans (k2073.trans ((kq (a := 6) (b := 5) eσ2032 (fun q => absurd q.1 (by decide))).trans (k8.trans ((kq (a := 6) (b := 5) eσ2 (fun q => absurd q.1 (by decide))))))), k2093.trans (k2074.trans ((kq (a := 7) (b := 4) eσ2032 (fun q => absurd q.1 (by decide))).trans (k9.trans ((kq (a := 7) (b := 4) eσ2 (fun q => absurd q.1 (by decide))))))), k2094.trans (k2075.trans ((kq (a := 2) (b := 4) eσ2032 (fun q => absurd q.1 (by decide))).trans (k10.trans ((kq (a := 2) (b := 4) eσ2 (fun q => absurd q.1 (by decide)))))))⟩)
                · first | have f2207 := (noteqE (rfl : (jT r15.toNatClampNeg).toInt = (jT r15.toNatClampNeg).toInt) (show (2 : Int32).toInt = 2 from by decide)).mp c2084 | skip
                  unfold fX2_doOrder_j122
                  refine ⟨fun c2208 => ?_, fun c2208 => ?_⟩
                  · have f2209 := tB (σ2068.1 3 11)
                    first | have f2210 := (eqE (rfl : (σ2068.1 3 11).toInt = (σ2068.1 3 11).toInt) (show (0 : Int32).toInt = 0 from by decide)).mp c2208 | skip
                    intro v2211 ev2211
                    intro σ2212 eσ2212
                    have kb2213 := jobK_b hk1
                    have hσ2212 : K1 σ0 σ2212 := by rw [eσ2212]; exact hσ2068.u (rg_jobK hk1) (by omega) (by omega)
                    have g2215 : vp_in r15 18 := inE (rfl : r15.toInt = r15.toInt) (by omega) (by omega)
                    refine ⟨g2215, ?_⟩
                    refine ⟨fun c2216 => ?_, fun c2216 => ?_⟩
                    · first | have f2218 := (eqE (rfl : (jT r15.toNatClampNeg).toInt = (jT r15.toNatClampNeg).toInt) (show (1 : Int32).toInt = 1 from by decide)).mp c2216 | skip
                      refine sX2_valueFor hN hσ2212 (fun r2232 σ2220 hσ2220 kk2231 p2233 => ?_)
                      obtain ⟨k2221, k2222, k2223, k2224, k2225, k2226, k2227, k2228, k2229, k2230⟩ := kk2231
                      refine ⟨fun c2234 => ?_, fun c2234 => ?_⟩
                      · have f2235 := tB (σ2220.1 3 11)
                        first | have f2236 := (eqE (rfl : (σ2220.1 3 11).toInt = (σ2220.1 3 11).toInt) (show (0 : Int32).toInt = 0 from by decide)).mp c2234 | skip
                        have f2237 := tB r2080
                        have f2238 := tB r2232
                        refine sX1_setLocal hN hk1 hσ2220 (fun σ2239 hσ2239 kk2251 => ?_)
                        obtain ⟨k2240, k2241, k2242, k2243, k2244, k2245, k2246, k2247, k2248, k2249, k2250⟩ := kk2251
                        unfold fX2_doOrder_j174
                        exact hQ _ hσ2239 (⟨k2243.trans (k2223.trans ((kq (a := 9) (b := 9) eσ2212 (by omega)).trans (k2071.trans ((kq (a := 9) (b := 9) eσ2032 (fun q => absurd q.1 (by decide))).trans (k6.trans ((kq (a := 9) (b := 9) eσ2 (fun q => absurd q.1 (by decide))))))))), k2244.trans (k2224.trans ((kq (a := 9) (b := 10) eσ2212 (by omega)).trans (k2072.trans ((kq (a := 9) (b := 10) eσ2032 (fun q => absurd q.1 (by decide))).trans (k7.trans ((kq (a := 9) (b := 10) eσ2 (fun q => absurd q.1 (by decide))))))))), k2245.trans (k2225.trans ((kq (a := 6) (b := 5) eσ2212 (by omega)).trans (k2073.trans ((kq (a := 6) (b := 5) eσ2032 (fun q => absurd q.1 (by decide))).trans (k8.trans ((kq (a := 6) (b := 5) eσ2 (fun q => absurd q.1 (by decide))))))))), k2246.trans (k2226.trans ((kq (a := 7) (b := 4) eσ2212 (by omega)).trans (k2074.trans ((kq (a := 7) (b := 4) eσ2032 (fun q => absurd q.1 (by decide))).trans (k9.trans ((kq (a := 7) (b := 4) eσ2 (fun q => absurd q.1 (by decide))))))))), k2247.trans (k2227.trans ((kq (a := 2) (b := 4) eσ2212 (by omega)).trans (k2075.trans ((kq (a := 2) (b := 4) eσ2032 (fun q => absurd q.1 (by decide))).trans (k10.trans ((kq (a := 2) (b := 4) eσ2 (fun q => absurd q.1 (by decide)))))))))⟩)
                      · have f2252 := tB (σ2220.1 3 11)
                        first | have f2253 := (noteqE (rfl : (σ2220.1 3 11).toInt = (σ2220.1 3 11).toInt) (show (0 : Int32).toInt = 0 from by decide)).mp c2234 | skip
                        unfold fX2_doOrder_j174
                        exact hQ _ hσ2220 (⟨k2223.trans ((kq (a := 9) (b := 9) eσ2212 (by omega)).trans (k2071.trans ((kq (a := 9) (b := 9) eσ2032 (fun q => absurd q.1 (by decide))).trans (k6.trans ((kq (a := 9) (b := 9) eσ2 (fun q => absurd q.1 (by decide)))))))), k2224.trans ((kq (a := 9) (b := 10) eσ2212 (by omega)).trans (k2072.trans ((kq (a := 9) (b := 10) eσ2032 (fun q => absurd q.1 (by decide))).trans (k7.trans ((kq (a := 9) (b := 10) eσ2 (fun q => absurd q.1 (by decide)))))))), k2225.trans ((kq (a := 6) (b := 5) eσ2212 (by omega)).trans (k2073.trans ((kq (a := 6) (b := 5) eσ2032 (fun q => absurd q.1 (by decide))).trans (k8.trans ((kq (a := 6) (b := 5) eσ2 (fun q => absurd q.1 (by decide)))))))), k2226.trans ((kq (a := 7) (b := 4) eσ2212 (by omega)).trans (k2074.trans ((kq (a := 7) (b := 4) eσ2032 (fun q => absurd q.1 (by decide))).trans (k9.trans ((kq (a := 7) (b := 4) eσ2 (fun q => absurd q.1 (by decide)))))))), k2227.trans ((kq (a := 2) (b := 4) eσ2212 (by omega)).trans (k2075.trans ((kq (a := 2) (b := 4) eσ2032 (fun q => absurd q.1 (by decide))).trans (k10.trans ((kq (a := 2) (b := 4) eσ2 (fun q => absurd q.1 (by decide))))))))⟩)
                    · first | have f2255 := (noteqE (rfl : (jT r15.toNatClampNeg).toInt = (jT r15.toNatClampNeg).toInt) (show (1 : Int32).toInt = 1 from by decide)).mp c2216 | skip
                      have g2257 : vp_in r15 18 := inE (rfl : r15.toInt = r15.toInt) (by omega) (by omega)
                      refine ⟨g2257, ?_⟩
                      refine ⟨fun c2258 => ?_, fun c2258 => ?_⟩
                      · first | have f2260 := (eqE (rfl : (jT r15.toNatClampNeg).toInt = (jT r15.toNatClampNeg).toInt) (show (2 : Int32).toInt = 2 from by decide)).mp c2258 | skip
                        refine sX2_goesThere hN hσ2212 (fun r2275 p2276 => ?_)
                        refine ⟨fun c2277 => ?_, fun c2277 => ?_⟩
                        · have f2278 := tB r2275
                          first | have f2279 := (eqE (rfl : r2275.toInt = r2275.toInt) (show (0 : Int32).toInt = 0 from by decide)).mp c2277 | skip
                          exact hQ _ hσ2212 (⟨(kq (a := 9) (b := 9) eσ2212 (by omega)).trans (k2071.trans ((kq (a := 9) (b := 9) eσ2032 (fun q => absurd q.1 (by decide))).trans (k6.trans ((kq (a := 9) (b := 9) eσ2 (fun q => absurd q.1 (by decide))))))), (kq (a := 9) (b := 10) eσ2212 (by omega)).trans (k2072.trans ((kq (a := 9) (b := 10) eσ2032 (fun q => absurd q.1 (by decide))).trans (k7.trans ((kq (a := 9) (b := 10) eσ2 (fun q => absurd q.1 (by decide))))))), (kq (a := 6) (b := 5) eσ2212 (by omega)).trans (k2073.trans ((kq (a := 6) (b := 5) eσ2032 (fun q => absurd q.1 (by decide))).trans (k8.trans ((kq (a := 6) (b := 5) eσ2 (fun q => absurd q.1 (by decide))))))), (kq (a := 7) (b := 4) eσ2212 (by omega)).trans (k2074.trans ((kq (a := 7) (b := 4) eσ2032 (fun q => absurd q.1 (by decide))).trans (k9.trans ((kq (a := 7) (b := 4) eσ2 (fun q => absurd q.1 (by decide))))))), (kq (a := 2) (b := 4) eσ2212 (by omega)).trans (k2075.trans ((kq (a := 2) (b := 4) eσ2032 (fun q => absurd q.1 (by decide))).trans (k10.trans ((kq (a := 2) (b := 4) eσ2 (fun q => absurd q.1 (by decide)))))))⟩)
                        · have f2280 := tB r2275
                          first | have f2281 := (noteqE (rfl : r2275.toInt = r2275.toInt) (show (0 : Int32).toInt = 0 from by decide)).mp c2277 | skip
                          intro v2282 ev2282
                          intro σ2283 eσ2283
                          have kb2284 := jobK_b hk1
                          have hσ2283 : K1 σ0 σ2283 := by rw [eσ2283]; exact hσ2212.u (rg_jobK hk1) (by omega) (by omega)
                          exact hQ _ hσ2283 (⟨(kq (a := 9) (b := 9) eσ2283 (by omega)).trans ((kq (a := 9) (b := 9) eσ2212 (by omega)).trans (k2071.trans ((kq (a := 9) (b := 9) eσ2032 (fun q => absurd q.1 (by decide))).trans (k6.trans ((kq (a := 9) (b := 9) eσ2 (fun q => absurd q.1 (by decide)))))))), (kq (a := 9) (b := 10) eσ2283 (by omega)).trans ((kq (a := 9) (b := 10) eσ2212 (by omega)).trans (k2072.trans ((kq (a := 9) (b := 10) eσ2032 (fun q => absurd q.1 (by decide))).trans (k7.trans ((kq (a := 9) (b := 10) eσ2 (fun q => absurd q.1 (by decide)))))))), (kq (a := 6) (b := 5) eσ2283 (by omega)).trans ((kq (a := 6) (b := 5) eσ2212 (by omega)).trans (k2073.trans ((kq (a := 6) (b := 5) eσ2032 (fun q => absurd q.1 (by decide))).trans (k8.trans ((kq (a := 6) (b := 5) eσ2 (fun q => absurd q.1 (by decide)))))))), (kq (a := 7) (b := 4) eσ2283 (by omega)).trans ((kq (a := 7) (b := 4) eσ2212 (by omega)).trans (k2074.trans ((kq (a := 7) (b := 4) eσ2032 (fun q => absurd q.1 (by decide))).trans (k9.trans ((kq (a := 7) (b := 4) eσ2 (fun q => absurd q.1 (by decide)))))))), (kq (a := 2) (b := 4) eσ2283 (by omega)).trans ((kq (a := 2) (b := 4) eσ2212 (by omega)).trans (k2075.trans ((kq (a := 2) (b := 4) eσ2032 (fun q => absurd q.1 (by decide))).trans (k10.trans ((kq (a := 2) (b := 4) eσ2 (fun q => absurd q.1 (by decide))))))))⟩)
                      · first | have f2286 := (noteqE (rfl : (jT r15.toNatClampNeg).toInt = (jT r15.toNatClampNeg).toInt) (show (2 : Int32).toInt = 2 from by decide)).mp c2258 | skip
                        have f2289 := K1.g_3_7 hσ2212
                        have q2290 : σ2212.1 3 7 = σ2068.1 3 7 := by rw [eσ2212]; exact congrFun (u1_ne (by omega)) 7
                        have f2291 := congrArg Int32.toInt q2290
                        have f2292 := K1.g_3_7 hσ2068
                        have f2293 := congrArg Int32.toInt k2069
                        have f2294 := K1.g_3_7 hσ2032
                        have q2295 : σ2032.1 3 7 = σ3.1 3 7 := by rw [eσ2032, u1_at]; exact if_neg (by decide)
                        have f2296 := congrArg Int32.toInt q2295
                        have f2297 := K1.g_3_7 hσ3
                        have f2298 := congrArg Int32.toInt k4
                        have f2299 := K1.g_3_7 hσ2
                        have q2300 : σ2.1 3 7 = σ.1 3 7 := by rw [eσ2, u1_at]; exact if_neg (by decide)
                        have f2301 := congrArg Int32.toInt q2300
                        have f2302 := K1.g_3_7 hσ
                        refine sX2_act hN hk1 ⟨by omega, by omega⟩ hσ2212 (fun σ2288 hσ2288 kk2308 => ?_)
                        obtain ⟨k2303, k2304, k2305, k2306, k2307⟩ := kk2308
                        exact hQ _ hσ2288 (⟨k2303.trans ((kq (a := 9) (b := 9) eσ2212 (by omega)).trans (k2071.trans ((kq (a := 9) (b := 9) eσ2032 (fun q => absurd q.1 (by decide))).trans (k6.trans ((kq (a := 9) (b := 9) eσ2 (fun q => absurd q.1 (by decide)))))))), k2304.trans ((kq (a := 9) (b := 10) eσ2212 (by omega)).trans (k2072.trans ((kq (a := 9) (b := 10) eσ2032 (fun q => absurd q.1 (by decide))).trans (k7.trans ((kq (a := 9) (b := 10) eσ2 (fun q => absurd q.1 (by decide)))))))), k2305.trans ((kq (a := 6) (b := 5) eσ2212 (by omega)).trans (k2073.trans ((kq (a := 6) (b := 5) eσ2032 (fun q => absurd q.1 (by decide))).trans (k8.trans ((kq (a := 6) (b := 5) eσ2 (fun q => absurd q.1 (by decide)))))))), k2306.trans ((kq (a := 7) (b := 4) eσ2212 (by omega)).trans (k2074.trans ((kq (a := 7) (b := 4) eσ2032 (fun q => absurd q.1 (by decide))).trans (k9.trans ((kq (a := 7) (b := 4) eσ2 (fun q => absurd q.1 (by decide)))))))), k2307.trans ((kq (a := 2) (b := 4) eσ2212 (by omega)).trans (k2075.trans ((kq (a := 2) (b := 4) eσ2032 (fun q => absurd q.1 (by decide))).trans (k10.trans ((kq (a := 2) (b := 4) eσ2 (fun q => absurd q.1 (by decide))))))))⟩)
                  · have f2309 := tB (σ2068.1 3 11)
                    first | have f2310 := (noteqE (rfl : (σ2068.1 3 11).toInt = (σ2068.1 3 11).toInt) (show (0 : Int32).toInt = 0 from by decide)).mp c2208 | skip
                    exact hQ _ hσ2068 (⟨k2071.trans ((kq (a := 9) (b := 9) eσ2032 (fun q => absurd q.1 (by decide))).trans (k6.trans ((kq (a := 9) (b := 9) eσ2 (fun q => absurd q.1 (by decide)))))), k2072.trans ((kq (a := 9) (b := 10) eσ2032 (fun q => absurd q.1 (by decide))).trans (k7.trans ((kq (a := 9) (b := 10) eσ2 (fun q => absurd q.1 (by decide)))))), k2073.trans ((kq (a := 6) (b := 5) eσ2032 (fun q => absurd q.1 (by decide))).trans (k8.trans ((kq (a := 6) (b := 5) eσ2 (fun q => absurd q.1 (by decide)))))), k2074.trans ((kq (a := 7) (b := 4) eσ2032 (fun q => absurd q.1 (by decide))).trans (k9.trans ((kq (a := 7) (b := 4) eσ2 (fun q => absurd q.1 (by decide)))))), k2075.trans ((kq (a := 2) (b := 4) eσ2032 (fun q => absurd q.1 (by decide))).trans (k10.trans ((kq (a := 2) (b := 4) eσ2 (fun q => absurd q.1 (by decide))))))⟩)
              · have f2311 := tB (jT r15.toNatClampNeg)
                first | have f2312 := (noteqE (rfl : (jT r15.toNatClampNeg).toInt = (jT r15.toNatClampNeg).toInt) (show (1 : Int32).toInt = 1 from by decide)).mp c2065 | skip
                unfold fX2_doOrder_j103
                have g2314 : vp_in r15 18 := inE (rfl : r15.toInt = r15.toInt) (by omega) (by omega)
                refine ⟨g2314, ?_⟩
                refine ⟨fun c2315 => ?_, fun c2315 => ?_⟩
                · first | have f2317 := (eqE (rfl : (jT r15.toNatClampNeg).toInt = (jT r15.toNatClampNeg).toInt) (show (2 : Int32).toInt = 2 from by decide)).mp c2315 | skip
                  refine sX2_nextDistance hN hσ2032 (fun r2330 σ2318 hσ2318 kk2329 p2331 => ?_)
                  obtain ⟨k2319, k2320, k2321, k2322, k2323, k2324, k2325, k2326, k2327, k2328⟩ := kk2329
                  unfold fX2_doOrder_j122
                  refine ⟨fun c2332 => ?_, fun c2332 => ?_⟩
                  · have f2333 := tB (σ2318.1 3 11)
                    first | have f2334 := (eqE (rfl : (σ2318.1 3 11).toInt = (σ2318.1 3 11).toInt) (show (0 : Int32).toInt = 0 from by decide)).mp c2332 | skip
                    intro v2335 ev2335
                    intro σ2336 eσ2336
                    have kb2337 := jobK_b hk1
                    have hσ2336 : K1 σ0 σ2336 := by rw [eσ2336]; exact hσ2318.u (rg_jobK hk1) (by omega) (by omega)
                    have g2339 : vp_in r15 18 := inE (rfl : r15.toInt = r15.toInt) (by omega) (by omega)
                    refine ⟨g2339, ?_⟩
                    refine ⟨fun c2340 => ?_, fun c2340 => ?_⟩
                    · first | have f2342 := (eqE (rfl : (jT r15.toNatClampNeg).toInt = (jT r15.toNatClampNeg).toInt) (show (1 : Int32).toInt = 1 from by decide)).mp c2340 | skip
                      refine sX2_valueFor hN hσ2336 (fun r2356 σ2344 hσ2344 kk2355 p2357 => ?_)
                      obtain ⟨k2345, k2346, k2347, k2348, k2349, k2350, k2351, k2352, k2353, k2354⟩ := kk2355
                      refine ⟨fun c2358 => ?_, fun c2358 => ?_⟩
                      · have f2359 := tB (σ2344.1 3 11)
                        first | have f2360 := (eqE (rfl : (σ2344.1 3 11).toInt = (σ2344.1 3 11).toInt) (show (0 : Int32).toInt = 0 from by decide)).mp c2358 | skip
                        have f2361 := tB r2356
                        refine sX1_setLocal hN hk1 hσ2344 (fun σ2362 hσ2362 kk2374 => ?_)
                        obtain ⟨k2363, k2364, k2365, k2366, k2367, k2368, k2369, k2370, k2371, k2372, k2373⟩ := kk2374
                        unfold fX2_doOrder_j174
                        exact hQ _ hσ2362 (⟨k2366.trans (k2347.trans ((kq (a := 9) (b := 9) eσ2336 (by omega)).trans (k2321.trans ((kq (a := 9) (b := 9) eσ2032 (fun q => absurd q.1 (by decide))).trans (k6.trans ((kq (a := 9) (b := 9) eσ2 (fun q => absurd q.1 (by decide))))))))), k2367.trans (k2348.trans ((kq (a := 9) (b := 10) eσ2336 (by omega)).trans (k2322.trans ((kq (a := 9) (b := 10) eσ2032 (fun q => absurd q.1 (by decide))).trans (k7.trans ((kq (a := 9) (b := 10) eσ2 (fun q => absurd q.1 (by decide))))))))), k2368.trans (k2349.trans ((kq (a := 6) (b := 5) eσ2336 (by omega)).trans (k2323.trans ((kq (a := 6) (b := 5) eσ2032 (fun q => absurd q.1 (by decide))).trans (k8.trans ((kq (a := 6) (b := 5) eσ2 (fun q => absurd q.1 (by decide))))))))), k2369.trans (k2350.trans ((kq (a := 7) (b := 4) eσ2336 (by omega)).trans (k2324.trans ((kq (a := 7) (b := 4) eσ2032 (fun q => absurd q.1 (by decide))).trans (k9.trans ((kq (a := 7) (b := 4) eσ2 (fun q => absurd q.1 (by decide))))))))), k2370.trans (k2351.trans ((kq (a := 2) (b := 4) eσ2336 (by omega)).trans (k2325.trans ((kq (a := 2) (b := 4) eσ2032 (fun q => absurd q.1 (by decide))).trans (k10.trans ((kq (a := 2) (b := 4) eσ2 (fun q => absurd q.1 (by decide)))))))))⟩)
                      · have f2375 := tB (σ2344.1 3 11)
                        first | have f2376 := (noteqE (rfl : (σ2344.1 3 11).toInt = (σ2344.1 3 11).toInt) (show (0 : Int32).toInt = 0 from by decide)).mp c2358 | skip
                        unfold fX2_doOrder_j174
                        exact hQ _ hσ2344 (⟨k2347.trans ((kq (a := 9) (b := 9) eσ2336 (by omega)).trans (k2321.trans ((kq (a := 9) (b := 9) eσ2032 (fun q => absurd q.1 (by decide))).trans (k6.trans ((kq (a := 9) (b := 9) eσ2 (fun q => absurd q.1 (by decide)))))))), k2348.trans ((kq (a := 9) (b := 10) eσ2336 (by omega)).trans (k2322.trans ((kq (a := 9) (b := 10) eσ2032 (fun q => absurd q.1 (by decide))).trans (k7.trans ((kq (a := 9) (b := 10) eσ2 (fun q => absurd q.1 (by decide)))))))), k2349.trans ((kq (a := 6) (b := 5) eσ2336 (by omega)).trans (k2323.trans ((kq (a := 6) (b := 5) eσ2032 (fun q => absurd q.1 (by decide))).trans (k8.trans ((kq (a := 6) (b := 5) eσ2 (fun q => absurd q.1 (by decide)))))))), k2350.trans ((kq (a := 7) (b := 4) eσ2336 (by omega)).trans (k2324.trans ((kq (a := 7) (b := 4) eσ2032 (fun q => absurd q.1 (by decide))).trans (k9.trans ((kq (a := 7) (b := 4) eσ2 (fun q => absurd q.1 (by decide)))))))), k2351.trans ((kq (a := 2) (b := 4) eσ2336 (by omega)).trans (k2325.trans ((kq (a := 2) (b := 4) eσ2032 (fun q => absurd q.1 (by decide))).trans (k10.trans ((kq (a := 2) (b := 4) eσ2 (fun q => absurd q.1 (by decide))))))))⟩)
                    · first | have f2378 := (noteqE (rfl : (jT r15.toNatClampNeg).toInt = (jT r15.toNatClampNeg).toInt) (show (1 : Int32).toInt = 1 from by decide)).mp c2340 | skip
                      have g2380 : vp_in r15 18 := inE (rfl : r15.toInt = r15.toInt) (by omega) (by omega)
                      refine ⟨g2380, ?_⟩
                      refine ⟨fun c2381 => ?_, fun c2381 => ?_⟩
                      · first | have f2383 := (eqE (rfl : (jT r15.toNatClampNeg).toInt = (jT r15.toNatClampNeg).toInt) (show (2 : Int32).toInt = 2 from by decide)).mp c2381 | skip
                        refine sX2_goesThere hN hσ2336 (fun r2398 p2399 => ?_)
                        refine ⟨fun c2400 => ?_, fun c2400 => ?_⟩
                        · have f2401 := tB r2398
                          first | have f2402 := (eqE (rfl : r2398.toInt = r2398.toInt) (show (0 : Int32).toInt = 0 from by decide)).mp c2400 | skip
                          exact hQ _ hσ2336 (⟨(kq (a := 9) (b := 9) eσ2336 (by omega)).trans (k2321.trans ((kq (a := 9) (b := 9) eσ2032 (fun q => absurd q.1 (by decide))).trans (k6.trans ((kq (a := 9) (b := 9) eσ2 (fun q => absurd q.1 (by decide))))))), (kq (a := 9) (b := 10) eσ2336 (by omega)).trans (k2322.trans ((kq (a := 9) (b := 10) eσ2032 (fun q => absurd q.1 (by decide))).trans (k7.trans ((kq (a := 9) (b := 10) eσ2 (fun q => absurd q.1 (by decide))))))), (kq (a := 6) (b := 5) eσ2336 (by omega)).trans (k2323.trans ((kq (a := 6) (b := 5) eσ2032 (fun q => absurd q.1 (by decide))).trans (k8.trans ((kq (a := 6) (b := 5) eσ2 (fun q => absurd q.1 (by decide))))))), (kq (a := 7) (b := 4) eσ2336 (by omega)).trans (k2324.trans ((kq (a := 7) (b := 4) eσ2032 (fun q => absurd q.1 (by decide))).trans (k9.trans ((kq (a := 7) (b := 4) eσ2 (fun q => absurd q.1 (by decide))))))), (kq (a := 2) (b := 4) eσ2336 (by omega)).trans (k2325.trans ((kq (a := 2) (b := 4) eσ2032 (fun q => absurd q.1 (by decide))).trans (k10.trans ((kq (a := 2) (b := 4) eσ2 (fun q => absurd q.1 (by decide)))))))⟩)
                        · have f2403 := tB r2398
                          first | have f2404 := (noteqE (rfl : r2398.toInt = r2398.toInt) (show (0 : Int32).toInt = 0 from by decide)).mp c2400 | skip
                          intro v2405 ev2405
                          intro σ2406 eσ2406
                          have kb2407 := jobK_b hk1
                          have hσ2406 : K1 σ0 σ2406 := by rw [eσ2406]; exact hσ2336.u (rg_jobK hk1) (by omega) (by omega)
                          exact hQ _ hσ2406 (⟨(kq (a := 9) (b := 9) eσ2406 (by omega)).trans ((kq (a := 9) (b := 9) eσ2336 (by omega)).trans (k2321.trans ((kq (a := 9) (b := 9) eσ2032 (fun q => absurd q.1 (by decide))).trans (k6.trans ((kq (a := 9) (b := 9) eσ2 (fun q => absurd q.1 (by decide)))))))), (kq (a := 9) (b := 10) eσ2406 (by omega)).trans ((kq (a := 9) (b := 10) eσ2336 (by omega)).trans (k2322.trans ((kq (a := 9) (b := 10) eσ2032 (fun q => absurd q.1 (by decide))).trans (k7.trans ((kq (a := 9) (b := 10) eσ2 (fun q => absurd q.1 (by decide)))))))), (kq (a := 6) (b := 5) eσ2406 (by omega)).trans ((kq (a := 6) (b := 5) eσ2336 (by omega)).trans (k2323.trans ((kq (a := 6) (b := 5) eσ2032 (fun q => absurd q.1 (by decide))).trans (k8.trans ((kq (a := 6) (b := 5) eσ2 (fun q => absurd q.1 (by decide)))))))), (kq (a := 7) (b := 4) eσ2406 (by omega)).trans ((kq (a := 7) (b := 4) eσ2336 (by omega)).trans (k2324.trans ((kq (a := 7) (b := 4) eσ2032 (fun q => absurd q.1 (by decide))).trans (k9.trans ((kq (a := 7) (b := 4) eσ2 (fun q => absurd q.1 (by decide)))))))), (kq (a := 2) (b := 4) eσ2406 (by omega)).trans ((kq (a := 2) (b := 4) eσ2336 (by omega)).trans (k2325.trans ((kq (a := 2) (b := 4) eσ2032 (fun q => absurd q.1 (by decide))).trans (k10.trans ((kq (a := 2) (b := 4) eσ2 (fun q => absurd q.1 (by decide))))))))⟩)
                      · first | have f2409 := (noteqE (rfl : (jT r15.toNatClampNeg).toInt = (jT r15.toNatClampNeg).toInt) (show (2 : Int32).toInt = 2 from by decide)).mp c2381 | skip
                        have f2412 := K1.g_3_7 hσ2336
                        have q2413 : σ2336.1 3 7 = σ2318.1 3 7 := by rw [eσ2336]; exact congrFun (u1_ne (by omega)) 7
                        have f2414 := congrArg Int32.toInt q2413
                        have f2415 := K1.g_3_7 hσ2318
                        have f2416 := congrArg Int32.toInt k2319
                        have f2417 := K1.g_3_7 hσ2032
                        have q2418 : σ2032.1 3 7 = σ3.1 3 7 := by rw [eσ2032, u1_at]; exact if_neg (by decide)
                        have f2419 := congrArg Int32.toInt q2418
                        have f2420 := K1.g_3_7 hσ3
                        have f2421 := congrArg Int32.toInt k4
                        have f2422 := K1.g_3_7 hσ2
                        have q2423 : σ2.1 3 7 = σ.1 3 7 := by rw [eσ2, u1_at]; exact if_neg (by decide)
                        have f2424 := congrArg Int32.toInt q2423
                        have f2425 := K1.g_3_7 hσ
                        refine sX2_act hN hk1 ⟨by omega, by omega⟩ hσ2336 (fun σ2411 hσ2411 kk2431 => ?_)
                        obtain ⟨k2426, k2427, k2428, k2429, k2430⟩ := kk2431
                        exact hQ _ hσ2411 (⟨k2426.trans ((kq (a := 9) (b := 9) eσ2336 (by omega)).trans (k2321.trans ((kq (a := 9) (b := 9) eσ2032 (fun q => absurd q.1 (by decide))).trans (k6.trans ((kq (a := 9) (b := 9) eσ2 (fun q => absurd q.1 (by decide)))))))), k2427.trans ((kq (a := 9) (b := 10) eσ2336 (by omega)).trans (k2322.trans ((kq (a := 9) (b := 10) eσ2032 (fun q => absurd q.1 (by decide))).trans (k7.trans ((kq (a := 9) (b := 10) eσ2 (fun q => absurd q.1 (by decide)))))))), k2428.trans ((kq (a := 6) (b := 5) eσ2336 (by omega)).trans (k2323.trans ((kq (a := 6) (b := 5) eσ2032 (fun q => absurd q.1 (by decide))).trans (k8.trans ((kq (a := 6) (b := 5) eσ2 (fun q => absurd q.1 (by decide)))))))), k2429.trans ((kq (a := 7) (b := 4) eσ2336 (by omega)).trans (k2324.trans ((kq (a := 7) (b := 4) eσ2032 (fun q => absurd q.1 (by decide))).trans (k9.trans ((kq (a := 7) (b := 4) eσ2 (fun q => absurd q.1 (by decide)))))))), k2430.trans ((kq (a := 2) (b := 4) eσ2336 (by omega)).trans (k2325.trans ((kq (a := 2) (b := 4) eσ2032 (fun q => absurd q.1 (by decide))).trans (k10.trans ((kq (a := 2) (b := 4) eσ2 (fun q => absurd q.1 (by decide))))))))⟩)
                  · have f2432 := tB (σ2318.1 3 11)
                    first | have f2433 := (noteqE (rfl : (σ2318.1 3 11).toInt = (σ2318.1 3 11).toInt) (show (0 : Int32).toInt = 0 from by decide)).mp c2332 | skip
                    exact hQ _ hσ2318 (⟨k2321.trans ((kq (a := 9) (b := 9) eσ2032 (fun q => absurd q.1 (by decide))).trans (k6.trans ((kq (a := 9) (b := 9) eσ2 (fun q => absurd q.1 (by decide)))))), k2322.trans ((kq (a := 9) (b := 10) eσ2032 (fun q => absurd q.1 (by decide))).trans (k7.trans ((kq (a := 9) (b := 10) eσ2 (fun q => absurd q.1 (by decide)))))), k2323.trans ((kq (a := 6) (b := 5) eσ2032 (fun q => absurd q.1 (by decide))).trans (k8.trans ((kq (a := 6) (b := 5) eσ2 (fun q => absurd q.1 (by decide)))))), k2324.trans ((kq (a := 7) (b := 4) eσ2032 (fun q => absurd q.1 (by decide))).trans (k9.trans ((kq (a := 7) (b := 4) eσ2 (fun q => absurd q.1 (by decide)))))), k2325.trans ((kq (a := 2) (b := 4) eσ2032 (fun q => absurd q.1 (by decide))).trans (k10.trans ((kq (a := 2) (b := 4) eσ2 (fun q => absurd q.1 (by decide))))))⟩)
                · first | have f2435 := (noteqE (rfl : (jT r15.toNatClampNeg).toInt = (jT r15.toNatClampNeg).toInt) (show (2 : Int32).toInt = 2 from by decide)).mp c2315 | skip
                  unfold fX2_doOrder_j122
                  refine ⟨fun c2436 => ?_, fun c2436 => ?_⟩
                  · first | have f2438 := (eqE (rfl : (σ2032.1 3 11).toInt = (σ2032.1 3 11).toInt) (show (0 : Int32).toInt = 0 from by decide)).mp c2436 | skip
                    intro v2439 ev2439
                    intro σ2440 eσ2440
                    have kb2441 := jobK_b hk1
                    have hσ2440 : K1 σ0 σ2440 := by rw [eσ2440]; exact hσ2032.u (rg_jobK hk1) (by omega) (by omega)
                    have g2443 : vp_in r15 18 := inE (rfl : r15.toInt = r15.toInt) (by omega) (by omega)
                    refine ⟨g2443, ?_⟩
                    refine ⟨fun c2444 => ?_, fun c2444 => ?_⟩
                    · first | have f2446 := (eqE (rfl : (jT r15.toNatClampNeg).toInt = (jT r15.toNatClampNeg).toInt) (show (1 : Int32).toInt = 1 from by decide)).mp c2444 | skip
                      refine sX2_valueFor hN hσ2440 (fun r2460 σ2448 hσ2448 kk2459 p2461 => ?_)
                      obtain ⟨k2449, k2450, k2451, k2452, k2453, k2454, k2455, k2456, k2457, k2458⟩ := kk2459
                      refine ⟨fun c2462 => ?_, fun c2462 => ?_⟩
                      · have f2463 := tB (σ2448.1 3 11)
                        first | have f2464 := (eqE (rfl : (σ2448.1 3 11).toInt = (σ2448.1 3 11).toInt) (show (0 : Int32).toInt = 0 from by decide)).mp c2462 | skip
                        have f2465 := tB r2460
                        refine sX1_setLocal hN hk1 hσ2448 (fun σ2466 hσ2466 kk2478 => ?_)
                        obtain ⟨k2467, k2468, k2469, k2470, k2471, k2472, k2473, k2474, k2475, k2476, k2477⟩ := kk2478
                        unfold fX2_doOrder_j174
                        exact hQ _ hσ2466 (⟨k2470.trans (k2451.trans ((kq (a := 9) (b := 9) eσ2440 (by omega)).trans ((kq (a := 9) (b := 9) eσ2032 (fun q => absurd q.1 (by decide))).trans (k6.trans ((kq (a := 9) (b := 9) eσ2 (fun q => absurd q.1 (by decide)))))))), k2471.trans (k2452.trans ((kq (a := 9) (b := 10) eσ2440 (by omega)).trans ((kq (a := 9) (b := 10) eσ2032 (fun q => absurd q.1 (by decide))).trans (k7.trans ((kq (a := 9) (b := 10) eσ2 (fun q => absurd q.1 (by decide)))))))), k2472.trans (k2453.trans ((kq (a := 6) (b := 5) eσ2440 (by omega)).trans ((kq (a := 6) (b := 5) eσ2032 (fun q => absurd q.1 (by decide))).trans (k8.trans ((kq (a := 6) (b := 5) eσ2 (fun q => absurd q.1 (by decide)))))))), k2473.trans (k2454.trans ((kq (a := 7) (b := 4) eσ2440 (by omega)).trans ((kq (a := 7) (b := 4) eσ2032 (fun q => absurd q.1 (by decide))).trans (k9.trans ((kq (a := 7) (b := 4) eσ2 (fun q => absurd q.1 (by decide)))))))), k2474.trans (k2455.trans ((kq (a := 2) (b := 4) eσ2440 (by omega)).trans ((kq (a := 2) (b := 4) eσ2032 (fun q => absurd q.1 (by decide))).trans (k10.trans ((kq (a := 2) (b := 4) eσ2 (fun q => absurd q.1 (by decide))))))))⟩)
                      · have f2479 := tB (σ2448.1 3 11)
                        first | have f2480 := (noteqE (rfl : (σ2448.1 3 11).toInt = (σ2448.1 3 11).toInt) (show (0 : Int32).toInt = 0 from by decide)).mp c2462 | skip
                        unfold fX2_doOrder_j174
                        exact hQ _ hσ2448 (⟨k2451.trans ((kq (a := 9) (b := 9) eσ2440 (by omega)).trans ((kq (a := 9) (b := 9) eσ2032 (fun q => absurd q.1 (by decide))).trans (k6.trans ((kq (a := 9) (b := 9) eσ2 (fun q => absurd q.1 (by decide))))))), k2452.trans ((kq (a := 9) (b := 10) eσ2440 (by omega)).trans ((kq (a := 9) (b := 10) eσ2032 (fun q => absurd q.1 (by decide))).trans (k7.trans ((kq (a := 9) (b := 10) eσ2 (fun q => absurd q.1 (by decide))))))), k2453.trans ((kq (a := 6) (b := 5) eσ2440 (by omega)).trans ((kq (a := 6) (b := 5) eσ2032 (fun q => absurd q.1 (by decide))).trans (k8.trans ((kq (a := 6) (b := 5) eσ2 (fun q => absurd q.1 (by decide))))))), k2454.trans ((kq (a := 7) (b := 4) eσ2440 (by omega)).trans ((kq (a := 7) (b := 4) eσ2032 (fun q => absurd q.1 (by decide))).trans (k9.trans ((kq (a := 7) (b := 4) eσ2 (fun q => absurd q.1 (by decide))))))), k2455.trans ((kq (a := 2) (b := 4) eσ2440 (by omega)).trans ((kq (a := 2) (b := 4) eσ2032 (fun q => absurd q.1 (by decide))).trans (k10.trans ((kq (a := 2) (b := 4) eσ2 (fun q => absurd q.1 (by decide)))))))⟩)
                    · first | have f2482 := (noteqE (rfl : (jT r15.toNatClampNeg).toInt = (jT r15.toNatClampNeg).toInt) (show (1 : Int32).toInt = 1 from by decide)).mp c2444 | skip
                      have g2484 : vp_in r15 18 := inE (rfl : r15.toInt = r15.toInt) (by omega) (by omega)
                      refine ⟨g2484, ?_⟩
                      refine ⟨fun c2485 => ?_, fun c2485 => ?_⟩
                      · first | have f2487 := (eqE (rfl : (jT r15.toNatClampNeg).toInt = (jT r15.toNatClampNeg).toInt) (show (2 : Int32).toInt = 2 from by decide)).mp c2485 | skip
                        refine sX2_goesThere hN hσ2440 (fun r2502 p2503 => ?_)
                        refine ⟨fun c2504 => ?_, fun c2504 => ?_⟩
                        · have f2505 := tB r2502
                          first | have f2506 := (eqE (rfl : r2502.toInt = r2502.toInt) (show (0 : Int32).toInt = 0 from by decide)).mp c2504 | skip
                          exact hQ _ hσ2440 (⟨(kq (a := 9) (b := 9) eσ2440 (by omega)).trans ((kq (a := 9) (b := 9) eσ2032 (fun q => absurd q.1 (by decide))).trans (k6.trans ((kq (a := 9) (b := 9) eσ2 (fun q => absurd q.1 (by decide)))))), (kq (a := 9) (b := 10) eσ2440 (by omega)).trans ((kq (a := 9) (b := 10) eσ2032 (fun q => absurd q.1 (by decide))).trans (k7.trans ((kq (a := 9) (b := 10) eσ2 (fun q => absurd q.1 (by decide)))))), (kq (a := 6) (b := 5) eσ2440 (by omega)).trans ((kq (a := 6) (b := 5) eσ2032 (fun q => absurd q.1 (by decide))).trans (k8.trans ((kq (a := 6) (b := 5) eσ2 (fun q => absurd q.1 (by decide)))))), (kq (a := 7) (b := 4) eσ2440 (by omega)).trans ((kq (a := 7) (b := 4) eσ2032 (fun q => absurd q.1 (by decide))).trans (k9.trans ((kq (a := 7) (b := 4) eσ2 (fun q => absurd q.1 (by decide)))))), (kq (a := 2) (b := 4) eσ2440 (by omega)).trans ((kq (a := 2) (b := 4) eσ2032 (fun q => absurd q.1 (by decide))).trans (k10.trans ((kq (a := 2) (b := 4) eσ2 (fun q => absurd q.1 (by decide))))))⟩)
                        · have f2507 := tB r2502
                          first | have f2508 := (noteqE (rfl : r2502.toInt = r2502.toInt) (show (0 : Int32).toInt = 0 from by decide)).mp c2504 | skip
                          intro v2509 ev2509
                          intro σ2510 eσ2510
                          have kb2511 := jobK_b hk1
                          have hσ2510 : K1 σ0 σ2510 := by rw [eσ2510]; exact hσ2440.u (rg_jobK hk1) (by omega) (by omega)
                          exact hQ _ hσ2510 (⟨(kq (a := 9) (b := 9) eσ2510 (by omega)).trans ((kq (a := 9) (b := 9) eσ2440 (by omega)).trans ((kq (a := 9) (b := 9) eσ2032 (fun q => absurd q.1 (by decide))).trans (k6.trans ((kq (a := 9) (b := 9) eσ2 (fun q => absurd q.1 (by decide))))))), (kq (a := 9) (b := 10) eσ2510 (by omega)).trans ((kq (a := 9) (b := 10) eσ2440 (by omega)).trans ((kq (a := 9) (b := 10) eσ2032 (fun q => absurd q.1 (by decide))).trans (k7.trans ((kq (a := 9) (b := 10) eσ2 (fun q => absurd q.1 (by decide))))))), (kq (a := 6) (b := 5) eσ2510 (by omega)).trans ((kq (a := 6) (b := 5) eσ2440 (by omega)).trans ((kq (a := 6) (b := 5) eσ2032 (fun q => absurd q.1 (by decide))).trans (k8.trans ((kq (a := 6) (b := 5) eσ2 (fun q => absurd q.1 (by decide))))))), (kq (a := 7) (b := 4) eσ2510 (by omega)).trans ((kq (a := 7) (b := 4) eσ2440 (by omega)).trans ((kq (a := 7) (b := 4) eσ2032 (fun q => absurd q.1 (by decide))).trans (k9.trans ((kq (a := 7) (b := 4) eσ2 (fun q => absurd q.1 (by decide))))))), (kq (a := 2) (b := 4) eσ2510 (by omega)).trans ((kq (a := 2) (b := 4) eσ2440 (by omega)).trans ((kq (a := 2) (b := 4) eσ2032 (fun q => absurd q.1 (by decide))).trans (k10.trans ((kq (a := 2) (b := 4) eσ2 (fun q => absurd q.1 (by decide)))))))⟩)
                      · first | have f2513 := (noteqE (rfl : (jT r15.toNatClampNeg).toInt = (jT r15.toNatClampNeg).toInt) (show (2 : Int32).toInt = 2 from by decide)).mp c2485 | skip
                        have f2516 := K1.g_3_7 hσ2440
                        have q2517 : σ2440.1 3 7 = σ2032.1 3 7 := by rw [eσ2440]; exact congrFun (u1_ne (by omega)) 7
                        have f2518 := congrArg Int32.toInt q2517
                        have f2519 := K1.g_3_7 hσ2032
                        have q2520 : σ2032.1 3 7 = σ3.1 3 7 := by rw [eσ2032, u1_at]; exact if_neg (by decide)
                        have f2521 := congrArg Int32.toInt q2520
                        have f2522 := K1.g_3_7 hσ3
                        have f2523 := congrArg Int32.toInt k4
                        have f2524 := K1.g_3_7 hσ2
                        have q2525 : σ2.1 3 7 = σ.1 3 7 := by rw [eσ2, u1_at]; exact if_neg (by decide)
                        have f2526 := congrArg Int32.toInt q2525
                        have f2527 := K1.g_3_7 hσ
                        refine sX2_act hN hk1 ⟨by omega, by omega⟩ hσ2440 (fun σ2515 hσ2515 kk2533 => ?_)
                        obtain ⟨k2528, k2529, k2530, k2531, k2532⟩ := kk2533
                        exact hQ _ hσ2515 (⟨k2528.trans ((kq (a := 9) (b := 9) eσ2440 (by omega)).trans ((kq (a := 9) (b := 9) eσ2032 (fun q => absurd q.1 (by decide))).trans (k6.trans ((kq (a := 9) (b := 9) eσ2 (fun q => absurd q.1 (by decide))))))), k2529.trans ((kq (a := 9) (b := 10) eσ2440 (by omega)).trans ((kq (a := 9) (b := 10) eσ2032 (fun q => absurd q.1 (by decide))).trans (k7.trans ((kq (a := 9) (b := 10) eσ2 (fun q => absurd q.1 (by decide))))))), k2530.trans ((kq (a := 6) (b := 5) eσ2440 (by omega)).trans ((kq (a := 6) (b := 5) eσ2032 (fun q => absurd q.1 (by decide))).trans (k8.trans ((kq (a := 6) (b := 5) eσ2 (fun q => absurd q.1 (by decide))))))), k2531.trans ((kq (a := 7) (b := 4) eσ2440 (by omega)).trans ((kq (a := 7) (b := 4) eσ2032 (fun q => absurd q.1 (by decide))).trans (k9.trans ((kq (a := 7) (b := 4) eσ2 (fun q => absurd q.1 (by decide))))))), k2532.trans ((kq (a := 2) (b := 4) eσ2440 (by omega)).trans ((kq (a := 2) (b := 4) eσ2032 (fun q => absurd q.1 (by decide))).trans (k10.trans ((kq (a := 2) (b := 4) eσ2 (fun q => absurd q.1 (by decide)))))))⟩)
                  · first | have f2535 := (noteqE (rfl : (σ2032.1 3 11).toInt = (σ2032.1 3 11).toInt) (show (0 : Int32).toInt = 0 from by decide)).mp c2436 | skip
                    exact hQ _ hσ2032 (⟨(kq (a := 9) (b := 9) eσ2032 (fun q => absurd q.1 (by decide))).trans (k6.trans ((kq (a := 9) (b := 9) eσ2 (fun q => absurd q.1 (by decide))))), (kq (a := 9) (b := 10) eσ2032 (fun q => absurd q.1 (by decide))).trans (k7.trans ((kq (a := 9) (b := 10) eσ2 (fun q => absurd q.1 (by decide))))), (kq (a := 6) (b := 5) eσ2032 (fun q => absurd q.1 (by decide))).trans (k8.trans ((kq (a := 6) (b := 5) eσ2 (fun q => absurd q.1 (by decide))))), (kq (a := 7) (b := 4) eσ2032 (fun q => absurd q.1 (by decide))).trans (k9.trans ((kq (a := 7) (b := 4) eσ2 (fun q => absurd q.1 (by decide))))), (kq (a := 2) (b := 4) eσ2032 (fun q => absurd q.1 (by decide))).trans (k10.trans ((kq (a := 2) (b := 4) eσ2 (fun q => absurd q.1 (by decide)))))⟩)
            · first | have f2537 := (notleE (rfl : (jV r15.toNatClampNeg).toInt = (jV r15.toNatClampNeg).toInt) (show (1 : Int32).toInt = 1 from by decide)).mp c2060 | skip
              refine sX2_nextValue hN hk1 hσ2032 (fun r2550 σ2538 hσ2538 kk2549 p2551 => ?_)
              obtain ⟨k2539, k2540, k2541, k2542, k2543, k2544, k2545, k2546, k2547, k2548⟩ := kk2549
              unfold fX2_doOrder_j81
              have g2553 : vp_in r15 18 := inE (rfl : r15.toInt = r15.toInt) (by omega) (by omega)
              refine ⟨g2553, ?_⟩
              refine ⟨fun c2554 => ?_, fun c2554 => ?_⟩
              · have f2555 := tB (jT r15.toNatClampNeg)
                first | have f2556 := (eqE (rfl : (jT r15.toNatClampNeg).toInt = (jT r15.toNatClampNeg).toInt) (show (1 : Int32).toInt = 1 from by decide)).mp c2554 | skip
                refine sX2_nextTarget hN hk1 hσ2538 (fun r2569 σ2557 hσ2557 kk2568 p2570 => ?_)
                obtain ⟨k2558, k2559, k2560, k2561, k2562, k2563, k2564, k2565, k2566, k2567⟩ := kk2568
                unfold fX2_doOrder_j103
                have g2572 : vp_in r15 18 := inE (rfl : r15.toInt = r15.toInt) (by omega) (by omega)
                refine ⟨g2572, ?_⟩
                refine ⟨fun c2573 => ?_, fun c2573 => ?_⟩
                · first | have f2575 := (eqE (rfl : (jT r15.toNatClampNeg).toInt = (jT r15.toNatClampNeg).toInt) (show (2 : Int32).toInt = 2 from by decide)).mp c2573 | skip
                  refine sX2_nextDistance hN hσ2557 (fun r2588 σ2576 hσ2576 kk2587 p2589 => ?_)
                  obtain ⟨k2577, k2578, k2579, k2580, k2581, k2582, k2583, k2584, k2585, k2586⟩ := kk2587
                  unfold fX2_doOrder_j122
                  refine ⟨fun c2590 => ?_, fun c2590 => ?_⟩
                  · have f2591 := tB (σ2576.1 3 11)
                    first | have f2592 := (eqE (rfl : (σ2576.1 3 11).toInt = (σ2576.1 3 11).toInt) (show (0 : Int32).toInt = 0 from by decide)).mp c2590 | skip
                    intro v2593 ev2593
                    intro σ2594 eσ2594
                    have kb2595 := jobK_b hk1
                    have hσ2594 : K1 σ0 σ2594 := by rw [eσ2594]; exact hσ2576.u (rg_jobK hk1) (by omega) (by omega)
                    have g2597 : vp_in r15 18 := inE (rfl : r15.toInt = r15.toInt) (by omega) (by omega)
                    refine ⟨g2597, ?_⟩
                    refine ⟨fun c2598 => ?_, fun c2598 => ?_⟩
                    · first | have f2600 := (eqE (rfl : (jT r15.toNatClampNeg).toInt = (jT r15.toNatClampNeg).toInt) (show (1 : Int32).toInt = 1 from by decide)).mp c2598 | skip
                      have f2602 := tB r2550
                      refine sX2_valueFor hN hσ2594 (fun r2615 σ2603 hσ2603 kk2614 p2616 => ?_)
                      obtain ⟨k2604, k2605, k2606, k2607, k2608, k2609, k2610, k2611, k2612, k2613⟩ := kk2614
                      refine ⟨fun c2617 => ?_, fun c2617 => ?_⟩
                      · have f2618 := tB (σ2603.1 3 11)
                        first | have f2619 := (eqE (rfl : (σ2603.1 3 11).toInt = (σ2603.1 3 11).toInt) (show (0 : Int32).toInt = 0 from by decide)).mp c2617 | skip
                        have f2620 := tB r2569
                        have f2621 := tB r2615
                        refine sX1_setLocal hN hk1 hσ2603 (fun σ2622 hσ2622 kk2634 => ?_)
                        obtain ⟨k2623, k2624, k2625, k2626, k2627, k2628, k2629, k2630, k2631, k2632, k2633⟩ := kk2634
                        unfold fX2_doOrder_j174
                        exact hQ _ hσ2622 (⟨k2626.trans (k2606.trans ((kq (a := 9) (b := 9) eσ2594 (by omega)).trans (k2579.trans (k2560.trans (k2541.trans ((kq (a := 9) (b := 9) eσ2032 (fun q => absurd q.1 (by decide))).trans (k6.trans ((kq (a := 9) (b := 9) eσ2 (fun q => absurd q.1 (by decide))))))))))), k2627.trans (k2607.trans ((kq (a := 9) (b := 10) eσ2594 (by omega)).trans (k2580.trans (k2561.trans (k2542.trans ((kq (a := 9) (b := 10) eσ2032 (fun q => absurd q.1 (by decide))).trans (k7.trans ((kq (a := 9) (b := 10) eσ2 (fun q => absurd q.1 (by decide))))))))))), k2628.trans (k2608.trans ((kq (a := 6) (b := 5) eσ2594 (by omega)).trans (k2581.trans (k2562.trans (k2543.trans ((kq (a := 6) (b := 5) eσ2032 (fun q => absurd q.1 (by decide))).trans (k8.trans ((kq (a := 6) (b := 5) eσ2 (fun q => absurd q.1 (by decide))))))))))), k2629.trans (k2609.trans ((kq (a := 7) (b := 4) eσ2594 (by omega)).trans (k2582.trans (k2563.trans (k2544.trans ((kq (a := 7) (b := 4) eσ2032 (fun q => absurd q.1 (by decide))).trans (k9.trans ((kq (a := 7) (b := 4) eσ2 (fun q => absurd q.1 (by decide))))))))))), k2630.trans (k2610.trans ((kq (a := 2) (b := 4) eσ2594 (by omega)).trans (k2583.trans (k2564.trans (k2545.trans ((kq (a := 2) (b := 4) eσ2032 (fun q => absurd q.1 (by decide))).trans (k10.trans ((kq (a := 2) (b := 4) eσ2 (fun q => absurd q.1 (by decide)))))))))))⟩)
                      · have f2635 := tB (σ2603.1 3 11)
                        first | have f2636 := (noteqE (rfl : (σ2603.1 3 11).toInt = (σ2603.1 3 11).toInt) (show (0 : Int32).toInt = 0 from by decide)).mp c2617 | skip
                        unfold fX2_doOrder_j174
                        exact hQ _ hσ2603 (⟨k2606.trans ((kq (a := 9) (b := 9) eσ2594 (by omega)).trans (k2579.trans (k2560.trans (k2541.trans ((kq (a := 9) (b := 9) eσ2032 (fun q => absurd q.1 (by decide))).trans (k6.trans ((kq (a := 9) (b := 9) eσ2 (fun q => absurd q.1 (by decide)))))))))), k2607.trans ((kq (a := 9) (b := 10) eσ2594 (by omega)).trans (k2580.trans (k2561.trans (k2542.trans ((kq (a := 9) (b := 10) eσ2032 (fun q => absurd q.1 (by decide))).trans (k7.trans ((kq (a := 9) (b := 10) eσ2 (fun q => absurd q.1 (by decide)))))))))), k2608.trans ((kq (a := 6) (b := 5) eσ2594 (by omega)).trans (k2581.trans (k2562.trans (k2543.trans ((kq (a := 6) (b := 5) eσ2032 (fun q => absurd q.1 (by decide))).trans (k8.trans ((kq (a := 6) (b := 5) eσ2 (fun q => absurd q.1 (by decide)))))))))), k2609.trans ((kq (a := 7) (b := 4) eσ2594 (by omega)).trans (k2582.trans (k2563.trans (k2544.trans ((kq (a := 7) (b := 4) eσ2032 (fun q => absurd q.1 (by decide))).trans (k9.trans ((kq (a := 7) (b := 4) eσ2 (fun q => absurd q.1 (by decide)))))))))), k2610.trans ((kq (a := 2) (b := 4) eσ2594 (by omega)).trans (k2583.trans (k2564.trans (k2545.trans ((kq (a := 2) (b := 4) eσ2032 (fun q => absurd q.1 (by decide))).trans (k10.trans ((kq (a := 2) (b := 4) eσ2 (fun q => absurd q.1 (by decide))))))))))⟩)
                    · first | have f2638 := (noteqE (rfl : (jT r15.toNatClampNeg).toInt = (jT r15.toNatClampNeg).toInt) (show (1 : Int32).toInt = 1 from by decide)).mp c2598 | skip
                      have g2640 : vp_in r15 18 := inE (rfl : r15.toInt = r15.toInt) (by omega) (by omega)
                      refine ⟨g2640, ?_⟩
                      refine ⟨fun c2641 => ?_, fun c2641 => ?_⟩
                      · first | have f2643 := (eqE (rfl : (jT r15.toNatClampNeg).toInt = (jT r15.toNatClampNeg).toInt) (show (2 : Int32).toInt = 2 from by decide)).mp c2641 | skip
                        have f2645 := tB r2550
                        refine sX2_goesThere hN hσ2594 (fun r2659 p2660 => ?_)
                        refine ⟨fun c2661 => ?_, fun c2661 => ?_⟩
                        · have f2662 := tB r2659
                          first | have f2663 := (eqE (rfl : r2659.toInt = r2659.toInt) (show (0 : Int32).toInt = 0 from by decide)).mp c2661 | skip
                          exact hQ _ hσ2594 (⟨(kq (a := 9) (b := 9) eσ2594 (by omega)).trans (k2579.trans (k2560.trans (k2541.trans ((kq (a := 9) (b := 9) eσ2032 (fun q => absurd q.1 (by decide))).trans (k6.trans ((kq (a := 9) (b := 9) eσ2 (fun q => absurd q.1 (by decide))))))))), (kq (a := 9) (b := 10) eσ2594 (by omega)).trans (k2580.trans (k2561.trans (k2542.trans ((kq (a := 9) (b := 10) eσ2032 (fun q => absurd q.1 (by decide))).trans (k7.trans ((kq (a := 9) (b := 10) eσ2 (fun q => absurd q.1 (by decide))))))))), (kq (a := 6) (b := 5) eσ2594 (by omega)).trans (k2581.trans (k2562.trans (k2543.trans ((kq (a := 6) (b := 5) eσ2032 (fun q => absurd q.1 (by decide))).trans (k8.trans ((kq (a := 6) (b := 5) eσ2 (fun q => absurd q.1 (by decide))))))))), (kq (a := 7) (b := 4) eσ2594 (by omega)).trans (k2582.trans (k2563.trans (k2544.trans ((kq (a := 7) (b := 4) eσ2032 (fun q => absurd q.1 (by decide))).trans (k9.trans ((kq (a := 7) (b := 4) eσ2 (fun q => absurd q.1 (by decide))))))))), (kq (a := 2) (b := 4) eσ2594 (by omega)).trans (k2583.trans (k2564.trans (k2545.trans ((kq (a := 2) (b := 4) eσ2032 (fun q => absurd q.1 (by decide))).trans (k10.trans ((kq (a := 2) (b := 4) eσ2 (fun q => absurd q.1 (by decide)))))))))⟩)
                        · have f2664 := tB r2659
                          first | have f2665 := (noteqE (rfl : r2659.toInt = r2659.toInt) (show (0 : Int32).toInt = 0 from by decide)).mp c2661 | skip
                          intro v2666 ev2666
                          intro σ2667 eσ2667
                          have kb2668 := jobK_b hk1
                          have hσ2667 : K1 σ0 σ2667 := by rw [eσ2667]; exact hσ2594.u (rg_jobK hk1) (by omega) (by omega)
                          exact hQ _ hσ2667 (⟨(kq (a := 9) (b := 9) eσ2667 (by omega)).trans ((kq (a := 9) (b := 9) eσ2594 (by omega)).trans (k2579.trans (k2560.trans (k2541.trans ((kq (a := 9) (b := 9) eσ2032 (fun q => absurd q.1 (by decide))).trans (k6.trans ((kq (a := 9) (b := 9) eσ2 (fun q => absurd q.1 (by decide)))))))))), (kq (a := 9) (b := 10) eσ2667 (by omega)).trans ((kq (a := 9) (b := 10) eσ2594 (by omega)).trans (k2580.trans (k2561.trans (k2542.trans ((kq (a := 9) (b := 10) eσ2032 (fun q => absurd q.1 (by decide))).trans (k7.trans ((kq (a := 9) (b := 10) eσ2 (fun q => absurd q.1 (by decide)))))))))), (kq (a := 6) (b := 5) eσ2667 (by omega)).trans ((kq (a := 6) (b := 5) eσ2594 (by omega)).trans (k2581.trans (k2562.trans (k2543.trans ((kq (a := 6) (b := 5) eσ2032 (fun q => absurd q.1 (by decide))).trans (k8.trans ((kq (a := 6) (b := 5) eσ2 (fun q => absurd q.1 (by decide)))))))))), (kq (a := 7) (b := 4) eσ2667 (by omega)).trans ((kq (a := 7) (b := 4) eσ2594 (by omega)).trans (k2582.trans (k2563.trans (k2544.trans ((kq (a := 7) (b := 4) eσ2032 (fun q => absurd q.1 (by decide))).trans (k9.trans ((kq (a := 7) (b := 4) eσ2 (fun q => absurd q.1 (by decide)))))))))), (kq (a := 2) (b := 4) eσ2667 (by omega)).trans ((kq (a := 2) (b := 4) eσ2594 (by omega)).trans (k2583.trans (k2564.trans (k2545.trans ((kq (a := 2) (b := 4) eσ2032 (fun q => absurd q.1 (by decide))).trans (k10.trans ((kq (a := 2) (b := 4) eσ2 (fun q => absurd q.1 (by decide))))))))))⟩)
                      · first | have f2670 := (noteqE (rfl : (jT r15.toNatClampNeg).toInt = (jT r15.toNatClampNeg).toInt) (show (2 : Int32).toInt = 2 from by decide)).mp c2641 | skip
                        have f2672 := tB r2550
                        have f2674 := K1.g_3_7 hσ2594
                        have q2675 : σ2594.1 3 7 = σ2576.1 3 7 := by rw [eσ2594]; exact congrFun (u1_ne (by omega)) 7
                        have f2676 := congrArg Int32.toInt q2675
                        have f2677 := K1.g_3_7 hσ2576
                        have f2678 := congrArg Int32.toInt k2577
                        have f2679 := K1.g_3_7 hσ2557
                        have f2680 := congrArg Int32.toInt k2558
                        have f2681 := K1.g_3_7 hσ2538
                        have f2682 := congrArg Int32.toInt k2539
                        have f2683 := K1.g_3_7 hσ2032
                        have q2684 : σ2032.1 3 7 = σ3.1 3 7 := by rw [eσ2032, u1_at]; exact if_neg (by decide)
                        have f2685 := congrArg Int32.toInt q2684
                        have f2686 := K1.g_3_7 hσ3
                        have f2687 := congrArg Int32.toInt k4
                        have f2688 := K1.g_3_7 hσ2
                        have q2689 : σ2.1 3 7 = σ.1 3 7 := by rw [eσ2, u1_at]; exact if_neg (by decide)
                        have f2690 := congrArg Int32.toInt q2689
                        have f2691 := K1.g_3_7 hσ
                        refine sX2_act hN hk1 ⟨by omega, by omega⟩ hσ2594 (fun σ2673 hσ2673 kk2697 => ?_)
                        obtain ⟨k2692, k2693, k2694, k2695, k2696⟩ := kk2697
                        exact hQ _ hσ2673 (⟨k2692.trans ((kq (a := 9) (b := 9) eσ2594 (by omega)).trans (k2579.trans (k2560.trans (k2541.trans ((kq (a := 9) (b := 9) eσ2032 (fun q => absurd q.1 (by decide))).trans (k6.trans ((kq (a := 9) (b := 9) eσ2 (fun q => absurd q.1 (by decide)))))))))), k2693.trans ((kq (a := 9) (b := 10) eσ2594 (by omega)).trans (k2580.trans (k2561.trans (k2542.trans ((kq (a := 9) (b := 10) eσ2032 (fun q => absurd q.1 (by decide))).trans (k7.trans ((kq (a := 9) (b := 10) eσ2 (fun q => absurd q.1 (by decide)))))))))), k2694.trans ((kq (a := 6) (b := 5) eσ2594 (by omega)).trans (k2581.trans (k2562.trans (k2543.trans ((kq (a := 6) (b := 5) eσ2032 (fun q => absurd q.1 (by decide))).trans (k8.trans ((kq (a := 6) (b := 5) eσ2 (fun q => absurd q.1 (by decide)))))))))), k2695.trans ((kq (a := 7) (b := 4) eσ2594 (by omega)).trans (k2582.trans (k2563.trans (k2544.trans ((kq (a := 7) (b := 4) eσ2032 (fun q => absurd q.1 (by decide))).trans (k9.trans ((kq (a := 7) (b := 4) eσ2 (fun q => absurd q.1 (by decide)))))))))), k2696.trans ((kq (a := 2) (b := 4) eσ2594 (by omega)).trans (k2583.trans (k2564.trans (k2545.trans ((kq (a := 2) (b := 4) eσ2032 (fun q => absurd q.1 (by decide))).trans (k10.trans ((kq (a := 2) (b := 4) eσ2 (fun q => absurd q.1 (by decide))))))))))⟩)
                  · have f2698 := tB (σ2576.1 3 11)
                    first | have f2699 := (noteqE (rfl : (σ2576.1 3 11).toInt = (σ2576.1 3 11).toInt) (show (0 : Int32).toInt = 0 from by decide)).mp c2590 | skip
                    exact hQ _ hσ2576 (⟨k2579.trans (k2560.trans (k2541.trans ((kq (a := 9) (b := 9) eσ2032 (fun q => absurd q.1 (by decide))).trans (k6.trans ((kq (a := 9) (b := 9) eσ2 (fun q => absurd q.1 (by decide)))))))), k2580.trans (k2561.trans (k2542.trans ((kq (a := 9) (b := 10) eσ2032 (fun q => absurd q.1 (by decide))).trans (k7.trans ((kq (a := 9) (b := 10) eσ2 (fun q => absurd q.1 (by decide)))))))), k2581.trans (k2562.trans (k2543.trans ((kq (a := 6) (b := 5) eσ2032 (fun q => absurd q.1 (by decide))).trans (k8.trans ((kq (a := 6) (b := 5) eσ2 (fun q => absurd q.1 (by decide)))))))), k2582.trans (k2563.trans (k2544.trans ((kq (a := 7) (b := 4) eσ2032 (fun q => absurd q.1 (by decide))).trans (k9.trans ((kq (a := 7) (b := 4) eσ2 (fun q => absurd q.1 (by decide)))))))), k2583.trans (k2564.trans (k2545.trans ((kq (a := 2) (b := 4) eσ2032 (fun q => absurd q.1 (by decide))).trans (k10.trans ((kq (a := 2) (b := 4) eσ2 (fun q => absurd q.1 (by decide))))))))⟩)
                · first | have f2701 := (noteqE (rfl : (jT r15.toNatClampNeg).toInt = (jT r15.toNatClampNeg).toInt) (show (2 : Int32).toInt = 2 from by decide)).mp c2573 | skip
                  unfold fX2_doOrder_j122
                  refine ⟨fun c2702 => ?_, fun c2702 => ?_⟩
                  · have f2703 := tB (σ2557.1 3 11)
                    first | have f2704 := (eqE (rfl : (σ2557.1 3 11).toInt = (σ2557.1 3 11).toInt) (show (0 : Int32).toInt = 0 from by decide)).mp c2702 | skip
                    intro v2705 ev2705
                    intro σ2706 eσ2706
                    have kb2707 := jobK_b hk1
                    have hσ2706 : K1 σ0 σ2706 := by rw [eσ2706]; exact hσ2557.u (rg_jobK hk1) (by omega) (by omega)
                    have g2709 : vp_in r15 18 := inE (rfl : r15.toInt = r15.toInt) (by omega) (by omega)
                    refine ⟨g2709, ?_⟩
                    refine ⟨fun c2710 => ?_, fun c2710 => ?_⟩
                    · first | have f2712 := (eqE (rfl : (jT r15.toNatClampNeg).toInt = (jT r15.toNatClampNeg).toInt) (show (1 : Int32).toInt = 1 from by decide)).mp c2710 | skip
                      have f2714 := tB r2550
                      refine sX2_valueFor hN hσ2706 (fun r2727 σ2715 hσ2715 kk2726 p2728 => ?_)
                      obtain ⟨k2716, k2717, k2718, k2719, k2720, k2721, k2722, k2723, k2724, k2725⟩ := kk2726
                      refine ⟨fun c2729 => ?_, fun c2729 => ?_⟩
                      · have f2730 := tB (σ2715.1 3 11)
                        first | have f2731 := (eqE (rfl : (σ2715.1 3 11).toInt = (σ2715.1 3 11).toInt) (show (0 : Int32).toInt = 0 from by decide)).mp c2729 | skip
                        have f2732 := tB r2569
                        have f2733 := tB r2727
                        refine sX1_setLocal hN hk1 hσ2715 (fun σ2734 hσ2734 kk2746 => ?_)
                        obtain ⟨k2735, k2736, k2737, k2738, k2739, k2740, k2741, k2742, k2743, k2744, k2745⟩ := kk2746
                        unfold fX2_doOrder_j174
                        exact hQ _ hσ2734 (⟨k2738.trans (k2718.trans ((kq (a := 9) (b := 9) eσ2706 (by omega)).trans (k2560.trans (k2541.trans ((kq (a := 9) (b := 9) eσ2032 (fun q => absurd q.1 (by decide))).trans (k6.trans ((kq (a := 9) (b := 9) eσ2 (fun q => absurd q.1 (by decide)))))))))), k2739.trans (k2719.trans ((kq (a := 9) (b := 10) eσ2706 (by omega)).trans (k2561.trans (k2542.trans ((kq (a := 9) (b := 10) eσ2032 (fun q => absurd q.1 (by decide))).trans (k7.trans ((kq (a := 9) (b := 10) eσ2 (fun q => absurd q.1 (by decide)))))))))), k2740.trans (k2720.trans ((kq (a := 6) (b := 5) eσ2706 (by omega)).trans (k2562.trans (k2543.trans ((kq (a := 6) (b := 5) eσ2032 (fun q => absurd q.1 (by decide))).trans (k8.trans ((kq (a := 6) (b := 5) eσ2 (fun q => absurd q.1 (by decide)))))))))), k2741.trans (k2721.trans ((kq (a := 7) (b := 4) eσ2706 (by omega)).trans (k2563.trans (k2544.trans ((kq (a := 7) (b := 4) eσ2032 (fun q => absurd q.1 (by decide))).trans (k9.trans ((kq (a := 7) (b := 4) eσ2 (fun q => absurd q.1 (by decide)))))))))), k2742.trans (k2722.trans ((kq (a := 2) (b := 4) eσ2706 (by omega)).trans (k2564.trans (k2545.trans ((kq (a := 2) (b := 4) eσ2032 (fun q => absurd q.1 (by decide))).trans (k10.trans ((kq (a := 2) (b := 4) eσ2 (fun q => absurd q.1 (by decide))))))))))⟩)
                      · have f2747 := tB (σ2715.1 3 11)
                        first | have f2748 := (noteqE (rfl : (σ2715.1 3 11).toInt = (σ2715.1 3 11).toInt) (show (0 : Int32).toInt = 0 from by decide)).mp c2729 | skip
                        unfold fX2_doOrder_j174
                        exact hQ _ hσ2715 (⟨k2718.trans ((kq (a := 9) (b := 9) eσ2706 (by omega)).trans (k2560.trans (k2541.trans ((kq (a := 9) (b := 9) eσ2032 (fun q => absurd q.1 (by decide))).trans (k6.trans ((kq (a := 9) (b := 9) eσ2 (fun q => absurd q.1 (by decide))))))))), k2719.trans ((kq (a := 9) (b := 10) eσ2706 (by omega)).trans (k2561.trans (k2542.trans ((kq (a := 9) (b := 10) eσ2032 (fun q => absurd q.1 (by decide))).trans (k7.trans ((kq (a := 9) (b := 10) eσ2 (fun q => absurd q.1 (by decide))))))))), k2720.trans ((kq (a := 6) (b := 5) eσ2706 (by omega)).trans (k2562.trans (k2543.trans ((kq (a := 6) (b := 5) eσ2032 (fun q => absurd q.1 (by decide))).trans (k8.trans ((kq (a := 6) (b := 5) eσ2 (fun q => absurd q.1 (by decide))))))))), k2721.trans ((kq (a := 7) (b := 4) eσ2706 (by omega)).trans (k2563.trans (k2544.trans ((kq (a := 7) (b := 4) eσ2032 (fun q => absurd q.1 (by decide))).trans (k9.trans ((kq (a := 7) (b := 4) eσ2 (fun q => absurd q.1 (by decide))))))))), k2722.trans ((kq (a := 2) (b := 4) eσ2706 (by omega)).trans (k2564.trans (k2545.trans ((kq (a := 2) (b := 4) eσ2032 (fun q => absurd q.1 (by decide))).trans (k10.trans ((kq (a := 2) (b := 4) eσ2 (fun q => absurd q.1 (by decide)))))))))⟩)
                    · first | have f2750 := (noteqE (rfl : (jT r15.toNatClampNeg).toInt = (jT r15.toNatClampNeg).toInt) (show (1 : Int32).toInt = 1 from by decide)).mp c2710 | skip
                      have g2752 : vp_in r15 18 := inE (rfl : r15.toInt = r15.toInt) (by omega) (by omega)
                      refine ⟨g2752, ?_⟩
                      refine ⟨fun c2753 => ?_, fun c2753 => ?_⟩
                      · first | have f2755 := (eqE (rfl : (jT r15.toNatClampNeg).toInt = (jT r15.toNatClampNeg).toInt) (show (2 : Int32).toInt = 2 from by decide)).mp c2753 | skip
                        have f2757 := tB r2550
                        refine sX2_goesThere hN hσ2706 (fun r2771 p2772 => ?_)
                        refine ⟨fun c2773 => ?_, fun c2773 => ?_⟩
                        · have f2774 := tB r2771
                          first | have f2775 := (eqE (rfl : r2771.toInt = r2771.toInt) (show (0 : Int32).toInt = 0 from by decide)).mp c2773 | skip
                          exact hQ _ hσ2706 (⟨(kq (a := 9) (b := 9) eσ2706 (by omega)).trans (k2560.trans (k2541.trans ((kq (a := 9) (b := 9) eσ2032 (fun q => absurd q.1 (by decide))).trans (k6.trans ((kq (a := 9) (b := 9) eσ2 (fun q => absurd q.1 (by decide)))))))), (kq (a := 9) (b := 10) eσ2706 (by omega)).trans (k2561.trans (k2542.trans ((kq (a := 9) (b := 10) eσ2032 (fun q => absurd q.1 (by decide))).trans (k7.trans ((kq (a := 9) (b := 10) eσ2 (fun q => absurd q.1 (by decide)))))))), (kq (a := 6) (b := 5) eσ2706 (by omega)).trans (k2562.trans (k2543.trans ((kq (a := 6) (b := 5) eσ2032 (fun q => absurd q.1 (by decide))).trans (k8.trans ((kq (a := 6) (b := 5) eσ2 (fun q => absurd q.1 (by decide)))))))), (kq (a := 7) (b := 4) eσ2706 (by omega)).trans (k2563.trans (k2544.trans ((kq (a := 7) (b := 4) eσ2032 (fun q => absurd q.1 (by decide))).trans (k9.trans ((kq (a := 7) (b := 4) eσ2 (fun q => absurd q.1 (by decide)))))))), (kq (a := 2) (b := 4) eσ2706 (by omega)).trans (k2564.trans (k2545.trans ((kq (a := 2) (b := 4) eσ2032 (fun q => absurd q.1 (by decide))).trans (k10.trans ((kq (a := 2) (b := 4) eσ2 (fun q => absurd q.1 (by decide))))))))⟩)
                        · have f2776 := tB r2771
                          first | have f2777 := (noteqE (rfl : r2771.toInt = r2771.toInt) (show (0 : Int32).toInt = 0 from by decide)).mp c2773 | skip
                          intro v2778 ev2778
                          intro σ2779 eσ2779
                          have kb2780 := jobK_b hk1
                          have hσ2779 : K1 σ0 σ2779 := by rw [eσ2779]; exact hσ2706.u (rg_jobK hk1) (by omega) (by omega)
                          exact hQ _ hσ2779 (⟨(kq (a := 9) (b := 9) eσ2779 (by omega)).trans ((kq (a := 9) (b := 9) eσ2706 (by omega)).trans (k2560.trans (k2541.trans ((kq (a := 9) (b := 9) eσ2032 (fun q => absurd q.1 (by decide))).trans (k6.trans ((kq (a := 9) (b := 9) eσ2 (fun q => absurd q.1 (by decide))))))))), (kq (a := 9) (b := 10) eσ2779 (by omega)).trans ((kq (a := 9) (b := 10) eσ2706 (by omega)).trans (k2561.trans (k2542.trans ((kq (a := 9) (b := 10) eσ2032 (fun q => absurd q.1 (by decide))).trans (k7.trans ((kq (a := 9) (b := 10) eσ2 (fun q => absurd q.1 (by decide))))))))), (kq (a := 6) (b := 5) eσ2779 (by omega)).trans ((kq (a := 6) (b := 5) eσ2706 (by omega)).trans (k2562.trans (k2543.trans ((kq (a := 6) (b := 5) eσ2032 (fun q => absurd q.1 (by decide))).trans (k8.trans ((kq (a := 6) (b := 5) eσ2 (fun q => absurd q.1 (by decide))))))))), (kq (a := 7) (b := 4) eσ2779 (by omega)).trans ((kq (a := 7) (b := 4) eσ2706 (by omega)).trans (k2563.trans (k2544.trans ((kq (a := 7) (b := 4) eσ2032 (fun q => absurd q.1 (by decide))).trans (k9.trans ((kq (a := 7) (b := 4) eσ2 (fun q => absurd q.1 (by decide))))))))), (kq (a := 2) (b := 4) eσ2779 (by omega)).trans ((kq (a := 2) (b := 4) eσ2706 (by omega)).trans (k2564.trans (k2545.trans ((kq (a := 2) (b := 4) eσ2032 (fun q => absurd q.1 (by decide))).trans (k10.trans ((kq (a := 2) (b := 4) eσ2 (fun q => absurd q.1 (by decide)))))))))⟩)
                      · first | have f2782 := (noteqE (rfl : (jT r15.toNatClampNeg).toInt = (jT r15.toNatClampNeg).toInt) (show (2 : Int32).toInt = 2 from by decide)).mp c2753 | skip
                        have f2784 := tB r2550
                        have f2786 := K1.g_3_7 hσ2706
                        have q2787 : σ2706.1 3 7 = σ2557.1 3 7 := by rw [eσ2706]; exact congrFun (u1_ne (by omega)) 7
                        have f2788 := congrArg Int32.toInt q2787
                        have f2789 := K1.g_3_7 hσ2557
                        have f2790 := congrArg Int32.toInt k2558
                        have f2791 := K1.g_3_7 hσ2538
                        have f2792 := congrArg Int32.toInt k2539
                        have f2793 := K1.g_3_7 hσ2032
                        have q2794 : σ2032.1 3 7 = σ3.1 3 7 := by rw [eσ2032, u1_at]; exact if_neg (by decide)
                        have f2795 := congrArg Int32.toInt q2794
                        have f2796 := K1.g_3_7 hσ3
                        have f2797 := congrArg Int32.toInt k4
                        have f2798 := K1.g_3_7 hσ2
                        have q2799 : σ2.1 3 7 = σ.1 3 7 := by rw [eσ2, u1_at]; exact if_neg (by decide)
                        have f2800 := congrArg Int32.toInt q2799
                        have f2801 := K1.g_3_7 hσ
                        refine sX2_act hN hk1 ⟨by omega, by omega⟩ hσ2706 (fun σ2785 hσ2785 kk2807 => ?_)
                        obtain ⟨k2802, k2803, k2804, k2805, k2806⟩ := kk2807
                        exact hQ _ hσ2785 (⟨k2802.trans ((kq (a := 9) (b := 9) eσ2706 (by omega)).trans (k2560.trans (k2541.trans ((kq (a := 9) (b := 9) eσ2032 (fun q => absurd q.1 (by decide))).trans (k6.trans ((kq (a := 9) (b := 9) eσ2 (fun q => absurd q.1 (by decide))))))))), k2803.trans ((kq (a := 9) (b := 10) eσ2706 (by omega)).trans (k2561.trans (k2542.trans ((kq (a := 9) (b := 10) eσ2032 (fun q => absurd q.1 (by decide))).trans (k7.trans ((kq (a := 9) (b := 10) eσ2 (fun q => absurd q.1 (by decide))))))))), k2804.trans ((kq (a := 6) (b := 5) eσ2706 (by omega)).trans (k2562.trans (k2543.trans ((kq (a := 6) (b := 5) eσ2032 (fun q => absurd q.1 (by decide))).trans (k8.trans ((kq (a := 6) (b := 5) eσ2 (fun q => absurd q.1 (by decide))))))))), k2805.trans ((kq (a := 7) (b := 4) eσ2706 (by omega)).trans (k2563.trans (k2544.trans ((kq (a := 7) (b := 4) eσ2032 (fun q => absurd q.1 (by decide))).trans (k9.trans ((kq (a := 7) (b := 4) eσ2 (fun q => absurd q.1 (by decide))))))))), k2806.trans ((kq (a := 2) (b := 4) eσ2706 (by omega)).trans (k2564.trans (k2545.trans ((kq (a := 2) (b := 4) eσ2032 (fun q => absurd q.1 (by decide))).trans (k10.trans ((kq (a := 2) (b := 4) eσ2 (fun q => absurd q.1 (by decide)))))))))⟩)
                  · have f2808 := tB (σ2557.1 3 11)
                    first | have f2809 := (noteqE (rfl : (σ2557.1 3 11).toInt = (σ2557.1 3 11).toInt) (show (0 : Int32).toInt = 0 from by decide)).mp c2702 | skip
                    exact hQ _ hσ2557 (⟨k2560.trans (k2541.trans ((kq (a := 9) (b := 9) eσ2032 (fun q => absurd q.1 (by decide))).trans (k6.trans ((kq (a := 9) (b := 9) eσ2 (fun q => absurd q.1 (by decide))))))), k2561.trans (k2542.trans ((kq (a := 9) (b := 10) eσ2032 (fun q => absurd q.1 (by decide))).trans (k7.trans ((kq (a := 9) (b := 10) eσ2 (fun q => absurd q.1 (by decide))))))), k2562.trans (k2543.trans ((kq (a := 6) (b := 5) eσ2032 (fun q => absurd q.1 (by decide))).trans (k8.trans ((kq (a := 6) (b := 5) eσ2 (fun q => absurd q.1 (by decide))))))), k2563.trans (k2544.trans ((kq (a := 7) (b := 4) eσ2032 (fun q => absurd q.1 (by decide))).trans (k9.trans ((kq (a := 7) (b := 4) eσ2 (fun q => absurd q.1 (by decide))))))), k2564.trans (k2545.trans ((kq (a := 2) (b := 4) eσ2032 (fun q => absurd q.1 (by decide))).trans (k10.trans ((kq (a := 2) (b := 4) eσ2 (fun q => absurd q.1 (by decide)))))))⟩)
              · have f2810 := tB (jT r15.toNatClampNeg)
                first | have f2811 := (noteqE (rfl : (jT r15.toNatClampNeg).toInt = (jT r15.toNatClampNeg).toInt) (show (1 : Int32).toInt = 1 from by decide)).mp c2554 | skip
                unfold fX2_doOrder_j103
                have g2813 : vp_in r15 18 := inE (rfl : r15.toInt = r15.toInt) (by omega) (by omega)
                refine ⟨g2813, ?_⟩
                refine ⟨fun c2814 => ?_, fun c2814 => ?_⟩
                · first | have f2816 := (eqE (rfl : (jT r15.toNatClampNeg).toInt = (jT r15.toNatClampNeg).toInt) (show (2 : Int32).toInt = 2 from by decide)).mp c2814 | skip
                  refine sX2_nextDistance hN hσ2538 (fun r2829 σ2817 hσ2817 kk2828 p2830 => ?_)
                  obtain ⟨k2818, k2819, k2820, k2821, k2822, k2823, k2824, k2825, k2826, k2827⟩ := kk2828
                  unfold fX2_doOrder_j122
                  refine ⟨fun c2831 => ?_, fun c2831 => ?_⟩
                  · have f2832 := tB (σ2817.1 3 11)
                    first | have f2833 := (eqE (rfl : (σ2817.1 3 11).toInt = (σ2817.1 3 11).toInt) (show (0 : Int32).toInt = 0 from by decide)).mp c2831 | skip
                    intro v2834 ev2834
                    intro σ2835 eσ2835
                    have kb2836 := jobK_b hk1
                    have hσ2835 : K1 σ0 σ2835 := by rw [eσ2835]; exact hσ2817.u (rg_jobK hk1) (by omega) (by omega)
                    have g2838 : vp_in r15 18 := inE (rfl : r15.toInt = r15.toInt) (by omega) (by omega)
                    refine ⟨g2838, ?_⟩
                    refine ⟨fun c2839 => ?_, fun c2839 => ?_⟩
                    · first | have f2841 := (eqE (rfl : (jT r15.toNatClampNeg).toInt = (jT r15.toNatClampNeg).toInt) (show (1 : Int32).toInt = 1 from by decide)).mp c2839 | skip
                      have f2843 := tB r2550
                      refine sX2_valueFor hN hσ2835 (fun r2856 σ2844 hσ2844 kk2855 p2857 => ?_)
                      obtain ⟨k2845, k2846, k2847, k2848, k2849, k2850, k2851, k2852, k2853, k2854⟩ := kk2855
                      refine ⟨fun c2858 => ?_, fun c2858 => ?_⟩
                      · have f2859 := tB (σ2844.1 3 11)
                        first | have f2860 := (eqE (rfl : (σ2844.1 3 11).toInt = (σ2844.1 3 11).toInt) (show (0 : Int32).toInt = 0 from by decide)).mp c2858 | skip
                        have f2861 := tB r2856
                        refine sX1_setLocal hN hk1 hσ2844 (fun σ2862 hσ2862 kk2874 => ?_)
                        obtain ⟨k2863, k2864, k2865, k2866, k2867, k2868, k2869, k2870, k2871, k2872, k2873⟩ := kk2874
                        unfold fX2_doOrder_j174
                        exact hQ _ hσ2862 (⟨k2866.trans (k2847.trans ((kq (a := 9) (b := 9) eσ2835 (by omega)).trans (k2820.trans (k2541.trans ((kq (a := 9) (b := 9) eσ2032 (fun q => absurd q.1 (by decide))).trans (k6.trans ((kq (a := 9) (b := 9) eσ2 (fun q => absurd q.1 (by decide)))))))))), k2867.trans (k2848.trans ((kq (a := 9) (b := 10) eσ2835 (by omega)).trans (k2821.trans (k2542.trans ((kq (a := 9) (b := 10) eσ2032 (fun q => absurd q.1 (by decide))).trans (k7.trans ((kq (a := 9) (b := 10) eσ2 (fun q => absurd q.1 (by decide)))))))))), k2868.trans (k2849.trans ((kq (a := 6) (b := 5) eσ2835 (by omega)).trans (k2822.trans (k2543.trans ((kq (a := 6) (b := 5) eσ2032 (fun q => absurd q.1 (by decide))).trans (k8.trans ((kq (a := 6) (b := 5) eσ2 (fun q => absurd q.1 (by decide)))))))))), k2869.trans (k2850.trans ((kq (a := 7) (b := 4) eσ2835 (by omega)).trans (k2823.trans (k2544.trans ((kq (a := 7) (b := 4) eσ2032 (fun q => absurd q.1 (by decide))).trans (k9.trans ((kq (a := 7) (b := 4) eσ2 (fun q => absurd q.1 (by decide)))))))))), k2870.trans (k2851.trans ((kq (a := 2) (b := 4) eσ2835 (by omega)).trans (k2824.trans (k2545.trans ((kq (a := 2) (b := 4) eσ2032 (fun q => absurd q.1 (by decide))).trans (k10.trans ((kq (a := 2) (b := 4) eσ2 (fun q => absurd q.1 (by decide))))))))))⟩)
                      · have f2875 := tB (σ2844.1 3 11)
                        first | have f2876 := (noteqE (rfl : (σ2844.1 3 11).toInt = (σ2844.1 3 11).toInt) (show (0 : Int32).toInt = 0 from by decide)).mp c2858 | skip
                        unfold fX2_doOrder_j174
                        exact hQ _ hσ2844 (⟨k2847.trans ((kq (a := 9) (b := 9) eσ2835 (by omega)).trans (k2820.trans (k2541.trans ((kq (a := 9) (b := 9) eσ2032 (fun q => absurd q.1 (by decide))).trans (k6.trans ((kq (a := 9) (b := 9) eσ2 (fun q => absurd q.1 (by decide))))))))), k2848.trans ((kq (a := 9) (b := 10) eσ2835 (by omega)).trans (k2821.trans (k2542.trans ((kq (a := 9) (b := 10) eσ2032 (fun q => absurd q.1 (by decide))).trans (k7.trans ((kq (a := 9) (b := 10) eσ2 (fun q => absurd q.1 (by decide))))))))), k2849.trans ((kq (a := 6) (b := 5) eσ2835 (by omega)).trans (k2822.trans (k2543.trans ((kq (a := 6) (b := 5) eσ2032 (fun q => absurd q.1 (by decide))).trans (k8.trans ((kq (a := 6) (b := 5) eσ2 (fun q => absurd q.1 (by decide))))))))), k2850.trans ((kq (a := 7) (b := 4) eσ2835 (by omega)).trans (k2823.trans (k2544.trans ((kq (a := 7) (b := 4) eσ2032 (fun q => absurd q.1 (by decide))).trans (k9.trans ((kq (a := 7) (b := 4) eσ2 (fun q => absurd q.1 (by decide))))))))), k2851.trans ((kq (a := 2) (b := 4) eσ2835 (by omega)).trans (k2824.trans (k2545.trans ((kq (a := 2) (b := 4) eσ2032 (fun q => absurd q.1 (by decide))).trans (k10.trans ((kq (a := 2) (b := 4) eσ2 (fun q => absurd q.1 (by decide)))))))))⟩)
                    · first | have f2878 := (noteqE (rfl : (jT r15.toNatClampNeg).toInt = (jT r15.toNatClampNeg).toInt) (show (1 : Int32).toInt = 1 from by decide)).mp c2839 | skip
                      have g2880 : vp_in r15 18 := inE (rfl : r15.toInt = r15.toInt) (by omega) (by omega)
                      refine ⟨g2880, ?_⟩
                      refine ⟨fun c2881 => ?_, fun c2881 => ?_⟩
                      · first | have f2883 := (eqE (rfl : (jT r15.toNatClampNeg).toInt = (jT r15.toNatClampNeg).toInt) (show (2 : Int32).toInt = 2 from by decide)).mp c2881 | skip
                        have f2885 := tB r2550
                        refine sX2_goesThere hN hσ2835 (fun r2899 p2900 => ?_)
                        refine ⟨fun c2901 => ?_, fun c2901 => ?_⟩
                        · have f2902 := tB r2899
                          first | have f2903 := (eqE (rfl : r2899.toInt = r2899.toInt) (show (0 : Int32).toInt = 0 from by decide)).mp c2901 | skip
                          exact hQ _ hσ2835 (⟨(kq (a := 9) (b := 9) eσ2835 (by omega)).trans (k2820.trans (k2541.trans ((kq (a := 9) (b := 9) eσ2032 (fun q => absurd q.1 (by decide))).trans (k6.trans ((kq (a := 9) (b := 9) eσ2 (fun q => absurd q.1 (by decide)))))))), (kq (a := 9) (b := 10) eσ2835 (by omega)).trans (k2821.trans (k2542.trans ((kq (a := 9) (b := 10) eσ2032 (fun q => absurd q.1 (by decide))).trans (k7.trans ((kq (a := 9) (b := 10) eσ2 (fun q => absurd q.1 (by decide)))))))), (kq (a := 6) (b := 5) eσ2835 (by omega)).trans (k2822.trans (k2543.trans ((kq (a := 6) (b := 5) eσ2032 (fun q => absurd q.1 (by decide))).trans (k8.trans ((kq (a := 6) (b := 5) eσ2 (fun q => absurd q.1 (by decide)))))))), (kq (a := 7) (b := 4) eσ2835 (by omega)).trans (k2823.trans (k2544.trans ((kq (a := 7) (b := 4) eσ2032 (fun q => absurd q.1 (by decide))).trans (k9.trans ((kq (a := 7) (b := 4) eσ2 (fun q => absurd q.1 (by decide)))))))), (kq (a := 2) (b := 4) eσ2835 (by omega)).trans (k2824.trans (k2545.trans ((kq (a := 2) (b := 4) eσ2032 (fun q => absurd q.1 (by decide))).trans (k10.trans ((kq (a := 2) (b := 4) eσ2 (fun q => absurd q.1 (by decide))))))))⟩)
                        · have f2904 := tB r2899
                          first | have f2905 := (noteqE (rfl : r2899.toInt = r2899.toInt) (show (0 : Int32).toInt = 0 from by decide)).mp c2901 | skip
                          intro v2906 ev2906
                          intro σ2907 eσ2907
                          have kb2908 := jobK_b hk1
                          have hσ2907 : K1 σ0 σ2907 := by rw [eσ2907]; exact hσ2835.u (rg_jobK hk1) (by omega) (by omega)
                          exact hQ _ hσ2907 (⟨(kq (a := 9) (b := 9) eσ2907 (by omega)).trans ((kq (a := 9) (b := 9) eσ2835 (by omega)).trans (k2820.trans (k2541.trans ((kq (a := 9) (b := 9) eσ2032 (fun q => absurd q.1 (by decide))).trans (k6.trans ((kq (a := 9) (b := 9) eσ2 (fun q => absurd q.1 (by decide))))))))), (kq (a := 9) (b := 10) eσ2907 (by omega)).trans ((kq (a := 9) (b := 10) eσ2835 (by omega)).trans (k2821.trans (k2542.trans ((kq (a := 9) (b := 10) eσ2032 (fun q => absurd q.1 (by decide))).trans (k7.trans ((kq (a := 9) (b := 10) eσ2 (fun q => absurd q.1 (by decide))))))))), (kq (a := 6) (b := 5) eσ2907 (by omega)).trans ((kq (a := 6) (b := 5) eσ2835 (by omega)).trans (k2822.trans (k2543.trans ((kq (a := 6) (b := 5) eσ2032 (fun q => absurd q.1 (by decide))).trans (k8.trans ((kq (a := 6) (b := 5) eσ2 (fun q => absurd q.1 (by decide))))))))), (kq (a := 7) (b := 4) eσ2907 (by omega)).trans ((kq (a := 7) (b := 4) eσ2835 (by omega)).trans (k2823.trans (k2544.trans ((kq (a := 7) (b := 4) eσ2032 (fun q => absurd q.1 (by decide))).trans (k9.trans ((kq (a := 7) (b := 4) eσ2 (fun q => absurd q.1 (by decide))))))))), (kq (a := 2) (b := 4) eσ2907 (by omega)).trans ((kq (a := 2) (b := 4) eσ2835 (by omega)).trans (k2824.trans (k2545.trans ((kq (a := 2) (b := 4) eσ2032 (fun q => absurd q.1 (by decide))).trans (k10.trans ((kq (a := 2) (b := 4) eσ2 (fun q => absurd q.1 (by decide)))))))))⟩)
                      · first | have f2910 := (noteqE (rfl : (jT r15.toNatClampNeg).toInt = (jT r15.toNatClampNeg).toInt) (show (2 : Int32).toInt = 2 from by decide)).mp c2881 | skip
                        have f2912 := tB r2550
                        have f2914 := K1.g_3_7 hσ2835
                        have q2915 : σ2835.1 3 7 = σ2817.1 3 7 := by rw [eσ2835]; exact congrFun (u1_ne (by omega)) 7
                        have f2916 := congrArg Int32.toInt q2915
                        have f2917 := K1.g_3_7 hσ2817
                        have f2918 := congrArg Int32.toInt k2818
                        have f2919 := K1.g_3_7 hσ2538
                        have f2920 := congrArg Int32.toInt k2539
                        have f2921 := K1.g_3_7 hσ2032
                        have q2922 : σ2032.1 3 7 = σ3.1 3 7 := by rw [eσ2032, u1_at]; exact if_neg (by decide)
                        have f2923 := congrArg Int32.toInt q2922
                        have f2924 := K1.g_3_7 hσ3
                        have f2925 := congrArg Int32.toInt k4
                        have f2926 := K1.g_3_7 hσ2
                        have q2927 : σ2.1 3 7 = σ.1 3 7 := by rw [eσ2, u1_at]; exact if_neg (by decide)
                        have f2928 := congrArg Int32.toInt q2927
                        have f2929 := K1.g_3_7 hσ
                        refine sX2_act hN hk1 ⟨by omega, by omega⟩ hσ2835 (fun σ2913 hσ2913 kk2935 => ?_)
                        obtain ⟨k2930, k2931, k2932, k2933, k2934⟩ := kk2935
                        exact hQ _ hσ2913 (⟨k2930.trans ((kq (a := 9) (b := 9) eσ2835 (by omega)).trans (k2820.trans (k2541.trans ((kq (a := 9) (b := 9) eσ2032 (fun q => absurd q.1 (by decide))).trans (k6.trans ((kq (a := 9) (b := 9) eσ2 (fun q => absurd q.1 (by decide))))))))), k2931.trans ((kq (a := 9) (b := 10) eσ2835 (by omega)).trans (k2821.trans (k2542.trans ((kq (a := 9) (b := 10) eσ2032 (fun q => absurd q.1 (by decide))).trans (k7.trans ((kq (a := 9) (b := 10) eσ2 (fun q => absurd q.1 (by decide))))))))), k2932.trans ((kq (a := 6) (b := 5) eσ2835 (by omega)).trans (k2822.trans (k2543.trans ((kq (a := 6) (b := 5) eσ2032 (fun q => absurd q.1 (by decide))).trans (k8.trans ((kq (a := 6) (b := 5) eσ2 (fun q => absurd q.1 (by decide))))))))), k2933.trans ((kq (a := 7) (b := 4) eσ2835 (by omega)).trans (k2823.trans (k2544.trans ((kq (a := 7) (b := 4) eσ2032 (fun q => absurd q.1 (by decide))).trans (k9.trans ((kq (a := 7) (b := 4) eσ2 (fun q => absurd q.1 (by decide))))))))), k2934.trans ((kq (a := 2) (b := 4) eσ2835 (by omega)).trans (k2824.trans (k2545.trans ((kq (a := 2) (b := 4) eσ2032 (fun q => absurd q.1 (by decide))).trans (k10.trans ((kq (a := 2) (b := 4) eσ2 (fun q => absurd q.1 (by decide)))))))))⟩)
                  · have f2936 := tB (σ2817.1 3 11)
                    first | have f2937 := (noteqE (rfl : (σ2817.1 3 11).toInt = (σ2817.1 3 11).toInt) (show (0 : Int32).toInt = 0 from by decide)).mp c2831 | skip
                    exact hQ _ hσ2817 (⟨k2820.trans (k2541.trans ((kq (a := 9) (b := 9) eσ2032 (fun q => absurd q.1 (by decide))).trans (k6.trans ((kq (a := 9) (b := 9) eσ2 (fun q => absurd q.1 (by decide))))))), k2821.trans (k2542.trans ((kq (a := 9) (b := 10) eσ2032 (fun q => absurd q.1 (by decide))).trans (k7.trans ((kq (a := 9) (b := 10) eσ2 (fun q => absurd q.1 (by decide))))))), k2822.trans (k2543.trans ((kq (a := 6) (b := 5) eσ2032 (fun q => absurd q.1 (by decide))).trans (k8.trans ((kq (a := 6) (b := 5) eσ2 (fun q => absurd q.1 (by decide))))))), k2823.trans (k2544.trans ((kq (a := 7) (b := 4) eσ2032 (fun q => absurd q.1 (by decide))).trans (k9.trans ((kq (a := 7) (b := 4) eσ2 (fun q => absurd q.1 (by decide))))))), k2824.trans (k2545.trans ((kq (a := 2) (b := 4) eσ2032 (fun q => absurd q.1 (by decide))).trans (k10.trans ((kq (a := 2) (b := 4) eσ2 (fun q => absurd q.1 (by decide)))))))⟩)
                · first | have f2939 := (noteqE (rfl : (jT r15.toNatClampNeg).toInt = (jT r15.toNatClampNeg).toInt) (show (2 : Int32).toInt = 2 from by decide)).mp c2814 | skip
                  unfold fX2_doOrder_j122
                  refine ⟨fun c2940 => ?_, fun c2940 => ?_⟩
                  · have f2941 := tB (σ2538.1 3 11)
                    first | have f2942 := (eqE (rfl : (σ2538.1 3 11).toInt = (σ2538.1 3 11).toInt) (show (0 : Int32).toInt = 0 from by decide)).mp c2940 | skip
                    intro v2943 ev2943
                    intro σ2944 eσ2944
                    have kb2945 := jobK_b hk1
                    have hσ2944 : K1 σ0 σ2944 := by rw [eσ2944]; exact hσ2538.u (rg_jobK hk1) (by omega) (by omega)
                    have g2947 : vp_in r15 18 := inE (rfl : r15.toInt = r15.toInt) (by omega) (by omega)
                    refine ⟨g2947, ?_⟩
                    refine ⟨fun c2948 => ?_, fun c2948 => ?_⟩
                    · first | have f2950 := (eqE (rfl : (jT r15.toNatClampNeg).toInt = (jT r15.toNatClampNeg).toInt) (show (1 : Int32).toInt = 1 from by decide)).mp c2948 | skip
                      have f2952 := tB r2550
                      refine sX2_valueFor hN hσ2944 (fun r2965 σ2953 hσ2953 kk2964 p2966 => ?_)
                      obtain ⟨k2954, k2955, k2956, k2957, k2958, k2959, k2960, k2961, k2962, k2963⟩ := kk2964
                      refine ⟨fun c2967 => ?_, fun c2967 => ?_⟩
                      · have f2968 := tB (σ2953.1 3 11)
                        first | have f2969 := (eqE (rfl : (σ2953.1 3 11).toInt = (σ2953.1 3 11).toInt) (show (0 : Int32).toInt = 0 from by decide)).mp c2967 | skip
                        have f2970 := tB r2965
                        refine sX1_setLocal hN hk1 hσ2953 (fun σ2971 hσ2971 kk2983 => ?_)
                        obtain ⟨k2972, k2973, k2974, k2975, k2976, k2977, k2978, k2979, k2980, k2981, k2982⟩ := kk2983
                        unfold fX2_doOrder_j174
                        exact hQ _ hσ2971 (⟨k2975.trans (k2956.trans ((kq (a := 9) (b := 9) eσ2944 (by omega)).trans (k2541.trans ((kq (a := 9) (b := 9) eσ2032 (fun q => absurd q.1 (by decide))).trans (k6.trans ((kq (a := 9) (b := 9) eσ2 (fun q => absurd q.1 (by decide))))))))), k2976.trans (k2957.trans ((kq (a := 9) (b := 10) eσ2944 (by omega)).trans (k2542.trans ((kq (a := 9) (b := 10) eσ2032 (fun q => absurd q.1 (by decide))).trans (k7.trans ((kq (a := 9) (b := 10) eσ2 (fun q => absurd q.1 (by decide))))))))), k2977.trans (k2958.trans ((kq (a := 6) (b := 5) eσ2944 (by omega)).trans (k2543.trans ((kq (a := 6) (b := 5) eσ2032 (fun q => absurd q.1 (by decide))).trans (k8.trans ((kq (a := 6) (b := 5) eσ2 (fun q => absurd q.1 (by decide))))))))), k2978.trans (k2959.trans ((kq (a := 7) (b := 4) eσ2944 (by omega)).trans (k2544.trans ((kq (a := 7) (b := 4) eσ2032 (fun q => absurd q.1 (by decide))).trans (k9.trans ((kq (a := 7) (b := 4) eσ2 (fun q => absurd q.1 (by decide))))))))), k2979.trans (k2960.trans ((kq (a := 2) (b := 4) eσ2944 (by omega)).trans (k2545.trans ((kq (a := 2) (b := 4) eσ2032 (fun q => absurd q.1 (by decide))).trans (k10.trans ((kq (a := 2) (b := 4) eσ2 (fun q => absurd q.1 (by decide)))))))))⟩)
                      · have f2984 := tB (σ2953.1 3 11)
                        first | have f2985 := (noteqE (rfl : (σ2953.1 3 11).toInt = (σ2953.1 3 11).toInt) (show (0 : Int32).toInt = 0 from by decide)).mp c2967 | skip
                        unfold fX2_doOrder_j174
                        exact hQ _ hσ2953 (⟨k2956.trans ((kq (a := 9) (b := 9) eσ2944 (by omega)).trans (k2541.trans ((kq (a := 9) (b := 9) eσ2032 (fun q => absurd q.1 (by decide))).trans (k6.trans ((kq (a := 9) (b := 9) eσ2 (fun q => absurd q.1 (by decide)))))))), k2957.trans ((kq (a := 9) (b := 10) eσ2944 (by omega)).trans (k2542.trans ((kq (a := 9) (b := 10) eσ2032 (fun q => absurd q.1 (by decide))).trans (k7.trans ((kq (a := 9) (b := 10) eσ2 (fun q => absurd q.1 (by decide)))))))), k2958.trans ((kq (a := 6) (b := 5) eσ2944 (by omega)).trans (k2543.trans ((kq (a := 6) (b := 5) eσ2032 (fun q => absurd q.1 (by decide))).trans (k8.trans ((kq (a := 6) (b := 5) eσ2 (fun q => absurd q.1 (by decide)))))))), k2959.trans ((kq (a := 7) (b := 4) eσ2944 (by omega)).trans (k2544.trans ((kq (a := 7) (b := 4) eσ2032 (fun q => absurd q.1 (by decide))).trans (k9.trans ((kq (a := 7) (b := 4) eσ2 (fun q => absurd q.1 (by decide)))))))), k2960.trans ((kq (a := 2) (b := 4) eσ2944 (by omega)).trans (k2545.trans ((kq (a := 2) (b := 4) eσ2032 (fun q => absurd q.1 (by decide))).trans (k10.trans ((kq (a := 2) (b := 4) eσ2 (fun q => absurd q.1 (by decide))))))))⟩)
                    · first | have f2987 := (noteqE (rfl : (jT r15.toNatClampNeg).toInt = (jT r15.toNatClampNeg).toInt) (show (1 : Int32).toInt = 1 from by decide)).mp c2948 | skip
                      have g2989 : vp_in r15 18 := inE (rfl : r15.toInt = r15.toInt) (by omega) (by omega)
                      refine ⟨g2989, ?_⟩
                      refine ⟨fun c2990 => ?_, fun c2990 => ?_⟩
                      · first | have f2992 := (eqE (rfl : (jT r15.toNatClampNeg).toInt = (jT r15.toNatClampNeg).toInt) (show (2 : Int32).toInt = 2 from by decide)).mp c2990 | skip
                        have f2994 := tB r2550
                        refine sX2_goesThere hN hσ2944 (fun r3008 p3009 => ?_)
                        refine ⟨fun c3010 => ?_, fun c3010 => ?_⟩
                        · have f3011 := tB r3008
                          first | have f3012 := (eqE (rfl : r3008.toInt = r3008.toInt) (show (0 : Int32).toInt = 0 from by decide)).mp c3010 | skip
                          exact hQ _ hσ2944 (⟨(kq (a := 9) (b := 9) eσ2944 (by omega)).trans (k2541.trans ((kq (a := 9) (b := 9) eσ2032 (fun q => absurd q.1 (by decide))).trans (k6.trans ((kq (a := 9) (b := 9) eσ2 (fun q => absurd q.1 (by decide))))))), (kq (a := 9) (b := 10) eσ2944 (by omega)).trans (k2542.trans ((kq (a := 9) (b := 10) eσ2032 (fun q => absurd q.1 (by decide))).trans (k7.trans ((kq (a := 9) (b := 10) eσ2 (fun q => absurd q.1 (by decide))))))), (kq (a := 6) (b := 5) eσ2944 (by omega)).trans (k2543.trans ((kq (a := 6) (b := 5) eσ2032 (fun q => absurd q.1 (by decide))).trans (k8.trans ((kq (a := 6) (b := 5) eσ2 (fun q => absurd q.1 (by decide))))))), (kq (a := 7) (b := 4) eσ2944 (by omega)).trans (k2544.trans ((kq (a := 7) (b := 4) eσ2032 (fun q => absurd q.1 (by decide))).trans (k9.trans ((kq (a := 7) (b := 4) eσ2 (fun q => absurd q.1 (by decide))))))), (kq (a := 2) (b := 4) eσ2944 (by omega)).trans (k2545.trans ((kq (a := 2) (b := 4) eσ2032 (fun q => absurd q.1 (by decide))).trans (k10.trans ((kq (a := 2) (b := 4) eσ2 (fun q => absurd q.1 (by decide)))))))⟩)
                        · have f3013 := tB r3008
                          first | have f3014 := (noteqE (rfl : r3008.toInt = r3008.toInt) (show (0 : Int32).toInt = 0 from by decide)).mp c3010 | skip
                          intro v3015 ev3015
                          intro σ3016 eσ3016
                          have kb3017 := jobK_b hk1
                          have hσ3016 : K1 σ0 σ3016 := by rw [eσ3016]; exact hσ2944.u (rg_jobK hk1) (by omega) (by omega)
                          exact hQ _ hσ3016 (⟨(kq (a := 9) (b := 9) eσ3016 (by omega)).trans ((kq (a := 9) (b := 9) eσ2944 (by omega)).trans (k2541.trans ((kq (a := 9) (b := 9) eσ2032 (fun q => absurd q.1 (by decide))).trans (k6.trans ((kq (a := 9) (b := 9) eσ2 (fun q => absurd q.1 (by decide)))))))), (kq (a := 9) (b := 10) eσ3016 (by omega)).trans ((kq (a := 9) (b := 10) eσ2944 (by omega)).trans (k2542.trans ((kq (a := 9) (b := 10) eσ2032 (fun q => absurd q.1 (by decide))).trans (k7.trans ((kq (a := 9) (b := 10) eσ2 (fun q => absurd q.1 (by decide)))))))), (kq (a := 6) (b := 5) eσ3016 (by omega)).trans ((kq (a := 6) (b := 5) eσ2944 (by omega)).trans (k2543.trans ((kq (a := 6) (b := 5) eσ2032 (fun q => absurd q.1 (by decide))).trans (k8.trans ((kq (a := 6) (b := 5) eσ2 (fun q => absurd q.1 (by decide)))))))), (kq (a := 7) (b := 4) eσ3016 (by omega)).trans ((kq (a := 7) (b := 4) eσ2944 (by omega)).trans (k2544.trans ((kq (a := 7) (b := 4) eσ2032 (fun q => absurd q.1 (by decide))).trans (k9.trans ((kq (a := 7) (b := 4) eσ2 (fun q => absurd q.1 (by decide)))))))), (kq (a := 2) (b := 4) eσ3016 (by omega)).trans ((kq (a := 2) (b := 4) eσ2944 (by omega)).trans (k2545.trans ((kq (a := 2) (b := 4) eσ2032 (fun q => absurd q.1 (by decide))).trans (k10.trans ((kq (a := 2) (b := 4) eσ2 (fun q => absurd q.1 (by decide))))))))⟩)
                      · first | have f3019 := (noteqE (rfl : (jT r15.toNatClampNeg).toInt = (jT r15.toNatClampNeg).toInt) (show (2 : Int32).toInt = 2 from by decide)).mp c2990 | skip
                        have f3021 := tB r2550
                        have f3023 := K1.g_3_7 hσ2944
                        have q3024 : σ2944.1 3 7 = σ2538.1 3 7 := by rw [eσ2944]; exact congrFun (u1_ne (by omega)) 7
                        have f3025 := congrArg Int32.toInt q3024
                        have f3026 := K1.g_3_7 hσ2538
                        have f3027 := congrArg Int32.toInt k2539
                        have f3028 := K1.g_3_7 hσ2032
                        have q3029 : σ2032.1 3 7 = σ3.1 3 7 := by rw [eσ2032, u1_at]; exact if_neg (by decide)
                        have f3030 := congrArg Int32.toInt q3029
                        have f3031 := K1.g_3_7 hσ3
                        have f3032 := congrArg Int32.toInt k4
                        have f3033 := K1.g_3_7 hσ2
                        have q3034 : σ2.1 3 7 = σ.1 3 7 := by rw [eσ2, u1_at]; exact if_neg (by decide)
                        have f3035 := congrArg Int32.toInt q3034
                        have f3036 := K1.g_3_7 hσ
                        refine sX2_act hN hk1 ⟨by omega, by omega⟩ hσ2944 (fun σ3022 hσ3022 kk3042 => ?_)
                        obtain ⟨k3037, k3038, k3039, k3040, k3041⟩ := kk3042
                        exact hQ _ hσ3022 (⟨k3037.trans ((kq (a := 9) (b := 9) eσ2944 (by omega)).trans (k2541.trans ((kq (a := 9) (b := 9) eσ2032 (fun q => absurd q.1 (by decide))).trans (k6.trans ((kq (a := 9) (b := 9) eσ2 (fun q => absurd q.1 (by decide)))))))), k3038.trans ((kq (a := 9) (b := 10) eσ2944 (by omega)).trans (k2542.trans ((kq (a := 9) (b := 10) eσ2032 (fun q => absurd q.1 (by decide))).trans (k7.trans ((kq (a := 9) (b := 10) eσ2 (fun q => absurd q.1 (by decide)))))))), k3039.trans ((kq (a := 6) (b := 5) eσ2944 (by omega)).trans (k2543.trans ((kq (a := 6) (b := 5) eσ2032 (fun q => absurd q.1 (by decide))).trans (k8.trans ((kq (a := 6) (b := 5) eσ2 (fun q => absurd q.1 (by decide)))))))), k3040.trans ((kq (a := 7) (b := 4) eσ2944 (by omega)).trans (k2544.trans ((kq (a := 7) (b := 4) eσ2032 (fun q => absurd q.1 (by decide))).trans (k9.trans ((kq (a := 7) (b := 4) eσ2 (fun q => absurd q.1 (by decide)))))))), k3041.trans ((kq (a := 2) (b := 4) eσ2944 (by omega)).trans (k2545.trans ((kq (a := 2) (b := 4) eσ2032 (fun q => absurd q.1 (by decide))).trans (k10.trans ((kq (a := 2) (b := 4) eσ2 (fun q => absurd q.1 (by decide))))))))⟩)
                  · have f3043 := tB (σ2538.1 3 11)
                    first | have f3044 := (noteqE (rfl : (σ2538.1 3 11).toInt = (σ2538.1 3 11).toInt) (show (0 : Int32).toInt = 0 from by decide)).mp c2940 | skip
                    exact hQ _ hσ2538 (⟨k2541.trans ((kq (a := 9) (b := 9) eσ2032 (fun q => absurd q.1 (by decide))).trans (k6.trans ((kq (a := 9) (b := 9) eσ2 (fun q => absurd q.1 (by decide)))))), k2542.trans ((kq (a := 9) (b := 10) eσ2032 (fun q => absurd q.1 (by decide))).trans (k7.trans ((kq (a := 9) (b := 10) eσ2 (fun q => absurd q.1 (by decide)))))), k2543.trans ((kq (a := 6) (b := 5) eσ2032 (fun q => absurd q.1 (by decide))).trans (k8.trans ((kq (a := 6) (b := 5) eσ2 (fun q => absurd q.1 (by decide)))))), k2544.trans ((kq (a := 7) (b := 4) eσ2032 (fun q => absurd q.1 (by decide))).trans (k9.trans ((kq (a := 7) (b := 4) eσ2 (fun q => absurd q.1 (by decide)))))), k2545.trans ((kq (a := 2) (b := 4) eσ2032 (fun q => absurd q.1 (by decide))).trans (k10.trans ((kq (a := 2) (b := 4) eσ2 (fun q => absurd q.1 (by decide))))))⟩)
          · have f3045 := tB (jV r15.toNatClampNeg)
            first | have f3046 := (notleE (rfl : (jV r15.toNatClampNeg).toInt = (jV r15.toNatClampNeg).toInt) (show (0 : Int32).toInt = 0 from by decide)).mp c2055 | skip
            refine sX2_nextValue hN hk1 hσ2032 (fun r3059 σ3047 hσ3047 kk3058 p3060 => ?_)
            obtain ⟨k3048, k3049, k3050, k3051, k3052, k3053, k3054, k3055, k3056, k3057⟩ := kk3058
            unfold fX2_doOrder_j62
            have g3062 : vp_in r15 18 := inE (rfl : r15.toInt = r15.toInt) (by omega) (by omega)
            refine ⟨g3062, ?_⟩
            refine ⟨fun c3063 => ?_, fun c3063 => ?_⟩
            · first | have f3065 := (leE (rfl : (jV r15.toNatClampNeg).toInt = (jV r15.toNatClampNeg).toInt) (show (1 : Int32).toInt = 1 from by decide)).mp c3063 | skip
              unfold fX2_doOrder_j81
              have g3067 : vp_in r15 18 := inE (rfl : r15.toInt = r15.toInt) (by omega) (by omega)
              refine ⟨g3067, ?_⟩
              refine ⟨fun c3068 => ?_, fun c3068 => ?_⟩
              · have f3069 := tB (jT r15.toNatClampNeg)
                first | have f3070 := (eqE (rfl : (jT r15.toNatClampNeg).toInt = (jT r15.toNatClampNeg).toInt) (show (1 : Int32).toInt = 1 from by decide)).mp c3068 | skip
                refine sX2_nextTarget hN hk1 hσ3047 (fun r3083 σ3071 hσ3071 kk3082 p3084 => ?_)
                obtain ⟨k3072, k3073, k3074, k3075, k3076, k3077, k3078, k3079, k3080, k3081⟩ := kk3082
                unfold fX2_doOrder_j103
                have g3086 : vp_in r15 18 := inE (rfl : r15.toInt = r15.toInt) (by omega) (by omega)
                refine ⟨g3086, ?_⟩
                refine ⟨fun c3087 => ?_, fun c3087 => ?_⟩
                · first | have f3089 := (eqE (rfl : (jT r15.toNatClampNeg).toInt = (jT r15.toNatClampNeg).toInt) (show (2 : Int32).toInt = 2 from by decide)).mp c3087 | skip
                  refine sX2_nextDistance hN hσ3071 (fun r3102 σ3090 hσ3090 kk3101 p3103 => ?_)
                  obtain ⟨k3091, k3092, k3093, k3094, k3095, k3096, k3097, k3098, k3099, k3100⟩ := kk3101
                  unfold fX2_doOrder_j122
                  refine ⟨fun c3104 => ?_, fun c3104 => ?_⟩
                  · have f3105 := tB (σ3090.1 3 11)
                    first | have f3106 := (eqE (rfl : (σ3090.1 3 11).toInt = (σ3090.1 3 11).toInt) (show (0 : Int32).toInt = 0 from by decide)).mp c3104 | skip
                    intro v3107 ev3107
                    intro σ3108 eσ3108
                    have kb3109 := jobK_b hk1
                    have hσ3108 : K1 σ0 σ3108 := by rw [eσ3108]; exact hσ3090.u (rg_jobK hk1) (by omega) (by omega)
                    have g3111 : vp_in r15 18 := inE (rfl : r15.toInt = r15.toInt) (by omega) (by omega)
                    refine ⟨g3111, ?_⟩
                    refine ⟨fun c3112 => ?_, fun c3112 => ?_⟩
                    · first | have f3114 := (eqE (rfl : (jT r15.toNatClampNeg).toInt = (jT r15.toNatClampNeg).toInt) (show (1 : Int32).toInt = 1 from by decide)).mp c3112 | skip
                      have f3116 := tB r3059
                      refine sX2_valueFor hN hσ3108 (fun r3129 σ3117 hσ3117 kk3128 p3130 => ?_)
                      obtain ⟨k3118, k3119, k3120, k3121, k3122, k3123, k3124, k3125, k3126, k3127⟩ := kk3128
                      refine ⟨fun c3131 => ?_, fun c3131 => ?_⟩
                      · have f3132 := tB (σ3117.1 3 11)
                        first | have f3133 := (eqE (rfl : (σ3117.1 3 11).toInt = (σ3117.1 3 11).toInt) (show (0 : Int32).toInt = 0 from by decide)).mp c3131 | skip
                        have f3134 := tB r3083
                        have f3135 := tB r3129
                        refine sX1_setLocal hN hk1 hσ3117 (fun σ3136 hσ3136 kk3148 => ?_)
                        obtain ⟨k3137, k3138, k3139, k3140, k3141, k3142, k3143, k3144, k3145, k3146, k3147⟩ := kk3148
                        unfold fX2_doOrder_j174
                        exact hQ _ hσ3136 (⟨k3140.trans (k3120.trans ((kq (a := 9) (b := 9) eσ3108 (by omega)).trans (k3093.trans (k3074.trans (k3050.trans ((kq (a := 9) (b := 9) eσ2032 (fun q => absurd q.1 (by decide))).trans (k6.trans ((kq (a := 9) (b := 9) eσ2 (fun q => absurd q.1 (by decide))))))))))), k3141.trans (k3121.trans ((kq (a := 9) (b := 10) eσ3108 (by omega)).trans (k3094.trans (k3075.trans (k3051.trans ((kq (a := 9) (b := 10) eσ2032 (fun q => absurd q.1 (by decide))).trans (k7.trans ((kq (a := 9) (b := 10) eσ2 (fun q => absurd q.1 (by decide))))))))))), k3142.trans (k3122.trans ((kq (a := 6) (b := 5) eσ3108 (by omega)).trans (k3095.trans (k3076.trans (k3052.trans ((kq (a := 6) (b := 5) eσ2032 (fun q => absurd q.1 (by decide))).trans (k8.trans ((kq (a := 6) (b := 5) eσ2 (fun q => absurd q.1 (by decide))))))))))), k3143.trans (k3123.trans ((kq (a := 7) (b := 4) eσ3108 (by omega)).trans (k3096.trans (k3077.trans (k3053.trans ((kq (a := 7) (b := 4) eσ2032 (fun q => absurd q.1 (by decide))).trans (k9.trans ((kq (a := 7) (b := 4) eσ2 (fun q => absurd q.1 (by decide))))))))))), k3144.trans (k3124.trans ((kq (a := 2) (b := 4) eσ3108 (by omega)).trans (k3097.trans (k3078.trans (k3054.trans ((kq (a := 2) (b := 4) eσ2032 (fun q => absurd q.1 (by decide))).trans (k10.trans ((kq (a := 2) (b := 4) eσ2 (fun q => absurd q.1 (by decide)))))))))))⟩)
                      · have f3149 := tB (σ3117.1 3 11)
                        first | have f3150 := (noteqE (rfl : (σ3117.1 3 11).toInt = (σ3117.1 3 11).toInt) (show (0 : Int32).toInt = 0 from by decide)).mp c3131 | skip
                        unfold fX2_doOrder_j174
                        exact hQ _ hσ3117 (⟨k3120.trans ((kq (a := 9) (b := 9) eσ3108 (by omega)).trans (k3093.trans (k3074.trans (k3050.trans ((kq (a := 9) (b := 9) eσ2032 (fun q => absurd q.1 (by decide))).trans (k6.trans ((kq (a := 9) (b := 9) eσ2 (fun q => absurd q.1 (by decide)))))))))), k3121.trans ((kq (a := 9) (b := 10) eσ3108 (by omega)).trans (k3094.trans (k3075.trans (k3051.trans ((kq (a := 9) (b := 10) eσ2032 (fun q => absurd q.1 (by decide))).trans (k7.trans ((kq (a := 9) (b := 10) eσ2 (fun q => absurd q.1 (by decide)))))))))), k3122.trans ((kq (a := 6) (b := 5) eσ3108 (by omega)).trans (k3095.trans (k3076.trans (k3052.trans ((kq (a := 6) (b := 5) eσ2032 (fun q => absurd q.1 (by decide))).trans (k8.trans ((kq (a := 6) (b := 5) eσ2 (fun q => absurd q.1 (by decide)))))))))), k3123.trans ((kq (a := 7) (b := 4) eσ3108 (by omega)).trans (k3096.trans (k3077.trans (k3053.trans ((kq (a := 7) (b := 4) eσ2032 (fun q => absurd q.1 (by decide))).trans (k9.trans ((kq (a := 7) (b := 4) eσ2 (fun q => absurd q.1 (by decide)))))))))), k3124.trans ((kq (a := 2) (b := 4) eσ3108 (by omega)).trans (k3097.trans (k3078.trans (k3054.trans ((kq (a := 2) (b := 4) eσ2032 (fun q => absurd q.1 (by decide))).trans (k10.trans ((kq (a := 2) (b := 4) eσ2 (fun q => absurd q.1 (by decide))))))))))⟩)
                    · first | have f3152 := (noteqE (rfl : (jT r15.toNatClampNeg).toInt = (jT r15.toNatClampNeg).toInt) (show (1 : Int32).toInt = 1 from by decide)).mp c3112 | skip
                      have g3154 : vp_in r15 18 := inE (rfl : r15.toInt = r15.toInt) (by omega) (by omega)
                      refine ⟨g3154, ?_⟩
                      refine ⟨fun c3155 => ?_, fun c3155 => ?_⟩
                      · first | have f3157 := (eqE (rfl : (jT r15.toNatClampNeg).toInt = (jT r15.toNatClampNeg).toInt) (show (2 : Int32).toInt = 2 from by decide)).mp c3155 | skip
                        have f3159 := tB r3059
                        refine sX2_goesThere hN hσ3108 (fun r3173 p3174 => ?_)
                        refine ⟨fun c3175 => ?_, fun c3175 => ?_⟩
                        · have f3176 := tB r3173
                          first | have f3177 := (eqE (rfl : r3173.toInt = r3173.toInt) (show (0 : Int32).toInt = 0 from by decide)).mp c3175 | skip
                          exact hQ _ hσ3108 (⟨(kq (a := 9) (b := 9) eσ3108 (by omega)).trans (k3093.trans (k3074.trans (k3050.trans ((kq (a := 9) (b := 9) eσ2032 (fun q => absurd q.1 (by decide))).trans (k6.trans ((kq (a := 9) (b := 9) eσ2 (fun q => absurd q.1 (by decide))))))))), (kq (a := 9) (b := 10) eσ3108 (by omega)).trans (k3094.trans (k3075.trans (k3051.trans ((kq (a := 9) (b := 10) eσ2032 (fun q => absurd q.1 (by decide))).trans (k7.trans ((kq (a := 9) (b := 10) eσ2 (fun q => absurd q.1 (by decide))))))))), (kq (a := 6) (b := 5) eσ3108 (by omega)).trans (k3095.trans (k3076.trans (k3052.trans ((kq (a := 6) (b := 5) eσ2032 (fun q => absurd q.1 (by decide))).trans (k8.trans ((kq (a := 6) (b := 5) eσ2 (fun q => absurd q.1 (by decide))))))))), (kq (a := 7) (b := 4) eσ3108 (by omega)).trans (k3096.trans (k3077.trans (k3053.trans ((kq (a := 7) (b := 4) eσ2032 (fun q => absurd q.1 (by decide))).trans (k9.trans ((kq (a := 7) (b := 4) eσ2 (fun q => absurd q.1 (by decide))))))))), (kq (a := 2) (b := 4) eσ3108 (by omega)).trans (k3097.trans (k3078.trans (k3054.trans ((kq (a := 2) (b := 4) eσ2032 (fun q => absurd q.1 (by decide))).trans (k10.trans ((kq (a := 2) (b := 4) eσ2 (fun q => absurd q.1 (by decide)))))))))⟩)
                        · have f3178 := tB r3173
                          first | have f3179 := (noteqE (rfl : r3173.toInt = r3173.toInt) (show (0 : Int32).toInt = 0 from by decide)).mp c3175 | skip
                          intro v3180 ev3180
                          intro σ3181 eσ3181
                          have kb3182 := jobK_b hk1
                          have hσ3181 : K1 σ0 σ3181 := by rw [eσ3181]; exact hσ3108.u (rg_jobK hk1) (by omega) (by omega)
                          exact hQ _ hσ3181 (⟨(kq (a := 9) (b := 9) eσ3181 (by omega)).trans ((kq (a := 9) (b := 9) eσ3108 (by omega)).trans (k3093.trans (k3074.trans (k3050.trans ((kq (a := 9) (b := 9) eσ2032 (fun q => absurd q.1 (by decide))).trans (k6.trans ((kq (a := 9) (b := 9) eσ2 (fun q => absurd q.1 (by decide)))))))))), (kq (a := 9) (b := 10) eσ3181 (by omega)).trans ((kq (a := 9) (b := 10) eσ3108 (by omega)).trans (k3094.trans (k3075.trans (k3051.trans ((kq (a := 9) (b := 10) eσ2032 (fun q => absurd q.1 (by decide))).trans (k7.trans ((kq (a := 9) (b := 10) eσ2 (fun q => absurd q.1 (by decide)))))))))), (kq (a := 6) (b := 5) eσ3181 (by omega)).trans ((kq (a := 6) (b := 5) eσ3108 (by omega)).trans (k3095.trans (k3076.trans (k3052.trans ((kq (a := 6) (b := 5) eσ2032 (fun q => absurd q.1 (by decide))).trans (k8.trans ((kq (a := 6) (b := 5) eσ2 (fun q => absurd q.1 (by decide)))))))))), (kq (a := 7) (b := 4) eσ3181 (by omega)).trans ((kq (a := 7) (b := 4) eσ3108 (by omega)).trans (k3096.trans (k3077.trans (k3053.trans ((kq (a := 7) (b := 4) eσ2032 (fun q => absurd q.1 (by decide))).trans (k9.trans ((kq (a := 7) (b := 4) eσ2 (fun q => absurd q.1 (by decide)))))))))), (kq (a := 2) (b := 4) eσ3181 (by omega)).trans ((kq (a := 2) (b := 4) eσ3108 (by omega)).trans (k3097.trans (k3078.trans (k3054.trans ((kq (a := 2) (b := 4) eσ2032 (fun q => absurd q.1 (by decide))).trans (k10.trans ((kq (a := 2) (b := 4) eσ2 (fun q => absurd q.1 (by decide))))))))))⟩)
                      · first | have f3184 := (noteqE (rfl : (jT r15.toNatClampNeg).toInt = (jT r15.toNatClampNeg).toInt) (show (2 : Int32).toInt = 2 from by decide)).mp c3155 | skip
                        have f3186 := tB r3059
                        have f3188 := K1.g_3_7 hσ3108
                        have q3189 : σ3108.1 3 7 = σ3090.1 3 7 := by rw [eσ3108]; exact congrFun (u1_ne (by omega)) 7
                        have f3190 := congrArg Int32.toInt q3189
                        have f3191 := K1.g_3_7 hσ3090
                        have f3192 := congrArg Int32.toInt k3091
                        have f3193 := K1.g_3_7 hσ3071
                        have f3194 := congrArg Int32.toInt k3072
                        have f3195 := K1.g_3_7 hσ3047
                        have f3196 := congrArg Int32.toInt k3048
                        have f3197 := K1.g_3_7 hσ2032
                        have q3198 : σ2032.1 3 7 = σ3.1 3 7 := by rw [eσ2032, u1_at]; exact if_neg (by decide)
                        have f3199 := congrArg Int32.toInt q3198
                        have f3200 := K1.g_3_7 hσ3
                        have f3201 := congrArg Int32.toInt k4
                        have f3202 := K1.g_3_7 hσ2
                        have q3203 : σ2.1 3 7 = σ.1 3 7 := by rw [eσ2, u1_at]; exact if_neg (by decide)
                        have f3204 := congrArg Int32.toInt q3203
                        have f3205 := K1.g_3_7 hσ
                        refine sX2_act hN hk1 ⟨by omega, by omega⟩ hσ3108 (fun σ3187 hσ3187 kk3211 => ?_)
                        obtain ⟨k3206, k3207, k3208, k3209, k3210⟩ := kk3211
                        exact hQ _ hσ3187 (⟨k3206.trans ((kq (a := 9) (b := 9) eσ3108 (by omega)).trans (k3093.trans (k3074.trans (k3050.trans ((kq (a := 9) (b := 9) eσ2032 (fun q => absurd q.1 (by decide))).trans (k6.trans ((kq (a := 9) (b := 9) eσ2 (fun q => absurd q.1 (by decide)))))))))), k3207.trans ((kq (a := 9) (b := 10) eσ3108 (by omega)).trans (k3094.trans (k3075.trans (k3051.trans ((kq (a := 9) (b := 10) eσ2032 (fun q => absurd q.1 (by decide))).trans (k7.trans ((kq (a := 9) (b := 10) eσ2 (fun q => absurd q.1 (by decide)))))))))), k3208.trans ((kq (a := 6) (b := 5) eσ3108 (by omega)).trans (k3095.trans (k3076.trans (k3052.trans ((kq (a := 6) (b := 5) eσ2032 (fun q => absurd q.1 (by decide))).trans (k8.trans ((kq (a := 6) (b := 5) eσ2 (fun q => absurd q.1 (by decide)))))))))), k3209.trans ((kq (a := 7) (b := 4) eσ3108 (by omega)).trans (k3096.trans (k3077.trans (k3053.trans ((kq (a := 7) (b := 4) eσ2032 (fun q => absurd q.1 (by decide))).trans (k9.trans ((kq (a := 7) (b := 4) eσ2 (fun q => absurd q.1 (by decide)))))))))), k3210.trans ((kq (a := 2) (b := 4) eσ3108 (by omega)).trans (k3097.trans (k3078.trans (k3054.trans ((kq (a := 2) (b := 4) eσ2032 (fun q => absurd q.1 (by decide))).trans (k10.trans ((kq (a := 2) (b := 4) eσ2 (fun q => absurd q.1 (by decide))))))))))⟩)
                  · have f3212 := tB (σ3090.1 3 11)
                    first | have f3213 := (noteqE (rfl : (σ3090.1 3 11).toInt = (σ3090.1 3 11).toInt) (show (0 : Int32).toInt = 0 from by decide)).mp c3104 | skip
                    exact hQ _ hσ3090 (⟨k3093.trans (k3074.trans (k3050.trans ((kq (a := 9) (b := 9) eσ2032 (fun q => absurd q.1 (by decide))).trans (k6.trans ((kq (a := 9) (b := 9) eσ2 (fun q => absurd q.1 (by decide)))))))), k3094.trans (k3075.trans (k3051.trans ((kq (a := 9) (b := 10) eσ2032 (fun q => absurd q.1 (by decide))).trans (k7.trans ((kq (a := 9) (b := 10) eσ2 (fun q => absurd q.1 (by decide)))))))), k3095.trans (k3076.trans (k3052.trans ((kq (a := 6) (b := 5) eσ2032 (fun q => absurd q.1 (by decide))).trans (k8.trans ((kq (a := 6) (b := 5) eσ2 (fun q => absurd q.1 (by decide)))))))), k3096.trans (k3077.trans (k3053.trans ((kq (a := 7) (b := 4) eσ2032 (fun q => absurd q.1 (by decide))).trans (k9.trans ((kq (a := 7) (b := 4) eσ2 (fun q => absurd q.1 (by decide)))))))), k3097.trans (k3078.trans (k3054.trans ((kq (a := 2) (b := 4) eσ2032 (fun q => absurd q.1 (by decide))).trans (k10.trans ((kq (a := 2) (b := 4) eσ2 (fun q => absurd q.1 (by decide))))))))⟩)
                · first | have f3215 := (noteqE (rfl : (jT r15.toNatClampNeg).toInt = (jT r15.toNatClampNeg).toInt) (show (2 : Int32).toInt = 2 from by decide)).mp c3087 | skip
                  unfold fX2_doOrder_j122
                  refine ⟨fun c3216 => ?_, fun c3216 => ?_⟩
                  · have f3217 := tB (σ3071.1 3 11)
                    first | have f3218 := (eqE (rfl : (σ3071.1 3 11).toInt = (σ3071.1 3 11).toInt) (show (0 : Int32).toInt = 0 from by decide)).mp c3216 | skip
                    intro v3219 ev3219
                    intro σ3220 eσ3220
                    have kb3221 := jobK_b hk1
                    have hσ3220 : K1 σ0 σ3220 := by rw [eσ3220]; exact hσ3071.u (rg_jobK hk1) (by omega) (by omega)
                    have g3223 : vp_in r15 18 := inE (rfl : r15.toInt = r15.toInt) (by omega) (by omega)
                    refine ⟨g3223, ?_⟩
                    refine ⟨fun c3224 => ?_, fun c3224 => ?_⟩
                    · first | have f3226 := (eqE (rfl : (jT r15.toNatClampNeg).toInt = (jT r15.toNatClampNeg).toInt) (show (1 : Int32).toInt = 1 from by decide)).mp c3224 | skip
                      have f3228 := tB r3059
                      refine sX2_valueFor hN hσ3220 (fun r3241 σ3229 hσ3229 kk3240 p3242 => ?_)
                      obtain ⟨k3230, k3231, k3232, k3233, k3234, k3235, k3236, k3237, k3238, k3239⟩ := kk3240
                      refine ⟨fun c3243 => ?_, fun c3243 => ?_⟩
                      · have f3244 := tB (σ3229.1 3 11)
                        first | have f3245 := (eqE (rfl : (σ3229.1 3 11).toInt = (σ3229.1 3 11).toInt) (show (0 : Int32).toInt = 0 from by decide)).mp c3243 | skip
                        have f3246 := tB r3083
                        have f3247 := tB r3241
                        refine sX1_setLocal hN hk1 hσ3229 (fun σ3248 hσ3248 kk3260 => ?_)
                        obtain ⟨k3249, k3250, k3251, k3252, k3253, k3254, k3255, k3256, k3257, k3258, k3259⟩ := kk3260
                        unfold fX2_doOrder_j174
                        exact hQ _ hσ3248 (⟨k3252.trans (k3232.trans ((kq (a := 9) (b := 9) eσ3220 (by omega)).trans (k3074.trans (k3050.trans ((kq (a := 9) (b := 9) eσ2032 (fun q => absurd q.1 (by decide))).trans (k6.trans ((kq (a := 9) (b := 9) eσ2 (fun q => absurd q.1 (by decide)))))))))), k3253.trans (k3233.trans ((kq (a := 9) (b := 10) eσ3220 (by omega)).trans (k3075.trans (k3051.trans ((kq (a := 9) (b := 10) eσ2032 (fun q => absurd q.1 (by decide))).trans (k7.trans ((kq (a := 9) (b := 10) eσ2 (fun q => absurd q.1 (by decide)))))))))), k3254.trans (k3234.trans ((kq (a := 6) (b := 5) eσ3220 (by omega)).trans (k3076.trans (k3052.trans ((kq (a := 6) (b := 5) eσ2032 (fun q => absurd q.1 (by decide))).trans (k8.trans ((kq (a := 6) (b := 5) eσ2 (fun q => absurd q.1 (by decide)))))))))), k3255.trans (k3235.trans ((kq (a := 7) (b := 4) eσ3220 (by omega)).trans (k3077.trans (k3053.trans ((kq (a := 7) (b := 4) eσ2032 (fun q => absurd q.1 (by decide))).trans (k9.trans ((kq (a := 7) (b := 4) eσ2 (fun q => absurd q.1 (by decide)))))))))), k3256.trans (k3236.trans ((kq (a := 2) (b := 4) eσ3220 (by omega)).trans (k3078.trans (k3054.trans ((kq (a := 2) (b := 4) eσ2032 (fun q => absurd q.1 (by decide))).trans (k10.trans ((kq (a := 2) (b := 4) eσ2 (fun q => absurd q.1 (by decide))))))))))⟩)
                      · have f3261 := tB (σ3229.1 3 11)
                        first | have f3262 := (noteqE (rfl : (σ3229.1 3 11).toInt = (σ3229.1 3 11).toInt) (show (0 : Int32).toInt = 0 from by decide)).mp c3243 | skip
                        unfold fX2_doOrder_j174
                        exact hQ _ hσ3229 (⟨k3232.trans ((kq (a := 9) (b := 9) eσ3220 (by omega)).trans (k3074.trans (k3050.trans ((kq (a := 9) (b := 9) eσ2032 (fun q => absurd q.1 (by decide))).trans (k6.trans ((kq (a := 9) (b := 9) eσ2 (fun q => absurd q.1 (by decide))))))))), k3233.trans ((kq (a := 9) (b := 10) eσ3220 (by omega)).trans (k3075.trans (k3051.trans ((kq (a := 9) (b := 10) eσ2032 (fun q => absurd q.1 (by decide))).trans (k7.trans ((kq (a := 9) (b := 10) eσ2 (fun q => absurd q.1 (by decide))))))))), k3234.trans ((kq (a := 6) (b := 5) eσ3220 (by omega)).trans (k3076.trans (k3052.trans ((kq (a := 6) (b := 5) eσ2032 (fun q => absurd q.1 (by decide))).trans (k8.trans ((kq (a := 6) (b := 5) eσ2 (fun q => absurd q.1 (by decide))))))))), k3235.trans ((kq (a := 7) (b := 4) eσ3220 (by omega)).trans (k3077.trans (k3053.trans ((kq (a := 7) (b := 4) eσ2032 (fun q => absurd q.1 (by decide))).trans (k9.trans ((kq (a := 7) (b := 4) eσ2 (fun q => absurd q.1 (by decide))))))))), k3236.trans ((kq (a := 2) (b := 4) eσ3220 (by omega)).trans (k3078.trans (k3054.trans ((kq (a := 2) (b := 4) eσ2032 (fun q => absurd q.1 (by decide))).trans (k10.trans ((kq (a := 2) (b := 4) eσ2 (fun q => absurd q.1 (by decide)))))))))⟩)
                    · first | have f3264 := (noteqE (rfl : (jT r15.toNatClampNeg).toInt = (jT r15.toNatClampNeg).toInt) (show (1 : Int32).toInt = 1 from by decide)).mp c3224 | skip
                      have g3266 : vp_in r15 18 := inE (rfl : r15.toInt = r15.toInt) (by omega) (by omega)
                      refine ⟨g3266, ?_⟩
                      refine ⟨fun c3267 => ?_, fun c3267 => ?_⟩
                      · first | have f3269 := (eqE (rfl : (jT r15.toNatClampNeg).toInt = (jT r15.toNatClampNeg).toInt) (show (2 : Int32).toInt = 2 from by decide)).mp c3267 | skip
                        have f3271 := tB r3059
                        refine sX2_goesThere hN hσ3220 (fun r3285 p3286 => ?_)
                        refine ⟨fun c3287 => ?_, fun c3287 => ?_⟩
                        · have f3288 := tB r3285
                          first | have f3289 := (eqE (rfl : r3285.toInt = r3285.toInt) (show (0 : Int32).toInt = 0 from by decide)).mp c3287 | skip
                          exact hQ _ hσ3220 (⟨(kq (a := 9) (b := 9) eσ3220 (by omega)).trans (k3074.trans (k3050.trans ((kq (a := 9) (b := 9) eσ2032 (fun q => absurd q.1 (by decide))).trans (k6.trans ((kq (a := 9) (b := 9) eσ2 (fun q => absurd q.1 (by decide)))))))), (kq (a := 9) (b := 10) eσ3220 (by omega)).trans (k3075.trans (k3051.trans ((kq (a := 9) (b := 10) eσ2032 (fun q => absurd q.1 (by decide))).trans (k7.trans ((kq (a := 9) (b := 10) eσ2 (fun q => absurd q.1 (by decide)))))))), (kq (a := 6) (b := 5) eσ3220 (by omega)).trans (k3076.trans (k3052.trans ((kq (a := 6) (b := 5) eσ2032 (fun q => absurd q.1 (by decide))).trans (k8.trans ((kq (a := 6) (b := 5) eσ2 (fun q => absurd q.1 (by decide)))))))), (kq (a := 7) (b := 4) eσ3220 (by omega)).trans (k3077.trans (k3053.trans ((kq (a := 7) (b := 4) eσ2032 (fun q => absurd q.1 (by decide))).trans (k9.trans ((kq (a := 7) (b := 4) eσ2 (fun q => absurd q.1 (by decide)))))))), (kq (a := 2) (b := 4) eσ3220 (by omega)).trans (k3078.trans (k3054.trans ((kq (a := 2) (b := 4) eσ2032 (fun q => absurd q.1 (by decide))).trans (k10.trans ((kq (a := 2) (b := 4) eσ2 (fun q => absurd q.1 (by decide))))))))⟩)
                        · have f3290 := tB r3285
                          first | have f3291 := (noteqE (rfl : r3285.toInt = r3285.toInt) (show (0 : Int32).toInt = 0 from by decide)).mp c3287 | skip
                          intro v3292 ev3292
                          intro σ3293 eσ3293
                          have kb3294 := jobK_b hk1
                          have hσ3293 : K1 σ0 σ3293 := by rw [eσ3293]; exact hσ3220.u (rg_jobK hk1) (by omega) (by omega)
                          exact hQ _ hσ3293 (⟨(kq (a := 9) (b := 9) eσ3293 (by omega)).trans ((kq (a := 9) (b := 9) eσ3220 (by omega)).trans (k3074.trans (k3050.trans ((kq (a := 9) (b := 9) eσ2032 (fun q => absurd q.1 (by decide))).trans (k6.trans ((kq (a := 9) (b := 9) eσ2 (fun q => absurd q.1 (by decide))))))))), (kq (a := 9) (b := 10) eσ3293 (by omega)).trans ((kq (a := 9) (b := 10) eσ3220 (by omega)).trans (k3075.trans (k3051.trans ((kq (a := 9) (b := 10) eσ2032 (fun q => absurd q.1 (by decide))).trans (k7.trans ((kq (a := 9) (b := 10) eσ2 (fun q => absurd q.1 (by decide))))))))), (kq (a := 6) (b := 5) eσ3293 (by omega)).trans ((kq (a := 6) (b := 5) eσ3220 (by omega)).trans (k3076.trans (k3052.trans ((kq (a := 6) (b := 5) eσ2032 (fun q => absurd q.1 (by decide))).trans (k8.trans ((kq (a := 6) (b := 5) eσ2 (fun q => absurd q.1 (by decide))))))))), (kq (a := 7) (b := 4) eσ3293 (by omega)).trans ((kq (a := 7) (b := 4) eσ3220 (by omega)).trans (k3077.trans (k3053.trans ((kq (a := 7) (b := 4) eσ2032 (fun q => absurd q.1 (by decide))).trans (k9.trans ((kq (a := 7) (b := 4) eσ2 (fun q => absurd q.1 (by decide))))))))), (kq (a := 2) (b := 4) eσ3293 (by omega)).trans ((kq (a := 2) (b := 4) eσ3220 (by omega)).trans (k3078.trans (k3054.trans ((kq (a := 2) (b := 4) eσ2032 (fun q => absurd q.1 (by decide))).trans (k10.trans ((kq (a := 2) (b := 4) eσ2 (fun q => absurd q.1 (by decide)))))))))⟩)
                      · first | have f3296 := (noteqE (rfl : (jT r15.toNatClampNeg).toInt = (jT r15.toNatClampNeg).toInt) (show (2 : Int32).toInt = 2 from by decide)).mp c3267 | skip
                        have f3298 := tB r3059
                        have f3300 := K1.g_3_7 hσ3220
                        have q3301 : σ3220.1 3 7 = σ3071.1 3 7 := by rw [eσ3220]; exact congrFun (u1_ne (by omega)) 7
                        have f3302 := congrArg Int32.toInt q3301
                        have f3303 := K1.g_3_7 hσ3071
                        have f3304 := congrArg Int32.toInt k3072
                        have f3305 := K1.g_3_7 hσ3047
                        have f3306 := congrArg Int32.toInt k3048
                        have f3307 := K1.g_3_7 hσ2032
                        have q3308 : σ2032.1 3 7 = σ3.1 3 7 := by rw [eσ2032, u1_at]; exact if_neg (by decide)
                        have f3309 := congrArg Int32.toInt q3308
                        have f3310 := K1.g_3_7 hσ3
                        have f3311 := congrArg Int32.toInt k4
                        have f3312 := K1.g_3_7 hσ2
                        have q3313 : σ2.1 3 7 = σ.1 3 7 := by rw [eσ2, u1_at]; exact if_neg (by decide)
                        have f3314 := congrArg Int32.toInt q3313
                        have f3315 := K1.g_3_7 hσ
                        refine sX2_act hN hk1 ⟨by omega, by omega⟩ hσ3220 (fun σ3299 hσ3299 kk3321 => ?_)
                        obtain ⟨k3316, k3317, k3318, k3319, k3320⟩ := kk3321
                        exact hQ _ hσ3299 (⟨k3316.trans ((kq (a := 9) (b := 9) eσ3220 (by omega)).trans (k3074.trans (k3050.trans ((kq (a := 9) (b := 9) eσ2032 (fun q => absurd q.1 (by decide))).trans (k6.trans ((kq (a := 9) (b := 9) eσ2 (fun q => absurd q.1 (by decide))))))))), k3317.trans ((kq (a := 9) (b := 10) eσ3220 (by omega)).trans (k3075.trans (k3051.trans ((kq (a := 9) (b := 10) eσ2032 (fun q => absurd q.1 (by decide))).trans (k7.trans ((kq (a := 9) (b := 10) eσ2 (fun q => absurd q.1 (by decide))))))))), k3318.trans ((kq (a := 6) (b := 5) eσ3220 (by omega)).trans (k3076.trans (k3052.trans ((kq (a := 6) (b := 5) eσ2032 (fun q => absurd q.1 (by decide))).trans (k8.trans ((kq (a := 6) (b := 5) eσ2 (fun q => absurd q.1 (by decide))))))))), k3319.trans ((kq (a := 7) (b := 4) eσ3220 (by omega)).trans (k3077.trans (k3053.trans ((kq (a := 7) (b := 4) eσ2032 (fun q => absurd q.1 (by decide))).trans (k9.trans ((kq (a := 7) (b := 4) eσ2 (fun q => absurd q.1 (by decide))))))))), k3320.trans ((kq (a := 2) (b := 4) eσ3220 (by omega)).trans (k3078.trans (k3054.trans ((kq (a := 2) (b := 4) eσ2032 (fun q => absurd q.1 (by decide))).trans (k10.trans ((kq (a := 2) (b := 4) eσ2 (fun q => absurd q.1 (by decide)))))))))⟩)
                  · have f3322 := tB (σ3071.1 3 11)
                    first | have f3323 := (noteqE (rfl : (σ3071.1 3 11).toInt = (σ3071.1 3 11).toInt) (show (0 : Int32).toInt = 0 from by decide)).mp c3216 | skip
                    exact hQ _ hσ3071 (⟨k3074.trans (k3050.trans ((kq (a := 9) (b := 9) eσ2032 (fun q => absurd q.1 (by decide))).trans (k6.trans ((kq (a := 9) (b := 9) eσ2 (fun q => absurd q.1 (by decide))))))), k3075.trans (k3051.trans ((kq (a := 9) (b := 10) eσ2032 (fun q => absurd q.1 (by decide))).trans (k7.trans ((kq (a := 9) (b := 10) eσ2 (fun q => absurd q.1 (by decide))))))), k3076.trans (k3052.trans ((kq (a := 6) (b := 5) eσ2032 (fun q => absurd q.1 (by decide))).trans (k8.trans ((kq (a := 6) (b := 5) eσ2 (fun q => absurd q.1 (by decide))))))), k3077.trans (k3053.trans ((kq (a := 7) (b := 4) eσ2032 (fun q => absurd q.1 (by decide))).trans (k9.trans ((kq (a := 7) (b := 4) eσ2 (fun q => absurd q.1 (by decide))))))), k3078.trans (k3054.trans ((kq (a := 2) (b := 4) eσ2032 (fun q => absurd q.1 (by decide))).trans (k10.trans ((kq (a := 2) (b := 4) eσ2 (fun q => absurd q.1 (by decide)))))))⟩)
              · have f3324 := tB (jT r15.toNatClampNeg)
                first | have f3325 := (noteqE (rfl : (jT r15.toNatClampNeg).toInt = (jT r15.toNatClampNeg).toInt) (show (1 : Int32).toInt = 1 from by decide)).mp c3068 | skip
                unfold fX2_doOrder_j103
                have g3327 : vp_in r15 18 := inE (rfl : r15.toInt = r15.toInt) (by omega) (by omega)
                refine ⟨g3327, ?_⟩
                refine ⟨fun c3328 => ?_, fun c3328 => ?_⟩
                · first | have f3330 := (eqE (rfl : (jT r15.toNatClampNeg).toInt = (jT r15.toNatClampNeg).toInt) (show (2 : Int32).toInt = 2 from by decide)).mp c3328 | skip
                  refine sX2_nextDistance hN hσ3047 (fun r3343 σ3331 hσ3331 kk3342 p3344 => ?_)
                  obtain ⟨k3332, k3333, k3334, k3335, k3336, k3337, k3338, k3339, k3340, k3341⟩ := kk3342
                  unfold fX2_doOrder_j122
                  refine ⟨fun c3345 => ?_, fun c3345 => ?_⟩
                  · have f3346 := tB (σ3331.1 3 11)
                    first | have f3347 := (eqE (rfl : (σ3331.1 3 11).toInt = (σ3331.1 3 11).toInt) (show (0 : Int32).toInt = 0 from by decide)).mp c3345 | skip
                    intro v3348 ev3348
                    intro σ3349 eσ3349
                    have kb3350 := jobK_b hk1
                    have hσ3349 : K1 σ0 σ3349 := by rw [eσ3349]; exact hσ3331.u (rg_jobK hk1) (by omega) (by omega)
                    have g3352 : vp_in r15 18 := inE (rfl : r15.toInt = r15.toInt) (by omega) (by omega)
                    refine ⟨g3352, ?_⟩
                    refine ⟨fun c3353 => ?_, fun c3353 => ?_⟩
                    · first | have f3355 := (eqE (rfl : (jT r15.toNatClampNeg).toInt = (jT r15.toNatClampNeg).toInt) (show (1 : Int32).toInt = 1 from by decide)).mp c3353 | skip
                      have f3357 := tB r3059
                      refine sX2_valueFor hN hσ3349 (fun r3370 σ3358 hσ3358 kk3369 p3371 => ?_)
                      obtain ⟨k3359, k3360, k3361, k3362, k3363, k3364, k3365, k3366, k3367, k3368⟩ := kk3369
                      refine ⟨fun c3372 => ?_, fun c3372 => ?_⟩
                      · have f3373 := tB (σ3358.1 3 11)
                        first | have f3374 := (eqE (rfl : (σ3358.1 3 11).toInt = (σ3358.1 3 11).toInt) (show (0 : Int32).toInt = 0 from by decide)).mp c3372 | skip
                        have f3375 := tB r3370
                        refine sX1_setLocal hN hk1 hσ3358 (fun σ3376 hσ3376 kk3388 => ?_)
                        obtain ⟨k3377, k3378, k3379, k3380, k3381, k3382, k3383, k3384, k3385, k3386, k3387⟩ := kk3388
                        unfold fX2_doOrder_j174
                        exact hQ _ hσ3376 (⟨k3380.trans (k3361.trans ((kq (a := 9) (b := 9) eσ3349 (by omega)).trans (k3334.trans (k3050.trans ((kq (a := 9) (b := 9) eσ2032 (fun q => absurd q.1 (by decide))).trans (k6.trans ((kq (a := 9) (b := 9) eσ2 (fun q => absurd q.1 (by decide)))))))))), k3381.trans (k3362.trans ((kq (a := 9) (b := 10) eσ3349 (by omega)).trans (k3335.trans (k3051.trans ((kq (a := 9) (b := 10) eσ2032 (fun q => absurd q.1 (by decide))).trans (k7.trans ((kq (a := 9) (b := 10) eσ2 (fun q => absurd q.1 (by decide)))))))))), k3382.trans (k3363.trans ((kq (a := 6) (b := 5) eσ3349 (by omega)).trans (k3336.trans (k3052.trans ((kq (a := 6) (b := 5) eσ2032 (fun q => absurd q.1 (by decide))).trans (k8.trans ((kq (a := 6) (b := 5) eσ2 (fun q => absurd q.1 (by decide)))))))))), k3383.trans (k3364.trans ((kq (a := 7) (b := 4) eσ3349 (by omega)).trans (k3337.trans (k3053.trans ((kq (a := 7) (b := 4) eσ2032 (fun q => absurd q.1 (by decide))).trans (k9.trans ((kq (a := 7) (b := 4) eσ2 (fun q => absurd q.1 (by decide)))))))))), k3384.trans (k3365.trans ((kq (a := 2) (b := 4) eσ3349 (by omega)).trans (k3338.trans (k3054.trans ((kq (a := 2) (b := 4) eσ2032 (fun q => absurd q.1 (by decide))).trans (k10.trans ((kq (a := 2) (b := 4) eσ2 (fun q => absurd q.1 (by decide))))))))))⟩)
                      · have f3389 := tB (σ3358.1 3 11)
                        first | have f3390 := (noteqE (rfl : (σ3358.1 3 11).toInt = (σ3358.1 3 11).toInt) (show (0 : Int32).toInt = 0 from by decide)).mp c3372 | skip
                        unfold fX2_doOrder_j174
                        exact hQ _ hσ3358 (⟨k3361.trans ((kq (a := 9) (b := 9) eσ3349 (by omega)).trans (k3334.trans (k3050.trans ((kq (a := 9) (b := 9) eσ2032 (fun q => absurd q.1 (by decide))).trans (k6.trans ((kq (a := 9) (b := 9) eσ2 (fun q => absurd q.1 (by decide))))))))), k3362.trans ((kq (a := 9) (b := 10) eσ3349 (by omega)).trans (k3335.trans (k3051.trans ((kq (a := 9) (b := 10) eσ2032 (fun q => absurd q.1 (by decide))).trans (k7.trans ((kq (a := 9) (b := 10) eσ2 (fun q => absurd q.1 (by decide))))))))), k3363.trans ((kq (a := 6) (b := 5) eσ3349 (by omega)).trans (k3336.trans (k3052.trans ((kq (a := 6) (b := 5) eσ2032 (fun q => absurd q.1 (by decide))).trans (k8.trans ((kq (a := 6) (b := 5) eσ2 (fun q => absurd q.1 (by decide))))))))), k3364.trans ((kq (a := 7) (b := 4) eσ3349 (by omega)).trans (k3337.trans (k3053.trans ((kq (a := 7) (b := 4) eσ2032 (fun q => absurd q.1 (by decide))).trans (k9.trans ((kq (a := 7) (b := 4) eσ2 (fun q => absurd q.1 (by decide))))))))), k3365.trans ((kq (a := 2) (b := 4) eσ3349 (by omega)).trans (k3338.trans (k3054.trans ((kq (a := 2) (b := 4) eσ2032 (fun q => absurd q.1 (by decide))).trans (k10.trans ((kq (a := 2) (b := 4) eσ2 (fun q => absurd q.1 (by decide)))))))))⟩)
                    · first | have f3392 := (noteqE (rfl : (jT r15.toNatClampNeg).toInt = (jT r15.toNatClampNeg).toInt) (show (1 : Int32).toInt = 1 from by decide)).mp c3353 | skip
                      have g3394 : vp_in r15 18 := inE (rfl : r15.toInt = r15.toInt) (by omega) (by omega)
                      refine ⟨g3394, ?_⟩
                      refine ⟨fun c3395 => ?_, fun c3395 => ?_⟩
                      · first | have f3397 := (eqE (rfl : (jT r15.toNatClampNeg).toInt = (jT r15.toNatClampNeg).toInt) (show (2 : Int32).toInt = 2 from by decide)).mp c3395 | skip
                        have f3399 := tB r3059
                        refine sX2_goesThere hN hσ3349 (fun r3413 p3414 => ?_)
                        refine ⟨fun c3415 => ?_, fun c3415 => ?_⟩
                        · have f3416 := tB r3413
                          first | have f3417 := (eqE (rfl : r3413.toInt = r3413.toInt) (show (0 : Int32).toInt = 0 from by decide)).mp c3415 | skip
                          exact hQ _ hσ3349 (⟨(kq (a := 9) (b := 9) eσ3349 (by omega)).trans (k3334.trans (k3050.trans ((kq (a := 9) (b := 9) eσ2032 (fun q => absurd q.1 (by decide))).trans (k6.trans ((kq (a := 9) (b := 9) eσ2 (fun q => absurd q.1 (by decide)))))))), (kq (a := 9) (b := 10) eσ3349 (by omega)).trans (k3335.trans (k3051.trans ((kq (a := 9) (b := 10) eσ2032 (fun q => absurd q.1 (by decide))).trans (k7.trans ((kq (a := 9) (b := 10) eσ2 (fun q => absurd q.1 (by decide)))))))), (kq (a := 6) (b := 5) eσ3349 (by omega)).trans (k3336.trans (k3052.trans ((kq (a := 6) (b := 5) eσ2032 (fun q => absurd q.1 (by decide))).trans (k8.trans ((kq (a := 6) (b := 5) eσ2 (fun q => absurd q.1 (by decide)))))))), (kq (a := 7) (b := 4) eσ3349 (by omega)).trans (k3337.trans (k3053.trans ((kq (a := 7) (b := 4) eσ2032 (fun q => absurd q.1 (by decide))).trans (k9.trans ((kq (a := 7) (b := 4) eσ2 (fun q => absurd q.1 (by decide)))))))), (kq (a := 2) (b := 4) eσ3349 (by omega)).trans (k3338.trans (k3054.trans ((kq (a := 2) (b := 4) eσ2032 (fun q => absurd q.1 (by decide))).trans (k10.trans ((kq (a := 2) (b := 4) eσ2 (fun q => absurd q.1 (by decide))))))))⟩)
                        · have f3418 := tB r3413
                          first | have f3419 := (noteqE (rfl : r3413.toInt = r3413.toInt) (show (0 : Int32).toInt = 0 from by decide)).mp c3415 | skip
                          intro v3420 ev3420
                          intro σ3421 eσ3421
                          have kb3422 := jobK_b hk1
                          have hσ3421 : K1 σ0 σ3421 := by rw [eσ3421]; exact hσ3349.u (rg_jobK hk1) (by omega) (by omega)
                          exact hQ _ hσ3421 (⟨(kq (a := 9) (b := 9) eσ3421 (by omega)).trans ((kq (a := 9) (b := 9) eσ3349 (by omega)).trans (k3334.trans (k3050.trans ((kq (a := 9) (b := 9) eσ2032 (fun q => absurd q.1 (by decide))).trans (k6.trans ((kq (a := 9) (b := 9) eσ2 (fun q => absurd q.1 (by decide))))))))), (kq (a := 9) (b := 10) eσ3421 (by omega)).trans ((kq (a := 9) (b := 10) eσ3349 (by omega)).trans (k3335.trans (k3051.trans ((kq (a := 9) (b := 10) eσ2032 (fun q => absurd q.1 (by decide))).trans (k7.trans ((kq (a := 9) (b := 10) eσ2 (fun q => absurd q.1 (by decide))))))))), (kq (a := 6) (b := 5) eσ3421 (by omega)).trans ((kq (a := 6) (b := 5) eσ3349 (by omega)).trans (k3336.trans (k3052.trans ((kq (a := 6) (b := 5) eσ2032 (fun q => absurd q.1 (by decide))).trans (k8.trans ((kq (a := 6) (b := 5) eσ2 (fun q => absurd q.1 (by decide))))))))), (kq (a := 7) (b := 4) eσ3421 (by omega)).trans ((kq (a := 7) (b := 4) eσ3349 (by omega)).trans (k3337.trans (k3053.trans ((kq (a := 7) (b := 4) eσ2032 (fun q => absurd q.1 (by decide))).trans (k9.trans ((kq (a := 7) (b := 4) eσ2 (fun q => absurd q.1 (by decide))))))))), (kq (a := 2) (b := 4) eσ3421 (by omega)).trans ((kq (a := 2) (b := 4) eσ3349 (by omega)).trans (k3338.trans (k3054.trans ((kq (a := 2) (b := 4) eσ2032 (fun q => absurd q.1 (by decide))).trans (k10.trans ((kq (a := 2) (b := 4) eσ2 (fun q => absurd q.1 (by decide)))))))))⟩)
                      · first | have f3424 := (noteqE (rfl : (jT r15.toNatClampNeg).toInt = (jT r15.toNatClampNeg).toInt) (show (2 : Int32).toInt = 2 from by decide)).mp c3395 | skip
                        have f3426 := tB r3059
                        have f3428 := K1.g_3_7 hσ3349
                        have q3429 : σ3349.1 3 7 = σ3331.1 3 7 := by rw [eσ3349]; exact congrFun (u1_ne (by omega)) 7
                        have f3430 := congrArg Int32.toInt q3429
                        have f3431 := K1.g_3_7 hσ3331
                        have f3432 := congrArg Int32.toInt k3332
                        have f3433 := K1.g_3_7 hσ3047
                        have f3434 := congrArg Int32.toInt k3048
                        have f3435 := K1.g_3_7 hσ2032
                        have q3436 : σ2032.1 3 7 = σ3.1 3 7 := by rw [eσ2032, u1_at]; exact if_neg (by decide)
                        have f3437 := congrArg Int32.toInt q3436
                        have f3438 := K1.g_3_7 hσ3
                        have f3439 := congrArg Int32.toInt k4
                        have f3440 := K1.g_3_7 hσ2
                        have q3441 : σ2.1 3 7 = σ.1 3 7 := by rw [eσ2, u1_at]; exact if_neg (by decide)
                        have f3442 := congrArg Int32.toInt q3441
                        have f3443 := K1.g_3_7 hσ
                        refine sX2_act hN hk1 ⟨by omega, by omega⟩ hσ3349 (fun σ3427 hσ3427 kk3449 => ?_)
                        obtain ⟨k3444, k3445, k3446, k3447, k3448⟩ := kk3449
                        exact hQ _ hσ3427 (⟨k3444.trans ((kq (a := 9) (b := 9) eσ3349 (by omega)).trans (k3334.trans (k3050.trans ((kq (a := 9) (b := 9) eσ2032 (fun q => absurd q.1 (by decide))).trans (k6.trans ((kq (a := 9) (b := 9) eσ2 (fun q => absurd q.1 (by decide))))))))), k3445.trans ((kq (a := 9) (b := 10) eσ3349 (by omega)).trans (k3335.trans (k3051.trans ((kq (a := 9) (b := 10) eσ2032 (fun q => absurd q.1 (by decide))).trans (k7.trans ((kq (a := 9) (b := 10) eσ2 (fun q => absurd q.1 (by decide))))))))), k3446.trans ((kq (a := 6) (b := 5) eσ3349 (by omega)).trans (k3336.trans (k3052.trans ((kq (a := 6) (b := 5) eσ2032 (fun q => absurd q.1 (by decide))).trans (k8.trans ((kq (a := 6) (b := 5) eσ2 (fun q => absurd q.1 (by decide))))))))), k3447.trans ((kq (a := 7) (b := 4) eσ3349 (by omega)).trans (k3337.trans (k3053.trans ((kq (a := 7) (b := 4) eσ2032 (fun q => absurd q.1 (by decide))).trans (k9.trans ((kq (a := 7) (b := 4) eσ2 (fun q => absurd q.1 (by decide))))))))), k3448.trans ((kq (a := 2) (b := 4) eσ3349 (by omega)).trans (k3338.trans (k3054.trans ((kq (a := 2) (b := 4) eσ2032 (fun q => absurd q.1 (by decide))).trans (k10.trans ((kq (a := 2) (b := 4) eσ2 (fun q => absurd q.1 (by decide)))))))))⟩)
                  · have f3450 := tB (σ3331.1 3 11)
                    first | have f3451 := (noteqE (rfl : (σ3331.1 3 11).toInt = (σ3331.1 3 11).toInt) (show (0 : Int32).toInt = 0 from by decide)).mp c3345 | skip
                    exact hQ _ hσ3331 (⟨k3334.trans (k3050.trans ((kq (a := 9) (b := 9) eσ2032 (fun q => absurd q.1 (by decide))).trans (k6.trans ((kq (a := 9) (b := 9) eσ2 (fun q => absurd q.1 (by decide))))))), k3335.trans (k3051.trans ((kq (a := 9) (b := 10) eσ2032 (fun q => absurd q.1 (by decide))).trans (k7.trans ((kq (a := 9) (b := 10) eσ2 (fun q => absurd q.1 (by decide))))))), k3336.trans (k3052.trans ((kq (a := 6) (b := 5) eσ2032 (fun q => absurd q.1 (by decide))).trans (k8.trans ((kq (a := 6) (b := 5) eσ2 (fun q => absurd q.1 (by decide))))))), k3337.trans (k3053.trans ((kq (a := 7) (b := 4) eσ2032 (fun q => absurd q.1 (by decide))).trans (k9.trans ((kq (a := 7) (b := 4) eσ2 (fun q => absurd q.1 (by decide))))))), k3338.trans (k3054.trans ((kq (a := 2) (b := 4) eσ2032 (fun q => absurd q.1 (by decide))).trans (k10.trans ((kq (a := 2) (b := 4) eσ2 (fun q => absurd q.1 (by decide)))))))⟩)
                · first | have f3453 := (noteqE (rfl : (jT r15.toNatClampNeg).toInt = (jT r15.toNatClampNeg).toInt) (show (2 : Int32).toInt = 2 from by decide)).mp c3328 | skip
                  unfold fX2_doOrder_j122
                  refine ⟨fun c3454 => ?_, fun c3454 => ?_⟩
                  · have f3455 := tB (σ3047.1 3 11)
                    first | have f3456 := (eqE (rfl : (σ3047.1 3 11).toInt = (σ3047.1 3 11).toInt) (show (0 : Int32).toInt = 0 from by decide)).mp c3454 | skip
                    intro v3457 ev3457
                    intro σ3458 eσ3458
                    have kb3459 := jobK_b hk1
                    have hσ3458 : K1 σ0 σ3458 := by rw [eσ3458]; exact hσ3047.u (rg_jobK hk1) (by omega) (by omega)
                    have g3461 : vp_in r15 18 := inE (rfl : r15.toInt = r15.toInt) (by omega) (by omega)
                    refine ⟨g3461, ?_⟩
                    refine ⟨fun c3462 => ?_, fun c3462 => ?_⟩
                    · first | have f3464 := (eqE (rfl : (jT r15.toNatClampNeg).toInt = (jT r15.toNatClampNeg).toInt) (show (1 : Int32).toInt = 1 from by decide)).mp c3462 | skip
                      have f3466 := tB r3059
                      refine sX2_valueFor hN hσ3458 (fun r3479 σ3467 hσ3467 kk3478 p3480 => ?_)
                      obtain ⟨k3468, k3469, k3470, k3471, k3472, k3473, k3474, k3475, k3476, k3477⟩ := kk3478
                      refine ⟨fun c3481 => ?_, fun c3481 => ?_⟩
                      · have f3482 := tB (σ3467.1 3 11)
                        first | have f3483 := (eqE (rfl : (σ3467.1 3 11).toInt = (σ3467.1 3 11).toInt) (show (0 : Int32).toInt = 0 from by decide)).mp c3481 | skip
                        have f3484 := tB r3479
                        refine sX1_setLocal hN hk1 hσ3467 (fun σ3485 hσ3485 kk3497 => ?_)
                        obtain ⟨k3486, k3487, k3488, k3489, k3490, k3491, k3492, k3493, k3494, k3495, k3496⟩ := kk3497
                        unfold fX2_doOrder_j174
                        exact hQ _ hσ3485 (⟨k3489.trans (k3470.trans ((kq (a := 9) (b := 9) eσ3458 (by omega)).trans (k3050.trans ((kq (a := 9) (b := 9) eσ2032 (fun q => absurd q.1 (by decide))).trans (k6.trans ((kq (a := 9) (b := 9) eσ2 (fun q => absurd q.1 (by decide))))))))), k3490.trans (k3471.trans ((kq (a := 9) (b := 10) eσ3458 (by omega)).trans (k3051.trans ((kq (a := 9) (b := 10) eσ2032 (fun q => absurd q.1 (by decide))).trans (k7.trans ((kq (a := 9) (b := 10) eσ2 (fun q => absurd q.1 (by decide))))))))), k3491.trans (k3472.trans ((kq (a := 6) (b := 5) eσ3458 (by omega)).trans (k3052.trans ((kq (a := 6) (b := 5) eσ2032 (fun q => absurd q.1 (by decide))).trans (k8.trans ((kq (a := 6) (b := 5) eσ2 (fun q => absurd q.1 (by decide))))))))), k3492.trans (k3473.trans ((kq (a := 7) (b := 4) eσ3458 (by omega)).trans (k3053.trans ((kq (a := 7) (b := 4) eσ2032 (fun q => absurd q.1 (by decide))).trans (k9.trans ((kq (a := 7) (b := 4) eσ2 (fun q => absurd q.1 (by decide))))))))), k3493.trans (k3474.trans ((kq (a := 2) (b := 4) eσ3458 (by omega)).trans (k3054.trans ((kq (a := 2) (b := 4) eσ2032 (fun q => absurd q.1 (by decide))).trans (k10.trans ((kq (a := 2) (b := 4) eσ2 (fun q => absurd q.1 (by decide)))))))))⟩)
                      · have f3498 := tB (σ3467.1 3 11)
                        first | have f3499 := (noteqE (rfl : (σ3467.1 3 11).toInt = (σ3467.1 3 11).toInt) (show (0 : Int32).toInt = 0 from by decide)).mp c3481 | skip
                        unfold fX2_doOrder_j174
                        exact hQ _ hσ3467 (⟨k3470.trans ((kq (a := 9) (b := 9) eσ3458 (by omega)).trans (k3050.trans ((kq (a := 9) (b := 9) eσ2032 (fun q => absurd q.1 (by decide))).trans (k6.trans ((kq (a := 9) (b := 9) eσ2 (fun q => absurd q.1 (by decide)))))))), k3471.trans ((kq (a := 9) (b := 10) eσ3458 (by omega)).trans (k3051.trans ((kq (a := 9) (b := 10) eσ2032 (fun q => absurd q.1 (by decide))).trans (k7.trans ((kq (a := 9) (b := 10) eσ2 (fun q => absurd q.1 (by decide)))))))), k3472.trans ((kq (a := 6) (b := 5) eσ3458 (by omega)).trans (k3052.trans ((kq (a := 6) (b := 5) eσ2032 (fun q => absurd q.1 (by decide))).trans (k8.trans ((kq (a := 6) (b := 5) eσ2 (fun q => absurd q.1 (by decide)))))))), k3473.trans ((kq (a := 7) (b := 4) eσ3458 (by omega)).trans (k3053.trans ((kq (a := 7) (b := 4) eσ2032 (fun q => absurd q.1 (by decide))).trans (k9.trans ((kq (a := 7) (b := 4) eσ2 (fun q => absurd q.1 (by decide)))))))), k3474.trans ((kq (a := 2) (b := 4) eσ3458 (by omega)).trans (k3054.trans ((kq (a := 2) (b := 4) eσ2032 (fun q => absurd q.1 (by decide))).trans (k10.trans ((kq (a := 2) (b := 4) eσ2 (fun q => absurd q.1 (by decide))))))))⟩)
                    · first | have f3501 := (noteqE (rfl : (jT r15.toNatClampNeg).toInt = (jT r15.toNatClampNeg).toInt) (show (1 : Int32).toInt = 1 from by decide)).mp c3462 | skip
                      have g3503 : vp_in r15 18 := inE (rfl : r15.toInt = r15.toInt) (by omega) (by omega)
                      refine ⟨g3503, ?_⟩
                      refine ⟨fun c3504 => ?_, fun c3504 => ?_⟩
                      · first | have f3506 := (eqE (rfl : (jT r15.toNatClampNeg).toInt = (jT r15.toNatClampNeg).toInt) (show (2 : Int32).toInt = 2 from by decide)).mp c3504 | skip
                        have f3508 := tB r3059
                        refine sX2_goesThere hN hσ3458 (fun r3522 p3523 => ?_)
                        refine ⟨fun c3524 => ?_, fun c3524 => ?_⟩
                        · have f3525 := tB r3522
                          first | have f3526 := (eqE (rfl : r3522.toInt = r3522.toInt) (show (0 : Int32).toInt = 0 from by decide)).mp c3524 | skip
                          exact hQ _ hσ3458 (⟨(kq (a := 9) (b := 9) eσ3458 (by omega)).trans (k3050.trans ((kq (a := 9) (b := 9) eσ2032 (fun q => absurd q.1 (by decide))).trans (k6.trans ((kq (a := 9) (b := 9) eσ2 (fun q => absurd q.1 (by decide))))))), (kq (a := 9) (b := 10) eσ3458 (by omega)).trans (k3051.trans ((kq (a := 9) (b := 10) eσ2032 (fun q => absurd q.1 (by decide))).trans (k7.trans ((kq (a := 9) (b := 10) eσ2 (fun q => absurd q.1 (by decide))))))), (kq (a := 6) (b := 5) eσ3458 (by omega)).trans (k3052.trans ((kq (a := 6) (b := 5) eσ2032 (fun q => absurd q.1 (by decide))).trans (k8.trans ((kq (a := 6) (b := 5) eσ2 (fun q => absurd q.1 (by decide))))))), (kq (a := 7) (b := 4) eσ3458 (by omega)).trans (k3053.trans ((kq (a := 7) (b := 4) eσ2032 (fun q => absurd q.1 (by decide))).trans (k9.trans ((kq (a := 7) (b := 4) eσ2 (fun q => absurd q.1 (by decide))))))), (kq (a := 2) (b := 4) eσ3458 (by omega)).trans (k3054.trans ((kq (a := 2) (b := 4) eσ2032 (fun q => absurd q.1 (by decide))).trans (k10.trans ((kq (a := 2) (b := 4) eσ2 (fun q => absurd q.1 (by decide)))))))⟩)
                        · have f3527 := tB r3522
                          first | have f3528 := (noteqE (rfl : r3522.toInt = r3522.toInt) (show (0 : Int32).toInt = 0 from by decide)).mp c3524 | skip
                          intro v3529 ev3529
                          intro σ3530 eσ3530
                          have kb3531 := jobK_b hk1
                          have hσ3530 : K1 σ0 σ3530 := by rw [eσ3530]; exact hσ3458.u (rg_jobK hk1) (by omega) (by omega)
                          exact hQ _ hσ3530 (⟨(kq (a := 9) (b := 9) eσ3530 (by omega)).trans ((kq (a := 9) (b := 9) eσ3458 (by omega)).trans (k3050.trans ((kq (a := 9) (b := 9) eσ2032 (fun q => absurd q.1 (by decide))).trans (k6.trans ((kq (a := 9) (b := 9) eσ2 (fun q => absurd q.1 (by decide)))))))), (kq (a := 9) (b := 10) eσ3530 (by omega)).trans ((kq (a := 9) (b := 10) eσ3458 (by omega)).trans (k3051.trans ((kq (a := 9) (b := 10) eσ2032 (fun q => absurd q.1 (by decide))).trans (k7.trans ((kq (a := 9) (b := 10) eσ2 (fun q => absurd q.1 (by decide)))))))), (kq (a := 6) (b := 5) eσ3530 (by omega)).trans ((kq (a := 6) (b := 5) eσ3458 (by omega)).trans (k3052.trans ((kq (a := 6) (b := 5) eσ2032 (fun q => absurd q.1 (by decide))).trans (k8.trans ((kq (a := 6) (b := 5) eσ2 (fun q => absurd q.1 (by decide)))))))), (kq (a := 7) (b := 4) eσ3530 (by omega)).trans ((kq (a := 7) (b := 4) eσ3458 (by omega)).trans (k3053.trans ((kq (a := 7) (b := 4) eσ2032 (fun q => absurd q.1 (by decide))).trans (k9.trans ((kq (a := 7) (b := 4) eσ2 (fun q => absurd q.1 (by decide)))))))), (kq (a := 2) (b := 4) eσ3530 (by omega)).trans ((kq (a := 2) (b := 4) eσ3458 (by omega)).trans (k3054.trans ((kq (a := 2) (b := 4) eσ2032 (fun q => absurd q.1 (by decide))).trans (k10.trans ((kq (a := 2) (b := 4) eσ2 (fun q => absurd q.1 (by decide))))))))⟩)
                      · first | have f3533 := (noteqE (rfl : (jT r15.toNatClampNeg).toInt = (jT r15.toNatClampNeg).toInt) (show (2 : Int32).toInt = 2 from by decide)).mp c3504 | skip
                        have f3535 := tB r3059
                        have f3537 := K1.g_3_7 hσ3458
                        have q3538 : σ3458.1 3 7 = σ3047.1 3 7 := by rw [eσ3458]; exact congrFun (u1_ne (by omega)) 7
                        have f3539 := congrArg Int32.toInt q3538
                        have f3540 := K1.g_3_7 hσ3047
                        have f3541 := congrArg Int32.toInt k3048
                        have f3542 := K1.g_3_7 hσ2032
                        have q3543 : σ2032.1 3 7 = σ3.1 3 7 := by rw [eσ2032, u1_at]; exact if_neg (by decide)
                        have f3544 := congrArg Int32.toInt q3543
                        have f3545 := K1.g_3_7 hσ3
                        have f3546 := congrArg Int32.toInt k4
                        have f3547 := K1.g_3_7 hσ2
                        have q3548 : σ2.1 3 7 = σ.1 3 7 := by rw [eσ2, u1_at]; exact if_neg (by decide)
                        have f3549 := congrArg Int32.toInt q3548
                        have f3550 := K1.g_3_7 hσ
                        refine sX2_act hN hk1 ⟨by omega, by omega⟩ hσ3458 (fun σ3536 hσ3536 kk3556 => ?_)
                        obtain ⟨k3551, k3552, k3553, k3554, k3555⟩ := kk3556
                        exact hQ _ hσ3536 (⟨k3551.trans ((kq (a := 9) (b := 9) eσ3458 (by omega)).trans (k3050.trans ((kq (a := 9) (b := 9) eσ2032 (fun q => absurd q.1 (by decide))).trans (k6.trans ((kq (a := 9) (b := 9) eσ2 (fun q => absurd q.1 (by decide)))))))), k3552.trans ((kq (a := 9) (b := 10) eσ3458 (by omega)).trans (k3051.trans ((kq (a := 9) (b := 10) eσ2032 (fun q => absurd q.1 (by decide))).trans (k7.trans ((kq (a := 9) (b := 10) eσ2 (fun q => absurd q.1 (by decide)))))))), k3553.trans ((kq (a := 6) (b := 5) eσ3458 (by omega)).trans (k3052.trans ((kq (a := 6) (b := 5) eσ2032 (fun q => absurd q.1 (by decide))).trans (k8.trans ((kq (a := 6) (b := 5) eσ2 (fun q => absurd q.1 (by decide)))))))), k3554.trans ((kq (a := 7) (b := 4) eσ3458 (by omega)).trans (k3053.trans ((kq (a := 7) (b := 4) eσ2032 (fun q => absurd q.1 (by decide))).trans (k9.trans ((kq (a := 7) (b := 4) eσ2 (fun q => absurd q.1 (by decide)))))))), k3555.trans ((kq (a := 2) (b := 4) eσ3458 (by omega)).trans (k3054.trans ((kq (a := 2) (b := 4) eσ2032 (fun q => absurd q.1 (by decide))).trans (k10.trans ((kq (a := 2) (b := 4) eσ2 (fun q => absurd q.1 (by decide))))))))⟩)
                  · have f3557 := tB (σ3047.1 3 11)
                    first | have f3558 := (noteqE (rfl : (σ3047.1 3 11).toInt = (σ3047.1 3 11).toInt) (show (0 : Int32).toInt = 0 from by decide)).mp c3454 | skip
                    exact hQ _ hσ3047 (⟨k3050.trans ((kq (a := 9) (b := 9) eσ2032 (fun q => absurd q.1 (by decide))).trans (k6.trans ((kq (a := 9) (b := 9) eσ2 (fun q => absurd q.1 (by decide)))))), k3051.trans ((kq (a := 9) (b := 10) eσ2032 (fun q => absurd q.1 (by decide))).trans (k7.trans ((kq (a := 9) (b := 10) eσ2 (fun q => absurd q.1 (by decide)))))), k3052.trans ((kq (a := 6) (b := 5) eσ2032 (fun q => absurd q.1 (by decide))).trans (k8.trans ((kq (a := 6) (b := 5) eσ2 (fun q => absurd q.1 (by decide)))))), k3053.trans ((kq (a := 7) (b := 4) eσ2032 (fun q => absurd q.1 (by decide))).trans (k9.trans ((kq (a := 7) (b := 4) eσ2 (fun q => absurd q.1 (by decide)))))), k3054.trans ((kq (a := 2) (b := 4) eσ2032 (fun q => absurd q.1 (by decide))).trans (k10.trans ((kq (a := 2) (b := 4) eσ2 (fun q => absurd q.1 (by decide))))))⟩)
            · first | have f3560 := (notleE (rfl : (jV r15.toNatClampNeg).toInt = (jV r15.toNatClampNeg).toInt) (show (1 : Int32).toInt = 1 from by decide)).mp c3063 | skip
              refine sX2_nextValue hN hk1 hσ3047 (fun r3573 σ3561 hσ3561 kk3572 p3574 => ?_)
              obtain ⟨k3562, k3563, k3564, k3565, k3566, k3567, k3568, k3569, k3570, k3571⟩ := kk3572
              unfold fX2_doOrder_j81
              have g3576 : vp_in r15 18 := inE (rfl : r15.toInt = r15.toInt) (by omega) (by omega)
              refine ⟨g3576, ?_⟩
              refine ⟨fun c3577 => ?_, fun c3577 => ?_⟩
              · have f3578 := tB (jT r15.toNatClampNeg)
                first | have f3579 := (eqE (rfl : (jT r15.toNatClampNeg).toInt = (jT r15.toNatClampNeg).toInt) (show (1 : Int32).toInt = 1 from by decide)).mp c3577 | skip
                refine sX2_nextTarget hN hk1 hσ3561 (fun r3592 σ3580 hσ3580 kk3591 p3593 => ?_)
                obtain ⟨k3581, k3582, k3583, k3584, k3585, k3586, k3587, k3588, k3589, k3590⟩ := kk3591
                unfold fX2_doOrder_j103
                have g3595 : vp_in r15 18 := inE (rfl : r15.toInt = r15.toInt) (by omega) (by omega)
                refine ⟨g3595, ?_⟩
                refine ⟨fun c3596 => ?_, fun c3596 => ?_⟩
                · first | have f3598 := (eqE (rfl : (jT r15.toNatClampNeg).toInt = (jT r15.toNatClampNeg).toInt) (show (2 : Int32).toInt = 2 from by decide)).mp c3596 | skip
                  refine sX2_nextDistance hN hσ3580 (fun r3611 σ3599 hσ3599 kk3610 p3612 => ?_)
                  obtain ⟨k3600, k3601, k3602, k3603, k3604, k3605, k3606, k3607, k3608, k3609⟩ := kk3610
                  unfold fX2_doOrder_j122
                  refine ⟨fun c3613 => ?_, fun c3613 => ?_⟩
                  · have f3614 := tB (σ3599.1 3 11)
                    first | have f3615 := (eqE (rfl : (σ3599.1 3 11).toInt = (σ3599.1 3 11).toInt) (show (0 : Int32).toInt = 0 from by decide)).mp c3613 | skip
                    intro v3616 ev3616
                    intro σ3617 eσ3617
                    have kb3618 := jobK_b hk1
                    have hσ3617 : K1 σ0 σ3617 := by rw [eσ3617]; exact hσ3599.u (rg_jobK hk1) (by omega) (by omega)
                    have g3620 : vp_in r15 18 := inE (rfl : r15.toInt = r15.toInt) (by omega) (by omega)
                    refine ⟨g3620, ?_⟩
                    refine ⟨fun c3621 => ?_, fun c3621 => ?_⟩
                    · first | have f3623 := (eqE (rfl : (jT r15.toNatClampNeg).toInt = (jT r15.toNatClampNeg).toInt) (show (1 : Int32).toInt = 1 from by decide)).mp c3621 | skip
                      have f3625 := tB r3059
                      have f3626 := tB r3573
                      refine sX2_valueFor hN hσ3617 (fun r3639 σ3627 hσ3627 kk3638 p3640 => ?_)
                      obtain ⟨k3628, k3629, k3630, k3631, k3632, k3633, k3634, k3635, k3636, k3637⟩ := kk3638
                      refine ⟨fun c3641 => ?_, fun c3641 => ?_⟩
                      · have f3642 := tB (σ3627.1 3 11)
                        first | have f3643 := (eqE (rfl : (σ3627.1 3 11).toInt = (σ3627.1 3 11).toInt) (show (0 : Int32).toInt = 0 from by decide)).mp c3641 | skip
                        have f3644 := tB r3592
                        have f3645 := tB r3639
                        refine sX1_setLocal hN hk1 hσ3627 (fun σ3646 hσ3646 kk3658 => ?_)
                        obtain ⟨k3647, k3648, k3649, k3650, k3651, k3652, k3653, k3654, k3655, k3656, k3657⟩ := kk3658
                        unfold fX2_doOrder_j174
                        exact hQ _ hσ3646 (⟨k3650.trans (k3630.trans ((kq (a := 9) (b := 9) eσ3617 (by omega)).trans (k3602.trans (k3583.trans (k3564.trans (k3050.trans ((kq (a := 9) (b := 9) eσ2032 (fun q => absurd q.1 (by decide))).trans (k6.trans ((kq (a := 9) (b := 9) eσ2 (fun q => absurd q.1 (by decide)))))))))))), k3651.trans (k3631.trans ((kq (a := 9) (b := 10) eσ3617 (by omega)).trans (k3603.trans (k3584.trans (k3565.trans (k3051.trans ((kq (a := 9) (b := 10) eσ2032 (fun q => absurd q.1 (by decide))).trans (k7.trans ((kq (a := 9) (b := 10) eσ2 (fun q => absurd q.1 (by decide)))))))))))), k3652.trans (k3632.trans ((kq (a := 6) (b := 5) eσ3617 (by omega)).trans (k3604.trans (k3585.trans (k3566.trans (k3052.trans ((kq (a := 6) (b := 5) eσ2032 (fun q => absurd q.1 (by decide))).trans (k8.trans ((kq (a := 6) (b := 5) eσ2 (fun q => absurd q.1 (by decide)))))))))))), k3653.trans (k3633.trans ((kq (a := 7) (b := 4) eσ3617 (by omega)).trans (k3605.trans (k3586.trans (k3567.trans (k3053.trans ((kq (a := 7) (b := 4) eσ2032 (fun q => absurd q.1 (by decide))).trans (k9.trans ((kq (a := 7) (b := 4) eσ2 (fun q => absurd q.1 (by decide)))))))))))), k3654.trans (k3634.trans ((kq (a := 2) (b := 4) eσ3617 (by omega)).trans (k3606.trans (k3587.trans (k3568.trans (k3054.trans ((kq (a := 2) (b := 4) eσ2032 (fun q => absurd q.1 (by decide))).trans (k10.trans ((kq (a := 2) (b := 4) eσ2 (fun q => absurd q.1 (by decide))))))))))))⟩)
                      · have f3659 := tB (σ3627.1 3 11)
                        first | have f3660 := (noteqE (rfl : (σ3627.1 3 11).toInt = (σ3627.1 3 11).toInt) (show (0 : Int32).toInt = 0 from by decide)).mp c3641 | skip
                        unfold fX2_doOrder_j174
                        exact hQ _ hσ3627 (⟨k3630.trans ((kq (a := 9) (b := 9) eσ3617 (by omega)).trans (k3602.trans (k3583.trans (k3564.trans (k3050.trans ((kq (a := 9) (b := 9) eσ2032 (fun q => absurd q.1 (by decide))).trans (k6.trans ((kq (a := 9) (b := 9) eσ2 (fun q => absurd q.1 (by decide))))))))))), k3631.trans ((kq (a := 9) (b := 10) eσ3617 (by omega)).trans (k3603.trans (k3584.trans (k3565.trans (k3051.trans ((kq (a := 9) (b := 10) eσ2032 (fun q => absurd q.1 (by decide))).trans (k7.trans ((kq (a := 9) (b := 10) eσ2 (fun q => absurd q.1 (by decide))))))))))), k3632.trans ((kq (a := 6) (b := 5) eσ3617 (by omega)).trans (k3604.trans (k3585.trans (k3566.trans (k3052.trans ((kq (a := 6) (b := 5) eσ2032 (fun q => absurd q.1 (by decide))).trans (k8.trans ((kq (a := 6) (b := 5) eσ2 (fun q => absurd q.1 (by decide))))))))))), k3633.trans ((kq (a := 7) (b := 4) eσ3617 (by omega)).trans (k3605.trans (k3586.trans (k3567.trans (k3053.trans ((kq (a := 7) (b := 4) eσ2032 (fun q => absurd q.1 (by decide))).trans (k9.trans ((kq (a := 7) (b := 4) eσ2 (fun q => absurd q.1 (by decide))))))))))), k3634.trans ((kq (a := 2) (b := 4) eσ3617 (by omega)).trans (k3606.trans (k3587.trans (k3568.trans (k3054.trans ((kq (a := 2) (b := 4) eσ2032 (fun q => absurd q.1 (by decide))).trans (k10.trans ((kq (a := 2) (b := 4) eσ2 (fun q => absurd q.1 (by decide)))))))))))⟩)
                    · first | have f3662 := (noteqE (rfl : (jT r15.toNatClampNeg).toInt = (jT r15.toNatClampNeg).toInt) (show (1 : Int32).toInt = 1 from by decide)).mp c3621 | skip
                      have g3664 : vp_in r15 18 := inE (rfl : r15.toInt = r15.toInt) (by omega) (by omega)
                      refine ⟨g3664, ?_⟩
                      refine ⟨fun c3665 => ?_, fun c3665 => ?_⟩
                      · first | have f3667 := (eqE (rfl : (jT r15.toNatClampNeg).toInt = (jT r15.toNatClampNeg).toInt) (show (2 : Int32).toInt = 2 from by decide)).mp c3665 | skip
                        have f3669 := tB r3059
                        have f3670 := tB r3573
                        refine sX2_goesThere hN hσ3617 (fun r3684 p3685 => ?_)
                        refine ⟨fun c3686 => ?_, fun c3686 => ?_⟩
                        · have f3687 := tB r3684
                          first | have f3688 := (eqE (rfl : r3684.toInt = r3684.toInt) (show (0 : Int32).toInt = 0 from by decide)).mp c3686 | skip
                          exact hQ _ hσ3617 (⟨(kq (a := 9) (b := 9) eσ3617 (by omega)).trans (k3602.trans (k3583.trans (k3564.trans (k3050.trans ((kq (a := 9) (b := 9) eσ2032 (fun q => absurd q.1 (by decide))).trans (k6.trans ((kq (a := 9) (b := 9) eσ2 (fun q => absurd q.1 (by decide)))))))))), (kq (a := 9) (b := 10) eσ3617 (by omega)).trans (k3603.trans (k3584.trans (k3565.trans (k3051.trans ((kq (a := 9) (b := 10) eσ2032 (fun q => absurd q.1 (by decide))).trans (k7.trans ((kq (a := 9) (b := 10) eσ2 (fun q => absurd q.1 (by decide)))))))))), (kq (a := 6) (b := 5) eσ3617 (by omega)).trans (k3604.trans (k3585.trans (k3566.trans (k3052.trans ((kq (a := 6) (b := 5) eσ2032 (fun q => absurd q.1 (by decide))).trans (k8.trans ((kq (a := 6) (b := 5) eσ2 (fun q => absurd q.1 (by decide)))))))))), (kq (a := 7) (b := 4) eσ3617 (by omega)).trans (k3605.trans (k3586.trans (k3567.trans (k3053.trans ((kq (a := 7) (b := 4) eσ2032 (fun q => absurd q.1 (by decide))).trans (k9.trans ((kq (a := 7) (b := 4) eσ2 (fun q => absurd q.1 (by decide)))))))))), (kq (a := 2) (b := 4) eσ3617 (by omega)).trans (k3606.trans (k3587.trans (k3568.trans (k3054.trans ((kq (a := 2) (b := 4) eσ2032 (fun q => absurd q.1 (by decide))).trans (k10.trans ((kq (a := 2) (b := 4) eσ2 (fun q => absurd q.1 (by decide))))))))))⟩)
                        · have f3689 := tB r3684
                          first | have f3690 := (noteqE (rfl : r3684.toInt = r3684.toInt) (show (0 : Int32).toInt = 0 from by decide)).mp c3686 | skip
                          intro v3691 ev3691
                          intro σ3692 eσ3692
                          have kb3693 := jobK_b hk1
                          have hσ3692 : K1 σ0 σ3692 := by rw [eσ3692]; exact hσ3617.u (rg_jobK hk1) (by omega) (by omega)
                          exact hQ _ hσ3692 (⟨(kq (a := 9) (b := 9) eσ3692 (by omega)).trans ((kq (a := 9) (b := 9) eσ3617 (by omega)).trans (k3602.trans (k3583.trans (k3564.trans (k3050.trans ((kq (a := 9) (b := 9) eσ2032 (fun q => absurd q.1 (by decide))).trans (k6.trans ((kq (a := 9) (b := 9) eσ2 (fun q => absurd q.1 (by decide))))))))))), (kq (a := 9) (b := 10) eσ3692 (by omega)).trans ((kq (a := 9) (b := 10) eσ3617 (by omega)).trans (k3603.trans (k3584.trans (k3565.trans (k3051.trans ((kq (a := 9) (b := 10) eσ2032 (fun q => absurd q.1 (by decide))).trans (k7.trans ((kq (a := 9) (b := 10) eσ2 (fun q => absurd q.1 (by decide))))))))))), (kq (a := 6) (b := 5) eσ3692 (by omega)).trans ((kq (a := 6) (b := 5) eσ3617 (by omega)).trans (k3604.trans (k3585.trans (k3566.trans (k3052.trans ((kq (a := 6) (b := 5) eσ2032 (fun q => absurd q.1 (by decide))).trans (k8.trans ((kq (a := 6) (b := 5) eσ2 (fun q => absurd q.1 (by decide))))))))))), (kq (a := 7) (b := 4) eσ3692 (by omega)).trans ((kq (a := 7) (b := 4) eσ3617 (by omega)).trans (k3605.trans (k3586.trans (k3567.trans (k3053.trans ((kq (a := 7) (b := 4) eσ2032 (fun q => absurd q.1 (by decide))).trans (k9.trans ((kq (a := 7) (b := 4) eσ2 (fun q => absurd q.1 (by decide))))))))))), (kq (a := 2) (b := 4) eσ3692 (by omega)).trans ((kq (a := 2) (b := 4) eσ3617 (by omega)).trans (k3606.trans (k3587.trans (k3568.trans (k3054.trans ((kq (a := 2) (b := 4) eσ2032 (fun q => absurd q.1 (by decide))).trans (k10.trans ((kq (a := 2) (b := 4) eσ2 (fun q => absurd q.1 (by decide)))))))))))⟩)
                      · first | have f3695 := (noteqE (rfl : (jT r15.toNatClampNeg).toInt = (jT r15.toNatClampNeg).toInt) (show (2 : Int32).toInt = 2 from by decide)).mp c3665 | skip
                        have f3697 := tB r3059
                        have f3698 := tB r3573
                        have f3700 := K1.g_3_7 hσ3617
                        have q3701 : σ3617.1 3 7 = σ3599.1 3 7 := by rw [eσ3617]; exact congrFun (u1_ne (by omega)) 7
                        have f3702 := congrArg Int32.toInt q3701
                        have f3703 := K1.g_3_7 hσ3599
                        have f3704 := congrArg Int32.toInt k3600
                        have f3705 := K1.g_3_7 hσ3580
                        have f3706 := congrArg Int32.toInt k3581
                        have f3707 := K1.g_3_7 hσ3561
                        have f3708 := congrArg Int32.toInt k3562
                        have f3709 := K1.g_3_7 hσ3047
                        have f3710 := congrArg Int32.toInt k3048
                        have f3711 := K1.g_3_7 hσ2032
                        have q3712 : σ2032.1 3 7 = σ3.1 3 7 := by rw [eσ2032, u1_at]; exact if_neg (by decide)
                        have f3713 := congrArg Int32.toInt q3712
                        have f3714 := K1.g_3_7 hσ3
                        have f3715 := congrArg Int32.toInt k4
                        have f3716 := K1.g_3_7 hσ2
                        have q3717 : σ2.1 3 7 = σ.1 3 7 := by rw [eσ2, u1_at]; exact if_neg (by decide)
                        have f3718 := congrArg Int32.toInt q3717
                        have f3719 := K1.g_3_7 hσ
                        refine sX2_act hN hk1 ⟨by omega, by omega⟩ hσ3617 (fun σ3699 hσ3699 kk3725 => ?_)
                        obtain ⟨k3720, k3721, k3722, k3723, k3724⟩ := kk3725
                        exact hQ _ hσ3699 (⟨k3720.trans ((kq (a := 9) (b := 9) eσ3617 (by omega)).trans (k3602.trans (k3583.trans (k3564.trans (k3050.trans ((kq (a := 9) (b := 9) eσ2032 (fun q => absurd q.1 (by decide))).trans (k6.trans ((kq (a := 9) (b := 9) eσ2 (fun q => absurd q.1 (by decide))))))))))), k3721.trans ((kq (a := 9) (b := 10) eσ3617 (by omega)).trans (k3603.trans (k3584.trans (k3565.trans (k3051.trans ((kq (a := 9) (b := 10) eσ2032 (fun q => absurd q.1 (by decide))).trans (k7.trans ((kq (a := 9) (b := 10) eσ2 (fun q => absurd q.1 (by decide))))))))))), k3722.trans ((kq (a := 6) (b := 5) eσ3617 (by omega)).trans (k3604.trans (k3585.trans (k3566.trans (k3052.trans ((kq (a := 6) (b := 5) eσ2032 (fun q => absurd q.1 (by decide))).trans (k8.trans ((kq (a := 6) (b := 5) eσ2 (fun q => absurd q.1 (by decide))))))))))), k3723.trans ((kq (a := 7) (b := 4) eσ3617 (by omega)).trans (k3605.trans (k3586.trans (k3567.trans (k3053.trans ((kq (a := 7) (b := 4) eσ2032 (fun q => absurd q.1 (by decide))).trans (k9.trans ((kq (a := 7) (b := 4) eσ2 (fun q => absurd q.1 (by decide))))))))))), k3724.trans ((kq (a := 2) (b := 4) eσ3617 (by omega)).trans (k3606.trans (k3587.trans (k3568.trans (k3054.trans ((kq (a := 2) (b := 4) eσ2032 (fun q => absurd q.1 (by decide))).trans (k10.trans ((kq (a := 2) (b := 4) eσ2 (fun q => absurd q.1 (by decide)))))))))))⟩)
                  · have f3726 := tB (σ3599.1 3 11)
                    first | have f3727 := (noteqE (rfl : (σ3599.1 3 11).toInt = (σ3599.1 3 11).toInt) (show (0 : Int32).toInt = 0 from by decide)).mp c3613 | skip
                    exact hQ _ hσ3599 (⟨k3602.trans (k3583.trans (k3564.trans (k3050.trans ((kq (a := 9) (b := 9) eσ2032 (fun q => absurd q.1 (by decide))).trans (k6.trans ((kq (a := 9) (b := 9) eσ2 (fun q => absurd q.1 (by decide))))))))), k3603.trans (k3584.trans (k3565.trans (k3051.trans ((kq (a := 9) (b := 10) eσ2032 (fun q => absurd q.1 (by decide))).trans (k7.trans ((kq (a := 9) (b := 10) eσ2 (fun q => absurd q.1 (by decide))))))))), k3604.trans (k3585.trans (k3566.trans (k3052.trans ((kq (a := 6) (b := 5) eσ2032 (fun q => absurd q.1 (by decide))).trans (k8.trans ((kq (a := 6) (b := 5) eσ2 (fun q => absurd q.1 (by decide))))))))), k3605.trans (k3586.trans (k3567.trans (k3053.trans ((kq (a := 7) (b := 4) eσ2032 (fun q => absurd q.1 (by decide))).trans (k9.trans ((kq (a := 7) (b := 4) eσ2 (fun q => absurd q.1 (by decide))))))))), k3606.trans (k3587.trans (k3568.trans (k3054.trans ((kq (a := 2) (b := 4) eσ2032 (fun q => absurd q.1 (by decide))).trans (k10.trans ((kq (a := 2) (b := 4) eσ2 (fun q => absurd q.1 (by decide)))))))))⟩)
                · first | have f3729 := (noteqE (rfl : (jT r15.toNatClampNeg).toInt = (jT r15.toNatClampNeg).toInt) (show (2 : Int32).toInt = 2 from by decide)).mp c3596 | skip
                  unfold fX2_doOrder_j122
                  refine ⟨fun c3730 => ?_, fun c3730 => ?_⟩
                  · have f3731 := tB (σ3580.1 3 11)
                    first | have f3732 := (eqE (rfl : (σ3580.1 3 11).toInt = (σ3580.1 3 11).toInt) (show (0 : Int32).toInt = 0 from by decide)).mp c3730 | skip
                    intro v3733 ev3733
                    intro σ3734 eσ3734
                    have kb3735 := jobK_b hk1
                    have hσ3734 : K1 σ0 σ3734 := by rw [eσ3734]; exact hσ3580.u (rg_jobK hk1) (by omega) (by omega)
                    have g3737 : vp_in r15 18 := inE (rfl : r15.toInt = r15.toInt) (by omega) (by omega)
                    refine ⟨g3737, ?_⟩
                    refine ⟨fun c3738 => ?_, fun c3738 => ?_⟩
                    · first | have f3740 := (eqE (rfl : (jT r15.toNatClampNeg).toInt = (jT r15.toNatClampNeg).toInt) (show (1 : Int32).toInt = 1 from by decide)).mp c3738 | skip
                      have f3742 := tB r3059
                      have f3743 := tB r3573
                      refine sX2_valueFor hN hσ3734 (fun r3756 σ3744 hσ3744 kk3755 p3757 => ?_)
                      obtain ⟨k3745, k3746, k3747, k3748, k3749, k3750, k3751, k3752, k3753, k3754⟩ := kk3755
                      refine ⟨fun c3758 => ?_, fun c3758 => ?_⟩
                      · have f3759 := tB (σ3744.1 3 11)
                        first | have f3760 := (eqE (rfl : (σ3744.1 3 11).toInt = (σ3744.1 3 11).toInt) (show (0 : Int32).toInt = 0 from by decide)).mp c3758 | skip
                        have f3761 := tB r3592
                        have f3762 := tB r3756
                        refine sX1_setLocal hN hk1 hσ3744 (fun σ3763 hσ3763 kk3775 => ?_)
                        obtain ⟨k3764, k3765, k3766, k3767, k3768, k3769, k3770, k3771, k3772, k3773, k3774⟩ := kk3775
                        unfold fX2_doOrder_j174
                        exact hQ _ hσ3763 (⟨k3767.trans (k3747.trans ((kq (a := 9) (b := 9) eσ3734 (by omega)).trans (k3583.trans (k3564.trans (k3050.trans ((kq (a := 9) (b := 9) eσ2032 (fun q => absurd q.1 (by decide))).trans (k6.trans ((kq (a := 9) (b := 9) eσ2 (fun q => absurd q.1 (by decide))))))))))), k3768.trans (k3748.trans ((kq (a := 9) (b := 10) eσ3734 (by omega)).trans (k3584.trans (k3565.trans (k3051.trans ((kq (a := 9) (b := 10) eσ2032 (fun q => absurd q.1 (by decide))).trans (k7.trans ((kq (a := 9) (b := 10) eσ2 (fun q => absurd q.1 (by decide))))))))))), k3769.trans (k3749.trans ((kq (a := 6) (b := 5) eσ3734 (by omega)).trans (k3585.trans (k3566.trans (k3052.trans ((kq (a := 6) (b := 5) eσ2032 (fun q => absurd q.1 (by decide))).trans (k8.trans ((kq (a := 6) (b := 5) eσ2 (fun q => absurd q.1 (by decide))))))))))), k3770.trans (k3750.trans ((kq (a := 7) (b := 4) eσ3734 (by omega)).trans (k3586.trans (k3567.trans (k3053.trans ((kq (a := 7) (b := 4) eσ2032 (fun q => absurd q.1 (by decide))).trans (k9.trans ((kq (a := 7) (b := 4) eσ2 (fun q => absurd q.1 (by decide))))))))))), k3771.trans (k3751.trans ((kq (a := 2) (b := 4) eσ3734 (by omega)).trans (k3587.trans (k3568.trans (k3054.trans ((kq (a := 2) (b := 4) eσ2032 (fun q => absurd q.1 (by decide))).trans (k10.trans ((kq (a := 2) (b := 4) eσ2 (fun q => absurd q.1 (by decide)))))))))))⟩)
                      · have f3776 := tB (σ3744.1 3 11)
                        first | have f3777 := (noteqE (rfl : (σ3744.1 3 11).toInt = (σ3744.1 3 11).toInt) (show (0 : Int32).toInt = 0 from by decide)).mp c3758 | skip
                        unfold fX2_doOrder_j174
                        exact hQ _ hσ3744 (⟨k3747.trans ((kq (a := 9) (b := 9) eσ3734 (by omega)).trans (k3583.trans (k3564.trans (k3050.trans ((kq (a := 9) (b := 9) eσ2032 (fun q => absurd q.1 (by decide))).trans (k6.trans ((kq (a := 9) (b := 9) eσ2 (fun q => absurd q.1 (by decide)))))))))), k3748.trans ((kq (a := 9) (b := 10) eσ3734 (by omega)).trans (k3584.trans (k3565.trans (k3051.trans ((kq (a := 9) (b := 10) eσ2032 (fun q => absurd q.1 (by decide))).trans (k7.trans ((kq (a := 9) (b := 10) eσ2 (fun q => absurd q.1 (by decide)))))))))), k3749.trans ((kq (a := 6) (b := 5) eσ3734 (by omega)).trans (k3585.trans (k3566.trans (k3052.trans ((kq (a := 6) (b := 5) eσ2032 (fun q => absurd q.1 (by decide))).trans (k8.trans ((kq (a := 6) (b := 5) eσ2 (fun q => absurd q.1 (by decide)))))))))), k3750.trans ((kq (a := 7) (b := 4) eσ3734 (by omega)).trans (k3586.trans (k3567.trans (k3053.trans ((kq (a := 7) (b := 4) eσ2032 (fun q => absurd q.1 (by decide))).trans (k9.trans ((kq (a := 7) (b := 4) eσ2 (fun q => absurd q.1 (by decide)))))))))), k3751.trans ((kq (a := 2) (b := 4) eσ3734 (by omega)).trans (k3587.trans (k3568.trans (k3054.trans ((kq (a := 2) (b := 4) eσ2032 (fun q => absurd q.1 (by decide))).trans (k10.trans ((kq (a := 2) (b := 4) eσ2 (fun q => absurd q.1 (by decide))))))))))⟩)
                    · first | have f3779 := (noteqE (rfl : (jT r15.toNatClampNeg).toInt = (jT r15.toNatClampNeg).toInt) (show (1 : Int32).toInt = 1 from by decide)).mp c3738 | skip
                      have g3781 : vp_in r15 18 := inE (rfl : r15.toInt = r15.toInt) (by omega) (by omega)
                      refine ⟨g3781, ?_⟩
                      refine ⟨fun c3782 => ?_, fun c3782 => ?_⟩
                      · first | have f3784 := (eqE (rfl : (jT r15.toNatClampNeg).toInt = (jT r15.toNatClampNeg).toInt) (show (2 : Int32).toInt = 2 from by decide)).mp c3782 | skip
                        have f3786 := tB r3059
                        have f3787 := tB r3573
                        refine sX2_goesThere hN hσ3734 (fun r3801 p3802 => ?_)
                        refine ⟨fun c3803 => ?_, fun c3803 => ?_⟩
                        · have f3804 := tB r3801
                          first | have f3805 := (eqE (rfl : r3801.toInt = r3801.toInt) (show (0 : Int32).toInt = 0 from by decide)).mp c3803 | skip
                          exact hQ _ hσ3734 (⟨(kq (a := 9) (b := 9) eσ3734 (by omega)).trans (k3583.trans (k3564.trans (k3050.trans ((kq (a := 9) (b := 9) eσ2032 (fun q => absurd q.1 (by decide))).trans (k6.trans ((kq (a := 9) (b := 9) eσ2 (fun q => absurd q.1 (by decide))))))))), (kq (a := 9) (b := 10) eσ3734 (by omega)).trans (k3584.trans (k3565.trans (k3051.trans ((kq (a := 9) (b := 10) eσ2032 (fun q => absurd q.1 (by decide))).trans (k7.trans ((kq (a := 9) (b := 10) eσ2 (fun q => absurd q.1 (by decide))))))))), (kq (a := 6) (b := 5) eσ3734 (by omega)).trans (k3585.trans (k3566.trans (k3052.trans ((kq (a := 6) (b := 5) eσ2032 (fun q => absurd q.1 (by decide))).trans (k8.trans ((kq (a := 6) (b := 5) eσ2 (fun q => absurd q.1 (by decide))))))))), (kq (a := 7) (b := 4) eσ3734 (by omega)).trans (k3586.trans (k3567.trans (k3053.trans ((kq (a := 7) (b := 4) eσ2032 (fun q => absurd q.1 (by decide))).trans (k9.trans ((kq (a := 7) (b := 4) eσ2 (fun q => absurd q.1 (by decide))))))))), (kq (a := 2) (b := 4) eσ3734 (by omega)).trans (k3587.trans (k3568.trans (k3054.trans ((kq (a := 2) (b := 4) eσ2032 (fun q => absurd q.1 (by decide))).trans (k10.trans ((kq (a := 2) (b := 4) eσ2 (fun q => absurd q.1 (by decide)))))))))⟩)
                        · have f3806 := tB r3801
                          first | have f3807 := (noteqE (rfl : r3801.toInt = r3801.toInt) (show (0 : Int32).toInt = 0 from by decide)).mp c3803 | skip
                          intro v3808 ev3808
                          intro σ3809 eσ3809
                          have kb3810 := jobK_b hk1
                          have hσ3809 : K1 σ0 σ3809 := by rw [eσ3809]; exact hσ3734.u (rg_jobK hk1) (by omega) (by omega)
                          exact hQ _ hσ3809 (⟨(kq (a := 9) (b := 9) eσ3809 (by omega)).trans ((kq (a := 9) (b := 9) eσ3734 (by omega)).trans (k3583.trans (k3564.trans (k3050.trans ((kq (a := 9) (b := 9) eσ2032 (fun q => absurd q.1 (by decide))).trans (k6.trans ((kq (a := 9) (b := 9) eσ2 (fun q => absurd q.1 (by decide)))))))))), (kq (a := 9) (b := 10) eσ3809 (by omega)).trans ((kq (a := 9) (b := 10) eσ3734 (by omega)).trans (k3584.trans (k3565.trans (k3051.trans ((kq (a := 9) (b := 10) eσ2032 (fun q => absurd q.1 (by decide))).trans (k7.trans ((kq (a := 9) (b := 10) eσ2 (fun q => absurd q.1 (by decide)))))))))), (kq (a := 6) (b := 5) eσ3809 (by omega)).trans ((kq (a := 6) (b := 5) eσ3734 (by omega)).trans (k3585.trans (k3566.trans (k3052.trans ((kq (a := 6) (b := 5) eσ2032 (fun q => absurd q.1 (by decide))).trans (k8.trans ((kq (a := 6) (b := 5) eσ2 (fun q => absurd q.1 (by decide)))))))))), (kq (a := 7) (b := 4) eσ3809 (by omega)).trans ((kq (a := 7) (b := 4) eσ3734 (by omega)).trans (k3586.trans (k3567.trans (k3053.trans ((kq (a := 7) (b := 4) eσ2032 (fun q => absurd q.1 (by decide))).trans (k9.trans ((kq (a := 7) (b := 4) eσ2 (fun q => absurd q.1 (by decide)))))))))), (kq (a := 2) (b := 4) eσ3809 (by omega)).trans ((kq (a := 2) (b := 4) eσ3734 (by omega)).trans (k3587.trans (k3568.trans (k3054.trans ((kq (a := 2) (b := 4) eσ2032 (fun q => absurd q.1 (by decide))).trans (k10.trans ((kq (a := 2) (b := 4) eσ2 (fun q => absurd q.1 (by decide))))))))))⟩)
                      · first | have f3812 := (noteqE (rfl : (jT r15.toNatClampNeg).toInt = (jT r15.toNatClampNeg).toInt) (show (2 : Int32).toInt = 2 from by decide)).mp c3782 | skip
                        have f3814 := tB r3059
                        have f3815 := tB r3573
                        have f3817 := K1.g_3_7 hσ3734
                        have q3818 : σ3734.1 3 7 = σ3580.1 3 7 := by rw [eσ3734]; exact congrFun (u1_ne (by omega)) 7
                        have f3819 := congrArg Int32.toInt q3818
                        have f3820 := K1.g_3_7 hσ3580
                        have f3821 := congrArg Int32.toInt k3581
                        have f3822 := K1.g_3_7 hσ3561
                        have f3823 := congrArg Int32.toInt k3562
                        have f3824 := K1.g_3_7 hσ3047
                        have f3825 := congrArg Int32.toInt k3048
                        have f3826 := K1.g_3_7 hσ2032
                        have q3827 : σ2032.1 3 7 = σ3.1 3 7 := by rw [eσ2032, u1_at]; exact if_neg (by decide)
                        have f3828 := congrArg Int32.toInt q3827
                        have f3829 := K1.g_3_7 hσ3
                        have f3830 := congrArg Int32.toInt k4
                        have f3831 := K1.g_3_7 hσ2
                        have q3832 : σ2.1 3 7 = σ.1 3 7 := by rw [eσ2, u1_at]; exact if_neg (by decide)
                        have f3833 := congrArg Int32.toInt q3832
                        have f3834 := K1.g_3_7 hσ
                        refine sX2_act hN hk1 ⟨by omega, by omega⟩ hσ3734 (fun σ3816 hσ3816 kk3840 => ?_)
                        obtain ⟨k3835, k3836, k3837, k3838, k3839⟩ := kk3840
                        exact hQ _ hσ3816 (⟨k3835.trans ((kq (a := 9) (b := 9) eσ3734 (by omega)).trans (k3583.trans (k3564.trans (k3050.trans ((kq (a := 9) (b := 9) eσ2032 (fun q => absurd q.1 (by decide))).trans (k6.trans ((kq (a := 9) (b := 9) eσ2 (fun q => absurd q.1 (by decide)))))))))), k3836.trans ((kq (a := 9) (b := 10) eσ3734 (by omega)).trans (k3584.trans (k3565.trans (k3051.trans ((kq (a := 9) (b := 10) eσ2032 (fun q => absurd q.1 (by decide))).trans (k7.trans ((kq (a := 9) (b := 10) eσ2 (fun q => absurd q.1 (by decide)))))))))), k3837.trans ((kq (a := 6) (b := 5) eσ3734 (by omega)).trans (k3585.trans (k3566.trans (k3052.trans ((kq (a := 6) (b := 5) eσ2032 (fun q => absurd q.1 (by decide))).trans (k8.trans ((kq (a := 6) (b := 5) eσ2 (fun q => absurd q.1 (by decide)))))))))), k3838.trans ((kq (a := 7) (b := 4) eσ3734 (by omega)).trans (k3586.trans (k3567.trans (k3053.trans ((kq (a := 7) (b := 4) eσ2032 (fun q => absurd q.1 (by decide))).trans (k9.trans ((kq (a := 7) (b := 4) eσ2 (fun q => absurd q.1 (by decide)))))))))), k3839.trans ((kq (a := 2) (b := 4) eσ3734 (by omega)).trans (k3587.trans (k3568.trans (k3054.trans ((kq (a := 2) (b := 4) eσ2032 (fun q => absurd q.1 (by decide))).trans (k10.trans ((kq (a := 2) (b := 4) eσ2 (fun q => absurd q.1 (by decide))))))))))⟩)
                  · have f3841 := tB (σ3580.1 3 11)
                    first | have f3842 := (noteqE (rfl : (σ3580.1 3 11).toInt = (σ3580.1 3 11).toInt) (show (0 : Int32).toInt = 0 from by decide)).mp c3730 | skip
                    exact hQ _ hσ3580 (⟨k3583.trans (k3564.trans (k3050.trans ((kq (a := 9) (b := 9) eσ2032 (fun q => absurd q.1 (by decide))).trans (k6.trans ((kq (a := 9) (b := 9) eσ2 (fun q => absurd q.1 (by decide)))))))), k3584.trans (k3565.trans (k3051.trans ((kq (a := 9) (b := 10) eσ2032 (fun q => absurd q.1 (by decide))).trans (k7.trans ((kq (a := 9) (b := 10) eσ2 (fun q => absurd q.1 (by decide)))))))), k3585.trans (k3566.trans (k3052.trans ((kq (a := 6) (b := 5) eσ2032 (fun q => absurd q.1 (by decide))).trans (k8.trans ((kq (a := 6) (b := 5) eσ2 (fun q => absurd q.1 (by decide)))))))), k3586.trans (k3567.trans (k3053.trans ((kq (a := 7) (b := 4) eσ2032 (fun q => absurd q.1 (by decide))).trans (k9.trans ((kq (a := 7) (b := 4) eσ2 (fun q => absurd q.1 (by decide)))))))), k3587.trans (k3568.trans (k3054.trans ((kq (a := 2) (b := 4) eσ2032 (fun q => absurd q.1 (by decide))).trans (k10.trans ((kq (a := 2) (b := 4) eσ2 (fun q => absurd q.1 (by decide))))))))⟩)
              · have f3843 := tB (jT r15.toNatClampNeg)
                first | have f3844 := (noteqE (rfl : (jT r15.toNatClampNeg).toInt = (jT r15.toNatClampNeg).toInt) (show (1 : Int32).toInt = 1 from by decide)).mp c3577 | skip
                unfold fX2_doOrder_j103
                have g3846 : vp_in r15 18 := inE (rfl : r15.toInt = r15.toInt) (by omega) (by omega)
                refine ⟨g3846, ?_⟩
                refine ⟨fun c3847 => ?_, fun c3847 => ?_⟩
                · first | have f3849 := (eqE (rfl : (jT r15.toNatClampNeg).toInt = (jT r15.toNatClampNeg).toInt) (show (2 : Int32).toInt = 2 from by decide)).mp c3847 | skip
                  refine sX2_nextDistance hN hσ3561 (fun r3862 σ3850 hσ3850 kk3861 p3863 => ?_)
                  obtain ⟨k3851, k3852, k3853, k3854, k3855, k3856, k3857, k3858, k3859, k3860⟩ := kk3861
                  unfold fX2_doOrder_j122
                  refine ⟨fun c3864 => ?_, fun c3864 => ?_⟩
                  · have f3865 := tB (σ3850.1 3 11)
                    first | have f3866 := (eqE (rfl : (σ3850.1 3 11).toInt = (σ3850.1 3 11).toInt) (show (0 : Int32).toInt = 0 from by decide)).mp c3864 | skip
                    intro v3867 ev3867
                    intro σ3868 eσ3868
                    have kb3869 := jobK_b hk1
                    have hσ3868 : K1 σ0 σ3868 := by rw [eσ3868]; exact hσ3850.u (rg_jobK hk1) (by omega) (by omega)
                    have g3871 : vp_in r15 18 := inE (rfl : r15.toInt = r15.toInt) (by omega) (by omega)
                    refine ⟨g3871, ?_⟩
                    refine ⟨fun c3872 => ?_, fun c3872 => ?_⟩
                    · first | have f3874 := (eqE (rfl : (jT r15.toNatClampNeg).toInt = (jT r15.toNatClampNeg).toInt) (show (1 : Int32).toInt = 1 from by decide)).mp c3872 | skip
                      have f3876 := tB r3059
                      have f3877 := tB r3573
                      refine sX2_valueFor hN hσ3868 (fun r3890 σ3878 hσ3878 kk3889 p3891 => ?_)
                      obtain ⟨k3879, k3880, k3881, k3882, k3883, k3884, k3885, k3886, k3887, k3888⟩ := kk3889
                      refine ⟨fun c3892 => ?_, fun c3892 => ?_⟩
                      · have f3893 := tB (σ3878.1 3 11)
                        first | have f3894 := (eqE (rfl : (σ3878.1 3 11).toInt = (σ3878.1 3 11).toInt) (show (0 : Int32).toInt = 0 from by decide)).mp c3892 | skip
                        have f3895 := tB r3890
                        refine sX1_setLocal hN hk1 hσ3878 (fun σ3896 hσ3896 kk3908 => ?_)
                        obtain ⟨k3897, k3898, k3899, k3900, k3901, k3902, k3903, k3904, k3905, k3906, k3907⟩ := kk3908
                        unfold fX2_doOrder_j174
                        exact hQ _ hσ3896 (⟨k3900.trans (k3881.trans ((kq (a := 9) (b := 9) eσ3868 (by omega)).trans (k3853.trans (k3564.trans (k3050.trans ((kq (a := 9) (b := 9) eσ2032 (fun q => absurd q.1 (by decide))).trans (k6.trans ((kq (a := 9) (b := 9) eσ2 (fun q => absurd q.1 (by decide))))))))))), k3901.trans (k3882.trans ((kq (a := 9) (b := 10) eσ3868 (by omega)).trans (k3854.trans (k3565.trans (k3051.trans ((kq (a := 9) (b := 10) eσ2032 (fun q => absurd q.1 (by decide))).trans (k7.trans ((kq (a := 9) (b := 10) eσ2 (fun q => absurd q.1 (by decide))))))))))), k3902.trans (k3883.trans ((kq (a := 6) (b := 5) eσ3868 (by omega)).trans (k3855.trans (k3566.trans (k3052.trans ((kq (a := 6) (b := 5) eσ2032 (fun q => absurd q.1 (by decide))).trans (k8.trans ((kq (a := 6) (b := 5) eσ2 (fun q => absurd q.1 (by decide))))))))))), k3903.trans (k3884.trans ((kq (a := 7) (b := 4) eσ3868 (by omega)).trans (k3856.trans (k3567.trans (k3053.trans ((kq (a := 7) (b := 4) eσ2032 (fun q => absurd q.1 (by decide))).trans (k9.trans ((kq (a := 7) (b := 4) eσ2 (fun q => absurd q.1 (by decide))))))))))), k3904.trans (k3885.trans ((kq (a := 2) (b := 4) eσ3868 (by omega)).trans (k3857.trans (k3568.trans (k3054.trans ((kq (a := 2) (b := 4) eσ2032 (fun q => absurd q.1 (by decide))).trans (k10.trans ((kq (a := 2) (b := 4) eσ2 (fun q => absurd q.1 (by decide)))))))))))⟩)
                      · have f3909 := tB (σ3878.1 3 11)
                        first | have f3910 := (noteqE (rfl : (σ3878.1 3 11).toInt = (σ3878.1 3 11).toInt) (show (0 : Int32).toInt = 0 from by decide)).mp c3892 | skip
                        unfold fX2_doOrder_j174
                        exact hQ _ hσ3878 (⟨k3881.trans ((kq (a := 9) (b := 9) eσ3868 (by omega)).trans (k3853.trans (k3564.trans (k3050.trans ((kq (a := 9) (b := 9) eσ2032 (fun q => absurd q.1 (by decide))).trans (k6.trans ((kq (a := 9) (b := 9) eσ2 (fun q => absurd q.1 (by decide)))))))))), k3882.trans ((kq (a := 9) (b := 10) eσ3868 (by omega)).trans (k3854.trans (k3565.trans (k3051.trans ((kq (a := 9) (b := 10) eσ2032 (fun q => absurd q.1 (by decide))).trans (k7.trans ((kq (a := 9) (b := 10) eσ2 (fun q => absurd q.1 (by decide)))))))))), k3883.trans ((kq (a := 6) (b := 5) eσ3868 (by omega)).trans (k3855.trans (k3566.trans (k3052.trans ((kq (a := 6) (b := 5) eσ2032 (fun q => absurd q.1 (by decide))).trans (k8.trans ((kq (a := 6) (b := 5) eσ2 (fun q => absurd q.1 (by decide)))))))))), k3884.trans ((kq (a := 7) (b := 4) eσ3868 (by omega)).trans (k3856.trans (k3567.trans (k3053.trans ((kq (a := 7) (b := 4) eσ2032 (fun q => absurd q.1 (by decide))).trans (k9.trans ((kq (a := 7) (b := 4) eσ2 (fun q => absurd q.1 (by decide)))))))))), k3885.trans ((kq (a := 2) (b := 4) eσ3868 (by omega)).trans (k3857.trans (k3568.trans (k3054.trans ((kq (a := 2) (b := 4) eσ2032 (fun q => absurd q.1 (by decide))).trans (k10.trans ((kq (a := 2) (b := 4) eσ2 (fun q => absurd q.1 (by decide))))))))))⟩)
                    · first | have f3912 := (noteqE (rfl : (jT r15.toNatClampNeg).toInt = (jT r15.toNatClampNeg).toInt) (show (1 : Int32).toInt = 1 from by decide)).mp c3872 | skip
                      have g3914 : vp_in r15 18 := inE (rfl : r15.toInt = r15.toInt) (by omega) (by omega)
                      refine ⟨g3914, ?_⟩
                      refine ⟨fun c3915 => ?_, fun c3915 => ?_⟩
                      · first | have f3917 := (eqE (rfl : (jT r15.toNatClampNeg).toInt = (jT r15.toNatClampNeg).toInt) (show (2 : Int32).toInt = 2 from by decide)).mp c3915 | skip
                        have f3919 := tB r3059
                        have f3920 := tB r3573
                        refine sX2_goesThere hN hσ3868 (fun r3934 p3935 => ?_)
                        refine ⟨fun c3936 => ?_, fun c3936 => ?_⟩
                        · have f3937 := tB r3934
                          first | have f3938 := (eqE (rfl : r3934.toInt = r3934.toInt) (show (0 : Int32).toInt = 0 from by decide)).mp c3936 | skip
                          exact hQ _ hσ3868 (⟨(kq (a := 9) (b := 9) eσ3868 (by omega)).trans (k3853.trans (k3564.trans (k3050.trans ((kq (a := 9) (b := 9) eσ2032 (fun q => absurd q.1 (by decide))).trans (k6.trans ((kq (a := 9) (b := 9) eσ2 (fun q => absurd q.1 (by decide))))))))), (kq (a := 9) (b := 10) eσ3868 (by omega)).trans (k3854.trans (k3565.trans (k3051.trans ((kq (a := 9) (b := 10) eσ2032 (fun q => absurd q.1 (by decide))).trans (k7.trans ((kq (a := 9) (b := 10) eσ2 (fun q => absurd q.1 (by decide))))))))), (kq (a := 6) (b := 5) eσ3868 (by omega)).trans (k3855.trans (k3566.trans (k3052.trans ((kq (a := 6) (b := 5) eσ2032 (fun q => absurd q.1 (by decide))).trans (k8.trans ((kq (a := 6) (b := 5) eσ2 (fun q => absurd q.1 (by decide))))))))), (kq (a := 7) (b := 4) eσ3868 (by omega)).trans (k3856.trans (k3567.trans (k3053.trans ((kq (a := 7) (b := 4) eσ2032 (fun q => absurd q.1 (by decide))).trans (k9.trans ((kq (a := 7) (b := 4) eσ2 (fun q => absurd q.1 (by decide))))))))), (kq (a := 2) (b := 4) eσ3868 (by omega)).trans (k3857.trans (k3568.trans (k3054.trans ((kq (a := 2) (b := 4) eσ2032 (fun q => absurd q.1 (by decide))).trans (k10.trans ((kq (a := 2) (b := 4) eσ2 (fun q => absurd q.1 (by decide)))))))))⟩)
                        · have f3939 := tB r3934
                          first | have f3940 := (noteqE (rfl : r3934.toInt = r3934.toInt) (show (0 : Int32).toInt = 0 from by decide)).mp c3936 | skip
                          intro v3941 ev3941
                          intro σ3942 eσ3942
                          have kb3943 := jobK_b hk1
                          have hσ3942 : K1 σ0 σ3942 := by rw [eσ3942]; exact hσ3868.u (rg_jobK hk1) (by omega) (by omega)
                          exact hQ _ hσ3942 (⟨(kq (a := 9) (b := 9) eσ3942 (by omega)).trans ((kq (a := 9) (b := 9) eσ3868 (by omega)).trans (k3853.trans (k3564.trans (k3050.trans ((kq (a := 9) (b := 9) eσ2032 (fun q => absurd q.1 (by decide))).trans (k6.trans ((kq (a := 9) (b := 9) eσ2 (fun q => absurd q.1 (by decide)))))))))), (kq (a := 9) (b := 10) eσ3942 (by omega)).trans ((kq (a := 9) (b := 10) eσ3868 (by omega)).trans (k3854.trans (k3565.trans (k3051.trans ((kq (a := 9) (b := 10) eσ2032 (fun q => absurd q.1 (by decide))).trans (k7.trans ((kq (a := 9) (b := 10) eσ2 (fun q => absurd q.1 (by decide)))))))))), (kq (a := 6) (b := 5) eσ3942 (by omega)).trans ((kq (a := 6) (b := 5) eσ3868 (by omega)).trans (k3855.trans (k3566.trans (k3052.trans ((kq (a := 6) (b := 5) eσ2032 (fun q => absurd q.1 (by decide))).trans (k8.trans ((kq (a := 6) (b := 5) eσ2 (fun q => absurd q.1 (by decide)))))))))), (kq (a := 7) (b := 4) eσ3942 (by omega)).trans ((kq (a := 7) (b := 4) eσ3868 (by omega)).trans (k3856.trans (k3567.trans (k3053.trans ((kq (a := 7) (b := 4) eσ2032 (fun q => absurd q.1 (by decide))).trans (k9.trans ((kq (a := 7) (b := 4) eσ2 (fun q => absurd q.1 (by decide)))))))))), (kq (a := 2) (b := 4) eσ3942 (by omega)).trans ((kq (a := 2) (b := 4) eσ3868 (by omega)).trans (k3857.trans (k3568.trans (k3054.trans ((kq (a := 2) (b := 4) eσ2032 (fun q => absurd q.1 (by decide))).trans (k10.trans ((kq (a := 2) (b := 4) eσ2 (fun q => absurd q.1 (by decide))))))))))⟩)
                      · first | have f3945 := (noteqE (rfl : (jT r15.toNatClampNeg).toInt = (jT r15.toNatClampNeg).toInt) (show (2 : Int32).toInt = 2 from by decide)).mp c3915 | skip
                        have f3947 := tB r3059
                        have f3948 := tB r3573
                        have f3950 := K1.g_3_7 hσ3868
                        have q3951 : σ3868.1 3 7 = σ3850.1 3 7 := by rw [eσ3868]; exact congrFun (u1_ne (by omega)) 7
                        have f3952 := congrArg Int32.toInt q3951
                        have f3953 := K1.g_3_7 hσ3850
                        have f3954 := congrArg Int32.toInt k3851
                        have f3955 := K1.g_3_7 hσ3561
                        have f3956 := congrArg Int32.toInt k3562
                        have f3957 := K1.g_3_7 hσ3047
                        have f3958 := congrArg Int32.toInt k3048
                        have f3959 := K1.g_3_7 hσ2032
                        have q3960 : σ2032.1 3 7 = σ3.1 3 7 := by rw [eσ2032, u1_at]; exact if_neg (by decide)
                        have f3961 := congrArg Int32.toInt q3960
                        have f3962 := K1.g_3_7 hσ3
                        have f3963 := congrArg Int32.toInt k4
                        have f3964 := K1.g_3_7 hσ2
                        have q3965 : σ2.1 3 7 = σ.1 3 7 := by rw [eσ2, u1_at]; exact if_neg (by decide)
                        have f3966 := congrArg Int32.toInt q3965
                        have f3967 := K1.g_3_7 hσ
                        refine sX2_act hN hk1 ⟨by omega, by omega⟩ hσ3868 (fun σ3949 hσ3949 kk3973 => ?_)
                        obtain ⟨k3968, k3969, k3970, k3971, k3972⟩ := kk3973
                        exact hQ _ hσ3949 (⟨k3968.trans ((kq (a := 9) (b := 9) eσ3868 (by omega)).trans (k3853.trans (k3564.trans (k3050.trans ((kq (a := 9) (b := 9) eσ2032 (fun q => absurd q.1 (by decide))).trans (k6.trans ((kq (a := 9) (b := 9) eσ2 (fun q => absurd q.1 (by decide)))))))))), k3969.trans ((kq (a := 9) (b := 10) eσ3868 (by omega)).trans (k3854.trans (k3565.trans (k3051.trans ((kq (a := 9) (b := 10) eσ2032 (fun q => absurd q.1 (by decide))).trans (k7.trans ((kq (a := 9) (b := 10) eσ2 (fun q => absurd q.1 (by decide)))))))))), k3970.trans ((kq (a := 6) (b := 5) eσ3868 (by omega)).trans (k3855.trans (k3566.trans (k3052.trans ((kq (a := 6) (b := 5) eσ2032 (fun q => absurd q.1 (by decide))).trans (k8.trans ((kq (a := 6) (b := 5) eσ2 (fun q => absurd q.1 (by decide)))))))))), k3971.trans ((kq (a := 7) (b := 4) eσ3868 (by omega)).trans (k3856.trans (k3567.trans (k3053.trans ((kq (a := 7) (b := 4) eσ2032 (fun q => absurd q.1 (by decide))).trans (k9.trans ((kq (a := 7) (b := 4) eσ2 (fun q => absurd q.1 (by decide)))))))))), k3972.trans ((kq (a := 2) (b := 4) eσ3868 (by omega)).trans (k3857.trans (k3568.trans (k3054.trans ((kq (a := 2) (b := 4) eσ2032 (fun q => absurd q.1 (by decide))).trans (k10.trans ((kq (a := 2) (b := 4) eσ2 (fun q => absurd q.1 (by decide))))))))))⟩)
                  · have f3974 := tB (σ3850.1 3 11)
                    first | have f3975 := (noteqE (rfl : (σ3850.1 3 11).toInt = (σ3850.1 3 11).toInt) (show (0 : Int32).toInt = 0 from by decide)).mp c3864 | skip
                    exact hQ _ hσ3850 (⟨k3853.trans (k3564.trans (k3050.trans ((kq (a := 9) (b := 9) eσ2032 (fun q => absurd q.1 (by decide))).trans (k6.trans ((kq (a := 9) (b := 9) eσ2 (fun q => absurd q.1 (by decide)))))))), k3854.trans (k3565.trans (k3051.trans ((kq (a := 9) (b := 10) eσ2032 (fun q => absurd q.1 (by decide))).trans (k7.trans ((kq (a := 9) (b := 10) eσ2 (fun q => absurd q.1 (by decide)))))))), k3855.trans (k3566.trans (k3052.trans ((kq (a := 6) (b := 5) eσ2032 (fun q => absurd q.1 (by decide))).trans (k8.trans ((kq (a := 6) (b := 5) eσ2 (fun q => absurd q.1 (by decide)))))))), k3856.trans (k3567.trans (k3053.trans ((kq (a := 7) (b := 4) eσ2032 (fun q => absurd q.1 (by decide))).trans (k9.trans ((kq (a := 7) (b := 4) eσ2 (fun q => absurd q.1 (by decide)))))))), k3857.trans (k3568.trans (k3054.trans ((kq (a := 2) (b := 4) eσ2032 (fun q => absurd q.1 (by decide))).trans (k10.trans ((kq (a := 2) (b := 4) eσ2 (fun q => absurd q.1 (by decide))))))))⟩)
                · first | have f3977 := (noteqE (rfl : (jT r15.toNatClampNeg).toInt = (jT r15.toNatClampNeg).toInt) (show (2 : Int32).toInt = 2 from by decide)).mp c3847 | skip
                  unfold fX2_doOrder_j122
                  refine ⟨fun c3978 => ?_, fun c3978 => ?_⟩
                  · have f3979 := tB (σ3561.1 3 11)
                    first | have f3980 := (eqE (rfl : (σ3561.1 3 11).toInt = (σ3561.1 3 11).toInt) (show (0 : Int32).toInt = 0 from by decide)).mp c3978 | skip
                    intro v3981 ev3981
                    intro σ3982 eσ3982
                    have kb3983 := jobK_b hk1
                    have hσ3982 : K1 σ0 σ3982 := by rw [eσ3982]; exact hσ3561.u (rg_jobK hk1) (by omega) (by omega)
                    have g3985 : vp_in r15 18 := inE (rfl : r15.toInt = r15.toInt) (by omega) (by omega)
                    refine ⟨g3985, ?_⟩
                    refine ⟨fun c3986 => ?_, fun c3986 => ?_⟩
                    · first | have f3988 := (eqE (rfl : (jT r15.toNatClampNeg).toInt = (jT r15.toNatClampNeg).toInt) (show (1 : Int32).toInt = 1 from by decide)).mp c3986 | skip
                      have f3990 := tB r3059
                      have f3991 := tB r3573
                      refine sX2_valueFor hN hσ3982 (fun r4004 σ3992 hσ3992 kk4003 p4005 => ?_)
                      obtain ⟨k3993, k3994, k3995, k3996, k3997, k3998, k3999, k4000, k4001, k4002⟩ := kk4003
                      refine ⟨fun c4006 => ?_, fun c4006 => ?_⟩
                      · have f4007 := tB (σ3992.1 3 11)
                        first | have f4008 := (eqE (rfl : (σ3992.1 3 11).toInt = (σ3992.1 3 11).toInt) (show (0 : Int32).toInt = 0 from by decide)).mp c4006 | skip
                        have f4009 := tB r4004
                        refine sX1_setLocal hN hk1 hσ3992 (fun σ4010 hσ4010 kk4022 => ?_)
                        obtain ⟨k4011, k4012, k4013, k4014, k4015, k4016, k4017, k4018, k4019, k4020, k4021⟩ := kk4022
                        unfold fX2_doOrder_j174
                        exact hQ _ hσ4010 (⟨k4014.trans (k3995.trans ((kq (a := 9) (b := 9) eσ3982 (by omega)).trans (k3564.trans (k3050.trans ((kq (a := 9) (b := 9) eσ2032 (fun q => absurd q.1 (by decide))).trans (k6.trans ((kq (a := 9) (b := 9) eσ2 (fun q => absurd q.1 (by decide)))))))))), k4015.trans (k3996.trans ((kq (a := 9) (b := 10) eσ3982 (by omega)).trans (k3565.trans (k3051.trans ((kq (a := 9) (b := 10) eσ2032 (fun q => absurd q.1 (by decide))).trans (k7.trans ((kq (a := 9) (b := 10) eσ2 (fun q => absurd q.1 (by decide)))))))))), k4016.trans (k3997.trans ((kq (a := 6) (b := 5) eσ3982 (by omega)).trans (k3566.trans (k3052.trans ((kq (a := 6) (b := 5) eσ2032 (fun q => absurd q.1 (by decide))).trans (k8.trans ((kq (a := 6) (b := 5) eσ2 (fun q => absurd q.1 (by decide)))))))))), k4017.trans (k3998.trans ((kq (a := 7) (b := 4) eσ3982 (by omega)).trans (k3567.trans (k3053.trans ((kq (a := 7) (b := 4) eσ2032 (fun q => absurd q.1 (by decide))).trans (k9.trans ((kq (a := 7) (b := 4) eσ2 (fun q => absurd q.1 (by decide)))))))))), k4018.trans (k3999.trans ((kq (a := 2) (b := 4) eσ3982 (by omega)).trans (k3568.trans (k3054.trans ((kq (a := 2) (b := 4) eσ2032 (fun q => absurd q.1 (by decide))).trans (k10.trans ((kq (a := 2) (b := 4) eσ2 (fun q => absurd q.1 (by decide))))))))))⟩)
                      · have f4023 := tB (σ3992.1 3 11)
                        first | have f4024 := (noteqE (rfl : (σ3992.1 3 11).toInt = (σ3992.1 3 11).toInt) (show (0 : Int32).toInt = 0 from by decide)).mp c4006 | skip
                        unfold fX2_doOrder_j174
                        exact hQ _ hσ3992 (⟨k3995.trans ((kq (a := 9) (b := 9) eσ3982 (by omega)).trans (k3564.trans (k3050.trans ((kq (a := 9) (b := 9) eσ2032 (fun q => absurd q.1 (by decide))).trans (k6.trans ((kq (a := 9) (b := 9) eσ2 (fun q => absurd q.1 (by decide))))))))), k3996.trans ((kq (a := 9) (b := 10) eσ3982 (by omega)).trans (k3565.trans (k3051.trans ((kq (a := 9) (b := 10) eσ2032 (fun q => absurd q.1 (by decide))).trans (k7.trans ((kq (a := 9) (b := 10) eσ2 (fun q => absurd q.1 (by decide))))))))), k3997.trans ((kq (a := 6) (b := 5) eσ3982 (by omega)).trans (k3566.trans (k3052.trans ((kq (a := 6) (b := 5) eσ2032 (fun q => absurd q.1 (by decide))).trans (k8.trans ((kq (a := 6) (b := 5) eσ2 (fun q => absurd q.1 (by decide))))))))), k3998.trans ((kq (a := 7) (b := 4) eσ3982 (by omega)).trans (k3567.trans (k3053.trans ((kq (a := 7) (b := 4) eσ2032 (fun q => absurd q.1 (by decide))).trans (k9.trans ((kq (a := 7) (b := 4) eσ2 (fun q => absurd q.1 (by decide))))))))), k3999.trans ((kq (a := 2) (b := 4) eσ3982 (by omega)).trans (k3568.trans (k3054.trans ((kq (a := 2) (b := 4) eσ2032 (fun q => absurd q.1 (by decide))).trans (k10.trans ((kq (a := 2) (b := 4) eσ2 (fun q => absurd q.1 (by decide)))))))))⟩)
                    · first | have f4026 := (noteqE (rfl : (jT r15.toNatClampNeg).toInt = (jT r15.toNatClampNeg).toInt) (show (1 : Int32).toInt = 1 from by decide)).mp c3986 | skip
                      have g4028 : vp_in r15 18 := inE (rfl : r15.toInt = r15.toInt) (by omega) (by omega)
                      refine ⟨g4028, ?_⟩
                      refine ⟨fun c4029 => ?_, fun c4029 => ?_⟩
                      · first | have f4031 := (eqE (rfl : (jT r15.toNatClampNeg).toInt = (jT r15.toNatClampNeg).toInt) (show (2 : Int32).toInt = 2 from by decide)).mp c4029 | skip
                        have f4033 := tB r3059
                        have f4034 := tB r3573
                        refine sX2_goesThere hN hσ3982 (fun r4048 p4049 => ?_)
                        refine ⟨fun c4050 => ?_, fun c4050 => ?_⟩
                        · have f4051 := tB r4048
                          first | have f4052 := (eqE (rfl : r4048.toInt = r4048.toInt) (show (0 : Int32).toInt = 0 from by decide)).mp c4050 | skip
                          exact hQ _ hσ3982 (⟨(kq (a := 9) (b := 9) eσ3982 (by omega)).trans (k3564.trans (k3050.trans ((kq (a := 9) (b := 9) eσ2032 (fun q => absurd q.1 (by decide))).trans (k6.trans ((kq (a := 9) (b := 9) eσ2 (fun q => absurd q.1 (by decide)))))))), (kq (a := 9) (b := 10) eσ3982 (by omega)).trans (k3565.trans (k3051.trans ((kq (a := 9) (b := 10) eσ2032 (fun q => absurd q.1 (by decide))).trans (k7.trans ((kq (a := 9) (b := 10) eσ2 (fun q => absurd q.1 (by decide)))))))), (kq (a := 6) (b := 5) eσ3982 (by omega)).trans (k3566.trans (k3052.trans ((kq (a := 6) (b := 5) eσ2032 (fun q => absurd q.1 (by decide))).trans (k8.trans ((kq (a := 6) (b := 5) eσ2 (fun q => absurd q.1 (by decide)))))))), (kq (a := 7) (b := 4) eσ3982 (by omega)).trans (k3567.trans (k3053.trans ((kq (a := 7) (b := 4) eσ2032 (fun q => absurd q.1 (by decide))).trans (k9.trans ((kq (a := 7) (b := 4) eσ2 (fun q => absurd q.1 (by decide)))))))), (kq (a := 2) (b := 4) eσ3982 (by omega)).trans (k3568.trans (k3054.trans ((kq (a := 2) (b := 4) eσ2032 (fun q => absurd q.1 (by decide))).trans (k10.trans ((kq (a := 2) (b := 4) eσ2 (fun q => absurd q.1 (by decide))))))))⟩)
                        · have f4053 := tB r4048
                          first | have f4054 := (noteqE (rfl : r4048.toInt = r4048.toInt) (show (0 : Int32).toInt = 0 from by decide)).mp c4050 | skip
                          intro v4055 ev4055
                          intro σ4056 eσ4056
                          have kb4057 := jobK_b hk1
                          have hσ4056 : K1 σ0 σ4056 := by rw [eσ4056]; exact hσ3982.u (rg_jobK hk1) (by omega) (by omega)
                          exact hQ _ hσ4056 (⟨(kq (a := 9) (b := 9) eσ4056 (by omega)).trans ((kq (a := 9) (b := 9) eσ3982 (by omega)).trans (k3564.trans (k3050.trans ((kq (a := 9) (b := 9) eσ2032 (fun q => absurd q.1 (by decide))).trans (k6.trans ((kq (a := 9) (b := 9) eσ2 (fun q => absurd q.1 (by decide))))))))), (kq (a := 9) (b := 10) eσ4056 (by omega)).trans ((kq (a := 9) (b := 10) eσ3982 (by omega)).trans (k3565.trans (k3051.trans ((kq (a := 9) (b := 10) eσ2032 (fun q => absurd q.1 (by decide))).trans (k7.trans ((kq (a := 9) (b := 10) eσ2 (fun q => absurd q.1 (by decide))))))))), (kq (a := 6) (b := 5) eσ4056 (by omega)).trans ((kq (a := 6) (b := 5) eσ3982 (by omega)).trans (k3566.trans (k3052.trans ((kq (a := 6) (b := 5) eσ2032 (fun q => absurd q.1 (by decide))).trans (k8.trans ((kq (a := 6) (b := 5) eσ2 (fun q => absurd q.1 (by decide))))))))), (kq (a := 7) (b := 4) eσ4056 (by omega)).trans ((kq (a := 7) (b := 4) eσ3982 (by omega)).trans (k3567.trans (k3053.trans ((kq (a := 7) (b := 4) eσ2032 (fun q => absurd q.1 (by decide))).trans (k9.trans ((kq (a := 7) (b := 4) eσ2 (fun q => absurd q.1 (by decide))))))))), (kq (a := 2) (b := 4) eσ4056 (by omega)).trans ((kq (a := 2) (b := 4) eσ3982 (by omega)).trans (k3568.trans (k3054.trans ((kq (a := 2) (b := 4) eσ2032 (fun q => absurd q.1 (by decide))).trans (k10.trans ((kq (a := 2) (b := 4) eσ2 (fun q => absurd q.1 (by decide)))))))))⟩)
                      · first | have f4059 := (noteqE (rfl : (jT r15.toNatClampNeg).toInt = (jT r15.toNatClampNeg).toInt) (show (2 : Int32).toInt = 2 from by decide)).mp c4029 | skip
                        have f4061 := tB r3059
                        have f4062 := tB r3573
                        have f4064 := K1.g_3_7 hσ3982
                        have q4065 : σ3982.1 3 7 = σ3561.1 3 7 := by rw [eσ3982]; exact congrFun (u1_ne (by omega)) 7
                        have f4066 := congrArg Int32.toInt q4065
                        have f4067 := K1.g_3_7 hσ3561
                        have f4068 := congrArg Int32.toInt k3562
                        have f4069 := K1.g_3_7 hσ3047
                        have f4070 := congrArg Int32.toInt k3048
                        have f4071 := K1.g_3_7 hσ2032
                        have q4072 : σ2032.1 3 7 = σ3.1 3 7 := by rw [eσ2032, u1_at]; exact if_neg (by decide)
                        have f4073 := congrArg Int32.toInt q4072
                        have f4074 := K1.g_3_7 hσ3
                        have f4075 := congrArg Int32.toInt k4
                        have f4076 := K1.g_3_7 hσ2
                        have q4077 : σ2.1 3 7 = σ.1 3 7 := by rw [eσ2, u1_at]; exact if_neg (by decide)
                        have f4078 := congrArg Int32.toInt q4077
                        have f4079 := K1.g_3_7 hσ
                        refine sX2_act hN hk1 ⟨by omega, by omega⟩ hσ3982 (fun σ4063 hσ4063 kk4085 => ?_)
                        obtain ⟨k4080, k4081, k4082, k4083, k4084⟩ := kk4085
                        exact hQ _ hσ4063 (⟨k4080.trans ((kq (a := 9) (b := 9) eσ3982 (by omega)).trans (k3564.trans (k3050.trans ((kq (a := 9) (b := 9) eσ2032 (fun q => absurd q.1 (by decide))).trans (k6.trans ((kq (a := 9) (b := 9) eσ2 (fun q => absurd q.1 (by decide))))))))), k4081.trans ((kq (a := 9) (b := 10) eσ3982 (by omega)).trans (k3565.trans (k3051.trans ((kq (a := 9) (b := 10) eσ2032 (fun q => absurd q.1 (by decide))).trans (k7.trans ((kq (a := 9) (b := 10) eσ2 (fun q => absurd q.1 (by decide))))))))), k4082.trans ((kq (a := 6) (b := 5) eσ3982 (by omega)).trans (k3566.trans (k3052.trans ((kq (a := 6) (b := 5) eσ2032 (fun q => absurd q.1 (by decide))).trans (k8.trans ((kq (a := 6) (b := 5) eσ2 (fun q => absurd q.1 (by decide))))))))), k4083.trans ((kq (a := 7) (b := 4) eσ3982 (by omega)).trans (k3567.trans (k3053.trans ((kq (a := 7) (b := 4) eσ2032 (fun q => absurd q.1 (by decide))).trans (k9.trans ((kq (a := 7) (b := 4) eσ2 (fun q => absurd q.1 (by decide))))))))), k4084.trans ((kq (a := 2) (b := 4) eσ3982 (by omega)).trans (k3568.trans (k3054.trans ((kq (a := 2) (b := 4) eσ2032 (fun q => absurd q.1 (by decide))).trans (k10.trans ((kq (a := 2) (b := 4) eσ2 (fun q => absurd q.1 (by decide)))))))))⟩)
                  · have f4086 := tB (σ3561.1 3 11)
                    first | have f4087 := (noteqE (rfl : (σ3561.1 3 11).toInt = (σ3561.1 3 11).toInt) (show (0 : Int32).toInt = 0 from by decide)).mp c3978 | skip
                    exact hQ _ hσ3561 (⟨k3564.trans (k3050.trans ((kq (a := 9) (b := 9) eσ2032 (fun q => absurd q.1 (by decide))).trans (k6.trans ((kq (a := 9) (b := 9) eσ2 (fun q => absurd q.1 (by decide))))))), k3565.trans (k3051.trans ((kq (a := 9) (b := 10) eσ2032 (fun q => absurd q.1 (by decide))).trans (k7.trans ((kq (a := 9) (b := 10) eσ2 (fun q => absurd q.1 (by decide))))))), k3566.trans (k3052.trans ((kq (a := 6) (b := 5) eσ2032 (fun q => absurd q.1 (by decide))).trans (k8.trans ((kq (a := 6) (b := 5) eσ2 (fun q => absurd q.1 (by decide))))))), k3567.trans (k3053.trans ((kq (a := 7) (b := 4) eσ2032 (fun q => absurd q.1 (by decide))).trans (k9.trans ((kq (a := 7) (b := 4) eσ2 (fun q => absurd q.1 (by decide))))))), k3568.trans (k3054.trans ((kq (a := 2) (b := 4) eσ2032 (fun q => absurd q.1 (by decide))).trans (k10.trans ((kq (a := 2) (b := 4) eσ2 (fun q => absurd q.1 (by decide)))))))⟩)
      · have f4088 := tB (σ2032.1 3 11)
        have q4089 : σ2032.1 3 11 = 6 := by rw [eσ2032, u1_at]; exact if_pos rfl
        first | have f4090 : (σ2032.1 3 11).toInt = (6) := (congrArg Int32.toInt q4089).trans (show (6 : Int32).toInt = 6 from by decide) | skip
        first | have f4091 := (noteqE (rfl : (σ2032.1 3 11).toInt = (σ2032.1 3 11).toInt) (show (0 : Int32).toInt = 0 from by decide)).mp c2033 | skip
        exact hQ _ hσ2032 (⟨(kq (a := 9) (b := 9) eσ2032 (fun q => absurd q.1 (by decide))).trans (k6.trans ((kq (a := 9) (b := 9) eσ2 (fun q => absurd q.1 (by decide))))), (kq (a := 9) (b := 10) eσ2032 (fun q => absurd q.1 (by decide))).trans (k7.trans ((kq (a := 9) (b := 10) eσ2 (fun q => absurd q.1 (by decide))))), (kq (a := 6) (b := 5) eσ2032 (fun q => absurd q.1 (by decide))).trans (k8.trans ((kq (a := 6) (b := 5) eσ2 (fun q => absurd q.1 (by decide))))), (kq (a := 7) (b := 4) eσ2032 (fun q => absurd q.1 (by decide))).trans (k9.trans ((kq (a := 7) (b := 4) eσ2 (fun q => absurd q.1 (by decide))))), (kq (a := 2) (b := 4) eσ2032 (fun q => absurd q.1 (by decide))).trans (k10.trans ((kq (a := 2) (b := 4) eσ2 (fun q => absurd q.1 (by decide)))))⟩)
    · have f4092 := tB (σ3.1 3 11)
      first | have f4093 := (noteqE (rfl : (σ3.1 3 11).toInt = (σ3.1 3 11).toInt) (show (0 : Int32).toInt = 0 from by decide)).mp c2029 | skip
      try dsimp only
      unfold fX2_doOrder_j25
      refine ⟨fun c4094 => ?_, fun c4094 => ?_⟩
      · first | have f4096 := (eqE (rfl : (σ3.1 3 11).toInt = (σ3.1 3 11).toInt) (show (0 : Int32).toInt = 0 from by decide)).mp c4094 | skip
        refine ⟨fun c4097 => ?_, fun c4097 => ?_⟩
        · first | have f4099 := (eqE (rfl : r15.toInt = r15.toInt) (show (6 : Int32).toInt = 6 from by decide)).mp c4097 | skip
          refine sX2_doCallOrder hN hk1 hσ3 (fun σ4100 hσ4100 kk4109 => ?_)
          obtain ⟨k4101, k4102, k4103, k4104, k4105, k4106, k4107, k4108⟩ := kk4109
          exact hQ _ hσ4100 (⟨k4101.trans (k6.trans ((kq (a := 9) (b := 9) eσ2 (fun q => absurd q.1 (by decide))))), k4102.trans (k7.trans ((kq (a := 9) (b := 10) eσ2 (fun q => absurd q.1 (by decide))))), k4103.trans (k8.trans ((kq (a := 6) (b := 5) eσ2 (fun q => absurd q.1 (by decide))))), k4104.trans (k9.trans ((kq (a := 7) (b := 4) eσ2 (fun q => absurd q.1 (by decide))))), k4105.trans (k10.trans ((kq (a := 2) (b := 4) eσ2 (fun q => absurd q.1 (by decide)))))⟩)
        · first | have f4111 := (noteqE (rfl : r15.toInt = r15.toInt) (show (6 : Int32).toInt = 6 from by decide)).mp c4097 | skip
          have g4113 : vp_in r15 18 := inE (rfl : r15.toInt = r15.toInt) (by omega) (by omega)
          refine ⟨g4113, ?_⟩
          refine ⟨fun c4114 => ?_, fun c4114 => ?_⟩
          · have f4115 := tB (jV r15.toNatClampNeg)
            first | have f4116 := (leE (rfl : (jV r15.toNatClampNeg).toInt = (jV r15.toNatClampNeg).toInt) (show (0 : Int32).toInt = 0 from by decide)).mp c4114 | skip
            unfold fX2_doOrder_j62
            have g4118 : vp_in r15 18 := inE (rfl : r15.toInt = r15.toInt) (by omega) (by omega)
            refine ⟨g4118, ?_⟩
            refine ⟨fun c4119 => ?_, fun c4119 => ?_⟩
            · first | have f4121 := (leE (rfl : (jV r15.toNatClampNeg).toInt = (jV r15.toNatClampNeg).toInt) (show (1 : Int32).toInt = 1 from by decide)).mp c4119 | skip
              unfold fX2_doOrder_j81
              have g4123 : vp_in r15 18 := inE (rfl : r15.toInt = r15.toInt) (by omega) (by omega)
              refine ⟨g4123, ?_⟩
              refine ⟨fun c4124 => ?_, fun c4124 => ?_⟩
              · have f4125 := tB (jT r15.toNatClampNeg)
                first | have f4126 := (eqE (rfl : (jT r15.toNatClampNeg).toInt = (jT r15.toNatClampNeg).toInt) (show (1 : Int32).toInt = 1 from by decide)).mp c4124 | skip
                refine sX2_nextTarget hN hk1 hσ3 (fun r4139 σ4127 hσ4127 kk4138 p4140 => ?_)
                obtain ⟨k4128, k4129, k4130, k4131, k4132, k4133, k4134, k4135, k4136, k4137⟩ := kk4138
                unfold fX2_doOrder_j103
                have g4142 : vp_in r15 18 := inE (rfl : r15.toInt = r15.toInt) (by omega) (by omega)
                refine ⟨g4142, ?_⟩
                refine ⟨fun c4143 => ?_, fun c4143 => ?_⟩
                · first | have f4145 := (eqE (rfl : (jT r15.toNatClampNeg).toInt = (jT r15.toNatClampNeg).toInt) (show (2 : Int32).toInt = 2 from by decide)).mp c4143 | skip
                  refine sX2_nextDistance hN hσ4127 (fun r4158 σ4146 hσ4146 kk4157 p4159 => ?_)
                  obtain ⟨k4147, k4148, k4149, k4150, k4151, k4152, k4153, k4154, k4155, k4156⟩ := kk4157
                  unfold fX2_doOrder_j122
                  refine ⟨fun c4160 => ?_, fun c4160 => ?_⟩
                  · have f4161 := tB (σ4146.1 3 11)
                    first | have f4162 := (eqE (rfl : (σ4146.1 3 11).toInt = (σ4146.1 3 11).toInt) (show (0 : Int32).toInt = 0 from by decide)).mp c4160 | skip
                    intro v4163 ev4163
                    intro σ4164 eσ4164
                    have kb4165 := jobK_b hk1
                    have hσ4164 : K1 σ0 σ4164 := by rw [eσ4164]; exact hσ4146.u (rg_jobK hk1) (by omega) (by omega)
                    have g4167 : vp_in r15 18 := inE (rfl : r15.toInt = r15.toInt) (by omega) (by omega)
                    refine ⟨g4167, ?_⟩
                    refine ⟨fun c4168 => ?_, fun c4168 => ?_⟩
                    · first | have f4170 := (eqE (rfl : (jT r15.toNatClampNeg).toInt = (jT r15.toNatClampNeg).toInt) (show (1 : Int32).toInt = 1 from by decide)).mp c4168 | skip
                      refine sX2_valueFor hN hσ4164 (fun r4184 σ4172 hσ4172 kk4183 p4185 => ?_)
                      obtain ⟨k4173, k4174, k4175, k4176, k4177, k4178, k4179, k4180, k4181, k4182⟩ := kk4183
                      refine ⟨fun c4186 => ?_, fun c4186 => ?_⟩
                      · have f4187 := tB (σ4172.1 3 11)
                        first | have f4188 := (eqE (rfl : (σ4172.1 3 11).toInt = (σ4172.1 3 11).toInt) (show (0 : Int32).toInt = 0 from by decide)).mp c4186 | skip
                        have f4189 := tB r4139
                        have f4190 := tB r4184
                        refine sX1_setLocal hN hk1 hσ4172 (fun σ4191 hσ4191 kk4203 => ?_)
                        obtain ⟨k4192, k4193, k4194, k4195, k4196, k4197, k4198, k4199, k4200, k4201, k4202⟩ := kk4203
                        unfold fX2_doOrder_j174
                        exact hQ _ hσ4191 (⟨k4195.trans (k4175.trans ((kq (a := 9) (b := 9) eσ4164 (by omega)).trans (k4149.trans (k4130.trans (k6.trans ((kq (a := 9) (b := 9) eσ2 (fun q => absurd q.1 (by decide))))))))), k4196.trans (k4176.trans ((kq (a := 9) (b := 10) eσ4164 (by omega)).trans (k4150.trans (k4131.trans (k7.trans ((kq (a := 9) (b := 10) eσ2 (fun q => absurd q.1 (by decide))))))))), k4197.trans (k4177.trans ((kq (a := 6) (b := 5) eσ4164 (by omega)).trans (k4151.trans (k4132.trans (k8.trans ((kq (a := 6) (b := 5) eσ2 (fun q => absurd q.1 (by decide))))))))), k4198.trans (k4178.trans ((kq (a := 7) (b := 4) eσ4164 (by omega)).trans (k4152.trans (k4133.trans (k9.trans ((kq (a := 7) (b := 4) eσ2 (fun q => absurd q.1 (by decide))))))))), k4199.trans (k4179.trans ((kq (a := 2) (b := 4) eσ4164 (by omega)).trans (k4153.trans (k4134.trans (k10.trans ((kq (a := 2) (b := 4) eσ2 (fun q => absurd q.1 (by decide)))))))))⟩)
                      · have f4204 := tB (σ4172.1 3 11)
                        first | have f4205 := (noteqE (rfl : (σ4172.1 3 11).toInt = (σ4172.1 3 11).toInt) (show (0 : Int32).toInt = 0 from by decide)).mp c4186 | skip
                        unfold fX2_doOrder_j174
                        exact hQ _ hσ4172 (⟨k4175.trans ((kq (a := 9) (b := 9) eσ4164 (by omega)).trans (k4149.trans (k4130.trans (k6.trans ((kq (a := 9) (b := 9) eσ2 (fun q => absurd q.1 (by decide)))))))), k4176.trans ((kq (a := 9) (b := 10) eσ4164 (by omega)).trans (k4150.trans (k4131.trans (k7.trans ((kq (a := 9) (b := 10) eσ2 (fun q => absurd q.1 (by decide)))))))), k4177.trans ((kq (a := 6) (b := 5) eσ4164 (by omega)).trans (k4151.trans (k4132.trans (k8.trans ((kq (a := 6) (b := 5) eσ2 (fun q => absurd q.1 (by decide)))))))), k4178.trans ((kq (a := 7) (b := 4) eσ4164 (by omega)).trans (k4152.trans (k4133.trans (k9.trans ((kq (a := 7) (b := 4) eσ2 (fun q => absurd q.1 (by decide)))))))), k4179.trans ((kq (a := 2) (b := 4) eσ4164 (by omega)).trans (k4153.trans (k4134.trans (k10.trans ((kq (a := 2) (b := 4) eσ2 (fun q => absurd q.1 (by decide))))))))⟩)
                    · first | have f4207 := (noteqE (rfl : (jT r15.toNatClampNeg).toInt = (jT r15.toNatClampNeg).toInt) (show (1 : Int32).toInt = 1 from by decide)).mp c4168 | skip
                      have g4209 : vp_in r15 18 := inE (rfl : r15.toInt = r15.toInt) (by omega) (by omega)
                      refine ⟨g4209, ?_⟩
                      refine ⟨fun c4210 => ?_, fun c4210 => ?_⟩
                      · first | have f4212 := (eqE (rfl : (jT r15.toNatClampNeg).toInt = (jT r15.toNatClampNeg).toInt) (show (2 : Int32).toInt = 2 from by decide)).mp c4210 | skip
                        refine sX2_goesThere hN hσ4164 (fun r4227 p4228 => ?_)
                        refine ⟨fun c4229 => ?_, fun c4229 => ?_⟩
                        · have f4230 := tB r4227
                          first | have f4231 := (eqE (rfl : r4227.toInt = r4227.toInt) (show (0 : Int32).toInt = 0 from by decide)).mp c4229 | skip
                          exact hQ _ hσ4164 (⟨(kq (a := 9) (b := 9) eσ4164 (by omega)).trans (k4149.trans (k4130.trans (k6.trans ((kq (a := 9) (b := 9) eσ2 (fun q => absurd q.1 (by decide))))))), (kq (a := 9) (b := 10) eσ4164 (by omega)).trans (k4150.trans (k4131.trans (k7.trans ((kq (a := 9) (b := 10) eσ2 (fun q => absurd q.1 (by decide))))))), (kq (a := 6) (b := 5) eσ4164 (by omega)).trans (k4151.trans (k4132.trans (k8.trans ((kq (a := 6) (b := 5) eσ2 (fun q => absurd q.1 (by decide))))))), (kq (a := 7) (b := 4) eσ4164 (by omega)).trans (k4152.trans (k4133.trans (k9.trans ((kq (a := 7) (b := 4) eσ2 (fun q => absurd q.1 (by decide))))))), (kq (a := 2) (b := 4) eσ4164 (by omega)).trans (k4153.trans (k4134.trans (k10.trans ((kq (a := 2) (b := 4) eσ2 (fun q => absurd q.1 (by decide)))))))⟩)
                        · have f4232 := tB r4227
                          first | have f4233 := (noteqE (rfl : r4227.toInt = r4227.toInt) (show (0 : Int32).toInt = 0 from by decide)).mp c4229 | skip
                          intro v4234 ev4234
                          intro σ4235 eσ4235
                          have kb4236 := jobK_b hk1
                          have hσ4235 : K1 σ0 σ4235 := by rw [eσ4235]; exact hσ4164.u (rg_jobK hk1) (by omega) (by omega)
                          exact hQ _ hσ4235 (⟨(kq (a := 9) (b := 9) eσ4235 (by omega)).trans ((kq (a := 9) (b := 9) eσ4164 (by omega)).trans (k4149.trans (k4130.trans (k6.trans ((kq (a := 9) (b := 9) eσ2 (fun q => absurd q.1 (by decide)))))))), (kq (a := 9) (b := 10) eσ4235 (by omega)).trans ((kq (a := 9) (b := 10) eσ4164 (by omega)).trans (k4150.trans (k4131.trans (k7.trans ((kq (a := 9) (b := 10) eσ2 (fun q => absurd q.1 (by decide)))))))), (kq (a := 6) (b := 5) eσ4235 (by omega)).trans ((kq (a := 6) (b := 5) eσ4164 (by omega)).trans (k4151.trans (k4132.trans (k8.trans ((kq (a := 6) (b := 5) eσ2 (fun q => absurd q.1 (by decide)))))))), (kq (a := 7) (b := 4) eσ4235 (by omega)).trans ((kq (a := 7) (b := 4) eσ4164 (by omega)).trans (k4152.trans (k4133.trans (k9.trans ((kq (a := 7) (b := 4) eσ2 (fun q => absurd q.1 (by decide)))))))), (kq (a := 2) (b := 4) eσ4235 (by omega)).trans ((kq (a := 2) (b := 4) eσ4164 (by omega)).trans (k4153.trans (k4134.trans (k10.trans ((kq (a := 2) (b := 4) eσ2 (fun q => absurd q.1 (by decide))))))))⟩)
                      · first | have f4238 := (noteqE (rfl : (jT r15.toNatClampNeg).toInt = (jT r15.toNatClampNeg).toInt) (show (2 : Int32).toInt = 2 from by decide)).mp c4210 | skip
                        have f4241 := K1.g_3_7 hσ4164
                        have q4242 : σ4164.1 3 7 = σ4146.1 3 7 := by rw [eσ4164]; exact congrFun (u1_ne (by omega)) 7
                        have f4243 := congrArg Int32.toInt q4242
                        have f4244 := K1.g_3_7 hσ4146
                        have f4245 := congrArg Int32.toInt k4147
                        have f4246 := K1.g_3_7 hσ4127
                        have f4247 := congrArg Int32.toInt k4128
                        have f4248 := K1.g_3_7 hσ3
                        have f4249 := congrArg Int32.toInt k4
                        have f4250 := K1.g_3_7 hσ2
                        have q4251 : σ2.1 3 7 = σ.1 3 7 := by rw [eσ2, u1_at]; exact if_neg (by decide)
                        have f4252 := congrArg Int32.toInt q4251
                        have f4253 := K1.g_3_7 hσ
                        refine sX2_act hN hk1 ⟨by omega, by omega⟩ hσ4164 (fun σ4240 hσ4240 kk4259 => ?_)
                        obtain ⟨k4254, k4255, k4256, k4257, k4258⟩ := kk4259
                        exact hQ _ hσ4240 (⟨k4254.trans ((kq (a := 9) (b := 9) eσ4164 (by omega)).trans (k4149.trans (k4130.trans (k6.trans ((kq (a := 9) (b := 9) eσ2 (fun q => absurd q.1 (by decide)))))))), k4255.trans ((kq (a := 9) (b := 10) eσ4164 (by omega)).trans (k4150.trans (k4131.trans (k7.trans ((kq (a := 9) (b := 10) eσ2 (fun q => absurd q.1 (by decide)))))))), k4256.trans ((kq (a := 6) (b := 5) eσ4164 (by omega)).trans (k4151.trans (k4132.trans (k8.trans ((kq (a := 6) (b := 5) eσ2 (fun q => absurd q.1 (by decide)))))))), k4257.trans ((kq (a := 7) (b := 4) eσ4164 (by omega)).trans (k4152.trans (k4133.trans (k9.trans ((kq (a := 7) (b := 4) eσ2 (fun q => absurd q.1 (by decide)))))))), k4258.trans ((kq (a := 2) (b := 4) eσ4164 (by omega)).trans (k4153.trans (k4134.trans (k10.trans ((kq (a := 2) (b := 4) eσ2 (fun q => absurd q.1 (by decide))))))))⟩)
                  · have f4260 := tB (σ4146.1 3 11)
                    first | have f4261 := (noteqE (rfl : (σ4146.1 3 11).toInt = (σ4146.1 3 11).toInt) (show (0 : Int32).toInt = 0 from by decide)).mp c4160 | skip
                    exact hQ _ hσ4146 (⟨k4149.trans (k4130.trans (k6.trans ((kq (a := 9) (b := 9) eσ2 (fun q => absurd q.1 (by decide)))))), k4150.trans (k4131.trans (k7.trans ((kq (a := 9) (b := 10) eσ2 (fun q => absurd q.1 (by decide)))))), k4151.trans (k4132.trans (k8.trans ((kq (a := 6) (b := 5) eσ2 (fun q => absurd q.1 (by decide)))))), k4152.trans (k4133.trans (k9.trans ((kq (a := 7) (b := 4) eσ2 (fun q => absurd q.1 (by decide)))))), k4153.trans (k4134.trans (k10.trans ((kq (a := 2) (b := 4) eσ2 (fun q => absurd q.1 (by decide))))))⟩)
                · first | have f4263 := (noteqE (rfl : (jT r15.toNatClampNeg).toInt = (jT r15.toNatClampNeg).toInt) (show (2 : Int32).toInt = 2 from by decide)).mp c4143 | skip
                  unfold fX2_doOrder_j122
                  refine ⟨fun c4264 => ?_, fun c4264 => ?_⟩
                  · have f4265 := tB (σ4127.1 3 11)
                    first | have f4266 := (eqE (rfl : (σ4127.1 3 11).toInt = (σ4127.1 3 11).toInt) (show (0 : Int32).toInt = 0 from by decide)).mp c4264 | skip
                    intro v4267 ev4267
                    intro σ4268 eσ4268
                    have kb4269 := jobK_b hk1
                    have hσ4268 : K1 σ0 σ4268 := by rw [eσ4268]; exact hσ4127.u (rg_jobK hk1) (by omega) (by omega)
                    have g4271 : vp_in r15 18 := inE (rfl : r15.toInt = r15.toInt) (by omega) (by omega)
                    refine ⟨g4271, ?_⟩
                    refine ⟨fun c4272 => ?_, fun c4272 => ?_⟩
                    · first | have f4274 := (eqE (rfl : (jT r15.toNatClampNeg).toInt = (jT r15.toNatClampNeg).toInt) (show (1 : Int32).toInt = 1 from by decide)).mp c4272 | skip
                      refine sX2_valueFor hN hσ4268 (fun r4288 σ4276 hσ4276 kk4287 p4289 => ?_)
                      obtain ⟨k4277, k4278, k4279, k4280, k4281, k4282, k4283, k4284, k4285, k4286⟩ := kk4287
                      refine ⟨fun c4290 => ?_, fun c4290 => ?_⟩
                      · have f4291 := tB (σ4276.1 3 11)
                        first | have f4292 := (eqE (rfl : (σ4276.1 3 11).toInt = (σ4276.1 3 11).toInt) (show (0 : Int32).toInt = 0 from by decide)).mp c4290 | skip
                        have f4293 := tB r4139
                        have f4294 := tB r4288
                        refine sX1_setLocal hN hk1 hσ4276 (fun σ4295 hσ4295 kk4307 => ?_)
                        obtain ⟨k4296, k4297, k4298, k4299, k4300, k4301, k4302, k4303, k4304, k4305, k4306⟩ := kk4307
                        unfold fX2_doOrder_j174
                        exact hQ _ hσ4295 (⟨k4299.trans (k4279.trans ((kq (a := 9) (b := 9) eσ4268 (by omega)).trans (k4130.trans (k6.trans ((kq (a := 9) (b := 9) eσ2 (fun q => absurd q.1 (by decide)))))))), k4300.trans (k4280.trans ((kq (a := 9) (b := 10) eσ4268 (by omega)).trans (k4131.trans (k7.trans ((kq (a := 9) (b := 10) eσ2 (fun q => absurd q.1 (by decide)))))))), k4301.trans (k4281.trans ((kq (a := 6) (b := 5) eσ4268 (by omega)).trans (k4132.trans (k8.trans ((kq (a := 6) (b := 5) eσ2 (fun q => absurd q.1 (by decide)))))))), k4302.trans (k4282.trans ((kq (a := 7) (b := 4) eσ4268 (by omega)).trans (k4133.trans (k9.trans ((kq (a := 7) (b := 4) eσ2 (fun q => absurd q.1 (by decide)))))))), k4303.trans (k4283.trans ((kq (a := 2) (b := 4) eσ4268 (by omega)).trans (k4134.trans (k10.trans ((kq (a := 2) (b := 4) eσ2 (fun q => absurd q.1 (by decide))))))))⟩)
                      · have f4308 := tB (σ4276.1 3 11)
                        first | have f4309 := (noteqE (rfl : (σ4276.1 3 11).toInt = (σ4276.1 3 11).toInt) (show (0 : Int32).toInt = 0 from by decide)).mp c4290 | skip
                        unfold fX2_doOrder_j174
                        exact hQ _ hσ4276 (⟨k4279.trans ((kq (a := 9) (b := 9) eσ4268 (by omega)).trans (k4130.trans (k6.trans ((kq (a := 9) (b := 9) eσ2 (fun q => absurd q.1 (by decide))))))), k4280.trans ((kq (a := 9) (b := 10) eσ4268 (by omega)).trans (k4131.trans (k7.trans ((kq (a := 9) (b := 10) eσ2 (fun q => absurd q.1 (by decide))))))), k4281.trans ((kq (a := 6) (b := 5) eσ4268 (by omega)).trans (k4132.trans (k8.trans ((kq (a := 6) (b := 5) eσ2 (fun q => absurd q.1 (by decide))))))), k4282.trans ((kq (a := 7) (b := 4) eσ4268 (by omega)).trans (k4133.trans (k9.trans ((kq (a := 7) (b := 4) eσ2 (fun q => absurd q.1 (by decide))))))), k4283.trans ((kq (a := 2) (b := 4) eσ4268 (by omega)).trans (k4134.trans (k10.trans ((kq (a := 2) (b := 4) eσ2 (fun q => absurd q.1 (by decide)))))))⟩)
                    · first | have f4311 := (noteqE (rfl : (jT r15.toNatClampNeg).toInt = (jT r15.toNatClampNeg).toInt) (show (1 : Int32).toInt = 1 from by decide)).mp c4272 | skip
                      have g4313 : vp_in r15 18 := inE (rfl : r15.toInt = r15.toInt) (by omega) (by omega)
                      refine ⟨g4313, ?_⟩
                      refine ⟨fun c4314 => ?_, fun c4314 => ?_⟩
                      · first | have f4316 := (eqE (rfl : (jT r15.toNatClampNeg).toInt = (jT r15.toNatClampNeg).toInt) (show (2 : Int32).toInt = 2 from by decide)).mp c4314 | skip
                        refine sX2_goesThere hN hσ4268 (fun r4331 p4332 => ?_)
                        refine ⟨fun c4333 => ?_, fun c4333 => ?_⟩
                        · have f4334 := tB r4331
                          first | have f4335 := (eqE (rfl : r4331.toInt = r4331.toInt) (show (0 : Int32).toInt = 0 from by decide)).mp c4333 | skip
                          exact hQ _ hσ4268 (⟨(kq (a := 9) (b := 9) eσ4268 (by omega)).trans (k4130.trans (k6.trans ((kq (a := 9) (b := 9) eσ2 (fun q => absurd q.1 (by decide)))))), (kq (a := 9) (b := 10) eσ4268 (by omega)).trans (k4131.trans (k7.trans ((kq (a := 9) (b := 10) eσ2 (fun q => absurd q.1 (by decide)))))), (kq (a := 6) (b := 5) eσ4268 (by omega)).trans (k4132.trans (k8.trans ((kq (a := 6) (b := 5) eσ2 (fun q => absurd q.1 (by decide)))))), (kq (a := 7) (b := 4) eσ4268 (by omega)).trans (k4133.trans (k9.trans ((kq (a := 7) (b := 4) eσ2 (fun q => absurd q.1 (by decide)))))), (kq (a := 2) (b := 4) eσ4268 (by omega)).trans (k4134.trans (k10.trans ((kq (a := 2) (b := 4) eσ2 (fun q => absurd q.1 (by decide))))))⟩)
                        · have f4336 := tB r4331
                          first | have f4337 := (noteqE (rfl : r4331.toInt = r4331.toInt) (show (0 : Int32).toInt = 0 from by decide)).mp c4333 | skip
                          intro v4338 ev4338
                          intro σ4339 eσ4339
                          have kb4340 := jobK_b hk1
                          have hσ4339 : K1 σ0 σ4339 := by rw [eσ4339]; exact hσ4268.u (rg_jobK hk1) (by omega) (by omega)
                          exact hQ _ hσ4339 (⟨(kq (a := 9) (b := 9) eσ4339 (by omega)).trans ((kq (a := 9) (b := 9) eσ4268 (by omega)).trans (k4130.trans (k6.trans ((kq (a := 9) (b := 9) eσ2 (fun q => absurd q.1 (by decide))))))), (kq (a := 9) (b := 10) eσ4339 (by omega)).trans ((kq (a := 9) (b := 10) eσ4268 (by omega)).trans (k4131.trans (k7.trans ((kq (a := 9) (b := 10) eσ2 (fun q => absurd q.1 (by decide))))))), (kq (a := 6) (b := 5) eσ4339 (by omega)).trans ((kq (a := 6) (b := 5) eσ4268 (by omega)).trans (k4132.trans (k8.trans ((kq (a := 6) (b := 5) eσ2 (fun q => absurd q.1 (by decide))))))), (kq (a := 7) (b := 4) eσ4339 (by omega)).trans ((kq (a := 7) (b := 4) eσ4268 (by omega)).trans (k4133.trans (k9.trans ((kq (a := 7) (b := 4) eσ2 (fun q => absurd q.1 (by decide))))))), (kq (a := 2) (b := 4) eσ4339 (by omega)).trans ((kq (a := 2) (b := 4) eσ4268 (by omega)).trans (k4134.trans (k10.trans ((kq (a := 2) (b := 4) eσ2 (fun q => absurd q.1 (by decide)))))))⟩)
                      · first | have f4342 := (noteqE (rfl : (jT r15.toNatClampNeg).toInt = (jT r15.toNatClampNeg).toInt) (show (2 : Int32).toInt = 2 from by decide)).mp c4314 | skip
                        have f4345 := K1.g_3_7 hσ4268
                        have q4346 : σ4268.1 3 7 = σ4127.1 3 7 := by rw [eσ4268]; exact congrFun (u1_ne (by omega)) 7
                        have f4347 := congrArg Int32.toInt q4346
                        have f4348 := K1.g_3_7 hσ4127
                        have f4349 := congrArg Int32.toInt k4128
                        have f4350 := K1.g_3_7 hσ3
                        have f4351 := congrArg Int32.toInt k4
                        have f4352 := K1.g_3_7 hσ2
                        have q4353 : σ2.1 3 7 = σ.1 3 7 := by rw [eσ2, u1_at]; exact if_neg (by decide)
                        have f4354 := congrArg Int32.toInt q4353
                        have f4355 := K1.g_3_7 hσ
                        refine sX2_act hN hk1 ⟨by omega, by omega⟩ hσ4268 (fun σ4344 hσ4344 kk4361 => ?_)
                        obtain ⟨k4356, k4357, k4358, k4359, k4360⟩ := kk4361
                        exact hQ _ hσ4344 (⟨k4356.trans ((kq (a := 9) (b := 9) eσ4268 (by omega)).trans (k4130.trans (k6.trans ((kq (a := 9) (b := 9) eσ2 (fun q => absurd q.1 (by decide))))))), k4357.trans ((kq (a := 9) (b := 10) eσ4268 (by omega)).trans (k4131.trans (k7.trans ((kq (a := 9) (b := 10) eσ2 (fun q => absurd q.1 (by decide))))))), k4358.trans ((kq (a := 6) (b := 5) eσ4268 (by omega)).trans (k4132.trans (k8.trans ((kq (a := 6) (b := 5) eσ2 (fun q => absurd q.1 (by decide))))))), k4359.trans ((kq (a := 7) (b := 4) eσ4268 (by omega)).trans (k4133.trans (k9.trans ((kq (a := 7) (b := 4) eσ2 (fun q => absurd q.1 (by decide))))))), k4360.trans ((kq (a := 2) (b := 4) eσ4268 (by omega)).trans (k4134.trans (k10.trans ((kq (a := 2) (b := 4) eσ2 (fun q => absurd q.1 (by decide)))))))⟩)
                  · have f4362 := tB (σ4127.1 3 11)
                    first | have f4363 := (noteqE (rfl : (σ4127.1 3 11).toInt = (σ4127.1 3 11).toInt) (show (0 : Int32).toInt = 0 from by decide)).mp c4264 | skip
                    exact hQ _ hσ4127 (⟨k4130.trans (k6.trans ((kq (a := 9) (b := 9) eσ2 (fun q => absurd q.1 (by decide))))), k4131.trans (k7.trans ((kq (a := 9) (b := 10) eσ2 (fun q => absurd q.1 (by decide))))), k4132.trans (k8.trans ((kq (a := 6) (b := 5) eσ2 (fun q => absurd q.1 (by decide))))), k4133.trans (k9.trans ((kq (a := 7) (b := 4) eσ2 (fun q => absurd q.1 (by decide))))), k4134.trans (k10.trans ((kq (a := 2) (b := 4) eσ2 (fun q => absurd q.1 (by decide)))))⟩)
              · have f4364 := tB (jT r15.toNatClampNeg)
                first | have f4365 := (noteqE (rfl : (jT r15.toNatClampNeg).toInt = (jT r15.toNatClampNeg).toInt) (show (1 : Int32).toInt = 1 from by decide)).mp c4124 | skip
                unfold fX2_doOrder_j103
                have g4367 : vp_in r15 18 := inE (rfl : r15.toInt = r15.toInt) (by omega) (by omega)
                refine ⟨g4367, ?_⟩
                refine ⟨fun c4368 => ?_, fun c4368 => ?_⟩
                · first | have f4370 := (eqE (rfl : (jT r15.toNatClampNeg).toInt = (jT r15.toNatClampNeg).toInt) (show (2 : Int32).toInt = 2 from by decide)).mp c4368 | skip
                  refine sX2_nextDistance hN hσ3 (fun r4383 σ4371 hσ4371 kk4382 p4384 => ?_)
                  obtain ⟨k4372, k4373, k4374, k4375, k4376, k4377, k4378, k4379, k4380, k4381⟩ := kk4382
                  unfold fX2_doOrder_j122
                  refine ⟨fun c4385 => ?_, fun c4385 => ?_⟩
                  · have f4386 := tB (σ4371.1 3 11)
                    first | have f4387 := (eqE (rfl : (σ4371.1 3 11).toInt = (σ4371.1 3 11).toInt) (show (0 : Int32).toInt = 0 from by decide)).mp c4385 | skip
                    intro v4388 ev4388
                    intro σ4389 eσ4389
                    have kb4390 := jobK_b hk1
                    have hσ4389 : K1 σ0 σ4389 := by rw [eσ4389]; exact hσ4371.u (rg_jobK hk1) (by omega) (by omega)
                    have g4392 : vp_in r15 18 := inE (rfl : r15.toInt = r15.toInt) (by omega) (by omega)
                    refine ⟨g4392, ?_⟩
                    refine ⟨fun c4393 => ?_, fun c4393 => ?_⟩
                    · first | have f4395 := (eqE (rfl : (jT r15.toNatClampNeg).toInt = (jT r15.toNatClampNeg).toInt) (show (1 : Int32).toInt = 1 from by decide)).mp c4393 | skip
                      refine sX2_valueFor hN hσ4389 (fun r4409 σ4397 hσ4397 kk4408 p4410 => ?_)
                      obtain ⟨k4398, k4399, k4400, k4401, k4402, k4403, k4404, k4405, k4406, k4407⟩ := kk4408
                      refine ⟨fun c4411 => ?_, fun c4411 => ?_⟩
                      · have f4412 := tB (σ4397.1 3 11)
                        first | have f4413 := (eqE (rfl : (σ4397.1 3 11).toInt = (σ4397.1 3 11).toInt) (show (0 : Int32).toInt = 0 from by decide)).mp c4411 | skip
                        have f4414 := tB r4409
                        refine sX1_setLocal hN hk1 hσ4397 (fun σ4415 hσ4415 kk4427 => ?_)
                        obtain ⟨k4416, k4417, k4418, k4419, k4420, k4421, k4422, k4423, k4424, k4425, k4426⟩ := kk4427
                        unfold fX2_doOrder_j174
                        exact hQ _ hσ4415 (⟨k4419.trans (k4400.trans ((kq (a := 9) (b := 9) eσ4389 (by omega)).trans (k4374.trans (k6.trans ((kq (a := 9) (b := 9) eσ2 (fun q => absurd q.1 (by decide)))))))), k4420.trans (k4401.trans ((kq (a := 9) (b := 10) eσ4389 (by omega)).trans (k4375.trans (k7.trans ((kq (a := 9) (b := 10) eσ2 (fun q => absurd q.1 (by decide)))))))), k4421.trans (k4402.trans ((kq (a := 6) (b := 5) eσ4389 (by omega)).trans (k4376.trans (k8.trans ((kq (a := 6) (b := 5) eσ2 (fun q => absurd q.1 (by decide)))))))), k4422.trans (k4403.trans ((kq (a := 7) (b := 4) eσ4389 (by omega)).trans (k4377.trans (k9.trans ((kq (a := 7) (b := 4) eσ2 (fun q => absurd q.1 (by decide)))))))), k4423.trans (k4404.trans ((kq (a := 2) (b := 4) eσ4389 (by omega)).trans (k4378.trans (k10.trans ((kq (a := 2) (b := 4) eσ2 (fun q => absurd q.1 (by decide))))))))⟩)
                      · have f4428 := tB (σ4397.1 3 11)
                        first | have f4429 := (noteqE (rfl : (σ4397.1 3 11).toInt = (σ4397.1 3 11).toInt) (show (0 : Int32).toInt = 0 from by decide)).mp c4411 | skip
                        unfold fX2_doOrder_j174
                        exact hQ _ hσ4397 (⟨k4400.trans ((kq (a := 9) (b := 9) eσ4389 (by omega)).trans (k4374.trans (k6.trans ((kq (a := 9) (b := 9) eσ2 (fun q => absurd q.1 (by decide))))))), k4401.trans ((kq (a := 9) (b := 10) eσ4389 (by omega)).trans (k4375.trans (k7.trans ((kq (a := 9) (b := 10) eσ2 (fun q => absurd q.1 (by decide))))))), k4402.trans ((kq (a := 6) (b := 5) eσ4389 (by omega)).trans (k4376.trans (k8.trans ((kq (a := 6) (b := 5) eσ2 (fun q => absurd q.1 (by decide))))))), k4403.trans ((kq (a := 7) (b := 4) eσ4389 (by omega)).trans (k4377.trans (k9.trans ((kq (a := 7) (b := 4) eσ2 (fun q => absurd q.1 (by decide))))))), k4404.trans ((kq (a := 2) (b := 4) eσ4389 (by omega)).trans (k4378.trans (k10.trans ((kq (a := 2) (b := 4) eσ2 (fun q => absurd q.1 (by decide)))))))⟩)
                    · first | have f4431 := (noteqE (rfl : (jT r15.toNatClampNeg).toInt = (jT r15.toNatClampNeg).toInt) (show (1 : Int32).toInt = 1 from by decide)).mp c4393 | skip
                      have g4433 : vp_in r15 18 := inE (rfl : r15.toInt = r15.toInt) (by omega) (by omega)
                      refine ⟨g4433, ?_⟩
                      refine ⟨fun c4434 => ?_, fun c4434 => ?_⟩
                      · first | have f4436 := (eqE (rfl : (jT r15.toNatClampNeg).toInt = (jT r15.toNatClampNeg).toInt) (show (2 : Int32).toInt = 2 from by decide)).mp c4434 | skip
                        refine sX2_goesThere hN hσ4389 (fun r4451 p4452 => ?_)
                        refine ⟨fun c4453 => ?_, fun c4453 => ?_⟩
                        · have f4454 := tB r4451
                          first | have f4455 := (eqE (rfl : r4451.toInt = r4451.toInt) (show (0 : Int32).toInt = 0 from by decide)).mp c4453 | skip
                          exact hQ _ hσ4389 (⟨(kq (a := 9) (b := 9) eσ4389 (by omega)).trans (k4374.trans (k6.trans ((kq (a := 9) (b := 9) eσ2 (fun q => absurd q.1 (by decide)))))), (kq (a := 9) (b := 10) eσ4389 (by omega)).trans (k4375.trans (k7.trans ((kq (a := 9) (b := 10) eσ2 (fun q => absurd q.1 (by decide)))))), (kq (a := 6) (b := 5) eσ4389 (by omega)).trans (k4376.trans (k8.trans ((kq (a := 6) (b := 5) eσ2 (fun q => absurd q.1 (by decide)))))), (kq (a := 7) (b := 4) eσ4389 (by omega)).trans (k4377.trans (k9.trans ((kq (a := 7) (b := 4) eσ2 (fun q => absurd q.1 (by decide)))))), (kq (a := 2) (b := 4) eσ4389 (by omega)).trans (k4378.trans (k10.trans ((kq (a := 2) (b := 4) eσ2 (fun q => absurd q.1 (by decide))))))⟩)
                        · have f4456 := tB r4451
                          first | have f4457 := (noteqE (rfl : r4451.toInt = r4451.toInt) (show (0 : Int32).toInt = 0 from by decide)).mp c4453 | skip
                          intro v4458 ev4458
                          intro σ4459 eσ4459
                          have kb4460 := jobK_b hk1
                          have hσ4459 : K1 σ0 σ4459 := by rw [eσ4459]; exact hσ4389.u (rg_jobK hk1) (by omega) (by omega)
                          exact hQ _ hσ4459 (⟨(kq (a := 9) (b := 9) eσ4459 (by omega)).trans ((kq (a := 9) (b := 9) eσ4389 (by omega)).trans (k4374.trans (k6.trans ((kq (a := 9) (b := 9) eσ2 (fun q => absurd q.1 (by decide))))))), (kq (a := 9) (b := 10) eσ4459 (by omega)).trans ((kq (a := 9) (b := 10) eσ4389 (by omega)).trans (k4375.trans (k7.trans ((kq (a := 9) (b := 10) eσ2 (fun q => absurd q.1 (by decide))))))), (kq (a := 6) (b := 5) eσ4459 (by omega)).trans ((kq (a := 6) (b := 5) eσ4389 (by omega)).trans (k4376.trans (k8.trans ((kq (a := 6) (b := 5) eσ2 (fun q => absurd q.1 (by decide))))))), (kq (a := 7) (b := 4) eσ4459 (by omega)).trans ((kq (a := 7) (b := 4) eσ4389 (by omega)).trans (k4377.trans (k9.trans ((kq (a := 7) (b := 4) eσ2 (fun q => absurd q.1 (by decide))))))), (kq (a := 2) (b := 4) eσ4459 (by omega)).trans ((kq (a := 2) (b := 4) eσ4389 (by omega)).trans (k4378.trans (k10.trans ((kq (a := 2) (b := 4) eσ2 (fun q => absurd q.1 (by decide)))))))⟩)
                      · first | have f4462 := (noteqE (rfl : (jT r15.toNatClampNeg).toInt = (jT r15.toNatClampNeg).toInt) (show (2 : Int32).toInt = 2 from by decide)).mp c4434 | skip
                        have f4465 := K1.g_3_7 hσ4389
                        have q4466 : σ4389.1 3 7 = σ4371.1 3 7 := by rw [eσ4389]; exact congrFun (u1_ne (by omega)) 7
                        have f4467 := congrArg Int32.toInt q4466
                        have f4468 := K1.g_3_7 hσ4371
                        have f4469 := congrArg Int32.toInt k4372
                        have f4470 := K1.g_3_7 hσ3
                        have f4471 := congrArg Int32.toInt k4
                        have f4472 := K1.g_3_7 hσ2
                        have q4473 : σ2.1 3 7 = σ.1 3 7 := by rw [eσ2, u1_at]; exact if_neg (by decide)
                        have f4474 := congrArg Int32.toInt q4473
                        have f4475 := K1.g_3_7 hσ
                        refine sX2_act hN hk1 ⟨by omega, by omega⟩ hσ4389 (fun σ4464 hσ4464 kk4481 => ?_)
                        obtain ⟨k4476, k4477, k4478, k4479, k4480⟩ := kk4481
                        exact hQ _ hσ4464 (⟨k4476.trans ((kq (a := 9) (b := 9) eσ4389 (by omega)).trans (k4374.trans (k6.trans ((kq (a := 9) (b := 9) eσ2 (fun q => absurd q.1 (by decide))))))), k4477.trans ((kq (a := 9) (b := 10) eσ4389 (by omega)).trans (k4375.trans (k7.trans ((kq (a := 9) (b := 10) eσ2 (fun q => absurd q.1 (by decide))))))), k4478.trans ((kq (a := 6) (b := 5) eσ4389 (by omega)).trans (k4376.trans (k8.trans ((kq (a := 6) (b := 5) eσ2 (fun q => absurd q.1 (by decide))))))), k4479.trans ((kq (a := 7) (b := 4) eσ4389 (by omega)).trans (k4377.trans (k9.trans ((kq (a := 7) (b := 4) eσ2 (fun q => absurd q.1 (by decide))))))), k4480.trans ((kq (a := 2) (b := 4) eσ4389 (by omega)).trans (k4378.trans (k10.trans ((kq (a := 2) (b := 4) eσ2 (fun q => absurd q.1 (by decide)))))))⟩)
                  · have f4482 := tB (σ4371.1 3 11)
                    first | have f4483 := (noteqE (rfl : (σ4371.1 3 11).toInt = (σ4371.1 3 11).toInt) (show (0 : Int32).toInt = 0 from by decide)).mp c4385 | skip
                    exact hQ _ hσ4371 (⟨k4374.trans (k6.trans ((kq (a := 9) (b := 9) eσ2 (fun q => absurd q.1 (by decide))))), k4375.trans (k7.trans ((kq (a := 9) (b := 10) eσ2 (fun q => absurd q.1 (by decide))))), k4376.trans (k8.trans ((kq (a := 6) (b := 5) eσ2 (fun q => absurd q.1 (by decide))))), k4377.trans (k9.trans ((kq (a := 7) (b := 4) eσ2 (fun q => absurd q.1 (by decide))))), k4378.trans (k10.trans ((kq (a := 2) (b := 4) eσ2 (fun q => absurd q.1 (by decide)))))⟩)
                · first | have f4485 := (noteqE (rfl : (jT r15.toNatClampNeg).toInt = (jT r15.toNatClampNeg).toInt) (show (2 : Int32).toInt = 2 from by decide)).mp c4368 | skip
                  unfold fX2_doOrder_j122
                  refine ⟨fun c4486 => ?_, fun c4486 => ?_⟩
                  · first | have f4488 := (eqE (rfl : (σ3.1 3 11).toInt = (σ3.1 3 11).toInt) (show (0 : Int32).toInt = 0 from by decide)).mp c4486 | skip
                    intro v4489 ev4489
                    intro σ4490 eσ4490
                    have kb4491 := jobK_b hk1
                    have hσ4490 : K1 σ0 σ4490 := by rw [eσ4490]; exact hσ3.u (rg_jobK hk1) (by omega) (by omega)
                    have g4493 : vp_in r15 18 := inE (rfl : r15.toInt = r15.toInt) (by omega) (by omega)
                    refine ⟨g4493, ?_⟩
                    refine ⟨fun c4494 => ?_, fun c4494 => ?_⟩
                    · first | have f4496 := (eqE (rfl : (jT r15.toNatClampNeg).toInt = (jT r15.toNatClampNeg).toInt) (show (1 : Int32).toInt = 1 from by decide)).mp c4494 | skip
                      refine sX2_valueFor hN hσ4490 (fun r4510 σ4498 hσ4498 kk4509 p4511 => ?_)
                      obtain ⟨k4499, k4500, k4501, k4502, k4503, k4504, k4505, k4506, k4507, k4508⟩ := kk4509
                      refine ⟨fun c4512 => ?_, fun c4512 => ?_⟩
                      · have f4513 := tB (σ4498.1 3 11)
                        first | have f4514 := (eqE (rfl : (σ4498.1 3 11).toInt = (σ4498.1 3 11).toInt) (show (0 : Int32).toInt = 0 from by decide)).mp c4512 | skip
                        have f4515 := tB r4510
                        refine sX1_setLocal hN hk1 hσ4498 (fun σ4516 hσ4516 kk4528 => ?_)
                        obtain ⟨k4517, k4518, k4519, k4520, k4521, k4522, k4523, k4524, k4525, k4526, k4527⟩ := kk4528
                        unfold fX2_doOrder_j174
                        exact hQ _ hσ4516 (⟨k4520.trans (k4501.trans ((kq (a := 9) (b := 9) eσ4490 (by omega)).trans (k6.trans ((kq (a := 9) (b := 9) eσ2 (fun q => absurd q.1 (by decide))))))), k4521.trans (k4502.trans ((kq (a := 9) (b := 10) eσ4490 (by omega)).trans (k7.trans ((kq (a := 9) (b := 10) eσ2 (fun q => absurd q.1 (by decide))))))), k4522.trans (k4503.trans ((kq (a := 6) (b := 5) eσ4490 (by omega)).trans (k8.trans ((kq (a := 6) (b := 5) eσ2 (fun q => absurd q.1 (by decide))))))), k4523.trans (k4504.trans ((kq (a := 7) (b := 4) eσ4490 (by omega)).trans (k9.trans ((kq (a := 7) (b := 4) eσ2 (fun q => absurd q.1 (by decide))))))), k4524.trans (k4505.trans ((kq (a := 2) (b := 4) eσ4490 (by omega)).trans (k10.trans ((kq (a := 2) (b := 4) eσ2 (fun q => absurd q.1 (by decide)))))))⟩)
                      · have f4529 := tB (σ4498.1 3 11)
                        first | have f4530 := (noteqE (rfl : (σ4498.1 3 11).toInt = (σ4498.1 3 11).toInt) (show (0 : Int32).toInt = 0 from by decide)).mp c4512 | skip
                        unfold fX2_doOrder_j174
                        exact hQ _ hσ4498 (⟨k4501.trans ((kq (a := 9) (b := 9) eσ4490 (by omega)).trans (k6.trans ((kq (a := 9) (b := 9) eσ2 (fun q => absurd q.1 (by decide)))))), k4502.trans ((kq (a := 9) (b := 10) eσ4490 (by omega)).trans (k7.trans ((kq (a := 9) (b := 10) eσ2 (fun q => absurd q.1 (by decide)))))), k4503.trans ((kq (a := 6) (b := 5) eσ4490 (by omega)).trans (k8.trans ((kq (a := 6) (b := 5) eσ2 (fun q => absurd q.1 (by decide)))))), k4504.trans ((kq (a := 7) (b := 4) eσ4490 (by omega)).trans (k9.trans ((kq (a := 7) (b := 4) eσ2 (fun q => absurd q.1 (by decide)))))), k4505.trans ((kq (a := 2) (b := 4) eσ4490 (by omega)).trans (k10.trans ((kq (a := 2) (b := 4) eσ2 (fun q => absurd q.1 (by decide))))))⟩)
                    · first | have f4532 := (noteqE (rfl : (jT r15.toNatClampNeg).toInt = (jT r15.toNatClampNeg).toInt) (show (1 : Int32).toInt = 1 from by decide)).mp c4494 | skip
                      have g4534 : vp_in r15 18 := inE (rfl : r15.toInt = r15.toInt) (by omega) (by omega)
                      refine ⟨g4534, ?_⟩
                      refine ⟨fun c4535 => ?_, fun c4535 => ?_⟩
                      · first | have f4537 := (eqE (rfl : (jT r15.toNatClampNeg).toInt = (jT r15.toNatClampNeg).toInt) (show (2 : Int32).toInt = 2 from by decide)).mp c4535 | skip
                        refine sX2_goesThere hN hσ4490 (fun r4552 p4553 => ?_)
                        refine ⟨fun c4554 => ?_, fun c4554 => ?_⟩
                        · have f4555 := tB r4552
                          first | have f4556 := (eqE (rfl : r4552.toInt = r4552.toInt) (show (0 : Int32).toInt = 0 from by decide)).mp c4554 | skip
                          exact hQ _ hσ4490 (⟨(kq (a := 9) (b := 9) eσ4490 (by omega)).trans (k6.trans ((kq (a := 9) (b := 9) eσ2 (fun q => absurd q.1 (by decide))))), (kq (a := 9) (b := 10) eσ4490 (by omega)).trans (k7.trans ((kq (a := 9) (b := 10) eσ2 (fun q => absurd q.1 (by decide))))), (kq (a := 6) (b := 5) eσ4490 (by omega)).trans (k8.trans ((kq (a := 6) (b := 5) eσ2 (fun q => absurd q.1 (by decide))))), (kq (a := 7) (b := 4) eσ4490 (by omega)).trans (k9.trans ((kq (a := 7) (b := 4) eσ2 (fun q => absurd q.1 (by decide))))), (kq (a := 2) (b := 4) eσ4490 (by omega)).trans (k10.trans ((kq (a := 2) (b := 4) eσ2 (fun q => absurd q.1 (by decide)))))⟩)
                        · have f4557 := tB r4552
                          first | have f4558 := (noteqE (rfl : r4552.toInt = r4552.toInt) (show (0 : Int32).toInt = 0 from by decide)).mp c4554 | skip
                          intro v4559 ev4559
                          intro σ4560 eσ4560
                          have kb4561 := jobK_b hk1
                          have hσ4560 : K1 σ0 σ4560 := by rw [eσ4560]; exact hσ4490.u (rg_jobK hk1) (by omega) (by omega)
                          exact hQ _ hσ4560 (⟨(kq (a := 9) (b := 9) eσ4560 (by omega)).trans ((kq (a := 9) (b := 9) eσ4490 (by omega)).trans (k6.trans ((kq (a := 9) (b := 9) eσ2 (fun q => absurd q.1 (by decide)))))), (kq (a := 9) (b := 10) eσ4560 (by omega)).trans ((kq (a := 9) (b := 10) eσ4490 (by omega)).trans (k7.trans ((kq (a := 9) (b := 10) eσ2 (fun q => absurd q.1 (by decide)))))), (kq (a := 6) (b := 5) eσ4560 (by omega)).trans ((kq (a := 6) (b := 5) eσ4490 (by omega)).trans (k8.trans ((kq (a := 6) (b := 5) eσ2 (fun q => absurd q.1 (by decide)))))), (kq (a := 7) (b := 4) eσ4560 (by omega)).trans ((kq (a := 7) (b := 4) eσ4490 (by omega)).trans (k9.trans ((kq (a := 7) (b := 4) eσ2 (fun q => absurd q.1 (by decide)))))), (kq (a := 2) (b := 4) eσ4560 (by omega)).trans ((kq (a := 2) (b := 4) eσ4490 (by omega)).trans (k10.trans ((kq (a := 2) (b := 4) eσ2 (fun q => absurd q.1 (by decide))))))⟩)
                      · first | have f4563 := (noteqE (rfl : (jT r15.toNatClampNeg).toInt = (jT r15.toNatClampNeg).toInt) (show (2 : Int32).toInt = 2 from by decide)).mp c4535 | skip
                        have f4566 := K1.g_3_7 hσ4490
                        have q4567 : σ4490.1 3 7 = σ3.1 3 7 := by rw [eσ4490]; exact congrFun (u1_ne (by omega)) 7
                        have f4568 := congrArg Int32.toInt q4567
                        have f4569 := K1.g_3_7 hσ3
                        have f4570 := congrArg Int32.toInt k4
                        have f4571 := K1.g_3_7 hσ2
                        have q4572 : σ2.1 3 7 = σ.1 3 7 := by rw [eσ2, u1_at]; exact if_neg (by decide)
                        have f4573 := congrArg Int32.toInt q4572
                        have f4574 := K1.g_3_7 hσ
                        refine sX2_act hN hk1 ⟨by omega, by omega⟩ hσ4490 (fun σ4565 hσ4565 kk4580 => ?_)
                        obtain ⟨k4575, k4576, k4577, k4578, k4579⟩ := kk4580
                        exact hQ _ hσ4565 (⟨k4575.trans ((kq (a := 9) (b := 9) eσ4490 (by omega)).trans (k6.trans ((kq (a := 9) (b := 9) eσ2 (fun q => absurd q.1 (by decide)))))), k4576.trans ((kq (a := 9) (b := 10) eσ4490 (by omega)).trans (k7.trans ((kq (a := 9) (b := 10) eσ2 (fun q => absurd q.1 (by decide)))))), k4577.trans ((kq (a := 6) (b := 5) eσ4490 (by omega)).trans (k8.trans ((kq (a := 6) (b := 5) eσ2 (fun q => absurd q.1 (by decide)))))), k4578.trans ((kq (a := 7) (b := 4) eσ4490 (by omega)).trans (k9.trans ((kq (a := 7) (b := 4) eσ2 (fun q => absurd q.1 (by decide)))))), k4579.trans ((kq (a := 2) (b := 4) eσ4490 (by omega)).trans (k10.trans ((kq (a := 2) (b := 4) eσ2 (fun q => absurd q.1 (by decide))))))⟩)
                  · first | have f4582 := (noteqE (rfl : (σ3.1 3 11).toInt = (σ3.1 3 11).toInt) (show (0 : Int32).toInt = 0 from by decide)).mp c4486 | skip
                    exact hQ _ hσ3 (⟨k6.trans ((kq (a := 9) (b := 9) eσ2 (fun q => absurd q.1 (by decide)))), k7.trans ((kq (a := 9) (b := 10) eσ2 (fun q => absurd q.1 (by decide)))), k8.trans ((kq (a := 6) (b := 5) eσ2 (fun q => absurd q.1 (by decide)))), k9.trans ((kq (a := 7) (b := 4) eσ2 (fun q => absurd q.1 (by decide)))), k10.trans ((kq (a := 2) (b := 4) eσ2 (fun q => absurd q.1 (by decide))))⟩)
            · first | have f4584 := (notleE (rfl : (jV r15.toNatClampNeg).toInt = (jV r15.toNatClampNeg).toInt) (show (1 : Int32).toInt = 1 from by decide)).mp c4119 | skip
              refine sX2_nextValue hN hk1 hσ3 (fun r4597 σ4585 hσ4585 kk4596 p4598 => ?_)
              obtain ⟨k4586, k4587, k4588, k4589, k4590, k4591, k4592, k4593, k4594, k4595⟩ := kk4596
              unfold fX2_doOrder_j81
              have g4600 : vp_in r15 18 := inE (rfl : r15.toInt = r15.toInt) (by omega) (by omega)
              refine ⟨g4600, ?_⟩
              refine ⟨fun c4601 => ?_, fun c4601 => ?_⟩
              · have f4602 := tB (jT r15.toNatClampNeg)
                first | have f4603 := (eqE (rfl : (jT r15.toNatClampNeg).toInt = (jT r15.toNatClampNeg).toInt) (show (1 : Int32).toInt = 1 from by decide)).mp c4601 | skip
                refine sX2_nextTarget hN hk1 hσ4585 (fun r4616 σ4604 hσ4604 kk4615 p4617 => ?_)
                obtain ⟨k4605, k4606, k4607, k4608, k4609, k4610, k4611, k4612, k4613, k4614⟩ := kk4615
                unfold fX2_doOrder_j103
                have g4619 : vp_in r15 18 := inE (rfl : r15.toInt = r15.toInt) (by omega) (by omega)
                refine ⟨g4619, ?_⟩
                refine ⟨fun c4620 => ?_, fun c4620 => ?_⟩
                · first | have f4622 := (eqE (rfl : (jT r15.toNatClampNeg).toInt = (jT r15.toNatClampNeg).toInt) (show (2 : Int32).toInt = 2 from by decide)).mp c4620 | skip
                  refine sX2_nextDistance hN hσ4604 (fun r4635 σ4623 hσ4623 kk4634 p4636 => ?_)
                  obtain ⟨k4624, k4625, k4626, k4627, k4628, k4629, k4630, k4631, k4632, k4633⟩ := kk4634
                  unfold fX2_doOrder_j122
                  refine ⟨fun c4637 => ?_, fun c4637 => ?_⟩
                  · have f4638 := tB (σ4623.1 3 11)
                    first | have f4639 := (eqE (rfl : (σ4623.1 3 11).toInt = (σ4623.1 3 11).toInt) (show (0 : Int32).toInt = 0 from by decide)).mp c4637 | skip
                    intro v4640 ev4640
                    intro σ4641 eσ4641
                    have kb4642 := jobK_b hk1
                    have hσ4641 : K1 σ0 σ4641 := by rw [eσ4641]; exact hσ4623.u (rg_jobK hk1) (by omega) (by omega)
                    have g4644 : vp_in r15 18 := inE (rfl : r15.toInt = r15.toInt) (by omega) (by omega)
                    refine ⟨g4644, ?_⟩
                    refine ⟨fun c4645 => ?_, fun c4645 => ?_⟩
                    · first | have f4647 := (eqE (rfl : (jT r15.toNatClampNeg).toInt = (jT r15.toNatClampNeg).toInt) (show (1 : Int32).toInt = 1 from by decide)).mp c4645 | skip
                      have f4649 := tB r4597
                      refine sX2_valueFor hN hσ4641 (fun r4662 σ4650 hσ4650 kk4661 p4663 => ?_)
                      obtain ⟨k4651, k4652, k4653, k4654, k4655, k4656, k4657, k4658, k4659, k4660⟩ := kk4661
                      refine ⟨fun c4664 => ?_, fun c4664 => ?_⟩
                      · have f4665 := tB (σ4650.1 3 11)
                        first | have f4666 := (eqE (rfl : (σ4650.1 3 11).toInt = (σ4650.1 3 11).toInt) (show (0 : Int32).toInt = 0 from by decide)).mp c4664 | skip
                        have f4667 := tB r4616
                        have f4668 := tB r4662
                        refine sX1_setLocal hN hk1 hσ4650 (fun σ4669 hσ4669 kk4681 => ?_)
                        obtain ⟨k4670, k4671, k4672, k4673, k4674, k4675, k4676, k4677, k4678, k4679, k4680⟩ := kk4681
                        unfold fX2_doOrder_j174
                        exact hQ _ hσ4669 (⟨k4673.trans (k4653.trans ((kq (a := 9) (b := 9) eσ4641 (by omega)).trans (k4626.trans (k4607.trans (k4588.trans (k6.trans ((kq (a := 9) (b := 9) eσ2 (fun q => absurd q.1 (by decide)))))))))), k4674.trans (k4654.trans ((kq (a := 9) (b := 10) eσ4641 (by omega)).trans (k4627.trans (k4608.trans (k4589.trans (k7.trans ((kq (a := 9) (b := 10) eσ2 (fun q => absurd q.1 (by decide)))))))))), k4675.trans (k4655.trans ((kq (a := 6) (b := 5) eσ4641 (by omega)).trans (k4628.trans (k4609.trans (k4590.trans (k8.trans ((kq (a := 6) (b := 5) eσ2 (fun q => absurd q.1 (by decide)))))))))), k4676.trans (k4656.trans ((kq (a := 7) (b := 4) eσ4641 (by omega)).trans (k4629.trans (k4610.trans (k4591.trans (k9.trans ((kq (a := 7) (b := 4) eσ2 (fun q => absurd q.1 (by decide)))))))))), k4677.trans (k4657.trans ((kq (a := 2) (b := 4) eσ4641 (by omega)).trans (k4630.trans (k4611.trans (k4592.trans (k10.trans ((kq (a := 2) (b := 4) eσ2 (fun q => absurd q.1 (by decide))))))))))⟩)
                      · have f4682 := tB (σ4650.1 3 11)
                        first | have f4683 := (noteqE (rfl : (σ4650.1 3 11).toInt = (σ4650.1 3 11).toInt) (show (0 : Int32).toInt = 0 from by decide)).mp c4664 | skip
                        unfold fX2_doOrder_j174
                        exact hQ _ hσ4650 (⟨k4653.trans ((kq (a := 9) (b := 9) eσ4641 (by omega)).trans (k4626.trans (k4607.trans (k4588.trans (k6.trans ((kq (a := 9) (b := 9) eσ2 (fun q => absurd q.1 (by decide))))))))), k4654.trans ((kq (a := 9) (b := 10) eσ4641 (by omega)).trans (k4627.trans (k4608.trans (k4589.trans (k7.trans ((kq (a := 9) (b := 10) eσ2 (fun q => absurd q.1 (by decide))))))))), k4655.trans ((kq (a := 6) (b := 5) eσ4641 (by omega)).trans (k4628.trans (k4609.trans (k4590.trans (k8.trans ((kq (a := 6) (b := 5) eσ2 (fun q => absurd q.1 (by decide))))))))), k4656.trans ((kq (a := 7) (b := 4) eσ4641 (by omega)).trans (k4629.trans (k4610.trans (k4591.trans (k9.trans ((kq (a := 7) (b := 4) eσ2 (fun q => absurd q.1 (by decide))))))))), k4657.trans ((kq (a := 2) (b := 4) eσ4641 (by omega)).trans (k4630.trans (k4611.trans (k4592.trans (k10.trans ((kq (a := 2) (b := 4) eσ2 (fun q => absurd q.1 (by decide)))))))))⟩)
                    · first | have f4685 := (noteqE (rfl : (jT r15.toNatClampNeg).toInt = (jT r15.toNatClampNeg).toInt) (show (1 : Int32).toInt = 1 from by decide)).mp c4645 | skip
                      have g4687 : vp_in r15 18 := inE (rfl : r15.toInt = r15.toInt) (by omega) (by omega)
                      refine ⟨g4687, ?_⟩
                      refine ⟨fun c4688 => ?_, fun c4688 => ?_⟩
                      · first | have f4690 := (eqE (rfl : (jT r15.toNatClampNeg).toInt = (jT r15.toNatClampNeg).toInt) (show (2 : Int32).toInt = 2 from by decide)).mp c4688 | skip
                        have f4692 := tB r4597
                        refine sX2_goesThere hN hσ4641 (fun r4706 p4707 => ?_)
                        refine ⟨fun c4708 => ?_, fun c4708 => ?_⟩
                        · have f4709 := tB r4706
                          first | have f4710 := (eqE (rfl : r4706.toInt = r4706.toInt) (show (0 : Int32).toInt = 0 from by decide)).mp c4708 | skip
                          exact hQ _ hσ4641 (⟨(kq (a := 9) (b := 9) eσ4641 (by omega)).trans (k4626.trans (k4607.trans (k4588.trans (k6.trans ((kq (a := 9) (b := 9) eσ2 (fun q => absurd q.1 (by decide)))))))), (kq (a := 9) (b := 10) eσ4641 (by omega)).trans (k4627.trans (k4608.trans (k4589.trans (k7.trans ((kq (a := 9) (b := 10) eσ2 (fun q => absurd q.1 (by decide)))))))), (kq (a := 6) (b := 5) eσ4641 (by omega)).trans (k4628.trans (k4609.trans (k4590.trans (k8.trans ((kq (a := 6) (b := 5) eσ2 (fun q => absurd q.1 (by decide)))))))), (kq (a := 7) (b := 4) eσ4641 (by omega)).trans (k4629.trans (k4610.trans (k4591.trans (k9.trans ((kq (a := 7) (b := 4) eσ2 (fun q => absurd q.1 (by decide)))))))), (kq (a := 2) (b := 4) eσ4641 (by omega)).trans (k4630.trans (k4611.trans (k4592.trans (k10.trans ((kq (a := 2) (b := 4) eσ2 (fun q => absurd q.1 (by decide))))))))⟩)
                        · have f4711 := tB r4706
                          first | have f4712 := (noteqE (rfl : r4706.toInt = r4706.toInt) (show (0 : Int32).toInt = 0 from by decide)).mp c4708 | skip
                          intro v4713 ev4713
                          intro σ4714 eσ4714
                          have kb4715 := jobK_b hk1
                          have hσ4714 : K1 σ0 σ4714 := by rw [eσ4714]; exact hσ4641.u (rg_jobK hk1) (by omega) (by omega)
                          exact hQ _ hσ4714 (⟨(kq (a := 9) (b := 9) eσ4714 (by omega)).trans ((kq (a := 9) (b := 9) eσ4641 (by omega)).trans (k4626.trans (k4607.trans (k4588.trans (k6.trans ((kq (a := 9) (b := 9) eσ2 (fun q => absurd q.1 (by decide))))))))), (kq (a := 9) (b := 10) eσ4714 (by omega)).trans ((kq (a := 9) (b := 10) eσ4641 (by omega)).trans (k4627.trans (k4608.trans (k4589.trans (k7.trans ((kq (a := 9) (b := 10) eσ2 (fun q => absurd q.1 (by decide))))))))), (kq (a := 6) (b := 5) eσ4714 (by omega)).trans ((kq (a := 6) (b := 5) eσ4641 (by omega)).trans (k4628.trans (k4609.trans (k4590.trans (k8.trans ((kq (a := 6) (b := 5) eσ2 (fun q => absurd q.1 (by decide))))))))), (kq (a := 7) (b := 4) eσ4714 (by omega)).trans ((kq (a := 7) (b := 4) eσ4641 (by omega)).trans (k4629.trans (k4610.trans (k4591.trans (k9.trans ((kq (a := 7) (b := 4) eσ2 (fun q => absurd q.1 (by decide))))))))), (kq (a := 2) (b := 4) eσ4714 (by omega)).trans ((kq (a := 2) (b := 4) eσ4641 (by omega)).trans (k4630.trans (k4611.trans (k4592.trans (k10.trans ((kq (a := 2) (b := 4) eσ2 (fun q => absurd q.1 (by decide)))))))))⟩)
                      · first | have f4717 := (noteqE (rfl : (jT r15.toNatClampNeg).toInt = (jT r15.toNatClampNeg).toInt) (show (2 : Int32).toInt = 2 from by decide)).mp c4688 | skip
                        have f4719 := tB r4597
                        have f4721 := K1.g_3_7 hσ4641
                        have q4722 : σ4641.1 3 7 = σ4623.1 3 7 := by rw [eσ4641]; exact congrFun (u1_ne (by omega)) 7
                        have f4723 := congrArg Int32.toInt q4722
                        have f4724 := K1.g_3_7 hσ4623
                        have f4725 := congrArg Int32.toInt k4624
                        have f4726 := K1.g_3_7 hσ4604
                        have f4727 := congrArg Int32.toInt k4605
                        have f4728 := K1.g_3_7 hσ4585
                        have f4729 := congrArg Int32.toInt k4586
                        have f4730 := K1.g_3_7 hσ3
                        have f4731 := congrArg Int32.toInt k4
                        have f4732 := K1.g_3_7 hσ2
                        have q4733 : σ2.1 3 7 = σ.1 3 7 := by rw [eσ2, u1_at]; exact if_neg (by decide)
                        have f4734 := congrArg Int32.toInt q4733
                        have f4735 := K1.g_3_7 hσ
                        refine sX2_act hN hk1 ⟨by omega, by omega⟩ hσ4641 (fun σ4720 hσ4720 kk4741 => ?_)
                        obtain ⟨k4736, k4737, k4738, k4739, k4740⟩ := kk4741
                        exact hQ _ hσ4720 (⟨k4736.trans ((kq (a := 9) (b := 9) eσ4641 (by omega)).trans (k4626.trans (k4607.trans (k4588.trans (k6.trans ((kq (a := 9) (b := 9) eσ2 (fun q => absurd q.1 (by decide))))))))), k4737.trans ((kq (a := 9) (b := 10) eσ4641 (by omega)).trans (k4627.trans (k4608.trans (k4589.trans (k7.trans ((kq (a := 9) (b := 10) eσ2 (fun q => absurd q.1 (by decide))))))))), k4738.trans ((kq (a := 6) (b := 5) eσ4641 (by omega)).trans (k4628.trans (k4609.trans (k4590.trans (k8.trans ((kq (a := 6) (b := 5) eσ2 (fun q => absurd q.1 (by decide))))))))), k4739.trans ((kq (a := 7) (b := 4) eσ4641 (by omega)).trans (k4629.trans (k4610.trans (k4591.trans (k9.trans ((kq (a := 7) (b := 4) eσ2 (fun q => absurd q.1 (by decide))))))))), k4740.trans ((kq (a := 2) (b := 4) eσ4641 (by omega)).trans (k4630.trans (k4611.trans (k4592.trans (k10.trans ((kq (a := 2) (b := 4) eσ2 (fun q => absurd q.1 (by decide)))))))))⟩)
                  · have f4742 := tB (σ4623.1 3 11)
                    first | have f4743 := (noteqE (rfl : (σ4623.1 3 11).toInt = (σ4623.1 3 11).toInt) (show (0 : Int32).toInt = 0 from by decide)).mp c4637 | skip
                    exact hQ _ hσ4623 (⟨k4626.trans (k4607.trans (k4588.trans (k6.trans ((kq (a := 9) (b := 9) eσ2 (fun q => absurd q.1 (by decide))))))), k4627.trans (k4608.trans (k4589.trans (k7.trans ((kq (a := 9) (b := 10) eσ2 (fun q => absurd q.1 (by decide))))))), k4628.trans (k4609.trans (k4590.trans (k8.trans ((kq (a := 6) (b := 5) eσ2 (fun q => absurd q.1 (by decide))))))), k4629.trans (k4610.trans (k4591.trans (k9.trans ((kq (a := 7) (b := 4) eσ2 (fun q => absurd q.1 (by decide))))))), k4630.trans (k4611.trans (k4592.trans (k10.trans ((kq (a := 2) (b := 4) eσ2 (fun q => absurd q.1 (by decide)))))))⟩)
                · first | have f4745 := (noteqE (rfl : (jT r15.toNatClampNeg).toInt = (jT r15.toNatClampNeg).toInt) (show (2 : Int32).toInt = 2 from by decide)).mp c4620 | skip
                  unfold fX2_doOrder_j122
                  refine ⟨fun c4746 => ?_, fun c4746 => ?_⟩
                  · have f4747 := tB (σ4604.1 3 11)
                    first | have f4748 := (eqE (rfl : (σ4604.1 3 11).toInt = (σ4604.1 3 11).toInt) (show (0 : Int32).toInt = 0 from by decide)).mp c4746 | skip
                    intro v4749 ev4749
                    intro σ4750 eσ4750
                    have kb4751 := jobK_b hk1
                    have hσ4750 : K1 σ0 σ4750 := by rw [eσ4750]; exact hσ4604.u (rg_jobK hk1) (by omega) (by omega)
                    have g4753 : vp_in r15 18 := inE (rfl : r15.toInt = r15.toInt) (by omega) (by omega)
                    refine ⟨g4753, ?_⟩
                    refine ⟨fun c4754 => ?_, fun c4754 => ?_⟩
                    · first | have f4756 := (eqE (rfl : (jT r15.toNatClampNeg).toInt = (jT r15.toNatClampNeg).toInt) (show (1 : Int32).toInt = 1 from by decide)).mp c4754 | skip
                      have f4758 := tB r4597
                      refine sX2_valueFor hN hσ4750 (fun r4771 σ4759 hσ4759 kk4770 p4772 => ?_)
                      obtain ⟨k4760, k4761, k4762, k4763, k4764, k4765, k4766, k4767, k4768, k4769⟩ := kk4770
                      refine ⟨fun c4773 => ?_, fun c4773 => ?_⟩
                      · have f4774 := tB (σ4759.1 3 11)
                        first | have f4775 := (eqE (rfl : (σ4759.1 3 11).toInt = (σ4759.1 3 11).toInt) (show (0 : Int32).toInt = 0 from by decide)).mp c4773 | skip
                        have f4776 := tB r4616
                        have f4777 := tB r4771
                        refine sX1_setLocal hN hk1 hσ4759 (fun σ4778 hσ4778 kk4790 => ?_)
                        obtain ⟨k4779, k4780, k4781, k4782, k4783, k4784, k4785, k4786, k4787, k4788, k4789⟩ := kk4790
                        unfold fX2_doOrder_j174
                        exact hQ _ hσ4778 (⟨k4782.trans (k4762.trans ((kq (a := 9) (b := 9) eσ4750 (by omega)).trans (k4607.trans (k4588.trans (k6.trans ((kq (a := 9) (b := 9) eσ2 (fun q => absurd q.1 (by decide))))))))), k4783.trans (k4763.trans ((kq (a := 9) (b := 10) eσ4750 (by omega)).trans (k4608.trans (k4589.trans (k7.trans ((kq (a := 9) (b := 10) eσ2 (fun q => absurd q.1 (by decide))))))))), k4784.trans (k4764.trans ((kq (a := 6) (b := 5) eσ4750 (by omega)).trans (k4609.trans (k4590.trans (k8.trans ((kq (a := 6) (b := 5) eσ2 (fun q => absurd q.1 (by decide))))))))), k4785.trans (k4765.trans ((kq (a := 7) (b := 4) eσ4750 (by omega)).trans (k4610.trans (k4591.trans (k9.trans ((kq (a := 7) (b := 4) eσ2 (fun q => absurd q.1 (by decide))))))))), k4786.trans (k4766.trans ((kq (a := 2) (b := 4) eσ4750 (by omega)).trans (k4611.trans (k4592.trans (k10.trans ((kq (a := 2) (b := 4) eσ2 (fun q => absurd q.1 (by decide)))))))))⟩)
                      · have f4791 := tB (σ4759.1 3 11)
                        first | have f4792 := (noteqE (rfl : (σ4759.1 3 11).toInt = (σ4759.1 3 11).toInt) (show (0 : Int32).toInt = 0 from by decide)).mp c4773 | skip
                        unfold fX2_doOrder_j174
                        exact hQ _ hσ4759 (⟨k4762.trans ((kq (a := 9) (b := 9) eσ4750 (by omega)).trans (k4607.trans (k4588.trans (k6.trans ((kq (a := 9) (b := 9) eσ2 (fun q => absurd q.1 (by decide)))))))), k4763.trans ((kq (a := 9) (b := 10) eσ4750 (by omega)).trans (k4608.trans (k4589.trans (k7.trans ((kq (a := 9) (b := 10) eσ2 (fun q => absurd q.1 (by decide)))))))), k4764.trans ((kq (a := 6) (b := 5) eσ4750 (by omega)).trans (k4609.trans (k4590.trans (k8.trans ((kq (a := 6) (b := 5) eσ2 (fun q => absurd q.1 (by decide)))))))), k4765.trans ((kq (a := 7) (b := 4) eσ4750 (by omega)).trans (k4610.trans (k4591.trans (k9.trans ((kq (a := 7) (b := 4) eσ2 (fun q => absurd q.1 (by decide)))))))), k4766.trans ((kq (a := 2) (b := 4) eσ4750 (by omega)).trans (k4611.trans (k4592.trans (k10.trans ((kq (a := 2) (b := 4) eσ2 (fun q => absurd q.1 (by decide))))))))⟩)
                    · first | have f4794 := (noteqE (rfl : (jT r15.toNatClampNeg).toInt = (jT r15.toNatClampNeg).toInt) (show (1 : Int32).toInt = 1 from by decide)).mp c4754 | skip
                      have g4796 : vp_in r15 18 := inE (rfl : r15.toInt = r15.toInt) (by omega) (by omega)
                      refine ⟨g4796, ?_⟩
                      refine ⟨fun c4797 => ?_, fun c4797 => ?_⟩
                      · first | have f4799 := (eqE (rfl : (jT r15.toNatClampNeg).toInt = (jT r15.toNatClampNeg).toInt) (show (2 : Int32).toInt = 2 from by decide)).mp c4797 | skip
                        have f4801 := tB r4597
                        refine sX2_goesThere hN hσ4750 (fun r4815 p4816 => ?_)
                        refine ⟨fun c4817 => ?_, fun c4817 => ?_⟩
                        · have f4818 := tB r4815
                          first | have f4819 := (eqE (rfl : r4815.toInt = r4815.toInt) (show (0 : Int32).toInt = 0 from by decide)).mp c4817 | skip
                          exact hQ _ hσ4750 (⟨(kq (a := 9) (b := 9) eσ4750 (by omega)).trans (k4607.trans (k4588.trans (k6.trans ((kq (a := 9) (b := 9) eσ2 (fun q => absurd q.1 (by decide))))))), (kq (a := 9) (b := 10) eσ4750 (by omega)).trans (k4608.trans (k4589.trans (k7.trans ((kq (a := 9) (b := 10) eσ2 (fun q => absurd q.1 (by decide))))))), (kq (a := 6) (b := 5) eσ4750 (by omega)).trans (k4609.trans (k4590.trans (k8.trans ((kq (a := 6) (b := 5) eσ2 (fun q => absurd q.1 (by decide))))))), (kq (a := 7) (b := 4) eσ4750 (by omega)).trans (k4610.trans (k4591.trans (k9.trans ((kq (a := 7) (b := 4) eσ2 (fun q => absurd q.1 (by decide))))))), (kq (a := 2) (b := 4) eσ4750 (by omega)).trans (k4611.trans (k4592.trans (k10.trans ((kq (a := 2) (b := 4) eσ2 (fun q => absurd q.1 (by decide)))))))⟩)
                        · have f4820 := tB r4815
                          first | have f4821 := (noteqE (rfl : r4815.toInt = r4815.toInt) (show (0 : Int32).toInt = 0 from by decide)).mp c4817 | skip
                          intro v4822 ev4822
                          intro σ4823 eσ4823
                          have kb4824 := jobK_b hk1
                          have hσ4823 : K1 σ0 σ4823 := by rw [eσ4823]; exact hσ4750.u (rg_jobK hk1) (by omega) (by omega)
                          exact hQ _ hσ4823 (⟨(kq (a := 9) (b := 9) eσ4823 (by omega)).trans ((kq (a := 9) (b := 9) eσ4750 (by omega)).trans (k4607.trans (k4588.trans (k6.trans ((kq (a := 9) (b := 9) eσ2 (fun q => absurd q.1 (by decide)))))))), (kq (a := 9) (b := 10) eσ4823 (by omega)).trans ((kq (a := 9) (b := 10) eσ4750 (by omega)).trans (k4608.trans (k4589.trans (k7.trans ((kq (a := 9) (b := 10) eσ2 (fun q => absurd q.1 (by decide)))))))), (kq (a := 6) (b := 5) eσ4823 (by omega)).trans ((kq (a := 6) (b := 5) eσ4750 (by omega)).trans (k4609.trans (k4590.trans (k8.trans ((kq (a := 6) (b := 5) eσ2 (fun q => absurd q.1 (by decide)))))))), (kq (a := 7) (b := 4) eσ4823 (by omega)).trans ((kq (a := 7) (b := 4) eσ4750 (by omega)).trans (k4610.trans (k4591.trans (k9.trans ((kq (a := 7) (b := 4) eσ2 (fun q => absurd q.1 (by decide)))))))), (kq (a := 2) (b := 4) eσ4823 (by omega)).trans ((kq (a := 2) (b := 4) eσ4750 (by omega)).trans (k4611.trans (k4592.trans (k10.trans ((kq (a := 2) (b := 4) eσ2 (fun q => absurd q.1 (by decide))))))))⟩)
                      · first | have f4826 := (noteqE (rfl : (jT r15.toNatClampNeg).toInt = (jT r15.toNatClampNeg).toInt) (show (2 : Int32).toInt = 2 from by decide)).mp c4797 | skip
                        have f4828 := tB r4597
                        have f4830 := K1.g_3_7 hσ4750
                        have q4831 : σ4750.1 3 7 = σ4604.1 3 7 := by rw [eσ4750]; exact congrFun (u1_ne (by omega)) 7
                        have f4832 := congrArg Int32.toInt q4831
                        have f4833 := K1.g_3_7 hσ4604
                        have f4834 := congrArg Int32.toInt k4605
                        have f4835 := K1.g_3_7 hσ4585
                        have f4836 := congrArg Int32.toInt k4586
                        have f4837 := K1.g_3_7 hσ3
                        have f4838 := congrArg Int32.toInt k4
                        have f4839 := K1.g_3_7 hσ2
                        have q4840 : σ2.1 3 7 = σ.1 3 7 := by rw [eσ2, u1_at]; exact if_neg (by decide)
                        have f4841 := congrArg Int32.toInt q4840
                        have f4842 := K1.g_3_7 hσ
                        refine sX2_act hN hk1 ⟨by omega, by omega⟩ hσ4750 (fun σ4829 hσ4829 kk4848 => ?_)
                        obtain ⟨k4843, k4844, k4845, k4846, k4847⟩ := kk4848
                        exact hQ _ hσ4829 (⟨k4843.trans ((kq (a := 9) (b := 9) eσ4750 (by omega)).trans (k4607.trans (k4588.trans (k6.trans ((kq (a := 9) (b := 9) eσ2 (fun q => absurd q.1 (by decide)))))))), k4844.trans ((kq (a := 9) (b := 10) eσ4750 (by omega)).trans (k4608.trans (k4589.trans (k7.trans ((kq (a := 9) (b := 10) eσ2 (fun q => absurd q.1 (by decide)))))))), k4845.trans ((kq (a := 6) (b := 5) eσ4750 (by omega)).trans (k4609.trans (k4590.trans (k8.trans ((kq (a := 6) (b := 5) eσ2 (fun q => absurd q.1 (by decide)))))))), k4846.trans ((kq (a := 7) (b := 4) eσ4750 (by omega)).trans (k4610.trans (k4591.trans (k9.trans ((kq (a := 7) (b := 4) eσ2 (fun q => absurd q.1 (by decide)))))))), k4847.trans ((kq (a := 2) (b := 4) eσ4750 (by omega)).trans (k4611.trans (k4592.trans (k10.trans ((kq (a := 2) (b := 4) eσ2 (fun q => absurd q.1 (by decide))))))))⟩)
                  · have f4849 := tB (σ4604.1 3 11)
                    first | have f4850 := (noteqE (rfl : (σ4604.1 3 11).toInt = (σ4604.1 3 11).toInt) (show (0 : Int32).toInt = 0 from by decide)).mp c4746 | skip
                    exact hQ _ hσ4604 (⟨k4607.trans (k4588.trans (k6.trans ((kq (a := 9) (b := 9) eσ2 (fun q => absurd q.1 (by decide)))))), k4608.trans (k4589.trans (k7.trans ((kq (a := 9) (b := 10) eσ2 (fun q => absurd q.1 (by decide)))))), k4609.trans (k4590.trans (k8.trans ((kq (a := 6) (b := 5) eσ2 (fun q => absurd q.1 (by decide)))))), k4610.trans (k4591.trans (k9.trans ((kq (a := 7) (b := 4) eσ2 (fun q => absurd q.1 (by decide)))))), k4611.trans (k4592.trans (k10.trans ((kq (a := 2) (b := 4) eσ2 (fun q => absurd q.1 (by decide))))))⟩)
              · have f4851 := tB (jT r15.toNatClampNeg)
                first | have f4852 := (noteqE (rfl : (jT r15.toNatClampNeg).toInt = (jT r15.toNatClampNeg).toInt) (show (1 : Int32).toInt = 1 from by decide)).mp c4601 | skip
                unfold fX2_doOrder_j103
                have g4854 : vp_in r15 18 := inE (rfl : r15.toInt = r15.toInt) (by omega) (by omega)
                refine ⟨g4854, ?_⟩
                refine ⟨fun c4855 => ?_, fun c4855 => ?_⟩
                · first | have f4857 := (eqE (rfl : (jT r15.toNatClampNeg).toInt = (jT r15.toNatClampNeg).toInt) (show (2 : Int32).toInt = 2 from by decide)).mp c4855 | skip
                  refine sX2_nextDistance hN hσ4585 (fun r4870 σ4858 hσ4858 kk4869 p4871 => ?_)
                  obtain ⟨k4859, k4860, k4861, k4862, k4863, k4864, k4865, k4866, k4867, k4868⟩ := kk4869
                  unfold fX2_doOrder_j122
                  refine ⟨fun c4872 => ?_, fun c4872 => ?_⟩
                  · have f4873 := tB (σ4858.1 3 11)
                    first | have f4874 := (eqE (rfl : (σ4858.1 3 11).toInt = (σ4858.1 3 11).toInt) (show (0 : Int32).toInt = 0 from by decide)).mp c4872 | skip
                    intro v4875 ev4875
                    intro σ4876 eσ4876
                    have kb4877 := jobK_b hk1
                    have hσ4876 : K1 σ0 σ4876 := by rw [eσ4876]; exact hσ4858.u (rg_jobK hk1) (by omega) (by omega)
                    have g4879 : vp_in r15 18 := inE (rfl : r15.toInt = r15.toInt) (by omega) (by omega)
                    refine ⟨g4879, ?_⟩
                    refine ⟨fun c4880 => ?_, fun c4880 => ?_⟩
                    · first | have f4882 := (eqE (rfl : (jT r15.toNatClampNeg).toInt = (jT r15.toNatClampNeg).toInt) (show (1 : Int32).toInt = 1 from by decide)).mp c4880 | skip
                      have f4884 := tB r4597
                      refine sX2_valueFor hN hσ4876 (fun r4897 σ4885 hσ4885 kk4896 p4898 => ?_)
                      obtain ⟨k4886, k4887, k4888, k4889, k4890, k4891, k4892, k4893, k4894, k4895⟩ := kk4896
                      refine ⟨fun c4899 => ?_, fun c4899 => ?_⟩
                      · have f4900 := tB (σ4885.1 3 11)
                        first | have f4901 := (eqE (rfl : (σ4885.1 3 11).toInt = (σ4885.1 3 11).toInt) (show (0 : Int32).toInt = 0 from by decide)).mp c4899 | skip
                        have f4902 := tB r4897
                        refine sX1_setLocal hN hk1 hσ4885 (fun σ4903 hσ4903 kk4915 => ?_)
                        obtain ⟨k4904, k4905, k4906, k4907, k4908, k4909, k4910, k4911, k4912, k4913, k4914⟩ := kk4915
                        unfold fX2_doOrder_j174
                        exact hQ _ hσ4903 (⟨k4907.trans (k4888.trans ((kq (a := 9) (b := 9) eσ4876 (by omega)).trans (k4861.trans (k4588.trans (k6.trans ((kq (a := 9) (b := 9) eσ2 (fun q => absurd q.1 (by decide))))))))), k4908.trans (k4889.trans ((kq (a := 9) (b := 10) eσ4876 (by omega)).trans (k4862.trans (k4589.trans (k7.trans ((kq (a := 9) (b := 10) eσ2 (fun q => absurd q.1 (by decide))))))))), k4909.trans (k4890.trans ((kq (a := 6) (b := 5) eσ4876 (by omega)).trans (k4863.trans (k4590.trans (k8.trans ((kq (a := 6) (b := 5) eσ2 (fun q => absurd q.1 (by decide))))))))), k4910.trans (k4891.trans ((kq (a := 7) (b := 4) eσ4876 (by omega)).trans (k4864.trans (k4591.trans (k9.trans ((kq (a := 7) (b := 4) eσ2 (fun q => absurd q.1 (by decide))))))))), k4911.trans (k4892.trans ((kq (a := 2) (b := 4) eσ4876 (by omega)).trans (k4865.trans (k4592.trans (k10.trans ((kq (a := 2) (b := 4) eσ2 (fun q => absurd q.1 (by decide)))))))))⟩)
                      · have f4916 := tB (σ4885.1 3 11)
                        first | have f4917 := (noteqE (rfl : (σ4885.1 3 11).toInt = (σ4885.1 3 11).toInt) (show (0 : Int32).toInt = 0 from by decide)).mp c4899 | skip
                        unfold fX2_doOrder_j174
                        exact hQ _ hσ4885 (⟨k4888.trans ((kq (a := 9) (b := 9) eσ4876 (by omega)).trans (k4861.trans (k4588.trans (k6.trans ((kq (a := 9) (b := 9) eσ2 (fun q => absurd q.1 (by decide)))))))), k4889.trans ((kq (a := 9) (b := 10) eσ4876 (by omega)).trans (k4862.trans (k4589.trans (k7.trans ((kq (a := 9) (b := 10) eσ2 (fun q => absurd q.1 (by decide)))))))), k4890.trans ((kq (a := 6) (b := 5) eσ4876 (by omega)).trans (k4863.trans (k4590.trans (k8.trans ((kq (a := 6) (b := 5) eσ2 (fun q => absurd q.1 (by decide)))))))), k4891.trans ((kq (a := 7) (b := 4) eσ4876 (by omega)).trans (k4864.trans (k4591.trans (k9.trans ((kq (a := 7) (b := 4) eσ2 (fun q => absurd q.1 (by decide)))))))), k4892.trans ((kq (a := 2) (b := 4) eσ4876 (by omega)).trans (k4865.trans (k4592.trans (k10.trans ((kq (a := 2) (b := 4) eσ2 (fun q => absurd q.1 (by decide))))))))⟩)
                    · first | have f4919 := (noteqE (rfl : (jT r15.toNatClampNeg).toInt = (jT r15.toNatClampNeg).toInt) (show (1 : Int32).toInt = 1 from by decide)).mp c4880 | skip
                      have g4921 : vp_in r15 18 := inE (rfl : r15.toInt = r15.toInt) (by omega) (by omega)
                      refine ⟨g4921, ?_⟩
                      refine ⟨fun c4922 => ?_, fun c4922 => ?_⟩
                      · first | have f4924 := (eqE (rfl : (jT r15.toNatClampNeg).toInt = (jT r15.toNatClampNeg).toInt) (show (2 : Int32).toInt = 2 from by decide)).mp c4922 | skip
                        have f4926 := tB r4597
                        refine sX2_goesThere hN hσ4876 (fun r4940 p4941 => ?_)
                        refine ⟨fun c4942 => ?_, fun c4942 => ?_⟩
                        · have f4943 := tB r4940
                          first | have f4944 := (eqE (rfl : r4940.toInt = r4940.toInt) (show (0 : Int32).toInt = 0 from by decide)).mp c4942 | skip
                          exact hQ _ hσ4876 (⟨(kq (a := 9) (b := 9) eσ4876 (by omega)).trans (k4861.trans (k4588.trans (k6.trans ((kq (a := 9) (b := 9) eσ2 (fun q => absurd q.1 (by decide))))))), (kq (a := 9) (b := 10) eσ4876 (by omega)).trans (k4862.trans (k4589.trans (k7.trans ((kq (a := 9) (b := 10) eσ2 (fun q => absurd q.1 (by decide))))))), (kq (a := 6) (b := 5) eσ4876 (by omega)).trans (k4863.trans (k4590.trans (k8.trans ((kq (a := 6) (b := 5) eσ2 (fun q => absurd q.1 (by decide))))))), (kq (a := 7) (b := 4) eσ4876 (by omega)).trans (k4864.trans (k4591.trans (k9.trans ((kq (a := 7) (b := 4) eσ2 (fun q => absurd q.1 (by decide))))))), (kq (a := 2) (b := 4) eσ4876 (by omega)).trans (k4865.trans (k4592.trans (k10.trans ((kq (a := 2) (b := 4) eσ2 (fun q => absurd q.1 (by decide)))))))⟩)
                        · have f4945 := tB r4940
                          first | have f4946 := (noteqE (rfl : r4940.toInt = r4940.toInt) (show (0 : Int32).toInt = 0 from by decide)).mp c4942 | skip
                          intro v4947 ev4947
                          intro σ4948 eσ4948
                          have kb4949 := jobK_b hk1
                          have hσ4948 : K1 σ0 σ4948 := by rw [eσ4948]; exact hσ4876.u (rg_jobK hk1) (by omega) (by omega)
                          exact hQ _ hσ4948 (⟨(kq (a := 9) (b := 9) eσ4948 (by omega)).trans ((kq (a := 9) (b := 9) eσ4876 (by omega)).trans (k4861.trans (k4588.trans (k6.trans ((kq (a := 9) (b := 9) eσ2 (fun q => absurd q.1 (by decide)))))))), (kq (a := 9) (b := 10) eσ4948 (by omega)).trans ((kq (a := 9) (b := 10) eσ4876 (by omega)).trans (k4862.trans (k4589.trans (k7.trans ((kq (a := 9) (b := 10) eσ2 (fun q => absurd q.1 (by decide)))))))), (kq (a := 6) (b := 5) eσ4948 (by omega)).trans ((kq (a := 6) (b := 5) eσ4876 (by omega)).trans (k4863.trans (k4590.trans (k8.trans ((kq (a := 6) (b := 5) eσ2 (fun q => absurd q.1 (by decide)))))))), (kq (a := 7) (b := 4) eσ4948 (by omega)).trans ((kq (a := 7) (b := 4) eσ4876 (by omega)).trans (k4864.trans (k4591.trans (k9.trans ((kq (a := 7) (b := 4) eσ2 (fun q => absurd q.1 (by decide)))))))), (kq (a := 2) (b := 4) eσ4948 (by omega)).trans ((kq (a := 2) (b := 4) eσ4876 (by omega)).trans (k4865.trans (k4592.trans (k10.trans ((kq (a := 2) (b := 4) eσ2 (fun q => absurd q.1 (by decide))))))))⟩)
                      · first | have f4951 := (noteqE (rfl : (jT r15.toNatClampNeg).toInt = (jT r15.toNatClampNeg).toInt) (show (2 : Int32).toInt = 2 from by decide)).mp c4922 | skip
                        have f4953 := tB r4597
                        have f4955 := K1.g_3_7 hσ4876
                        have q4956 : σ4876.1 3 7 = σ4858.1 3 7 := by rw [eσ4876]; exact congrFun (u1_ne (by omega)) 7
                        have f4957 := congrArg Int32.toInt q4956
                        have f4958 := K1.g_3_7 hσ4858
                        have f4959 := congrArg Int32.toInt k4859
                        have f4960 := K1.g_3_7 hσ4585
                        have f4961 := congrArg Int32.toInt k4586
                        have f4962 := K1.g_3_7 hσ3
                        have f4963 := congrArg Int32.toInt k4
                        have f4964 := K1.g_3_7 hσ2
                        have q4965 : σ2.1 3 7 = σ.1 3 7 := by rw [eσ2, u1_at]; exact if_neg (by decide)
                        have f4966 := congrArg Int32.toInt q4965
                        have f4967 := K1.g_3_7 hσ
                        refine sX2_act hN hk1 ⟨by omega, by omega⟩ hσ4876 (fun σ4954 hσ4954 kk4973 => ?_)
                        obtain ⟨k4968, k4969, k4970, k4971, k4972⟩ := kk4973
                        exact hQ _ hσ4954 (⟨k4968.trans ((kq (a := 9) (b := 9) eσ4876 (by omega)).trans (k4861.trans (k4588.trans (k6.trans ((kq (a := 9) (b := 9) eσ2 (fun q => absurd q.1 (by decide)))))))), k4969.trans ((kq (a := 9) (b := 10) eσ4876 (by omega)).trans (k4862.trans (k4589.trans (k7.trans ((kq (a := 9) (b := 10) eσ2 (fun q => absurd q.1 (by decide)))))))), k4970.trans ((kq (a := 6) (b := 5) eσ4876 (by omega)).trans (k4863.trans (k4590.trans (k8.trans ((kq (a := 6) (b := 5) eσ2 (fun q => absurd q.1 (by decide)))))))), k4971.trans ((kq (a := 7) (b := 4) eσ4876 (by omega)).trans (k4864.trans (k4591.trans (k9.trans ((kq (a := 7) (b := 4) eσ2 (fun q => absurd q.1 (by decide)))))))), k4972.trans ((kq (a := 2) (b := 4) eσ4876 (by omega)).trans (k4865.trans (k4592.trans (k10.trans ((kq (a := 2) (b := 4) eσ2 (fun q => absurd q.1 (by decide))))))))⟩)
                  · have f4974 := tB (σ4858.1 3 11)
                    first | have f4975 := (noteqE (rfl : (σ4858.1 3 11).toInt = (σ4858.1 3 11).toInt) (show (0 : Int32).toInt = 0 from by decide)).mp c4872 | skip
                    exact hQ _ hσ4858 (⟨k4861.trans (k4588.trans (k6.trans ((kq (a := 9) (b := 9) eσ2 (fun q => absurd q.1 (by decide)))))), k4862.trans (k4589.trans (k7.trans ((kq (a := 9) (b := 10) eσ2 (fun q => absurd q.1 (by decide)))))), k4863.trans (k4590.trans (k8.trans ((kq (a := 6) (b := 5) eσ2 (fun q => absurd q.1 (by decide)))))), k4864.trans (k4591.trans (k9.trans ((kq (a := 7) (b := 4) eσ2 (fun q => absurd q.1 (by decide)))))), k4865.trans (k4592.trans (k10.trans ((kq (a := 2) (b := 4) eσ2 (fun q => absurd q.1 (by decide))))))⟩)
                · first | have f4977 := (noteqE (rfl : (jT r15.toNatClampNeg).toInt = (jT r15.toNatClampNeg).toInt) (show (2 : Int32).toInt = 2 from by decide)).mp c4855 | skip
                  unfold fX2_doOrder_j122
                  refine ⟨fun c4978 => ?_, fun c4978 => ?_⟩
                  · have f4979 := tB (σ4585.1 3 11)
                    first | have f4980 := (eqE (rfl : (σ4585.1 3 11).toInt = (σ4585.1 3 11).toInt) (show (0 : Int32).toInt = 0 from by decide)).mp c4978 | skip
                    intro v4981 ev4981
                    intro σ4982 eσ4982
                    have kb4983 := jobK_b hk1
                    have hσ4982 : K1 σ0 σ4982 := by rw [eσ4982]; exact hσ4585.u (rg_jobK hk1) (by omega) (by omega)
                    have g4985 : vp_in r15 18 := inE (rfl : r15.toInt = r15.toInt) (by omega) (by omega)
                    refine ⟨g4985, ?_⟩
                    refine ⟨fun c4986 => ?_, fun c4986 => ?_⟩
                    · first | have f4988 := (eqE (rfl : (jT r15.toNatClampNeg).toInt = (jT r15.toNatClampNeg).toInt) (show (1 : Int32).toInt = 1 from by decide)).mp c4986 | skip
                      have f4990 := tB r4597
                      refine sX2_valueFor hN hσ4982 (fun r5003 σ4991 hσ4991 kk5002 p5004 => ?_)
                      obtain ⟨k4992, k4993, k4994, k4995, k4996, k4997, k4998, k4999, k5000, k5001⟩ := kk5002
                      refine ⟨fun c5005 => ?_, fun c5005 => ?_⟩
                      · have f5006 := tB (σ4991.1 3 11)
                        first | have f5007 := (eqE (rfl : (σ4991.1 3 11).toInt = (σ4991.1 3 11).toInt) (show (0 : Int32).toInt = 0 from by decide)).mp c5005 | skip
                        have f5008 := tB r5003
                        refine sX1_setLocal hN hk1 hσ4991 (fun σ5009 hσ5009 kk5021 => ?_)
                        obtain ⟨k5010, k5011, k5012, k5013, k5014, k5015, k5016, k5017, k5018, k5019, k5020⟩ := kk5021
                        unfold fX2_doOrder_j174
                        exact hQ _ hσ5009 (⟨k5013.trans (k4994.trans ((kq (a := 9) (b := 9) eσ4982 (by omega)).trans (k4588.trans (k6.trans ((kq (a := 9) (b := 9) eσ2 (fun q => absurd q.1 (by decide)))))))), k5014.trans (k4995.trans ((kq (a := 9) (b := 10) eσ4982 (by omega)).trans (k4589.trans (k7.trans ((kq (a := 9) (b := 10) eσ2 (fun q => absurd q.1 (by decide)))))))), k5015.trans (k4996.trans ((kq (a := 6) (b := 5) eσ4982 (by omega)).trans (k4590.trans (k8.trans ((kq (a := 6) (b := 5) eσ2 (fun q => absurd q.1 (by decide)))))))), k5016.trans (k4997.trans ((kq (a := 7) (b := 4) eσ4982 (by omega)).trans (k4591.trans (k9.trans ((kq (a := 7) (b := 4) eσ2 (fun q => absurd q.1 (by decide)))))))), k5017.trans (k4998.trans ((kq (a := 2) (b := 4) eσ4982 (by omega)).trans (k4592.trans (k10.trans ((kq (a := 2) (b := 4) eσ2 (fun q => absurd q.1 (by decide))))))))⟩)
                      · have f5022 := tB (σ4991.1 3 11)
                        first | have f5023 := (noteqE (rfl : (σ4991.1 3 11).toInt = (σ4991.1 3 11).toInt) (show (0 : Int32).toInt = 0 from by decide)).mp c5005 | skip
                        unfold fX2_doOrder_j174
                        exact hQ _ hσ4991 (⟨k4994.trans ((kq (a := 9) (b := 9) eσ4982 (by omega)).trans (k4588.trans (k6.trans ((kq (a := 9) (b := 9) eσ2 (fun q => absurd q.1 (by decide))))))), k4995.trans ((kq (a := 9) (b := 10) eσ4982 (by omega)).trans (k4589.trans (k7.trans ((kq (a := 9) (b := 10) eσ2 (fun q => absurd q.1 (by decide))))))), k4996.trans ((kq (a := 6) (b := 5) eσ4982 (by omega)).trans (k4590.trans (k8.trans ((kq (a := 6) (b := 5) eσ2 (fun q => absurd q.1 (by decide))))))), k4997.trans ((kq (a := 7) (b := 4) eσ4982 (by omega)).trans (k4591.trans (k9.trans ((kq (a := 7) (b := 4) eσ2 (fun q => absurd q.1 (by decide))))))), k4998.trans ((kq (a := 2) (b := 4) eσ4982 (by omega)).trans (k4592.trans (k10.trans ((kq (a := 2) (b := 4) eσ2 (fun q => absurd q.1 (by decide)))))))⟩)
                    · first | have f5025 := (noteqE (rfl : (jT r15.toNatClampNeg).toInt = (jT r15.toNatClampNeg).toInt) (show (1 : Int32).toInt = 1 from by decide)).mp c4986 | skip
                      have g5027 : vp_in r15 18 := inE (rfl : r15.toInt = r15.toInt) (by omega) (by omega)
                      refine ⟨g5027, ?_⟩
                      refine ⟨fun c5028 => ?_, fun c5028 => ?_⟩
                      · first | have f5030 := (eqE (rfl : (jT r15.toNatClampNeg).toInt = (jT r15.toNatClampNeg).toInt) (show (2 : Int32).toInt = 2 from by decide)).mp c5028 | skip
                        have f5032 := tB r4597
                        refine sX2_goesThere hN hσ4982 (fun r5046 p5047 => ?_)
                        refine ⟨fun c5048 => ?_, fun c5048 => ?_⟩
                        · have f5049 := tB r5046
                          first | have f5050 := (eqE (rfl : r5046.toInt = r5046.toInt) (show (0 : Int32).toInt = 0 from by decide)).mp c5048 | skip
                          exact hQ _ hσ4982 (⟨(kq (a := 9) (b := 9) eσ4982 (by omega)).trans (k4588.trans (k6.trans ((kq (a := 9) (b := 9) eσ2 (fun q => absurd q.1 (by decide)))))), (kq (a := 9) (b := 10) eσ4982 (by omega)).trans (k4589.trans (k7.trans ((kq (a := 9) (b := 10) eσ2 (fun q => absurd q.1 (by decide)))))), (kq (a := 6) (b := 5) eσ4982 (by omega)).trans (k4590.trans (k8.trans ((kq (a := 6) (b := 5) eσ2 (fun q => absurd q.1 (by decide)))))), (kq (a := 7) (b := 4) eσ4982 (by omega)).trans (k4591.trans (k9.trans ((kq (a := 7) (b := 4) eσ2 (fun q => absurd q.1 (by decide)))))), (kq (a := 2) (b := 4) eσ4982 (by omega)).trans (k4592.trans (k10.trans ((kq (a := 2) (b := 4) eσ2 (fun q => absurd q.1 (by decide))))))⟩)
                        · have f5051 := tB r5046
                          first | have f5052 := (noteqE (rfl : r5046.toInt = r5046.toInt) (show (0 : Int32).toInt = 0 from by decide)).mp c5048 | skip
                          intro v5053 ev5053
                          intro σ5054 eσ5054
                          have kb5055 := jobK_b hk1
                          have hσ5054 : K1 σ0 σ5054 := by rw [eσ5054]; exact hσ4982.u (rg_jobK hk1) (by omega) (by omega)
                          exact hQ _ hσ5054 (⟨(kq (a := 9) (b := 9) eσ5054 (by omega)).trans ((kq (a := 9) (b := 9) eσ4982 (by omega)).trans (k4588.trans (k6.trans ((kq (a := 9) (b := 9) eσ2 (fun q => absurd q.1 (by decide))))))), (kq (a := 9) (b := 10) eσ5054 (by omega)).trans ((kq (a := 9) (b := 10) eσ4982 (by omega)).trans (k4589.trans (k7.trans ((kq (a := 9) (b := 10) eσ2 (fun q => absurd q.1 (by decide))))))), (kq (a := 6) (b := 5) eσ5054 (by omega)).trans ((kq (a := 6) (b := 5) eσ4982 (by omega)).trans (k4590.trans (k8.trans ((kq (a := 6) (b := 5) eσ2 (fun q => absurd q.1 (by decide))))))), (kq (a := 7) (b := 4) eσ5054 (by omega)).trans ((kq (a := 7) (b := 4) eσ4982 (by omega)).trans (k4591.trans (k9.trans ((kq (a := 7) (b := 4) eσ2 (fun q => absurd q.1 (by decide))))))), (kq (a := 2) (b := 4) eσ5054 (by omega)).trans ((kq (a := 2) (b := 4) eσ4982 (by omega)).trans (k4592.trans (k10.trans ((kq (a := 2) (b := 4) eσ2 (fun q => absurd q.1 (by decide)))))))⟩)
                      · first | have f5057 := (noteqE (rfl : (jT r15.toNatClampNeg).toInt = (jT r15.toNatClampNeg).toInt) (show (2 : Int32).toInt = 2 from by decide)).mp c5028 | skip
                        have f5059 := tB r4597
                        have f5061 := K1.g_3_7 hσ4982
                        have q5062 : σ4982.1 3 7 = σ4585.1 3 7 := by rw [eσ4982]; exact congrFun (u1_ne (by omega)) 7
                        have f5063 := congrArg Int32.toInt q5062
                        have f5064 := K1.g_3_7 hσ4585
                        have f5065 := congrArg Int32.toInt k4586
                        have f5066 := K1.g_3_7 hσ3
                        have f5067 := congrArg Int32.toInt k4
                        have f5068 := K1.g_3_7 hσ2
                        have q5069 : σ2.1 3 7 = σ.1 3 7 := by rw [eσ2, u1_at]; exact if_neg (by decide)
                        have f5070 := congrArg Int32.toInt q5069
                        have f5071 := K1.g_3_7 hσ
                        refine sX2_act hN hk1 ⟨by omega, by omega⟩ hσ4982 (fun σ5060 hσ5060 kk5077 => ?_)
                        obtain ⟨k5072, k5073, k5074, k5075, k5076⟩ := kk5077
                        exact hQ _ hσ5060 (⟨k5072.trans ((kq (a := 9) (b := 9) eσ4982 (by omega)).trans (k4588.trans (k6.trans ((kq (a := 9) (b := 9) eσ2 (fun q => absurd q.1 (by decide))))))), k5073.trans ((kq (a := 9) (b := 10) eσ4982 (by omega)).trans (k4589.trans (k7.trans ((kq (a := 9) (b := 10) eσ2 (fun q => absurd q.1 (by decide))))))), k5074.trans ((kq (a := 6) (b := 5) eσ4982 (by omega)).trans (k4590.trans (k8.trans ((kq (a := 6) (b := 5) eσ2 (fun q => absurd q.1 (by decide))))))), k5075.trans ((kq (a := 7) (b := 4) eσ4982 (by omega)).trans (k4591.trans (k9.trans ((kq (a := 7) (b := 4) eσ2 (fun q => absurd q.1 (by decide))))))), k5076.trans ((kq (a := 2) (b := 4) eσ4982 (by omega)).trans (k4592.trans (k10.trans ((kq (a := 2) (b := 4) eσ2 (fun q => absurd q.1 (by decide)))))))⟩)
                  · have f5078 := tB (σ4585.1 3 11)
                    first | have f5079 := (noteqE (rfl : (σ4585.1 3 11).toInt = (σ4585.1 3 11).toInt) (show (0 : Int32).toInt = 0 from by decide)).mp c4978 | skip
                    exact hQ _ hσ4585 (⟨k4588.trans (k6.trans ((kq (a := 9) (b := 9) eσ2 (fun q => absurd q.1 (by decide))))), k4589.trans (k7.trans ((kq (a := 9) (b := 10) eσ2 (fun q => absurd q.1 (by decide))))), k4590.trans (k8.trans ((kq (a := 6) (b := 5) eσ2 (fun q => absurd q.1 (by decide))))), k4591.trans (k9.trans ((kq (a := 7) (b := 4) eσ2 (fun q => absurd q.1 (by decide))))), k4592.trans (k10.trans ((kq (a := 2) (b := 4) eσ2 (fun q => absurd q.1 (by decide)))))⟩)
          · have f5080 := tB (jV r15.toNatClampNeg)
            first | have f5081 := (notleE (rfl : (jV r15.toNatClampNeg).toInt = (jV r15.toNatClampNeg).toInt) (show (0 : Int32).toInt = 0 from by decide)).mp c4114 | skip
            refine sX2_nextValue hN hk1 hσ3 (fun r5094 σ5082 hσ5082 kk5093 p5095 => ?_)
            obtain ⟨k5083, k5084, k5085, k5086, k5087, k5088, k5089, k5090, k5091, k5092⟩ := kk5093
            unfold fX2_doOrder_j62
            have g5097 : vp_in r15 18 := inE (rfl : r15.toInt = r15.toInt) (by omega) (by omega)
            refine ⟨g5097, ?_⟩
            refine ⟨fun c5098 => ?_, fun c5098 => ?_⟩
            · first | have f5100 := (leE (rfl : (jV r15.toNatClampNeg).toInt = (jV r15.toNatClampNeg).toInt) (show (1 : Int32).toInt = 1 from by decide)).mp c5098 | skip
              unfold fX2_doOrder_j81
              have g5102 : vp_in r15 18 := inE (rfl : r15.toInt = r15.toInt) (by omega) (by omega)
              refine ⟨g5102, ?_⟩
              refine ⟨fun c5103 => ?_, fun c5103 => ?_⟩
              · have f5104 := tB (jT r15.toNatClampNeg)
                first | have f5105 := (eqE (rfl : (jT r15.toNatClampNeg).toInt = (jT r15.toNatClampNeg).toInt) (show (1 : Int32).toInt = 1 from by decide)).mp c5103 | skip
                refine sX2_nextTarget hN hk1 hσ5082 (fun r5118 σ5106 hσ5106 kk5117 p5119 => ?_)
                obtain ⟨k5107, k5108, k5109, k5110, k5111, k5112, k5113, k5114, k5115, k5116⟩ := kk5117
                unfold fX2_doOrder_j103
                have g5121 : vp_in r15 18 := inE (rfl : r15.toInt = r15.toInt) (by omega) (by omega)
                refine ⟨g5121, ?_⟩
                refine ⟨fun c5122 => ?_, fun c5122 => ?_⟩
                · first | have f5124 := (eqE (rfl : (jT r15.toNatClampNeg).toInt = (jT r15.toNatClampNeg).toInt) (show (2 : Int32).toInt = 2 from by decide)).mp c5122 | skip
                  refine sX2_nextDistance hN hσ5106 (fun r5137 σ5125 hσ5125 kk5136 p5138 => ?_)
                  obtain ⟨k5126, k5127, k5128, k5129, k5130, k5131, k5132, k5133, k5134, k5135⟩ := kk5136
                  unfold fX2_doOrder_j122
                  refine ⟨fun c5139 => ?_, fun c5139 => ?_⟩
                  · have f5140 := tB (σ5125.1 3 11)
                    first | have f5141 := (eqE (rfl : (σ5125.1 3 11).toInt = (σ5125.1 3 11).toInt) (show (0 : Int32).toInt = 0 from by decide)).mp c5139 | skip
                    intro v5142 ev5142
                    intro σ5143 eσ5143
                    have kb5144 := jobK_b hk1
                    have hσ5143 : K1 σ0 σ5143 := by rw [eσ5143]; exact hσ5125.u (rg_jobK hk1) (by omega) (by omega)
                    have g5146 : vp_in r15 18 := inE (rfl : r15.toInt = r15.toInt) (by omega) (by omega)
                    refine ⟨g5146, ?_⟩
                    refine ⟨fun c5147 => ?_, fun c5147 => ?_⟩
                    · first | have f5149 := (eqE (rfl : (jT r15.toNatClampNeg).toInt = (jT r15.toNatClampNeg).toInt) (show (1 : Int32).toInt = 1 from by decide)).mp c5147 | skip
                      have f5151 := tB r5094
                      refine sX2_valueFor hN hσ5143 (fun r5164 σ5152 hσ5152 kk5163 p5165 => ?_)
                      obtain ⟨k5153, k5154, k5155, k5156, k5157, k5158, k5159, k5160, k5161, k5162⟩ := kk5163
                      refine ⟨fun c5166 => ?_, fun c5166 => ?_⟩
                      · have f5167 := tB (σ5152.1 3 11)
                        first | have f5168 := (eqE (rfl : (σ5152.1 3 11).toInt = (σ5152.1 3 11).toInt) (show (0 : Int32).toInt = 0 from by decide)).mp c5166 | skip
                        have f5169 := tB r5118
                        have f5170 := tB r5164
                        refine sX1_setLocal hN hk1 hσ5152 (fun σ5171 hσ5171 kk5183 => ?_)
                        obtain ⟨k5172, k5173, k5174, k5175, k5176, k5177, k5178, k5179, k5180, k5181, k5182⟩ := kk5183
                        unfold fX2_doOrder_j174
                        exact hQ _ hσ5171 (⟨k5175.trans (k5155.trans ((kq (a := 9) (b := 9) eσ5143 (by omega)).trans (k5128.trans (k5109.trans (k5085.trans (k6.trans ((kq (a := 9) (b := 9) eσ2 (fun q => absurd q.1 (by decide)))))))))), k5176.trans (k5156.trans ((kq (a := 9) (b := 10) eσ5143 (by omega)).trans (k5129.trans (k5110.trans (k5086.trans (k7.trans ((kq (a := 9) (b := 10) eσ2 (fun q => absurd q.1 (by decide)))))))))), k5177.trans (k5157.trans ((kq (a := 6) (b := 5) eσ5143 (by omega)).trans (k5130.trans (k5111.trans (k5087.trans (k8.trans ((kq (a := 6) (b := 5) eσ2 (fun q => absurd q.1 (by decide)))))))))), k5178.trans (k5158.trans ((kq (a := 7) (b := 4) eσ5143 (by omega)).trans (k5131.trans (k5112.trans (k5088.trans (k9.trans ((kq (a := 7) (b := 4) eσ2 (fun q => absurd q.1 (by decide)))))))))), k5179.trans (k5159.trans ((kq (a := 2) (b := 4) eσ5143 (by omega)).trans (k5132.trans (k5113.trans (k5089.trans (k10.trans ((kq (a := 2) (b := 4) eσ2 (fun q => absurd q.1 (by decide))))))))))⟩)
                      · have f5184 := tB (σ5152.1 3 11)
                        first | have f5185 := (noteqE (rfl : (σ5152.1 3 11).toInt = (σ5152.1 3 11).toInt) (show (0 : Int32).toInt = 0 from by decide)).mp c5166 | skip
                        unfold fX2_doOrder_j174
                        exact hQ _ hσ5152 (⟨k5155.trans ((kq (a := 9) (b := 9) eσ5143 (by omega)).trans (k5128.trans (k5109.trans (k5085.trans (k6.trans ((kq (a := 9) (b := 9) eσ2 (fun q => absurd q.1 (by decide))))))))), k5156.trans ((kq (a := 9) (b := 10) eσ5143 (by omega)).trans (k5129.trans (k5110.trans (k5086.trans (k7.trans ((kq (a := 9) (b := 10) eσ2 (fun q => absurd q.1 (by decide))))))))), k5157.trans ((kq (a := 6) (b := 5) eσ5143 (by omega)).trans (k5130.trans (k5111.trans (k5087.trans (k8.trans ((kq (a := 6) (b := 5) eσ2 (fun q => absurd q.1 (by decide))))))))), k5158.trans ((kq (a := 7) (b := 4) eσ5143 (by omega)).trans (k5131.trans (k5112.trans (k5088.trans (k9.trans ((kq (a := 7) (b := 4) eσ2 (fun q => absurd q.1 (by decide))))))))), k5159.trans ((kq (a := 2) (b := 4) eσ5143 (by omega)).trans (k5132.trans (k5113.trans (k5089.trans (k10.trans ((kq (a := 2) (b := 4) eσ2 (fun q => absurd q.1 (by decide)))))))))⟩)
                    · first | have f5187 := (noteqE (rfl : (jT r15.toNatClampNeg).toInt = (jT r15.toNatClampNeg).toInt) (show (1 : Int32).toInt = 1 from by decide)).mp c5147 | skip
                      have g5189 : vp_in r15 18 := inE (rfl : r15.toInt = r15.toInt) (by omega) (by omega)
                      refine ⟨g5189, ?_⟩
                      refine ⟨fun c5190 => ?_, fun c5190 => ?_⟩
                      · first | have f5192 := (eqE (rfl : (jT r15.toNatClampNeg).toInt = (jT r15.toNatClampNeg).toInt) (show (2 : Int32).toInt = 2 from by decide)).mp c5190 | skip
                        have f5194 := tB r5094
                        refine sX2_goesThere hN hσ5143 (fun r5208 p5209 => ?_)
                        refine ⟨fun c5210 => ?_, fun c5210 => ?_⟩
                        · have f5211 := tB r5208
                          first | have f5212 := (eqE (rfl : r5208.toInt = r5208.toInt) (show (0 : Int32).toInt = 0 from by decide)).mp c5210 | skip
                          exact hQ _ hσ5143 (⟨(kq (a := 9) (b := 9) eσ5143 (by omega)).trans (k5128.trans (k5109.trans (k5085.trans (k6.trans ((kq (a := 9) (b := 9) eσ2 (fun q => absurd q.1 (by decide)))))))), (kq (a := 9) (b := 10) eσ5143 (by omega)).trans (k5129.trans (k5110.trans (k5086.trans (k7.trans ((kq (a := 9) (b := 10) eσ2 (fun q => absurd q.1 (by decide)))))))), (kq (a := 6) (b := 5) eσ5143 (by omega)).trans (k5130.trans (k5111.trans (k5087.trans (k8.trans ((kq (a := 6) (b := 5) eσ2 (fun q => absurd q.1 (by decide)))))))), (kq (a := 7) (b := 4) eσ5143 (by omega)).trans (k5131.trans (k5112.trans (k5088.trans (k9.trans ((kq (a := 7) (b := 4) eσ2 (fun q => absurd q.1 (by decide)))))))), (kq (a := 2) (b := 4) eσ5143 (by omega)).trans (k5132.trans (k5113.trans (k5089.trans (k10.trans ((kq (a := 2) (b := 4) eσ2 (fun q => absurd q.1 (by decide))))))))⟩)
                        · have f5213 := tB r5208
                          first | have f5214 := (noteqE (rfl : r5208.toInt = r5208.toInt) (show (0 : Int32).toInt = 0 from by decide)).mp c5210 | skip
                          intro v5215 ev5215
                          intro σ5216 eσ5216
                          have kb5217 := jobK_b hk1
                          have hσ5216 : K1 σ0 σ5216 := by rw [eσ5216]; exact hσ5143.u (rg_jobK hk1) (by omega) (by omega)
                          exact hQ _ hσ5216 (⟨(kq (a := 9) (b := 9) eσ5216 (by omega)).trans ((kq (a := 9) (b := 9) eσ5143 (by omega)).trans (k5128.trans (k5109.trans (k5085.trans (k6.trans ((kq (a := 9) (b := 9) eσ2 (fun q => absurd q.1 (by decide))))))))), (kq (a := 9) (b := 10) eσ5216 (by omega)).trans ((kq (a := 9) (b := 10) eσ5143 (by omega)).trans (k5129.trans (k5110.trans (k5086.trans (k7.trans ((kq (a := 9) (b := 10) eσ2 (fun q => absurd q.1 (by decide))))))))), (kq (a := 6) (b := 5) eσ5216 (by omega)).trans ((kq (a := 6) (b := 5) eσ5143 (by omega)).trans (k5130.trans (k5111.trans (k5087.trans (k8.trans ((kq (a := 6) (b := 5) eσ2 (fun q => absurd q.1 (by decide))))))))), (kq (a := 7) (b := 4) eσ5216 (by omega)).trans ((kq (a := 7) (b := 4) eσ5143 (by omega)).trans (k5131.trans (k5112.trans (k5088.trans (k9.trans ((kq (a := 7) (b := 4) eσ2 (fun q => absurd q.1 (by decide))))))))), (kq (a := 2) (b := 4) eσ5216 (by omega)).trans ((kq (a := 2) (b := 4) eσ5143 (by omega)).trans (k5132.trans (k5113.trans (k5089.trans (k10.trans ((kq (a := 2) (b := 4) eσ2 (fun q => absurd q.1 (by decide)))))))))⟩)
                      · first | have f5219 := (noteqE (rfl : (jT r15.toNatClampNeg).toInt = (jT r15.toNatClampNeg).toInt) (show (2 : Int32).toInt = 2 from by decide)).mp c5190 | skip
                        have f5221 := tB r5094
                        have f5223 := K1.g_3_7 hσ5143
                        have q5224 : σ5143.1 3 7 = σ5125.1 3 7 := by rw [eσ5143]; exact congrFun (u1_ne (by omega)) 7
                        have f5225 := congrArg Int32.toInt q5224
                        have f5226 := K1.g_3_7 hσ5125
                        have f5227 := congrArg Int32.toInt k5126
                        have f5228 := K1.g_3_7 hσ5106
                        have f5229 := congrArg Int32.toInt k5107
                        have f5230 := K1.g_3_7 hσ5082
                        have f5231 := congrArg Int32.toInt k5083
                        have f5232 := K1.g_3_7 hσ3
                        have f5233 := congrArg Int32.toInt k4
                        have f5234 := K1.g_3_7 hσ2
                        have q5235 : σ2.1 3 7 = σ.1 3 7 := by rw [eσ2, u1_at]; exact if_neg (by decide)
                        have f5236 := congrArg Int32.toInt q5235
                        have f5237 := K1.g_3_7 hσ
                        refine sX2_act hN hk1 ⟨by omega, by omega⟩ hσ5143 (fun σ5222 hσ5222 kk5243 => ?_)
                        obtain ⟨k5238, k5239, k5240, k5241, k5242⟩ := kk5243
                        exact hQ _ hσ5222 (⟨k5238.trans ((kq (a := 9) (b := 9) eσ5143 (by omega)).trans (k5128.trans (k5109.trans (k5085.trans (k6.trans ((kq (a := 9) (b := 9) eσ2 (fun q => absurd q.1 (by decide))))))))), k5239.trans ((kq (a := 9) (b := 10) eσ5143 (by omega)).trans (k5129.trans (k5110.trans (k5086.trans (k7.trans ((kq (a := 9) (b := 10) eσ2 (fun q => absurd q.1 (by decide))))))))), k5240.trans ((kq (a := 6) (b := 5) eσ5143 (by omega)).trans (k5130.trans (k5111.trans (k5087.trans (k8.trans ((kq (a := 6) (b := 5) eσ2 (fun q => absurd q.1 (by decide))))))))), k5241.trans ((kq (a := 7) (b := 4) eσ5143 (by omega)).trans (k5131.trans (k5112.trans (k5088.trans (k9.trans ((kq (a := 7) (b := 4) eσ2 (fun q => absurd q.1 (by decide))))))))), k5242.trans ((kq (a := 2) (b := 4) eσ5143 (by omega)).trans (k5132.trans (k5113.trans (k5089.trans (k10.trans ((kq (a := 2) (b := 4) eσ2 (fun q => absurd q.1 (by decide)))))))))⟩)
                  · have f5244 := tB (σ5125.1 3 11)
                    first | have f5245 := (noteqE (rfl : (σ5125.1 3 11).toInt = (σ5125.1 3 11).toInt) (show (0 : Int32).toInt = 0 from by decide)).mp c5139 | skip
                    exact hQ _ hσ5125 (⟨k5128.trans (k5109.trans (k5085.trans (k6.trans ((kq (a := 9) (b := 9) eσ2 (fun q => absurd q.1 (by decide))))))), k5129.trans (k5110.trans (k5086.trans (k7.trans ((kq (a := 9) (b := 10) eσ2 (fun q => absurd q.1 (by decide))))))), k5130.trans (k5111.trans (k5087.trans (k8.trans ((kq (a := 6) (b := 5) eσ2 (fun q => absurd q.1 (by decide))))))), k5131.trans (k5112.trans (k5088.trans (k9.trans ((kq (a := 7) (b := 4) eσ2 (fun q => absurd q.1 (by decide))))))), k5132.trans (k5113.trans (k5089.trans (k10.trans ((kq (a := 2) (b := 4) eσ2 (fun q => absurd q.1 (by decide)))))))⟩)
                · first | have f5247 := (noteqE (rfl : (jT r15.toNatClampNeg).toInt = (jT r15.toNatClampNeg).toInt) (show (2 : Int32).toInt = 2 from by decide)).mp c5122 | skip
                  unfold fX2_doOrder_j122
                  refine ⟨fun c5248 => ?_, fun c5248 => ?_⟩
                  · have f5249 := tB (σ5106.1 3 11)
                    first | have f5250 := (eqE (rfl : (σ5106.1 3 11).toInt = (σ5106.1 3 11).toInt) (show (0 : Int32).toInt = 0 from by decide)).mp c5248 | skip
                    intro v5251 ev5251
                    intro σ5252 eσ5252
                    have kb5253 := jobK_b hk1
                    have hσ5252 : K1 σ0 σ5252 := by rw [eσ5252]; exact hσ5106.u (rg_jobK hk1) (by omega) (by omega)
                    have g5255 : vp_in r15 18 := inE (rfl : r15.toInt = r15.toInt) (by omega) (by omega)
                    refine ⟨g5255, ?_⟩
                    refine ⟨fun c5256 => ?_, fun c5256 => ?_⟩
                    · first | have f5258 := (eqE (rfl : (jT r15.toNatClampNeg).toInt = (jT r15.toNatClampNeg).toInt) (show (1 : Int32).toInt = 1 from by decide)).mp c5256 | skip
                      have f5260 := tB r5094
                      refine sX2_valueFor hN hσ5252 (fun r5273 σ5261 hσ5261 kk5272 p5274 => ?_)
                      obtain ⟨k5262, k5263, k5264, k5265, k5266, k5267, k5268, k5269, k5270, k5271⟩ := kk5272
                      refine ⟨fun c5275 => ?_, fun c5275 => ?_⟩
                      · have f5276 := tB (σ5261.1 3 11)
                        first | have f5277 := (eqE (rfl : (σ5261.1 3 11).toInt = (σ5261.1 3 11).toInt) (show (0 : Int32).toInt = 0 from by decide)).mp c5275 | skip
                        have f5278 := tB r5118
                        have f5279 := tB r5273
                        refine sX1_setLocal hN hk1 hσ5261 (fun σ5280 hσ5280 kk5292 => ?_)
                        obtain ⟨k5281, k5282, k5283, k5284, k5285, k5286, k5287, k5288, k5289, k5290, k5291⟩ := kk5292
                        unfold fX2_doOrder_j174
                        exact hQ _ hσ5280 (⟨k5284.trans (k5264.trans ((kq (a := 9) (b := 9) eσ5252 (by omega)).trans (k5109.trans (k5085.trans (k6.trans ((kq (a := 9) (b := 9) eσ2 (fun q => absurd q.1 (by decide))))))))), k5285.trans (k5265.trans ((kq (a := 9) (b := 10) eσ5252 (by omega)).trans (k5110.trans (k5086.trans (k7.trans ((kq (a := 9) (b := 10) eσ2 (fun q => absurd q.1 (by decide))))))))), k5286.trans (k5266.trans ((kq (a := 6) (b := 5) eσ5252 (by omega)).trans (k5111.trans (k5087.trans (k8.trans ((kq (a := 6) (b := 5) eσ2 (fun q => absurd q.1 (by decide))))))))), k5287.trans (k5267.trans ((kq (a := 7) (b := 4) eσ5252 (by omega)).trans (k5112.trans (k5088.trans (k9.trans ((kq (a := 7) (b := 4) eσ2 (fun q => absurd q.1 (by decide))))))))), k5288.trans (k5268.trans ((kq (a := 2) (b := 4) eσ5252 (by omega)).trans (k5113.trans (k5089.trans (k10.trans ((kq (a := 2) (b := 4) eσ2 (fun q => absurd q.1 (by decide)))))))))⟩)
                      · have f5293 := tB (σ5261.1 3 11)
                        first | have f5294 := (noteqE (rfl : (σ5261.1 3 11).toInt = (σ5261.1 3 11).toInt) (show (0 : Int32).toInt = 0 from by decide)).mp c5275 | skip
                        unfold fX2_doOrder_j174
                        exact hQ _ hσ5261 (⟨k5264.trans ((kq (a := 9) (b := 9) eσ5252 (by omega)).trans (k5109.trans (k5085.trans (k6.trans ((kq (a := 9) (b := 9) eσ2 (fun q => absurd q.1 (by decide)))))))), k5265.trans ((kq (a := 9) (b := 10) eσ5252 (by omega)).trans (k5110.trans (k5086.trans (k7.trans ((kq (a := 9) (b := 10) eσ2 (fun q => absurd q.1 (by decide)))))))), k5266.trans ((kq (a := 6) (b := 5) eσ5252 (by omega)).trans (k5111.trans (k5087.trans (k8.trans ((kq (a := 6) (b := 5) eσ2 (fun q => absurd q.1 (by decide)))))))), k5267.trans ((kq (a := 7) (b := 4) eσ5252 (by omega)).trans (k5112.trans (k5088.trans (k9.trans ((kq (a := 7) (b := 4) eσ2 (fun q => absurd q.1 (by decide)))))))), k5268.trans ((kq (a := 2) (b := 4) eσ5252 (by omega)).trans (k5113.trans (k5089.trans (k10.trans ((kq (a := 2) (b := 4) eσ2 (fun q => absurd q.1 (by decide))))))))⟩)
                    · first | have f5296 := (noteqE (rfl : (jT r15.toNatClampNeg).toInt = (jT r15.toNatClampNeg).toInt) (show (1 : Int32).toInt = 1 from by decide)).mp c5256 | skip
                      have g5298 : vp_in r15 18 := inE (rfl : r15.toInt = r15.toInt) (by omega) (by omega)
                      refine ⟨g5298, ?_⟩
                      refine ⟨fun c5299 => ?_, fun c5299 => ?_⟩
                      · first | have f5301 := (eqE (rfl : (jT r15.toNatClampNeg).toInt = (jT r15.toNatClampNeg).toInt) (show (2 : Int32).toInt = 2 from by decide)).mp c5299 | skip
                        have f5303 := tB r5094
                        refine sX2_goesThere hN hσ5252 (fun r5317 p5318 => ?_)
                        refine ⟨fun c5319 => ?_, fun c5319 => ?_⟩
                        · have f5320 := tB r5317
                          first | have f5321 := (eqE (rfl : r5317.toInt = r5317.toInt) (show (0 : Int32).toInt = 0 from by decide)).mp c5319 | skip
                          exact hQ _ hσ5252 (⟨(kq (a := 9) (b := 9) eσ5252 (by omega)).trans (k5109.trans (k5085.trans (k6.trans ((kq (a := 9) (b := 9) eσ2 (fun q => absurd q.1 (by decide))))))), (kq (a := 9) (b := 10) eσ5252 (by omega)).trans (k5110.trans (k5086.trans (k7.trans ((kq (a := 9) (b := 10) eσ2 (fun q => absurd q.1 (by decide))))))), (kq (a := 6) (b := 5) eσ5252 (by omega)).trans (k5111.trans (k5087.trans (k8.trans ((kq (a := 6) (b := 5) eσ2 (fun q => absurd q.1 (by decide))))))), (kq (a := 7) (b := 4) eσ5252 (by omega)).trans (k5112.trans (k5088.trans (k9.trans ((kq (a := 7) (b := 4) eσ2 (fun q => absurd q.1 (by decide))))))), (kq (a := 2) (b := 4) eσ5252 (by omega)).trans (k5113.trans (k5089.trans (k10.trans ((kq (a := 2) (b := 4) eσ2 (fun q => absurd q.1 (by decide)))))))⟩)
                        · have f5322 := tB r5317
                          first | have f5323 := (noteqE (rfl : r5317.toInt = r5317.toInt) (show (0 : Int32).toInt = 0 from by decide)).mp c5319 | skip
                          intro v5324 ev5324
                          intro σ5325 eσ5325
                          have kb5326 := jobK_b hk1
                          have hσ5325 : K1 σ0 σ5325 := by rw [eσ5325]; exact hσ5252.u (rg_jobK hk1) (by omega) (by omega)
                          exact hQ _ hσ5325 (⟨(kq (a := 9) (b := 9) eσ5325 (by omega)).trans ((kq (a := 9) (b := 9) eσ5252 (by omega)).trans (k5109.trans (k5085.trans (k6.trans ((kq (a := 9) (b := 9) eσ2 (fun q => absurd q.1 (by decide)))))))), (kq (a := 9) (b := 10) eσ5325 (by omega)).trans ((kq (a := 9) (b := 10) eσ5252 (by omega)).trans (k5110.trans (k5086.trans (k7.trans ((kq (a := 9) (b := 10) eσ2 (fun q => absurd q.1 (by decide)))))))), (kq (a := 6) (b := 5) eσ5325 (by omega)).trans ((kq (a := 6) (b := 5) eσ5252 (by omega)).trans (k5111.trans (k5087.trans (k8.trans ((kq (a := 6) (b := 5) eσ2 (fun q => absurd q.1 (by decide)))))))), (kq (a := 7) (b := 4) eσ5325 (by omega)).trans ((kq (a := 7) (b := 4) eσ5252 (by omega)).trans (k5112.trans (k5088.trans (k9.trans ((kq (a := 7) (b := 4) eσ2 (fun q => absurd q.1 (by decide)))))))), (kq (a := 2) (b := 4) eσ5325 (by omega)).trans ((kq (a := 2) (b := 4) eσ5252 (by omega)).trans (k5113.trans (k5089.trans (k10.trans ((kq (a := 2) (b := 4) eσ2 (fun q => absurd q.1 (by decide))))))))⟩)
                      · first | have f5328 := (noteqE (rfl : (jT r15.toNatClampNeg).toInt = (jT r15.toNatClampNeg).toInt) (show (2 : Int32).toInt = 2 from by decide)).mp c5299 | skip
                        have f5330 := tB r5094
                        have f5332 := K1.g_3_7 hσ5252
                        have q5333 : σ5252.1 3 7 = σ5106.1 3 7 := by rw [eσ5252]; exact congrFun (u1_ne (by omega)) 7
                        have f5334 := congrArg Int32.toInt q5333
                        have f5335 := K1.g_3_7 hσ5106
                        have f5336 := congrArg Int32.toInt k5107
                        have f5337 := K1.g_3_7 hσ5082
                        have f5338 := congrArg Int32.toInt k5083
                        have f5339 := K1.g_3_7 hσ3
                        have f5340 := congrArg Int32.toInt k4
                        have f5341 := K1.g_3_7 hσ2
                        have q5342 : σ2.1 3 7 = σ.1 3 7 := by rw [eσ2, u1_at]; exact if_neg (by decide)
                        have f5343 := congrArg Int32.toInt q5342
                        have f5344 := K1.g_3_7 hσ
                        refine sX2_act hN hk1 ⟨by omega, by omega⟩ hσ5252 (fun σ5331 hσ5331 kk5350 => ?_)
                        obtain ⟨k5345, k5346, k5347, k5348, k5349⟩ := kk5350
                        exact hQ _ hσ5331 (⟨k5345.trans ((kq (a := 9) (b := 9) eσ5252 (by omega)).trans (k5109.trans (k5085.trans (k6.trans ((kq (a := 9) (b := 9) eσ2 (fun q => absurd q.1 (by decide)))))))), k5346.trans ((kq (a := 9) (b := 10) eσ5252 (by omega)).trans (k5110.trans (k5086.trans (k7.trans ((kq (a := 9) (b := 10) eσ2 (fun q => absurd q.1 (by decide)))))))), k5347.trans ((kq (a := 6) (b := 5) eσ5252 (by omega)).trans (k5111.trans (k5087.trans (k8.trans ((kq (a := 6) (b := 5) eσ2 (fun q => absurd q.1 (by decide)))))))), k5348.trans ((kq (a := 7) (b := 4) eσ5252 (by omega)).trans (k5112.trans (k5088.trans (k9.trans ((kq (a := 7) (b := 4) eσ2 (fun q => absurd q.1 (by decide)))))))), k5349.trans ((kq (a := 2) (b := 4) eσ5252 (by omega)).trans (k5113.trans (k5089.trans (k10.trans ((kq (a := 2) (b := 4) eσ2 (fun q => absurd q.1 (by decide))))))))⟩)
                  · have f5351 := tB (σ5106.1 3 11)
                    first | have f5352 := (noteqE (rfl : (σ5106.1 3 11).toInt = (σ5106.1 3 11).toInt) (show (0 : Int32).toInt = 0 from by decide)).mp c5248 | skip
                    exact hQ _ hσ5106 (⟨k5109.trans (k5085.trans (k6.trans ((kq (a := 9) (b := 9) eσ2 (fun q => absurd q.1 (by decide)))))), k5110.trans (k5086.trans (k7.trans ((kq (a := 9) (b := 10) eσ2 (fun q => absurd q.1 (by decide)))))), k5111.trans (k5087.trans (k8.trans ((kq (a := 6) (b := 5) eσ2 (fun q => absurd q.1 (by decide)))))), k5112.trans (k5088.trans (k9.trans ((kq (a := 7) (b := 4) eσ2 (fun q => absurd q.1 (by decide)))))), k5113.trans (k5089.trans (k10.trans ((kq (a := 2) (b := 4) eσ2 (fun q => absurd q.1 (by decide))))))⟩)
              · have f5353 := tB (jT r15.toNatClampNeg)
                first | have f5354 := (noteqE (rfl : (jT r15.toNatClampNeg).toInt = (jT r15.toNatClampNeg).toInt) (show (1 : Int32).toInt = 1 from by decide)).mp c5103 | skip
                unfold fX2_doOrder_j103
                have g5356 : vp_in r15 18 := inE (rfl : r15.toInt = r15.toInt) (by omega) (by omega)
                refine ⟨g5356, ?_⟩
                refine ⟨fun c5357 => ?_, fun c5357 => ?_⟩
                · first | have f5359 := (eqE (rfl : (jT r15.toNatClampNeg).toInt = (jT r15.toNatClampNeg).toInt) (show (2 : Int32).toInt = 2 from by decide)).mp c5357 | skip
                  refine sX2_nextDistance hN hσ5082 (fun r5372 σ5360 hσ5360 kk5371 p5373 => ?_)
                  obtain ⟨k5361, k5362, k5363, k5364, k5365, k5366, k5367, k5368, k5369, k5370⟩ := kk5371
                  unfold fX2_doOrder_j122
                  refine ⟨fun c5374 => ?_, fun c5374 => ?_⟩
                  · have f5375 := tB (σ5360.1 3 11)
                    first | have f5376 := (eqE (rfl : (σ5360.1 3 11).toInt = (σ5360.1 3 11).toInt) (show (0 : Int32).toInt = 0 from by decide)).mp c5374 | skip
                    intro v5377 ev5377
                    intro σ5378 eσ5378
                    have kb5379 := jobK_b hk1
                    have hσ5378 : K1 σ0 σ5378 := by rw [eσ5378]; exact hσ5360.u (rg_jobK hk1) (by omega) (by omega)
                    have g5381 : vp_in r15 18 := inE (rfl : r15.toInt = r15.toInt) (by omega) (by omega)
                    refine ⟨g5381, ?_⟩
                    refine ⟨fun c5382 => ?_, fun c5382 => ?_⟩
                    · first | have f5384 := (eqE (rfl : (jT r15.toNatClampNeg).toInt = (jT r15.toNatClampNeg).toInt) (show (1 : Int32).toInt = 1 from by decide)).mp c5382 | skip
                      have f5386 := tB r5094
                      refine sX2_valueFor hN hσ5378 (fun r5399 σ5387 hσ5387 kk5398 p5400 => ?_)
                      obtain ⟨k5388, k5389, k5390, k5391, k5392, k5393, k5394, k5395, k5396, k5397⟩ := kk5398
                      refine ⟨fun c5401 => ?_, fun c5401 => ?_⟩
                      · have f5402 := tB (σ5387.1 3 11)
                        first | have f5403 := (eqE (rfl : (σ5387.1 3 11).toInt = (σ5387.1 3 11).toInt) (show (0 : Int32).toInt = 0 from by decide)).mp c5401 | skip
                        have f5404 := tB r5399
                        refine sX1_setLocal hN hk1 hσ5387 (fun σ5405 hσ5405 kk5417 => ?_)
                        obtain ⟨k5406, k5407, k5408, k5409, k5410, k5411, k5412, k5413, k5414, k5415, k5416⟩ := kk5417
                        unfold fX2_doOrder_j174
                        exact hQ _ hσ5405 (⟨k5409.trans (k5390.trans ((kq (a := 9) (b := 9) eσ5378 (by omega)).trans (k5363.trans (k5085.trans (k6.trans ((kq (a := 9) (b := 9) eσ2 (fun q => absurd q.1 (by decide))))))))), k5410.trans (k5391.trans ((kq (a := 9) (b := 10) eσ5378 (by omega)).trans (k5364.trans (k5086.trans (k7.trans ((kq (a := 9) (b := 10) eσ2 (fun q => absurd q.1 (by decide))))))))), k5411.trans (k5392.trans ((kq (a := 6) (b := 5) eσ5378 (by omega)).trans (k5365.trans (k5087.trans (k8.trans ((kq (a := 6) (b := 5) eσ2 (fun q => absurd q.1 (by decide))))))))), k5412.trans (k5393.trans ((kq (a := 7) (b := 4) eσ5378 (by omega)).trans (k5366.trans (k5088.trans (k9.trans ((kq (a := 7) (b := 4) eσ2 (fun q => absurd q.1 (by decide))))))))), k5413.trans (k5394.trans ((kq (a := 2) (b := 4) eσ5378 (by omega)).trans (k5367.trans (k5089.trans (k10.trans ((kq (a := 2) (b := 4) eσ2 (fun q => absurd q.1 (by decide)))))))))⟩)
                      · have f5418 := tB (σ5387.1 3 11)
                        first | have f5419 := (noteqE (rfl : (σ5387.1 3 11).toInt = (σ5387.1 3 11).toInt) (show (0 : Int32).toInt = 0 from by decide)).mp c5401 | skip
                        unfold fX2_doOrder_j174
                        exact hQ _ hσ5387 (⟨k5390.trans ((kq (a := 9) (b := 9) eσ5378 (by omega)).trans (k5363.trans (k5085.trans (k6.trans ((kq (a := 9) (b := 9) eσ2 (fun q => absurd q.1 (by decide)))))))), k5391.trans ((kq (a := 9) (b := 10) eσ5378 (by omega)).trans (k5364.trans (k5086.trans (k7.trans ((kq (a := 9) (b := 10) eσ2 (fun q => absurd q.1 (by decide)))))))), k5392.trans ((kq (a := 6) (b := 5) eσ5378 (by omega)).trans (k5365.trans (k5087.trans (k8.trans ((kq (a := 6) (b := 5) eσ2 (fun q => absurd q.1 (by decide)))))))), k5393.trans ((kq (a := 7) (b := 4) eσ5378 (by omega)).trans (k5366.trans (k5088.trans (k9.trans ((kq (a := 7) (b := 4) eσ2 (fun q => absurd q.1 (by decide)))))))), k5394.trans ((kq (a := 2) (b := 4) eσ5378 (by omega)).trans (k5367.trans (k5089.trans (k10.trans ((kq (a := 2) (b := 4) eσ2 (fun q => absurd q.1 (by decide))))))))⟩)
                    · first | have f5421 := (noteqE (rfl : (jT r15.toNatClampNeg).toInt = (jT r15.toNatClampNeg).toInt) (show (1 : Int32).toInt = 1 from by decide)).mp c5382 | skip
                      have g5423 : vp_in r15 18 := inE (rfl : r15.toInt = r15.toInt) (by omega) (by omega)
                      refine ⟨g5423, ?_⟩
                      refine ⟨fun c5424 => ?_, fun c5424 => ?_⟩
                      · first | have f5426 := (eqE (rfl : (jT r15.toNatClampNeg).toInt = (jT r15.toNatClampNeg).toInt) (show (2 : Int32).toInt = 2 from by decide)).mp c5424 | skip
                        have f5428 := tB r5094
                        refine sX2_goesThere hN hσ5378 (fun r5442 p5443 => ?_)
                        refine ⟨fun c5444 => ?_, fun c5444 => ?_⟩
                        · have f5445 := tB r5442
                          first | have f5446 := (eqE (rfl : r5442.toInt = r5442.toInt) (show (0 : Int32).toInt = 0 from by decide)).mp c5444 | skip
                          exact hQ _ hσ5378 (⟨(kq (a := 9) (b := 9) eσ5378 (by omega)).trans (k5363.trans (k5085.trans (k6.trans ((kq (a := 9) (b := 9) eσ2 (fun q => absurd q.1 (by decide))))))), (kq (a := 9) (b := 10) eσ5378 (by omega)).trans (k5364.trans (k5086.trans (k7.trans ((kq (a := 9) (b := 10) eσ2 (fun q => absurd q.1 (by decide))))))), (kq (a := 6) (b := 5) eσ5378 (by omega)).trans (k5365.trans (k5087.trans (k8.trans ((kq (a := 6) (b := 5) eσ2 (fun q => absurd q.1 (by decide))))))), (kq (a := 7) (b := 4) eσ5378 (by omega)).trans (k5366.trans (k5088.trans (k9.trans ((kq (a := 7) (b := 4) eσ2 (fun q => absurd q.1 (by decide))))))), (kq (a := 2) (b := 4) eσ5378 (by omega)).trans (k5367.trans (k5089.trans (k10.trans ((kq (a := 2) (b := 4) eσ2 (fun q => absurd q.1 (by decide)))))))⟩)
                        · have f5447 := tB r5442
                          first | have f5448 := (noteqE (rfl : r5442.toInt = r5442.toInt) (show (0 : Int32).toInt = 0 from by decide)).mp c5444 | skip
                          intro v5449 ev5449
                          intro σ5450 eσ5450
                          have kb5451 := jobK_b hk1
                          have hσ5450 : K1 σ0 σ5450 := by rw [eσ5450]; exact hσ5378.u (rg_jobK hk1) (by omega) (by omega)
                          exact hQ _ hσ5450 (⟨(kq (a := 9) (b := 9) eσ5450 (by omega)).trans ((kq (a := 9) (b := 9) eσ5378 (by omega)).trans (k5363.trans (k5085.trans (k6.trans ((kq (a := 9) (b := 9) eσ2 (fun q => absurd q.1 (by decide)))))))), (kq (a := 9) (b := 10) eσ5450 (by omega)).trans ((kq (a := 9) (b := 10) eσ5378 (by omega)).trans (k5364.trans (k5086.trans (k7.trans ((kq (a := 9) (b := 10) eσ2 (fun q => absurd q.1 (by decide)))))))), (kq (a := 6) (b := 5) eσ5450 (by omega)).trans ((kq (a := 6) (b := 5) eσ5378 (by omega)).trans (k5365.trans (k5087.trans (k8.trans ((kq (a := 6) (b := 5) eσ2 (fun q => absurd q.1 (by decide)))))))), (kq (a := 7) (b := 4) eσ5450 (by omega)).trans ((kq (a := 7) (b := 4) eσ5378 (by omega)).trans (k5366.trans (k5088.trans (k9.trans ((kq (a := 7) (b := 4) eσ2 (fun q => absurd q.1 (by decide)))))))), (kq (a := 2) (b := 4) eσ5450 (by omega)).trans ((kq (a := 2) (b := 4) eσ5378 (by omega)).trans (k5367.trans (k5089.trans (k10.trans ((kq (a := 2) (b := 4) eσ2 (fun q => absurd q.1 (by decide))))))))⟩)
                      · first | have f5453 := (noteqE (rfl : (jT r15.toNatClampNeg).toInt = (jT r15.toNatClampNeg).toInt) (show (2 : Int32).toInt = 2 from by decide)).mp c5424 | skip
                        have f5455 := tB r5094
                        have f5457 := K1.g_3_7 hσ5378
                        have q5458 : σ5378.1 3 7 = σ5360.1 3 7 := by rw [eσ5378]; exact congrFun (u1_ne (by omega)) 7
                        have f5459 := congrArg Int32.toInt q5458
                        have f5460 := K1.g_3_7 hσ5360
                        have f5461 := congrArg Int32.toInt k5361
                        have f5462 := K1.g_3_7 hσ5082
                        have f5463 := congrArg Int32.toInt k5083
                        have f5464 := K1.g_3_7 hσ3
                        have f5465 := congrArg Int32.toInt k4
                        have f5466 := K1.g_3_7 hσ2
                        have q5467 : σ2.1 3 7 = σ.1 3 7 := by rw [eσ2, u1_at]; exact if_neg (by decide)
                        have f5468 := congrArg Int32.toInt q5467
                        have f5469 := K1.g_3_7 hσ
                        refine sX2_act hN hk1 ⟨by omega, by omega⟩ hσ5378 (fun σ5456 hσ5456 kk5475 => ?_)
                        obtain ⟨k5470, k5471, k5472, k5473, k5474⟩ := kk5475
                        exact hQ _ hσ5456 (⟨k5470.trans ((kq (a := 9) (b := 9) eσ5378 (by omega)).trans (k5363.trans (k5085.trans (k6.trans ((kq (a := 9) (b := 9) eσ2 (fun q => absurd q.1 (by decide)))))))), k5471.trans ((kq (a := 9) (b := 10) eσ5378 (by omega)).trans (k5364.trans (k5086.trans (k7.trans ((kq (a := 9) (b := 10) eσ2 (fun q => absurd q.1 (by decide)))))))), k5472.trans ((kq (a := 6) (b := 5) eσ5378 (by omega)).trans (k5365.trans (k5087.trans (k8.trans ((kq (a := 6) (b := 5) eσ2 (fun q => absurd q.1 (by decide)))))))), k5473.trans ((kq (a := 7) (b := 4) eσ5378 (by omega)).trans (k5366.trans (k5088.trans (k9.trans ((kq (a := 7) (b := 4) eσ2 (fun q => absurd q.1 (by decide)))))))), k5474.trans ((kq (a := 2) (b := 4) eσ5378 (by omega)).trans (k5367.trans (k5089.trans (k10.trans ((kq (a := 2) (b := 4) eσ2 (fun q => absurd q.1 (by decide))))))))⟩)
                  · have f5476 := tB (σ5360.1 3 11)
                    first | have f5477 := (noteqE (rfl : (σ5360.1 3 11).toInt = (σ5360.1 3 11).toInt) (show (0 : Int32).toInt = 0 from by decide)).mp c5374 | skip
                    exact hQ _ hσ5360 (⟨k5363.trans (k5085.trans (k6.trans ((kq (a := 9) (b := 9) eσ2 (fun q => absurd q.1 (by decide)))))), k5364.trans (k5086.trans (k7.trans ((kq (a := 9) (b := 10) eσ2 (fun q => absurd q.1 (by decide)))))), k5365.trans (k5087.trans (k8.trans ((kq (a := 6) (b := 5) eσ2 (fun q => absurd q.1 (by decide)))))), k5366.trans (k5088.trans (k9.trans ((kq (a := 7) (b := 4) eσ2 (fun q => absurd q.1 (by decide)))))), k5367.trans (k5089.trans (k10.trans ((kq (a := 2) (b := 4) eσ2 (fun q => absurd q.1 (by decide))))))⟩)
                · first | have f5479 := (noteqE (rfl : (jT r15.toNatClampNeg).toInt = (jT r15.toNatClampNeg).toInt) (show (2 : Int32).toInt = 2 from by decide)).mp c5357 | skip
                  unfold fX2_doOrder_j122
                  refine ⟨fun c5480 => ?_, fun c5480 => ?_⟩
                  · have f5481 := tB (σ5082.1 3 11)
                    first | have f5482 := (eqE (rfl : (σ5082.1 3 11).toInt = (σ5082.1 3 11).toInt) (show (0 : Int32).toInt = 0 from by decide)).mp c5480 | skip
                    intro v5483 ev5483
                    intro σ5484 eσ5484
                    have kb5485 := jobK_b hk1
                    have hσ5484 : K1 σ0 σ5484 := by rw [eσ5484]; exact hσ5082.u (rg_jobK hk1) (by omega) (by omega)
                    have g5487 : vp_in r15 18 := inE (rfl : r15.toInt = r15.toInt) (by omega) (by omega)
                    refine ⟨g5487, ?_⟩
                    refine ⟨fun c5488 => ?_, fun c5488 => ?_⟩
                    · first | have f5490 := (eqE (rfl : (jT r15.toNatClampNeg).toInt = (jT r15.toNatClampNeg).toInt) (show (1 : Int32).toInt = 1 from by decide)).mp c5488 | skip
                      have f5492 := tB r5094
                      refine sX2_valueFor hN hσ5484 (fun r5505 σ5493 hσ5493 kk5504 p5506 => ?_)
                      obtain ⟨k5494, k5495, k5496, k5497, k5498, k5499, k5500, k5501, k5502, k5503⟩ := kk5504
                      refine ⟨fun c5507 => ?_, fun c5507 => ?_⟩
                      · have f5508 := tB (σ5493.1 3 11)
                        first | have f5509 := (eqE (rfl : (σ5493.1 3 11).toInt = (σ5493.1 3 11).toInt) (show (0 : Int32).toInt = 0 from by decide)).mp c5507 | skip
                        have f5510 := tB r5505
                        refine sX1_setLocal hN hk1 hσ5493 (fun σ5511 hσ5511 kk5523 => ?_)
                        obtain ⟨k5512, k5513, k5514, k5515, k5516, k5517, k5518, k5519, k5520, k5521, k5522⟩ := kk5523
                        unfold fX2_doOrder_j174
                        exact hQ _ hσ5511 (⟨k5515.trans (k5496.trans ((kq (a := 9) (b := 9) eσ5484 (by omega)).trans (k5085.trans (k6.trans ((kq (a := 9) (b := 9) eσ2 (fun q => absurd q.1 (by decide)))))))), k5516.trans (k5497.trans ((kq (a := 9) (b := 10) eσ5484 (by omega)).trans (k5086.trans (k7.trans ((kq (a := 9) (b := 10) eσ2 (fun q => absurd q.1 (by decide)))))))), k5517.trans (k5498.trans ((kq (a := 6) (b := 5) eσ5484 (by omega)).trans (k5087.trans (k8.trans ((kq (a := 6) (b := 5) eσ2 (fun q => absurd q.1 (by decide)))))))), k5518.trans (k5499.trans ((kq (a := 7) (b := 4) eσ5484 (by omega)).trans (k5088.trans (k9.trans ((kq (a := 7) (b := 4) eσ2 (fun q => absurd q.1 (by decide)))))))), k5519.trans (k5500.trans ((kq (a := 2) (b := 4) eσ5484 (by omega)).trans (k5089.trans (k10.trans ((kq (a := 2) (b := 4) eσ2 (fun q => absurd q.1 (by decide))))))))⟩)
                      · have f5524 := tB (σ5493.1 3 11)
                        first | have f5525 := (noteqE (rfl : (σ5493.1 3 11).toInt = (σ5493.1 3 11).toInt) (show (0 : Int32).toInt = 0 from by decide)).mp c5507 | skip
                        unfold fX2_doOrder_j174
                        exact hQ _ hσ5493 (⟨k5496.trans ((kq (a := 9) (b := 9) eσ5484 (by omega)).trans (k5085.trans (k6.trans ((kq (a := 9) (b := 9) eσ2 (fun q => absurd q.1 (by decide))))))), k5497.trans ((kq (a := 9) (b := 10) eσ5484 (by omega)).trans (k5086.trans (k7.trans ((kq (a := 9) (b := 10) eσ2 (fun q => absurd q.1 (by decide))))))), k5498.trans ((kq (a := 6) (b := 5) eσ5484 (by omega)).trans (k5087.trans (k8.trans ((kq (a := 6) (b := 5) eσ2 (fun q => absurd q.1 (by decide))))))), k5499.trans ((kq (a := 7) (b := 4) eσ5484 (by omega)).trans (k5088.trans (k9.trans ((kq (a := 7) (b := 4) eσ2 (fun q => absurd q.1 (by decide))))))), k5500.trans ((kq (a := 2) (b := 4) eσ5484 (by omega)).trans (k5089.trans (k10.trans ((kq (a := 2) (b := 4) eσ2 (fun q => absurd q.1 (by decide)))))))⟩)
                    · first | have f5527 := (noteqE (rfl : (jT r15.toNatClampNeg).toInt = (jT r15.toNatClampNeg).toInt) (show (1 : Int32).toInt = 1 from by decide)).mp c5488 | skip
                      have g5529 : vp_in r15 18 := inE (rfl : r15.toInt = r15.toInt) (by omega) (by omega)
                      refine ⟨g5529, ?_⟩
                      refine ⟨fun c5530 => ?_, fun c5530 => ?_⟩
                      · first | have f5532 := (eqE (rfl : (jT r15.toNatClampNeg).toInt = (jT r15.toNatClampNeg).toInt) (show (2 : Int32).toInt = 2 from by decide)).mp c5530 | skip
                        have f5534 := tB r5094
                        refine sX2_goesThere hN hσ5484 (fun r5548 p5549 => ?_)
                        refine ⟨fun c5550 => ?_, fun c5550 => ?_⟩
                        · have f5551 := tB r5548
                          first | have f5552 := (eqE (rfl : r5548.toInt = r5548.toInt) (show (0 : Int32).toInt = 0 from by decide)).mp c5550 | skip
                          exact hQ _ hσ5484 (⟨(kq (a := 9) (b := 9) eσ5484 (by omega)).trans (k5085.trans (k6.trans ((kq (a := 9) (b := 9) eσ2 (fun q => absurd q.1 (by decide)))))), (kq (a := 9) (b := 10) eσ5484 (by omega)).trans (k5086.trans (k7.trans ((kq (a := 9) (b := 10) eσ2 (fun q => absurd q.1 (by decide)))))), (kq (a := 6) (b := 5) eσ5484 (by omega)).trans (k5087.trans (k8.trans ((kq (a := 6) (b := 5) eσ2 (fun q => absurd q.1 (by decide)))))), (kq (a := 7) (b := 4) eσ5484 (by omega)).trans (k5088.trans (k9.trans ((kq (a := 7) (b := 4) eσ2 (fun q => absurd q.1 (by decide)))))), (kq (a := 2) (b := 4) eσ5484 (by omega)).trans (k5089.trans (k10.trans ((kq (a := 2) (b := 4) eσ2 (fun q => absurd q.1 (by decide))))))⟩)
                        · have f5553 := tB r5548
                          first | have f5554 := (noteqE (rfl : r5548.toInt = r5548.toInt) (show (0 : Int32).toInt = 0 from by decide)).mp c5550 | skip
                          intro v5555 ev5555
                          intro σ5556 eσ5556
                          have kb5557 := jobK_b hk1
                          have hσ5556 : K1 σ0 σ5556 := by rw [eσ5556]; exact hσ5484.u (rg_jobK hk1) (by omega) (by omega)
                          exact hQ _ hσ5556 (⟨(kq (a := 9) (b := 9) eσ5556 (by omega)).trans ((kq (a := 9) (b := 9) eσ5484 (by omega)).trans (k5085.trans (k6.trans ((kq (a := 9) (b := 9) eσ2 (fun q => absurd q.1 (by decide))))))), (kq (a := 9) (b := 10) eσ5556 (by omega)).trans ((kq (a := 9) (b := 10) eσ5484 (by omega)).trans (k5086.trans (k7.trans ((kq (a := 9) (b := 10) eσ2 (fun q => absurd q.1 (by decide))))))), (kq (a := 6) (b := 5) eσ5556 (by omega)).trans ((kq (a := 6) (b := 5) eσ5484 (by omega)).trans (k5087.trans (k8.trans ((kq (a := 6) (b := 5) eσ2 (fun q => absurd q.1 (by decide))))))), (kq (a := 7) (b := 4) eσ5556 (by omega)).trans ((kq (a := 7) (b := 4) eσ5484 (by omega)).trans (k5088.trans (k9.trans ((kq (a := 7) (b := 4) eσ2 (fun q => absurd q.1 (by decide))))))), (kq (a := 2) (b := 4) eσ5556 (by omega)).trans ((kq (a := 2) (b := 4) eσ5484 (by omega)).trans (k5089.trans (k10.trans ((kq (a := 2) (b := 4) eσ2 (fun q => absurd q.1 (by decide)))))))⟩)
                      · first | have f5559 := (noteqE (rfl : (jT r15.toNatClampNeg).toInt = (jT r15.toNatClampNeg).toInt) (show (2 : Int32).toInt = 2 from by decide)).mp c5530 | skip
                        have f5561 := tB r5094
                        have f5563 := K1.g_3_7 hσ5484
                        have q5564 : σ5484.1 3 7 = σ5082.1 3 7 := by rw [eσ5484]; exact congrFun (u1_ne (by omega)) 7
                        have f5565 := congrArg Int32.toInt q5564
                        have f5566 := K1.g_3_7 hσ5082
                        have f5567 := congrArg Int32.toInt k5083
                        have f5568 := K1.g_3_7 hσ3
                        have f5569 := congrArg Int32.toInt k4
                        have f5570 := K1.g_3_7 hσ2
                        have q5571 : σ2.1 3 7 = σ.1 3 7 := by rw [eσ2, u1_at]; exact if_neg (by decide)
                        have f5572 := congrArg Int32.toInt q5571
                        have f5573 := K1.g_3_7 hσ
                        refine sX2_act hN hk1 ⟨by omega, by omega⟩ hσ5484 (fun σ5562 hσ5562 kk5579 => ?_)
                        obtain ⟨k5574, k5575, k5576, k5577, k5578⟩ := kk5579
                        exact hQ _ hσ5562 (⟨k5574.trans ((kq (a := 9) (b := 9) eσ5484 (by omega)).trans (k5085.trans (k6.trans ((kq (a := 9) (b := 9) eσ2 (fun q => absurd q.1 (by decide))))))), k5575.trans ((kq (a := 9) (b := 10) eσ5484 (by omega)).trans (k5086.trans (k7.trans ((kq (a := 9) (b := 10) eσ2 (fun q => absurd q.1 (by decide))))))), k5576.trans ((kq (a := 6) (b := 5) eσ5484 (by omega)).trans (k5087.trans (k8.trans ((kq (a := 6) (b := 5) eσ2 (fun q => absurd q.1 (by decide))))))), k5577.trans ((kq (a := 7) (b := 4) eσ5484 (by omega)).trans (k5088.trans (k9.trans ((kq (a := 7) (b := 4) eσ2 (fun q => absurd q.1 (by decide))))))), k5578.trans ((kq (a := 2) (b := 4) eσ5484 (by omega)).trans (k5089.trans (k10.trans ((kq (a := 2) (b := 4) eσ2 (fun q => absurd q.1 (by decide)))))))⟩)
                  · have f5580 := tB (σ5082.1 3 11)
                    first | have f5581 := (noteqE (rfl : (σ5082.1 3 11).toInt = (σ5082.1 3 11).toInt) (show (0 : Int32).toInt = 0 from by decide)).mp c5480 | skip
                    exact hQ _ hσ5082 (⟨k5085.trans (k6.trans ((kq (a := 9) (b := 9) eσ2 (fun q => absurd q.1 (by decide))))), k5086.trans (k7.trans ((kq (a := 9) (b := 10) eσ2 (fun q => absurd q.1 (by decide))))), k5087.trans (k8.trans ((kq (a := 6) (b := 5) eσ2 (fun q => absurd q.1 (by decide))))), k5088.trans (k9.trans ((kq (a := 7) (b := 4) eσ2 (fun q => absurd q.1 (by decide))))), k5089.trans (k10.trans ((kq (a := 2) (b := 4) eσ2 (fun q => absurd q.1 (by decide)))))⟩)
            · first | have f5583 := (notleE (rfl : (jV r15.toNatClampNeg).toInt = (jV r15.toNatClampNeg).toInt) (show (1 : Int32).toInt = 1 from by decide)).mp c5098 | skip
              refine sX2_nextValue hN hk1 hσ5082 (fun r5596 σ5584 hσ5584 kk5595 p5597 => ?_)
              obtain ⟨k5585, k5586, k5587, k5588, k5589, k5590, k5591, k5592, k5593, k5594⟩ := kk5595
              unfold fX2_doOrder_j81
              have g5599 : vp_in r15 18 := inE (rfl : r15.toInt = r15.toInt) (by omega) (by omega)
              refine ⟨g5599, ?_⟩
              refine ⟨fun c5600 => ?_, fun c5600 => ?_⟩
              · have f5601 := tB (jT r15.toNatClampNeg)
                first | have f5602 := (eqE (rfl : (jT r15.toNatClampNeg).toInt = (jT r15.toNatClampNeg).toInt) (show (1 : Int32).toInt = 1 from by decide)).mp c5600 | skip
                refine sX2_nextTarget hN hk1 hσ5584 (fun r5615 σ5603 hσ5603 kk5614 p5616 => ?_)
                obtain ⟨k5604, k5605, k5606, k5607, k5608, k5609, k5610, k5611, k5612, k5613⟩ := kk5614
                unfold fX2_doOrder_j103
                have g5618 : vp_in r15 18 := inE (rfl : r15.toInt = r15.toInt) (by omega) (by omega)
                refine ⟨g5618, ?_⟩
                refine ⟨fun c5619 => ?_, fun c5619 => ?_⟩
                · first | have f5621 := (eqE (rfl : (jT r15.toNatClampNeg).toInt = (jT r15.toNatClampNeg).toInt) (show (2 : Int32).toInt = 2 from by decide)).mp c5619 | skip
                  refine sX2_nextDistance hN hσ5603 (fun r5634 σ5622 hσ5622 kk5633 p5635 => ?_)
                  obtain ⟨k5623, k5624, k5625, k5626, k5627, k5628, k5629, k5630, k5631, k5632⟩ := kk5633
                  unfold fX2_doOrder_j122
                  refine ⟨fun c5636 => ?_, fun c5636 => ?_⟩
                  · have f5637 := tB (σ5622.1 3 11)
                    first | have f5638 := (eqE (rfl : (σ5622.1 3 11).toInt = (σ5622.1 3 11).toInt) (show (0 : Int32).toInt = 0 from by decide)).mp c5636 | skip
                    intro v5639 ev5639
                    intro σ5640 eσ5640
                    have kb5641 := jobK_b hk1
                    have hσ5640 : K1 σ0 σ5640 := by rw [eσ5640]; exact hσ5622.u (rg_jobK hk1) (by omega) (by omega)
                    have g5643 : vp_in r15 18 := inE (rfl : r15.toInt = r15.toInt) (by omega) (by omega)
                    refine ⟨g5643, ?_⟩
                    refine ⟨fun c5644 => ?_, fun c5644 => ?_⟩
                    · first | have f5646 := (eqE (rfl : (jT r15.toNatClampNeg).toInt = (jT r15.toNatClampNeg).toInt) (show (1 : Int32).toInt = 1 from by decide)).mp c5644 | skip
                      have f5648 := tB r5094
                      have f5649 := tB r5596
                      refine sX2_valueFor hN hσ5640 (fun r5662 σ5650 hσ5650 kk5661 p5663 => ?_)
                      obtain ⟨k5651, k5652, k5653, k5654, k5655, k5656, k5657, k5658, k5659, k5660⟩ := kk5661
                      refine ⟨fun c5664 => ?_, fun c5664 => ?_⟩
                      · have f5665 := tB (σ5650.1 3 11)
                        first | have f5666 := (eqE (rfl : (σ5650.1 3 11).toInt = (σ5650.1 3 11).toInt) (show (0 : Int32).toInt = 0 from by decide)).mp c5664 | skip
                        have f5667 := tB r5615
                        have f5668 := tB r5662
                        refine sX1_setLocal hN hk1 hσ5650 (fun σ5669 hσ5669 kk5681 => ?_)
                        obtain ⟨k5670, k5671, k5672, k5673, k5674, k5675, k5676, k5677, k5678, k5679, k5680⟩ := kk5681
                        unfold fX2_doOrder_j174
                        exact hQ _ hσ5669 (⟨k5673.trans (k5653.trans ((kq (a := 9) (b := 9) eσ5640 (by omega)).trans (k5625.trans (k5606.trans (k5587.trans (k5085.trans (k6.trans ((kq (a := 9) (b := 9) eσ2 (fun q => absurd q.1 (by decide))))))))))), k5674.trans (k5654.trans ((kq (a := 9) (b := 10) eσ5640 (by omega)).trans (k5626.trans (k5607.trans (k5588.trans (k5086.trans (k7.trans ((kq (a := 9) (b := 10) eσ2 (fun q => absurd q.1 (by decide))))))))))), k5675.trans (k5655.trans ((kq (a := 6) (b := 5) eσ5640 (by omega)).trans (k5627.trans (k5608.trans (k5589.trans (k5087.trans (k8.trans ((kq (a := 6) (b := 5) eσ2 (fun q => absurd q.1 (by decide))))))))))), k5676.trans (k5656.trans ((kq (a := 7) (b := 4) eσ5640 (by omega)).trans (k5628.trans (k5609.trans (k5590.trans (k5088.trans (k9.trans ((kq (a := 7) (b := 4) eσ2 (fun q => absurd q.1 (by decide))))))))))), k5677.trans (k5657.trans ((kq (a := 2) (b := 4) eσ5640 (by omega)).trans (k5629.trans (k5610.trans (k5591.trans (k5089.trans (k10.trans ((kq (a := 2) (b := 4) eσ2 (fun q => absurd q.1 (by decide)))))))))))⟩)
                      · have f5682 := tB (σ5650.1 3 11)
                        first | have f5683 := (noteqE (rfl : (σ5650.1 3 11).toInt = (σ5650.1 3 11).toInt) (show (0 : Int32).toInt = 0 from by decide)).mp c5664 | skip
                        unfold fX2_doOrder_j174
                        exact hQ _ hσ5650 (⟨k5653.trans ((kq (a := 9) (b := 9) eσ5640 (by omega)).trans (k5625.trans (k5606.trans (k5587.trans (k5085.trans (k6.trans ((kq (a := 9) (b := 9) eσ2 (fun q => absurd q.1 (by decide)))))))))), k5654.trans ((kq (a := 9) (b := 10) eσ5640 (by omega)).trans (k5626.trans (k5607.trans (k5588.trans (k5086.trans (k7.trans ((kq (a := 9) (b := 10) eσ2 (fun q => absurd q.1 (by decide)))))))))), k5655.trans ((kq (a := 6) (b := 5) eσ5640 (by omega)).trans (k5627.trans (k5608.trans (k5589.trans (k5087.trans (k8.trans ((kq (a := 6) (b := 5) eσ2 (fun q => absurd q.1 (by decide)))))))))), k5656.trans ((kq (a := 7) (b := 4) eσ5640 (by omega)).trans (k5628.trans (k5609.trans (k5590.trans (k5088.trans (k9.trans ((kq (a := 7) (b := 4) eσ2 (fun q => absurd q.1 (by decide)))))))))), k5657.trans ((kq (a := 2) (b := 4) eσ5640 (by omega)).trans (k5629.trans (k5610.trans (k5591.trans (k5089.trans (k10.trans ((kq (a := 2) (b := 4) eσ2 (fun q => absurd q.1 (by decide))))))))))⟩)
                    · first | have f5685 := (noteqE (rfl : (jT r15.toNatClampNeg).toInt = (jT r15.toNatClampNeg).toInt) (show (1 : Int32).toInt = 1 from by decide)).mp c5644 | skip
                      have g5687 : vp_in r15 18 := inE (rfl : r15.toInt = r15.toInt) (by omega) (by omega)
                      refine ⟨g5687, ?_⟩
                      refine ⟨fun c5688 => ?_, fun c5688 => ?_⟩
                      · first | have f5690 := (eqE (rfl : (jT r15.toNatClampNeg).toInt = (jT r15.toNatClampNeg).toInt) (show (2 : Int32).toInt = 2 from by decide)).mp c5688 | skip
                        have f5692 := tB r5094
                        have f5693 := tB r5596
                        refine sX2_goesThere hN hσ5640 (fun r5707 p5708 => ?_)
                        refine ⟨fun c5709 => ?_, fun c5709 => ?_⟩
                        · have f5710 := tB r5707
                          first | have f5711 := (eqE (rfl : r5707.toInt = r5707.toInt) (show (0 : Int32).toInt = 0 from by decide)).mp c5709 | skip
                          exact hQ _ hσ5640 (⟨(kq (a := 9) (b := 9) eσ5640 (by omega)).trans (k5625.trans (k5606.trans (k5587.trans (k5085.trans (k6.trans ((kq (a := 9) (b := 9) eσ2 (fun q => absurd q.1 (by decide))))))))), (kq (a := 9) (b := 10) eσ5640 (by omega)).trans (k5626.trans (k5607.trans (k5588.trans (k5086.trans (k7.trans ((kq (a := 9) (b := 10) eσ2 (fun q => absurd q.1 (by decide))))))))), (kq (a := 6) (b := 5) eσ5640 (by omega)).trans (k5627.trans (k5608.trans (k5589.trans (k5087.trans (k8.trans ((kq (a := 6) (b := 5) eσ2 (fun q => absurd q.1 (by decide))))))))), (kq (a := 7) (b := 4) eσ5640 (by omega)).trans (k5628.trans (k5609.trans (k5590.trans (k5088.trans (k9.trans ((kq (a := 7) (b := 4) eσ2 (fun q => absurd q.1 (by decide))))))))), (kq (a := 2) (b := 4) eσ5640 (by omega)).trans (k5629.trans (k5610.trans (k5591.trans (k5089.trans (k10.trans ((kq (a := 2) (b := 4) eσ2 (fun q => absurd q.1 (by decide)))))))))⟩)
                        · have f5712 := tB r5707
                          first | have f5713 := (noteqE (rfl : r5707.toInt = r5707.toInt) (show (0 : Int32).toInt = 0 from by decide)).mp c5709 | skip
                          intro v5714 ev5714
                          intro σ5715 eσ5715
                          have kb5716 := jobK_b hk1
                          have hσ5715 : K1 σ0 σ5715 := by rw [eσ5715]; exact hσ5640.u (rg_jobK hk1) (by omega) (by omega)
                          exact hQ _ hσ5715 (⟨(kq (a := 9) (b := 9) eσ5715 (by omega)).trans ((kq (a := 9) (b := 9) eσ5640 (by omega)).trans (k5625.trans (k5606.trans (k5587.trans (k5085.trans (k6.trans ((kq (a := 9) (b := 9) eσ2 (fun q => absurd q.1 (by decide)))))))))), (kq (a := 9) (b := 10) eσ5715 (by omega)).trans ((kq (a := 9) (b := 10) eσ5640 (by omega)).trans (k5626.trans (k5607.trans (k5588.trans (k5086.trans (k7.trans ((kq (a := 9) (b := 10) eσ2 (fun q => absurd q.1 (by decide)))))))))), (kq (a := 6) (b := 5) eσ5715 (by omega)).trans ((kq (a := 6) (b := 5) eσ5640 (by omega)).trans (k5627.trans (k5608.trans (k5589.trans (k5087.trans (k8.trans ((kq (a := 6) (b := 5) eσ2 (fun q => absurd q.1 (by decide)))))))))), (kq (a := 7) (b := 4) eσ5715 (by omega)).trans ((kq (a := 7) (b := 4) eσ5640 (by omega)).trans (k5628.trans (k5609.trans (k5590.trans (k5088.trans (k9.trans ((kq (a := 7) (b := 4) eσ2 (fun q => absurd q.1 (by decide)))))))))), (kq (a := 2) (b := 4) eσ5715 (by omega)).trans ((kq (a := 2) (b := 4) eσ5640 (by omega)).trans (k5629.trans (k5610.trans (k5591.trans (k5089.trans (k10.trans ((kq (a := 2) (b := 4) eσ2 (fun q => absurd q.1 (by decide))))))))))⟩)
                      · first | have f5718 := (noteqE (rfl : (jT r15.toNatClampNeg).toInt = (jT r15.toNatClampNeg).toInt) (show (2 : Int32).toInt = 2 from by decide)).mp c5688 | skip
                        have f5720 := tB r5094
                        have f5721 := tB r5596
                        have f5723 := K1.g_3_7 hσ5640
                        have q5724 : σ5640.1 3 7 = σ5622.1 3 7 := by rw [eσ5640]; exact congrFun (u1_ne (by omega)) 7
                        have f5725 := congrArg Int32.toInt q5724
                        have f5726 := K1.g_3_7 hσ5622
                        have f5727 := congrArg Int32.toInt k5623
                        have f5728 := K1.g_3_7 hσ5603
                        have f5729 := congrArg Int32.toInt k5604
                        have f5730 := K1.g_3_7 hσ5584
                        have f5731 := congrArg Int32.toInt k5585
                        have f5732 := K1.g_3_7 hσ5082
                        have f5733 := congrArg Int32.toInt k5083
                        have f5734 := K1.g_3_7 hσ3
                        have f5735 := congrArg Int32.toInt k4
                        have f5736 := K1.g_3_7 hσ2
                        have q5737 : σ2.1 3 7 = σ.1 3 7 := by rw [eσ2, u1_at]; exact if_neg (by decide)
                        have f5738 := congrArg Int32.toInt q5737
                        have f5739 := K1.g_3_7 hσ
                        refine sX2_act hN hk1 ⟨by omega, by omega⟩ hσ5640 (fun σ5722 hσ5722 kk5745 => ?_)
                        obtain ⟨k5740, k5741, k5742, k5743, k5744⟩ := kk5745
                        exact hQ _ hσ5722 (⟨k5740.trans ((kq (a := 9) (b := 9) eσ5640 (by omega)).trans (k5625.trans (k5606.trans (k5587.trans (k5085.trans (k6.trans ((kq (a := 9) (b := 9) eσ2 (fun q => absurd q.1 (by decide)))))))))), k5741.trans ((kq (a := 9) (b := 10) eσ5640 (by omega)).trans (k5626.trans (k5607.trans (k5588.trans (k5086.trans (k7.trans ((kq (a := 9) (b := 10) eσ2 (fun q => absurd q.1 (by decide)))))))))), k5742.trans ((kq (a := 6) (b := 5) eσ5640 (by omega)).trans (k5627.trans (k5608.trans (k5589.trans (k5087.trans (k8.trans ((kq (a := 6) (b := 5) eσ2 (fun q => absurd q.1 (by decide)))))))))), k5743.trans ((kq (a := 7) (b := 4) eσ5640 (by omega)).trans (k5628.trans (k5609.trans (k5590.trans (k5088.trans (k9.trans ((kq (a := 7) (b := 4) eσ2 (fun q => absurd q.1 (by decide)))))))))), k5744.trans ((kq (a := 2) (b := 4) eσ5640 (by omega)).trans (k5629.trans (k5610.trans (k5591.trans (k5089.trans (k10.trans ((kq (a := 2) (b := 4) eσ2 (fun q => absurd q.1 (by decide))))))))))⟩)
                  · have f5746 := tB (σ5622.1 3 11)
                    first | have f5747 := (noteqE (rfl : (σ5622.1 3 11).toInt = (σ5622.1 3 11).toInt) (show (0 : Int32).toInt = 0 from by decide)).mp c5636 | skip
                    exact hQ _ hσ5622 (⟨k5625.trans (k5606.trans (k5587.trans (k5085.trans (k6.trans ((kq (a := 9) (b := 9) eσ2 (fun q => absurd q.1 (by decide)))))))), k5626.trans (k5607.trans (k5588.trans (k5086.trans (k7.trans ((kq (a := 9) (b := 10) eσ2 (fun q => absurd q.1 (by decide)))))))), k5627.trans (k5608.trans (k5589.trans (k5087.trans (k8.trans ((kq (a := 6) (b := 5) eσ2 (fun q => absurd q.1 (by decide)))))))), k5628.trans (k5609.trans (k5590.trans (k5088.trans (k9.trans ((kq (a := 7) (b := 4) eσ2 (fun q => absurd q.1 (by decide)))))))), k5629.trans (k5610.trans (k5591.trans (k5089.trans (k10.trans ((kq (a := 2) (b := 4) eσ2 (fun q => absurd q.1 (by decide))))))))⟩)
                · first | have f5749 := (noteqE (rfl : (jT r15.toNatClampNeg).toInt = (jT r15.toNatClampNeg).toInt) (show (2 : Int32).toInt = 2 from by decide)).mp c5619 | skip
                  unfold fX2_doOrder_j122
                  refine ⟨fun c5750 => ?_, fun c5750 => ?_⟩
                  · have f5751 := tB (σ5603.1 3 11)
                    first | have f5752 := (eqE (rfl : (σ5603.1 3 11).toInt = (σ5603.1 3 11).toInt) (show (0 : Int32).toInt = 0 from by decide)).mp c5750 | skip
                    intro v5753 ev5753
                    intro σ5754 eσ5754
                    have kb5755 := jobK_b hk1
                    have hσ5754 : K1 σ0 σ5754 := by rw [eσ5754]; exact hσ5603.u (rg_jobK hk1) (by omega) (by omega)
                    have g5757 : vp_in r15 18 := inE (rfl : r15.toInt = r15.toInt) (by omega) (by omega)
                    refine ⟨g5757, ?_⟩
                    refine ⟨fun c5758 => ?_, fun c5758 => ?_⟩
                    · first | have f5760 := (eqE (rfl : (jT r15.toNatClampNeg).toInt = (jT r15.toNatClampNeg).toInt) (show (1 : Int32).toInt = 1 from by decide)).mp c5758 | skip
                      have f5762 := tB r5094
                      have f5763 := tB r5596
                      refine sX2_valueFor hN hσ5754 (fun r5776 σ5764 hσ5764 kk5775 p5777 => ?_)
                      obtain ⟨k5765, k5766, k5767, k5768, k5769, k5770, k5771, k5772, k5773, k5774⟩ := kk5775
                      refine ⟨fun c5778 => ?_, fun c5778 => ?_⟩
                      · have f5779 := tB (σ5764.1 3 11)
                        first | have f5780 := (eqE (rfl : (σ5764.1 3 11).toInt = (σ5764.1 3 11).toInt) (show (0 : Int32).toInt = 0 from by decide)).mp c5778 | skip
                        have f5781 := tB r5615
                        have f5782 := tB r5776
                        refine sX1_setLocal hN hk1 hσ5764 (fun σ5783 hσ5783 kk5795 => ?_)
                        obtain ⟨k5784, k5785, k5786, k5787, k5788, k5789, k5790, k5791, k5792, k5793, k5794⟩ := kk5795
                        unfold fX2_doOrder_j174
                        exact hQ _ hσ5783 (⟨k5787.trans (k5767.trans ((kq (a := 9) (b := 9) eσ5754 (by omega)).trans (k5606.trans (k5587.trans (k5085.trans (k6.trans ((kq (a := 9) (b := 9) eσ2 (fun q => absurd q.1 (by decide)))))))))), k5788.trans (k5768.trans ((kq (a := 9) (b := 10) eσ5754 (by omega)).trans (k5607.trans (k5588.trans (k5086.trans (k7.trans ((kq (a := 9) (b := 10) eσ2 (fun q => absurd q.1 (by decide)))))))))), k5789.trans (k5769.trans ((kq (a := 6) (b := 5) eσ5754 (by omega)).trans (k5608.trans (k5589.trans (k5087.trans (k8.trans ((kq (a := 6) (b := 5) eσ2 (fun q => absurd q.1 (by decide)))))))))), k5790.trans (k5770.trans ((kq (a := 7) (b := 4) eσ5754 (by omega)).trans (k5609.trans (k5590.trans (k5088.trans (k9.trans ((kq (a := 7) (b := 4) eσ2 (fun q => absurd q.1 (by decide)))))))))), k5791.trans (k5771.trans ((kq (a := 2) (b := 4) eσ5754 (by omega)).trans (k5610.trans (k5591.trans (k5089.trans (k10.trans ((kq (a := 2) (b := 4) eσ2 (fun q => absurd q.1 (by decide))))))))))⟩)
                      · have f5796 := tB (σ5764.1 3 11)
                        first | have f5797 := (noteqE (rfl : (σ5764.1 3 11).toInt = (σ5764.1 3 11).toInt) (show (0 : Int32).toInt = 0 from by decide)).mp c5778 | skip
                        unfold fX2_doOrder_j174
                        exact hQ _ hσ5764 (⟨k5767.trans ((kq (a := 9) (b := 9) eσ5754 (by omega)).trans (k5606.trans (k5587.trans (k5085.trans (k6.trans ((kq (a := 9) (b := 9) eσ2 (fun q => absurd q.1 (by decide))))))))), k5768.trans ((kq (a := 9) (b := 10) eσ5754 (by omega)).trans (k5607.trans (k5588.trans (k5086.trans (k7.trans ((kq (a := 9) (b := 10) eσ2 (fun q => absurd q.1 (by decide))))))))), k5769.trans ((kq (a := 6) (b := 5) eσ5754 (by omega)).trans (k5608.trans (k5589.trans (k5087.trans (k8.trans ((kq (a := 6) (b := 5) eσ2 (fun q => absurd q.1 (by decide))))))))), k5770.trans ((kq (a := 7) (b := 4) eσ5754 (by omega)).trans (k5609.trans (k5590.trans (k5088.trans (k9.trans ((kq (a := 7) (b := 4) eσ2 (fun q => absurd q.1 (by decide))))))))), k5771.trans ((kq (a := 2) (b := 4) eσ5754 (by omega)).trans (k5610.trans (k5591.trans (k5089.trans (k10.trans ((kq (a := 2) (b := 4) eσ2 (fun q => absurd q.1 (by decide)))))))))⟩)
                    · first | have f5799 := (noteqE (rfl : (jT r15.toNatClampNeg).toInt = (jT r15.toNatClampNeg).toInt) (show (1 : Int32).toInt = 1 from by decide)).mp c5758 | skip
                      have g5801 : vp_in r15 18 := inE (rfl : r15.toInt = r15.toInt) (by omega) (by omega)
                      refine ⟨g5801, ?_⟩
                      refine ⟨fun c5802 => ?_, fun c5802 => ?_⟩
                      · first | have f5804 := (eqE (rfl : (jT r15.toNatClampNeg).toInt = (jT r15.toNatClampNeg).toInt) (show (2 : Int32).toInt = 2 from by decide)).mp c5802 | skip
                        have f5806 := tB r5094
                        have f5807 := tB r5596
                        refine sX2_goesThere hN hσ5754 (fun r5821 p5822 => ?_)
                        refine ⟨fun c5823 => ?_, fun c5823 => ?_⟩
                        · have f5824 := tB r5821
                          first | have f5825 := (eqE (rfl : r5821.toInt = r5821.toInt) (show (0 : Int32).toInt = 0 from by decide)).mp c5823 | skip
                          exact hQ _ hσ5754 (⟨(kq (a := 9) (b := 9) eσ5754 (by omega)).trans (k5606.trans (k5587.trans (k5085.trans (k6.trans ((kq (a := 9) (b := 9) eσ2 (fun q => absurd q.1 (by decide)))))))), (kq (a := 9) (b := 10) eσ5754 (by omega)).trans (k5607.trans (k5588.trans (k5086.trans (k7.trans ((kq (a := 9) (b := 10) eσ2 (fun q => absurd q.1 (by decide)))))))), (kq (a := 6) (b := 5) eσ5754 (by omega)).trans (k5608.trans (k5589.trans (k5087.trans (k8.trans ((kq (a := 6) (b := 5) eσ2 (fun q => absurd q.1 (by decide)))))))), (kq (a := 7) (b := 4) eσ5754 (by omega)).trans (k5609.trans (k5590.trans (k5088.trans (k9.trans ((kq (a := 7) (b := 4) eσ2 (fun q => absurd q.1 (by decide)))))))), (kq (a := 2) (b := 4) eσ5754 (by omega)).trans (k5610.trans (k5591.trans (k5089.trans (k10.trans ((kq (a := 2) (b := 4) eσ2 (fun q => absurd q.1 (by decide))))))))⟩)
                        · have f5826 := tB r5821
                          first | have f5827 := (noteqE (rfl : r5821.toInt = r5821.toInt) (show (0 : Int32).toInt = 0 from by decide)).mp c5823 | skip
                          intro v5828 ev5828
                          intro σ5829 eσ5829
                          have kb5830 := jobK_b hk1
                          have hσ5829 : K1 σ0 σ5829 := by rw [eσ5829]; exact hσ5754.u (rg_jobK hk1) (by omega) (by omega)
                          exact hQ _ hσ5829 (⟨(kq (a := 9) (b := 9) eσ5829 (by omega)).trans ((kq (a := 9) (b := 9) eσ5754 (by omega)).trans (k5606.trans (k5587.trans (k5085.trans (k6.trans ((kq (a := 9) (b := 9) eσ2 (fun q => absurd q.1 (by decide))))))))), (kq (a := 9) (b := 10) eσ5829 (by omega)).trans ((kq (a := 9) (b := 10) eσ5754 (by omega)).trans (k5607.trans (k5588.trans (k5086.trans (k7.trans ((kq (a := 9) (b := 10) eσ2 (fun q => absurd q.1 (by decide))))))))), (kq (a := 6) (b := 5) eσ5829 (by omega)).trans ((kq (a := 6) (b := 5) eσ5754 (by omega)).trans (k5608.trans (k5589.trans (k5087.trans (k8.trans ((kq (a := 6) (b := 5) eσ2 (fun q => absurd q.1 (by decide))))))))), (kq (a := 7) (b := 4) eσ5829 (by omega)).trans ((kq (a := 7) (b := 4) eσ5754 (by omega)).trans (k5609.trans (k5590.trans (k5088.trans (k9.trans ((kq (a := 7) (b := 4) eσ2 (fun q => absurd q.1 (by decide))))))))), (kq (a := 2) (b := 4) eσ5829 (by omega)).trans ((kq (a := 2) (b := 4) eσ5754 (by omega)).trans (k5610.trans (k5591.trans (k5089.trans (k10.trans ((kq (a := 2) (b := 4) eσ2 (fun q => absurd q.1 (by decide)))))))))⟩)
                      · first | have f5832 := (noteqE (rfl : (jT r15.toNatClampNeg).toInt = (jT r15.toNatClampNeg).toInt) (show (2 : Int32).toInt = 2 from by decide)).mp c5802 | skip
                        have f5834 := tB r5094
                        have f5835 := tB r5596
                        have f5837 := K1.g_3_7 hσ5754
                        have q5838 : σ5754.1 3 7 = σ5603.1 3 7 := by rw [eσ5754]; exact congrFun (u1_ne (by omega)) 7
                        have f5839 := congrArg Int32.toInt q5838
                        have f5840 := K1.g_3_7 hσ5603
                        have f5841 := congrArg Int32.toInt k5604
                        have f5842 := K1.g_3_7 hσ5584
                        have f5843 := congrArg Int32.toInt k5585
                        have f5844 := K1.g_3_7 hσ5082
                        have f5845 := congrArg Int32.toInt k5083
                        have f5846 := K1.g_3_7 hσ3
                        have f5847 := congrArg Int32.toInt k4
                        have f5848 := K1.g_3_7 hσ2
                        have q5849 : σ2.1 3 7 = σ.1 3 7 := by rw [eσ2, u1_at]; exact if_neg (by decide)
                        have f5850 := congrArg Int32.toInt q5849
                        have f5851 := K1.g_3_7 hσ
                        refine sX2_act hN hk1 ⟨by omega, by omega⟩ hσ5754 (fun σ5836 hσ5836 kk5857 => ?_)
                        obtain ⟨k5852, k5853, k5854, k5855, k5856⟩ := kk5857
                        exact hQ _ hσ5836 (⟨k5852.trans ((kq (a := 9) (b := 9) eσ5754 (by omega)).trans (k5606.trans (k5587.trans (k5085.trans (k6.trans ((kq (a := 9) (b := 9) eσ2 (fun q => absurd q.1 (by decide))))))))), k5853.trans ((kq (a := 9) (b := 10) eσ5754 (by omega)).trans (k5607.trans (k5588.trans (k5086.trans (k7.trans ((kq (a := 9) (b := 10) eσ2 (fun q => absurd q.1 (by decide))))))))), k5854.trans ((kq (a := 6) (b := 5) eσ5754 (by omega)).trans (k5608.trans (k5589.trans (k5087.trans (k8.trans ((kq (a := 6) (b := 5) eσ2 (fun q => absurd q.1 (by decide))))))))), k5855.trans ((kq (a := 7) (b := 4) eσ5754 (by omega)).trans (k5609.trans (k5590.trans (k5088.trans (k9.trans ((kq (a := 7) (b := 4) eσ2 (fun q => absurd q.1 (by decide))))))))), k5856.trans ((kq (a := 2) (b := 4) eσ5754 (by omega)).trans (k5610.trans (k5591.trans (k5089.trans (k10.trans ((kq (a := 2) (b := 4) eσ2 (fun q => absurd q.1 (by decide)))))))))⟩)
                  · have f5858 := tB (σ5603.1 3 11)
                    first | have f5859 := (noteqE (rfl : (σ5603.1 3 11).toInt = (σ5603.1 3 11).toInt) (show (0 : Int32).toInt = 0 from by decide)).mp c5750 | skip
                    exact hQ _ hσ5603 (⟨k5606.trans (k5587.trans (k5085.trans (k6.trans ((kq (a := 9) (b := 9) eσ2 (fun q => absurd q.1 (by decide))))))), k5607.trans (k5588.trans (k5086.trans (k7.trans ((kq (a := 9) (b := 10) eσ2 (fun q => absurd q.1 (by decide))))))), k5608.trans (k5589.trans (k5087.trans (k8.trans ((kq (a := 6) (b := 5) eσ2 (fun q => absurd q.1 (by decide))))))), k5609.trans (k5590.trans (k5088.trans (k9.trans ((kq (a := 7) (b := 4) eσ2 (fun q => absurd q.1 (by decide))))))), k5610.trans (k5591.trans (k5089.trans (k10.trans ((kq (a := 2) (b := 4) eσ2 (fun q => absurd q.1 (by decide)))))))⟩)
              · have f5860 := tB (jT r15.toNatClampNeg)
                first | have f5861 := (noteqE (rfl : (jT r15.toNatClampNeg).toInt = (jT r15.toNatClampNeg).toInt) (show (1 : Int32).toInt = 1 from by decide)).mp c5600 | skip
                unfold fX2_doOrder_j103
                have g5863 : vp_in r15 18 := inE (rfl : r15.toInt = r15.toInt) (by omega) (by omega)
                refine ⟨g5863, ?_⟩
                refine ⟨fun c5864 => ?_, fun c5864 => ?_⟩
                · first | have f5866 := (eqE (rfl : (jT r15.toNatClampNeg).toInt = (jT r15.toNatClampNeg).toInt) (show (2 : Int32).toInt = 2 from by decide)).mp c5864 | skip
                  refine sX2_nextDistance hN hσ5584 (fun r5879 σ5867 hσ5867 kk5878 p5880 => ?_)
                  obtain ⟨k5868, k5869, k5870, k5871, k5872, k5873, k5874, k5875, k5876, k5877⟩ := kk5878
                  unfold fX2_doOrder_j122
                  refine ⟨fun c5881 => ?_, fun c5881 => ?_⟩
                  · have f5882 := tB (σ5867.1 3 11)
                    first | have f5883 := (eqE (rfl : (σ5867.1 3 11).toInt = (σ5867.1 3 11).toInt) (show (0 : Int32).toInt = 0 from by decide)).mp c5881 | skip
                    intro v5884 ev5884
                    intro σ5885 eσ5885
                    have kb5886 := jobK_b hk1
                    have hσ5885 : K1 σ0 σ5885 := by rw [eσ5885]; exact hσ5867.u (rg_jobK hk1) (by omega) (by omega)
                    have g5888 : vp_in r15 18 := inE (rfl : r15.toInt = r15.toInt) (by omega) (by omega)
                    refine ⟨g5888, ?_⟩
                    refine ⟨fun c5889 => ?_, fun c5889 => ?_⟩
                    · first | have f5891 := (eqE (rfl : (jT r15.toNatClampNeg).toInt = (jT r15.toNatClampNeg).toInt) (show (1 : Int32).toInt = 1 from by decide)).mp c5889 | skip
                      have f5893 := tB r5094
                      have f5894 := tB r5596
                      refine sX2_valueFor hN hσ5885 (fun r5907 σ5895 hσ5895 kk5906 p5908 => ?_)
                      obtain ⟨k5896, k5897, k5898, k5899, k5900, k5901, k5902, k5903, k5904, k5905⟩ := kk5906
                      refine ⟨fun c5909 => ?_, fun c5909 => ?_⟩
                      · have f5910 := tB (σ5895.1 3 11)
                        first | have f5911 := (eqE (rfl : (σ5895.1 3 11).toInt = (σ5895.1 3 11).toInt) (show (0 : Int32).toInt = 0 from by decide)).mp c5909 | skip
                        have f5912 := tB r5907
                        refine sX1_setLocal hN hk1 hσ5895 (fun σ5913 hσ5913 kk5925 => ?_)
                        obtain ⟨k5914, k5915, k5916, k5917, k5918, k5919, k5920, k5921, k5922, k5923, k5924⟩ := kk5925
                        unfold fX2_doOrder_j174
                        exact hQ _ hσ5913 (⟨k5917.trans (k5898.trans ((kq (a := 9) (b := 9) eσ5885 (by omega)).trans (k5870.trans (k5587.trans (k5085.trans (k6.trans ((kq (a := 9) (b := 9) eσ2 (fun q => absurd q.1 (by decide)))))))))), k5918.trans (k5899.trans ((kq (a := 9) (b := 10) eσ5885 (by omega)).trans (k5871.trans (k5588.trans (k5086.trans (k7.trans ((kq (a := 9) (b := 10) eσ2 (fun q => absurd q.1 (by decide)))))))))), k5919.trans (k5900.trans ((kq (a := 6) (b := 5) eσ5885 (by omega)).trans (k5872.trans (k5589.trans (k5087.trans (k8.trans ((kq (a := 6) (b := 5) eσ2 (fun q => absurd q.1 (by decide)))))))))), k5920.trans (k5901.trans ((kq (a := 7) (b := 4) eσ5885 (by omega)).trans (k5873.trans (k5590.trans (k5088.trans (k9.trans ((kq (a := 7) (b := 4) eσ2 (fun q => absurd q.1 (by decide)))))))))), k5921.trans (k5902.trans ((kq (a := 2) (b := 4) eσ5885 (by omega)).trans (k5874.trans (k5591.trans (k5089.trans (k10.trans ((kq (a := 2) (b := 4) eσ2 (fun q => absurd q.1 (by decide))))))))))⟩)
                      · have f5926 := tB (σ5895.1 3 11)
                        first | have f5927 := (noteqE (rfl : (σ5895.1 3 11).toInt = (σ5895.1 3 11).toInt) (show (0 : Int32).toInt = 0 from by decide)).mp c5909 | skip
                        unfold fX2_doOrder_j174
                        exact hQ _ hσ5895 (⟨k5898.trans ((kq (a := 9) (b := 9) eσ5885 (by omega)).trans (k5870.trans (k5587.trans (k5085.trans (k6.trans ((kq (a := 9) (b := 9) eσ2 (fun q => absurd q.1 (by decide))))))))), k5899.trans ((kq (a := 9) (b := 10) eσ5885 (by omega)).trans (k5871.trans (k5588.trans (k5086.trans (k7.trans ((kq (a := 9) (b := 10) eσ2 (fun q => absurd q.1 (by decide))))))))), k5900.trans ((kq (a := 6) (b := 5) eσ5885 (by omega)).trans (k5872.trans (k5589.trans (k5087.trans (k8.trans ((kq (a := 6) (b := 5) eσ2 (fun q => absurd q.1 (by decide))))))))), k5901.trans ((kq (a := 7) (b := 4) eσ5885 (by omega)).trans (k5873.trans (k5590.trans (k5088.trans (k9.trans ((kq (a := 7) (b := 4) eσ2 (fun q => absurd q.1 (by decide))))))))), k5902.trans ((kq (a := 2) (b := 4) eσ5885 (by omega)).trans (k5874.trans (k5591.trans (k5089.trans (k10.trans ((kq (a := 2) (b := 4) eσ2 (fun q => absurd q.1 (by decide)))))))))⟩)
                    · first | have f5929 := (noteqE (rfl : (jT r15.toNatClampNeg).toInt = (jT r15.toNatClampNeg).toInt) (show (1 : Int32).toInt = 1 from by decide)).mp c5889 | skip
                      have g5931 : vp_in r15 18 := inE (rfl : r15.toInt = r15.toInt) (by omega) (by omega)
                      refine ⟨g5931, ?_⟩
                      refine ⟨fun c5932 => ?_, fun c5932 => ?_⟩
                      · first | have f5934 := (eqE (rfl : (jT r15.toNatClampNeg).toInt = (jT r15.toNatClampNeg).toInt) (show (2 : Int32).toInt = 2 from by decide)).mp c5932 | skip
                        have f5936 := tB r5094
                        have f5937 := tB r5596
                        refine sX2_goesThere hN hσ5885 (fun r5951 p5952 => ?_)
                        refine ⟨fun c5953 => ?_, fun c5953 => ?_⟩
                        · have f5954 := tB r5951
                          first | have f5955 := (eqE (rfl : r5951.toInt = r5951.toInt) (show (0 : Int32).toInt = 0 from by decide)).mp c5953 | skip
                          exact hQ _ hσ5885 (⟨(kq (a := 9) (b := 9) eσ5885 (by omega)).trans (k5870.trans (k5587.trans (k5085.trans (k6.trans ((kq (a := 9) (b := 9) eσ2 (fun q => absurd q.1 (by decide)))))))), (kq (a := 9) (b := 10) eσ5885 (by omega)).trans (k5871.trans (k5588.trans (k5086.trans (k7.trans ((kq (a := 9) (b := 10) eσ2 (fun q => absurd q.1 (by decide)))))))), (kq (a := 6) (b := 5) eσ5885 (by omega)).trans (k5872.trans (k5589.trans (k5087.trans (k8.trans ((kq (a := 6) (b := 5) eσ2 (fun q => absurd q.1 (by decide)))))))), (kq (a := 7) (b := 4) eσ5885 (by omega)).trans (k5873.trans (k5590.trans (k5088.trans (k9.trans ((kq (a := 7) (b := 4) eσ2 (fun q => absurd q.1 (by decide)))))))), (kq (a := 2) (b := 4) eσ5885 (by omega)).trans (k5874.trans (k5591.trans (k5089.trans (k10.trans ((kq (a := 2) (b := 4) eσ2 (fun q => absurd q.1 (by decide))))))))⟩)
                        · have f5956 := tB r5951
                          first | have f5957 := (noteqE (rfl : r5951.toInt = r5951.toInt) (show (0 : Int32).toInt = 0 from by decide)).mp c5953 | skip
                          intro v5958 ev5958
                          intro σ5959 eσ5959
                          have kb5960 := jobK_b hk1
                          have hσ5959 : K1 σ0 σ5959 := by rw [eσ5959]; exact hσ5885.u (rg_jobK hk1) (by omega) (by omega)
                          exact hQ _ hσ5959 (⟨(kq (a := 9) (b := 9) eσ5959 (by omega)).trans ((kq (a := 9) (b := 9) eσ5885 (by omega)).trans (k5870.trans (k5587.trans (k5085.trans (k6.trans ((kq (a := 9) (b := 9) eσ2 (fun q => absurd q.1 (by decide))))))))), (kq (a := 9) (b := 10) eσ5959 (by omega)).trans ((kq (a := 9) (b := 10) eσ5885 (by omega)).trans (k5871.trans (k5588.trans (k5086.trans (k7.trans ((kq (a := 9) (b := 10) eσ2 (fun q => absurd q.1 (by decide))))))))), (kq (a := 6) (b := 5) eσ5959 (by omega)).trans ((kq (a := 6) (b := 5) eσ5885 (by omega)).trans (k5872.trans (k5589.trans (k5087.trans (k8.trans ((kq (a := 6) (b := 5) eσ2 (fun q => absurd q.1 (by decide))))))))), (kq (a := 7) (b := 4) eσ5959 (by omega)).trans ((kq (a := 7) (b := 4) eσ5885 (by omega)).trans (k5873.trans (k5590.trans (k5088.trans (k9.trans ((kq (a := 7) (b := 4) eσ2 (fun q => absurd q.1 (by decide))))))))), (kq (a := 2) (b := 4) eσ5959 (by omega)).trans ((kq (a := 2) (b := 4) eσ5885 (by omega)).trans (k5874.trans (k5591.trans (k5089.trans (k10.trans ((kq (a := 2) (b := 4) eσ2 (fun q => absurd q.1 (by decide)))))))))⟩)
                      · first | have f5962 := (noteqE (rfl : (jT r15.toNatClampNeg).toInt = (jT r15.toNatClampNeg).toInt) (show (2 : Int32).toInt = 2 from by decide)).mp c5932 | skip
                        have f5964 := tB r5094
                        have f5965 := tB r5596
                        have f5967 := K1.g_3_7 hσ5885
                        have q5968 : σ5885.1 3 7 = σ5867.1 3 7 := by rw [eσ5885]; exact congrFun (u1_ne (by omega)) 7
                        have f5969 := congrArg Int32.toInt q5968
                        have f5970 := K1.g_3_7 hσ5867
                        have f5971 := congrArg Int32.toInt k5868
                        have f5972 := K1.g_3_7 hσ5584
                        have f5973 := congrArg Int32.toInt k5585
                        have f5974 := K1.g_3_7 hσ5082
                        have f5975 := congrArg Int32.toInt k5083
                        have f5976 := K1.g_3_7 hσ3
                        have f5977 := congrArg Int32.toInt k4
                        have f5978 := K1.g_3_7 hσ2
                        have q5979 : σ2.1 3 7 = σ.1 3 7 := by rw [eσ2, u1_at]; exact if_neg (by decide)
                        have f5980 := congrArg Int32.toInt q5979
                        have f5981 := K1.g_3_7 hσ
                        refine sX2_act hN hk1 ⟨by omega, by omega⟩ hσ5885 (fun σ5966 hσ5966 kk5987 => ?_)
                        obtain ⟨k5982, k5983, k5984, k5985, k5986⟩ := kk5987
                        exact hQ _ hσ5966 (⟨k5982.trans ((kq (a := 9) (b := 9) eσ5885 (by omega)).trans (k5870.trans (k5587.trans (k5085.trans (k6.trans ((kq (a := 9) (b := 9) eσ2 (fun q => absurd q.1 (by decide))))))))), k5983.trans ((kq (a := 9) (b := 10) eσ5885 (by omega)).trans (k5871.trans (k5588.trans (k5086.trans (k7.trans ((kq (a := 9) (b := 10) eσ2 (fun q => absurd q.1 (by decide))))))))), k5984.trans ((kq (a := 6) (b := 5) eσ5885 (by omega)).trans (k5872.trans (k5589.trans (k5087.trans (k8.trans ((kq (a := 6) (b := 5) eσ2 (fun q => absurd q.1 (by decide))))))))), k5985.trans ((kq (a := 7) (b := 4) eσ5885 (by omega)).trans (k5873.trans (k5590.trans (k5088.trans (k9.trans ((kq (a := 7) (b := 4) eσ2 (fun q => absurd q.1 (by decide))))))))), k5986.trans ((kq (a := 2) (b := 4) eσ5885 (by omega)).trans (k5874.trans (k5591.trans (k5089.trans (k10.trans ((kq (a := 2) (b := 4) eσ2 (fun q => absurd q.1 (by decide)))))))))⟩)
                  · have f5988 := tB (σ5867.1 3 11)
                    first | have f5989 := (noteqE (rfl : (σ5867.1 3 11).toInt = (σ5867.1 3 11).toInt) (show (0 : Int32).toInt = 0 from by decide)).mp c5881 | skip
                    exact hQ _ hσ5867 (⟨k5870.trans (k5587.trans (k5085.trans (k6.trans ((kq (a := 9) (b := 9) eσ2 (fun q => absurd q.1 (by decide))))))), k5871.trans (k5588.trans (k5086.trans (k7.trans ((kq (a := 9) (b := 10) eσ2 (fun q => absurd q.1 (by decide))))))), k5872.trans (k5589.trans (k5087.trans (k8.trans ((kq (a := 6) (b := 5) eσ2 (fun q => absurd q.1 (by decide))))))), k5873.trans (k5590.trans (k5088.trans (k9.trans ((kq (a := 7) (b := 4) eσ2 (fun q => absurd q.1 (by decide))))))), k5874.trans (k5591.trans (k5089.trans (k10.trans ((kq (a := 2) (b := 4) eσ2 (fun q => absurd q.1 (by decide)))))))⟩)
                · first | have f5991 := (noteqE (rfl : (jT r15.toNatClampNeg).toInt = (jT r15.toNatClampNeg).toInt) (show (2 : Int32).toInt = 2 from by decide)).mp c5864 | skip
                  unfold fX2_doOrder_j122
                  refine ⟨fun c5992 => ?_, fun c5992 => ?_⟩
                  · have f5993 := tB (σ5584.1 3 11)
                    first | have f5994 := (eqE (rfl : (σ5584.1 3 11).toInt = (σ5584.1 3 11).toInt) (show (0 : Int32).toInt = 0 from by decide)).mp c5992 | skip
                    intro v5995 ev5995
                    intro σ5996 eσ5996
                    have kb5997 := jobK_b hk1
                    have hσ5996 : K1 σ0 σ5996 := by rw [eσ5996]; exact hσ5584.u (rg_jobK hk1) (by omega) (by omega)
                    have g5999 : vp_in r15 18 := inE (rfl : r15.toInt = r15.toInt) (by omega) (by omega)
                    refine ⟨g5999, ?_⟩
                    refine ⟨fun c6000 => ?_, fun c6000 => ?_⟩
                    · first | have f6002 := (eqE (rfl : (jT r15.toNatClampNeg).toInt = (jT r15.toNatClampNeg).toInt) (show (1 : Int32).toInt = 1 from by decide)).mp c6000 | skip
                      have f6004 := tB r5094
                      have f6005 := tB r5596
                      refine sX2_valueFor hN hσ5996 (fun r6018 σ6006 hσ6006 kk6017 p6019 => ?_)
                      obtain ⟨k6007, k6008, k6009, k6010, k6011, k6012, k6013, k6014, k6015, k6016⟩ := kk6017
                      refine ⟨fun c6020 => ?_, fun c6020 => ?_⟩
                      · have f6021 := tB (σ6006.1 3 11)
                        first | have f6022 := (eqE (rfl : (σ6006.1 3 11).toInt = (σ6006.1 3 11).toInt) (show (0 : Int32).toInt = 0 from by decide)).mp c6020 | skip
                        have f6023 := tB r6018
                        refine sX1_setLocal hN hk1 hσ6006 (fun σ6024 hσ6024 kk6036 => ?_)
                        obtain ⟨k6025, k6026, k6027, k6028, k6029, k6030, k6031, k6032, k6033, k6034, k6035⟩ := kk6036
                        unfold fX2_doOrder_j174
                        exact hQ _ hσ6024 (⟨k6028.trans (k6009.trans ((kq (a := 9) (b := 9) eσ5996 (by omega)).trans (k5587.trans (k5085.trans (k6.trans ((kq (a := 9) (b := 9) eσ2 (fun q => absurd q.1 (by decide))))))))), k6029.trans (k6010.trans ((kq (a := 9) (b := 10) eσ5996 (by omega)).trans (k5588.trans (k5086.trans (k7.trans ((kq (a := 9) (b := 10) eσ2 (fun q => absurd q.1 (by decide))))))))), k6030.trans (k6011.trans ((kq (a := 6) (b := 5) eσ5996 (by omega)).trans (k5589.trans (k5087.trans (k8.trans ((kq (a := 6) (b := 5) eσ2 (fun q => absurd q.1 (by decide))))))))), k6031.trans (k6012.trans ((kq (a := 7) (b := 4) eσ5996 (by omega)).trans (k5590.trans (k5088.trans (k9.trans ((kq (a := 7) (b := 4) eσ2 (fun q => absurd q.1 (by decide))))))))), k6032.trans (k6013.trans ((kq (a := 2) (b := 4) eσ5996 (by omega)).trans (k5591.trans (k5089.trans (k10.trans ((kq (a := 2) (b := 4) eσ2 (fun q => absurd q.1 (by decide)))))))))⟩)
                      · have f6037 := tB (σ6006.1 3 11)
                        first | have f6038 := (noteqE (rfl : (σ6006.1 3 11).toInt = (σ6006.1 3 11).toInt) (show (0 : Int32).toInt = 0 from by decide)).mp c6020 | skip
                        unfold fX2_doOrder_j174
                        exact hQ _ hσ6006 (⟨k6009.trans ((kq (a := 9) (b := 9) eσ5996 (by omega)).trans (k5587.trans (k5085.trans (k6.trans ((kq (a := 9) (b := 9) eσ2 (fun q => absurd q.1 (by decide)))))))), k6010.trans ((kq (a := 9) (b := 10) eσ5996 (by omega)).trans (k5588.trans (k5086.trans (k7.trans ((kq (a := 9) (b := 10) eσ2 (fun q => absurd q.1 (by decide)))))))), k6011.trans ((kq (a := 6) (b := 5) eσ5996 (by omega)).trans (k5589.trans (k5087.trans (k8.trans ((kq (a := 6) (b := 5) eσ2 (fun q => absurd q.1 (by decide)))))))), k6012.trans ((kq (a := 7) (b := 4) eσ5996 (by omega)).trans (k5590.trans (k5088.trans (k9.trans ((kq (a := 7) (b := 4) eσ2 (fun q => absurd q.1 (by decide)))))))), k6013.trans ((kq (a := 2) (b := 4) eσ5996 (by omega)).trans (k5591.trans (k5089.trans (k10.trans ((kq (a := 2) (b := 4) eσ2 (fun q => absurd q.1 (by decide))))))))⟩)
                    · first | have f6040 := (noteqE (rfl : (jT r15.toNatClampNeg).toInt = (jT r15.toNatClampNeg).toInt) (show (1 : Int32).toInt = 1 from by decide)).mp c6000 | skip
                      have g6042 : vp_in r15 18 := inE (rfl : r15.toInt = r15.toInt) (by omega) (by omega)
                      refine ⟨g6042, ?_⟩
                      refine ⟨fun c6043 => ?_, fun c6043 => ?_⟩
                      · first | have f6045 := (eqE (rfl : (jT r15.toNatClampNeg).toInt = (jT r15.toNatClampNeg).toInt) (show (2 : Int32).toInt = 2 from by decide)).mp c6043 | skip
                        have f6047 := tB r5094
                        have f6048 := tB r5596
                        refine sX2_goesThere hN hσ5996 (fun r6062 p6063 => ?_)
                        refine ⟨fun c6064 => ?_, fun c6064 => ?_⟩
                        · have f6065 := tB r6062
                          first | have f6066 := (eqE (rfl : r6062.toInt = r6062.toInt) (show (0 : Int32).toInt = 0 from by decide)).mp c6064 | skip
                          exact hQ _ hσ5996 (⟨(kq (a := 9) (b := 9) eσ5996 (by omega)).trans (k5587.trans (k5085.trans (k6.trans ((kq (a := 9) (b := 9) eσ2 (fun q => absurd q.1 (by decide))))))), (kq (a := 9) (b := 10) eσ5996 (by omega)).trans (k5588.trans (k5086.trans (k7.trans ((kq (a := 9) (b := 10) eσ2 (fun q => absurd q.1 (by decide))))))), (kq (a := 6) (b := 5) eσ5996 (by omega)).trans (k5589.trans (k5087.trans (k8.trans ((kq (a := 6) (b := 5) eσ2 (fun q => absurd q.1 (by decide))))))), (kq (a := 7) (b := 4) eσ5996 (by omega)).trans (k5590.trans (k5088.trans (k9.trans ((kq (a := 7) (b := 4) eσ2 (fun q => absurd q.1 (by decide))))))), (kq (a := 2) (b := 4) eσ5996 (by omega)).trans (k5591.trans (k5089.trans (k10.trans ((kq (a := 2) (b := 4) eσ2 (fun q => absurd q.1 (by decide)))))))⟩)
                        · have f6067 := tB r6062
                          first | have f6068 := (noteqE (rfl : r6062.toInt = r6062.toInt) (show (0 : Int32).toInt = 0 from by decide)).mp c6064 | skip
                          intro v6069 ev6069
                          intro σ6070 eσ6070
                          have kb6071 := jobK_b hk1
                          have hσ6070 : K1 σ0 σ6070 := by rw [eσ6070]; exact hσ5996.u (rg_jobK hk1) (by omega) (by omega)
                          exact hQ _ hσ6070 (⟨(kq (a := 9) (b := 9) eσ6070 (by omega)).trans ((kq (a := 9) (b := 9) eσ5996 (by omega)).trans (k5587.trans (k5085.trans (k6.trans ((kq (a := 9) (b := 9) eσ2 (fun q => absurd q.1 (by decide)))))))), (kq (a := 9) (b := 10) eσ6070 (by omega)).trans ((kq (a := 9) (b := 10) eσ5996 (by omega)).trans (k5588.trans (k5086.trans (k7.trans ((kq (a := 9) (b := 10) eσ2 (fun q => absurd q.1 (by decide)))))))), (kq (a := 6) (b := 5) eσ6070 (by omega)).trans ((kq (a := 6) (b := 5) eσ5996 (by omega)).trans (k5589.trans (k5087.trans (k8.trans ((kq (a := 6) (b := 5) eσ2 (fun q => absurd q.1 (by decide)))))))), (kq (a := 7) (b := 4) eσ6070 (by omega)).trans ((kq (a := 7) (b := 4) eσ5996 (by omega)).trans (k5590.trans (k5088.trans (k9.trans ((kq (a := 7) (b := 4) eσ2 (fun q => absurd q.1 (by decide)))))))), (kq (a := 2) (b := 4) eσ6070 (by omega)).trans ((kq (a := 2) (b := 4) eσ5996 (by omega)).trans (k5591.trans (k5089.trans (k10.trans ((kq (a := 2) (b := 4) eσ2 (fun q => absurd q.1 (by decide))))))))⟩)
                      · first | have f6073 := (noteqE (rfl : (jT r15.toNatClampNeg).toInt = (jT r15.toNatClampNeg).toInt) (show (2 : Int32).toInt = 2 from by decide)).mp c6043 | skip
                        have f6075 := tB r5094
                        have f6076 := tB r5596
                        have f6078 := K1.g_3_7 hσ5996
                        have q6079 : σ5996.1 3 7 = σ5584.1 3 7 := by rw [eσ5996]; exact congrFun (u1_ne (by omega)) 7
                        have f6080 := congrArg Int32.toInt q6079
                        have f6081 := K1.g_3_7 hσ5584
                        have f6082 := congrArg Int32.toInt k5585
                        have f6083 := K1.g_3_7 hσ5082
                        have f6084 := congrArg Int32.toInt k5083
                        have f6085 := K1.g_3_7 hσ3
                        have f6086 := congrArg Int32.toInt k4
                        have f6087 := K1.g_3_7 hσ2
                        have q6088 : σ2.1 3 7 = σ.1 3 7 := by rw [eσ2, u1_at]; exact if_neg (by decide)
                        have f6089 := congrArg Int32.toInt q6088
                        have f6090 := K1.g_3_7 hσ
                        refine sX2_act hN hk1 ⟨by omega, by omega⟩ hσ5996 (fun σ6077 hσ6077 kk6096 => ?_)
                        obtain ⟨k6091, k6092, k6093, k6094, k6095⟩ := kk6096
                        exact hQ _ hσ6077 (⟨k6091.trans ((kq (a := 9) (b := 9) eσ5996 (by omega)).trans (k5587.trans (k5085.trans (k6.trans ((kq (a := 9) (b := 9) eσ2 (fun q => absurd q.1 (by decide)))))))), k6092.trans ((kq (a := 9) (b := 10) eσ5996 (by omega)).trans (k5588.trans (k5086.trans (k7.trans ((kq (a := 9) (b := 10) eσ2 (fun q => absurd q.1 (by decide)))))))), k6093.trans ((kq (a := 6) (b := 5) eσ5996 (by omega)).trans (k5589.trans (k5087.trans (k8.trans ((kq (a := 6) (b := 5) eσ2 (fun q => absurd q.1 (by decide)))))))), k6094.trans ((kq (a := 7) (b := 4) eσ5996 (by omega)).trans (k5590.trans (k5088.trans (k9.trans ((kq (a := 7) (b := 4) eσ2 (fun q => absurd q.1 (by decide)))))))), k6095.trans ((kq (a := 2) (b := 4) eσ5996 (by omega)).trans (k5591.trans (k5089.trans (k10.trans ((kq (a := 2) (b := 4) eσ2 (fun q => absurd q.1 (by decide))))))))⟩)
                  · have f6097 := tB (σ5584.1 3 11)
                    first | have f6098 := (noteqE (rfl : (σ5584.1 3 11).toInt = (σ5584.1 3 11).toInt) (show (0 : Int32).toInt = 0 from by decide)).mp c5992 | skip
                    exact hQ _ hσ5584 (⟨k5587.trans (k5085.trans (k6.trans ((kq (a := 9) (b := 9) eσ2 (fun q => absurd q.1 (by decide)))))), k5588.trans (k5086.trans (k7.trans ((kq (a := 9) (b := 10) eσ2 (fun q => absurd q.1 (by decide)))))), k5589.trans (k5087.trans (k8.trans ((kq (a := 6) (b := 5) eσ2 (fun q => absurd q.1 (by decide)))))), k5590.trans (k5088.trans (k9.trans ((kq (a := 7) (b := 4) eσ2 (fun q => absurd q.1 (by decide)))))), k5591.trans (k5089.trans (k10.trans ((kq (a := 2) (b := 4) eσ2 (fun q => absurd q.1 (by decide))))))⟩)
      · first | have f6100 := (noteqE (rfl : (σ3.1 3 11).toInt = (σ3.1 3 11).toInt) (show (0 : Int32).toInt = 0 from by decide)).mp c4094 | skip
        exact hQ _ hσ3 (⟨k6.trans ((kq (a := 9) (b := 9) eσ2 (fun q => absurd q.1 (by decide)))), k7.trans ((kq (a := 9) (b := 10) eσ2 (fun q => absurd q.1 (by decide)))), k8.trans ((kq (a := 6) (b := 5) eσ2 (fun q => absurd q.1 (by decide)))), k9.trans ((kq (a := 7) (b := 4) eσ2 (fun q => absurd q.1 (by decide)))), k10.trans ((kq (a := 2) (b := 4) eσ2 (fun q => absurd q.1 (by decide))))⟩)
