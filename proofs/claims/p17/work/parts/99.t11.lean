section CACHE11
variable {a b : St} {N : Nat} {k : Int} {x1 x2 : Int32}
theorem Cch.nn (h : Cch a b) : 0 ≤ (b.1 0 7).toInt := by
  rcases h with h | h
  · exact h.2.2.1
  · exact h.2.1
theorem Cch.hz (h : Cch a b) (hB : (b.1 0 1).toInt ≤ 4096) : 0 < (b.1 0 7).toInt → 0 ≤ (b.2 0 8).toInt ∧ (b.2 0 8).toInt ≤ 100000 := by
  intro p
  have ck : CK a b := by
    rcases h with h | h
    · exact h.2.1
    · exact h.2.2 p
  obtain ⟨q1, q2, q3, q4, q5⟩ := ck
  omega
theorem Vt.rf {c : St} {lo hi : Nat} : Vt c lo hi c (fun _ => False)   := ⟨⟨rfl, fun _ _ => rfl⟩, rfl, rfl, Or.inl ⟨rfl, fun _ _ d => d.elim⟩⟩
theorem v_loadT (hN : 4294967400 ≤ N) (hg : G2 b) (hc : 0 ≤ (b.1 0 7).toInt) (hz : 0 < (b.1 0 7).toInt → 0 ≤ (b.2 0 8).toInt ∧ (b.2 0 8).toInt ≤ 100000) : fX12_load N x1 (fun _ τ => ((0 ≤ x1.toInt ∧ x1.toInt + (b.1 0 3).toInt ≤ 4096) ∧ Vt b x1.toNatClampNeg (x1.toNatClampNeg + (b.1 0 3).toNatClampNeg) τ (fun x => x1.toNatClampNeg ≤ x ∧ x < x1.toNatClampNeg + (b.1 0 3).toNatClampNeg)) ∨ (¬ (0 ≤ x1.toInt ∧ x1.toInt + (b.1 0 3).toInt ≤ 4096) ∧ FB b τ)) b := by
  have z0 : (0 : Int32).toInt = 0 := by decide
  have zmL : (4096 : Int64).toInt = 4096 := by decide
  have d := K2.g_0_3 (K2.self hg)
  have cn := clE (rfl : (b.1 0 3).toInt = _) d.1
  have eL : (x1.toInt64 + (b.1 0 3).toInt64).toInt = x1.toInt + (b.1 0 3).toInt := aOkE64 (i2lE rfl) (i2lE rfl) (by have := tB x1; omega) (by have := tB x1; omega)
  have fb : FB b (u1 b 0 3 0) := FB.rf.u (by omega)
  intro w ew t et
  rw [et, ew]
  refine ⟨fun c => Or.inr ⟨fun q => ?_, fb⟩, fun c => ⟨fun c2 => ?_, fun c2 => Or.inr ⟨fun q => ?_, fb⟩⟩⟩
  · have := (ltE (rfl : x1.toInt = _) z0).mp c
    omega
  · have c' := (notltE (rfl : x1.toInt = _) z0).mp c
    have c2' := (leE64 eL zmL).mp c2
    have cx := clE (rfl : x1.toInt = _) (by omega)
    have g0 : G2 (u1 b 0 3 0) := hg.uf (by simp [Rg2, In32]) (by decide)
    refine v_load (c := b) (lo := x1.toNatClampNeg) (hi := x1.toNatClampNeg + (b.1 0 3).toNatClampNeg) hN cx.symm d.1 d.2 (by omega) (by omega) hc hz (K2.self g0) (Vt.rf.ext rfl (fun i q => u1e (by omega)) (fun _ d => d) (rwn (rfl : u1 b 0 3 0 = _) (by decide))) (fun τ v => Or.inl ⟨⟨by omega, by omega⟩, v⟩)
  · have := (notleE64 eL zmL).mp c2
    omega
end CACHE11
