theorem mwMaxS : Cond.static Lib.Math.max.name ∈ Uw := Uw_of (inT3 _ (List.mem_of_getElem? (i := 54) rfl)) rfl
theorem mwMathI : Cond.initialized "java/lang/Math" ∈ Uw := Uw_of (inT1 _ (List.mem_of_getElem? (i := 14) rfl)) rfl
theorem mwMaxC : Cond.code Lib.Math.max.name Lib.Math.max.code 2 (some .int) ∈ Uw := Uw_of (inT3 _ (List.mem_of_getElem? (i := 55) rfl)) rfl
theorem mwAbsS : Cond.static Lib.MathLoose.abs_long.x ∈ Uw := Uw_of (inT3 _ (List.mem_of_getElem? (i := 191) rfl)) rfl
theorem mwAbsC : Cond.code Lib.MathLoose.abs_long.x Lib.MathLoose.abs_long.code 2 (some .long) ∈ Uw := Uw_of (inT3 _ (List.mem_of_getElem? (i := 192) rfl)) rfl
