theorem kuobj : Cond.code objectInit ⟨#[0xb1]⟩ 1 none ∈ Uw := Uw_of (inT1 _ (List.mem_of_getElem? (i := 23) rfl)) rfl
theorem ku0 : Cond.methodLink "GlulxStrings$Memory" 1 objectInit ∈ Uw := Uw_of (inT1 _ (List.mem_of_getElem? (i := 29) rfl)) rfl
theorem ku1 : Cond.instanceMethod objectInit ∈ Uw := Uw_of (inT1 _ (List.mem_of_getElem? (i := 22) rfl)) rfl
theorem ku2 : Cond.arrayClass FieldType.byte ∈ Uw := Uw_of (inT1 _ (List.mem_of_getElem? (i := 41) rfl)) rfl
theorem ku3 : Cond.fieldLink "GlulxStrings$Memory" 9 "GlulxStrings$Memory" "bytes" "[B" ∈ Uw := Uw_of (inT1 _ (List.mem_of_getElem? (i := 30) rfl)) rfl
theorem ku4 : Cond.fieldLink "GlulxStrings$Memory" 13 "GlulxStrings$Memory" "border" "I" ∈ Uw := Uw_of (inT1 _ (List.mem_of_getElem? (i := 32) rfl)) rfl
theorem ku5 : Cond.methodLink "GlulxStrings$Table" 1 objectInit ∈ Uw := Uw_of (inT1 _ (List.mem_of_getElem? (i := 47) rfl)) rfl
theorem ku6 : Cond.arrayClass FieldType.int ∈ Uw := Uw_of (inT1 _ (List.mem_of_getElem? (i := 78) rfl)) rfl
theorem ku7 : Cond.fieldLink "GlulxStrings$Table" 9 "GlulxStrings$Table" "seenIn" "[I" ∈ Uw := Uw_of (inT1 _ (List.mem_of_getElem? (i := 49) rfl)) rfl
theorem ku8 : Cond.fieldLink "GlulxStrings$Table" 15 "GlulxStrings$Table" "found" "[I" ∈ Uw := Uw_of (inT1 _ (List.mem_of_getElem? (i := 50) rfl)) rfl
theorem ku9 : Cond.fieldLink "GlulxStrings$Table" 18 "GlulxStrings$Table" "counts" "I" ∈ Uw := Uw_of (inT1 _ (List.mem_of_getElem? (i := 51) rfl)) rfl
theorem ku10 : Cond.fieldLink "GlulxStrings$Table" 22 "GlulxStrings$Table" "foundCount" "I" ∈ Uw := Uw_of (inT1 _ (List.mem_of_getElem? (i := 52) rfl)) rfl
theorem ku11 : Cond.fieldLink "GlulxStrings$Table" 25 "GlulxStrings$Table" "from" "I" ∈ Uw := Uw_of (inT1 _ (List.mem_of_getElem? (i := 53) rfl)) rfl
theorem ku12 : Cond.fieldLink "GlulxStrings$Table" 28 "GlulxStrings$Table" "to" "I" ∈ Uw := Uw_of (inT1 _ (List.mem_of_getElem? (i := 54) rfl)) rfl
theorem ku13 : Cond.fieldLink "GlulxStrings$Table" 31 "GlulxStrings$Table" "nodes" "I" ∈ Uw := Uw_of (inT1 _ (List.mem_of_getElem? (i := 55) rfl)) rfl
theorem ku14 : Cond.fieldLink "GlulxStrings$Table" 34 "GlulxStrings$Table" "address" "I" ∈ Uw := Uw_of (inT1 _ (List.mem_of_getElem? (i := 56) rfl)) rfl
theorem ku15 : Cond.fieldLink "GlulxStrings$Table" 37 "GlulxStrings$Table" "memory" "LGlulxStrings$Memory;" ∈ Uw := Uw_of (inT1 _ (List.mem_of_getElem? (i := 48) rfl)) rfl
theorem ku16 : Cond.methodLink "GlulxStrings$Tally" 3 objectInit ∈ Uw := Uw_of (inT1 _ (List.mem_of_getElem? (i := 90) rfl)) rfl
theorem ku17 : Cond.fieldLink "GlulxStrings$Tally" 9 "GlulxStrings$Tally" "steps" "I" ∈ Uw := Uw_of (inT1 _ (List.mem_of_getElem? (i := 91) rfl)) rfl
theorem ku18 : Cond.fieldLink "GlulxStrings$Tally" 15 "GlulxStrings$Tally" "toOut" "I" ∈ Uw := Uw_of (inT1 _ (List.mem_of_getElem? (i := 93) rfl)) rfl
theorem ku19 : Cond.fieldLink "GlulxStrings$Tally" 18 "GlulxStrings$Tally" "toFunction" "I" ∈ Uw := Uw_of (inT1 _ (List.mem_of_getElem? (i := 95) rfl)) rfl
theorem ku20 : Cond.fieldLink "GlulxStrings$Tally" 21 "GlulxStrings$Tally" "toNowhere" "I" ∈ Uw := Uw_of (inT1 _ (List.mem_of_getElem? (i := 97) rfl)) rfl
theorem ku21 : Cond.fieldLink "GlulxStrings$Tally" 24 "GlulxStrings$Tally" "faults" "I" ∈ Uw := Uw_of (inT1 _ (List.mem_of_getElem? (i := 99) rfl)) rfl
theorem ku22 : Cond.fieldLink "GlulxStrings$Tally" 27 "GlulxStrings$Tally" "latestFault" "I" ∈ Uw := Uw_of (inT1 _ (List.mem_of_getElem? (i := 101) rfl)) rfl
theorem ku23 : Cond.fieldLink "GlulxStrings$Tally" 30 "GlulxStrings$Tally" "result" "I" ∈ Uw := Uw_of (inT1 _ (List.mem_of_getElem? (i := 103) rfl)) rfl
theorem ku24 : Cond.fieldLink "GlulxStrings$Tally" 33 "GlulxStrings$Tally" "mostJobs" "I" ∈ Uw := Uw_of (inT1 _ (List.mem_of_getElem? (i := 105) rfl)) rfl
theorem ku25 : Cond.methodLink "GlulxStrings$Job" 3 objectInit ∈ Uw := Uw_of (inT1 _ (List.mem_of_getElem? (i := 130) rfl)) rfl
theorem ku26 : Cond.fieldLink "GlulxStrings$Job" 11 "GlulxStrings$Job" "locals" "[I" ∈ Uw := Uw_of (inT1 _ (List.mem_of_getElem? (i := 131) rfl)) rfl
theorem ku27 : Cond.fieldLink "GlulxStrings$Job" 15 "GlulxStrings$Job" "kind" "I" ∈ Uw := Uw_of (inT1 _ (List.mem_of_getElem? (i := 133) rfl)) rfl
theorem ku28 : Cond.fieldLink "GlulxStrings$Job" 19 "GlulxStrings$Job" "place" "I" ∈ Uw := Uw_of (inT1 _ (List.mem_of_getElem? (i := 135) rfl)) rfl
theorem ku29 : Cond.fieldLink "GlulxStrings$Job" 22 "GlulxStrings$Job" "bit" "I" ∈ Uw := Uw_of (inT1 _ (List.mem_of_getElem? (i := 137) rfl)) rfl
theorem ku30 : Cond.fieldLink "GlulxStrings$Job" 25 "GlulxStrings$Job" "localCount" "I" ∈ Uw := Uw_of (inT1 _ (List.mem_of_getElem? (i := 139) rfl)) rfl
theorem ku31 : Cond.fieldLink "GlulxStrings$Job" 28 "GlulxStrings$Job" "atRoot" "Z" ∈ Uw := Uw_of (inT1 _ (List.mem_of_getElem? (i := 141) rfl)) rfl
theorem ku32 : Cond.fieldLink "GlulxStrings$Job" 32 "GlulxStrings$Job" "node" "I" ∈ Uw := Uw_of (inT1 _ (List.mem_of_getElem? (i := 143) rfl)) rfl
theorem ku33 : Cond.fieldLink "GlulxStrings$Job" 35 "GlulxStrings$Job" "resultTo" "I" ∈ Uw := Uw_of (inT1 _ (List.mem_of_getElem? (i := 145) rfl)) rfl
theorem ku34 : Cond.methodLink "GlulxStrings$Pieces" 3 objectInit ∈ Uw := Uw_of (inT1 _ (List.mem_of_getElem? (i := 222) rfl)) rfl
theorem ku35 : Cond.fieldLink "GlulxStrings$Pieces" 11 "GlulxStrings$Pieces" "kinds" "[I" ∈ Uw := Uw_of (inT1 _ (List.mem_of_getElem? (i := 225) rfl)) rfl
theorem ku36 : Cond.fieldLink "GlulxStrings$Pieces" 15 "GlulxStrings$Pieces" "addresses" "[I" ∈ Uw := Uw_of (inT1 _ (List.mem_of_getElem? (i := 226) rfl)) rfl
theorem ku37 : Cond.classLink "GlulxStrings$Pieces" 18 "[[I" ∈ Uw := Uw_of (inT1 _ (List.mem_of_getElem? (i := 223) rfl)) rfl
theorem ku38 : Cond.fieldLink "GlulxStrings$Pieces" 20 "GlulxStrings$Pieces" "signs" "[[I" ∈ Uw := Uw_of (inT1 _ (List.mem_of_getElem? (i := 227) rfl)) rfl
theorem ku39 : Cond.fieldLink "GlulxStrings$Pieces" 23 "GlulxStrings$Pieces" "lengths" "[I" ∈ Uw := Uw_of (inT1 _ (List.mem_of_getElem? (i := 228) rfl)) rfl
theorem ku40 : Cond.fieldLink "GlulxStrings$Pieces" 26 "GlulxStrings$Pieces" "bits" "[I" ∈ Uw := Uw_of (inT1 _ (List.mem_of_getElem? (i := 230) rfl)) rfl
theorem ku41 : Cond.fieldLink "GlulxStrings$Pieces" 29 "GlulxStrings$Pieces" "count" "I" ∈ Uw := Uw_of (inT1 _ (List.mem_of_getElem? (i := 233) rfl)) rfl
theorem ku42 : Cond.methodLink "GlulxStrings$Texts" 3 objectInit ∈ Uw := Uw_of (inT2 _ (List.mem_of_getElem? (i := 15) rfl)) rfl
theorem ku43 : Cond.classLink "GlulxStrings$Texts" 11 "[[I" ∈ Uw := Uw_of (inT2 _ (List.mem_of_getElem? (i := 16) rfl)) rfl
theorem ku44 : Cond.fieldLink "GlulxStrings$Texts" 13 "GlulxStrings$Texts" "signs" "[[I" ∈ Uw := Uw_of (inT2 _ (List.mem_of_getElem? (i := 17) rfl)) rfl
theorem ku45 : Cond.fieldLink "GlulxStrings$Texts" 16 "GlulxStrings$Texts" "lengths" "[I" ∈ Uw := Uw_of (inT2 _ (List.mem_of_getElem? (i := 20) rfl)) rfl
theorem ku46 : Cond.fieldLink "GlulxStrings$Texts" 20 "GlulxStrings$Texts" "places" "[I" ∈ Uw := Uw_of (inT2 _ (List.mem_of_getElem? (i := 23) rfl)) rfl
theorem ku47 : Cond.fieldLink "GlulxStrings$Texts" 23 "GlulxStrings$Texts" "bits" "[I" ∈ Uw := Uw_of (inT2 _ (List.mem_of_getElem? (i := 26) rfl)) rfl
theorem ku48 : Cond.fieldLink "GlulxStrings$Texts" 26 "GlulxStrings$Texts" "count" "I" ∈ Uw := Uw_of (inT2 _ (List.mem_of_getElem? (i := 29) rfl)) rfl
theorem ku49 : Cond.methodLink "GlulxStrings$Parting" 3 objectInit ∈ Uw := Uw_of (inT2 _ (List.mem_of_getElem? (i := 48) rfl)) rfl
theorem ku50 : Cond.fieldLink "GlulxStrings$Parting" 9 "GlulxStrings$Parting" "fewest" "[I" ∈ Uw := Uw_of (inT2 _ (List.mem_of_getElem? (i := 50) rfl)) rfl
theorem ku51 : Cond.fieldLink "GlulxStrings$Parting" 15 "GlulxStrings$Parting" "firsts" "[I" ∈ Uw := Uw_of (inT2 _ (List.mem_of_getElem? (i := 51) rfl)) rfl
theorem ku52 : Cond.fieldLink "GlulxStrings$Parting" 18 "GlulxStrings$Parting" "pieces" "LGlulxStrings$Pieces;" ∈ Uw := Uw_of (inT2 _ (List.mem_of_getElem? (i := 49) rfl)) rfl
theorem ku53 : Cond.methodLink "GlulxStrings$BestTree" 7 objectInit ∈ Uw := Uw_of (inT2 _ (List.mem_of_getElem? (i := 64) rfl)) rfl
theorem ku54 : Cond.fieldLink "GlulxStrings$BestTree" 13 "GlulxStrings$BestTree" "uses" "[I" ∈ Uw := Uw_of (inT2 _ (List.mem_of_getElem? (i := 65) rfl)) rfl
theorem ku55 : Cond.arrayClass FieldType.boolean ∈ Uw := Uw_of (inT2 _ (List.mem_of_getElem? (i := 104) rfl)) rfl
theorem ku56 : Cond.fieldLink "GlulxStrings$BestTree" 17 "GlulxStrings$BestTree" "joined" "[Z" ∈ Uw := Uw_of (inT2 _ (List.mem_of_getElem? (i := 66) rfl)) rfl
theorem ku57 : Cond.fieldLink "GlulxStrings$BestTree" 21 "GlulxStrings$BestTree" "zeros" "[I" ∈ Uw := Uw_of (inT2 _ (List.mem_of_getElem? (i := 67) rfl)) rfl
theorem ku58 : Cond.fieldLink "GlulxStrings$BestTree" 24 "GlulxStrings$BestTree" "ones" "[I" ∈ Uw := Uw_of (inT2 _ (List.mem_of_getElem? (i := 68) rfl)) rfl
theorem ku59 : Cond.fieldLink "GlulxStrings$BestTree" 27 "GlulxStrings$BestTree" "sizes" "[I" ∈ Uw := Uw_of (inT2 _ (List.mem_of_getElem? (i := 69) rfl)) rfl
theorem ku60 : Cond.fieldLink "GlulxStrings$BestTree" 30 "GlulxStrings$BestTree" "leaves" "[I" ∈ Uw := Uw_of (inT2 _ (List.mem_of_getElem? (i := 70) rfl)) rfl
theorem ku61 : Cond.fieldLink "GlulxStrings$BestTree" 33 "GlulxStrings$BestTree" "places" "[I" ∈ Uw := Uw_of (inT2 _ (List.mem_of_getElem? (i := 72) rfl)) rfl
theorem ku62 : Cond.fieldLink "GlulxStrings$BestTree" 36 "GlulxStrings$BestTree" "depths" "[I" ∈ Uw := Uw_of (inT2 _ (List.mem_of_getElem? (i := 73) rfl)) rfl
theorem ku63 : Cond.arrayClass FieldType.long ∈ Uw := Uw_of (inT2 _ (List.mem_of_getElem? (i := 105) rfl)) rfl
theorem ku64 : Cond.fieldLink "GlulxStrings$BestTree" 39 "GlulxStrings$BestTree" "codes" "[J" ∈ Uw := Uw_of (inT2 _ (List.mem_of_getElem? (i := 75) rfl)) rfl
theorem ku65 : Cond.fieldLink "GlulxStrings$BestTree" 43 "GlulxStrings$BestTree" "count" "I" ∈ Uw := Uw_of (inT2 _ (List.mem_of_getElem? (i := 77) rfl)) rfl
theorem ku66 : Cond.fieldLink "GlulxStrings$BestTree" 47 "GlulxStrings$BestTree" "leafCount" "I" ∈ Uw := Uw_of (inT2 _ (List.mem_of_getElem? (i := 79) rfl)) rfl
theorem ku67 : Cond.methodLink "GlulxStrings$Packer" 3 objectInit ∈ Uw := Uw_of (inT1 _ (List.mem_of_getElem? (i := 216) rfl)) rfl
theorem ku68 : Cond.classLink "GlulxStrings$Packer" 9 "GlulxStrings$Pieces" ∈ Uw := Uw_of (inT1 _ (List.mem_of_getElem? (i := 217) rfl)) rfl
theorem ku69 : Cond.instantiable "GlulxStrings$Pieces" 6 ∈ Uw := Uw_of (inT1 _ (List.mem_of_getElem? (i := 218) rfl)) rfl
theorem ku70 : Cond.initialized "GlulxStrings$Pieces" ∈ Uw := Uw_of (inT1 _ (List.mem_of_getElem? (i := 8) rfl)) rfl
theorem ku71 : Cond.instanceMethod ⟨"GlulxStrings$Pieces", "<init>", "()V"⟩ ∈ Uw := Uw_of (inT1 _ (List.mem_of_getElem? (i := 220) rfl)) rfl
theorem ku72 : Cond.fieldLink "GlulxStrings$Packer" 12 "GlulxStrings$Packer" "pieces" "LGlulxStrings$Pieces;" ∈ Uw := Uw_of (inT2 _ (List.mem_of_getElem? (i := 109) rfl)) rfl
theorem ku73 : Cond.classLink "GlulxStrings$Packer" 18 "GlulxStrings$Texts" ∈ Uw := Uw_of (inT2 _ (List.mem_of_getElem? (i := 10) rfl)) rfl
theorem ku74 : Cond.instantiable "GlulxStrings$Texts" 5 ∈ Uw := Uw_of (inT2 _ (List.mem_of_getElem? (i := 11) rfl)) rfl
theorem ku75 : Cond.initialized "GlulxStrings$Texts" ∈ Uw := Uw_of (inT1 _ (List.mem_of_getElem? (i := 9) rfl)) rfl
theorem ku76 : Cond.instanceMethod ⟨"GlulxStrings$Texts", "<init>", "()V"⟩ ∈ Uw := Uw_of (inT2 _ (List.mem_of_getElem? (i := 13) rfl)) rfl
theorem ku77 : Cond.fieldLink "GlulxStrings$Packer" 21 "GlulxStrings$Packer" "texts" "LGlulxStrings$Texts;" ∈ Uw := Uw_of (inT2 _ (List.mem_of_getElem? (i := 111) rfl)) rfl
theorem ku78 : Cond.classLink "GlulxStrings$Packer" 25 "GlulxStrings$Parting" ∈ Uw := Uw_of (inT2 _ (List.mem_of_getElem? (i := 43) rfl)) rfl
theorem ku79 : Cond.instantiable "GlulxStrings$Parting" 3 ∈ Uw := Uw_of (inT2 _ (List.mem_of_getElem? (i := 44) rfl)) rfl
theorem ku80 : Cond.initialized "GlulxStrings$Parting" ∈ Uw := Uw_of (inT1 _ (List.mem_of_getElem? (i := 10) rfl)) rfl
theorem ku81 : Cond.methodLink "GlulxStrings$Packer" 27 ⟨"GlulxStrings$Parting", "<init>", "(LGlulxStrings$Pieces;)V"⟩ ∈ Uw := Uw_of (inT2 _ (List.mem_of_getElem? (i := 45) rfl)) rfl
theorem ku82 : Cond.instanceMethod ⟨"GlulxStrings$Parting", "<init>", "(LGlulxStrings$Pieces;)V"⟩ ∈ Uw := Uw_of (inT2 _ (List.mem_of_getElem? (i := 46) rfl)) rfl
theorem ku83 : Cond.fieldLink "GlulxStrings$Packer" 30 "GlulxStrings$Packer" "parting" "LGlulxStrings$Parting;" ∈ Uw := Uw_of (inT2 _ (List.mem_of_getElem? (i := 113) rfl)) rfl
theorem ku84 : Cond.classLink "GlulxStrings$Packer" 34 "GlulxStrings$BestTree" ∈ Uw := Uw_of (inT2 _ (List.mem_of_getElem? (i := 59) rfl)) rfl
theorem ku85 : Cond.instantiable "GlulxStrings$BestTree" 11 ∈ Uw := Uw_of (inT2 _ (List.mem_of_getElem? (i := 60) rfl)) rfl
theorem ku86 : Cond.initialized "GlulxStrings$BestTree" ∈ Uw := Uw_of (inT1 _ (List.mem_of_getElem? (i := 11) rfl)) rfl
theorem ku87 : Cond.instanceMethod ⟨"GlulxStrings$BestTree", "<init>", "()V"⟩ ∈ Uw := Uw_of (inT2 _ (List.mem_of_getElem? (i := 62) rfl)) rfl
theorem ku88 : Cond.fieldLink "GlulxStrings$Packer" 37 "GlulxStrings$Packer" "best" "LGlulxStrings$BestTree;" ∈ Uw := Uw_of (inT2 _ (List.mem_of_getElem? (i := 115) rfl)) rfl
theorem ku89 : Cond.classLink "GlulxStrings$Packer" 41 "[[I" ∈ Uw := Uw_of (inT2 _ (List.mem_of_getElem? (i := 106) rfl)) rfl
theorem ku90 : Cond.fieldLink "GlulxStrings$Packer" 43 "GlulxStrings$Packer" "parts" "[[I" ∈ Uw := Uw_of (inT2 _ (List.mem_of_getElem? (i := 116) rfl)) rfl
theorem ku91 : Cond.fieldLink "GlulxStrings$Packer" 46 "GlulxStrings$Packer" "partCounts" "[I" ∈ Uw := Uw_of (inT2 _ (List.mem_of_getElem? (i := 117) rfl)) rfl
theorem ku92 : Cond.fieldLink "GlulxStrings$Packer" 50 "GlulxStrings$Packer" "packedBits" "[I" ∈ Uw := Uw_of (inT2 _ (List.mem_of_getElem? (i := 118) rfl)) rfl
theorem ku93 : Cond.fieldLink "GlulxStrings$Packer" 53 "GlulxStrings$Packer" "uses" "[I" ∈ Uw := Uw_of (inT2 _ (List.mem_of_getElem? (i := 119) rfl)) rfl
theorem ku94 : Cond.fieldLink "GlulxStrings$Packer" 56 "GlulxStrings$Packer" "leafOf" "[I" ∈ Uw := Uw_of (inT2 _ (List.mem_of_getElem? (i := 120) rfl)) rfl
theorem ku95 : Cond.fieldLink "GlulxStrings$Packer" 59 "GlulxStrings$Packer" "endBits" "I" ∈ Uw := Uw_of (inT2 _ (List.mem_of_getElem? (i := 121) rfl)) rfl
theorem ku96 : Cond.fieldLink "GlulxStrings$Packer" 63 "GlulxStrings$Packer" "memory" "LGlulxStrings$Memory;" ∈ Uw := Uw_of (inT2 _ (List.mem_of_getElem? (i := 107) rfl)) rfl
theorem ku97 : Cond.fieldLink "GlulxStrings$Packer" 67 "GlulxStrings$Packer" "table" "LGlulxStrings$Table;" ∈ Uw := Uw_of (inT2 _ (List.mem_of_getElem? (i := 108) rfl)) rfl
theorem ku98 : Cond.methodLink "GlulxStrings" 1 objectInit ∈ Uw := Uw_of (inT1 _ (List.mem_of_getElem? (i := 21) rfl)) rfl
theorem ku99 : Cond.classLink "GlulxStrings" 7 "GlulxStrings$Memory" ∈ Uw := Uw_of (inT1 _ (List.mem_of_getElem? (i := 24) rfl)) rfl
theorem ku100 : Cond.instantiable "GlulxStrings$Memory" 2 ∈ Uw := Uw_of (inT1 _ (List.mem_of_getElem? (i := 25) rfl)) rfl
theorem ku101 : Cond.initialized "GlulxStrings$Memory" ∈ Uw := Uw_of (inT1 _ (List.mem_of_getElem? (i := 2) rfl)) rfl
theorem ku102 : Cond.instanceMethod ⟨"GlulxStrings$Memory", "<init>", "()V"⟩ ∈ Uw := Uw_of (inT1 _ (List.mem_of_getElem? (i := 27) rfl)) rfl
theorem ku103 : Cond.fieldLink "GlulxStrings" 10 "GlulxStrings" "memory" "LGlulxStrings$Memory;" ∈ Uw := Uw_of (inT2 _ (List.mem_of_getElem? (i := 148) rfl)) rfl
theorem ku104 : Cond.classLink "GlulxStrings" 16 "GlulxStrings$Table" ∈ Uw := Uw_of (inT1 _ (List.mem_of_getElem? (i := 42) rfl)) rfl
theorem ku105 : Cond.instantiable "GlulxStrings$Table" 9 ∈ Uw := Uw_of (inT1 _ (List.mem_of_getElem? (i := 43) rfl)) rfl
theorem ku106 : Cond.initialized "GlulxStrings$Table" ∈ Uw := Uw_of (inT1 _ (List.mem_of_getElem? (i := 3) rfl)) rfl
theorem ku107 : Cond.methodLink "GlulxStrings" 18 ⟨"GlulxStrings$Table", "<init>", "(LGlulxStrings$Memory;)V"⟩ ∈ Uw := Uw_of (inT1 _ (List.mem_of_getElem? (i := 44) rfl)) rfl
theorem ku108 : Cond.instanceMethod ⟨"GlulxStrings$Table", "<init>", "(LGlulxStrings$Memory;)V"⟩ ∈ Uw := Uw_of (inT1 _ (List.mem_of_getElem? (i := 45) rfl)) rfl
theorem ku109 : Cond.fieldLink "GlulxStrings" 21 "GlulxStrings" "table" "LGlulxStrings$Table;" ∈ Uw := Uw_of (inT2 _ (List.mem_of_getElem? (i := 149) rfl)) rfl
theorem ku110 : Cond.classLink "GlulxStrings" 25 "GlulxStrings$Machine" ∈ Uw := Uw_of (inT1 _ (List.mem_of_getElem? (i := 79) rfl)) rfl
theorem ku111 : Cond.instantiable "GlulxStrings$Machine" 13 ∈ Uw := Uw_of (inT1 _ (List.mem_of_getElem? (i := 80) rfl)) rfl
theorem ku112 : Cond.initialized "GlulxStrings$Machine" ∈ Uw := Uw_of (inT1 _ (List.mem_of_getElem? (i := 4) rfl)) rfl
theorem ku113 : Cond.methodLink "GlulxStrings" 27 ⟨"GlulxStrings$Machine", "<init>", "(LGlulxStrings$Memory;LGlulxStrings$Table;)V"⟩ ∈ Uw := Uw_of (inT1 _ (List.mem_of_getElem? (i := 81) rfl)) rfl
theorem ku114 : Cond.instanceMethod ⟨"GlulxStrings$Machine", "<init>", "(LGlulxStrings$Memory;LGlulxStrings$Table;)V"⟩ ∈ Uw := Uw_of (inT1 _ (List.mem_of_getElem? (i := 82) rfl)) rfl
theorem ku115 : Cond.fieldLink "GlulxStrings" 30 "GlulxStrings" "machine" "LGlulxStrings$Machine;" ∈ Uw := Uw_of (inT2 _ (List.mem_of_getElem? (i := 150) rfl)) rfl
theorem ku116 : Cond.classLink "GlulxStrings" 34 "GlulxStrings$Packer" ∈ Uw := Uw_of (inT1 _ (List.mem_of_getElem? (i := 211) rfl)) rfl
theorem ku117 : Cond.instantiable "GlulxStrings$Packer" 12 ∈ Uw := Uw_of (inT1 _ (List.mem_of_getElem? (i := 212) rfl)) rfl
theorem ku118 : Cond.initialized "GlulxStrings$Packer" ∈ Uw := Uw_of (inT1 _ (List.mem_of_getElem? (i := 7) rfl)) rfl
theorem ku119 : Cond.methodLink "GlulxStrings" 36 ⟨"GlulxStrings$Packer", "<init>", "(LGlulxStrings$Memory;LGlulxStrings$Table;)V"⟩ ∈ Uw := Uw_of (inT1 _ (List.mem_of_getElem? (i := 213) rfl)) rfl
theorem ku120 : Cond.instanceMethod ⟨"GlulxStrings$Packer", "<init>", "(LGlulxStrings$Memory;LGlulxStrings$Table;)V"⟩ ∈ Uw := Uw_of (inT1 _ (List.mem_of_getElem? (i := 214) rfl)) rfl
theorem ku121 : Cond.fieldLink "GlulxStrings" 37 "GlulxStrings" "packer" "LGlulxStrings$Packer;" ∈ Uw := Uw_of (inT2 _ (List.mem_of_getElem? (i := 151) rfl)) rfl
theorem ku122 : Cond.fieldLink "GlulxStrings" 41 "GlulxStrings" "tape" "[B" ∈ Uw := Uw_of (inT2 _ (List.mem_of_getElem? (i := 152) rfl)) rfl
theorem ku123 : Cond.fieldLink "GlulxStrings" 45 "GlulxStrings" "line" "[I" ∈ Uw := Uw_of (inT2 _ (List.mem_of_getElem? (i := 153) rfl)) rfl
theorem ku124 : Cond.fieldLink "GlulxStrings" 49 "GlulxStrings" "taped" "I" ∈ Uw := Uw_of (inT2 _ (List.mem_of_getElem? (i := 154) rfl)) rfl
theorem ku125 : Cond.fieldLink "GlulxStrings" 53 "GlulxStrings" "lined" "I" ∈ Uw := Uw_of (inT2 _ (List.mem_of_getElem? (i := 155) rfl)) rfl
theorem ku126 : Cond.methodLink "GlulxStringsModel" 1 objectInit ∈ Uw := Uw_of (inT4 _ (List.mem_of_getElem? (i := 177) rfl)) rfl
theorem ku127 : Cond.fieldLink "GlulxStringsModel" 7 "GlulxStringsModel" "memory" "[I" ∈ Uw := Uw_of (inT4 _ (List.mem_of_getElem? (i := 178) rfl)) rfl
theorem ku128 : Cond.fieldLink "GlulxStringsModel" 13 "GlulxStringsModel" "tape" "[I" ∈ Uw := Uw_of (inT4 _ (List.mem_of_getElem? (i := 180) rfl)) rfl
theorem ku129 : Cond.fieldLink "GlulxStringsModel" 16 "GlulxStringsModel" "line" "[I" ∈ Uw := Uw_of (inT4 _ (List.mem_of_getElem? (i := 182) rfl)) rfl
theorem ku130 : Cond.fieldLink "GlulxStringsModel" 19 "GlulxStringsModel" "met" "[Z" ∈ Uw := Uw_of (inT4 _ (List.mem_of_getElem? (i := 188) rfl)) rfl
theorem ku131 : Cond.fieldLink "GlulxStringsModel" 23 "GlulxStringsModel" "todo" "[I" ∈ Uw := Uw_of (inT4 _ (List.mem_of_getElem? (i := 189) rfl)) rfl
theorem ku132 : Cond.fieldLink "GlulxStringsModel" 26 "GlulxStringsModel" "kinds" "[I" ∈ Uw := Uw_of (inT4 _ (List.mem_of_getElem? (i := 193) rfl)) rfl
theorem ku133 : Cond.fieldLink "GlulxStringsModel" 29 "GlulxStringsModel" "places" "[I" ∈ Uw := Uw_of (inT4 _ (List.mem_of_getElem? (i := 194) rfl)) rfl
theorem ku134 : Cond.fieldLink "GlulxStringsModel" 32 "GlulxStringsModel" "bitOf" "[I" ∈ Uw := Uw_of (inT4 _ (List.mem_of_getElem? (i := 195) rfl)) rfl
theorem ku135 : Cond.fieldLink "GlulxStringsModel" 35 "GlulxStringsModel" "localCount" "[I" ∈ Uw := Uw_of (inT4 _ (List.mem_of_getElem? (i := 196) rfl)) rfl
theorem ku136 : Cond.fieldLink "GlulxStringsModel" 38 "GlulxStringsModel" "locals" "[I" ∈ Uw := Uw_of (inT4 _ (List.mem_of_getElem? (i := 197) rfl)) rfl
theorem ku137 : Cond.fieldLink "GlulxStringsModel" 41 "GlulxStringsModel" "isRoot" "[Z" ∈ Uw := Uw_of (inT4 _ (List.mem_of_getElem? (i := 198) rfl)) rfl
theorem ku138 : Cond.fieldLink "GlulxStringsModel" 44 "GlulxStringsModel" "nodeOf" "[I" ∈ Uw := Uw_of (inT4 _ (List.mem_of_getElem? (i := 199) rfl)) rfl
theorem ku139 : Cond.fieldLink "GlulxStringsModel" 47 "GlulxStringsModel" "goesTo" "[I" ∈ Uw := Uw_of (inT4 _ (List.mem_of_getElem? (i := 200) rfl)) rfl
theorem ku140 : Cond.fieldLink "GlulxStringsModel" 50 "GlulxStringsModel" "out" "[I" ∈ Uw := Uw_of (inT4 _ (List.mem_of_getElem? (i := 201) rfl)) rfl
theorem ku141 : Cond.fieldLink "GlulxStringsModel" 53 "GlulxStringsModel" "arguments" "[I" ∈ Uw := Uw_of (inT4 _ (List.mem_of_getElem? (i := 211) rfl)) rfl
theorem ku142 : Cond.fieldLink "GlulxStringsModel" 56 "GlulxStringsModel" "pieceKind" "[I" ∈ Uw := Uw_of (inT4 _ (List.mem_of_getElem? (i := 215) rfl)) rfl
theorem ku143 : Cond.fieldLink "GlulxStringsModel" 59 "GlulxStringsModel" "held" "[I" ∈ Uw := Uw_of (inT4 _ (List.mem_of_getElem? (i := 216) rfl)) rfl
theorem ku144 : Cond.fieldLink "GlulxStringsModel" 62 "GlulxStringsModel" "heldCount" "[I" ∈ Uw := Uw_of (inT4 _ (List.mem_of_getElem? (i := 217) rfl)) rfl
theorem ku145 : Cond.fieldLink "GlulxStringsModel" 65 "GlulxStringsModel" "pieceBits" "[I" ∈ Uw := Uw_of (inT4 _ (List.mem_of_getElem? (i := 218) rfl)) rfl
theorem ku146 : Cond.fieldLink "GlulxStringsModel" 68 "GlulxStringsModel" "signs" "[I" ∈ Uw := Uw_of (inT4 _ (List.mem_of_getElem? (i := 220) rfl)) rfl
theorem ku147 : Cond.fieldLink "GlulxStringsModel" 71 "GlulxStringsModel" "signCount" "[I" ∈ Uw := Uw_of (inT4 _ (List.mem_of_getElem? (i := 221) rfl)) rfl
theorem ku148 : Cond.fieldLink "GlulxStringsModel" 74 "GlulxStringsModel" "laidAt" "[I" ∈ Uw := Uw_of (inT4 _ (List.mem_of_getElem? (i := 222) rfl)) rfl
theorem ku149 : Cond.fieldLink "GlulxStringsModel" 77 "GlulxStringsModel" "laidBits" "[I" ∈ Uw := Uw_of (inT4 _ (List.mem_of_getElem? (i := 223) rfl)) rfl
theorem ku150 : Cond.fieldLink "GlulxStringsModel" 80 "GlulxStringsModel" "endBits" "I" ∈ Uw := Uw_of (inT4 _ (List.mem_of_getElem? (i := 224) rfl)) rfl
theorem ku151 : Cond.fieldLink "GlulxStringsModel" 84 "GlulxStringsModel" "best" "[I" ∈ Uw := Uw_of (inT4 _ (List.mem_of_getElem? (i := 225) rfl)) rfl
theorem ku152 : Cond.fieldLink "GlulxStringsModel" 87 "GlulxStringsModel" "by" "[I" ∈ Uw := Uw_of (inT4 _ (List.mem_of_getElem? (i := 226) rfl)) rfl
theorem ku153 : Cond.fieldLink "GlulxStringsModel" 90 "GlulxStringsModel" "parts" "[I" ∈ Uw := Uw_of (inT4 _ (List.mem_of_getElem? (i := 227) rfl)) rfl
theorem ku154 : Cond.fieldLink "GlulxStringsModel" 93 "GlulxStringsModel" "pieceOf" "[I" ∈ Uw := Uw_of (inT4 _ (List.mem_of_getElem? (i := 230) rfl)) rfl
theorem ku155 : Cond.fieldLink "GlulxStringsModel" 96 "GlulxStringsModel" "uses" "[I" ∈ Uw := Uw_of (inT4 _ (List.mem_of_getElem? (i := 231) rfl)) rfl
theorem ku156 : Cond.fieldLink "GlulxStringsModel" 99 "GlulxStringsModel" "isThere" "[Z" ∈ Uw := Uw_of (inT4 _ (List.mem_of_getElem? (i := 232) rfl)) rfl
theorem ku157 : Cond.fieldLink "GlulxStringsModel" 102 "GlulxStringsModel" "zero" "[I" ∈ Uw := Uw_of (inT4 _ (List.mem_of_getElem? (i := 233) rfl)) rfl
theorem ku158 : Cond.fieldLink "GlulxStringsModel" 105 "GlulxStringsModel" "one" "[I" ∈ Uw := Uw_of (inT4 _ (List.mem_of_getElem? (i := 234) rfl)) rfl
theorem ku159 : Cond.fieldLink "GlulxStringsModel" 108 "GlulxStringsModel" "above" "[I" ∈ Uw := Uw_of (inT4 _ (List.mem_of_getElem? (i := 235) rfl)) rfl
theorem ku160 : Cond.fieldLink "GlulxStringsModel" 111 "GlulxStringsModel" "sizes" "[I" ∈ Uw := Uw_of (inT4 _ (List.mem_of_getElem? (i := 236) rfl)) rfl
theorem ku161 : Cond.fieldLink "GlulxStringsModel" 114 "GlulxStringsModel" "where" "[I" ∈ Uw := Uw_of (inT4 _ (List.mem_of_getElem? (i := 237) rfl)) rfl
theorem ku162 : Cond.fieldLink "GlulxStringsModel" 117 "GlulxStringsModel" "deep" "[I" ∈ Uw := Uw_of (inT4 _ (List.mem_of_getElem? (i := 238) rfl)) rfl
theorem ku163 : Cond.fieldLink "GlulxStringsModel" 120 "GlulxStringsModel" "leafOf" "[I" ∈ Uw := Uw_of (inT4 _ (List.mem_of_getElem? (i := 239) rfl)) rfl
theorem ku164 : Cond.fieldLink "GlulxStringsModel" 123 "GlulxStringsModel" "pieceUses" "[I" ∈ Uw := Uw_of (inT5 _ (List.mem_of_getElem? (i := 0) rfl)) rfl
theorem ku165 : Cond.methodLink "GlulxStrings$Machine" 3 objectInit ∈ Uw := Uw_of (inT1 _ (List.mem_of_getElem? (i := 84) rfl)) rfl
theorem ku166 : Cond.classLink "GlulxStrings$Machine" 9 "GlulxStrings$Tally" ∈ Uw := Uw_of (inT1 _ (List.mem_of_getElem? (i := 85) rfl)) rfl
theorem ku167 : Cond.classLink "GlulxStrings$Machine" 18 "GlulxStrings$Job" ∈ Uw := Uw_of (inT1 _ (List.mem_of_getElem? (i := 124) rfl)) rfl
theorem ku168 : Cond.instantiable "GlulxStrings$Tally" 8 ∈ Uw := Uw_of (inT1 _ (List.mem_of_getElem? (i := 86) rfl)) rfl
theorem ku169 : Cond.instantiable "GlulxStrings$Job" 8 ∈ Uw := Uw_of (inT1 _ (List.mem_of_getElem? (i := 126) rfl)) rfl
theorem ku170 : Cond.initialized "GlulxStrings$Tally" ∈ Uw := Uw_of (inT1 _ (List.mem_of_getElem? (i := 5) rfl)) rfl
theorem ku171 : Cond.initialized "GlulxStrings$Job" ∈ Uw := Uw_of (inT1 _ (List.mem_of_getElem? (i := 6) rfl)) rfl
theorem ku172 : Cond.instanceMethod ⟨"GlulxStrings$Tally", "<init>", "()V"⟩ ∈ Uw := Uw_of (inT1 _ (List.mem_of_getElem? (i := 88) rfl)) rfl
theorem ku173 : Cond.instanceMethod ⟨"GlulxStrings$Job", "<init>", "()V"⟩ ∈ Uw := Uw_of (inT1 _ (List.mem_of_getElem? (i := 128) rfl)) rfl
theorem ku174 : Cond.fieldLink "GlulxStrings$Machine" 12 "GlulxStrings$Machine" "tally" "LGlulxStrings$Tally;" ∈ Uw := Uw_of (inT1 _ (List.mem_of_getElem? (i := 166) rfl)) rfl
theorem ku175 : Cond.fieldLink "GlulxStrings$Machine" 20 "GlulxStrings$Machine" "jobs" "[LGlulxStrings$Job;" ∈ Uw := Uw_of (inT1 _ (List.mem_of_getElem? (i := 168) rfl)) rfl
theorem ku176 : Cond.fieldLink "GlulxStrings$Machine" 24 "GlulxStrings$Machine" "out" "[I" ∈ Uw := Uw_of (inT1 _ (List.mem_of_getElem? (i := 170) rfl)) rfl
theorem ku177 : Cond.fieldLink "GlulxStrings$Machine" 28 "GlulxStrings$Machine" "arguments" "[I" ∈ Uw := Uw_of (inT1 _ (List.mem_of_getElem? (i := 172) rfl)) rfl
theorem ku178 : Cond.fieldLink "GlulxStrings$Machine" 31 "GlulxStrings$Machine" "argumentCount" "I" ∈ Uw := Uw_of (inT1 _ (List.mem_of_getElem? (i := 173) rfl)) rfl
theorem ku179 : Cond.fieldLink "GlulxStrings$Machine" 35 "GlulxStrings$Machine" "depth" "I" ∈ Uw := Uw_of (inT1 _ (List.mem_of_getElem? (i := 174) rfl)) rfl
theorem ku180 : Cond.fieldLink "GlulxStrings$Machine" 38 "GlulxStrings$Machine" "outCount" "I" ∈ Uw := Uw_of (inT1 _ (List.mem_of_getElem? (i := 176) rfl)) rfl
theorem ku181 : Cond.fieldLink "GlulxStrings$Machine" 41 "GlulxStrings$Machine" "system" "I" ∈ Uw := Uw_of (inT1 _ (List.mem_of_getElem? (i := 178) rfl)) rfl
theorem ku182 : Cond.fieldLink "GlulxStrings$Machine" 44 "GlulxStrings$Machine" "systemWith" "I" ∈ Uw := Uw_of (inT1 _ (List.mem_of_getElem? (i := 180) rfl)) rfl
theorem ku183 : Cond.fieldLink "GlulxStrings$Machine" 47 "GlulxStrings$Machine" "fault" "I" ∈ Uw := Uw_of (inT1 _ (List.mem_of_getElem? (i := 182) rfl)) rfl
theorem ku184 : Cond.fieldLink "GlulxStrings$Machine" 50 "GlulxStrings$Machine" "cursor" "I" ∈ Uw := Uw_of (inT1 _ (List.mem_of_getElem? (i := 183) rfl)) rfl
theorem ku185 : Cond.fieldLink "GlulxStrings$Machine" 53 "GlulxStrings$Machine" "memory" "LGlulxStrings$Memory;" ∈ Uw := Uw_of (inT1 _ (List.mem_of_getElem? (i := 164) rfl)) rfl
theorem ku186 : Cond.fieldLink "GlulxStrings$Machine" 57 "GlulxStrings$Machine" "table" "LGlulxStrings$Table;" ∈ Uw := Uw_of (inT1 _ (List.mem_of_getElem? (i := 165) rfl)) rfl
