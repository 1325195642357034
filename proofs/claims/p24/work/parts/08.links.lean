theorem mw0 : Cond.fieldLink "GlulxStrings" 49 "GlulxStrings" "taped" "I" ∈ Uw := Uw_of (inT2 _ (List.mem_of_getElem? (i := 154) rfl)) rfl
theorem mw1 : Cond.fieldLink "GlulxStrings" 41 "GlulxStrings" "tape" "[B" ∈ Uw := Uw_of (inT2 _ (List.mem_of_getElem? (i := 152) rfl)) rfl
theorem mw2 : Cond.fieldLink "GlulxStrings$Table" 25 "GlulxStrings$Table" "from" "I" ∈ Uw := Uw_of (inT1 _ (List.mem_of_getElem? (i := 53) rfl)) rfl
theorem mw3 : Cond.fieldLink "GlulxStrings$Table" 28 "GlulxStrings$Table" "to" "I" ∈ Uw := Uw_of (inT1 _ (List.mem_of_getElem? (i := 54) rfl)) rfl
theorem mw4 : Cond.fieldLink "GlulxStrings$Table" 31 "GlulxStrings$Table" "nodes" "I" ∈ Uw := Uw_of (inT1 _ (List.mem_of_getElem? (i := 55) rfl)) rfl
theorem mw5 : Cond.methodLink "GlulxStrings$Table" 41 ⟨"GlulxStrings$Table", "drop", "()V"⟩ ∈ Uw := Uw_of (inT2 _ (List.mem_of_getElem? (i := 188) rfl)) rfl
theorem mw6 : Cond.fieldLink "GlulxStrings" 10 "GlulxStrings" "memory" "LGlulxStrings$Memory;" ∈ Uw := Uw_of (inT2 _ (List.mem_of_getElem? (i := 148) rfl)) rfl
theorem mw7 : Cond.fieldLink "GlulxStrings" 56 "GlulxStrings$Memory" "bytes" "[B" ∈ Uw := Uw_of (inT1 _ (List.mem_of_getElem? (i := 31) rfl)) rfl
theorem mw8 : Cond.methodLink "GlulxStrings" 59 ⟨"java/lang/System", "arraycopy", "(Ljava/lang/Object;ILjava/lang/Object;II)V"⟩ ∈ Uw := Uw_of (inT2 _ (List.mem_of_getElem? (i := 181) rfl)) rfl
theorem mw9 : Cond.fieldLink "GlulxStrings" 21 "GlulxStrings" "table" "LGlulxStrings$Table;" ∈ Uw := Uw_of (inT2 _ (List.mem_of_getElem? (i := 149) rfl)) rfl
theorem mw10 : Cond.methodLink "GlulxStrings" 65 ⟨"GlulxStrings$Table", "dropIfTouched", "(II)V"⟩ ∈ Uw := Uw_of (inT2 _ (List.mem_of_getElem? (i := 184) rfl)) rfl
theorem mw11 : Cond.fieldLink "GlulxStrings" 69 "GlulxStrings$Memory" "border" "I" ∈ Uw := Uw_of (inT1 _ (List.mem_of_getElem? (i := 34) rfl)) rfl
theorem mw12 : Cond.methodLink "GlulxStrings" 72 ⟨"GlulxStrings$Table", "drop", "()V"⟩ ∈ Uw := Uw_of (inT2 _ (List.mem_of_getElem? (i := 196) rfl)) rfl
theorem mw13 : Cond.fieldLink "GlulxStrings$Memory" 9 "GlulxStrings$Memory" "bytes" "[B" ∈ Uw := Uw_of (inT1 _ (List.mem_of_getElem? (i := 30) rfl)) rfl
theorem mw14 : Cond.methodLink "GlulxStrings" 75 ⟨"GlulxStrings$Memory", "has", "(I)Z"⟩ ∈ Uw := Uw_of (inT2 _ (List.mem_of_getElem? (i := 201) rfl)) rfl
theorem mw15 : Cond.methodLink "GlulxStrings" 79 ⟨"GlulxStrings$Memory", "byteOf", "(I)I"⟩ ∈ Uw := Uw_of (inT2 _ (List.mem_of_getElem? (i := 205) rfl)) rfl
theorem mw16 : Cond.fieldLink "GlulxStrings$Table" 34 "GlulxStrings$Table" "address" "I" ∈ Uw := Uw_of (inT1 _ (List.mem_of_getElem? (i := 56) rfl)) rfl
theorem mw17 : Cond.fieldLink "GlulxStrings$Table" 37 "GlulxStrings$Table" "memory" "LGlulxStrings$Memory;" ∈ Uw := Uw_of (inT1 _ (List.mem_of_getElem? (i := 48) rfl)) rfl
theorem mw18 : Cond.fieldLink "GlulxStrings$Table" 44 "GlulxStrings$Memory" "border" "I" ∈ Uw := Uw_of (inT1 _ (List.mem_of_getElem? (i := 33) rfl)) rfl
theorem mw19 : Cond.methodLink "GlulxStrings$Table" 49 ⟨"GlulxStrings$Memory", "fourOf", "(I)I"⟩ ∈ Uw := Uw_of (inT2 _ (List.mem_of_getElem? (i := 217) rfl)) rfl
theorem mw20 : Cond.methodLink "GlulxStrings$Table" 61 ⟨"GlulxStrings$Memory", "byteOf", "(I)I"⟩ ∈ Uw := Uw_of (inT2 _ (List.mem_of_getElem? (i := 238) rfl)) rfl
theorem mw21 : Cond.methodLink "GlulxStrings$Table" 71 ⟨"GlulxStrings$Table", "hasEndOfBytes", "(I)Z"⟩ ∈ Uw := Uw_of (inT2 _ (List.mem_of_getElem? (i := 239) rfl)) rfl
theorem mw22 : Cond.methodLink "GlulxStrings$Table" 74 ⟨"GlulxStrings$Table", "hasEndOfFours", "(I)Z"⟩ ∈ Uw := Uw_of (inT3 _ (List.mem_of_getElem? (i := 3) rfl)) rfl
theorem mw23 : Cond.methodLink "GlulxStrings$Table" 77 ⟨"GlulxStrings$Table", "argumentBytes", "(I)I"⟩ ∈ Uw := Uw_of (inT3 _ (List.mem_of_getElem? (i := 7) rfl)) rfl
theorem mw24 : Cond.methodLink "GlulxStrings$Table" 64 ⟨"GlulxStrings$Memory", "has", "(I)Z"⟩ ∈ Uw := Uw_of (inT2 _ (List.mem_of_getElem? (i := 233) rfl)) rfl
theorem mw25 : Cond.fieldLink "GlulxStrings$Table" 9 "GlulxStrings$Table" "seenIn" "[I" ∈ Uw := Uw_of (inT1 _ (List.mem_of_getElem? (i := 49) rfl)) rfl
theorem mw26 : Cond.fieldLink "GlulxStrings$Table" 18 "GlulxStrings$Table" "counts" "I" ∈ Uw := Uw_of (inT1 _ (List.mem_of_getElem? (i := 51) rfl)) rfl
theorem mw27 : Cond.methodLink "GlulxStrings$Table" 68 ⟨"GlulxStrings$Table", "isWhole", "(I)Z"⟩ ∈ Uw := Uw_of (inT2 _ (List.mem_of_getElem? (i := 234) rfl)) rfl
theorem mw28 : Cond.fieldLink "GlulxStrings$Table" 22 "GlulxStrings$Table" "foundCount" "I" ∈ Uw := Uw_of (inT1 _ (List.mem_of_getElem? (i := 52) rfl)) rfl
theorem mw29 : Cond.fieldLink "GlulxStrings$Table" 15 "GlulxStrings$Table" "found" "[I" ∈ Uw := Uw_of (inT1 _ (List.mem_of_getElem? (i := 50) rfl)) rfl
theorem mw30 : Cond.methodLink "GlulxStrings$Table" 57 ⟨"GlulxStrings$Table", "find", "(I)V"⟩ ∈ Uw := Uw_of (inT2 _ (List.mem_of_getElem? (i := 229) rfl)) rfl
theorem mw31 : Cond.methodLink "GlulxStrings$Table" 53 ⟨"GlulxStrings$Table", "countNodes", "()I"⟩ ∈ Uw := Uw_of (inT2 _ (List.mem_of_getElem? (i := 225) rfl)) rfl
theorem mw32 : Cond.fieldLink "GlulxStrings" 30 "GlulxStrings" "machine" "LGlulxStrings$Machine;" ∈ Uw := Uw_of (inT2 _ (List.mem_of_getElem? (i := 150) rfl)) rfl
theorem mw33 : Cond.fieldLink "GlulxStrings" 83 "GlulxStrings$Machine" "depth" "I" ∈ Uw := Uw_of (inT1 _ (List.mem_of_getElem? (i := 175) rfl)) rfl
theorem mw34 : Cond.methodLink "GlulxStrings" 86 ⟨"GlulxStrings$Table", "tell", "(I)V"⟩ ∈ Uw := Uw_of (inT2 _ (List.mem_of_getElem? (i := 213) rfl)) rfl
theorem mw35 : Cond.methodLink "GlulxStrings" 90 ⟨"GlulxStrings$Table", "cachedNodes", "()I"⟩ ∈ Uw := Uw_of (inT2 _ (List.mem_of_getElem? (i := 221) rfl)) rfl
theorem mw36 : Cond.methodLink "GlulxStrings$Machine" 62 ⟨"GlulxStrings$Machine", "isSystem", "(I)Z"⟩ ∈ Uw := Uw_of (inT3 _ (List.mem_of_getElem? (i := 22) rfl)) rfl
theorem mw37 : Cond.fieldLink "GlulxStrings$Machine" 41 "GlulxStrings$Machine" "system" "I" ∈ Uw := Uw_of (inT1 _ (List.mem_of_getElem? (i := 178) rfl)) rfl
theorem mw38 : Cond.fieldLink "GlulxStrings$Machine" 44 "GlulxStrings$Machine" "systemWith" "I" ∈ Uw := Uw_of (inT1 _ (List.mem_of_getElem? (i := 180) rfl)) rfl
theorem mw39 : Cond.methodLink "GlulxStrings" 94 ⟨"GlulxStrings$Machine", "isSystem", "(I)Z"⟩ ∈ Uw := Uw_of (inT3 _ (List.mem_of_getElem? (i := 15) rfl)) rfl
theorem mw40 : Cond.methodLink "GlulxStrings" 97 ⟨"GlulxStrings$Machine", "setSystem", "(II)V"⟩ ∈ Uw := Uw_of (inT3 _ (List.mem_of_getElem? (i := 18) rfl)) rfl
theorem mw41 : Cond.constant "GlulxStrings" 205 (100000 : Int32) ∈ Uw := Uw_of (inT3 _ (List.mem_of_getElem? (i := 30) rfl)) rfl
theorem mw42 : Cond.fieldLink "GlulxStrings$Machine" 47 "GlulxStrings$Machine" "fault" "I" ∈ Uw := Uw_of (inT1 _ (List.mem_of_getElem? (i := 182) rfl)) rfl
theorem mw43 : Cond.fieldLink "GlulxStrings$Machine" 53 "GlulxStrings$Machine" "memory" "LGlulxStrings$Memory;" ∈ Uw := Uw_of (inT1 _ (List.mem_of_getElem? (i := 164) rfl)) rfl
theorem mw44 : Cond.methodLink "GlulxStrings$Machine" 101 ⟨"GlulxStrings$Memory", "has", "(I)Z"⟩ ∈ Uw := Uw_of (inT3 _ (List.mem_of_getElem? (i := 39) rfl)) rfl
theorem mw45 : Cond.methodLink "GlulxStrings$Machine" 110 ⟨"GlulxStrings$Memory", "byteOf", "(I)I"⟩ ∈ Uw := Uw_of (inT3 _ (List.mem_of_getElem? (i := 44) rfl)) rfl
theorem mw46 : Cond.methodLink "GlulxStrings$Machine" 106 ⟨"GlulxStrings$Machine", "fail", "(I)V"⟩ ∈ Uw := Uw_of (inT3 _ (List.mem_of_getElem? (i := 40) rfl)) rfl
theorem mw47 : Cond.fieldLink "GlulxStrings$Job" 15 "GlulxStrings$Job" "kind" "I" ∈ Uw := Uw_of (inT1 _ (List.mem_of_getElem? (i := 133) rfl)) rfl
theorem mw48 : Cond.fieldLink "GlulxStrings$Job" 19 "GlulxStrings$Job" "place" "I" ∈ Uw := Uw_of (inT1 _ (List.mem_of_getElem? (i := 135) rfl)) rfl
theorem mw49 : Cond.fieldLink "GlulxStrings$Job" 22 "GlulxStrings$Job" "bit" "I" ∈ Uw := Uw_of (inT1 _ (List.mem_of_getElem? (i := 137) rfl)) rfl
theorem mw50 : Cond.fieldLink "GlulxStrings$Job" 25 "GlulxStrings$Job" "localCount" "I" ∈ Uw := Uw_of (inT1 _ (List.mem_of_getElem? (i := 139) rfl)) rfl
theorem mw51 : Cond.fieldLink "GlulxStrings$Job" 28 "GlulxStrings$Job" "atRoot" "Z" ∈ Uw := Uw_of (inT1 _ (List.mem_of_getElem? (i := 141) rfl)) rfl
theorem mw52 : Cond.fieldLink "GlulxStrings$Job" 32 "GlulxStrings$Job" "node" "I" ∈ Uw := Uw_of (inT1 _ (List.mem_of_getElem? (i := 143) rfl)) rfl
theorem mw53 : Cond.fieldLink "GlulxStrings$Job" 35 "GlulxStrings$Job" "resultTo" "I" ∈ Uw := Uw_of (inT1 _ (List.mem_of_getElem? (i := 145) rfl)) rfl
theorem mw54 : Cond.fieldLink "GlulxStrings$Machine" 35 "GlulxStrings$Machine" "depth" "I" ∈ Uw := Uw_of (inT1 _ (List.mem_of_getElem? (i := 174) rfl)) rfl
theorem mw55 : Cond.fieldLink "GlulxStrings$Machine" 20 "GlulxStrings$Machine" "jobs" "[LGlulxStrings$Job;" ∈ Uw := Uw_of (inT1 _ (List.mem_of_getElem? (i := 168) rfl)) rfl
theorem mw56 : Cond.methodLink "GlulxStrings$Machine" 184 ⟨"GlulxStrings$Job", "reset", "(II)V"⟩ ∈ Uw := Uw_of (inT3 _ (List.mem_of_getElem? (i := 49) rfl)) rfl
theorem mw57 : Cond.fieldLink "GlulxStrings$Machine" 12 "GlulxStrings$Machine" "tally" "LGlulxStrings$Tally;" ∈ Uw := Uw_of (inT1 _ (List.mem_of_getElem? (i := 166) rfl)) rfl
theorem mw58 : Cond.fieldLink "GlulxStrings$Machine" 187 "GlulxStrings$Tally" "mostJobs" "I" ∈ Uw := Uw_of (inT1 _ (List.mem_of_getElem? (i := 106) rfl)) rfl
theorem mw59 : Cond.methodLink "GlulxStrings$Machine" 190 ⟨"java/lang/Math", "max", "(II)I"⟩ ∈ Uw := Uw_of (inT3 _ (List.mem_of_getElem? (i := 53) rfl)) rfl
theorem mw60 : Cond.methodLink "GlulxStrings$Machine" 123 ⟨"GlulxStrings$Machine", "readByte", "(I)I"⟩ ∈ Uw := Uw_of (inT3 _ (List.mem_of_getElem? (i := 35) rfl)) rfl
theorem mw61 : Cond.methodLink "GlulxStrings$Machine" 169 ⟨"GlulxStrings$Machine", "begin", "(II)V"⟩ ∈ Uw := Uw_of (inT3 _ (List.mem_of_getElem? (i := 45) rfl)) rfl
theorem mw62 : Cond.fieldLink "GlulxStrings$Machine" 50 "GlulxStrings$Machine" "cursor" "I" ∈ Uw := Uw_of (inT1 _ (List.mem_of_getElem? (i := 183) rfl)) rfl
theorem mw63 : Cond.methodLink "GlulxStrings$Machine" 114 ⟨"GlulxStrings$Memory", "hasFour", "(I)Z"⟩ ∈ Uw := Uw_of (inT3 _ (List.mem_of_getElem? (i := 84) rfl)) rfl
theorem mw64 : Cond.methodLink "GlulxStrings$Machine" 117 ⟨"GlulxStrings$Memory", "fourOf", "(I)I"⟩ ∈ Uw := Uw_of (inT3 _ (List.mem_of_getElem? (i := 88) rfl)) rfl
theorem mw65 : Cond.methodLink "GlulxStrings$Machine" 129 ⟨"GlulxStrings$Machine", "readFour", "(I)I"⟩ ∈ Uw := Uw_of (inT3 _ (List.mem_of_getElem? (i := 80) rfl)) rfl
theorem mw66 : Cond.methodLink "GlulxStrings$Machine" 287 ⟨"GlulxStrings$Job", "hasLocal", "(I)Z"⟩ ∈ Uw := Uw_of (inT3 _ (List.mem_of_getElem? (i := 93) rfl)) rfl
theorem mw67 : Cond.fieldLink "GlulxStrings$Machine" 204 "GlulxStrings$Job" "locals" "[I" ∈ Uw := Uw_of (inT1 _ (List.mem_of_getElem? (i := 132) rfl)) rfl
theorem mw68 : Cond.methodLink "GlulxStrings$Machine" 225 ⟨"GlulxStrings$Machine", "nextByte", "()I"⟩ ∈ Uw := Uw_of (inT3 _ (List.mem_of_getElem? (i := 64) rfl)) rfl
theorem mw69 : Cond.methodLink "GlulxStrings$Machine" 280 ⟨"GlulxStrings$Machine", "nextFour", "()I"⟩ ∈ Uw := Uw_of (inT3 _ (List.mem_of_getElem? (i := 76) rfl)) rfl
theorem mw70 : Cond.methodLink "GlulxStrings$Machine" 283 ⟨"GlulxStrings$Machine", "localOf", "(LGlulxStrings$Job;I)I"⟩ ∈ Uw := Uw_of (inT3 _ (List.mem_of_getElem? (i := 89) rfl)) rfl
theorem mw71 : Cond.fieldLink "GlulxStrings$Job" 11 "GlulxStrings$Job" "locals" "[I" ∈ Uw := Uw_of (inT1 _ (List.mem_of_getElem? (i := 131) rfl)) rfl
theorem mw72 : Cond.methodLink "GlulxStrings$Machine" 207 ⟨"java/util/Arrays", "fill", "([II)V"⟩ ∈ Uw := Uw_of (inT3 _ (List.mem_of_getElem? (i := 109) rfl)) rfl
theorem mw73 : Cond.fieldLink "GlulxStrings$Machine" 31 "GlulxStrings$Machine" "argumentCount" "I" ∈ Uw := Uw_of (inT1 _ (List.mem_of_getElem? (i := 173) rfl)) rfl
theorem mw74 : Cond.fieldLink "GlulxStrings$Machine" 28 "GlulxStrings$Machine" "arguments" "[I" ∈ Uw := Uw_of (inT1 _ (List.mem_of_getElem? (i := 172) rfl)) rfl
theorem mw75 : Cond.methodLink "GlulxStrings$Machine" 213 ⟨"GlulxStrings$Job", "setLocal", "(II)V"⟩ ∈ Uw := Uw_of (inT3 _ (List.mem_of_getElem? (i := 112) rfl)) rfl
theorem mw76 : Cond.fieldLink "GlulxStrings$Machine" 194 "GlulxStrings$Job" "localCount" "I" ∈ Uw := Uw_of (inT1 _ (List.mem_of_getElem? (i := 140) rfl)) rfl
theorem mw77 : Cond.fieldLink "GlulxStrings$Machine" 197 "GlulxStrings$Job" "resultTo" "I" ∈ Uw := Uw_of (inT1 _ (List.mem_of_getElem? (i := 146) rfl)) rfl
theorem mw78 : Cond.methodLink "GlulxStrings$Machine" 200 ⟨"GlulxStrings$Machine", "fillLocals", "(LGlulxStrings$Job;Z)V"⟩ ∈ Uw := Uw_of (inT3 _ (List.mem_of_getElem? (i := 105) rfl)) rfl
theorem mw79 : Cond.methodLink "GlulxStrings$Machine" 234 ⟨"GlulxStrings$Machine", "nextValue", "(LGlulxStrings$Job;)I"⟩ ∈ Uw := Uw_of (inT3 _ (List.mem_of_getElem? (i := 72) rfl)) rfl
theorem mw80 : Cond.methodLink "GlulxStrings$Machine" 241 ⟨"GlulxStrings$Machine", "nextTarget", "(LGlulxStrings$Job;)I"⟩ ∈ Uw := Uw_of (inT3 _ (List.mem_of_getElem? (i := 97) rfl)) rfl
theorem mw81 : Cond.fieldLink "GlulxStrings$Machine" 120 "GlulxStrings$Job" "place" "I" ∈ Uw := Uw_of (inT1 _ (List.mem_of_getElem? (i := 136) rfl)) rfl
theorem mw82 : Cond.methodLink "GlulxStrings$Machine" 178 ⟨"GlulxStrings$Machine", "callFunction", "(II)V"⟩ ∈ Uw := Uw_of (inT3 _ (List.mem_of_getElem? (i := 101) rfl)) rfl
theorem mw83 : Cond.fieldLink "GlulxStrings$Machine" 57 "GlulxStrings$Machine" "table" "LGlulxStrings$Table;" ∈ Uw := Uw_of (inT1 _ (List.mem_of_getElem? (i := 165) rfl)) rfl
theorem mw84 : Cond.fieldLink "GlulxStrings$Machine" 147 "GlulxStrings$Table" "address" "I" ∈ Uw := Uw_of (inT1 _ (List.mem_of_getElem? (i := 57) rfl)) rfl
theorem mw85 : Cond.fieldLink "GlulxStrings$Machine" 271 "GlulxStrings$Tally" "result" "I" ∈ Uw := Uw_of (inT1 _ (List.mem_of_getElem? (i := 104) rfl)) rfl
theorem mw86 : Cond.fieldLink "GlulxStrings$Machine" 38 "GlulxStrings$Machine" "outCount" "I" ∈ Uw := Uw_of (inT1 _ (List.mem_of_getElem? (i := 176) rfl)) rfl
theorem mw87 : Cond.fieldLink "GlulxStrings$Machine" 24 "GlulxStrings$Machine" "out" "[I" ∈ Uw := Uw_of (inT1 _ (List.mem_of_getElem? (i := 170) rfl)) rfl
theorem mw88 : Cond.fieldLink "GlulxStrings$Machine" 66 "GlulxStrings$Tally" "toOut" "I" ∈ Uw := Uw_of (inT1 _ (List.mem_of_getElem? (i := 94) rfl)) rfl
theorem mw89 : Cond.fieldLink "GlulxStrings$Machine" 222 "GlulxStrings$Tally" "toNowhere" "I" ∈ Uw := Uw_of (inT1 _ (List.mem_of_getElem? (i := 98) rfl)) rfl
theorem mw90 : Cond.fieldLink "GlulxStrings$Machine" 219 "GlulxStrings$Tally" "toFunction" "I" ∈ Uw := Uw_of (inT1 _ (List.mem_of_getElem? (i := 96) rfl)) rfl
theorem mw91 : Cond.methodLink "GlulxStrings$Machine" 216 ⟨"GlulxStrings$Machine", "putOut", "(I)V"⟩ ∈ Uw := Uw_of (inT3 _ (List.mem_of_getElem? (i := 143) rfl)) rfl
theorem mw92 : Cond.fieldLink "GlulxStrings$Machine" 274 "GlulxStrings$Memory" "border" "I" ∈ Uw := Uw_of (inT1 _ (List.mem_of_getElem? (i := 35) rfl)) rfl
theorem mw93 : Cond.methodLink "GlulxStrings$Machine" 277 ⟨"GlulxStrings$Memory", "putByte", "(II)V"⟩ ∈ Uw := Uw_of (inT3 _ (List.mem_of_getElem? (i := 154) rfl)) rfl
theorem mw94 : Cond.methodLink "GlulxStrings$Machine" 259 ⟨"GlulxStrings$Machine", "endFunction", "(LGlulxStrings$Job;I)V"⟩ ∈ Uw := Uw_of (inT3 _ (List.mem_of_getElem? (i := 135) rfl)) rfl
theorem mw95 : Cond.methodLink "GlulxStrings$Machine" 126 ⟨"GlulxStrings$Machine", "give", "(I)V"⟩ ∈ Uw := Uw_of (inT3 _ (List.mem_of_getElem? (i := 139) rfl)) rfl
theorem mw96 : Cond.methodLink "GlulxStrings$Machine" 181 ⟨"GlulxStrings$Machine", "beginString", "(I)V"⟩ ∈ Uw := Uw_of (inT3 _ (List.mem_of_getElem? (i := 147) rfl)) rfl
theorem mw97 : Cond.methodLink "GlulxStrings$Machine" 262 ⟨"GlulxStrings$Machine", "setSystem", "(II)V"⟩ ∈ Uw := Uw_of (inT3 _ (List.mem_of_getElem? (i := 148) rfl)) rfl
theorem mw98 : Cond.methodLink "GlulxStrings$Machine" 265 ⟨"GlulxStrings$Table", "tell", "(I)V"⟩ ∈ Uw := Uw_of (inT3 _ (List.mem_of_getElem? (i := 149) rfl)) rfl
theorem mw99 : Cond.methodLink "GlulxStrings$Machine" 268 ⟨"GlulxStrings$Machine", "writeByte", "(II)V"⟩ ∈ Uw := Uw_of (inT3 _ (List.mem_of_getElem? (i := 150) rfl)) rfl
theorem mw100 : Cond.fieldLink "GlulxStrings$Machine" 231 "GlulxStrings$Machine" "VALUES" "[I" ∈ Uw := Uw_of (inT3 _ (List.mem_of_getElem? (i := 116) rfl)) rfl
theorem mw101 : Cond.fieldLink "GlulxStrings$Machine" 238 "GlulxStrings$Machine" "TAILS" "[I" ∈ Uw := Uw_of (inT3 _ (List.mem_of_getElem? (i := 118) rfl)) rfl
theorem mw102 : Cond.methodLink "GlulxStrings$Machine" 255 ⟨"GlulxStrings$Machine", "act", "(LGlulxStrings$Job;III)V"⟩ ∈ Uw := Uw_of (inT3 _ (List.mem_of_getElem? (i := 131) rfl)) rfl
theorem mw103 : Cond.methodLink "GlulxStrings$Machine" 251 ⟨"GlulxStrings$Machine", "goesThere", "(III)Z"⟩ ∈ Uw := Uw_of (inT3 _ (List.mem_of_getElem? (i := 128) rfl)) rfl
theorem mw104 : Cond.methodLink "GlulxStrings$Machine" 247 ⟨"GlulxStrings$Machine", "valueFor", "(III)I"⟩ ∈ Uw := Uw_of (inT3 _ (List.mem_of_getElem? (i := 124) rfl)) rfl
theorem mw105 : Cond.methodLink "GlulxStrings$Machine" 244 ⟨"GlulxStrings$Machine", "nextDistance", "()I"⟩ ∈ Uw := Uw_of (inT3 _ (List.mem_of_getElem? (i := 120) rfl)) rfl
theorem mw106 : Cond.methodLink "GlulxStrings$Machine" 228 ⟨"GlulxStrings$Machine", "doCallOrder", "(LGlulxStrings$Job;)V"⟩ ∈ Uw := Uw_of (inT3 _ (List.mem_of_getElem? (i := 68) rfl)) rfl
theorem mw107 : Cond.fieldLink "GlulxStrings$Machine" 142 "GlulxStrings$Job" "bit" "I" ∈ Uw := Uw_of (inT1 _ (List.mem_of_getElem? (i := 138) rfl)) rfl
theorem mw108 : Cond.fieldLink "GlulxStrings$Machine" 158 "GlulxStrings$Job" "node" "I" ∈ Uw := Uw_of (inT1 _ (List.mem_of_getElem? (i := 144) rfl)) rfl
theorem mw109 : Cond.fieldLink "GlulxStrings$Machine" 152 "GlulxStrings$Job" "atRoot" "Z" ∈ Uw := Uw_of (inT1 _ (List.mem_of_getElem? (i := 142) rfl)) rfl
theorem mw110 : Cond.methodLink "GlulxStrings$Machine" 175 ⟨"GlulxStrings$Machine", "readArguments", "(I)V"⟩ ∈ Uw := Uw_of (inT3 _ (List.mem_of_getElem? (i := 182) rfl)) rfl
theorem mw111 : Cond.methodLink "GlulxStrings$Machine" 172 ⟨"GlulxStrings$Machine", "enterThing", "(II)V"⟩ ∈ Uw := Uw_of (inT3 _ (List.mem_of_getElem? (i := 178) rfl)) rfl
theorem mw112 : Cond.methodLink "GlulxStrings$Machine" 165 ⟨"GlulxStrings$Machine", "doLeaf", "(II)V"⟩ ∈ Uw := Uw_of (inT3 _ (List.mem_of_getElem? (i := 174) rfl)) rfl
theorem mw113 : Cond.methodLink "GlulxStrings$Machine" 161 ⟨"GlulxStrings$Machine", "followBranch", "(LGlulxStrings$Job;I)V"⟩ ∈ Uw := Uw_of (inT3 _ (List.mem_of_getElem? (i := 170) rfl)) rfl
theorem mw114 : Cond.constantLong "GlulxStrings$Machine" 145 (10 : Int64) ∈ Uw := Uw_of (inT3 _ (List.mem_of_getElem? (i := 196) rfl)) rfl
theorem mw115 : Cond.methodLink "GlulxStrings$Machine" 132 ⟨"java/lang/Math", "abs", "(J)J"⟩ ∈ Uw := Uw_of (inT3 _ (List.mem_of_getElem? (i := 190) rfl)) rfl
theorem mw116 : Cond.methodLink "GlulxStrings$Machine" 138 ⟨"GlulxStrings$Machine", "digitCount", "(J)I"⟩ ∈ Uw := Uw_of (inT3 _ (List.mem_of_getElem? (i := 193) rfl)) rfl
theorem mw117 : Cond.fieldLink "GlulxStrings$Machine" 95 "GlulxStrings$Tally" "faults" "I" ∈ Uw := Uw_of (inT1 _ (List.mem_of_getElem? (i := 100) rfl)) rfl
theorem mw118 : Cond.fieldLink "GlulxStrings$Machine" 98 "GlulxStrings$Tally" "latestFault" "I" ∈ Uw := Uw_of (inT1 _ (List.mem_of_getElem? (i := 102) rfl)) rfl
theorem mw119 : Cond.methodLink "GlulxStrings$Machine" 91 ⟨"GlulxStrings$Machine", "endInFault", "()I"⟩ ∈ Uw := Uw_of (inT3 _ (List.mem_of_getElem? (i := 197) rfl)) rfl
theorem mw120 : Cond.fieldLink "GlulxStrings$Machine" 69 "GlulxStrings$Tally" "steps" "I" ∈ Uw := Uw_of (inT1 _ (List.mem_of_getElem? (i := 92) rfl)) rfl
theorem mw121 : Cond.fieldLink "GlulxStrings$Machine" 72 "GlulxStrings$Job" "kind" "I" ∈ Uw := Uw_of (inT1 _ (List.mem_of_getElem? (i := 134) rfl)) rfl
theorem mw122 : Cond.methodLink "GlulxStrings$Machine" 75 ⟨"GlulxStrings$Machine", "doOrder", "(LGlulxStrings$Job;)V"⟩ ∈ Uw := Uw_of (inT3 _ (List.mem_of_getElem? (i := 60) rfl)) rfl
theorem mw123 : Cond.methodLink "GlulxStrings$Machine" 79 ⟨"GlulxStrings$Machine", "stepPlain", "(LGlulxStrings$Job;)V"⟩ ∈ Uw := Uw_of (inT3 _ (List.mem_of_getElem? (i := 158) rfl)) rfl
theorem mw124 : Cond.methodLink "GlulxStrings$Machine" 82 ⟨"GlulxStrings$Machine", "stepWide", "(LGlulxStrings$Job;)V"⟩ ∈ Uw := Uw_of (inT3 _ (List.mem_of_getElem? (i := 162) rfl)) rfl
theorem mw125 : Cond.methodLink "GlulxStrings$Machine" 85 ⟨"GlulxStrings$Machine", "stepPacked", "(LGlulxStrings$Job;)V"⟩ ∈ Uw := Uw_of (inT3 _ (List.mem_of_getElem? (i := 166) rfl)) rfl
theorem mw126 : Cond.methodLink "GlulxStrings$Machine" 88 ⟨"GlulxStrings$Machine", "stepNumber", "(LGlulxStrings$Job;)V"⟩ ∈ Uw := Uw_of (inT3 _ (List.mem_of_getElem? (i := 186) rfl)) rfl
theorem mw127 : Cond.methodLink "GlulxStrings" 100 ⟨"GlulxStrings", "isStepCount", "(I)Z"⟩ ∈ Uw := Uw_of (inT3 _ (List.mem_of_getElem? (i := 27) rfl)) rfl
theorem mw128 : Cond.methodLink "GlulxStrings" 103 ⟨"GlulxStrings$Machine", "beginString", "(I)V"⟩ ∈ Uw := Uw_of (inT3 _ (List.mem_of_getElem? (i := 31) rfl)) rfl
theorem mw129 : Cond.methodLink "GlulxStrings" 106 ⟨"GlulxStrings$Machine", "run", "(I)I"⟩ ∈ Uw := Uw_of (inT3 _ (List.mem_of_getElem? (i := 56) rfl)) rfl
theorem mw130 : Cond.methodLink "GlulxStrings" 111 ⟨"GlulxStrings$Machine", "begin", "(II)V"⟩ ∈ Uw := Uw_of (inT3 _ (List.mem_of_getElem? (i := 205) rfl)) rfl
theorem mw131 : Cond.fieldLink "GlulxStrings" 53 "GlulxStrings" "lined" "I" ∈ Uw := Uw_of (inT2 _ (List.mem_of_getElem? (i := 155) rfl)) rfl
theorem mw132 : Cond.fieldLink "GlulxStrings" 45 "GlulxStrings" "line" "[I" ∈ Uw := Uw_of (inT2 _ (List.mem_of_getElem? (i := 153) rfl)) rfl
theorem mw133 : Cond.methodLink "GlulxStrings" 114 ⟨"GlulxStrings$Machine", "setArguments", "([II)V"⟩ ∈ Uw := Uw_of (inT3 _ (List.mem_of_getElem? (i := 210) rfl)) rfl
theorem mw134 : Cond.methodLink "GlulxStrings" 118 ⟨"GlulxStrings$Machine", "callFunction", "(II)V"⟩ ∈ Uw := Uw_of (inT3 _ (List.mem_of_getElem? (i := 214) rfl)) rfl
theorem mw135 : Cond.methodLink "GlulxStrings$Job" 38 ⟨"GlulxStrings$Job", "tellNode", "()I"⟩ ∈ Uw := Uw_of (inT3 _ (List.mem_of_getElem? (i := 235) rfl)) rfl
theorem mw136 : Cond.methodLink "GlulxStrings$Job" 42 ⟨"GlulxStrings$Job", "hasLocal", "(I)Z"⟩ ∈ Uw := Uw_of (inT3 _ (List.mem_of_getElem? (i := 239) rfl)) rfl
theorem mw137 : Cond.fieldLink "GlulxStrings" 121 "GlulxStrings$Machine" "jobs" "[LGlulxStrings$Job;" ∈ Uw := Uw_of (inT1 _ (List.mem_of_getElem? (i := 169) rfl)) rfl
theorem mw138 : Cond.methodLink "GlulxStrings" 125 ⟨"GlulxStrings$Job", "tell", "(I)I"⟩ ∈ Uw := Uw_of (inT3 _ (List.mem_of_getElem? (i := 231) rfl)) rfl
theorem mw139 : Cond.fieldLink "GlulxStrings" 127 "GlulxStrings$Machine" "outCount" "I" ∈ Uw := Uw_of (inT1 _ (List.mem_of_getElem? (i := 177) rfl)) rfl
theorem mw140 : Cond.fieldLink "GlulxStrings" 130 "GlulxStrings$Machine" "out" "[I" ∈ Uw := Uw_of (inT1 _ (List.mem_of_getElem? (i := 171) rfl)) rfl
theorem mw141 : Cond.fieldLink "GlulxStrings$Tally" 9 "GlulxStrings$Tally" "steps" "I" ∈ Uw := Uw_of (inT1 _ (List.mem_of_getElem? (i := 91) rfl)) rfl
theorem mw142 : Cond.fieldLink "GlulxStrings$Tally" 15 "GlulxStrings$Tally" "toOut" "I" ∈ Uw := Uw_of (inT1 _ (List.mem_of_getElem? (i := 93) rfl)) rfl
theorem mw143 : Cond.fieldLink "GlulxStrings$Tally" 18 "GlulxStrings$Tally" "toFunction" "I" ∈ Uw := Uw_of (inT1 _ (List.mem_of_getElem? (i := 95) rfl)) rfl
theorem mw144 : Cond.fieldLink "GlulxStrings$Tally" 21 "GlulxStrings$Tally" "toNowhere" "I" ∈ Uw := Uw_of (inT1 _ (List.mem_of_getElem? (i := 97) rfl)) rfl
theorem mw145 : Cond.fieldLink "GlulxStrings$Tally" 24 "GlulxStrings$Tally" "faults" "I" ∈ Uw := Uw_of (inT1 _ (List.mem_of_getElem? (i := 99) rfl)) rfl
theorem mw146 : Cond.fieldLink "GlulxStrings$Tally" 27 "GlulxStrings$Tally" "latestFault" "I" ∈ Uw := Uw_of (inT1 _ (List.mem_of_getElem? (i := 101) rfl)) rfl
theorem mw147 : Cond.fieldLink "GlulxStrings$Tally" 30 "GlulxStrings$Tally" "result" "I" ∈ Uw := Uw_of (inT1 _ (List.mem_of_getElem? (i := 103) rfl)) rfl
theorem mw148 : Cond.fieldLink "GlulxStrings$Tally" 33 "GlulxStrings$Tally" "mostJobs" "I" ∈ Uw := Uw_of (inT1 _ (List.mem_of_getElem? (i := 105) rfl)) rfl
theorem mw149 : Cond.fieldLink "GlulxStrings" 133 "GlulxStrings$Machine" "system" "I" ∈ Uw := Uw_of (inT1 _ (List.mem_of_getElem? (i := 179) rfl)) rfl
theorem mw150 : Cond.fieldLink "GlulxStrings" 136 "GlulxStrings$Machine" "systemWith" "I" ∈ Uw := Uw_of (inT1 _ (List.mem_of_getElem? (i := 181) rfl)) rfl
theorem mw151 : Cond.fieldLink "GlulxStrings" 139 "GlulxStrings$Table" "address" "I" ∈ Uw := Uw_of (inT1 _ (List.mem_of_getElem? (i := 58) rfl)) rfl
theorem mw152 : Cond.fieldLink "GlulxStrings" 37 "GlulxStrings" "packer" "LGlulxStrings$Packer;" ∈ Uw := Uw_of (inT2 _ (List.mem_of_getElem? (i := 151) rfl)) rfl
theorem mw153 : Cond.fieldLink "GlulxStrings" 142 "GlulxStrings$Packer" "pieces" "LGlulxStrings$Pieces;" ∈ Uw := Uw_of (inT2 _ (List.mem_of_getElem? (i := 110) rfl)) rfl
theorem mw154 : Cond.fieldLink "GlulxStrings" 146 "GlulxStrings$Pieces" "count" "I" ∈ Uw := Uw_of (inT1 _ (List.mem_of_getElem? (i := 236) rfl)) rfl
theorem mw155 : Cond.fieldLink "GlulxStrings" 151 "GlulxStrings$Packer" "texts" "LGlulxStrings$Texts;" ∈ Uw := Uw_of (inT2 _ (List.mem_of_getElem? (i := 112) rfl)) rfl
theorem mw156 : Cond.fieldLink "GlulxStrings" 155 "GlulxStrings$Texts" "count" "I" ∈ Uw := Uw_of (inT2 _ (List.mem_of_getElem? (i := 31) rfl)) rfl
theorem mw157 : Cond.fieldLink "GlulxStrings" 158 "GlulxStrings$Machine" "tally" "LGlulxStrings$Tally;" ∈ Uw := Uw_of (inT1 _ (List.mem_of_getElem? (i := 167) rfl)) rfl
theorem mw158 : Cond.methodLink "GlulxStrings" 162 ⟨"GlulxStrings$Tally", "tell", "(I)I"⟩ ∈ Uw := Uw_of (inT4 _ (List.mem_of_getElem? (i := 12) rfl)) rfl
theorem mw159 : Cond.methodLink "GlulxStrings$Pieces" 33 ⟨"GlulxStrings$Pieces", "areSigns", "([IIZ)Z"⟩ ∈ Uw := Uw_of (inT4 _ (List.mem_of_getElem? (i := 27) rfl)) rfl
theorem mw160 : Cond.fieldLink "GlulxStrings$Pieces" 29 "GlulxStrings$Pieces" "count" "I" ∈ Uw := Uw_of (inT1 _ (List.mem_of_getElem? (i := 233) rfl)) rfl
theorem mw161 : Cond.fieldLink "GlulxStrings$Pieces" 11 "GlulxStrings$Pieces" "kinds" "[I" ∈ Uw := Uw_of (inT1 _ (List.mem_of_getElem? (i := 225) rfl)) rfl
theorem mw162 : Cond.fieldLink "GlulxStrings$Pieces" 23 "GlulxStrings$Pieces" "lengths" "[I" ∈ Uw := Uw_of (inT1 _ (List.mem_of_getElem? (i := 228) rfl)) rfl
theorem mw163 : Cond.fieldLink "GlulxStrings$Pieces" 26 "GlulxStrings$Pieces" "bits" "[I" ∈ Uw := Uw_of (inT1 _ (List.mem_of_getElem? (i := 230) rfl)) rfl
theorem mw164 : Cond.fieldLink "GlulxStrings$Pieces" 15 "GlulxStrings$Pieces" "addresses" "[I" ∈ Uw := Uw_of (inT1 _ (List.mem_of_getElem? (i := 226) rfl)) rfl
theorem mw165 : Cond.fieldLink "GlulxStrings$Pieces" 20 "GlulxStrings$Pieces" "signs" "[[I" ∈ Uw := Uw_of (inT1 _ (List.mem_of_getElem? (i := 227) rfl)) rfl
theorem mw166 : Cond.methodLink "GlulxStrings" 165 ⟨"GlulxStrings$Pieces", "isPiece", "(I[II)Z"⟩ ∈ Uw := Uw_of (inT4 _ (List.mem_of_getElem? (i := 24) rfl)) rfl
theorem mw167 : Cond.methodLink "GlulxStrings" 169 ⟨"GlulxStrings$Pieces", "add", "(I[II)I"⟩ ∈ Uw := Uw_of (inT4 _ (List.mem_of_getElem? (i := 30) rfl)) rfl
theorem mw168 : Cond.fieldLink "GlulxStrings$Parting" 9 "GlulxStrings$Parting" "fewest" "[I" ∈ Uw := Uw_of (inT2 _ (List.mem_of_getElem? (i := 50) rfl)) rfl
theorem mw169 : Cond.fieldLink "GlulxStrings$Parting" 15 "GlulxStrings$Parting" "firsts" "[I" ∈ Uw := Uw_of (inT2 _ (List.mem_of_getElem? (i := 51) rfl)) rfl
theorem mw170 : Cond.fieldLink "GlulxStrings$Parting" 18 "GlulxStrings$Parting" "pieces" "LGlulxStrings$Pieces;" ∈ Uw := Uw_of (inT2 _ (List.mem_of_getElem? (i := 49) rfl)) rfl
theorem mw171 : Cond.fieldLink "GlulxStrings$Parting" 26 "GlulxStrings$Pieces" "count" "I" ∈ Uw := Uw_of (inT1 _ (List.mem_of_getElem? (i := 234) rfl)) rfl
theorem mw172 : Cond.methodLink "GlulxStrings$Parting" 32 ⟨"GlulxStrings$Pieces", "standsAt", "(I[III)Z"⟩ ∈ Uw := Uw_of (inT4 _ (List.mem_of_getElem? (i := 46) rfl)) rfl
theorem mw173 : Cond.fieldLink "GlulxStrings$Parting" 36 "GlulxStrings$Pieces" "lengths" "[I" ∈ Uw := Uw_of (inT1 _ (List.mem_of_getElem? (i := 229) rfl)) rfl
theorem mw174 : Cond.methodLink "GlulxStrings$Parting" 22 ⟨"GlulxStrings$Parting", "choose", "([III)V"⟩ ∈ Uw := Uw_of (inT4 _ (List.mem_of_getElem? (i := 42) rfl)) rfl
theorem mw175 : Cond.fieldLink "GlulxStrings$Texts" 26 "GlulxStrings$Texts" "count" "I" ∈ Uw := Uw_of (inT2 _ (List.mem_of_getElem? (i := 29) rfl)) rfl
theorem mw176 : Cond.fieldLink "GlulxStrings$Texts" 16 "GlulxStrings$Texts" "lengths" "[I" ∈ Uw := Uw_of (inT2 _ (List.mem_of_getElem? (i := 20) rfl)) rfl
theorem mw177 : Cond.fieldLink "GlulxStrings$Texts" 20 "GlulxStrings$Texts" "places" "[I" ∈ Uw := Uw_of (inT2 _ (List.mem_of_getElem? (i := 23) rfl)) rfl
theorem mw178 : Cond.fieldLink "GlulxStrings$Texts" 23 "GlulxStrings$Texts" "bits" "[I" ∈ Uw := Uw_of (inT2 _ (List.mem_of_getElem? (i := 26) rfl)) rfl
theorem mw179 : Cond.fieldLink "GlulxStrings$Texts" 13 "GlulxStrings$Texts" "signs" "[[I" ∈ Uw := Uw_of (inT2 _ (List.mem_of_getElem? (i := 17) rfl)) rfl
theorem mw180 : Cond.fieldLink "GlulxStrings" 173 "GlulxStrings$Packer" "parting" "LGlulxStrings$Parting;" ∈ Uw := Uw_of (inT2 _ (List.mem_of_getElem? (i := 114) rfl)) rfl
theorem mw181 : Cond.methodLink "GlulxStrings" 177 ⟨"GlulxStrings$Parting", "part", "([II)I"⟩ ∈ Uw := Uw_of (inT4 _ (List.mem_of_getElem? (i := 38) rfl)) rfl
theorem mw182 : Cond.methodLink "GlulxStrings" 183 ⟨"GlulxStrings$Texts", "add", "([II)I"⟩ ∈ Uw := Uw_of (inT4 _ (List.mem_of_getElem? (i := 50) rfl)) rfl
theorem mw183 : Cond.fieldLink "GlulxStrings$Packer" 53 "GlulxStrings$Packer" "uses" "[I" ∈ Uw := Uw_of (inT2 _ (List.mem_of_getElem? (i := 119) rfl)) rfl
theorem mw184 : Cond.methodLink "GlulxStrings$Packer" 110 ⟨"java/util/Arrays", "fill", "([II)V"⟩ ∈ Uw := Uw_of (inT4 _ (List.mem_of_getElem? (i := 66) rfl)) rfl
theorem mw185 : Cond.fieldLink "GlulxStrings$Packer" 21 "GlulxStrings$Packer" "texts" "LGlulxStrings$Texts;" ∈ Uw := Uw_of (inT2 _ (List.mem_of_getElem? (i := 111) rfl)) rfl
theorem mw186 : Cond.fieldLink "GlulxStrings$Packer" 85 "GlulxStrings$Texts" "count" "I" ∈ Uw := Uw_of (inT2 _ (List.mem_of_getElem? (i := 30) rfl)) rfl
theorem mw187 : Cond.fieldLink "GlulxStrings$Packer" 30 "GlulxStrings$Packer" "parting" "LGlulxStrings$Parting;" ∈ Uw := Uw_of (inT2 _ (List.mem_of_getElem? (i := 113) rfl)) rfl
theorem mw188 : Cond.fieldLink "GlulxStrings$Packer" 116 "GlulxStrings$Texts" "signs" "[[I" ∈ Uw := Uw_of (inT2 _ (List.mem_of_getElem? (i := 18) rfl)) rfl
theorem mw189 : Cond.fieldLink "GlulxStrings$Packer" 119 "GlulxStrings$Texts" "lengths" "[I" ∈ Uw := Uw_of (inT2 _ (List.mem_of_getElem? (i := 21) rfl)) rfl
theorem mw190 : Cond.methodLink "GlulxStrings$Packer" 122 ⟨"GlulxStrings$Parting", "part", "([II)I"⟩ ∈ Uw := Uw_of (inT4 _ (List.mem_of_getElem? (i := 67) rfl)) rfl
theorem mw191 : Cond.fieldLink "GlulxStrings$Packer" 46 "GlulxStrings$Packer" "partCounts" "[I" ∈ Uw := Uw_of (inT2 _ (List.mem_of_getElem? (i := 117) rfl)) rfl
theorem mw192 : Cond.fieldLink "GlulxStrings$Packer" 43 "GlulxStrings$Packer" "parts" "[[I" ∈ Uw := Uw_of (inT2 _ (List.mem_of_getElem? (i := 116) rfl)) rfl
theorem mw193 : Cond.methodLink "GlulxStrings$Packer" 126 ⟨"GlulxStrings$Parting", "copyPieces", "(I[I)I"⟩ ∈ Uw := Uw_of (inT4 _ (List.mem_of_getElem? (i := 68) rfl)) rfl
theorem mw194 : Cond.fieldLink "GlulxStrings$BestTree" 43 "GlulxStrings$BestTree" "count" "I" ∈ Uw := Uw_of (inT2 _ (List.mem_of_getElem? (i := 77) rfl)) rfl
theorem mw195 : Cond.fieldLink "GlulxStrings$BestTree" 47 "GlulxStrings$BestTree" "leafCount" "I" ∈ Uw := Uw_of (inT2 _ (List.mem_of_getElem? (i := 79) rfl)) rfl
theorem mw196 : Cond.fieldLink "GlulxStrings$BestTree" 13 "GlulxStrings$BestTree" "uses" "[I" ∈ Uw := Uw_of (inT2 _ (List.mem_of_getElem? (i := 65) rfl)) rfl
theorem mw197 : Cond.fieldLink "GlulxStrings$BestTree" 27 "GlulxStrings$BestTree" "sizes" "[I" ∈ Uw := Uw_of (inT2 _ (List.mem_of_getElem? (i := 69) rfl)) rfl
theorem mw198 : Cond.fieldLink "GlulxStrings$BestTree" 17 "GlulxStrings$BestTree" "joined" "[Z" ∈ Uw := Uw_of (inT2 _ (List.mem_of_getElem? (i := 66) rfl)) rfl
theorem mw199 : Cond.fieldLink "GlulxStrings$BestTree" 30 "GlulxStrings$BestTree" "leaves" "[I" ∈ Uw := Uw_of (inT2 _ (List.mem_of_getElem? (i := 70) rfl)) rfl
theorem mw200 : Cond.methodLink "GlulxStrings$BestTree" 50 ⟨"GlulxStrings$BestTree", "addKnot", "(II)V"⟩ ∈ Uw := Uw_of (inT4 _ (List.mem_of_getElem? (i := 84) rfl)) rfl
theorem mw201 : Cond.methodLink "GlulxStrings$BestTree" 54 ⟨"GlulxStrings$BestTree", "takeLeast", "()I"⟩ ∈ Uw := Uw_of (inT4 _ (List.mem_of_getElem? (i := 96) rfl)) rfl
theorem mw202 : Cond.fieldLink "GlulxStrings$BestTree" 21 "GlulxStrings$BestTree" "zeros" "[I" ∈ Uw := Uw_of (inT2 _ (List.mem_of_getElem? (i := 67) rfl)) rfl
theorem mw203 : Cond.fieldLink "GlulxStrings$BestTree" 24 "GlulxStrings$BestTree" "ones" "[I" ∈ Uw := Uw_of (inT2 _ (List.mem_of_getElem? (i := 68) rfl)) rfl
theorem mw204 : Cond.fieldLink "GlulxStrings$Packer" 37 "GlulxStrings$Packer" "best" "LGlulxStrings$BestTree;" ∈ Uw := Uw_of (inT2 _ (List.mem_of_getElem? (i := 115) rfl)) rfl
theorem mw205 : Cond.methodLink "GlulxStrings$Packer" 130 ⟨"GlulxStrings$BestTree", "clearLeaves", "()V"⟩ ∈ Uw := Uw_of (inT4 _ (List.mem_of_getElem? (i := 76) rfl)) rfl
theorem mw206 : Cond.methodLink "GlulxStrings$Packer" 133 ⟨"GlulxStrings$BestTree", "addLeaf", "(III)V"⟩ ∈ Uw := Uw_of (inT4 _ (List.mem_of_getElem? (i := 80) rfl)) rfl
theorem mw207 : Cond.fieldLink "GlulxStrings$Packer" 12 "GlulxStrings$Packer" "pieces" "LGlulxStrings$Pieces;" ∈ Uw := Uw_of (inT2 _ (List.mem_of_getElem? (i := 109) rfl)) rfl
theorem mw208 : Cond.fieldLink "GlulxStrings$Packer" 137 "GlulxStrings$Pieces" "count" "I" ∈ Uw := Uw_of (inT1 _ (List.mem_of_getElem? (i := 235) rfl)) rfl
theorem mw209 : Cond.methodLink "GlulxStrings$Packer" 142 ⟨"GlulxStrings$BestTree", "joinAll", "()V"⟩ ∈ Uw := Uw_of (inT4 _ (List.mem_of_getElem? (i := 92) rfl)) rfl
theorem mw210 : Cond.fieldLink "GlulxStrings$Packer" 56 "GlulxStrings$Packer" "leafOf" "[I" ∈ Uw := Uw_of (inT2 _ (List.mem_of_getElem? (i := 120) rfl)) rfl
theorem mw211 : Cond.fieldLink "GlulxStrings$Packer" 138 "GlulxStrings$BestTree" "count" "I" ∈ Uw := Uw_of (inT2 _ (List.mem_of_getElem? (i := 78) rfl)) rfl
theorem mw212 : Cond.methodLink "GlulxStrings$Packer" 139 ⟨"GlulxStrings$Pieces", "nodeSize", "(I)I"⟩ ∈ Uw := Uw_of (inT4 _ (List.mem_of_getElem? (i := 88) rfl)) rfl
theorem mw213 : Cond.fieldLink "GlulxStrings$BestTree" 33 "GlulxStrings$BestTree" "places" "[I" ∈ Uw := Uw_of (inT2 _ (List.mem_of_getElem? (i := 72) rfl)) rfl
theorem mw214 : Cond.fieldLink "GlulxStrings$BestTree" 36 "GlulxStrings$BestTree" "depths" "[I" ∈ Uw := Uw_of (inT2 _ (List.mem_of_getElem? (i := 73) rfl)) rfl
theorem mw215 : Cond.fieldLink "GlulxStrings$BestTree" 39 "GlulxStrings$BestTree" "codes" "[J" ∈ Uw := Uw_of (inT2 _ (List.mem_of_getElem? (i := 75) rfl)) rfl
theorem mw216 : Cond.fieldLink "GlulxStrings$Packer" 145 "GlulxStrings$BestTree" "depths" "[I" ∈ Uw := Uw_of (inT2 _ (List.mem_of_getElem? (i := 74) rfl)) rfl
theorem mw217 : Cond.methodLink "GlulxStrings$Memory" 17 ⟨"GlulxStrings$Memory", "putByte", "(II)V"⟩ ∈ Uw := Uw_of (inT4 _ (List.mem_of_getElem? (i := 121) rfl)) rfl
theorem mw218 : Cond.methodLink "GlulxStrings$BestTree" 72 ⟨"GlulxStrings$Memory", "putByte", "(II)V"⟩ ∈ Uw := Uw_of (inT4 _ (List.mem_of_getElem? (i := 126) rfl)) rfl
theorem mw219 : Cond.methodLink "GlulxStrings$BestTree" 63 ⟨"GlulxStrings$Memory", "putFour", "(II)V"⟩ ∈ Uw := Uw_of (inT4 _ (List.mem_of_getElem? (i := 117) rfl)) rfl
theorem mw220 : Cond.methodLink "GlulxStrings$Pieces" 39 ⟨"GlulxStrings$Memory", "putByte", "(II)V"⟩ ∈ Uw := Uw_of (inT4 _ (List.mem_of_getElem? (i := 131) rfl)) rfl
theorem mw221 : Cond.methodLink "GlulxStrings$Pieces" 49 ⟨"GlulxStrings$Memory", "putFour", "(II)V"⟩ ∈ Uw := Uw_of (inT4 _ (List.mem_of_getElem? (i := 136) rfl)) rfl
theorem mw222 : Cond.methodLink "GlulxStrings$Pieces" 45 ⟨"GlulxStrings$Pieces", "putBytes", "(LGlulxStrings$Memory;II)V"⟩ ∈ Uw := Uw_of (inT4 _ (List.mem_of_getElem? (i := 132) rfl)) rfl
theorem mw223 : Cond.methodLink "GlulxStrings$Pieces" 52 ⟨"GlulxStrings$Pieces", "putFours", "(LGlulxStrings$Memory;II)V"⟩ ∈ Uw := Uw_of (inT4 _ (List.mem_of_getElem? (i := 137) rfl)) rfl
theorem mw224 : Cond.methodLink "GlulxStrings$BestTree" 60 ⟨"GlulxStrings$BestTree", "size", "()I"⟩ ∈ Uw := Uw_of (inT4 _ (List.mem_of_getElem? (i := 116) rfl)) rfl
theorem mw225 : Cond.methodLink "GlulxStrings$BestTree" 75 ⟨"GlulxStrings$Pieces", "putNode", "(LGlulxStrings$Memory;II)V"⟩ ∈ Uw := Uw_of (inT4 _ (List.mem_of_getElem? (i := 127) rfl)) rfl
theorem mw226 : Cond.methodLink "GlulxStrings$BestTree" 68 ⟨"GlulxStrings$BestTree", "putBranch", "(LGlulxStrings$Memory;I)V"⟩ ∈ Uw := Uw_of (inT4 _ (List.mem_of_getElem? (i := 122) rfl)) rfl
theorem mw227 : Cond.fieldLink "GlulxStrings$Packer" 63 "GlulxStrings$Packer" "memory" "LGlulxStrings$Memory;" ∈ Uw := Uw_of (inT2 _ (List.mem_of_getElem? (i := 107) rfl)) rfl
theorem mw228 : Cond.methodLink "GlulxStrings$Packer" 166 ⟨"GlulxStrings$Memory", "byteOf", "(I)I"⟩ ∈ Uw := Uw_of (inT4 _ (List.mem_of_getElem? (i := 154) rfl)) rfl
theorem mw229 : Cond.fieldLink "GlulxStrings$Packer" 169 "GlulxStrings$BestTree" "codes" "[J" ∈ Uw := Uw_of (inT2 _ (List.mem_of_getElem? (i := 76) rfl)) rfl
theorem mw230 : Cond.methodLink "GlulxStrings$Packer" 159 ⟨"GlulxStrings$Memory", "putByte", "(II)V"⟩ ∈ Uw := Uw_of (inT4 _ (List.mem_of_getElem? (i := 149) rfl)) rfl
theorem mw231 : Cond.fieldLink "GlulxStrings$Packer" 50 "GlulxStrings$Packer" "packedBits" "[I" ∈ Uw := Uw_of (inT2 _ (List.mem_of_getElem? (i := 118) rfl)) rfl
theorem mw232 : Cond.methodLink "GlulxStrings$Packer" 162 ⟨"GlulxStrings$Packer", "putBits", "(III)I"⟩ ∈ Uw := Uw_of (inT4 _ (List.mem_of_getElem? (i := 150) rfl)) rfl
theorem mw233 : Cond.fieldLink "GlulxStrings$Packer" 148 "GlulxStrings$Texts" "places" "[I" ∈ Uw := Uw_of (inT2 _ (List.mem_of_getElem? (i := 24) rfl)) rfl
theorem mw234 : Cond.fieldLink "GlulxStrings$Packer" 151 "GlulxStrings$Texts" "bits" "[I" ∈ Uw := Uw_of (inT2 _ (List.mem_of_getElem? (i := 27) rfl)) rfl
theorem mw235 : Cond.methodLink "GlulxStrings$Packer" 154 ⟨"GlulxStrings$Packer", "putText", "(II)V"⟩ ∈ Uw := Uw_of (inT4 _ (List.mem_of_getElem? (i := 145) rfl)) rfl
theorem mw236 : Cond.fieldLink "GlulxStrings$Packer" 59 "GlulxStrings$Packer" "endBits" "I" ∈ Uw := Uw_of (inT2 _ (List.mem_of_getElem? (i := 121) rfl)) rfl
theorem mw237 : Cond.fieldLink "GlulxStrings$Packer" 173 "GlulxStrings$BestTree" "leafCount" "I" ∈ Uw := Uw_of (inT2 _ (List.mem_of_getElem? (i := 80) rfl)) rfl
theorem mw238 : Cond.fieldLink "GlulxStrings$Packer" 176 "GlulxStrings$BestTree" "leaves" "[I" ∈ Uw := Uw_of (inT2 _ (List.mem_of_getElem? (i := 71) rfl)) rfl
theorem mw239 : Cond.fieldLink "GlulxStrings$Packer" 179 "GlulxStrings$Pieces" "bits" "[I" ∈ Uw := Uw_of (inT1 _ (List.mem_of_getElem? (i := 231) rfl)) rfl
theorem mw240 : Cond.methodLink "GlulxStrings$Packer" 71 ⟨"GlulxStrings$Packer", "partTexts", "()V"⟩ ∈ Uw := Uw_of (inT4 _ (List.mem_of_getElem? (i := 62) rfl)) rfl
theorem mw241 : Cond.methodLink "GlulxStrings$Packer" 74 ⟨"GlulxStrings$Packer", "growTree", "()V"⟩ ∈ Uw := Uw_of (inT4 _ (List.mem_of_getElem? (i := 72) rfl)) rfl
theorem mw242 : Cond.methodLink "GlulxStrings$Packer" 77 ⟨"GlulxStrings$BestTree", "spread", "(I)V"⟩ ∈ Uw := Uw_of (inT4 _ (List.mem_of_getElem? (i := 100) rfl)) rfl
theorem mw243 : Cond.methodLink "GlulxStrings$Packer" 81 ⟨"GlulxStrings$BestTree", "size", "()I"⟩ ∈ Uw := Uw_of (inT4 _ (List.mem_of_getElem? (i := 104) rfl)) rfl
theorem mw244 : Cond.methodLink "GlulxStrings$Packer" 94 ⟨"GlulxStrings$BestTree", "putNodes", "(LGlulxStrings$Memory;LGlulxStrings$Pieces;I)V"⟩ ∈ Uw := Uw_of (inT4 _ (List.mem_of_getElem? (i := 112) rfl)) rfl
theorem mw245 : Cond.methodLink "GlulxStrings$Packer" 98 ⟨"GlulxStrings$Packer", "putTexts", "(I)V"⟩ ∈ Uw := Uw_of (inT4 _ (List.mem_of_getElem? (i := 141) rfl)) rfl
theorem mw246 : Cond.methodLink "GlulxStrings$Packer" 101 ⟨"GlulxStrings$Packer", "keepBits", "()V"⟩ ∈ Uw := Uw_of (inT4 _ (List.mem_of_getElem? (i := 155) rfl)) rfl
theorem mw247 : Cond.fieldLink "GlulxStrings$Packer" 67 "GlulxStrings$Packer" "table" "LGlulxStrings$Table;" ∈ Uw := Uw_of (inT2 _ (List.mem_of_getElem? (i := 108) rfl)) rfl
theorem mw248 : Cond.methodLink "GlulxStrings$Packer" 104 ⟨"GlulxStrings$Table", "dropIfTouched", "(II)V"⟩ ∈ Uw := Uw_of (inT4 _ (List.mem_of_getElem? (i := 159) rfl)) rfl
theorem mw249 : Cond.methodLink "GlulxStrings$Packer" 88 ⟨"GlulxStrings$Packer", "countBits", "(I)I"⟩ ∈ Uw := Uw_of (inT4 _ (List.mem_of_getElem? (i := 108) rfl)) rfl
theorem mw250 : Cond.methodLink "GlulxStrings" 185 ⟨"GlulxStrings$Packer", "pack", "(I)I"⟩ ∈ Uw := Uw_of (inT4 _ (List.mem_of_getElem? (i := 58) rfl)) rfl
theorem mw251 : Cond.fieldLink "GlulxStrings" 188 "GlulxStrings$Texts" "places" "[I" ∈ Uw := Uw_of (inT2 _ (List.mem_of_getElem? (i := 25) rfl)) rfl
theorem mw252 : Cond.fieldLink "GlulxStrings" 191 "GlulxStrings$Texts" "bits" "[I" ∈ Uw := Uw_of (inT2 _ (List.mem_of_getElem? (i := 28) rfl)) rfl
theorem mw253 : Cond.fieldLink "GlulxStrings" 194 "GlulxStrings$Texts" "signs" "[[I" ∈ Uw := Uw_of (inT2 _ (List.mem_of_getElem? (i := 19) rfl)) rfl
theorem mw254 : Cond.fieldLink "GlulxStrings" 198 "GlulxStrings$Texts" "lengths" "[I" ∈ Uw := Uw_of (inT2 _ (List.mem_of_getElem? (i := 22) rfl)) rfl
theorem mw255 : Cond.fieldLink "GlulxStrings" 204 "GlulxStrings$Pieces" "bits" "[I" ∈ Uw := Uw_of (inT1 _ (List.mem_of_getElem? (i := 232) rfl)) rfl
theorem mw256 : Cond.fieldLink "GlulxStrings" 201 "GlulxStrings$Packer" "endBits" "I" ∈ Uw := Uw_of (inT2 _ (List.mem_of_getElem? (i := 122) rfl)) rfl
theorem mw257 : Cond.constantLong "GlulxStringsModel" 157 (8 : Int64) ∈ Uw := Uw_of (inT5 _ (List.mem_of_getElem? (i := 138) rfl)) rfl
theorem mw258 : Cond.methodLink "GlulxStringsModel" 131 ⟨"GlulxStringsModel", "in", "(JJJ)Z"⟩ ∈ Uw := Uw_of (inT5 _ (List.mem_of_getElem? (i := 139) rfl)) rfl
theorem mw259 : Cond.fieldLink "GlulxStringsModel" 159 "GlulxStringsModel" "taped" "I" ∈ Uw := Uw_of (inT4 _ (List.mem_of_getElem? (i := 181) rfl)) rfl
theorem mw260 : Cond.fieldLink "GlulxStringsModel" 13 "GlulxStringsModel" "tape" "[I" ∈ Uw := Uw_of (inT4 _ (List.mem_of_getElem? (i := 180) rfl)) rfl
theorem mw261 : Cond.constantLong "GlulxStringsModel" 162 (255 : Int64) ∈ Uw := Uw_of (inT5 _ (List.mem_of_getElem? (i := 142) rfl)) rfl
theorem mw262 : Cond.fieldLink "GlulxStringsModel" 7 "GlulxStringsModel" "memory" "[I" ∈ Uw := Uw_of (inT4 _ (List.mem_of_getElem? (i := 178) rfl)) rfl
theorem mw263 : Cond.fieldLink "GlulxStringsModel" 143 "GlulxStringsModel" "cached" "I" ∈ Uw := Uw_of (inT4 _ (List.mem_of_getElem? (i := 185) rfl)) rfl
theorem mw264 : Cond.fieldLink "GlulxStringsModel" 146 "GlulxStringsModel" "tree" "I" ∈ Uw := Uw_of (inT4 _ (List.mem_of_getElem? (i := 184) rfl)) rfl
theorem mw265 : Cond.fieldLink "GlulxStringsModel" 149 "GlulxStringsModel" "cacheSize" "J" ∈ Uw := Uw_of (inT4 _ (List.mem_of_getElem? (i := 186) rfl)) rfl
theorem mw266 : Cond.constantLong "GlulxStringsModel" 164 (4096 : Int64) ∈ Uw := Uw_of (inT5 _ (List.mem_of_getElem? (i := 147) rfl)) rfl
theorem mw267 : Cond.methodLink "GlulxStringsModel" 153 ⟨"GlulxStringsModel", "tell", "(II)V"⟩ ∈ Uw := Uw_of (inT5 _ (List.mem_of_getElem? (i := 148) rfl)) rfl
theorem mw268 : Cond.fieldLink "GlulxStringsModel" 166 "GlulxStringsModel" "border" "I" ∈ Uw := Uw_of (inT4 _ (List.mem_of_getElem? (i := 179) rfl)) rfl
theorem mw269 : Cond.constantLong "GlulxStringsModel" 129 (4095 : Int64) ∈ Uw := Uw_of (inT5 _ (List.mem_of_getElem? (i := 160) rfl)) rfl
theorem mw270 : Cond.fieldLink "GlulxStringsModel" 126 "GlulxStringsModel" "fault" "I" ∈ Uw := Uw_of (inT4 _ (List.mem_of_getElem? (i := 187) rfl)) rfl
theorem mw271 : Cond.methodLink "GlulxStringsModel" 135 ⟨"GlulxStringsModel", "fails", "(I)V"⟩ ∈ Uw := Uw_of (inT5 _ (List.mem_of_getElem? (i := 178) rfl)) rfl
theorem mw272 : Cond.methodLink "GlulxStringsModel" 139 ⟨"GlulxStringsModel", "read", "(J)I"⟩ ∈ Uw := Uw_of (inT5 _ (List.mem_of_getElem? (i := 174) rfl)) rfl
theorem mw273 : Cond.constantLong "GlulxStringsModel" 182 (9 : Int64) ∈ Uw := Uw_of (inT5 _ (List.mem_of_getElem? (i := 187) rfl)) rfl
theorem mw274 : Cond.constantLong "GlulxStringsModel" 178 (5 : Int64) ∈ Uw := Uw_of (inT5 _ (List.mem_of_getElem? (i := 188) rfl)) rfl
theorem mw275 : Cond.methodLink "GlulxStringsModel" 171 ⟨"GlulxStringsModel", "four", "(J)I"⟩ ∈ Uw := Uw_of (inT5 _ (List.mem_of_getElem? (i := 170) rfl)) rfl
theorem mw276 : Cond.constantLong "GlulxStringsModel" 180 (4 : Int64) ∈ Uw := Uw_of (inT5 _ (List.mem_of_getElem? (i := 186) rfl)) rfl
theorem mw277 : Cond.constantLong "GlulxStringsModel" 184 (-1 : Int64) ∈ Uw := Uw_of (inT5 _ (List.mem_of_getElem? (i := 189) rfl)) rfl
theorem mw278 : Cond.constantLong "GlulxStringsModel" 169 (12 : Int64) ∈ Uw := Uw_of (inT5 _ (List.mem_of_getElem? (i := 169) rfl)) rfl
theorem mw279 : Cond.fieldLink "GlulxStringsModel" 23 "GlulxStringsModel" "todo" "[I" ∈ Uw := Uw_of (inT4 _ (List.mem_of_getElem? (i := 189) rfl)) rfl
theorem mw280 : Cond.fieldLink "GlulxStringsModel" 19 "GlulxStringsModel" "met" "[Z" ∈ Uw := Uw_of (inT4 _ (List.mem_of_getElem? (i := 188) rfl)) rfl
theorem mw281 : Cond.methodLink "GlulxStringsModel" 174 ⟨"GlulxStringsModel", "endOf", "(IJ)J"⟩ ∈ Uw := Uw_of (inT5 _ (List.mem_of_getElem? (i := 182) rfl)) rfl
theorem mw282 : Cond.fieldLink "GlulxStringsModel" 186 "GlulxStringsModel" "many" "I" ∈ Uw := Uw_of (inT4 _ (List.mem_of_getElem? (i := 192) rfl)) rfl
theorem mw283 : Cond.methodLink "GlulxStringsModel" 189 ⟨"GlulxStringsModel", "lies", "(I)V"⟩ ∈ Uw := Uw_of (inT5 _ (List.mem_of_getElem? (i := 165) rfl)) rfl
theorem mw284 : Cond.constantLong "GlulxStringsModel" 192 (2 : Int64) ∈ Uw := Uw_of (inT5 _ (List.mem_of_getElem? (i := 194) rfl)) rfl
theorem mw285 : Cond.fieldLink "GlulxStringsModel" 194 "GlulxStringsModel" "system" "I" ∈ Uw := Uw_of (inT4 _ (List.mem_of_getElem? (i := 190) rfl)) rfl
theorem mw286 : Cond.fieldLink "GlulxStringsModel" 197 "GlulxStringsModel" "with" "I" ∈ Uw := Uw_of (inT4 _ (List.mem_of_getElem? (i := 191) rfl)) rfl
theorem mw287 : Cond.fieldLink "GlulxStringsModel" 26 "GlulxStringsModel" "kinds" "[I" ∈ Uw := Uw_of (inT4 _ (List.mem_of_getElem? (i := 193) rfl)) rfl
theorem mw288 : Cond.fieldLink "GlulxStringsModel" 29 "GlulxStringsModel" "places" "[I" ∈ Uw := Uw_of (inT4 _ (List.mem_of_getElem? (i := 194) rfl)) rfl
theorem mw289 : Cond.fieldLink "GlulxStringsModel" 32 "GlulxStringsModel" "bitOf" "[I" ∈ Uw := Uw_of (inT4 _ (List.mem_of_getElem? (i := 195) rfl)) rfl
theorem mw290 : Cond.fieldLink "GlulxStringsModel" 35 "GlulxStringsModel" "localCount" "[I" ∈ Uw := Uw_of (inT4 _ (List.mem_of_getElem? (i := 196) rfl)) rfl
theorem mw291 : Cond.fieldLink "GlulxStringsModel" 41 "GlulxStringsModel" "isRoot" "[Z" ∈ Uw := Uw_of (inT4 _ (List.mem_of_getElem? (i := 198) rfl)) rfl
theorem mw292 : Cond.fieldLink "GlulxStringsModel" 44 "GlulxStringsModel" "nodeOf" "[I" ∈ Uw := Uw_of (inT4 _ (List.mem_of_getElem? (i := 199) rfl)) rfl
theorem mw293 : Cond.fieldLink "GlulxStringsModel" 47 "GlulxStringsModel" "goesTo" "[I" ∈ Uw := Uw_of (inT4 _ (List.mem_of_getElem? (i := 200) rfl)) rfl
theorem mw294 : Cond.fieldLink "GlulxStringsModel" 200 "GlulxStringsModel" "most" "I" ∈ Uw := Uw_of (inT4 _ (List.mem_of_getElem? (i := 210) rfl)) rfl
theorem mw295 : Cond.methodLink "GlulxStringsModel" 207 ⟨"GlulxStringsModel", "lays", "(II)V"⟩ ∈ Uw := Uw_of (inT5 _ (List.mem_of_getElem? (i := 207) rfl)) rfl
theorem mw296 : Cond.methodLink "GlulxStringsModel" 203 ⟨"GlulxStringsModel", "isString", "(I)Z"⟩ ∈ Uw := Uw_of (inT5 _ (List.mem_of_getElem? (i := 204) rfl)) rfl
theorem mw297 : Cond.fieldLink "GlulxStringsModel" 251 "GlulxStringsModel" "next" "J" ∈ Uw := Uw_of (inT4 _ (List.mem_of_getElem? (i := 212) rfl)) rfl
theorem mw298 : Cond.fieldLink "GlulxStringsModel" 254 "GlulxStringsModel" "mine" "I" ∈ Uw := Uw_of (inT4 _ (List.mem_of_getElem? (i := 213) rfl)) rfl
theorem mw299 : Cond.fieldLink "GlulxStringsModel" 38 "GlulxStringsModel" "locals" "[I" ∈ Uw := Uw_of (inT4 _ (List.mem_of_getElem? (i := 197) rfl)) rfl
theorem mw300 : Cond.fieldLink "GlulxStringsModel" 53 "GlulxStringsModel" "arguments" "[I" ∈ Uw := Uw_of (inT4 _ (List.mem_of_getElem? (i := 211) rfl)) rfl
theorem mw301 : Cond.fieldLink "GlulxStringsModel" 223 "GlulxStringsModel" "nowhere" "I" ∈ Uw := Uw_of (inT4 _ (List.mem_of_getElem? (i := 206) rfl)) rfl
theorem mw302 : Cond.methodLink "GlulxStringsModel" 216 ⟨"GlulxStringsModel", "called", "(III)V"⟩ ∈ Uw := Uw_of (inT6 _ (List.mem_of_getElem? (i := 3) rfl)) rfl
theorem mw303 : Cond.fieldLink "GlulxStringsModel" 220 "GlulxStringsModel" "given" "I" ∈ Uw := Uw_of (inT4 _ (List.mem_of_getElem? (i := 205) rfl)) rfl
theorem mw304 : Cond.fieldLink "GlulxStringsModel" 210 "GlulxStringsModel" "outCount" "I" ∈ Uw := Uw_of (inT4 _ (List.mem_of_getElem? (i := 202) rfl)) rfl
theorem mw305 : Cond.fieldLink "GlulxStringsModel" 50 "GlulxStringsModel" "out" "[I" ∈ Uw := Uw_of (inT4 _ (List.mem_of_getElem? (i := 201) rfl)) rfl
theorem mw306 : Cond.fieldLink "GlulxStringsModel" 213 "GlulxStringsModel" "outs" "I" ∈ Uw := Uw_of (inT4 _ (List.mem_of_getElem? (i := 204) rfl)) rfl
theorem mw307 : Cond.methodLink "GlulxStringsModel" 274 ⟨"GlulxStringsModel", "put", "(II)V"⟩ ∈ Uw := Uw_of (inT6 _ (List.mem_of_getElem? (i := 7) rfl)) rfl
theorem mw308 : Cond.methodLink "GlulxStringsModel" 248 ⟨"GlulxStringsModel", "prints", "(I)V"⟩ ∈ Uw := Uw_of (inT5 _ (List.mem_of_getElem? (i := 200) rfl)) rfl
theorem mw309 : Cond.methodLink "GlulxStringsModel" 240 ⟨"GlulxStringsModel", "gives", "(I)V"⟩ ∈ Uw := Uw_of (inT5 _ (List.mem_of_getElem? (i := 239) rfl)) rfl
theorem mw310 : Cond.fieldLink "GlulxStringsModel" 271 "GlulxStringsModel" "result" "I" ∈ Uw := Uw_of (inT4 _ (List.mem_of_getElem? (i := 209) rfl)) rfl
theorem mw311 : Cond.methodLink "GlulxStringsModel" 267 ⟨"GlulxStringsModel", "does", "(IIIII)V"⟩ ∈ Uw := Uw_of (inT5 _ (List.mem_of_getElem? (i := 235) rfl)) rfl
theorem mw312 : Cond.methodLink "GlulxStringsModel" 264 ⟨"GlulxStringsModel", "way", "()I"⟩ ∈ Uw := Uw_of (inT5 _ (List.mem_of_getElem? (i := 231) rfl)) rfl
theorem mw313 : Cond.methodLink "GlulxStringsModel" 261 ⟨"GlulxStringsModel", "target", "()I"⟩ ∈ Uw := Uw_of (inT5 _ (List.mem_of_getElem? (i := 227) rfl)) rfl
theorem mw314 : Cond.methodLink "GlulxStringsModel" 257 ⟨"GlulxStringsModel", "value", "()I"⟩ ∈ Uw := Uw_of (inT5 _ (List.mem_of_getElem? (i := 223) rfl)) rfl
theorem mw315 : Cond.methodLink "GlulxStringsModel" 245 ⟨"GlulxStringsModel", "thing", "(II)V"⟩ ∈ Uw := Uw_of (inT6 _ (List.mem_of_getElem? (i := 15) rfl)) rfl
theorem mw316 : Cond.constantLong "GlulxStringsModel" 243 (10 : Int64) ∈ Uw := Uw_of (inT6 _ (List.mem_of_getElem? (i := 22) rfl)) rfl
theorem mw317 : Cond.methodLink "GlulxStringsModel" 232 ⟨"GlulxStringsModel", "digits", "(I)I"⟩ ∈ Uw := Uw_of (inT6 _ (List.mem_of_getElem? (i := 19) rfl)) rfl
theorem mw318 : Cond.methodLink "GlulxStringsModel" 236 ⟨"GlulxStringsModel", "digit", "(II)I"⟩ ∈ Uw := Uw_of (inT6 _ (List.mem_of_getElem? (i := 23) rfl)) rfl
theorem mw319 : Cond.methodLink "GlulxStringsModel" 229 ⟨"GlulxStringsModel", "packed", "(I)V"⟩ ∈ Uw := Uw_of (inT6 _ (List.mem_of_getElem? (i := 11) rfl)) rfl
theorem mw320 : Cond.methodLink "GlulxStringsModel" 226 ⟨"GlulxStringsModel", "order", "(I)V"⟩ ∈ Uw := Uw_of (inT5 _ (List.mem_of_getElem? (i := 219) rfl)) rfl
theorem mw321 : Cond.fieldLink "GlulxStringsModel" 277 "GlulxStringsModel" "faults" "I" ∈ Uw := Uw_of (inT4 _ (List.mem_of_getElem? (i := 207) rfl)) rfl
theorem mw322 : Cond.fieldLink "GlulxStringsModel" 280 "GlulxStringsModel" "latest" "I" ∈ Uw := Uw_of (inT4 _ (List.mem_of_getElem? (i := 208) rfl)) rfl
theorem mw323 : Cond.methodLink "GlulxStringsModel" 289 ⟨"GlulxStringsModel", "failed", "()I"⟩ ∈ Uw := Uw_of (inT6 _ (List.mem_of_getElem? (i := 26) rfl)) rfl
theorem mw324 : Cond.fieldLink "GlulxStringsModel" 283 "GlulxStringsModel" "steps" "I" ∈ Uw := Uw_of (inT4 _ (List.mem_of_getElem? (i := 203) rfl)) rfl
theorem mw325 : Cond.methodLink "GlulxStringsModel" 286 ⟨"GlulxStringsModel", "step", "()V"⟩ ∈ Uw := Uw_of (inT5 _ (List.mem_of_getElem? (i := 215) rfl)) rfl
theorem mw326 : Cond.constantLong "GlulxStringsModel" 292 (100000 : Int64) ∈ Uw := Uw_of (inT5 _ (List.mem_of_getElem? (i := 199) rfl)) rfl
theorem mw327 : Cond.methodLink "GlulxStringsModel" 294 ⟨"GlulxStringsModel", "runs", "(I)I"⟩ ∈ Uw := Uw_of (inT5 _ (List.mem_of_getElem? (i := 211) rfl)) rfl
theorem mw328 : Cond.fieldLink "GlulxStringsModel" 297 "GlulxStringsModel" "lined" "I" ∈ Uw := Uw_of (inT4 _ (List.mem_of_getElem? (i := 183) rfl)) rfl
theorem mw329 : Cond.fieldLink "GlulxStringsModel" 16 "GlulxStringsModel" "line" "[I" ∈ Uw := Uw_of (inT4 _ (List.mem_of_getElem? (i := 182) rfl)) rfl
theorem mw330 : Cond.fieldLink "GlulxStringsModel" 300 "GlulxStringsModel" "pieces" "I" ∈ Uw := Uw_of (inT4 _ (List.mem_of_getElem? (i := 214) rfl)) rfl
theorem mw331 : Cond.fieldLink "GlulxStringsModel" 303 "GlulxStringsModel" "texts" "I" ∈ Uw := Uw_of (inT4 _ (List.mem_of_getElem? (i := 219) rfl)) rfl
theorem mw332 : Cond.fieldLink "GlulxStringsModel" 56 "GlulxStringsModel" "pieceKind" "[I" ∈ Uw := Uw_of (inT4 _ (List.mem_of_getElem? (i := 215) rfl)) rfl
theorem mw333 : Cond.fieldLink "GlulxStringsModel" 62 "GlulxStringsModel" "heldCount" "[I" ∈ Uw := Uw_of (inT4 _ (List.mem_of_getElem? (i := 217) rfl)) rfl
theorem mw334 : Cond.fieldLink "GlulxStringsModel" 65 "GlulxStringsModel" "pieceBits" "[I" ∈ Uw := Uw_of (inT4 _ (List.mem_of_getElem? (i := 218) rfl)) rfl
theorem mw335 : Cond.fieldLink "GlulxStringsModel" 59 "GlulxStringsModel" "held" "[I" ∈ Uw := Uw_of (inT4 _ (List.mem_of_getElem? (i := 216) rfl)) rfl
theorem mw336 : Cond.constantLong "GlulxStringsModel" 306 (20 : Int64) ∈ Uw := Uw_of (inT6 _ (List.mem_of_getElem? (i := 74) rfl)) rfl
theorem mw337 : Cond.fieldLink "GlulxStringsModel" 84 "GlulxStringsModel" "best" "[I" ∈ Uw := Uw_of (inT4 _ (List.mem_of_getElem? (i := 225) rfl)) rfl
theorem mw338 : Cond.fieldLink "GlulxStringsModel" 90 "GlulxStringsModel" "parts" "[I" ∈ Uw := Uw_of (inT4 _ (List.mem_of_getElem? (i := 227) rfl)) rfl
theorem mw339 : Cond.fieldLink "GlulxStringsModel" 87 "GlulxStringsModel" "by" "[I" ∈ Uw := Uw_of (inT4 _ (List.mem_of_getElem? (i := 226) rfl)) rfl
theorem mw340 : Cond.fieldLink "GlulxStringsModel" 68 "GlulxStringsModel" "signs" "[I" ∈ Uw := Uw_of (inT4 _ (List.mem_of_getElem? (i := 220) rfl)) rfl
theorem mw341 : Cond.methodLink "GlulxStringsModel" 308 ⟨"GlulxStringsModel", "signOf", "(II)I"⟩ ∈ Uw := Uw_of (inT6 _ (List.mem_of_getElem? (i := 83) rfl)) rfl
theorem mw342 : Cond.methodLink "GlulxStringsModel" 311 ⟨"GlulxStringsModel", "parted", "(II)I"⟩ ∈ Uw := Uw_of (inT6 _ (List.mem_of_getElem? (i := 79) rfl)) rfl
theorem mw343 : Cond.fieldLink "GlulxStringsModel" 71 "GlulxStringsModel" "signCount" "[I" ∈ Uw := Uw_of (inT4 _ (List.mem_of_getElem? (i := 221) rfl)) rfl
theorem mw344 : Cond.fieldLink "GlulxStringsModel" 74 "GlulxStringsModel" "laidAt" "[I" ∈ Uw := Uw_of (inT4 _ (List.mem_of_getElem? (i := 222) rfl)) rfl
theorem mw345 : Cond.fieldLink "GlulxStringsModel" 77 "GlulxStringsModel" "laidBits" "[I" ∈ Uw := Uw_of (inT4 _ (List.mem_of_getElem? (i := 223) rfl)) rfl
theorem mw346 : Cond.fieldLink "GlulxStringsModel" 93 "GlulxStringsModel" "pieceOf" "[I" ∈ Uw := Uw_of (inT4 _ (List.mem_of_getElem? (i := 230) rfl)) rfl
theorem mw347 : Cond.fieldLink "GlulxStringsModel" 314 "GlulxStringsModel" "knots" "I" ∈ Uw := Uw_of (inT4 _ (List.mem_of_getElem? (i := 228) rfl)) rfl
theorem mw348 : Cond.fieldLink "GlulxStringsModel" 96 "GlulxStringsModel" "uses" "[I" ∈ Uw := Uw_of (inT4 _ (List.mem_of_getElem? (i := 231) rfl)) rfl
theorem mw349 : Cond.fieldLink "GlulxStringsModel" 99 "GlulxStringsModel" "isThere" "[Z" ∈ Uw := Uw_of (inT4 _ (List.mem_of_getElem? (i := 232) rfl)) rfl
theorem mw350 : Cond.fieldLink "GlulxStringsModel" 111 "GlulxStringsModel" "sizes" "[I" ∈ Uw := Uw_of (inT4 _ (List.mem_of_getElem? (i := 236) rfl)) rfl
theorem mw351 : Cond.fieldLink "GlulxStringsModel" 108 "GlulxStringsModel" "above" "[I" ∈ Uw := Uw_of (inT4 _ (List.mem_of_getElem? (i := 235) rfl)) rfl
theorem mw352 : Cond.methodLink "GlulxStringsModel" 317 ⟨"GlulxStringsModel", "leaf", "(III)V"⟩ ∈ Uw := Uw_of (inT6 _ (List.mem_of_getElem? (i := 95) rfl)) rfl
theorem mw353 : Cond.fieldLink "GlulxStringsModel" 323 "GlulxStringsModel" "leaves" "I" ∈ Uw := Uw_of (inT4 _ (List.mem_of_getElem? (i := 229) rfl)) rfl
theorem mw354 : Cond.methodLink "GlulxStringsModel" 326 ⟨"GlulxStringsModel", "least", "()I"⟩ ∈ Uw := Uw_of (inT6 _ (List.mem_of_getElem? (i := 103) rfl)) rfl
theorem mw355 : Cond.fieldLink "GlulxStringsModel" 102 "GlulxStringsModel" "zero" "[I" ∈ Uw := Uw_of (inT4 _ (List.mem_of_getElem? (i := 233) rfl)) rfl
theorem mw356 : Cond.fieldLink "GlulxStringsModel" 105 "GlulxStringsModel" "one" "[I" ∈ Uw := Uw_of (inT4 _ (List.mem_of_getElem? (i := 234) rfl)) rfl
theorem mw357 : Cond.fieldLink "GlulxStringsModel" 123 "GlulxStringsModel" "pieceUses" "[I" ∈ Uw := Uw_of (inT5 _ (List.mem_of_getElem? (i := 0) rfl)) rfl
theorem mw358 : Cond.fieldLink "GlulxStringsModel" 120 "GlulxStringsModel" "leafOf" "[I" ∈ Uw := Uw_of (inT4 _ (List.mem_of_getElem? (i := 239) rfl)) rfl
theorem mw359 : Cond.methodLink "GlulxStringsModel" 320 ⟨"GlulxStringsModel", "sizeOf", "(I)I"⟩ ∈ Uw := Uw_of (inT6 _ (List.mem_of_getElem? (i := 99) rfl)) rfl
theorem mw360 : Cond.fieldLink "GlulxStringsModel" 114 "GlulxStringsModel" "where" "[I" ∈ Uw := Uw_of (inT4 _ (List.mem_of_getElem? (i := 237) rfl)) rfl
theorem mw361 : Cond.fieldLink "GlulxStringsModel" 117 "GlulxStringsModel" "deep" "[I" ∈ Uw := Uw_of (inT4 _ (List.mem_of_getElem? (i := 238) rfl)) rfl
theorem mw362 : Cond.methodLink "GlulxStringsModel" 329 ⟨"GlulxStringsModel", "tellFour", "(II)V"⟩ ∈ Uw := Uw_of (inT6 _ (List.mem_of_getElem? (i := 111) rfl)) rfl
theorem mw363 : Cond.fieldLink "GlulxStringsModel" 332 "GlulxStringsModel" "bitNext" "I" ∈ Uw := Uw_of (inT5 _ (List.mem_of_getElem? (i := 2) rfl)) rfl
theorem mw364 : Cond.fieldLink "GlulxStringsModel" 335 "GlulxStringsModel" "bitAt" "I" ∈ Uw := Uw_of (inT5 _ (List.mem_of_getElem? (i := 1) rfl)) rfl
theorem mw365 : Cond.methodLink "GlulxStringsModel" 338 ⟨"GlulxStringsModel", "join", "()V"⟩ ∈ Uw := Uw_of (inT6 _ (List.mem_of_getElem? (i := 91) rfl)) rfl
theorem mw366 : Cond.methodLink "GlulxStringsModel" 341 ⟨"GlulxStringsModel", "places", "(I)V"⟩ ∈ Uw := Uw_of (inT6 _ (List.mem_of_getElem? (i := 107) rfl)) rfl
theorem mw367 : Cond.fieldLink "GlulxStringsModel" 80 "GlulxStringsModel" "endBits" "I" ∈ Uw := Uw_of (inT4 _ (List.mem_of_getElem? (i := 224) rfl)) rfl
theorem mw368 : Cond.methodLink "GlulxStringsModel" 346 ⟨"GlulxStringsModel", "way", "(I)V"⟩ ∈ Uw := Uw_of (inT6 _ (List.mem_of_getElem? (i := 119) rfl)) rfl
theorem mw369 : Cond.methodLink "GlulxStringsModel" 343 ⟨"GlulxStringsModel", "lay", "(I)V"⟩ ∈ Uw := Uw_of (inT6 _ (List.mem_of_getElem? (i := 115) rfl)) rfl
theorem mwAcN : Cond.native arraycopyName ∈ Uw := Uw_of (inT2 _ (List.mem_of_getElem? (i := 183) rfl)) rfl
theorem mwAcS : Cond.static arraycopyName ∈ Uw := Uw_of (inT2 _ (List.mem_of_getElem? (i := 182) rfl)) rfl
theorem mwAcI : Cond.initialized "java/lang/System" ∈ Uw := Uw_of (inT1 _ (List.mem_of_getElem? (i := 13) rfl)) rfl
theorem ckX8_drop : Ck yX8_drop cX8_drop 1 none 0 := ⟨Uw_of (inT2 _ (List.mem_of_getElem? (i := 191) rfl)) rfl, Uw_of (inT1 _ (List.mem_of_getElem? (i := 3) rfl)) rfl, by decide, by decide, by decide +kernel⟩
theorem cvX8_drop : Cv yX8_drop := ⟨Uw_of (inT2 _ (List.mem_of_getElem? (i := 189) rfl)) rfl, Uw_of (inT2 _ (List.mem_of_getElem? (i := 190) rfl)) rfl⟩
theorem ckX8_dropIfTouched : Ck yX8_dropIfTouched cX8_dropIfTouched 3 none 2 := ⟨Uw_of (inT2 _ (List.mem_of_getElem? (i := 187) rfl)) rfl, Uw_of (inT1 _ (List.mem_of_getElem? (i := 3) rfl)) rfl, by decide, by decide, by decide +kernel⟩
theorem cvX8_dropIfTouched : Cv yX8_dropIfTouched := ⟨Uw_of (inT2 _ (List.mem_of_getElem? (i := 185) rfl)) rfl, Uw_of (inT2 _ (List.mem_of_getElem? (i := 186) rfl)) rfl⟩
theorem ckX3_has : Ck yX3_has cX3_has 2 (some .boolean) 1 := ⟨Uw_of (inT2 _ (List.mem_of_getElem? (i := 204) rfl)) rfl, Uw_of (inT1 _ (List.mem_of_getElem? (i := 2) rfl)) rfl, by decide, by decide, by decide +kernel⟩
theorem cvX3_has : Cv yX3_has := ⟨Uw_of (inT2 _ (List.mem_of_getElem? (i := 202) rfl)) rfl, Uw_of (inT2 _ (List.mem_of_getElem? (i := 203) rfl)) rfl⟩
theorem ckX3_byteOf : Ck yX3_byteOf cX3_byteOf 2 (some .int) 1 := ⟨Uw_of (inT2 _ (List.mem_of_getElem? (i := 208) rfl)) rfl, Uw_of (inT1 _ (List.mem_of_getElem? (i := 2) rfl)) rfl, by decide, by decide, by decide +kernel⟩
theorem cvX3_byteOf : Cv yX3_byteOf := ⟨Uw_of (inT2 _ (List.mem_of_getElem? (i := 206) rfl)) rfl, Uw_of (inT2 _ (List.mem_of_getElem? (i := 207) rfl)) rfl⟩
theorem ckX3_fourOf : Ck yX3_fourOf cX3_fourOf 2 (some .int) 1 := ⟨Uw_of (inT2 _ (List.mem_of_getElem? (i := 220) rfl)) rfl, Uw_of (inT1 _ (List.mem_of_getElem? (i := 2) rfl)) rfl, by decide, by decide, by decide +kernel⟩
theorem cvX3_fourOf : Cv yX3_fourOf := ⟨Uw_of (inT2 _ (List.mem_of_getElem? (i := 218) rfl)) rfl, Uw_of (inT2 _ (List.mem_of_getElem? (i := 219) rfl)) rfl⟩
theorem ckX8_hasEndOfBytes : Ck yX8_hasEndOfBytes cX8_hasEndOfBytes 3 (some .boolean) 1 := ⟨Uw_of (inT3 _ (List.mem_of_getElem? (i := 2) rfl)) rfl, Uw_of (inT1 _ (List.mem_of_getElem? (i := 3) rfl)) rfl, by decide, by decide, by decide +kernel⟩
theorem cvX8_hasEndOfBytes : Cv yX8_hasEndOfBytes := ⟨Uw_of (inT3 _ (List.mem_of_getElem? (i := 1) rfl)) rfl, Uw_of (inP1 _ (List.mem_of_getElem? (i := 3) rfl)) rfl⟩
theorem ckX8_hasEndOfFours : Ck yX8_hasEndOfFours cX8_hasEndOfFours 3 (some .boolean) 1 := ⟨Uw_of (inT3 _ (List.mem_of_getElem? (i := 6) rfl)) rfl, Uw_of (inT1 _ (List.mem_of_getElem? (i := 3) rfl)) rfl, by decide, by decide, by decide +kernel⟩
theorem cvX8_hasEndOfFours : Cv yX8_hasEndOfFours := ⟨Uw_of (inT3 _ (List.mem_of_getElem? (i := 5) rfl)) rfl, Uw_of (inP1 _ (List.mem_of_getElem? (i := 4) rfl)) rfl⟩
theorem ckX8_argumentBytes : Ck yX8_argumentBytes cX8_argumentBytes 3 (some .int) 1 := ⟨Uw_of (inT3 _ (List.mem_of_getElem? (i := 10) rfl)) rfl, Uw_of (inT1 _ (List.mem_of_getElem? (i := 3) rfl)) rfl, by decide, by decide, by decide +kernel⟩
theorem cvX8_argumentBytes : Cv yX8_argumentBytes := ⟨Uw_of (inT3 _ (List.mem_of_getElem? (i := 9) rfl)) rfl, Uw_of (inP1 _ (List.mem_of_getElem? (i := 5) rfl)) rfl⟩
theorem ckX8_isWhole : Ck yX8_isWhole cX8_isWhole 3 (some .boolean) 1 := ⟨Uw_of (inT2 _ (List.mem_of_getElem? (i := 237) rfl)) rfl, Uw_of (inT1 _ (List.mem_of_getElem? (i := 3) rfl)) rfl, by decide, by decide, by decide +kernel⟩
theorem cvX8_isWhole : Cv yX8_isWhole := ⟨Uw_of (inT2 _ (List.mem_of_getElem? (i := 236) rfl)) rfl, Uw_of (inP1 _ (List.mem_of_getElem? (i := 2) rfl)) rfl⟩
theorem ckX8_find : Ck yX8_find cX8_find 2 none 1 := ⟨Uw_of (inT2 _ (List.mem_of_getElem? (i := 232) rfl)) rfl, Uw_of (inT1 _ (List.mem_of_getElem? (i := 3) rfl)) rfl, by decide, by decide, by decide +kernel⟩
theorem cvX8_find : Cv yX8_find := ⟨Uw_of (inT2 _ (List.mem_of_getElem? (i := 231) rfl)) rfl, Uw_of (inP1 _ (List.mem_of_getElem? (i := 1) rfl)) rfl⟩
theorem ckX8_countNodes : Ck yX8_countNodes cX8_countNodes 3 (some .int) 0 := ⟨Uw_of (inT2 _ (List.mem_of_getElem? (i := 228) rfl)) rfl, Uw_of (inT1 _ (List.mem_of_getElem? (i := 3) rfl)) rfl, by decide, by decide, by decide +kernel⟩
theorem cvX8_countNodes : Cv yX8_countNodes := ⟨Uw_of (inT2 _ (List.mem_of_getElem? (i := 227) rfl)) rfl, Uw_of (inP1 _ (List.mem_of_getElem? (i := 0) rfl)) rfl⟩
theorem ckX8_tell : Ck yX8_tell cX8_tell 3 none 1 := ⟨Uw_of (inT2 _ (List.mem_of_getElem? (i := 216) rfl)) rfl, Uw_of (inT1 _ (List.mem_of_getElem? (i := 3) rfl)) rfl, by decide, by decide, by decide +kernel⟩
theorem cvX8_tell : Cv yX8_tell := ⟨Uw_of (inT2 _ (List.mem_of_getElem? (i := 214) rfl)) rfl, Uw_of (inT2 _ (List.mem_of_getElem? (i := 215) rfl)) rfl⟩
theorem ckX8_cachedNodes : Ck yX8_cachedNodes cX8_cachedNodes 1 (some .int) 0 := ⟨Uw_of (inT2 _ (List.mem_of_getElem? (i := 224) rfl)) rfl, Uw_of (inT1 _ (List.mem_of_getElem? (i := 3) rfl)) rfl, by decide, by decide, by decide +kernel⟩
theorem cvX8_cachedNodes : Cv yX8_cachedNodes := ⟨Uw_of (inT2 _ (List.mem_of_getElem? (i := 222) rfl)) rfl, Uw_of (inT2 _ (List.mem_of_getElem? (i := 223) rfl)) rfl⟩
theorem ckX2_isSystem : Ck yX2_isSystem cX2_isSystem 1 (some .boolean) 1 := ⟨Uw_of (inT3 _ (List.mem_of_getElem? (i := 17) rfl)) rfl, Uw_of (inT1 _ (List.mem_of_getElem? (i := 4) rfl)) rfl, by decide, by decide, by decide +kernel⟩
theorem csX2_isSystem : Cond.static yX2_isSystem ∈ Uw := Uw_of (inT3 _ (List.mem_of_getElem? (i := 16) rfl)) rfl
theorem ckX2_setSystem : Ck yX2_setSystem cX2_setSystem 3 none 2 := ⟨Uw_of (inT3 _ (List.mem_of_getElem? (i := 21) rfl)) rfl, Uw_of (inT1 _ (List.mem_of_getElem? (i := 4) rfl)) rfl, by decide, by decide, by decide +kernel⟩
theorem cvX2_setSystem : Cv yX2_setSystem := ⟨Uw_of (inT3 _ (List.mem_of_getElem? (i := 19) rfl)) rfl, Uw_of (inT3 _ (List.mem_of_getElem? (i := 20) rfl)) rfl⟩
theorem ckX2_fail : Ck yX2_fail cX2_fail 2 none 1 := ⟨Uw_of (inT3 _ (List.mem_of_getElem? (i := 43) rfl)) rfl, Uw_of (inT1 _ (List.mem_of_getElem? (i := 4) rfl)) rfl, by decide, by decide, by decide +kernel⟩
theorem cvX2_fail : Cv yX2_fail := ⟨Uw_of (inT3 _ (List.mem_of_getElem? (i := 42) rfl)) rfl, Uw_of (inP1 _ (List.mem_of_getElem? (i := 7) rfl)) rfl⟩
theorem ckX1_reset : Ck yX1_reset cX1_reset 3 none 2 := ⟨Uw_of (inT3 _ (List.mem_of_getElem? (i := 52) rfl)) rfl, Uw_of (inT1 _ (List.mem_of_getElem? (i := 6) rfl)) rfl, by decide, by decide, by decide +kernel⟩
theorem cvX1_reset : Cv yX1_reset := ⟨Uw_of (inT3 _ (List.mem_of_getElem? (i := 50) rfl)) rfl, Uw_of (inT3 _ (List.mem_of_getElem? (i := 51) rfl)) rfl⟩
theorem ckX2_readByte : Ck yX2_readByte cX2_readByte 2 (some .int) 1 := ⟨Uw_of (inT3 _ (List.mem_of_getElem? (i := 38) rfl)) rfl, Uw_of (inT1 _ (List.mem_of_getElem? (i := 4) rfl)) rfl, by decide, by decide, by decide +kernel⟩
theorem cvX2_readByte : Cv yX2_readByte := ⟨Uw_of (inT3 _ (List.mem_of_getElem? (i := 37) rfl)) rfl, Uw_of (inP1 _ (List.mem_of_getElem? (i := 6) rfl)) rfl⟩
theorem ckX2_begin : Ck yX2_begin cX2_begin 3 none 2 := ⟨Uw_of (inT3 _ (List.mem_of_getElem? (i := 48) rfl)) rfl, Uw_of (inT1 _ (List.mem_of_getElem? (i := 4) rfl)) rfl, by decide, by decide, by decide +kernel⟩
theorem cvX2_begin : Cv yX2_begin := ⟨Uw_of (inT3 _ (List.mem_of_getElem? (i := 46) rfl)) rfl, Uw_of (inT3 _ (List.mem_of_getElem? (i := 47) rfl)) rfl⟩
theorem ckX3_hasFour : Ck yX3_hasFour cX3_hasFour 2 (some .boolean) 1 := ⟨Uw_of (inT3 _ (List.mem_of_getElem? (i := 87) rfl)) rfl, Uw_of (inT1 _ (List.mem_of_getElem? (i := 2) rfl)) rfl, by decide, by decide, by decide +kernel⟩
theorem cvX3_hasFour : Cv yX3_hasFour := ⟨Uw_of (inT3 _ (List.mem_of_getElem? (i := 85) rfl)) rfl, Uw_of (inT3 _ (List.mem_of_getElem? (i := 86) rfl)) rfl⟩
theorem ckX2_readFour : Ck yX2_readFour cX2_readFour 2 (some .int) 1 := ⟨Uw_of (inT3 _ (List.mem_of_getElem? (i := 83) rfl)) rfl, Uw_of (inT1 _ (List.mem_of_getElem? (i := 4) rfl)) rfl, by decide, by decide, by decide +kernel⟩
theorem cvX2_readFour : Cv yX2_readFour := ⟨Uw_of (inT3 _ (List.mem_of_getElem? (i := 82) rfl)) rfl, Uw_of (inP1 _ (List.mem_of_getElem? (i := 13) rfl)) rfl⟩
theorem ckX1_hasLocal : Ck yX1_hasLocal cX1_hasLocal 2 (some .boolean) 1 := ⟨Uw_of (inT3 _ (List.mem_of_getElem? (i := 96) rfl)) rfl, Uw_of (inT1 _ (List.mem_of_getElem? (i := 6) rfl)) rfl, by decide, by decide, by decide +kernel⟩
theorem cvX1_hasLocal : Cv yX1_hasLocal := ⟨Uw_of (inT3 _ (List.mem_of_getElem? (i := 94) rfl)) rfl, Uw_of (inT3 _ (List.mem_of_getElem? (i := 95) rfl)) rfl⟩
theorem ckX2_nextByte : Ck yX2_nextByte cX2_nextByte 2 (some .int) 0 := ⟨Uw_of (inT3 _ (List.mem_of_getElem? (i := 67) rfl)) rfl, Uw_of (inT1 _ (List.mem_of_getElem? (i := 4) rfl)) rfl, by decide, by decide, by decide +kernel⟩
theorem cvX2_nextByte : Cv yX2_nextByte := ⟨Uw_of (inT3 _ (List.mem_of_getElem? (i := 66) rfl)) rfl, Uw_of (inP1 _ (List.mem_of_getElem? (i := 9) rfl)) rfl⟩
theorem ckX2_nextFour : Ck yX2_nextFour cX2_nextFour 2 (some .int) 0 := ⟨Uw_of (inT3 _ (List.mem_of_getElem? (i := 79) rfl)) rfl, Uw_of (inT1 _ (List.mem_of_getElem? (i := 4) rfl)) rfl, by decide, by decide, by decide +kernel⟩
theorem cvX2_nextFour : Cv yX2_nextFour := ⟨Uw_of (inT3 _ (List.mem_of_getElem? (i := 78) rfl)) rfl, Uw_of (inP1 _ (List.mem_of_getElem? (i := 12) rfl)) rfl⟩
theorem ckX2_localOf : Ck yX2_localOf cX2_localOf 3 (some .int) 2 := ⟨Uw_of (inT3 _ (List.mem_of_getElem? (i := 92) rfl)) rfl, Uw_of (inT1 _ (List.mem_of_getElem? (i := 4) rfl)) rfl, by decide, by decide, by decide +kernel⟩
theorem cvX2_localOf : Cv yX2_localOf := ⟨Uw_of (inT3 _ (List.mem_of_getElem? (i := 91) rfl)) rfl, Uw_of (inP1 _ (List.mem_of_getElem? (i := 14) rfl)) rfl⟩
theorem ckJ7_fill_53178 : Ck yJ7_fill_53178 cJ7_fill_53178 4 none 2 := ⟨Uw_of (inT3 _ (List.mem_of_getElem? (i := 111) rfl)) rfl, Uw_of (inT1 _ (List.mem_of_getElem? (i := 15) rfl)) rfl, by decide, by decide, by decide +kernel⟩
theorem csJ7_fill_53178 : Cond.static yJ7_fill_53178 ∈ Uw := Uw_of (inT3 _ (List.mem_of_getElem? (i := 110) rfl)) rfl
theorem ckX1_setLocal : Ck yX1_setLocal cX1_setLocal 3 none 2 := ⟨Uw_of (inT3 _ (List.mem_of_getElem? (i := 115) rfl)) rfl, Uw_of (inT1 _ (List.mem_of_getElem? (i := 6) rfl)) rfl, by decide, by decide, by decide +kernel⟩
theorem cvX1_setLocal : Cv yX1_setLocal := ⟨Uw_of (inT3 _ (List.mem_of_getElem? (i := 113) rfl)) rfl, Uw_of (inT3 _ (List.mem_of_getElem? (i := 114) rfl)) rfl⟩
theorem ckX2_fillLocals : Ck yX2_fillLocals cX2_fillLocals 5 none 2 := ⟨Uw_of (inT3 _ (List.mem_of_getElem? (i := 108) rfl)) rfl, Uw_of (inT1 _ (List.mem_of_getElem? (i := 4) rfl)) rfl, by decide, by decide, by decide +kernel⟩
theorem cvX2_fillLocals : Cv yX2_fillLocals := ⟨Uw_of (inT3 _ (List.mem_of_getElem? (i := 107) rfl)) rfl, Uw_of (inP2 _ (List.mem_of_getElem? (i := 0) rfl)) rfl⟩
theorem ckX2_nextValue : Ck yX2_nextValue cX2_nextValue 2 (some .int) 1 := ⟨Uw_of (inT3 _ (List.mem_of_getElem? (i := 75) rfl)) rfl, Uw_of (inT1 _ (List.mem_of_getElem? (i := 4) rfl)) rfl, by decide, by decide, by decide +kernel⟩
theorem cvX2_nextValue : Cv yX2_nextValue := ⟨Uw_of (inT3 _ (List.mem_of_getElem? (i := 74) rfl)) rfl, Uw_of (inP1 _ (List.mem_of_getElem? (i := 11) rfl)) rfl⟩
theorem ckX2_nextTarget : Ck yX2_nextTarget cX2_nextTarget 3 (some .int) 1 := ⟨Uw_of (inT3 _ (List.mem_of_getElem? (i := 100) rfl)) rfl, Uw_of (inT1 _ (List.mem_of_getElem? (i := 4) rfl)) rfl, by decide, by decide, by decide +kernel⟩
theorem cvX2_nextTarget : Cv yX2_nextTarget := ⟨Uw_of (inT3 _ (List.mem_of_getElem? (i := 99) rfl)) rfl, Uw_of (inP1 _ (List.mem_of_getElem? (i := 15) rfl)) rfl⟩
theorem ckX2_callFunction : Ck yX2_callFunction cX2_callFunction 6 none 2 := ⟨Uw_of (inT3 _ (List.mem_of_getElem? (i := 104) rfl)) rfl, Uw_of (inT1 _ (List.mem_of_getElem? (i := 4) rfl)) rfl, by decide, by decide, by decide +kernel⟩
theorem cvX2_callFunction : Cv yX2_callFunction := ⟨Uw_of (inT3 _ (List.mem_of_getElem? (i := 102) rfl)) rfl, Uw_of (inT3 _ (List.mem_of_getElem? (i := 103) rfl)) rfl⟩
theorem ckX2_putOut : Ck yX2_putOut cX2_putOut 2 none 1 := ⟨Uw_of (inT3 _ (List.mem_of_getElem? (i := 146) rfl)) rfl, Uw_of (inT1 _ (List.mem_of_getElem? (i := 4) rfl)) rfl, by decide, by decide, by decide +kernel⟩
theorem cvX2_putOut : Cv yX2_putOut := ⟨Uw_of (inT3 _ (List.mem_of_getElem? (i := 145) rfl)) rfl, Uw_of (inP2 _ (List.mem_of_getElem? (i := 6) rfl)) rfl⟩
theorem ckX3_putByte : Ck yX3_putByte cX3_putByte 3 none 2 := ⟨Uw_of (inT3 _ (List.mem_of_getElem? (i := 157) rfl)) rfl, Uw_of (inT1 _ (List.mem_of_getElem? (i := 2) rfl)) rfl, by decide, by decide, by decide +kernel⟩
theorem cvX3_putByte : Cv yX3_putByte := ⟨Uw_of (inT3 _ (List.mem_of_getElem? (i := 155) rfl)) rfl, Uw_of (inT3 _ (List.mem_of_getElem? (i := 156) rfl)) rfl⟩
theorem ckX2_endFunction : Ck yX2_endFunction cX2_endFunction 3 none 2 := ⟨Uw_of (inT3 _ (List.mem_of_getElem? (i := 138) rfl)) rfl, Uw_of (inT1 _ (List.mem_of_getElem? (i := 4) rfl)) rfl, by decide, by decide, by decide +kernel⟩
theorem cvX2_endFunction : Cv yX2_endFunction := ⟨Uw_of (inT3 _ (List.mem_of_getElem? (i := 137) rfl)) rfl, Uw_of (inP2 _ (List.mem_of_getElem? (i := 4) rfl)) rfl⟩
theorem ckX2_give : Ck yX2_give cX2_give 2 none 1 := ⟨Uw_of (inT3 _ (List.mem_of_getElem? (i := 142) rfl)) rfl, Uw_of (inT1 _ (List.mem_of_getElem? (i := 4) rfl)) rfl, by decide, by decide, by decide +kernel⟩
theorem cvX2_give : Cv yX2_give := ⟨Uw_of (inT3 _ (List.mem_of_getElem? (i := 141) rfl)) rfl, Uw_of (inP2 _ (List.mem_of_getElem? (i := 5) rfl)) rfl⟩
theorem ckX2_beginString : Ck yX2_beginString cX2_beginString 3 none 1 := ⟨Uw_of (inT3 _ (List.mem_of_getElem? (i := 34) rfl)) rfl, Uw_of (inT1 _ (List.mem_of_getElem? (i := 4) rfl)) rfl, by decide, by decide, by decide +kernel⟩
theorem cvX2_beginString : Cv yX2_beginString := ⟨Uw_of (inT3 _ (List.mem_of_getElem? (i := 32) rfl)) rfl, Uw_of (inT3 _ (List.mem_of_getElem? (i := 33) rfl)) rfl⟩
theorem ckX2_writeByte : Ck yX2_writeByte cX2_writeByte 3 none 2 := ⟨Uw_of (inT3 _ (List.mem_of_getElem? (i := 153) rfl)) rfl, Uw_of (inT1 _ (List.mem_of_getElem? (i := 4) rfl)) rfl, by decide, by decide, by decide +kernel⟩
theorem cvX2_writeByte : Cv yX2_writeByte := ⟨Uw_of (inT3 _ (List.mem_of_getElem? (i := 152) rfl)) rfl, Uw_of (inP2 _ (List.mem_of_getElem? (i := 7) rfl)) rfl⟩
theorem ckX2_act : Ck yX2_act cX2_act 5 none 4 := ⟨Uw_of (inT3 _ (List.mem_of_getElem? (i := 134) rfl)) rfl, Uw_of (inT1 _ (List.mem_of_getElem? (i := 4) rfl)) rfl, by decide, by decide, by decide +kernel⟩
theorem cvX2_act : Cv yX2_act := ⟨Uw_of (inT3 _ (List.mem_of_getElem? (i := 133) rfl)) rfl, Uw_of (inP2 _ (List.mem_of_getElem? (i := 3) rfl)) rfl⟩
theorem ckX2_goesThere : Ck yX2_goesThere cX2_goesThere 3 (some .boolean) 3 := ⟨Uw_of (inT3 _ (List.mem_of_getElem? (i := 130) rfl)) rfl, Uw_of (inT1 _ (List.mem_of_getElem? (i := 4) rfl)) rfl, by decide, by decide, by decide +kernel⟩
theorem csX2_goesThere : Cond.static yX2_goesThere ∈ Uw := Uw_of (inT3 _ (List.mem_of_getElem? (i := 129) rfl)) rfl
theorem ckX2_valueFor : Ck yX2_valueFor cX2_valueFor 4 (some .int) 3 := ⟨Uw_of (inT3 _ (List.mem_of_getElem? (i := 127) rfl)) rfl, Uw_of (inT1 _ (List.mem_of_getElem? (i := 4) rfl)) rfl, by decide, by decide, by decide +kernel⟩
theorem cvX2_valueFor : Cv yX2_valueFor := ⟨Uw_of (inT3 _ (List.mem_of_getElem? (i := 126) rfl)) rfl, Uw_of (inP2 _ (List.mem_of_getElem? (i := 2) rfl)) rfl⟩
theorem ckX2_nextDistance : Ck yX2_nextDistance cX2_nextDistance 2 (some .int) 0 := ⟨Uw_of (inT3 _ (List.mem_of_getElem? (i := 123) rfl)) rfl, Uw_of (inT1 _ (List.mem_of_getElem? (i := 4) rfl)) rfl, by decide, by decide, by decide +kernel⟩
theorem cvX2_nextDistance : Cv yX2_nextDistance := ⟨Uw_of (inT3 _ (List.mem_of_getElem? (i := 122) rfl)) rfl, Uw_of (inP2 _ (List.mem_of_getElem? (i := 1) rfl)) rfl⟩
theorem ckX2_doCallOrder : Ck yX2_doCallOrder cX2_doCallOrder 5 none 1 := ⟨Uw_of (inT3 _ (List.mem_of_getElem? (i := 71) rfl)) rfl, Uw_of (inT1 _ (List.mem_of_getElem? (i := 4) rfl)) rfl, by decide, by decide, by decide +kernel⟩
theorem cvX2_doCallOrder : Cv yX2_doCallOrder := ⟨Uw_of (inT3 _ (List.mem_of_getElem? (i := 70) rfl)) rfl, Uw_of (inP1 _ (List.mem_of_getElem? (i := 10) rfl)) rfl⟩
theorem ckX2_readArguments : Ck yX2_readArguments cX2_readArguments 4 none 1 := ⟨Uw_of (inT3 _ (List.mem_of_getElem? (i := 185) rfl)) rfl, Uw_of (inT1 _ (List.mem_of_getElem? (i := 4) rfl)) rfl, by decide, by decide, by decide +kernel⟩
theorem cvX2_readArguments : Cv yX2_readArguments := ⟨Uw_of (inT3 _ (List.mem_of_getElem? (i := 184) rfl)) rfl, Uw_of (inP2 _ (List.mem_of_getElem? (i := 14) rfl)) rfl⟩
theorem ckX2_enterThing : Ck yX2_enterThing cX2_enterThing 5 none 2 := ⟨Uw_of (inT3 _ (List.mem_of_getElem? (i := 181) rfl)) rfl, Uw_of (inT1 _ (List.mem_of_getElem? (i := 4) rfl)) rfl, by decide, by decide, by decide +kernel⟩
theorem cvX2_enterThing : Cv yX2_enterThing := ⟨Uw_of (inT3 _ (List.mem_of_getElem? (i := 180) rfl)) rfl, Uw_of (inP2 _ (List.mem_of_getElem? (i := 13) rfl)) rfl⟩
theorem ckX2_doLeaf : Ck yX2_doLeaf cX2_doLeaf 3 none 2 := ⟨Uw_of (inT3 _ (List.mem_of_getElem? (i := 177) rfl)) rfl, Uw_of (inT1 _ (List.mem_of_getElem? (i := 4) rfl)) rfl, by decide, by decide, by decide +kernel⟩
theorem cvX2_doLeaf : Cv yX2_doLeaf := ⟨Uw_of (inT3 _ (List.mem_of_getElem? (i := 176) rfl)) rfl, Uw_of (inP2 _ (List.mem_of_getElem? (i := 12) rfl)) rfl⟩
theorem ckX2_followBranch : Ck yX2_followBranch cX2_followBranch 5 none 2 := ⟨Uw_of (inT3 _ (List.mem_of_getElem? (i := 173) rfl)) rfl, Uw_of (inT1 _ (List.mem_of_getElem? (i := 4) rfl)) rfl, by decide, by decide, by decide +kernel⟩
theorem cvX2_followBranch : Cv yX2_followBranch := ⟨Uw_of (inT3 _ (List.mem_of_getElem? (i := 172) rfl)) rfl, Uw_of (inP2 _ (List.mem_of_getElem? (i := 11) rfl)) rfl⟩
theorem ckX2_digitCount : Ck yX2_digitCount cX2_digitCount 5 (some .int) 1 := ⟨Uw_of (inT3 _ (List.mem_of_getElem? (i := 195) rfl)) rfl, Uw_of (inT1 _ (List.mem_of_getElem? (i := 4) rfl)) rfl, by decide, by decide, by decide +kernel⟩
theorem csX2_digitCount : Cond.static yX2_digitCount ∈ Uw := Uw_of (inT3 _ (List.mem_of_getElem? (i := 194) rfl)) rfl
theorem ckX2_endInFault : Ck yX2_endInFault cX2_endInFault 2 (some .int) 0 := ⟨Uw_of (inT3 _ (List.mem_of_getElem? (i := 200) rfl)) rfl, Uw_of (inT1 _ (List.mem_of_getElem? (i := 4) rfl)) rfl, by decide, by decide, by decide +kernel⟩
theorem cvX2_endInFault : Cv yX2_endInFault := ⟨Uw_of (inT3 _ (List.mem_of_getElem? (i := 199) rfl)) rfl, Uw_of (inP3 _ (List.mem_of_getElem? (i := 0) rfl)) rfl⟩
theorem ckX2_doOrder : Ck yX2_doOrder cX2_doOrder 8 none 1 := ⟨Uw_of (inT3 _ (List.mem_of_getElem? (i := 63) rfl)) rfl, Uw_of (inT1 _ (List.mem_of_getElem? (i := 4) rfl)) rfl, by decide, by decide, by decide +kernel⟩
theorem cvX2_doOrder : Cv yX2_doOrder := ⟨Uw_of (inT3 _ (List.mem_of_getElem? (i := 62) rfl)) rfl, Uw_of (inP1 _ (List.mem_of_getElem? (i := 8) rfl)) rfl⟩
theorem ckX2_stepPlain : Ck yX2_stepPlain cX2_stepPlain 3 none 1 := ⟨Uw_of (inT3 _ (List.mem_of_getElem? (i := 161) rfl)) rfl, Uw_of (inT1 _ (List.mem_of_getElem? (i := 4) rfl)) rfl, by decide, by decide, by decide +kernel⟩
theorem cvX2_stepPlain : Cv yX2_stepPlain := ⟨Uw_of (inT3 _ (List.mem_of_getElem? (i := 160) rfl)) rfl, Uw_of (inP2 _ (List.mem_of_getElem? (i := 8) rfl)) rfl⟩
theorem ckX2_stepWide : Ck yX2_stepWide cX2_stepWide 3 none 1 := ⟨Uw_of (inT3 _ (List.mem_of_getElem? (i := 165) rfl)) rfl, Uw_of (inT1 _ (List.mem_of_getElem? (i := 4) rfl)) rfl, by decide, by decide, by decide +kernel⟩
theorem cvX2_stepWide : Cv yX2_stepWide := ⟨Uw_of (inT3 _ (List.mem_of_getElem? (i := 164) rfl)) rfl, Uw_of (inP2 _ (List.mem_of_getElem? (i := 9) rfl)) rfl⟩
theorem ckX2_stepPacked : Ck yX2_stepPacked cX2_stepPacked 4 none 1 := ⟨Uw_of (inT3 _ (List.mem_of_getElem? (i := 169) rfl)) rfl, Uw_of (inT1 _ (List.mem_of_getElem? (i := 4) rfl)) rfl, by decide, by decide, by decide +kernel⟩
theorem cvX2_stepPacked : Cv yX2_stepPacked := ⟨Uw_of (inT3 _ (List.mem_of_getElem? (i := 168) rfl)) rfl, Uw_of (inP2 _ (List.mem_of_getElem? (i := 10) rfl)) rfl⟩
theorem ckX2_stepNumber : Ck yX2_stepNumber cX2_stepNumber 8 none 1 := ⟨Uw_of (inT3 _ (List.mem_of_getElem? (i := 189) rfl)) rfl, Uw_of (inT1 _ (List.mem_of_getElem? (i := 4) rfl)) rfl, by decide, by decide, by decide +kernel⟩
theorem cvX2_stepNumber : Cv yX2_stepNumber := ⟨Uw_of (inT3 _ (List.mem_of_getElem? (i := 188) rfl)) rfl, Uw_of (inP2 _ (List.mem_of_getElem? (i := 15) rfl)) rfl⟩
theorem ckX11_isStepCount : Ck yX11_isStepCount cX11_isStepCount 1 (some .boolean) 1 := ⟨Uw_of (inT3 _ (List.mem_of_getElem? (i := 29) rfl)) rfl, Uw_of (inT1 _ (List.mem_of_getElem? (i := 1) rfl)) rfl, by decide, by decide, by decide +kernel⟩
theorem csX11_isStepCount : Cond.static yX11_isStepCount ∈ Uw := Uw_of (inT3 _ (List.mem_of_getElem? (i := 28) rfl)) rfl
theorem ckX2_run : Ck yX2_run cX2_run 5 (some .int) 1 := ⟨Uw_of (inT3 _ (List.mem_of_getElem? (i := 59) rfl)) rfl, Uw_of (inT1 _ (List.mem_of_getElem? (i := 4) rfl)) rfl, by decide, by decide, by decide +kernel⟩
theorem cvX2_run : Cv yX2_run := ⟨Uw_of (inT3 _ (List.mem_of_getElem? (i := 57) rfl)) rfl, Uw_of (inT3 _ (List.mem_of_getElem? (i := 58) rfl)) rfl⟩
theorem ckX2_setArguments : Ck yX2_setArguments cX2_setArguments 4 none 2 := ⟨Uw_of (inT3 _ (List.mem_of_getElem? (i := 213) rfl)) rfl, Uw_of (inT1 _ (List.mem_of_getElem? (i := 4) rfl)) rfl, by decide, by decide, by decide +kernel⟩
theorem cvX2_setArguments : Cv yX2_setArguments := ⟨Uw_of (inT3 _ (List.mem_of_getElem? (i := 211) rfl)) rfl, Uw_of (inT3 _ (List.mem_of_getElem? (i := 212) rfl)) rfl⟩
theorem ckX1_tellNode : Ck yX1_tellNode cX1_tellNode 1 (some .int) 0 := ⟨Uw_of (inT3 _ (List.mem_of_getElem? (i := 238) rfl)) rfl, Uw_of (inT1 _ (List.mem_of_getElem? (i := 6) rfl)) rfl, by decide, by decide, by decide +kernel⟩
theorem cvX1_tellNode : Cv yX1_tellNode := ⟨Uw_of (inT3 _ (List.mem_of_getElem? (i := 237) rfl)) rfl, Uw_of (inP3 _ (List.mem_of_getElem? (i := 1) rfl)) rfl⟩
theorem ckX1_tell : Ck yX1_tell cX1_tell 2 (some .int) 1 := ⟨Uw_of (inT3 _ (List.mem_of_getElem? (i := 234) rfl)) rfl, Uw_of (inT1 _ (List.mem_of_getElem? (i := 6) rfl)) rfl, by decide, by decide, by decide +kernel⟩
theorem cvX1_tell : Cv yX1_tell := ⟨Uw_of (inT3 _ (List.mem_of_getElem? (i := 232) rfl)) rfl, Uw_of (inT3 _ (List.mem_of_getElem? (i := 233) rfl)) rfl⟩
theorem ckX9_tell : Ck yX9_tell cX9_tell 2 (some .int) 1 := ⟨Uw_of (inT4 _ (List.mem_of_getElem? (i := 15) rfl)) rfl, Uw_of (inT1 _ (List.mem_of_getElem? (i := 5) rfl)) rfl, by decide, by decide, by decide +kernel⟩
theorem cvX9_tell : Cv yX9_tell := ⟨Uw_of (inT4 _ (List.mem_of_getElem? (i := 13) rfl)) rfl, Uw_of (inT4 _ (List.mem_of_getElem? (i := 14) rfl)) rfl⟩
theorem ckX7_areSigns : Ck yX7_areSigns cX7_areSigns 4 (some .boolean) 3 := ⟨Uw_of (inT4 _ (List.mem_of_getElem? (i := 29) rfl)) rfl, Uw_of (inT1 _ (List.mem_of_getElem? (i := 8) rfl)) rfl, by decide, by decide, by decide +kernel⟩
theorem csX7_areSigns : Cond.static yX7_areSigns ∈ Uw := Uw_of (inT4 _ (List.mem_of_getElem? (i := 28) rfl)) rfl
theorem ckX7_isPiece : Ck yX7_isPiece cX7_isPiece 3 (some .boolean) 3 := ⟨Uw_of (inT4 _ (List.mem_of_getElem? (i := 26) rfl)) rfl, Uw_of (inT1 _ (List.mem_of_getElem? (i := 8) rfl)) rfl, by decide, by decide, by decide +kernel⟩
theorem csX7_isPiece : Cond.static yX7_isPiece ∈ Uw := Uw_of (inT4 _ (List.mem_of_getElem? (i := 25) rfl)) rfl
theorem ckX7_add : Ck yX7_add cX7_add 6 (some .int) 3 := ⟨Uw_of (inT4 _ (List.mem_of_getElem? (i := 33) rfl)) rfl, Uw_of (inT1 _ (List.mem_of_getElem? (i := 8) rfl)) rfl, by decide, by decide, by decide +kernel⟩
theorem cvX7_add : Cv yX7_add := ⟨Uw_of (inT4 _ (List.mem_of_getElem? (i := 31) rfl)) rfl, Uw_of (inT4 _ (List.mem_of_getElem? (i := 32) rfl)) rfl⟩
theorem ckX7_standsAt : Ck yX7_standsAt cX7_standsAt 6 (some .boolean) 4 := ⟨Uw_of (inT4 _ (List.mem_of_getElem? (i := 49) rfl)) rfl, Uw_of (inT1 _ (List.mem_of_getElem? (i := 8) rfl)) rfl, by decide, by decide, by decide +kernel⟩
theorem cvX7_standsAt : Cv yX7_standsAt := ⟨Uw_of (inT4 _ (List.mem_of_getElem? (i := 47) rfl)) rfl, Uw_of (inT4 _ (List.mem_of_getElem? (i := 48) rfl)) rfl⟩
theorem ckX6_choose : Ck yX6_choose cX6_choose 9 none 3 := ⟨Uw_of (inT4 _ (List.mem_of_getElem? (i := 45) rfl)) rfl, Uw_of (inT1 _ (List.mem_of_getElem? (i := 10) rfl)) rfl, by decide, by decide, by decide +kernel⟩
theorem cvX6_choose : Cv yX6_choose := ⟨Uw_of (inT4 _ (List.mem_of_getElem? (i := 44) rfl)) rfl, Uw_of (inP3 _ (List.mem_of_getElem? (i := 2) rfl)) rfl⟩
theorem ckX6_part : Ck yX6_part cX6_part 4 (some .int) 2 := ⟨Uw_of (inT4 _ (List.mem_of_getElem? (i := 41) rfl)) rfl, Uw_of (inT1 _ (List.mem_of_getElem? (i := 10) rfl)) rfl, by decide, by decide, by decide +kernel⟩
theorem cvX6_part : Cv yX6_part := ⟨Uw_of (inT4 _ (List.mem_of_getElem? (i := 39) rfl)) rfl, Uw_of (inT4 _ (List.mem_of_getElem? (i := 40) rfl)) rfl⟩
theorem ckX10_add : Ck yX10_add cX10_add 5 (some .int) 2 := ⟨Uw_of (inT4 _ (List.mem_of_getElem? (i := 53) rfl)) rfl, Uw_of (inT1 _ (List.mem_of_getElem? (i := 9) rfl)) rfl, by decide, by decide, by decide +kernel⟩
theorem cvX10_add : Cv yX10_add := ⟨Uw_of (inT4 _ (List.mem_of_getElem? (i := 51) rfl)) rfl, Uw_of (inT4 _ (List.mem_of_getElem? (i := 52) rfl)) rfl⟩
theorem ckX6_copyPieces : Ck yX6_copyPieces cX6_copyPieces 6 (some .int) 2 := ⟨Uw_of (inT4 _ (List.mem_of_getElem? (i := 71) rfl)) rfl, Uw_of (inT1 _ (List.mem_of_getElem? (i := 10) rfl)) rfl, by decide, by decide, by decide +kernel⟩
theorem cvX6_copyPieces : Cv yX6_copyPieces := ⟨Uw_of (inT4 _ (List.mem_of_getElem? (i := 69) rfl)) rfl, Uw_of (inT4 _ (List.mem_of_getElem? (i := 70) rfl)) rfl⟩
theorem ckX0_addKnot : Ck yX0_addKnot cX0_addKnot 3 none 2 := ⟨Uw_of (inT4 _ (List.mem_of_getElem? (i := 87) rfl)) rfl, Uw_of (inT1 _ (List.mem_of_getElem? (i := 11) rfl)) rfl, by decide, by decide, by decide +kernel⟩
theorem cvX0_addKnot : Cv yX0_addKnot := ⟨Uw_of (inT4 _ (List.mem_of_getElem? (i := 86) rfl)) rfl, Uw_of (inP3 _ (List.mem_of_getElem? (i := 5) rfl)) rfl⟩
theorem ckX0_takeLeast : Ck yX0_takeLeast cX0_takeLeast 3 (some .int) 0 := ⟨Uw_of (inT4 _ (List.mem_of_getElem? (i := 99) rfl)) rfl, Uw_of (inT1 _ (List.mem_of_getElem? (i := 11) rfl)) rfl, by decide, by decide, by decide +kernel⟩
theorem cvX0_takeLeast : Cv yX0_takeLeast := ⟨Uw_of (inT4 _ (List.mem_of_getElem? (i := 98) rfl)) rfl, Uw_of (inP3 _ (List.mem_of_getElem? (i := 6) rfl)) rfl⟩
theorem ckX0_clearLeaves : Ck yX0_clearLeaves cX0_clearLeaves 1 none 0 := ⟨Uw_of (inT4 _ (List.mem_of_getElem? (i := 79) rfl)) rfl, Uw_of (inT1 _ (List.mem_of_getElem? (i := 11) rfl)) rfl, by decide, by decide, by decide +kernel⟩
theorem cvX0_clearLeaves : Cv yX0_clearLeaves := ⟨Uw_of (inT4 _ (List.mem_of_getElem? (i := 77) rfl)) rfl, Uw_of (inT4 _ (List.mem_of_getElem? (i := 78) rfl)) rfl⟩
theorem ckX0_addLeaf : Ck yX0_addLeaf cX0_addLeaf 4 none 3 := ⟨Uw_of (inT4 _ (List.mem_of_getElem? (i := 83) rfl)) rfl, Uw_of (inT1 _ (List.mem_of_getElem? (i := 11) rfl)) rfl, by decide, by decide, by decide +kernel⟩
theorem cvX0_addLeaf : Cv yX0_addLeaf := ⟨Uw_of (inT4 _ (List.mem_of_getElem? (i := 81) rfl)) rfl, Uw_of (inT4 _ (List.mem_of_getElem? (i := 82) rfl)) rfl⟩
theorem ckX0_joinAll : Ck yX0_joinAll cX0_joinAll 4 none 0 := ⟨Uw_of (inT4 _ (List.mem_of_getElem? (i := 95) rfl)) rfl, Uw_of (inT1 _ (List.mem_of_getElem? (i := 11) rfl)) rfl, by decide, by decide, by decide +kernel⟩
theorem cvX0_joinAll : Cv yX0_joinAll := ⟨Uw_of (inT4 _ (List.mem_of_getElem? (i := 93) rfl)) rfl, Uw_of (inT4 _ (List.mem_of_getElem? (i := 94) rfl)) rfl⟩
theorem ckX7_nodeSize : Ck yX7_nodeSize cX7_nodeSize 2 (some .int) 1 := ⟨Uw_of (inT4 _ (List.mem_of_getElem? (i := 91) rfl)) rfl, Uw_of (inT1 _ (List.mem_of_getElem? (i := 8) rfl)) rfl, by decide, by decide, by decide +kernel⟩
theorem cvX7_nodeSize : Cv yX7_nodeSize := ⟨Uw_of (inT4 _ (List.mem_of_getElem? (i := 89) rfl)) rfl, Uw_of (inT4 _ (List.mem_of_getElem? (i := 90) rfl)) rfl⟩
theorem ckX3_putFour : Ck yX3_putFour cX3_putFour 3 none 2 := ⟨Uw_of (inT4 _ (List.mem_of_getElem? (i := 120) rfl)) rfl, Uw_of (inT1 _ (List.mem_of_getElem? (i := 2) rfl)) rfl, by decide, by decide, by decide +kernel⟩
theorem cvX3_putFour : Cv yX3_putFour := ⟨Uw_of (inT4 _ (List.mem_of_getElem? (i := 118) rfl)) rfl, Uw_of (inT4 _ (List.mem_of_getElem? (i := 119) rfl)) rfl⟩
theorem ckX7_putBytes : Ck yX7_putBytes cX7_putBytes 5 none 3 := ⟨Uw_of (inT4 _ (List.mem_of_getElem? (i := 135) rfl)) rfl, Uw_of (inT1 _ (List.mem_of_getElem? (i := 8) rfl)) rfl, by decide, by decide, by decide +kernel⟩
theorem cvX7_putBytes : Cv yX7_putBytes := ⟨Uw_of (inT4 _ (List.mem_of_getElem? (i := 134) rfl)) rfl, Uw_of (inP3 _ (List.mem_of_getElem? (i := 9) rfl)) rfl⟩
theorem ckX7_putFours : Ck yX7_putFours cX7_putFours 5 none 3 := ⟨Uw_of (inT4 _ (List.mem_of_getElem? (i := 140) rfl)) rfl, Uw_of (inT1 _ (List.mem_of_getElem? (i := 8) rfl)) rfl, by decide, by decide, by decide +kernel⟩
theorem cvX7_putFours : Cv yX7_putFours := ⟨Uw_of (inT4 _ (List.mem_of_getElem? (i := 139) rfl)) rfl, Uw_of (inP3 _ (List.mem_of_getElem? (i := 10) rfl)) rfl⟩
theorem ckX0_size : Ck yX0_size cX0_size 1 (some .int) 0 := ⟨Uw_of (inT4 _ (List.mem_of_getElem? (i := 107) rfl)) rfl, Uw_of (inT1 _ (List.mem_of_getElem? (i := 11) rfl)) rfl, by decide, by decide, by decide +kernel⟩
theorem cvX0_size : Cv yX0_size := ⟨Uw_of (inT4 _ (List.mem_of_getElem? (i := 105) rfl)) rfl, Uw_of (inT4 _ (List.mem_of_getElem? (i := 106) rfl)) rfl⟩
theorem ckX7_putNode : Ck yX7_putNode cX7_putNode 4 none 3 := ⟨Uw_of (inT4 _ (List.mem_of_getElem? (i := 130) rfl)) rfl, Uw_of (inT1 _ (List.mem_of_getElem? (i := 8) rfl)) rfl, by decide, by decide, by decide +kernel⟩
theorem cvX7_putNode : Cv yX7_putNode := ⟨Uw_of (inT4 _ (List.mem_of_getElem? (i := 128) rfl)) rfl, Uw_of (inT4 _ (List.mem_of_getElem? (i := 129) rfl)) rfl⟩
theorem ckX0_putBranch : Ck yX0_putBranch cX0_putBranch 3 none 2 := ⟨Uw_of (inT4 _ (List.mem_of_getElem? (i := 125) rfl)) rfl, Uw_of (inT1 _ (List.mem_of_getElem? (i := 11) rfl)) rfl, by decide, by decide, by decide +kernel⟩
theorem cvX0_putBranch : Cv yX0_putBranch := ⟨Uw_of (inT4 _ (List.mem_of_getElem? (i := 124) rfl)) rfl, Uw_of (inP3 _ (List.mem_of_getElem? (i := 8) rfl)) rfl⟩
theorem ckX5_putBits : Ck yX5_putBits cX5_putBits 8 (some .int) 3 := ⟨Uw_of (inT4 _ (List.mem_of_getElem? (i := 153) rfl)) rfl, Uw_of (inT1 _ (List.mem_of_getElem? (i := 7) rfl)) rfl, by decide, by decide, by decide +kernel⟩
theorem cvX5_putBits : Cv yX5_putBits := ⟨Uw_of (inT4 _ (List.mem_of_getElem? (i := 152) rfl)) rfl, Uw_of (inP3 _ (List.mem_of_getElem? (i := 13) rfl)) rfl⟩
theorem ckX5_putText : Ck yX5_putText cX5_putText 5 none 2 := ⟨Uw_of (inT4 _ (List.mem_of_getElem? (i := 148) rfl)) rfl, Uw_of (inT1 _ (List.mem_of_getElem? (i := 7) rfl)) rfl, by decide, by decide, by decide +kernel⟩
theorem cvX5_putText : Cv yX5_putText := ⟨Uw_of (inT4 _ (List.mem_of_getElem? (i := 147) rfl)) rfl, Uw_of (inP3 _ (List.mem_of_getElem? (i := 12) rfl)) rfl⟩
theorem ckX5_partTexts : Ck yX5_partTexts cX5_partTexts 3 none 0 := ⟨Uw_of (inT4 _ (List.mem_of_getElem? (i := 65) rfl)) rfl, Uw_of (inT1 _ (List.mem_of_getElem? (i := 7) rfl)) rfl, by decide, by decide, by decide +kernel⟩
theorem cvX5_partTexts : Cv yX5_partTexts := ⟨Uw_of (inT4 _ (List.mem_of_getElem? (i := 64) rfl)) rfl, Uw_of (inP3 _ (List.mem_of_getElem? (i := 3) rfl)) rfl⟩
theorem ckX5_growTree : Ck yX5_growTree cX5_growTree 2 none 0 := ⟨Uw_of (inT4 _ (List.mem_of_getElem? (i := 75) rfl)) rfl, Uw_of (inT1 _ (List.mem_of_getElem? (i := 7) rfl)) rfl, by decide, by decide, by decide +kernel⟩
theorem cvX5_growTree : Cv yX5_growTree := ⟨Uw_of (inT4 _ (List.mem_of_getElem? (i := 74) rfl)) rfl, Uw_of (inP3 _ (List.mem_of_getElem? (i := 4) rfl)) rfl⟩
theorem ckX0_spread : Ck yX0_spread cX0_spread 6 none 1 := ⟨Uw_of (inT4 _ (List.mem_of_getElem? (i := 103) rfl)) rfl, Uw_of (inT1 _ (List.mem_of_getElem? (i := 11) rfl)) rfl, by decide, by decide, by decide +kernel⟩
theorem cvX0_spread : Cv yX0_spread := ⟨Uw_of (inT4 _ (List.mem_of_getElem? (i := 101) rfl)) rfl, Uw_of (inT4 _ (List.mem_of_getElem? (i := 102) rfl)) rfl⟩
theorem ckX0_putNodes : Ck yX0_putNodes cX0_putNodes 5 none 3 := ⟨Uw_of (inT4 _ (List.mem_of_getElem? (i := 115) rfl)) rfl, Uw_of (inT1 _ (List.mem_of_getElem? (i := 11) rfl)) rfl, by decide, by decide, by decide +kernel⟩
theorem cvX0_putNodes : Cv yX0_putNodes := ⟨Uw_of (inT4 _ (List.mem_of_getElem? (i := 113) rfl)) rfl, Uw_of (inT4 _ (List.mem_of_getElem? (i := 114) rfl)) rfl⟩
theorem ckX5_putTexts : Ck yX5_putTexts cX5_putTexts 4 none 1 := ⟨Uw_of (inT4 _ (List.mem_of_getElem? (i := 144) rfl)) rfl, Uw_of (inT1 _ (List.mem_of_getElem? (i := 7) rfl)) rfl, by decide, by decide, by decide +kernel⟩
theorem cvX5_putTexts : Cv yX5_putTexts := ⟨Uw_of (inT4 _ (List.mem_of_getElem? (i := 143) rfl)) rfl, Uw_of (inP3 _ (List.mem_of_getElem? (i := 11) rfl)) rfl⟩
theorem ckX5_keepBits : Ck yX5_keepBits cX5_keepBits 3 none 0 := ⟨Uw_of (inT4 _ (List.mem_of_getElem? (i := 158) rfl)) rfl, Uw_of (inT1 _ (List.mem_of_getElem? (i := 7) rfl)) rfl, by decide, by decide, by decide +kernel⟩
theorem cvX5_keepBits : Cv yX5_keepBits := ⟨Uw_of (inT4 _ (List.mem_of_getElem? (i := 157) rfl)) rfl, Uw_of (inP3 _ (List.mem_of_getElem? (i := 14) rfl)) rfl⟩
theorem ckX5_countBits : Ck yX5_countBits cX5_countBits 4 (some .int) 1 := ⟨Uw_of (inT4 _ (List.mem_of_getElem? (i := 111) rfl)) rfl, Uw_of (inT1 _ (List.mem_of_getElem? (i := 7) rfl)) rfl, by decide, by decide, by decide +kernel⟩
theorem cvX5_countBits : Cv yX5_countBits := ⟨Uw_of (inT4 _ (List.mem_of_getElem? (i := 110) rfl)) rfl, Uw_of (inP3 _ (List.mem_of_getElem? (i := 7) rfl)) rfl⟩
theorem ckX5_pack : Ck yX5_pack cX5_pack 5 (some .int) 1 := ⟨Uw_of (inT4 _ (List.mem_of_getElem? (i := 61) rfl)) rfl, Uw_of (inT1 _ (List.mem_of_getElem? (i := 7) rfl)) rfl, by decide, by decide, by decide +kernel⟩
theorem cvX5_pack : Cv yX5_pack := ⟨Uw_of (inT4 _ (List.mem_of_getElem? (i := 59) rfl)) rfl, Uw_of (inT4 _ (List.mem_of_getElem? (i := 60) rfl)) rfl⟩
theorem ckX12_in : Ck yX12_in cX12_in 6 (some .boolean) 3 := ⟨Uw_of (inT5 _ (List.mem_of_getElem? (i := 141) rfl)) rfl, Uw_of (inT1 _ (List.mem_of_getElem? (i := 12) rfl)) rfl, by decide, by decide, by decide +kernel⟩
theorem csX12_in : Cond.static yX12_in ∈ Uw := Uw_of (inT5 _ (List.mem_of_getElem? (i := 140) rfl)) rfl
theorem ckX12_tell : Ck yX12_tell cX12_tell 3 none 2 := ⟨Uw_of (inT5 _ (List.mem_of_getElem? (i := 151) rfl)) rfl, Uw_of (inT1 _ (List.mem_of_getElem? (i := 12) rfl)) rfl, by decide, by decide, by decide +kernel⟩
theorem cvX12_tell : Cv yX12_tell := ⟨Uw_of (inT5 _ (List.mem_of_getElem? (i := 150) rfl)) rfl, Uw_of (inP3 _ (List.mem_of_getElem? (i := 15) rfl)) rfl⟩
theorem ckX12_fails : Ck yX12_fails cX12_fails 2 none 1 := ⟨Uw_of (inT5 _ (List.mem_of_getElem? (i := 181) rfl)) rfl, Uw_of (inT1 _ (List.mem_of_getElem? (i := 12) rfl)) rfl, by decide, by decide, by decide +kernel⟩
theorem cvX12_fails : Cv yX12_fails := ⟨Uw_of (inT5 _ (List.mem_of_getElem? (i := 180) rfl)) rfl, Uw_of (inP4 _ (List.mem_of_getElem? (i := 3) rfl)) rfl⟩
theorem ckX12_read : Ck yX12_read cX12_read 3 (some .int) 1 := ⟨Uw_of (inT5 _ (List.mem_of_getElem? (i := 177) rfl)) rfl, Uw_of (inT1 _ (List.mem_of_getElem? (i := 12) rfl)) rfl, by decide, by decide, by decide +kernel⟩
theorem cvX12_read : Cv yX12_read := ⟨Uw_of (inT5 _ (List.mem_of_getElem? (i := 176) rfl)) rfl, Uw_of (inP4 _ (List.mem_of_getElem? (i := 2) rfl)) rfl⟩
theorem ckX12_four : Ck yX12_four cX12_four 5 (some .int) 1 := ⟨Uw_of (inT5 _ (List.mem_of_getElem? (i := 173) rfl)) rfl, Uw_of (inT1 _ (List.mem_of_getElem? (i := 12) rfl)) rfl, by decide, by decide, by decide +kernel⟩
theorem cvX12_four : Cv yX12_four := ⟨Uw_of (inT5 _ (List.mem_of_getElem? (i := 172) rfl)) rfl, Uw_of (inP4 _ (List.mem_of_getElem? (i := 1) rfl)) rfl⟩
theorem ckX12_endOf : Ck yX12_endOf cX12_endOf 8 (some .long) 2 := ⟨Uw_of (inT5 _ (List.mem_of_getElem? (i := 185) rfl)) rfl, Uw_of (inT1 _ (List.mem_of_getElem? (i := 12) rfl)) rfl, by decide, by decide, by decide +kernel⟩
theorem cvX12_endOf : Cv yX12_endOf := ⟨Uw_of (inT5 _ (List.mem_of_getElem? (i := 184) rfl)) rfl, Uw_of (inP4 _ (List.mem_of_getElem? (i := 4) rfl)) rfl⟩
theorem ckX12_lies : Ck yX12_lies cX12_lies 9 none 1 := ⟨Uw_of (inT5 _ (List.mem_of_getElem? (i := 168) rfl)) rfl, Uw_of (inT1 _ (List.mem_of_getElem? (i := 12) rfl)) rfl, by decide, by decide, by decide +kernel⟩
theorem cvX12_lies : Cv yX12_lies := ⟨Uw_of (inT5 _ (List.mem_of_getElem? (i := 167) rfl)) rfl, Uw_of (inP4 _ (List.mem_of_getElem? (i := 0) rfl)) rfl⟩
theorem ckX12_lays : Ck yX12_lays cX12_lays 3 none 2 := ⟨Uw_of (inT5 _ (List.mem_of_getElem? (i := 210) rfl)) rfl, Uw_of (inT1 _ (List.mem_of_getElem? (i := 12) rfl)) rfl, by decide, by decide, by decide +kernel⟩
theorem cvX12_lays : Cv yX12_lays := ⟨Uw_of (inT5 _ (List.mem_of_getElem? (i := 209) rfl)) rfl, Uw_of (inP4 _ (List.mem_of_getElem? (i := 6) rfl)) rfl⟩
theorem ckX12_isString : Ck yX12_isString cX12_isString 1 (some .boolean) 1 := ⟨Uw_of (inT5 _ (List.mem_of_getElem? (i := 206) rfl)) rfl, Uw_of (inT1 _ (List.mem_of_getElem? (i := 12) rfl)) rfl, by decide, by decide, by decide +kernel⟩
theorem csX12_isString : Cond.static yX12_isString ∈ Uw := Uw_of (inT5 _ (List.mem_of_getElem? (i := 205) rfl)) rfl
theorem ckX12_called : Ck yX12_called cX12_called 9 none 3 := ⟨Uw_of (inT6 _ (List.mem_of_getElem? (i := 6) rfl)) rfl, Uw_of (inT1 _ (List.mem_of_getElem? (i := 12) rfl)) rfl, by decide, by decide, by decide +kernel⟩
theorem cvX12_called : Cv yX12_called := ⟨Uw_of (inT6 _ (List.mem_of_getElem? (i := 5) rfl)) rfl, Uw_of (inP4 _ (List.mem_of_getElem? (i := 15) rfl)) rfl⟩
theorem ckX12_put : Ck yX12_put cX12_put 3 none 2 := ⟨Uw_of (inT6 _ (List.mem_of_getElem? (i := 10) rfl)) rfl, Uw_of (inT1 _ (List.mem_of_getElem? (i := 12) rfl)) rfl, by decide, by decide, by decide +kernel⟩
theorem cvX12_put : Cv yX12_put := ⟨Uw_of (inT6 _ (List.mem_of_getElem? (i := 9) rfl)) rfl, Uw_of (inP5 _ (List.mem_of_getElem? (i := 0) rfl)) rfl⟩
theorem ckX12_prints : Ck yX12_prints cX12_prints 3 none 1 := ⟨Uw_of (inT5 _ (List.mem_of_getElem? (i := 203) rfl)) rfl, Uw_of (inT1 _ (List.mem_of_getElem? (i := 12) rfl)) rfl, by decide, by decide, by decide +kernel⟩
theorem cvX12_prints : Cv yX12_prints := ⟨Uw_of (inT5 _ (List.mem_of_getElem? (i := 202) rfl)) rfl, Uw_of (inP4 _ (List.mem_of_getElem? (i := 5) rfl)) rfl⟩
theorem ckX12_gives : Ck yX12_gives cX12_gives 2 none 1 := ⟨Uw_of (inT6 _ (List.mem_of_getElem? (i := 2) rfl)) rfl, Uw_of (inT1 _ (List.mem_of_getElem? (i := 12) rfl)) rfl, by decide, by decide, by decide +kernel⟩
theorem cvX12_gives : Cv yX12_gives := ⟨Uw_of (inT6 _ (List.mem_of_getElem? (i := 1) rfl)) rfl, Uw_of (inP4 _ (List.mem_of_getElem? (i := 14) rfl)) rfl⟩
theorem ckX12_does : Ck yX12_does cX12_does 7 none 5 := ⟨Uw_of (inT5 _ (List.mem_of_getElem? (i := 238) rfl)) rfl, Uw_of (inT1 _ (List.mem_of_getElem? (i := 12) rfl)) rfl, by decide, by decide, by decide +kernel⟩
theorem cvX12_does : Cv yX12_does := ⟨Uw_of (inT5 _ (List.mem_of_getElem? (i := 237) rfl)) rfl, Uw_of (inP4 _ (List.mem_of_getElem? (i := 13) rfl)) rfl⟩
theorem ckX12_way : Ck yX12_way cX12_way 3 (some .int) 0 := ⟨Uw_of (inT5 _ (List.mem_of_getElem? (i := 234) rfl)) rfl, Uw_of (inT1 _ (List.mem_of_getElem? (i := 12) rfl)) rfl, by decide, by decide, by decide +kernel⟩
theorem cvX12_way : Cv yX12_way := ⟨Uw_of (inT5 _ (List.mem_of_getElem? (i := 233) rfl)) rfl, Uw_of (inP4 _ (List.mem_of_getElem? (i := 12) rfl)) rfl⟩
theorem ckX12_target : Ck yX12_target cX12_target 2 (some .int) 0 := ⟨Uw_of (inT5 _ (List.mem_of_getElem? (i := 230) rfl)) rfl, Uw_of (inT1 _ (List.mem_of_getElem? (i := 12) rfl)) rfl, by decide, by decide, by decide +kernel⟩
theorem cvX12_target : Cv yX12_target := ⟨Uw_of (inT5 _ (List.mem_of_getElem? (i := 229) rfl)) rfl, Uw_of (inP4 _ (List.mem_of_getElem? (i := 11) rfl)) rfl⟩
theorem ckX12_value : Ck yX12_value cX12_value 3 (some .int) 0 := ⟨Uw_of (inT5 _ (List.mem_of_getElem? (i := 226) rfl)) rfl, Uw_of (inT1 _ (List.mem_of_getElem? (i := 12) rfl)) rfl, by decide, by decide, by decide +kernel⟩
theorem cvX12_value : Cv yX12_value := ⟨Uw_of (inT5 _ (List.mem_of_getElem? (i := 225) rfl)) rfl, Uw_of (inP4 _ (List.mem_of_getElem? (i := 10) rfl)) rfl⟩
theorem ckX12_thing : Ck yX12_thing cX12_thing 6 none 2 := ⟨Uw_of (inT6 _ (List.mem_of_getElem? (i := 18) rfl)) rfl, Uw_of (inT1 _ (List.mem_of_getElem? (i := 12) rfl)) rfl, by decide, by decide, by decide +kernel⟩
theorem cvX12_thing : Cv yX12_thing := ⟨Uw_of (inT6 _ (List.mem_of_getElem? (i := 17) rfl)) rfl, Uw_of (inP5 _ (List.mem_of_getElem? (i := 2) rfl)) rfl⟩
theorem ckX12_digits : Ck yX12_digits cX12_digits 4 (some .int) 1 := ⟨Uw_of (inT6 _ (List.mem_of_getElem? (i := 21) rfl)) rfl, Uw_of (inT1 _ (List.mem_of_getElem? (i := 12) rfl)) rfl, by decide, by decide, by decide +kernel⟩
theorem csX12_digits : Cond.static yX12_digits ∈ Uw := Uw_of (inT6 _ (List.mem_of_getElem? (i := 20) rfl)) rfl
theorem ckX12_digit : Ck yX12_digit cX12_digit 6 (some .int) 2 := ⟨Uw_of (inT6 _ (List.mem_of_getElem? (i := 25) rfl)) rfl, Uw_of (inT1 _ (List.mem_of_getElem? (i := 12) rfl)) rfl, by decide, by decide, by decide +kernel⟩
theorem csX12_digit : Cond.static yX12_digit ∈ Uw := Uw_of (inT6 _ (List.mem_of_getElem? (i := 24) rfl)) rfl
theorem ckX12_packed : Ck yX12_packed cX12_packed 5 none 1 := ⟨Uw_of (inT6 _ (List.mem_of_getElem? (i := 14) rfl)) rfl, Uw_of (inT1 _ (List.mem_of_getElem? (i := 12) rfl)) rfl, by decide, by decide, by decide +kernel⟩
theorem cvX12_packed : Cv yX12_packed := ⟨Uw_of (inT6 _ (List.mem_of_getElem? (i := 13) rfl)) rfl, Uw_of (inP5 _ (List.mem_of_getElem? (i := 1) rfl)) rfl⟩
theorem ckX12_order : Ck yX12_order cX12_order 11 none 1 := ⟨Uw_of (inT5 _ (List.mem_of_getElem? (i := 222) rfl)) rfl, Uw_of (inT1 _ (List.mem_of_getElem? (i := 12) rfl)) rfl, by decide, by decide, by decide +kernel⟩
theorem cvX12_order : Cv yX12_order := ⟨Uw_of (inT5 _ (List.mem_of_getElem? (i := 221) rfl)) rfl, Uw_of (inP4 _ (List.mem_of_getElem? (i := 9) rfl)) rfl⟩
theorem ckX12_failed : Ck yX12_failed cX12_failed 1 (some .int) 0 := ⟨Uw_of (inT6 _ (List.mem_of_getElem? (i := 29) rfl)) rfl, Uw_of (inT1 _ (List.mem_of_getElem? (i := 12) rfl)) rfl, by decide, by decide, by decide +kernel⟩
theorem cvX12_failed : Cv yX12_failed := ⟨Uw_of (inT6 _ (List.mem_of_getElem? (i := 28) rfl)) rfl, Uw_of (inP5 _ (List.mem_of_getElem? (i := 3) rfl)) rfl⟩
theorem ckX12_step : Ck yX12_step cX12_step 4 none 0 := ⟨Uw_of (inT5 _ (List.mem_of_getElem? (i := 218) rfl)) rfl, Uw_of (inT1 _ (List.mem_of_getElem? (i := 12) rfl)) rfl, by decide, by decide, by decide +kernel⟩
theorem cvX12_step : Cv yX12_step := ⟨Uw_of (inT5 _ (List.mem_of_getElem? (i := 217) rfl)) rfl, Uw_of (inP4 _ (List.mem_of_getElem? (i := 8) rfl)) rfl⟩
theorem ckX12_runs : Ck yX12_runs cX12_runs 4 (some .int) 1 := ⟨Uw_of (inT5 _ (List.mem_of_getElem? (i := 214) rfl)) rfl, Uw_of (inT1 _ (List.mem_of_getElem? (i := 12) rfl)) rfl, by decide, by decide, by decide +kernel⟩
theorem cvX12_runs : Cv yX12_runs := ⟨Uw_of (inT5 _ (List.mem_of_getElem? (i := 213) rfl)) rfl, Uw_of (inP4 _ (List.mem_of_getElem? (i := 7) rfl)) rfl⟩
theorem ckX12_signOf : Ck yX12_signOf cX12_signOf 3 (some .int) 2 := ⟨Uw_of (inT6 _ (List.mem_of_getElem? (i := 86) rfl)) rfl, Uw_of (inT1 _ (List.mem_of_getElem? (i := 12) rfl)) rfl, by decide, by decide, by decide +kernel⟩
theorem cvX12_signOf : Cv yX12_signOf := ⟨Uw_of (inT6 _ (List.mem_of_getElem? (i := 85) rfl)) rfl, Uw_of (inP5 _ (List.mem_of_getElem? (i := 5) rfl)) rfl⟩
theorem ckX12_parted : Ck yX12_parted cX12_parted 9 (some .int) 2 := ⟨Uw_of (inT6 _ (List.mem_of_getElem? (i := 82) rfl)) rfl, Uw_of (inT1 _ (List.mem_of_getElem? (i := 12) rfl)) rfl, by decide, by decide, by decide +kernel⟩
theorem cvX12_parted : Cv yX12_parted := ⟨Uw_of (inT6 _ (List.mem_of_getElem? (i := 81) rfl)) rfl, Uw_of (inP5 _ (List.mem_of_getElem? (i := 4) rfl)) rfl⟩
theorem ckX12_leaf : Ck yX12_leaf cX12_leaf 4 none 3 := ⟨Uw_of (inT6 _ (List.mem_of_getElem? (i := 98) rfl)) rfl, Uw_of (inT1 _ (List.mem_of_getElem? (i := 12) rfl)) rfl, by decide, by decide, by decide +kernel⟩
theorem cvX12_leaf : Cv yX12_leaf := ⟨Uw_of (inT6 _ (List.mem_of_getElem? (i := 97) rfl)) rfl, Uw_of (inP5 _ (List.mem_of_getElem? (i := 7) rfl)) rfl⟩
theorem ckX12_least : Ck yX12_least cX12_least 3 (some .int) 0 := ⟨Uw_of (inT6 _ (List.mem_of_getElem? (i := 106) rfl)) rfl, Uw_of (inT1 _ (List.mem_of_getElem? (i := 12) rfl)) rfl, by decide, by decide, by decide +kernel⟩
theorem cvX12_least : Cv yX12_least := ⟨Uw_of (inT6 _ (List.mem_of_getElem? (i := 105) rfl)) rfl, Uw_of (inP5 _ (List.mem_of_getElem? (i := 9) rfl)) rfl⟩
theorem ckX12_sizeOf : Ck yX12_sizeOf cX12_sizeOf 4 (some .int) 1 := ⟨Uw_of (inT6 _ (List.mem_of_getElem? (i := 102) rfl)) rfl, Uw_of (inT1 _ (List.mem_of_getElem? (i := 12) rfl)) rfl, by decide, by decide, by decide +kernel⟩
theorem cvX12_sizeOf : Cv yX12_sizeOf := ⟨Uw_of (inT6 _ (List.mem_of_getElem? (i := 101) rfl)) rfl, Uw_of (inP5 _ (List.mem_of_getElem? (i := 8) rfl)) rfl⟩
theorem ckX12_tellFour : Ck yX12_tellFour cX12_tellFour 4 none 2 := ⟨Uw_of (inT6 _ (List.mem_of_getElem? (i := 114) rfl)) rfl, Uw_of (inT1 _ (List.mem_of_getElem? (i := 12) rfl)) rfl, by decide, by decide, by decide +kernel⟩
theorem cvX12_tellFour : Cv yX12_tellFour := ⟨Uw_of (inT6 _ (List.mem_of_getElem? (i := 113) rfl)) rfl, Uw_of (inP5 _ (List.mem_of_getElem? (i := 11) rfl)) rfl⟩
theorem ckX12_join : Ck yX12_join cX12_join 4 none 0 := ⟨Uw_of (inT6 _ (List.mem_of_getElem? (i := 94) rfl)) rfl, Uw_of (inT1 _ (List.mem_of_getElem? (i := 12) rfl)) rfl, by decide, by decide, by decide +kernel⟩
theorem cvX12_join : Cv yX12_join := ⟨Uw_of (inT6 _ (List.mem_of_getElem? (i := 93) rfl)) rfl, Uw_of (inP5 _ (List.mem_of_getElem? (i := 6) rfl)) rfl⟩
theorem ckX12_places : Ck yX12_places cX12_places 3 none 1 := ⟨Uw_of (inT6 _ (List.mem_of_getElem? (i := 110) rfl)) rfl, Uw_of (inT1 _ (List.mem_of_getElem? (i := 12) rfl)) rfl, by decide, by decide, by decide +kernel⟩
theorem cvX12_places : Cv yX12_places := ⟨Uw_of (inT6 _ (List.mem_of_getElem? (i := 109) rfl)) rfl, Uw_of (inP5 _ (List.mem_of_getElem? (i := 10) rfl)) rfl⟩
theorem ckX12_way_ : Ck yX12_way_ cX12_way_ 5 none 1 := ⟨Uw_of (inT6 _ (List.mem_of_getElem? (i := 122) rfl)) rfl, Uw_of (inT1 _ (List.mem_of_getElem? (i := 12) rfl)) rfl, by decide, by decide, by decide +kernel⟩
theorem cvX12_way_ : Cv yX12_way_ := ⟨Uw_of (inT6 _ (List.mem_of_getElem? (i := 121) rfl)) rfl, Uw_of (inP5 _ (List.mem_of_getElem? (i := 13) rfl)) rfl⟩
theorem ckX12_lay : Ck yX12_lay cX12_lay 6 none 1 := ⟨Uw_of (inT6 _ (List.mem_of_getElem? (i := 118) rfl)) rfl, Uw_of (inT1 _ (List.mem_of_getElem? (i := 12) rfl)) rfl, by decide, by decide, by decide +kernel⟩
theorem cvX12_lay : Cv yX12_lay := ⟨Uw_of (inT6 _ (List.mem_of_getElem? (i := 117) rfl)) rfl, Uw_of (inP5 _ (List.mem_of_getElem? (i := 12) rfl)) rfl⟩
/-- the row of bytes 10 into the row of bytes 12: n of them, from sp to dp -/
def acOk (sp dp n : Int32) : Prop := ¬ sp < 0 ∧ ¬ dp < 0 ∧ ¬ n < 0 ∧ sp.toNatClampNeg + n.toNatClampNeg ≤ 600 ∧ dp.toNatClampNeg + n.toNatClampNeg ≤ 4096
def acSt (σ : St) (sp dp n : Int32) : St := uc σ 12 (va_cpy (σ.1 10) (σ.1 12) sp.toNatClampNeg dp.toNatClampNeg n.toNatClampNeg)
/-- what the row holds are bytes -/
def byK (σ : St) (k : Nat) : Prop := ∀ i : Nat, fits .byte (.int (σ.1 k i)) = true
def iaK (w : Wd) (k n : Nat) : Prop := k < 223 ∧ ∀ (f : Nat → Int32) (g : Nat → Int64), ev1 w f g k = .inl (w.2.2 0, n, .inl f)
section AC
variable {p : Program} {l : Launch} {e : Env} {R : Room} {s : State} {m : MethodId} {args : Array Value} {below : List Frame} {meth : Method} {c : Code} {H : Heap} {locs : List Loc} {cells slots : Nat} {Q : State → Prop}
variable {cc : ByteArray} {pc : Nat} {ls : Array Slot} {rest : List Value} {w : Wd} {σ : St} {own : String} {index : Nat} {c0 : Cond} {nL : Nat}
theorem q_ac (hx : p.tables.exec = Jvm.exec) (hb : c.code = cc) (hml : c.maxLocals = nL) (hown : s.vm.findClass own = some m.cls) (hts : ∀ w ∈ c0 :: Uw, w.before args s = true) (hK : va_K w.1 vwCl (tyW w) s) (hI : Ij 223 w) (hR : Rr 223 ev1 w σ s H locs) (hsz : ls.size = nL) (hlink : Cond.methodLink own index arraycopyName ∈ Uw) {sp dp n : Int32} (ho : acOk sp dp n) (hby : byK σ 10) (hfr : 1 ≤ R.frames) (hlo : (rest.map fun v => v.category).sum + (nativeFrameWords "java/lang/System" "arraycopy" 5 + 11) ≤ R.locals) (hdg : decode cc pc = .ok (.invokestatic index, 3))
    (kk : ∀ (H1 : Heap) (locs1 : List Loc) (σ1 : St), σ1 = acSt σ sp dp n → Rr 223 ev1 w σ1 s H1 locs1 → W p l e R s m args below meth c H1 locs1 cells slots Q (F0 m (pc + 3) ls rest)) : W p l e R s m args below meth c H locs cells slots Q (F0 m pc ls (.int n :: .int dp :: .ref (w.2.1 12) :: .int sp :: .ref (w.2.1 10) :: rest)) :=
  va_copyi hx hb (hml.trans hsz.symm) hown (hts _ (Uin hlink)) (hts _ (Uin mwAcN)) (hts _ (Uin mwAcS)) (hts _ (Uin mwAcI)) hK hR.1 (rg_D hI) hR.2 10 12 1 1 (rg_ate lt1_10 (ar1_10 _ _ _)) (rg_ate lt1_12 (ar1_12 _ _ _)) rfl rfl rfl ho.1 ho.2.1 ho.2.2.1 ho.2.2.2.1 ho.2.2.2.2 (fun i _ => hby _) hfr hlo hdg (fun H1 locs1 hP _ hS => kk H1 locs1 _ rfl ⟨by rw [rg_set (σ := σ) (σ1 := acSt σ sp dp n) (e := .inl (w.2.2 1, 4096, .inl (va_cpy (σ.1 10) (σ.1 12) sp.toNatClampNeg dp.toNatClampNeg n.toNatClampNeg))) lt1_12 (by unfold acSt; rw [uc_at]; rfl) (fun j hj => by unfold acSt; exact uc_ne hj) (fun _ _ => rfl)] at hP; exact hP, hS⟩)
end AC
