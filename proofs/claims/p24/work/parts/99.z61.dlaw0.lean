theorem dl_0 : decode code 0 = .ok (.new 7, 3) := by decide +kernel
theorem dl_3 : decode code 3 = .ok (.dup, 1) := by decide +kernel
theorem dl_4 : decode code 4 = .ok (.invokespecial 9, 3) := by decide +kernel
theorem dl_7 : decode code 7 = .ok (.astore_n 1, 1) := by decide +kernel
theorem dl_8 : decode code 8 = .ok (.new 10, 3) := by decide +kernel
theorem dl_11 : decode code 11 = .ok (.dup, 1) := by decide +kernel
theorem dl_12 : decode code 12 = .ok (.invokespecial 12, 3) := by decide +kernel
theorem dl_15 : decode code 15 = .ok (.astore_n 2, 1) := by decide +kernel
theorem dl_16 : decode code 16 = .ok (.iconst 0, 1) := by decide +kernel
theorem dl_17 : decode code 17 = .ok (.istore_n 3, 1) := by decide +kernel
theorem dl_18 : decode code 18 = .ok (.iload_n 3, 1) := by decide +kernel
theorem dl_19 : decode code 19 = .ok (.aload_n 0, 1) := by decide +kernel
theorem dl_20 : decode code 20 = .ok (.arraylength, 1) := by decide +kernel
theorem dl_21 : decode code 21 = .ok (.iconst 4, 1) := by decide +kernel
theorem dl_22 : decode code 22 = .ok (.isub, 1) := by decide +kernel
theorem dl_23 : decode code 23 = .ok (.if_icmp .gt 702, 3) := by decide +kernel
theorem dl_26 : decode code 26 = .ok (.aload_n 0, 1) := by decide +kernel
theorem dl_27 : decode code 27 = .ok (.iload_n 3, 1) := by decide +kernel
theorem dl_28 : decode code 28 = .ok (.iaload, 1) := by decide +kernel
theorem dl_29 : decode code 29 = .ok (.bipush 31, 2) := by decide +kernel
theorem dl_31 : decode code 31 = .ok (.iand, 1) := by decide +kernel
theorem dl_32 : decode code 32 = .ok (.tableswitch 687 0 22 #[108, 171, 194, 217, 240, 263, 296, 329, 362, 395, 418, 431, 444, 477, 500, 513, 536, 559, 582, 595, 618, 651, 674], 108) := by decide +kernel
theorem dl_140 : decode code 140 = .ok (.aload_n 1, 1) := by decide +kernel
theorem dl_141 : decode code 141 = .ok (.aload_n 0, 1) := by decide +kernel
theorem dl_142 : decode code 142 = .ok (.iload_n 3, 1) := by decide +kernel
theorem dl_143 : decode code 143 = .ok (.iconst 1, 1) := by decide +kernel
theorem dl_144 : decode code 144 = .ok (.iadd, 1) := by decide +kernel
theorem dl_145 : decode code 145 = .ok (.iaload, 1) := by decide +kernel
theorem dl_146 : decode code 146 = .ok (.aload_n 0, 1) := by decide +kernel
theorem dl_147 : decode code 147 = .ok (.iload_n 3, 1) := by decide +kernel
theorem dl_148 : decode code 148 = .ok (.iconst 2, 1) := by decide +kernel
theorem dl_149 : decode code 149 = .ok (.iadd, 1) := by decide +kernel
theorem dl_150 : decode code 150 = .ok (.iaload, 1) := by decide +kernel
theorem dl_151 : decode code 151 = .ok (.i2l, 1) := by decide +kernel
theorem dl_152 : decode code 152 = .ok (.bipush 32, 2) := by decide +kernel
theorem dl_154 : decode code 154 = .ok (.lshl, 1) := by decide +kernel
theorem dl_155 : decode code 155 = .ok (.aload_n 0, 1) := by decide +kernel
theorem dl_156 : decode code 156 = .ok (.iload_n 3, 1) := by decide +kernel
theorem dl_157 : decode code 157 = .ok (.iconst 3, 1) := by decide +kernel
theorem dl_158 : decode code 158 = .ok (.iadd, 1) := by decide +kernel
theorem dl_159 : decode code 159 = .ok (.iaload, 1) := by decide +kernel
theorem dl_160 : decode code 160 = .ok (.i2l, 1) := by decide +kernel
theorem dl_161 : decode code 161 = .ok (.ldc2_w 13, 3) := by decide +kernel
theorem dl_164 : decode code 164 = .ok (.land, 1) := by decide +kernel
theorem dl_165 : decode code 165 = .ok (.lor, 1) := by decide +kernel
theorem dl_166 : decode code 166 = .ok (.invokevirtual 15, 3) := by decide +kernel
theorem dl_169 : decode code 169 = .ok (.pop, 1) := by decide +kernel
theorem dl_170 : decode code 170 = .ok (.aload_n 2, 1) := by decide +kernel
theorem dl_171 : decode code 171 = .ok (.aload_n 0, 1) := by decide +kernel
theorem dl_172 : decode code 172 = .ok (.iload_n 3, 1) := by decide +kernel
theorem dl_173 : decode code 173 = .ok (.iconst 1, 1) := by decide +kernel
theorem dl_174 : decode code 174 = .ok (.iadd, 1) := by decide +kernel
