theorem dX12_job_104 : decode cX12_job 104 = .ok (.iload_n 2, 1) := by decide +kernel
theorem dX12_job_105 : decode cX12_job 105 = .ok (.i2l, 1) := by decide +kernel
theorem dX12_job_106 : decode cX12_job 106 = .ok (.ldc2_w 243, 3) := by decide +kernel
theorem dX12_job_109 : decode cX12_job 109 = .ok (.ldc2_w 182, 3) := by decide +kernel
theorem dX12_job_112 : decode cX12_job 112 = .ok (.aload_n 0, 1) := by decide +kernel
theorem dX12_job_113 : decode cX12_job 113 = .ok (.getfield 35, 3) := by decide +kernel
theorem dX12_job_116 : decode cX12_job 116 = .ok (.iload_n 1, 1) := by decide +kernel
theorem dX12_job_117 : decode cX12_job 117 = .ok (.iaload, 1) := by decide +kernel
theorem dX12_job_118 : decode cX12_job 118 = .ok (.i2l, 1) := by decide +kernel
theorem dX12_job_119 : decode cX12_job 119 = .ok (.ladd, 1) := by decide +kernel
theorem dX12_job_120 : decode cX12_job 120 = .ok (.invokestatic 131, 3) := by decide +kernel
theorem dX12_job_123 : decode cX12_job 123 = .ok (.ifCond .eq 20, 3) := by decide +kernel
theorem dX12_job_126 : decode cX12_job 126 = .ok (.aload_n 0, 1) := by decide +kernel
theorem dX12_job_127 : decode cX12_job 127 = .ok (.getfield 38, 3) := by decide +kernel
theorem dX12_job_130 : decode cX12_job 130 = .ok (.bipush 8, 2) := by decide +kernel
theorem dX12_job_132 : decode cX12_job 132 = .ok (.iload_n 1, 1) := by decide +kernel
theorem dX12_job_133 : decode cX12_job 133 = .ok (.imul, 1) := by decide +kernel
theorem dX12_job_134 : decode cX12_job 134 = .ok (.iload_n 2, 1) := by decide +kernel
theorem dX12_job_135 : decode cX12_job 135 = .ok (.iadd, 1) := by decide +kernel
theorem dX12_job_136 : decode cX12_job 136 = .ok (.bipush 10, 2) := by decide +kernel
theorem dX12_job_138 : decode cX12_job 138 = .ok (.isub, 1) := by decide +kernel
theorem dX12_job_139 : decode cX12_job 139 = .ok (.iaload, 1) := by decide +kernel
theorem dX12_job_140 : decode cX12_job 140 = .ok (.goto 4, 3) := by decide +kernel
theorem dX12_job_143 : decode cX12_job 143 = .ok (.iconst 0, 1) := by decide +kernel
theorem dX12_job_144 : decode cX12_job 144 = .ok (.ireturn, 1) := by decide +kernel
theorem dX12_at_0 : decode cX12_at 0 = .ok (.iload_n 1, 1) := by decide +kernel
theorem dX12_at_1 : decode cX12_at 1 = .ok (.i2l, 1) := by decide +kernel
theorem dX12_at_2 : decode cX12_at 2 = .ok (.lconst 0, 1) := by decide +kernel
theorem dX12_at_3 : decode cX12_at 3 = .ok (.aload_n 0, 1) := by decide +kernel
theorem dX12_at_4 : decode cX12_at 4 = .ok (.getfield 210, 3) := by decide +kernel
theorem dX12_at_7 : decode cX12_at 7 = .ok (.iconst 1, 1) := by decide +kernel
theorem dX12_at_8 : decode cX12_at 8 = .ok (.isub, 1) := by decide +kernel
theorem dX12_at_9 : decode cX12_at 9 = .ok (.i2l, 1) := by decide +kernel
theorem dX12_at_10 : decode cX12_at 10 = .ok (.invokestatic 131, 3) := by decide +kernel
theorem dX12_at_13 : decode cX12_at 13 = .ok (.ifCond .eq 12, 3) := by decide +kernel
theorem dX12_at_16 : decode cX12_at 16 = .ok (.aload_n 0, 1) := by decide +kernel
theorem dX12_at_17 : decode cX12_at 17 = .ok (.getfield 50, 3) := by decide +kernel
theorem dX12_at_20 : decode cX12_at 20 = .ok (.iload_n 1, 1) := by decide +kernel
theorem dX12_at_21 : decode cX12_at 21 = .ok (.iaload, 1) := by decide +kernel
theorem dX12_at_22 : decode cX12_at 22 = .ok (.goto 4, 3) := by decide +kernel
theorem dX12_at_25 : decode cX12_at 25 = .ok (.iconst (-1), 1) := by decide +kernel
theorem dX12_at_26 : decode cX12_at 26 = .ok (.ireturn, 1) := by decide +kernel
theorem dX12_clear_0 : decode cX12_clear 0 = .ok (.aload_n 0, 1) := by decide +kernel
theorem dX12_clear_1 : decode cX12_clear 1 = .ok (.getfield 210, 3) := by decide +kernel
theorem dX12_clear_4 : decode cX12_clear 4 = .ok (.istore_n 1, 1) := by decide +kernel
theorem dX12_clear_5 : decode cX12_clear 5 = .ok (.aload_n 0, 1) := by decide +kernel
theorem dX12_clear_6 : decode cX12_clear 6 = .ok (.iconst 0, 1) := by decide +kernel
theorem dX12_clear_7 : decode cX12_clear 7 = .ok (.putfield 210, 3) := by decide +kernel
theorem dX12_clear_10 : decode cX12_clear 10 = .ok (.iload_n 1, 1) := by decide +kernel
theorem dX12_clear_11 : decode cX12_clear 11 = .ok (.ireturn, 1) := by decide +kernel
theorem dX12_told_0 : decode cX12_told 0 = .ok (.iload_n 1, 1) := by decide +kernel
theorem dX12_told_1 : decode cX12_told 1 = .ok (.tableswitch 177 0 17 #[87, 92, 97, 102, 107, 112, 117, 122, 127, 132, 137, 142, 147, 152, 157, 162, 167, 172], 87) := by decide +kernel
theorem dX12_told_88 : decode cX12_told 88 = .ok (.aload_n 0, 1) := by decide +kernel
theorem dX12_told_89 : decode cX12_told 89 = .ok (.getfield 283, 3) := by decide +kernel
theorem dX12_told_92 : decode cX12_told 92 = .ok (.ireturn, 1) := by decide +kernel
theorem dX12_told_93 : decode cX12_told 93 = .ok (.aload_n 0, 1) := by decide +kernel
theorem dX12_told_94 : decode cX12_told 94 = .ok (.getfield 213, 3) := by decide +kernel
theorem dX12_told_97 : decode cX12_told 97 = .ok (.ireturn, 1) := by decide +kernel
theorem dX12_told_98 : decode cX12_told 98 = .ok (.aload_n 0, 1) := by decide +kernel
theorem dX12_told_99 : decode cX12_told 99 = .ok (.getfield 220, 3) := by decide +kernel
theorem dX12_told_102 : decode cX12_told 102 = .ok (.ireturn, 1) := by decide +kernel
theorem dX12_told_103 : decode cX12_told 103 = .ok (.aload_n 0, 1) := by decide +kernel
theorem dX12_told_104 : decode cX12_told 104 = .ok (.getfield 223, 3) := by decide +kernel
theorem dX12_told_107 : decode cX12_told 107 = .ok (.ireturn, 1) := by decide +kernel
theorem dX12_told_108 : decode cX12_told 108 = .ok (.aload_n 0, 1) := by decide +kernel
theorem dX12_told_109 : decode cX12_told 109 = .ok (.getfield 277, 3) := by decide +kernel
theorem dX12_told_112 : decode cX12_told 112 = .ok (.ireturn, 1) := by decide +kernel
theorem dX12_told_113 : decode cX12_told 113 = .ok (.aload_n 0, 1) := by decide +kernel
theorem dX12_told_114 : decode cX12_told 114 = .ok (.getfield 280, 3) := by decide +kernel
theorem dX12_told_117 : decode cX12_told 117 = .ok (.ireturn, 1) := by decide +kernel
theorem dX12_told_118 : decode cX12_told 118 = .ok (.aload_n 0, 1) := by decide +kernel
theorem dX12_told_119 : decode cX12_told 119 = .ok (.getfield 271, 3) := by decide +kernel
theorem dX12_told_122 : decode cX12_told 122 = .ok (.ireturn, 1) := by decide +kernel
theorem dX12_told_123 : decode cX12_told 123 = .ok (.aload_n 0, 1) := by decide +kernel
theorem dX12_told_124 : decode cX12_told 124 = .ok (.getfield 200, 3) := by decide +kernel
theorem dX12_told_127 : decode cX12_told 127 = .ok (.ireturn, 1) := by decide +kernel
theorem dX12_told_128 : decode cX12_told 128 = .ok (.aload_n 0, 1) := by decide +kernel
theorem dX12_told_129 : decode cX12_told 129 = .ok (.getfield 194, 3) := by decide +kernel
theorem dX12_told_132 : decode cX12_told 132 = .ok (.ireturn, 1) := by decide +kernel
theorem dX12_told_133 : decode cX12_told 133 = .ok (.aload_n 0, 1) := by decide +kernel
theorem dX12_told_134 : decode cX12_told 134 = .ok (.getfield 197, 3) := by decide +kernel
theorem dX12_told_137 : decode cX12_told 137 = .ok (.ireturn, 1) := by decide +kernel
theorem dX12_told_138 : decode cX12_told 138 = .ok (.aload_n 0, 1) := by decide +kernel
theorem dX12_told_139 : decode cX12_told 139 = .ok (.getfield 146, 3) := by decide +kernel
theorem dX12_told_142 : decode cX12_told 142 = .ok (.ireturn, 1) := by decide +kernel
theorem dX12_told_143 : decode cX12_told 143 = .ok (.aload_n 0, 1) := by decide +kernel
theorem dX12_told_144 : decode cX12_told 144 = .ok (.getfield 166, 3) := by decide +kernel
theorem dX12_told_147 : decode cX12_told 147 = .ok (.ireturn, 1) := by decide +kernel
theorem dX12_told_148 : decode cX12_told 148 = .ok (.aload_n 0, 1) := by decide +kernel
theorem dX12_told_149 : decode cX12_told 149 = .ok (.getfield 210, 3) := by decide +kernel
theorem dX12_told_152 : decode cX12_told 152 = .ok (.ireturn, 1) := by decide +kernel
theorem dX12_told_153 : decode cX12_told 153 = .ok (.aload_n 0, 1) := by decide +kernel
theorem dX12_told_154 : decode cX12_told 154 = .ok (.getfield 159, 3) := by decide +kernel
theorem dX12_told_157 : decode cX12_told 157 = .ok (.ireturn, 1) := by decide +kernel
theorem dX12_told_158 : decode cX12_told 158 = .ok (.aload_n 0, 1) := by decide +kernel
theorem dX12_told_159 : decode cX12_told 159 = .ok (.getfield 297, 3) := by decide +kernel
theorem dX12_told_162 : decode cX12_told 162 = .ok (.ireturn, 1) := by decide +kernel
theorem dX12_told_163 : decode cX12_told 163 = .ok (.aload_n 0, 1) := by decide +kernel
theorem dX12_told_164 : decode cX12_told 164 = .ok (.getfield 143, 3) := by decide +kernel
theorem dX12_told_167 : decode cX12_told 167 = .ok (.ireturn, 1) := by decide +kernel
theorem dX12_told_168 : decode cX12_told 168 = .ok (.aload_n 0, 1) := by decide +kernel
theorem dX12_told_169 : decode cX12_told 169 = .ok (.getfield 300, 3) := by decide +kernel
theorem dX12_told_172 : decode cX12_told 172 = .ok (.ireturn, 1) := by decide +kernel
theorem dX12_told_173 : decode cX12_told 173 = .ok (.aload_n 0, 1) := by decide +kernel
theorem dX12_told_174 : decode cX12_told 174 = .ok (.getfield 303, 3) := by decide +kernel
theorem dX12_told_177 : decode cX12_told 177 = .ok (.ireturn, 1) := by decide +kernel
theorem dX12_told_178 : decode cX12_told 178 = .ok (.bipush (-2), 2) := by decide +kernel
theorem dX12_told_180 : decode cX12_told 180 = .ok (.ireturn, 1) := by decide +kernel
theorem dX12_sign_0 : decode cX12_sign 0 = .ok (.aload_n 0, 1) := by decide +kernel
theorem dX12_sign_1 : decode cX12_sign 1 = .ok (.getfield 297, 3) := by decide +kernel
theorem dX12_sign_4 : decode cX12_sign 4 = .ok (.bipush 120, 2) := by decide +kernel
theorem dX12_sign_6 : decode cX12_sign 6 = .ok (.if_icmp .ne 6, 3) := by decide +kernel
theorem dX12_sign_9 : decode cX12_sign 9 = .ok (.bipush (-4), 2) := by decide +kernel
theorem dX12_sign_11 : decode cX12_sign 11 = .ok (.ireturn, 1) := by decide +kernel
theorem dX12_sign_12 : decode cX12_sign 12 = .ok (.aload_n 0, 1) := by decide +kernel
theorem dX12_sign_13 : decode cX12_sign 13 = .ok (.getfield 16, 3) := by decide +kernel
theorem dX12_sign_16 : decode cX12_sign 16 = .ok (.aload_n 0, 1) := by decide +kernel
theorem dX12_sign_17 : decode cX12_sign 17 = .ok (.getfield 297, 3) := by decide +kernel
theorem dX12_sign_20 : decode cX12_sign 20 = .ok (.iload_n 1, 1) := by decide +kernel
theorem dX12_sign_21 : decode cX12_sign 21 = .ok (.iastore, 1) := by decide +kernel
theorem dX12_sign_22 : decode cX12_sign 22 = .ok (.aload_n 0, 1) := by decide +kernel
theorem dX12_sign_23 : decode cX12_sign 23 = .ok (.dup, 1) := by decide +kernel
theorem dX12_sign_24 : decode cX12_sign 24 = .ok (.getfield 297, 3) := by decide +kernel
theorem dX12_sign_27 : decode cX12_sign 27 = .ok (.iconst 1, 1) := by decide +kernel
theorem dX12_sign_28 : decode cX12_sign 28 = .ok (.iadd, 1) := by decide +kernel
theorem dX12_sign_29 : decode cX12_sign 29 = .ok (.putfield 297, 3) := by decide +kernel
theorem dX12_sign_32 : decode cX12_sign 32 = .ok (.aload_n 0, 1) := by decide +kernel
theorem dX12_sign_33 : decode cX12_sign 33 = .ok (.getfield 297, 3) := by decide +kernel
theorem dX12_sign_36 : decode cX12_sign 36 = .ok (.ireturn, 1) := by decide +kernel
theorem dX12_piece_0 : decode cX12_piece 0 = .ok (.aload_n 0, 1) := by decide +kernel
theorem dX12_piece_1 : decode cX12_piece 1 = .ok (.getfield 297, 3) := by decide +kernel
theorem dX12_piece_4 : decode cX12_piece 4 = .ok (.istore_n 2, 1) := by decide +kernel
theorem dX12_piece_5 : decode cX12_piece 5 = .ok (.aload_n 0, 1) := by decide +kernel
theorem dX12_piece_6 : decode cX12_piece 6 = .ok (.iconst 0, 1) := by decide +kernel
theorem dX12_piece_7 : decode cX12_piece 7 = .ok (.putfield 297, 3) := by decide +kernel
theorem dX12_piece_10 : decode cX12_piece 10 = .ok (.iload_n 1, 1) := by decide +kernel
theorem dX12_piece_11 : decode cX12_piece 11 = .ok (.iconst 2, 1) := by decide +kernel
theorem dX12_piece_12 : decode cX12_piece 12 = .ok (.if_icmp .eq 20, 3) := by decide +kernel
theorem dX12_piece_15 : decode cX12_piece 15 = .ok (.iload_n 1, 1) := by decide +kernel
theorem dX12_piece_16 : decode cX12_piece 16 = .ok (.iconst 4, 1) := by decide +kernel
theorem dX12_piece_17 : decode cX12_piece 17 = .ok (.if_icmp .eq 15, 3) := by decide +kernel
theorem dX12_piece_20 : decode cX12_piece 20 = .ok (.iload_n 1, 1) := by decide +kernel
theorem dX12_piece_21 : decode cX12_piece 21 = .ok (.bipush 8, 2) := by decide +kernel
theorem dX12_piece_23 : decode cX12_piece 23 = .ok (.if_icmp .eq 9, 3) := by decide +kernel
theorem dX12_piece_26 : decode cX12_piece 26 = .ok (.iload_n 1, 1) := by decide +kernel
theorem dX12_piece_27 : decode cX12_piece 27 = .ok (.bipush 9, 2) := by decide +kernel
theorem dX12_piece_29 : decode cX12_piece 29 = .ok (.if_icmp .ne 16, 3) := by decide +kernel
theorem dX12_piece_32 : decode cX12_piece 32 = .ok (.iload_n 2, 1) := by decide +kernel
theorem dX12_piece_33 : decode cX12_piece 33 = .ok (.iconst 1, 1) := by decide +kernel
theorem dX12_piece_34 : decode cX12_piece 34 = .ok (.if_icmp .ne 7, 3) := by decide +kernel
theorem dX12_piece_37 : decode cX12_piece 37 = .ok (.iconst 1, 1) := by decide +kernel
theorem dX12_piece_38 : decode cX12_piece 38 = .ok (.goto 36, 3) := by decide +kernel
theorem dX12_piece_41 : decode cX12_piece 41 = .ok (.iconst 0, 1) := by decide +kernel
theorem dX12_piece_42 : decode cX12_piece 42 = .ok (.goto 32, 3) := by decide +kernel
theorem dX12_piece_45 : decode cX12_piece 45 = .ok (.iload_n 1, 1) := by decide +kernel
theorem dX12_piece_46 : decode cX12_piece 46 = .ok (.iconst 3, 1) := by decide +kernel
theorem dX12_piece_47 : decode cX12_piece 47 = .ok (.if_icmp .eq 8, 3) := by decide +kernel
theorem dX12_piece_50 : decode cX12_piece 50 = .ok (.iload_n 1, 1) := by decide +kernel
theorem dX12_piece_51 : decode cX12_piece 51 = .ok (.iconst 5, 1) := by decide +kernel
theorem dX12_piece_52 : decode cX12_piece 52 = .ok (.if_icmp .ne 21, 3) := by decide +kernel
theorem dX12_piece_55 : decode cX12_piece 55 = .ok (.iload_n 2, 1) := by decide +kernel
theorem dX12_piece_56 : decode cX12_piece 56 = .ok (.i2l, 1) := by decide +kernel
theorem dX12_piece_57 : decode cX12_piece 57 = .ok (.ldc2_w 192, 3) := by decide +kernel
theorem dX12_piece_60 : decode cX12_piece 60 = .ok (.ldc2_w 306, 3) := by decide +kernel
theorem dX12_piece_63 : decode cX12_piece 63 = .ok (.invokestatic 131, 3) := by decide +kernel
theorem dX12_piece_66 : decode cX12_piece 66 = .ok (.ifCond .eq 7, 3) := by decide +kernel
theorem dX12_piece_69 : decode cX12_piece 69 = .ok (.iconst 1, 1) := by decide +kernel
theorem dX12_piece_70 : decode cX12_piece 70 = .ok (.goto 4, 3) := by decide +kernel
theorem dX12_piece_73 : decode cX12_piece 73 = .ok (.iconst 0, 1) := by decide +kernel
theorem dX12_piece_74 : decode cX12_piece 74 = .ok (.istore_n 3, 1) := by decide +kernel
theorem dX12_piece_75 : decode cX12_piece 75 = .ok (.iconst 0, 1) := by decide +kernel
theorem dX12_piece_76 : decode cX12_piece 76 = .ok (.istore 4, 2) := by decide +kernel
theorem dX12_piece_78 : decode cX12_piece 78 = .ok (.iload 4, 2) := by decide +kernel
theorem dX12_piece_80 : decode cX12_piece 80 = .ok (.iload_n 2, 1) := by decide +kernel
theorem dX12_piece_81 : decode cX12_piece 81 = .ok (.if_icmp .ge 60, 3) := by decide +kernel
theorem dX12_piece_84 : decode cX12_piece 84 = .ok (.iload_n 3, 1) := by decide +kernel
theorem dX12_piece_85 : decode cX12_piece 85 = .ok (.ifCond .eq 48, 3) := by decide +kernel
theorem dX12_piece_88 : decode cX12_piece 88 = .ok (.iload_n 1, 1) := by decide +kernel
theorem dX12_piece_89 : decode cX12_piece 89 = .ok (.iconst 3, 1) := by decide +kernel
theorem dX12_piece_90 : decode cX12_piece 90 = .ok (.if_icmp .gt 24, 3) := by decide +kernel
theorem dX12_piece_93 : decode cX12_piece 93 = .ok (.aload_n 0, 1) := by decide +kernel
theorem dX12_piece_94 : decode cX12_piece 94 = .ok (.getfield 16, 3) := by decide +kernel
theorem dX12_piece_97 : decode cX12_piece 97 = .ok (.iload 4, 2) := by decide +kernel
theorem dX12_piece_99 : decode cX12_piece 99 = .ok (.iaload, 1) := by decide +kernel
theorem dX12_piece_100 : decode cX12_piece 100 = .ok (.i2l, 1) := by decide +kernel
theorem dX12_piece_101 : decode cX12_piece 101 = .ok (.lconst 1, 1) := by decide +kernel
theorem dX12_piece_102 : decode cX12_piece 102 = .ok (.ldc2_w 162, 3) := by decide +kernel
theorem dX12_piece_105 : decode cX12_piece 105 = .ok (.invokestatic 131, 3) := by decide +kernel
theorem dX12_piece_108 : decode cX12_piece 108 = .ok (.ifCond .eq 25, 3) := by decide +kernel
theorem dX12_piece_111 : decode cX12_piece 111 = .ok (.goto 18, 3) := by decide +kernel
theorem dX12_piece_114 : decode cX12_piece 114 = .ok (.iload_n 1, 1) := by decide +kernel
theorem dX12_piece_115 : decode cX12_piece 115 = .ok (.iconst 5, 1) := by decide +kernel
theorem dX12_piece_116 : decode cX12_piece 116 = .ok (.if_icmp .gt 13, 3) := by decide +kernel
theorem dX12_piece_119 : decode cX12_piece 119 = .ok (.aload_n 0, 1) := by decide +kernel
theorem dX12_piece_120 : decode cX12_piece 120 = .ok (.getfield 16, 3) := by decide +kernel
theorem dX12_piece_123 : decode cX12_piece 123 = .ok (.iload 4, 2) := by decide +kernel
theorem dX12_piece_125 : decode cX12_piece 125 = .ok (.iaload, 1) := by decide +kernel
theorem dX12_piece_126 : decode cX12_piece 126 = .ok (.ifCond .eq 7, 3) := by decide +kernel
theorem dX12_piece_129 : decode cX12_piece 129 = .ok (.iconst 1, 1) := by decide +kernel
theorem dX12_piece_130 : decode cX12_piece 130 = .ok (.goto 4, 3) := by decide +kernel
theorem dX12_piece_133 : decode cX12_piece 133 = .ok (.iconst 0, 1) := by decide +kernel
theorem dX12_piece_134 : decode cX12_piece 134 = .ok (.istore_n 3, 1) := by decide +kernel
theorem dX12_piece_135 : decode cX12_piece 135 = .ok (.iinc 4 1, 3) := by decide +kernel
theorem dX12_piece_138 : decode cX12_piece 138 = .ok (.goto (-60), 3) := by decide +kernel
theorem dX12_piece_141 : decode cX12_piece 141 = .ok (.iload_n 3, 1) := by decide +kernel
theorem dX12_piece_142 : decode cX12_piece 142 = .ok (.ifCond .ne 6, 3) := by decide +kernel
theorem dX12_piece_145 : decode cX12_piece 145 = .ok (.bipush (-2), 2) := by decide +kernel
theorem dX12_piece_147 : decode cX12_piece 147 = .ok (.ireturn, 1) := by decide +kernel
theorem dX12_piece_148 : decode cX12_piece 148 = .ok (.aload_n 0, 1) := by decide +kernel
theorem dX12_piece_149 : decode cX12_piece 149 = .ok (.getfield 300, 3) := by decide +kernel
theorem dX12_piece_152 : decode cX12_piece 152 = .ok (.bipush 60, 2) := by decide +kernel
theorem dX12_piece_154 : decode cX12_piece 154 = .ok (.if_icmp .ne 6, 3) := by decide +kernel
theorem dX12_piece_157 : decode cX12_piece 157 = .ok (.bipush (-4), 2) := by decide +kernel
theorem dX12_piece_159 : decode cX12_piece 159 = .ok (.ireturn, 1) := by decide +kernel
theorem dX12_piece_160 : decode cX12_piece 160 = .ok (.aload_n 0, 1) := by decide +kernel
theorem dX12_piece_161 : decode cX12_piece 161 = .ok (.getfield 56, 3) := by decide +kernel
theorem dX12_piece_164 : decode cX12_piece 164 = .ok (.aload_n 0, 1) := by decide +kernel
theorem dX12_piece_165 : decode cX12_piece 165 = .ok (.getfield 300, 3) := by decide +kernel
theorem dX12_piece_168 : decode cX12_piece 168 = .ok (.iload_n 1, 1) := by decide +kernel
theorem dX12_piece_169 : decode cX12_piece 169 = .ok (.iastore, 1) := by decide +kernel
theorem dX12_piece_170 : decode cX12_piece 170 = .ok (.aload_n 0, 1) := by decide +kernel
theorem dX12_piece_171 : decode cX12_piece 171 = .ok (.getfield 62, 3) := by decide +kernel
theorem dX12_piece_174 : decode cX12_piece 174 = .ok (.aload_n 0, 1) := by decide +kernel
theorem dX12_piece_175 : decode cX12_piece 175 = .ok (.getfield 300, 3) := by decide +kernel
theorem dX12_piece_178 : decode cX12_piece 178 = .ok (.iload_n 2, 1) := by decide +kernel
theorem dX12_piece_179 : decode cX12_piece 179 = .ok (.iastore, 1) := by decide +kernel
theorem dX12_piece_180 : decode cX12_piece 180 = .ok (.aload_n 0, 1) := by decide +kernel
theorem dX12_piece_181 : decode cX12_piece 181 = .ok (.getfield 65, 3) := by decide +kernel
theorem dX12_piece_184 : decode cX12_piece 184 = .ok (.aload_n 0, 1) := by decide +kernel
theorem dX12_piece_185 : decode cX12_piece 185 = .ok (.getfield 300, 3) := by decide +kernel
theorem dX12_piece_188 : decode cX12_piece 188 = .ok (.iconst (-1), 1) := by decide +kernel
theorem dX12_piece_189 : decode cX12_piece 189 = .ok (.iastore, 1) := by decide +kernel
theorem dX12_piece_190 : decode cX12_piece 190 = .ok (.iconst 0, 1) := by decide +kernel
theorem dX12_piece_191 : decode cX12_piece 191 = .ok (.istore 4, 2) := by decide +kernel
theorem dX12_piece_193 : decode cX12_piece 193 = .ok (.iload 4, 2) := by decide +kernel
theorem dX12_piece_195 : decode cX12_piece 195 = .ok (.iload_n 2, 1) := by decide +kernel
theorem dX12_piece_196 : decode cX12_piece 196 = .ok (.if_icmp .ge 31, 3) := by decide +kernel
theorem dX12_piece_199 : decode cX12_piece 199 = .ok (.aload_n 0, 1) := by decide +kernel
theorem dX12_piece_200 : decode cX12_piece 200 = .ok (.getfield 59, 3) := by decide +kernel
theorem dX12_piece_203 : decode cX12_piece 203 = .ok (.bipush 20, 2) := by decide +kernel
theorem dX12_piece_205 : decode cX12_piece 205 = .ok (.aload_n 0, 1) := by decide +kernel
theorem dX12_piece_206 : decode cX12_piece 206 = .ok (.getfield 300, 3) := by decide +kernel
theorem dX12_piece_209 : decode cX12_piece 209 = .ok (.imul, 1) := by decide +kernel
theorem dX12_piece_210 : decode cX12_piece 210 = .ok (.iload 4, 2) := by decide +kernel
theorem dX12_piece_212 : decode cX12_piece 212 = .ok (.iadd, 1) := by decide +kernel
theorem dX12_piece_213 : decode cX12_piece 213 = .ok (.aload_n 0, 1) := by decide +kernel
theorem dX12_piece_214 : decode cX12_piece 214 = .ok (.getfield 16, 3) := by decide +kernel
theorem dX12_piece_217 : decode cX12_piece 217 = .ok (.iload 4, 2) := by decide +kernel
theorem dX12_piece_219 : decode cX12_piece 219 = .ok (.iaload, 1) := by decide +kernel
theorem dX12_piece_220 : decode cX12_piece 220 = .ok (.iastore, 1) := by decide +kernel
theorem dX12_piece_221 : decode cX12_piece 221 = .ok (.iinc 4 1, 3) := by decide +kernel
theorem dX12_piece_224 : decode cX12_piece 224 = .ok (.goto (-31), 3) := by decide +kernel
theorem dX12_piece_227 : decode cX12_piece 227 = .ok (.aload_n 0, 1) := by decide +kernel
theorem dX12_piece_228 : decode cX12_piece 228 = .ok (.dup, 1) := by decide +kernel
theorem dX12_piece_229 : decode cX12_piece 229 = .ok (.getfield 300, 3) := by decide +kernel
theorem dX12_piece_232 : decode cX12_piece 232 = .ok (.iconst 1, 1) := by decide +kernel
theorem dX12_piece_233 : decode cX12_piece 233 = .ok (.iadd, 1) := by decide +kernel
theorem dX12_piece_234 : decode cX12_piece 234 = .ok (.putfield 300, 3) := by decide +kernel
theorem dX12_piece_237 : decode cX12_piece 237 = .ok (.aload_n 0, 1) := by decide +kernel
theorem dX12_piece_238 : decode cX12_piece 238 = .ok (.getfield 300, 3) := by decide +kernel
theorem dX12_piece_241 : decode cX12_piece 241 = .ok (.iconst 1, 1) := by decide +kernel
theorem dX12_piece_242 : decode cX12_piece 242 = .ok (.isub, 1) := by decide +kernel
theorem dX12_piece_243 : decode cX12_piece 243 = .ok (.ireturn, 1) := by decide +kernel
theorem dX12_signOf_0 : decode cX12_signOf 0 = .ok (.aload_n 0, 1) := by decide +kernel
theorem dX12_signOf_1 : decode cX12_signOf 1 = .ok (.getfield 56, 3) := by decide +kernel
theorem dX12_signOf_4 : decode cX12_signOf 4 = .ok (.iload_n 1, 1) := by decide +kernel
theorem dX12_signOf_5 : decode cX12_signOf 5 = .ok (.iaload, 1) := by decide +kernel
theorem dX12_signOf_6 : decode cX12_signOf 6 = .ok (.bipush 8, 2) := by decide +kernel
theorem dX12_signOf_8 : decode cX12_signOf 8 = .ok (.if_icmp .lt 11, 3) := by decide +kernel
theorem dX12_signOf_11 : decode cX12_signOf 11 = .ok (.sipush (-1000), 3) := by decide +kernel
theorem dX12_signOf_14 : decode cX12_signOf 14 = .ok (.iload_n 1, 1) := by decide +kernel
theorem dX12_signOf_15 : decode cX12_signOf 15 = .ok (.isub, 1) := by decide +kernel
theorem dX12_signOf_16 : decode cX12_signOf 16 = .ok (.goto 14, 3) := by decide +kernel
theorem dX12_signOf_19 : decode cX12_signOf 19 = .ok (.aload_n 0, 1) := by decide +kernel
theorem dX12_signOf_20 : decode cX12_signOf 20 = .ok (.getfield 59, 3) := by decide +kernel
theorem dX12_signOf_23 : decode cX12_signOf 23 = .ok (.bipush 20, 2) := by decide +kernel
theorem dX12_signOf_25 : decode cX12_signOf 25 = .ok (.iload_n 1, 1) := by decide +kernel
theorem dX12_signOf_26 : decode cX12_signOf 26 = .ok (.imul, 1) := by decide +kernel
theorem dX12_signOf_27 : decode cX12_signOf 27 = .ok (.iload_n 2, 1) := by decide +kernel
theorem dX12_signOf_28 : decode cX12_signOf 28 = .ok (.iadd, 1) := by decide +kernel
theorem dX12_signOf_29 : decode cX12_signOf 29 = .ok (.iaload, 1) := by decide +kernel
theorem dX12_signOf_30 : decode cX12_signOf 30 = .ok (.ireturn, 1) := by decide +kernel
theorem dX12_parted_0 : decode cX12_parted 0 = .ok (.aload_n 0, 1) := by decide +kernel
theorem dX12_parted_1 : decode cX12_parted 1 = .ok (.getfield 84, 3) := by decide +kernel
theorem dX12_parted_4 : decode cX12_parted 4 = .ok (.iload_n 2, 1) := by decide +kernel
theorem dX12_parted_5 : decode cX12_parted 5 = .ok (.iconst 0, 1) := by decide +kernel
theorem dX12_parted_6 : decode cX12_parted 6 = .ok (.iastore, 1) := by decide +kernel
theorem dX12_parted_7 : decode cX12_parted 7 = .ok (.iload_n 2, 1) := by decide +kernel
theorem dX12_parted_8 : decode cX12_parted 8 = .ok (.iconst 1, 1) := by decide +kernel
theorem dX12_parted_9 : decode cX12_parted 9 = .ok (.isub, 1) := by decide +kernel
theorem dX12_parted_10 : decode cX12_parted 10 = .ok (.istore_n 3, 1) := by decide +kernel
theorem dX12_parted_11 : decode cX12_parted 11 = .ok (.iload_n 3, 1) := by decide +kernel
theorem dX12_parted_12 : decode cX12_parted 12 = .ok (.ifCond .lt 220, 3) := by decide +kernel
theorem dX12_parted_15 : decode cX12_parted 15 = .ok (.aload_n 0, 1) := by decide +kernel
theorem dX12_parted_16 : decode cX12_parted 16 = .ok (.getfield 84, 3) := by decide +kernel
theorem dX12_parted_19 : decode cX12_parted 19 = .ok (.iload_n 3, 1) := by decide +kernel
theorem dX12_parted_20 : decode cX12_parted 20 = .ok (.sipush 1000, 3) := by decide +kernel
theorem dX12_parted_23 : decode cX12_parted 23 = .ok (.iastore, 1) := by decide +kernel
theorem dX12_parted_24 : decode cX12_parted 24 = .ok (.iconst 0, 1) := by decide +kernel
theorem dX12_parted_25 : decode cX12_parted 25 = .ok (.istore 4, 2) := by decide +kernel
theorem dX12_parted_27 : decode cX12_parted 27 = .ok (.iload 4, 2) := by decide +kernel
theorem dX12_parted_29 : decode cX12_parted 29 = .ok (.aload_n 0, 1) := by decide +kernel
theorem dX12_parted_30 : decode cX12_parted 30 = .ok (.getfield 300, 3) := by decide +kernel
theorem dX12_parted_33 : decode cX12_parted 33 = .ok (.if_icmp .ge 193, 3) := by decide +kernel
theorem dX12_parted_36 : decode cX12_parted 36 = .ok (.aload_n 0, 1) := by decide +kernel
theorem dX12_parted_37 : decode cX12_parted 37 = .ok (.getfield 62, 3) := by decide +kernel
theorem dX12_parted_40 : decode cX12_parted 40 = .ok (.iload 4, 2) := by decide +kernel
theorem dX12_parted_42 : decode cX12_parted 42 = .ok (.iaload, 1) := by decide +kernel
theorem dX12_parted_43 : decode cX12_parted 43 = .ok (.istore 5, 2) := by decide +kernel
theorem dX12_parted_45 : decode cX12_parted 45 = .ok (.iload_n 3, 1) := by decide +kernel
theorem dX12_parted_46 : decode cX12_parted 46 = .ok (.iload 5, 2) := by decide +kernel
theorem dX12_parted_48 : decode cX12_parted 48 = .ok (.iadd, 1) := by decide +kernel
theorem dX12_parted_49 : decode cX12_parted 49 = .ok (.iload_n 2, 1) := by decide +kernel
theorem dX12_parted_50 : decode cX12_parted 50 = .ok (.if_icmp .gt 22, 3) := by decide +kernel
theorem dX12_parted_53 : decode cX12_parted 53 = .ok (.aload_n 0, 1) := by decide +kernel
theorem dX12_parted_54 : decode cX12_parted 54 = .ok (.getfield 84, 3) := by decide +kernel
theorem dX12_parted_57 : decode cX12_parted 57 = .ok (.iload_n 3, 1) := by decide +kernel
theorem dX12_parted_58 : decode cX12_parted 58 = .ok (.iload 5, 2) := by decide +kernel
theorem dX12_parted_60 : decode cX12_parted 60 = .ok (.iadd, 1) := by decide +kernel
theorem dX12_parted_61 : decode cX12_parted 61 = .ok (.iaload, 1) := by decide +kernel
theorem dX12_parted_62 : decode cX12_parted 62 = .ok (.sipush 1000, 3) := by decide +kernel
theorem dX12_parted_65 : decode cX12_parted 65 = .ok (.if_icmp .ge 7, 3) := by decide +kernel
theorem dX12_parted_68 : decode cX12_parted 68 = .ok (.iconst 1, 1) := by decide +kernel
theorem dX12_parted_69 : decode cX12_parted 69 = .ok (.goto 4, 3) := by decide +kernel
theorem dX12_parted_72 : decode cX12_parted 72 = .ok (.iconst 0, 1) := by decide +kernel
theorem dX12_parted_73 : decode cX12_parted 73 = .ok (.istore 6, 2) := by decide +kernel
theorem dX12_parted_75 : decode cX12_parted 75 = .ok (.iconst 0, 1) := by decide +kernel
theorem dX12_parted_76 : decode cX12_parted 76 = .ok (.istore 7, 2) := by decide +kernel
theorem dX12_parted_78 : decode cX12_parted 78 = .ok (.iload 7, 2) := by decide +kernel
theorem dX12_parted_80 : decode cX12_parted 80 = .ok (.iload 5, 2) := by decide +kernel
theorem dX12_parted_82 : decode cX12_parted 82 = .ok (.if_icmp .ge 66, 3) := by decide +kernel
theorem dX12_parted_85 : decode cX12_parted 85 = .ok (.iload 6, 2) := by decide +kernel
theorem dX12_parted_87 : decode cX12_parted 87 = .ok (.ifCond .eq 61, 3) := by decide +kernel
theorem dX12_parted_90 : decode cX12_parted 90 = .ok (.iload_n 1, 1) := by decide +kernel
theorem dX12_parted_91 : decode cX12_parted 91 = .ok (.ifCond .ge 15, 3) := by decide +kernel
theorem dX12_parted_94 : decode cX12_parted 94 = .ok (.aload_n 0, 1) := by decide +kernel
theorem dX12_parted_95 : decode cX12_parted 95 = .ok (.getfield 16, 3) := by decide +kernel
theorem dX12_parted_98 : decode cX12_parted 98 = .ok (.iload_n 3, 1) := by decide +kernel
theorem dX12_parted_99 : decode cX12_parted 99 = .ok (.iload 7, 2) := by decide +kernel
theorem dX12_parted_101 : decode cX12_parted 101 = .ok (.iadd, 1) := by decide +kernel
theorem dX12_parted_102 : decode cX12_parted 102 = .ok (.iaload, 1) := by decide +kernel
theorem dX12_parted_103 : decode cX12_parted 103 = .ok (.goto 17, 3) := by decide +kernel
theorem dX12_parted_106 : decode cX12_parted 106 = .ok (.aload_n 0, 1) := by decide +kernel
theorem dX12_parted_107 : decode cX12_parted 107 = .ok (.getfield 68, 3) := by decide +kernel
theorem dX12_parted_110 : decode cX12_parted 110 = .ok (.bipush 120, 2) := by decide +kernel
theorem dX12_parted_112 : decode cX12_parted 112 = .ok (.iload_n 1, 1) := by decide +kernel
theorem dX12_parted_113 : decode cX12_parted 113 = .ok (.imul, 1) := by decide +kernel
theorem dX12_parted_114 : decode cX12_parted 114 = .ok (.iload_n 3, 1) := by decide +kernel
theorem dX12_parted_115 : decode cX12_parted 115 = .ok (.iadd, 1) := by decide +kernel
theorem dX12_parted_116 : decode cX12_parted 116 = .ok (.iload 7, 2) := by decide +kernel
theorem dX12_parted_118 : decode cX12_parted 118 = .ok (.iadd, 1) := by decide +kernel
theorem dX12_parted_119 : decode cX12_parted 119 = .ok (.iaload, 1) := by decide +kernel
theorem dX12_parted_120 : decode cX12_parted 120 = .ok (.istore 8, 2) := by decide +kernel
theorem dX12_parted_122 : decode cX12_parted 122 = .ok (.aload_n 0, 1) := by decide +kernel
theorem dX12_parted_123 : decode cX12_parted 123 = .ok (.iload 4, 2) := by decide +kernel
theorem dX12_parted_125 : decode cX12_parted 125 = .ok (.iload 7, 2) := by decide +kernel
theorem dX12_parted_127 : decode cX12_parted 127 = .ok (.invokevirtual 308, 3) := by decide +kernel
theorem dX12_parted_130 : decode cX12_parted 130 = .ok (.iload 8, 2) := by decide +kernel
theorem dX12_parted_132 : decode cX12_parted 132 = .ok (.if_icmp .ne 7, 3) := by decide +kernel
theorem dX12_parted_135 : decode cX12_parted 135 = .ok (.iconst 1, 1) := by decide +kernel
theorem dX12_parted_136 : decode cX12_parted 136 = .ok (.goto 4, 3) := by decide +kernel
theorem dX12_parted_139 : decode cX12_parted 139 = .ok (.iconst 0, 1) := by decide +kernel
theorem dX12_parted_140 : decode cX12_parted 140 = .ok (.istore 6, 2) := by decide +kernel
theorem dX12_parted_142 : decode cX12_parted 142 = .ok (.iinc 7 1, 3) := by decide +kernel
theorem dX12_parted_145 : decode cX12_parted 145 = .ok (.goto (-67), 3) := by decide +kernel
theorem dX12_parted_148 : decode cX12_parted 148 = .ok (.iload 6, 2) := by decide +kernel
theorem dX12_parted_150 : decode cX12_parted 150 = .ok (.ifCond .eq 70, 3) := by decide +kernel
theorem dX12_parted_153 : decode cX12_parted 153 = .ok (.aload_n 0, 1) := by decide +kernel
theorem dX12_parted_154 : decode cX12_parted 154 = .ok (.getfield 84, 3) := by decide +kernel
theorem dX12_parted_157 : decode cX12_parted 157 = .ok (.iload_n 3, 1) := by decide +kernel
theorem dX12_parted_158 : decode cX12_parted 158 = .ok (.iload 5, 2) := by decide +kernel
theorem dX12_parted_160 : decode cX12_parted 160 = .ok (.iadd, 1) := by decide +kernel
theorem dX12_parted_161 : decode cX12_parted 161 = .ok (.iaload, 1) := by decide +kernel
theorem dX12_parted_162 : decode cX12_parted 162 = .ok (.iconst 1, 1) := by decide +kernel
theorem dX12_parted_163 : decode cX12_parted 163 = .ok (.iadd, 1) := by decide +kernel
theorem dX12_parted_164 : decode cX12_parted 164 = .ok (.istore 7, 2) := by decide +kernel
theorem dX12_parted_166 : decode cX12_parted 166 = .ok (.iload 7, 2) := by decide +kernel
theorem dX12_parted_168 : decode cX12_parted 168 = .ok (.aload_n 0, 1) := by decide +kernel
theorem dX12_parted_169 : decode cX12_parted 169 = .ok (.getfield 84, 3) := by decide +kernel
theorem dX12_parted_172 : decode cX12_parted 172 = .ok (.iload_n 3, 1) := by decide +kernel
theorem dX12_parted_173 : decode cX12_parted 173 = .ok (.iaload, 1) := by decide +kernel
theorem dX12_parted_174 : decode cX12_parted 174 = .ok (.if_icmp .lt 30, 3) := by decide +kernel
theorem dX12_parted_177 : decode cX12_parted 177 = .ok (.iload 7, 2) := by decide +kernel
theorem dX12_parted_179 : decode cX12_parted 179 = .ok (.aload_n 0, 1) := by decide +kernel
theorem dX12_parted_180 : decode cX12_parted 180 = .ok (.getfield 84, 3) := by decide +kernel
theorem dX12_parted_183 : decode cX12_parted 183 = .ok (.iload_n 3, 1) := by decide +kernel
theorem dX12_parted_184 : decode cX12_parted 184 = .ok (.iaload, 1) := by decide +kernel
theorem dX12_parted_185 : decode cX12_parted 185 = .ok (.if_icmp .ne 35, 3) := by decide +kernel
theorem dX12_parted_188 : decode cX12_parted 188 = .ok (.iload 5, 2) := by decide +kernel
theorem dX12_parted_190 : decode cX12_parted 190 = .ok (.aload_n 0, 1) := by decide +kernel
theorem dX12_parted_191 : decode cX12_parted 191 = .ok (.getfield 62, 3) := by decide +kernel
theorem dX12_parted_194 : decode cX12_parted 194 = .ok (.aload_n 0, 1) := by decide +kernel
theorem dX12_parted_195 : decode cX12_parted 195 = .ok (.getfield 87, 3) := by decide +kernel
theorem dX12_parted_198 : decode cX12_parted 198 = .ok (.iload_n 3, 1) := by decide +kernel
theorem dX12_parted_199 : decode cX12_parted 199 = .ok (.iaload, 1) := by decide +kernel
theorem dX12_parted_200 : decode cX12_parted 200 = .ok (.iaload, 1) := by decide +kernel
theorem dX12_parted_201 : decode cX12_parted 201 = .ok (.if_icmp .le 19, 3) := by decide +kernel
theorem dX12_parted_204 : decode cX12_parted 204 = .ok (.aload_n 0, 1) := by decide +kernel
theorem dX12_parted_205 : decode cX12_parted 205 = .ok (.getfield 84, 3) := by decide +kernel
theorem dX12_parted_208 : decode cX12_parted 208 = .ok (.iload_n 3, 1) := by decide +kernel
theorem dX12_parted_209 : decode cX12_parted 209 = .ok (.iload 7, 2) := by decide +kernel
theorem dX12_parted_211 : decode cX12_parted 211 = .ok (.iastore, 1) := by decide +kernel
theorem dX12_parted_212 : decode cX12_parted 212 = .ok (.aload_n 0, 1) := by decide +kernel
theorem dX12_parted_213 : decode cX12_parted 213 = .ok (.getfield 87, 3) := by decide +kernel
theorem dX12_parted_216 : decode cX12_parted 216 = .ok (.iload_n 3, 1) := by decide +kernel
theorem dX12_parted_217 : decode cX12_parted 217 = .ok (.iload 4, 2) := by decide +kernel
theorem dX12_parted_219 : decode cX12_parted 219 = .ok (.iastore, 1) := by decide +kernel
theorem dX12_parted_220 : decode cX12_parted 220 = .ok (.iinc 4 1, 3) := by decide +kernel
theorem dX12_parted_223 : decode cX12_parted 223 = .ok (.goto (-196), 3) := by decide +kernel
theorem dX12_parted_226 : decode cX12_parted 226 = .ok (.iinc 3 (-1), 3) := by decide +kernel
theorem dX12_parted_229 : decode cX12_parted 229 = .ok (.goto (-218), 3) := by decide +kernel
theorem dX12_parted_232 : decode cX12_parted 232 = .ok (.aload_n 0, 1) := by decide +kernel
theorem dX12_parted_233 : decode cX12_parted 233 = .ok (.getfield 84, 3) := by decide +kernel
theorem dX12_parted_236 : decode cX12_parted 236 = .ok (.iconst 0, 1) := by decide +kernel
theorem dX12_parted_237 : decode cX12_parted 237 = .ok (.iaload, 1) := by decide +kernel
theorem dX12_parted_238 : decode cX12_parted 238 = .ok (.sipush 1000, 3) := by decide +kernel
theorem dX12_parted_241 : decode cX12_parted 241 = .ok (.if_icmp .ne 5, 3) := by decide +kernel
theorem dX12_parted_244 : decode cX12_parted 244 = .ok (.iconst (-1), 1) := by decide +kernel
theorem dX12_parted_245 : decode cX12_parted 245 = .ok (.ireturn, 1) := by decide +kernel
theorem dX12_parted_246 : decode cX12_parted 246 = .ok (.iconst 0, 1) := by decide +kernel
theorem dX12_parted_247 : decode cX12_parted 247 = .ok (.istore_n 3, 1) := by decide +kernel
theorem dX12_parted_248 : decode cX12_parted 248 = .ok (.iconst 0, 1) := by decide +kernel
theorem dX12_parted_249 : decode cX12_parted 249 = .ok (.istore 4, 2) := by decide +kernel
theorem dX12_parted_251 : decode cX12_parted 251 = .ok (.iload 4, 2) := by decide +kernel
theorem dX12_parted_253 : decode cX12_parted 253 = .ok (.aload_n 0, 1) := by decide +kernel
theorem dX12_parted_254 : decode cX12_parted 254 = .ok (.getfield 84, 3) := by decide +kernel
theorem dX12_parted_257 : decode cX12_parted 257 = .ok (.iconst 0, 1) := by decide +kernel
theorem dX12_parted_258 : decode cX12_parted 258 = .ok (.iaload, 1) := by decide +kernel
theorem dX12_parted_259 : decode cX12_parted 259 = .ok (.if_icmp .ge 36, 3) := by decide +kernel
theorem dX12_parted_262 : decode cX12_parted 262 = .ok (.aload_n 0, 1) := by decide +kernel
theorem dX12_parted_263 : decode cX12_parted 263 = .ok (.getfield 90, 3) := by decide +kernel
theorem dX12_parted_266 : decode cX12_parted 266 = .ok (.iload 4, 2) := by decide +kernel
theorem dX12_parted_268 : decode cX12_parted 268 = .ok (.aload_n 0, 1) := by decide +kernel
theorem dX12_parted_269 : decode cX12_parted 269 = .ok (.getfield 87, 3) := by decide +kernel
theorem dX12_parted_272 : decode cX12_parted 272 = .ok (.iload_n 3, 1) := by decide +kernel
theorem dX12_parted_273 : decode cX12_parted 273 = .ok (.iaload, 1) := by decide +kernel
theorem dX12_parted_274 : decode cX12_parted 274 = .ok (.iastore, 1) := by decide +kernel
theorem dX12_parted_275 : decode cX12_parted 275 = .ok (.iload_n 3, 1) := by decide +kernel
theorem dX12_parted_276 : decode cX12_parted 276 = .ok (.aload_n 0, 1) := by decide +kernel
theorem dX12_parted_277 : decode cX12_parted 277 = .ok (.getfield 62, 3) := by decide +kernel
theorem dX12_parted_280 : decode cX12_parted 280 = .ok (.aload_n 0, 1) := by decide +kernel
theorem dX12_parted_281 : decode cX12_parted 281 = .ok (.getfield 87, 3) := by decide +kernel
theorem dX12_parted_284 : decode cX12_parted 284 = .ok (.iload_n 3, 1) := by decide +kernel
theorem dX12_parted_285 : decode cX12_parted 285 = .ok (.iaload, 1) := by decide +kernel
theorem dX12_parted_286 : decode cX12_parted 286 = .ok (.iaload, 1) := by decide +kernel
theorem dX12_parted_287 : decode cX12_parted 287 = .ok (.iadd, 1) := by decide +kernel
theorem dX12_parted_288 : decode cX12_parted 288 = .ok (.istore_n 3, 1) := by decide +kernel
theorem dX12_parted_289 : decode cX12_parted 289 = .ok (.iinc 4 1, 3) := by decide +kernel
theorem dX12_parted_292 : decode cX12_parted 292 = .ok (.goto (-41), 3) := by decide +kernel
theorem dX12_parted_295 : decode cX12_parted 295 = .ok (.aload_n 0, 1) := by decide +kernel
theorem dX12_parted_296 : decode cX12_parted 296 = .ok (.getfield 84, 3) := by decide +kernel
theorem dX12_parted_299 : decode cX12_parted 299 = .ok (.iconst 0, 1) := by decide +kernel
theorem dX12_parted_300 : decode cX12_parted 300 = .ok (.iaload, 1) := by decide +kernel
theorem dX12_parted_301 : decode cX12_parted 301 = .ok (.ireturn, 1) := by decide +kernel
theorem dX12_text_0 : decode cX12_text 0 = .ok (.aload_n 0, 1) := by decide +kernel
theorem dX12_text_1 : decode cX12_text 1 = .ok (.getfield 297, 3) := by decide +kernel
theorem dX12_text_4 : decode cX12_text 4 = .ok (.istore_n 1, 1) := by decide +kernel
theorem dX12_text_5 : decode cX12_text 5 = .ok (.aload_n 0, 1) := by decide +kernel
theorem dX12_text_6 : decode cX12_text 6 = .ok (.iconst 0, 1) := by decide +kernel
theorem dX12_text_7 : decode cX12_text 7 = .ok (.putfield 297, 3) := by decide +kernel
theorem dX12_text_10 : decode cX12_text 10 = .ok (.aload_n 0, 1) := by decide +kernel
theorem dX12_text_11 : decode cX12_text 11 = .ok (.iconst (-1), 1) := by decide +kernel
theorem dX12_text_12 : decode cX12_text 12 = .ok (.iload_n 1, 1) := by decide +kernel
theorem dX12_text_13 : decode cX12_text 13 = .ok (.invokevirtual 311, 3) := by decide +kernel
theorem dX12_text_16 : decode cX12_text 16 = .ok (.ifCond .ge 6, 3) := by decide +kernel
theorem dX12_text_19 : decode cX12_text 19 = .ok (.bipush (-3), 2) := by decide +kernel
theorem dX12_text_21 : decode cX12_text 21 = .ok (.ireturn, 1) := by decide +kernel
theorem dX12_text_22 : decode cX12_text 22 = .ok (.aload_n 0, 1) := by decide +kernel
theorem dX12_text_23 : decode cX12_text 23 = .ok (.getfield 303, 3) := by decide +kernel
theorem dX12_text_26 : decode cX12_text 26 = .ok (.bipush 20, 2) := by decide +kernel
theorem dX12_text_28 : decode cX12_text 28 = .ok (.if_icmp .ne 6, 3) := by decide +kernel
theorem dX12_text_31 : decode cX12_text 31 = .ok (.bipush (-4), 2) := by decide +kernel
theorem dX12_text_33 : decode cX12_text 33 = .ok (.ireturn, 1) := by decide +kernel
theorem dX12_text_34 : decode cX12_text 34 = .ok (.iconst 0, 1) := by decide +kernel
theorem dX12_text_35 : decode cX12_text 35 = .ok (.istore_n 2, 1) := by decide +kernel
theorem dX12_text_36 : decode cX12_text 36 = .ok (.iload_n 2, 1) := by decide +kernel
theorem dX12_text_37 : decode cX12_text 37 = .ok (.iload_n 1, 1) := by decide +kernel
theorem dX12_text_38 : decode cX12_text 38 = .ok (.if_icmp .ge 29, 3) := by decide +kernel
theorem dX12_text_41 : decode cX12_text 41 = .ok (.aload_n 0, 1) := by decide +kernel
theorem dX12_text_42 : decode cX12_text 42 = .ok (.getfield 68, 3) := by decide +kernel
theorem dX12_text_45 : decode cX12_text 45 = .ok (.bipush 120, 2) := by decide +kernel
theorem dX12_text_47 : decode cX12_text 47 = .ok (.aload_n 0, 1) := by decide +kernel
theorem dX12_text_48 : decode cX12_text 48 = .ok (.getfield 303, 3) := by decide +kernel
theorem dX12_text_51 : decode cX12_text 51 = .ok (.imul, 1) := by decide +kernel
theorem dX12_text_52 : decode cX12_text 52 = .ok (.iload_n 2, 1) := by decide +kernel
theorem dX12_text_53 : decode cX12_text 53 = .ok (.iadd, 1) := by decide +kernel
theorem dX12_text_54 : decode cX12_text 54 = .ok (.aload_n 0, 1) := by decide +kernel
theorem dX12_text_55 : decode cX12_text 55 = .ok (.getfield 16, 3) := by decide +kernel
theorem dX12_text_58 : decode cX12_text 58 = .ok (.iload_n 2, 1) := by decide +kernel
theorem dX12_text_59 : decode cX12_text 59 = .ok (.iaload, 1) := by decide +kernel
theorem dX12_text_60 : decode cX12_text 60 = .ok (.iastore, 1) := by decide +kernel
theorem dX12_text_61 : decode cX12_text 61 = .ok (.iinc 2 1, 3) := by decide +kernel
theorem dX12_text_64 : decode cX12_text 64 = .ok (.goto (-28), 3) := by decide +kernel
theorem dX12_text_67 : decode cX12_text 67 = .ok (.aload_n 0, 1) := by decide +kernel
theorem dX12_text_68 : decode cX12_text 68 = .ok (.getfield 71, 3) := by decide +kernel
theorem dX12_text_71 : decode cX12_text 71 = .ok (.aload_n 0, 1) := by decide +kernel
theorem dX12_text_72 : decode cX12_text 72 = .ok (.getfield 303, 3) := by decide +kernel
theorem dX12_text_75 : decode cX12_text 75 = .ok (.iload_n 1, 1) := by decide +kernel
theorem dX12_text_76 : decode cX12_text 76 = .ok (.iastore, 1) := by decide +kernel
theorem dX12_text_77 : decode cX12_text 77 = .ok (.aload_n 0, 1) := by decide +kernel
theorem dX12_text_78 : decode cX12_text 78 = .ok (.getfield 74, 3) := by decide +kernel
theorem dX12_text_81 : decode cX12_text 81 = .ok (.aload_n 0, 1) := by decide +kernel
theorem dX12_text_82 : decode cX12_text 82 = .ok (.getfield 303, 3) := by decide +kernel
theorem dX12_text_85 : decode cX12_text 85 = .ok (.iconst (-1), 1) := by decide +kernel
theorem dX12_text_86 : decode cX12_text 86 = .ok (.iastore, 1) := by decide +kernel
theorem dX12_text_87 : decode cX12_text 87 = .ok (.aload_n 0, 1) := by decide +kernel
theorem dX12_text_88 : decode cX12_text 88 = .ok (.getfield 77, 3) := by decide +kernel
theorem dX12_text_91 : decode cX12_text 91 = .ok (.aload_n 0, 1) := by decide +kernel
theorem dX12_text_92 : decode cX12_text 92 = .ok (.getfield 303, 3) := by decide +kernel
theorem dX12_text_95 : decode cX12_text 95 = .ok (.iconst 0, 1) := by decide +kernel
theorem dX12_text_96 : decode cX12_text 96 = .ok (.iastore, 1) := by decide +kernel
theorem dX12_text_97 : decode cX12_text 97 = .ok (.aload_n 0, 1) := by decide +kernel
theorem dX12_text_98 : decode cX12_text 98 = .ok (.dup, 1) := by decide +kernel
theorem dX12_text_99 : decode cX12_text 99 = .ok (.getfield 303, 3) := by decide +kernel
theorem dX12_text_102 : decode cX12_text 102 = .ok (.iconst 1, 1) := by decide +kernel
theorem dX12_text_103 : decode cX12_text 103 = .ok (.iadd, 1) := by decide +kernel
theorem dX12_text_104 : decode cX12_text 104 = .ok (.putfield 303, 3) := by decide +kernel
theorem dX12_text_107 : decode cX12_text 107 = .ok (.aload_n 0, 1) := by decide +kernel
theorem dX12_text_108 : decode cX12_text 108 = .ok (.getfield 303, 3) := by decide +kernel
theorem dX12_text_111 : decode cX12_text 111 = .ok (.iconst 1, 1) := by decide +kernel
theorem dX12_text_112 : decode cX12_text 112 = .ok (.isub, 1) := by decide +kernel
theorem dX12_text_113 : decode cX12_text 113 = .ok (.ireturn, 1) := by decide +kernel
theorem dX12_leaf_0 : decode cX12_leaf 0 = .ok (.aload_n 0, 1) := by decide +kernel
theorem dX12_leaf_1 : decode cX12_leaf 1 = .ok (.getfield 93, 3) := by decide +kernel
theorem dX12_leaf_4 : decode cX12_leaf 4 = .ok (.aload_n 0, 1) := by decide +kernel
theorem dX12_leaf_5 : decode cX12_leaf 5 = .ok (.getfield 314, 3) := by decide +kernel
theorem dX12_leaf_8 : decode cX12_leaf 8 = .ok (.iload_n 1, 1) := by decide +kernel
theorem dX12_leaf_9 : decode cX12_leaf 9 = .ok (.iastore, 1) := by decide +kernel
theorem dX12_leaf_10 : decode cX12_leaf 10 = .ok (.aload_n 0, 1) := by decide +kernel
theorem dX12_leaf_11 : decode cX12_leaf 11 = .ok (.getfield 96, 3) := by decide +kernel
theorem dX12_leaf_14 : decode cX12_leaf 14 = .ok (.aload_n 0, 1) := by decide +kernel
theorem dX12_leaf_15 : decode cX12_leaf 15 = .ok (.getfield 314, 3) := by decide +kernel
theorem dX12_leaf_18 : decode cX12_leaf 18 = .ok (.iload_n 2, 1) := by decide +kernel
theorem dX12_leaf_19 : decode cX12_leaf 19 = .ok (.iastore, 1) := by decide +kernel
theorem dX12_leaf_20 : decode cX12_leaf 20 = .ok (.aload_n 0, 1) := by decide +kernel
theorem dX12_leaf_21 : decode cX12_leaf 21 = .ok (.getfield 99, 3) := by decide +kernel
theorem dX12_leaf_24 : decode cX12_leaf 24 = .ok (.aload_n 0, 1) := by decide +kernel
theorem dX12_leaf_25 : decode cX12_leaf 25 = .ok (.getfield 314, 3) := by decide +kernel
theorem dX12_leaf_28 : decode cX12_leaf 28 = .ok (.iconst 1, 1) := by decide +kernel
theorem dX12_leaf_29 : decode cX12_leaf 29 = .ok (.bastore, 1) := by decide +kernel
theorem dX12_leaf_30 : decode cX12_leaf 30 = .ok (.aload_n 0, 1) := by decide +kernel
theorem dX12_leaf_31 : decode cX12_leaf 31 = .ok (.getfield 111, 3) := by decide +kernel
theorem dX12_leaf_34 : decode cX12_leaf 34 = .ok (.aload_n 0, 1) := by decide +kernel
theorem dX12_leaf_35 : decode cX12_leaf 35 = .ok (.getfield 314, 3) := by decide +kernel
theorem dX12_leaf_38 : decode cX12_leaf 38 = .ok (.iload_n 3, 1) := by decide +kernel
theorem dX12_leaf_39 : decode cX12_leaf 39 = .ok (.iastore, 1) := by decide +kernel
theorem dX12_leaf_40 : decode cX12_leaf 40 = .ok (.aload_n 0, 1) := by decide +kernel
theorem dX12_leaf_41 : decode cX12_leaf 41 = .ok (.getfield 108, 3) := by decide +kernel
theorem dX12_leaf_44 : decode cX12_leaf 44 = .ok (.aload_n 0, 1) := by decide +kernel
theorem dX12_leaf_45 : decode cX12_leaf 45 = .ok (.getfield 314, 3) := by decide +kernel
theorem dX12_leaf_48 : decode cX12_leaf 48 = .ok (.iconst (-1), 1) := by decide +kernel
theorem dX12_leaf_49 : decode cX12_leaf 49 = .ok (.iastore, 1) := by decide +kernel
theorem dX12_leaf_50 : decode cX12_leaf 50 = .ok (.aload_n 0, 1) := by decide +kernel
theorem dX12_leaf_51 : decode cX12_leaf 51 = .ok (.dup, 1) := by decide +kernel
theorem dX12_leaf_52 : decode cX12_leaf 52 = .ok (.getfield 314, 3) := by decide +kernel
theorem dX12_leaf_55 : decode cX12_leaf 55 = .ok (.iconst 1, 1) := by decide +kernel
theorem dX12_leaf_56 : decode cX12_leaf 56 = .ok (.iadd, 1) := by decide +kernel
theorem dX12_leaf_57 : decode cX12_leaf 57 = .ok (.putfield 314, 3) := by decide +kernel
theorem dX12_leaf_60 : decode cX12_leaf 60 = .ok (.return_, 1) := by decide +kernel
theorem dX12_sizeOf_0 : decode cX12_sizeOf 0 = .ok (.aload_n 0, 1) := by decide +kernel
theorem dX12_sizeOf_1 : decode cX12_sizeOf 1 = .ok (.getfield 62, 3) := by decide +kernel
theorem dX12_sizeOf_4 : decode cX12_sizeOf 4 = .ok (.iload_n 1, 1) := by decide +kernel
theorem dX12_sizeOf_5 : decode cX12_sizeOf 5 = .ok (.iaload, 1) := by decide +kernel
theorem dX12_sizeOf_6 : decode cX12_sizeOf 6 = .ok (.istore_n 2, 1) := by decide +kernel
theorem dX12_sizeOf_7 : decode cX12_sizeOf 7 = .ok (.aload_n 0, 1) := by decide +kernel
theorem dX12_sizeOf_8 : decode cX12_sizeOf 8 = .ok (.getfield 56, 3) := by decide +kernel
theorem dX12_sizeOf_11 : decode cX12_sizeOf 11 = .ok (.iload_n 1, 1) := by decide +kernel
theorem dX12_sizeOf_12 : decode cX12_sizeOf 12 = .ok (.iaload, 1) := by decide +kernel
theorem dX12_sizeOf_13 : decode cX12_sizeOf 13 = .ok (.istore_n 3, 1) := by decide +kernel
theorem dX12_sizeOf_14 : decode cX12_sizeOf 14 = .ok (.iload_n 3, 1) := by decide +kernel
theorem dX12_sizeOf_15 : decode cX12_sizeOf 15 = .ok (.iconst 2, 1) := by decide +kernel
theorem dX12_sizeOf_16 : decode cX12_sizeOf 16 = .ok (.if_icmp .ne 7, 3) := by decide +kernel
theorem dX12_sizeOf_19 : decode cX12_sizeOf 19 = .ok (.iconst 2, 1) := by decide +kernel
theorem dX12_sizeOf_20 : decode cX12_sizeOf 20 = .ok (.goto 28, 3) := by decide +kernel
theorem dX12_sizeOf_23 : decode cX12_sizeOf 23 = .ok (.iload_n 3, 1) := by decide +kernel
theorem dX12_sizeOf_24 : decode cX12_sizeOf 24 = .ok (.iconst 3, 1) := by decide +kernel
theorem dX12_sizeOf_25 : decode cX12_sizeOf 25 = .ok (.if_icmp .ne 9, 3) := by decide +kernel
theorem dX12_sizeOf_28 : decode cX12_sizeOf 28 = .ok (.iload_n 2, 1) := by decide +kernel
theorem dX12_sizeOf_29 : decode cX12_sizeOf 29 = .ok (.iconst 2, 1) := by decide +kernel
theorem dX12_sizeOf_30 : decode cX12_sizeOf 30 = .ok (.iadd, 1) := by decide +kernel
theorem dX12_sizeOf_31 : decode cX12_sizeOf 31 = .ok (.goto 17, 3) := by decide +kernel
theorem dX12_sizeOf_34 : decode cX12_sizeOf 34 = .ok (.iload_n 3, 1) := by decide +kernel
theorem dX12_sizeOf_35 : decode cX12_sizeOf 35 = .ok (.iconst 5, 1) := by decide +kernel
theorem dX12_sizeOf_36 : decode cX12_sizeOf 36 = .ok (.if_icmp .ne 11, 3) := by decide +kernel
theorem dX12_sizeOf_39 : decode cX12_sizeOf 39 = .ok (.iconst 4, 1) := by decide +kernel
theorem dX12_sizeOf_40 : decode cX12_sizeOf 40 = .ok (.iload_n 2, 1) := by decide +kernel
theorem dX12_sizeOf_41 : decode cX12_sizeOf 41 = .ok (.imul, 1) := by decide +kernel
theorem dX12_sizeOf_42 : decode cX12_sizeOf 42 = .ok (.iconst 5, 1) := by decide +kernel
theorem dX12_sizeOf_43 : decode cX12_sizeOf 43 = .ok (.iadd, 1) := by decide +kernel
theorem dX12_sizeOf_44 : decode cX12_sizeOf 44 = .ok (.goto 4, 3) := by decide +kernel
theorem dX12_sizeOf_47 : decode cX12_sizeOf 47 = .ok (.iconst 5, 1) := by decide +kernel
theorem dX12_sizeOf_48 : decode cX12_sizeOf 48 = .ok (.ireturn, 1) := by decide +kernel
theorem dX12_least_0 : decode cX12_least 0 = .ok (.iconst (-1), 1) := by decide +kernel
theorem dX12_least_1 : decode cX12_least 1 = .ok (.istore_n 1, 1) := by decide +kernel
theorem dX12_least_2 : decode cX12_least 2 = .ok (.iconst 0, 1) := by decide +kernel
theorem dX12_least_3 : decode cX12_least 3 = .ok (.istore_n 2, 1) := by decide +kernel
theorem dX12_least_4 : decode cX12_least 4 = .ok (.iload_n 2, 1) := by decide +kernel
theorem dX12_least_5 : decode cX12_least 5 = .ok (.aload_n 0, 1) := by decide +kernel
theorem dX12_least_6 : decode cX12_least 6 = .ok (.getfield 314, 3) := by decide +kernel
theorem dX12_least_9 : decode cX12_least 9 = .ok (.if_icmp .ge 39, 3) := by decide +kernel
theorem dX12_least_12 : decode cX12_least 12 = .ok (.aload_n 0, 1) := by decide +kernel
theorem dX12_least_13 : decode cX12_least 13 = .ok (.getfield 99, 3) := by decide +kernel
theorem dX12_least_16 : decode cX12_least 16 = .ok (.iload_n 2, 1) := by decide +kernel
theorem dX12_least_17 : decode cX12_least 17 = .ok (.baload, 1) := by decide +kernel
theorem dX12_least_18 : decode cX12_least 18 = .ok (.ifCond .eq 24, 3) := by decide +kernel
theorem dX12_least_21 : decode cX12_least 21 = .ok (.iload_n 1, 1) := by decide +kernel
theorem dX12_least_22 : decode cX12_least 22 = .ok (.ifCond .lt 18, 3) := by decide +kernel
theorem dX12_least_25 : decode cX12_least 25 = .ok (.aload_n 0, 1) := by decide +kernel
theorem dX12_least_26 : decode cX12_least 26 = .ok (.getfield 96, 3) := by decide +kernel
theorem dX12_least_29 : decode cX12_least 29 = .ok (.iload_n 2, 1) := by decide +kernel
theorem dX12_least_30 : decode cX12_least 30 = .ok (.iaload, 1) := by decide +kernel
theorem dX12_least_31 : decode cX12_least 31 = .ok (.aload_n 0, 1) := by decide +kernel
theorem dX12_least_32 : decode cX12_least 32 = .ok (.getfield 96, 3) := by decide +kernel
theorem dX12_least_35 : decode cX12_least 35 = .ok (.iload_n 1, 1) := by decide +kernel
theorem dX12_least_36 : decode cX12_least 36 = .ok (.iaload, 1) := by decide +kernel
theorem dX12_least_37 : decode cX12_least 37 = .ok (.if_icmp .ge 5, 3) := by decide +kernel
theorem dX12_least_40 : decode cX12_least 40 = .ok (.iload_n 2, 1) := by decide +kernel
theorem dX12_least_41 : decode cX12_least 41 = .ok (.istore_n 1, 1) := by decide +kernel
theorem dX12_least_42 : decode cX12_least 42 = .ok (.iinc 2 1, 3) := by decide +kernel
theorem dX12_least_45 : decode cX12_least 45 = .ok (.goto (-41), 3) := by decide +kernel
theorem dX12_least_48 : decode cX12_least 48 = .ok (.aload_n 0, 1) := by decide +kernel
theorem dX12_least_49 : decode cX12_least 49 = .ok (.getfield 99, 3) := by decide +kernel
theorem dX12_least_52 : decode cX12_least 52 = .ok (.iload_n 1, 1) := by decide +kernel
theorem dX12_least_53 : decode cX12_least 53 = .ok (.iconst 0, 1) := by decide +kernel
theorem dX12_least_54 : decode cX12_least 54 = .ok (.bastore, 1) := by decide +kernel
theorem dX12_least_55 : decode cX12_least 55 = .ok (.iload_n 1, 1) := by decide +kernel
theorem dX12_least_56 : decode cX12_least 56 = .ok (.ireturn, 1) := by decide +kernel
theorem dX12_join_0 : decode cX12_join 0 = .ok (.aload_n 0, 1) := by decide +kernel
theorem dX12_join_1 : decode cX12_join 1 = .ok (.iconst 0, 1) := by decide +kernel
theorem dX12_join_2 : decode cX12_join 2 = .ok (.putfield 314, 3) := by decide +kernel
theorem dX12_join_5 : decode cX12_join 5 = .ok (.aload_n 0, 1) := by decide +kernel
theorem dX12_join_6 : decode cX12_join 6 = .ok (.iconst (-1), 1) := by decide +kernel
theorem dX12_join_7 : decode cX12_join 7 = .ok (.aload_n 0, 1) := by decide +kernel
theorem dX12_join_8 : decode cX12_join 8 = .ok (.getfield 303, 3) := by decide +kernel
theorem dX12_join_11 : decode cX12_join 11 = .ok (.iconst 1, 1) := by decide +kernel
theorem dX12_join_12 : decode cX12_join 12 = .ok (.invokevirtual 317, 3) := by decide +kernel
theorem dX12_join_15 : decode cX12_join 15 = .ok (.iconst 0, 1) := by decide +kernel
theorem dX12_join_16 : decode cX12_join 16 = .ok (.istore_n 1, 1) := by decide +kernel
theorem dX12_join_17 : decode cX12_join 17 = .ok (.iload_n 1, 1) := by decide +kernel
theorem dX12_join_18 : decode cX12_join 18 = .ok (.aload_n 0, 1) := by decide +kernel
theorem dX12_join_19 : decode cX12_join 19 = .ok (.getfield 300, 3) := by decide +kernel
theorem dX12_join_22 : decode cX12_join 22 = .ok (.if_icmp .ge 16, 3) := by decide +kernel
theorem dX12_join_25 : decode cX12_join 25 = .ok (.aload_n 0, 1) := by decide +kernel
theorem dX12_join_26 : decode cX12_join 26 = .ok (.getfield 123, 3) := by decide +kernel
theorem dX12_join_29 : decode cX12_join 29 = .ok (.iload_n 1, 1) := by decide +kernel
theorem dX12_join_30 : decode cX12_join 30 = .ok (.iconst 0, 1) := by decide +kernel
theorem dX12_join_31 : decode cX12_join 31 = .ok (.iastore, 1) := by decide +kernel
theorem dX12_join_32 : decode cX12_join 32 = .ok (.iinc 1 1, 3) := by decide +kernel
theorem dX12_join_35 : decode cX12_join 35 = .ok (.goto (-18), 3) := by decide +kernel
theorem dX12_join_38 : decode cX12_join 38 = .ok (.iconst 0, 1) := by decide +kernel
theorem dX12_join_39 : decode cX12_join 39 = .ok (.istore_n 1, 1) := by decide +kernel
theorem dX12_join_40 : decode cX12_join 40 = .ok (.iload_n 1, 1) := by decide +kernel
theorem dX12_join_41 : decode cX12_join 41 = .ok (.aload_n 0, 1) := by decide +kernel
theorem dX12_join_42 : decode cX12_join 42 = .ok (.getfield 303, 3) := by decide +kernel
theorem dX12_join_45 : decode cX12_join 45 = .ok (.if_icmp .ge 49, 3) := by decide +kernel
theorem dX12_join_48 : decode cX12_join 48 = .ok (.aload_n 0, 1) := by decide +kernel
theorem dX12_join_49 : decode cX12_join 49 = .ok (.iload_n 1, 1) := by decide +kernel
theorem dX12_join_50 : decode cX12_join 50 = .ok (.aload_n 0, 1) := by decide +kernel
theorem dX12_join_51 : decode cX12_join 51 = .ok (.getfield 71, 3) := by decide +kernel
theorem dX12_join_54 : decode cX12_join 54 = .ok (.iload_n 1, 1) := by decide +kernel
theorem dX12_join_55 : decode cX12_join 55 = .ok (.iaload, 1) := by decide +kernel
theorem dX12_join_56 : decode cX12_join 56 = .ok (.invokevirtual 311, 3) := by decide +kernel
theorem dX12_join_59 : decode cX12_join 59 = .ok (.istore_n 2, 1) := by decide +kernel
theorem dX12_join_60 : decode cX12_join 60 = .ok (.iconst 0, 1) := by decide +kernel
theorem dX12_join_61 : decode cX12_join 61 = .ok (.istore_n 3, 1) := by decide +kernel
theorem dX12_join_62 : decode cX12_join 62 = .ok (.iload_n 3, 1) := by decide +kernel
theorem dX12_join_63 : decode cX12_join 63 = .ok (.iload_n 2, 1) := by decide +kernel
theorem dX12_join_64 : decode cX12_join 64 = .ok (.if_icmp .ge 24, 3) := by decide +kernel
theorem dX12_join_67 : decode cX12_join 67 = .ok (.aload_n 0, 1) := by decide +kernel
theorem dX12_join_68 : decode cX12_join 68 = .ok (.getfield 123, 3) := by decide +kernel
theorem dX12_join_71 : decode cX12_join 71 = .ok (.aload_n 0, 1) := by decide +kernel
theorem dX12_join_72 : decode cX12_join 72 = .ok (.getfield 90, 3) := by decide +kernel
theorem dX12_join_75 : decode cX12_join 75 = .ok (.iload_n 3, 1) := by decide +kernel
theorem dX12_join_76 : decode cX12_join 76 = .ok (.iaload, 1) := by decide +kernel
theorem dX12_join_77 : decode cX12_join 77 = .ok (.dup2, 1) := by decide +kernel
theorem dX12_join_78 : decode cX12_join 78 = .ok (.iaload, 1) := by decide +kernel
theorem dX12_join_79 : decode cX12_join 79 = .ok (.iconst 1, 1) := by decide +kernel
theorem dX12_join_80 : decode cX12_join 80 = .ok (.iadd, 1) := by decide +kernel
theorem dX12_join_81 : decode cX12_join 81 = .ok (.iastore, 1) := by decide +kernel
theorem dX12_join_82 : decode cX12_join 82 = .ok (.iinc 3 1, 3) := by decide +kernel
theorem dX12_join_85 : decode cX12_join 85 = .ok (.goto (-23), 3) := by decide +kernel
theorem dX12_join_88 : decode cX12_join 88 = .ok (.iinc 1 1, 3) := by decide +kernel
theorem dX12_join_91 : decode cX12_join 91 = .ok (.goto (-51), 3) := by decide +kernel
theorem dX12_join_94 : decode cX12_join 94 = .ok (.iconst 0, 1) := by decide +kernel
theorem dX12_join_95 : decode cX12_join 95 = .ok (.istore_n 1, 1) := by decide +kernel
theorem dX12_join_96 : decode cX12_join 96 = .ok (.iload_n 1, 1) := by decide +kernel
theorem dX12_join_97 : decode cX12_join 97 = .ok (.aload_n 0, 1) := by decide +kernel
theorem dX12_join_98 : decode cX12_join 98 = .ok (.getfield 300, 3) := by decide +kernel
theorem dX12_join_101 : decode cX12_join 101 = .ok (.if_icmp .ge 44, 3) := by decide +kernel
theorem dX12_join_104 : decode cX12_join 104 = .ok (.aload_n 0, 1) := by decide +kernel
theorem dX12_join_105 : decode cX12_join 105 = .ok (.getfield 123, 3) := by decide +kernel
theorem dX12_join_108 : decode cX12_join 108 = .ok (.iload_n 1, 1) := by decide +kernel
theorem dX12_join_109 : decode cX12_join 109 = .ok (.iaload, 1) := by decide +kernel
theorem dX12_join_110 : decode cX12_join 110 = .ok (.ifCond .le 29, 3) := by decide +kernel
theorem dX12_join_113 : decode cX12_join 113 = .ok (.aload_n 0, 1) := by decide +kernel
theorem dX12_join_114 : decode cX12_join 114 = .ok (.getfield 120, 3) := by decide +kernel
theorem dX12_join_117 : decode cX12_join 117 = .ok (.iload_n 1, 1) := by decide +kernel
theorem dX12_join_118 : decode cX12_join 118 = .ok (.aload_n 0, 1) := by decide +kernel
theorem dX12_join_119 : decode cX12_join 119 = .ok (.getfield 314, 3) := by decide +kernel
theorem dX12_join_122 : decode cX12_join 122 = .ok (.iastore, 1) := by decide +kernel
theorem dX12_join_123 : decode cX12_join 123 = .ok (.aload_n 0, 1) := by decide +kernel
theorem dX12_join_124 : decode cX12_join 124 = .ok (.iload_n 1, 1) := by decide +kernel
theorem dX12_join_125 : decode cX12_join 125 = .ok (.aload_n 0, 1) := by decide +kernel
theorem dX12_join_126 : decode cX12_join 126 = .ok (.getfield 123, 3) := by decide +kernel
theorem dX12_join_129 : decode cX12_join 129 = .ok (.iload_n 1, 1) := by decide +kernel
theorem dX12_join_130 : decode cX12_join 130 = .ok (.iaload, 1) := by decide +kernel
theorem dX12_join_131 : decode cX12_join 131 = .ok (.aload_n 0, 1) := by decide +kernel
theorem dX12_join_132 : decode cX12_join 132 = .ok (.iload_n 1, 1) := by decide +kernel
theorem dX12_join_133 : decode cX12_join 133 = .ok (.invokevirtual 320, 3) := by decide +kernel
theorem dX12_join_136 : decode cX12_join 136 = .ok (.invokevirtual 317, 3) := by decide +kernel
theorem dX12_join_139 : decode cX12_join 139 = .ok (.iinc 1 1, 3) := by decide +kernel
theorem dX12_join_142 : decode cX12_join 142 = .ok (.goto (-46), 3) := by decide +kernel
theorem dX12_join_145 : decode cX12_join 145 = .ok (.aload_n 0, 1) := by decide +kernel
theorem dX12_join_146 : decode cX12_join 146 = .ok (.aload_n 0, 1) := by decide +kernel
theorem dX12_join_147 : decode cX12_join 147 = .ok (.getfield 314, 3) := by decide +kernel
theorem dX12_join_150 : decode cX12_join 150 = .ok (.putfield 323, 3) := by decide +kernel
theorem dX12_join_153 : decode cX12_join 153 = .ok (.iconst 1, 1) := by decide +kernel
theorem dX12_join_154 : decode cX12_join 154 = .ok (.istore_n 1, 1) := by decide +kernel
theorem dX12_join_155 : decode cX12_join 155 = .ok (.iload_n 1, 1) := by decide +kernel
theorem dX12_join_156 : decode cX12_join 156 = .ok (.aload_n 0, 1) := by decide +kernel
theorem dX12_join_157 : decode cX12_join 157 = .ok (.getfield 323, 3) := by decide +kernel
theorem dX12_join_160 : decode cX12_join 160 = .ok (.if_icmp .ge 94, 3) := by decide +kernel
theorem dX12_join_163 : decode cX12_join 163 = .ok (.aload_n 0, 1) := by decide +kernel
theorem dX12_join_164 : decode cX12_join 164 = .ok (.invokevirtual 326, 3) := by decide +kernel
theorem dX12_join_167 : decode cX12_join 167 = .ok (.istore_n 2, 1) := by decide +kernel
theorem dX12_join_168 : decode cX12_join 168 = .ok (.aload_n 0, 1) := by decide +kernel
theorem dX12_join_169 : decode cX12_join 169 = .ok (.invokevirtual 326, 3) := by decide +kernel
theorem dX12_join_172 : decode cX12_join 172 = .ok (.istore_n 3, 1) := by decide +kernel
theorem dX12_join_173 : decode cX12_join 173 = .ok (.aload_n 0, 1) := by decide +kernel
theorem dX12_join_174 : decode cX12_join 174 = .ok (.getfield 102, 3) := by decide +kernel
theorem dX12_join_177 : decode cX12_join 177 = .ok (.aload_n 0, 1) := by decide +kernel
theorem dX12_join_178 : decode cX12_join 178 = .ok (.getfield 314, 3) := by decide +kernel
theorem dX12_join_181 : decode cX12_join 181 = .ok (.iload_n 2, 1) := by decide +kernel
theorem dX12_join_182 : decode cX12_join 182 = .ok (.iastore, 1) := by decide +kernel
theorem dX12_join_183 : decode cX12_join 183 = .ok (.aload_n 0, 1) := by decide +kernel
theorem dX12_join_184 : decode cX12_join 184 = .ok (.getfield 105, 3) := by decide +kernel
theorem dX12_join_187 : decode cX12_join 187 = .ok (.aload_n 0, 1) := by decide +kernel
theorem dX12_join_188 : decode cX12_join 188 = .ok (.getfield 314, 3) := by decide +kernel
theorem dX12_join_191 : decode cX12_join 191 = .ok (.iload_n 3, 1) := by decide +kernel
theorem dX12_join_192 : decode cX12_join 192 = .ok (.iastore, 1) := by decide +kernel
theorem dX12_join_193 : decode cX12_join 193 = .ok (.aload_n 0, 1) := by decide +kernel
theorem dX12_join_194 : decode cX12_join 194 = .ok (.getfield 108, 3) := by decide +kernel
theorem dX12_join_197 : decode cX12_join 197 = .ok (.iload_n 2, 1) := by decide +kernel
theorem dX12_join_198 : decode cX12_join 198 = .ok (.aload_n 0, 1) := by decide +kernel
theorem dX12_join_199 : decode cX12_join 199 = .ok (.getfield 314, 3) := by decide +kernel
theorem dX12_join_202 : decode cX12_join 202 = .ok (.iastore, 1) := by decide +kernel
theorem dX12_join_203 : decode cX12_join 203 = .ok (.aload_n 0, 1) := by decide +kernel
theorem dX12_join_204 : decode cX12_join 204 = .ok (.getfield 108, 3) := by decide +kernel
theorem dX12_join_207 : decode cX12_join 207 = .ok (.iload_n 3, 1) := by decide +kernel
theorem dX12_join_208 : decode cX12_join 208 = .ok (.aload_n 0, 1) := by decide +kernel
theorem dX12_join_209 : decode cX12_join 209 = .ok (.getfield 314, 3) := by decide +kernel
theorem dX12_join_212 : decode cX12_join 212 = .ok (.iastore, 1) := by decide +kernel
theorem dX12_join_213 : decode cX12_join 213 = .ok (.aload_n 0, 1) := by decide +kernel
theorem dX12_join_214 : decode cX12_join 214 = .ok (.bipush (-2), 2) := by decide +kernel
theorem dX12_join_216 : decode cX12_join 216 = .ok (.aload_n 0, 1) := by decide +kernel
theorem dX12_join_217 : decode cX12_join 217 = .ok (.getfield 96, 3) := by decide +kernel
theorem dX12_join_220 : decode cX12_join 220 = .ok (.iload_n 2, 1) := by decide +kernel
theorem dX12_join_221 : decode cX12_join 221 = .ok (.iaload, 1) := by decide +kernel
theorem dX12_join_222 : decode cX12_join 222 = .ok (.aload_n 0, 1) := by decide +kernel
theorem dX12_join_223 : decode cX12_join 223 = .ok (.getfield 96, 3) := by decide +kernel
theorem dX12_join_226 : decode cX12_join 226 = .ok (.iload_n 3, 1) := by decide +kernel
theorem dX12_join_227 : decode cX12_join 227 = .ok (.iaload, 1) := by decide +kernel
theorem dX12_join_228 : decode cX12_join 228 = .ok (.iadd, 1) := by decide +kernel
theorem dX12_join_229 : decode cX12_join 229 = .ok (.bipush 9, 2) := by decide +kernel
theorem dX12_join_231 : decode cX12_join 231 = .ok (.aload_n 0, 1) := by decide +kernel
theorem dX12_join_232 : decode cX12_join 232 = .ok (.getfield 111, 3) := by decide +kernel
theorem dX12_join_235 : decode cX12_join 235 = .ok (.iload_n 2, 1) := by decide +kernel
theorem dX12_join_236 : decode cX12_join 236 = .ok (.iaload, 1) := by decide +kernel
theorem dX12_join_237 : decode cX12_join 237 = .ok (.iadd, 1) := by decide +kernel
theorem dX12_join_238 : decode cX12_join 238 = .ok (.aload_n 0, 1) := by decide +kernel
theorem dX12_join_239 : decode cX12_join 239 = .ok (.getfield 111, 3) := by decide +kernel
theorem dX12_join_242 : decode cX12_join 242 = .ok (.iload_n 3, 1) := by decide +kernel
theorem dX12_join_243 : decode cX12_join 243 = .ok (.iaload, 1) := by decide +kernel
theorem dX12_join_244 : decode cX12_join 244 = .ok (.iadd, 1) := by decide +kernel
theorem dX12_join_245 : decode cX12_join 245 = .ok (.invokevirtual 317, 3) := by decide +kernel
theorem dX12_join_248 : decode cX12_join 248 = .ok (.iinc 1 1, 3) := by decide +kernel
theorem dX12_join_251 : decode cX12_join 251 = .ok (.goto (-96), 3) := by decide +kernel
theorem dX12_join_254 : decode cX12_join 254 = .ok (.return_, 1) := by decide +kernel
theorem dX12_places_0 : decode cX12_places 0 = .ok (.aload_n 0, 1) := by decide +kernel
theorem dX12_places_1 : decode cX12_places 1 = .ok (.getfield 114, 3) := by decide +kernel
theorem dX12_places_4 : decode cX12_places 4 = .ok (.aload_n 0, 1) := by decide +kernel
theorem dX12_places_5 : decode cX12_places 5 = .ok (.getfield 314, 3) := by decide +kernel
theorem dX12_places_8 : decode cX12_places 8 = .ok (.iconst 1, 1) := by decide +kernel
theorem dX12_places_9 : decode cX12_places 9 = .ok (.isub, 1) := by decide +kernel
theorem dX12_places_10 : decode cX12_places 10 = .ok (.iload_n 1, 1) := by decide +kernel
theorem dX12_places_11 : decode cX12_places 11 = .ok (.iastore, 1) := by decide +kernel
theorem dX12_places_12 : decode cX12_places 12 = .ok (.aload_n 0, 1) := by decide +kernel
theorem dX12_places_13 : decode cX12_places 13 = .ok (.getfield 117, 3) := by decide +kernel
theorem dX12_places_16 : decode cX12_places 16 = .ok (.aload_n 0, 1) := by decide +kernel
theorem dX12_places_17 : decode cX12_places 17 = .ok (.getfield 314, 3) := by decide +kernel
theorem dX12_places_20 : decode cX12_places 20 = .ok (.iconst 1, 1) := by decide +kernel
theorem dX12_places_21 : decode cX12_places 21 = .ok (.isub, 1) := by decide +kernel
theorem dX12_places_22 : decode cX12_places 22 = .ok (.iconst 0, 1) := by decide +kernel
theorem dX12_places_23 : decode cX12_places 23 = .ok (.iastore, 1) := by decide +kernel
theorem dX12_places_24 : decode cX12_places 24 = .ok (.aload_n 0, 1) := by decide +kernel
theorem dX12_places_25 : decode cX12_places 25 = .ok (.getfield 314, 3) := by decide +kernel
theorem dX12_places_28 : decode cX12_places 28 = .ok (.iconst 1, 1) := by decide +kernel
theorem dX12_places_29 : decode cX12_places 29 = .ok (.isub, 1) := by decide +kernel
theorem dX12_places_30 : decode cX12_places 30 = .ok (.istore_n 2, 1) := by decide +kernel
theorem dX12_places_31 : decode cX12_places 31 = .ok (.iload_n 2, 1) := by decide +kernel
theorem dX12_places_32 : decode cX12_places 32 = .ok (.aload_n 0, 1) := by decide +kernel
theorem dX12_places_33 : decode cX12_places 33 = .ok (.getfield 323, 3) := by decide +kernel
theorem dX12_places_36 : decode cX12_places 36 = .ok (.if_icmp .lt 99, 3) := by decide +kernel
theorem dX12_places_39 : decode cX12_places 39 = .ok (.aload_n 0, 1) := by decide +kernel
theorem dX12_places_40 : decode cX12_places 40 = .ok (.getfield 114, 3) := by decide +kernel
theorem dX12_places_43 : decode cX12_places 43 = .ok (.aload_n 0, 1) := by decide +kernel
theorem dX12_places_44 : decode cX12_places 44 = .ok (.getfield 102, 3) := by decide +kernel
theorem dX12_places_47 : decode cX12_places 47 = .ok (.iload_n 2, 1) := by decide +kernel
theorem dX12_places_48 : decode cX12_places 48 = .ok (.iaload, 1) := by decide +kernel
theorem dX12_places_49 : decode cX12_places 49 = .ok (.aload_n 0, 1) := by decide +kernel
theorem dX12_places_50 : decode cX12_places 50 = .ok (.getfield 114, 3) := by decide +kernel
theorem dX12_places_53 : decode cX12_places 53 = .ok (.iload_n 2, 1) := by decide +kernel
theorem dX12_places_54 : decode cX12_places 54 = .ok (.iaload, 1) := by decide +kernel
theorem dX12_places_55 : decode cX12_places 55 = .ok (.bipush 9, 2) := by decide +kernel
theorem dX12_places_57 : decode cX12_places 57 = .ok (.iadd, 1) := by decide +kernel
theorem dX12_places_58 : decode cX12_places 58 = .ok (.iastore, 1) := by decide +kernel
theorem dX12_places_59 : decode cX12_places 59 = .ok (.aload_n 0, 1) := by decide +kernel
theorem dX12_places_60 : decode cX12_places 60 = .ok (.getfield 114, 3) := by decide +kernel
theorem dX12_places_63 : decode cX12_places 63 = .ok (.aload_n 0, 1) := by decide +kernel
theorem dX12_places_64 : decode cX12_places 64 = .ok (.getfield 105, 3) := by decide +kernel
theorem dX12_places_67 : decode cX12_places 67 = .ok (.iload_n 2, 1) := by decide +kernel
theorem dX12_places_68 : decode cX12_places 68 = .ok (.iaload, 1) := by decide +kernel
theorem dX12_places_69 : decode cX12_places 69 = .ok (.aload_n 0, 1) := by decide +kernel
theorem dX12_places_70 : decode cX12_places 70 = .ok (.getfield 114, 3) := by decide +kernel
theorem dX12_places_73 : decode cX12_places 73 = .ok (.iload_n 2, 1) := by decide +kernel
theorem dX12_places_74 : decode cX12_places 74 = .ok (.iaload, 1) := by decide +kernel
theorem dX12_places_75 : decode cX12_places 75 = .ok (.bipush 9, 2) := by decide +kernel
theorem dX12_places_77 : decode cX12_places 77 = .ok (.iadd, 1) := by decide +kernel
theorem dX12_places_78 : decode cX12_places 78 = .ok (.aload_n 0, 1) := by decide +kernel
theorem dX12_places_79 : decode cX12_places 79 = .ok (.getfield 111, 3) := by decide +kernel
theorem dX12_places_82 : decode cX12_places 82 = .ok (.aload_n 0, 1) := by decide +kernel
theorem dX12_places_83 : decode cX12_places 83 = .ok (.getfield 102, 3) := by decide +kernel
theorem dX12_places_86 : decode cX12_places 86 = .ok (.iload_n 2, 1) := by decide +kernel
theorem dX12_places_87 : decode cX12_places 87 = .ok (.iaload, 1) := by decide +kernel
theorem dX12_places_88 : decode cX12_places 88 = .ok (.iaload, 1) := by decide +kernel
theorem dX12_places_89 : decode cX12_places 89 = .ok (.iadd, 1) := by decide +kernel
theorem dX12_places_90 : decode cX12_places 90 = .ok (.iastore, 1) := by decide +kernel
theorem dX12_places_91 : decode cX12_places 91 = .ok (.aload_n 0, 1) := by decide +kernel
theorem dX12_places_92 : decode cX12_places 92 = .ok (.getfield 117, 3) := by decide +kernel
theorem dX12_places_95 : decode cX12_places 95 = .ok (.aload_n 0, 1) := by decide +kernel
theorem dX12_places_96 : decode cX12_places 96 = .ok (.getfield 102, 3) := by decide +kernel
theorem dX12_places_99 : decode cX12_places 99 = .ok (.iload_n 2, 1) := by decide +kernel
theorem dX12_places_100 : decode cX12_places 100 = .ok (.iaload, 1) := by decide +kernel
theorem dX12_places_101 : decode cX12_places 101 = .ok (.aload_n 0, 1) := by decide +kernel
theorem dX12_places_102 : decode cX12_places 102 = .ok (.getfield 117, 3) := by decide +kernel
theorem dX12_places_105 : decode cX12_places 105 = .ok (.iload_n 2, 1) := by decide +kernel
theorem dX12_places_106 : decode cX12_places 106 = .ok (.iaload, 1) := by decide +kernel
theorem dX12_places_107 : decode cX12_places 107 = .ok (.iconst 1, 1) := by decide +kernel
theorem dX12_places_108 : decode cX12_places 108 = .ok (.iadd, 1) := by decide +kernel
theorem dX12_places_109 : decode cX12_places 109 = .ok (.iastore, 1) := by decide +kernel
theorem dX12_places_110 : decode cX12_places 110 = .ok (.aload_n 0, 1) := by decide +kernel
theorem dX12_places_111 : decode cX12_places 111 = .ok (.getfield 117, 3) := by decide +kernel
theorem dX12_places_114 : decode cX12_places 114 = .ok (.aload_n 0, 1) := by decide +kernel
theorem dX12_places_115 : decode cX12_places 115 = .ok (.getfield 105, 3) := by decide +kernel
theorem dX12_places_118 : decode cX12_places 118 = .ok (.iload_n 2, 1) := by decide +kernel
theorem dX12_places_119 : decode cX12_places 119 = .ok (.iaload, 1) := by decide +kernel
theorem dX12_places_120 : decode cX12_places 120 = .ok (.aload_n 0, 1) := by decide +kernel
theorem dX12_places_121 : decode cX12_places 121 = .ok (.getfield 117, 3) := by decide +kernel
theorem dX12_places_124 : decode cX12_places 124 = .ok (.iload_n 2, 1) := by decide +kernel
theorem dX12_places_125 : decode cX12_places 125 = .ok (.iaload, 1) := by decide +kernel
theorem dX12_places_126 : decode cX12_places 126 = .ok (.iconst 1, 1) := by decide +kernel
theorem dX12_places_127 : decode cX12_places 127 = .ok (.iadd, 1) := by decide +kernel
theorem dX12_places_128 : decode cX12_places 128 = .ok (.iastore, 1) := by decide +kernel
theorem dX12_places_129 : decode cX12_places 129 = .ok (.iinc 2 (-1), 3) := by decide +kernel
theorem dX12_places_132 : decode cX12_places 132 = .ok (.goto (-101), 3) := by decide +kernel
theorem dX12_places_135 : decode cX12_places 135 = .ok (.return_, 1) := by decide +kernel
theorem dX12_lay_0 : decode cX12_lay 0 = .ok (.aload_n 0, 1) := by decide +kernel
theorem dX12_lay_1 : decode cX12_lay 1 = .ok (.getfield 114, 3) := by decide +kernel
theorem dX12_lay_4 : decode cX12_lay 4 = .ok (.iload_n 1, 1) := by decide +kernel
theorem dX12_lay_5 : decode cX12_lay 5 = .ok (.iaload, 1) := by decide +kernel
theorem dX12_lay_6 : decode cX12_lay 6 = .ok (.istore_n 2, 1) := by decide +kernel
theorem dX12_lay_7 : decode cX12_lay 7 = .ok (.iload_n 1, 1) := by decide +kernel
theorem dX12_lay_8 : decode cX12_lay 8 = .ok (.aload_n 0, 1) := by decide +kernel
theorem dX12_lay_9 : decode cX12_lay 9 = .ok (.getfield 323, 3) := by decide +kernel
theorem dX12_lay_12 : decode cX12_lay 12 = .ok (.if_icmp .lt 48, 3) := by decide +kernel
theorem dX12_lay_15 : decode cX12_lay 15 = .ok (.aload_n 0, 1) := by decide +kernel
theorem dX12_lay_16 : decode cX12_lay 16 = .ok (.iload_n 2, 1) := by decide +kernel
theorem dX12_lay_17 : decode cX12_lay 17 = .ok (.iconst 0, 1) := by decide +kernel
theorem dX12_lay_18 : decode cX12_lay 18 = .ok (.invokevirtual 153, 3) := by decide +kernel
theorem dX12_lay_21 : decode cX12_lay 21 = .ok (.aload_n 0, 1) := by decide +kernel
theorem dX12_lay_22 : decode cX12_lay 22 = .ok (.iload_n 2, 1) := by decide +kernel
theorem dX12_lay_23 : decode cX12_lay 23 = .ok (.iconst 1, 1) := by decide +kernel
theorem dX12_lay_24 : decode cX12_lay 24 = .ok (.iadd, 1) := by decide +kernel
theorem dX12_lay_25 : decode cX12_lay 25 = .ok (.aload_n 0, 1) := by decide +kernel
theorem dX12_lay_26 : decode cX12_lay 26 = .ok (.getfield 114, 3) := by decide +kernel
theorem dX12_lay_29 : decode cX12_lay 29 = .ok (.aload_n 0, 1) := by decide +kernel
theorem dX12_lay_30 : decode cX12_lay 30 = .ok (.getfield 102, 3) := by decide +kernel
theorem dX12_lay_33 : decode cX12_lay 33 = .ok (.iload_n 1, 1) := by decide +kernel
theorem dX12_lay_34 : decode cX12_lay 34 = .ok (.iaload, 1) := by decide +kernel
theorem dX12_lay_35 : decode cX12_lay 35 = .ok (.iaload, 1) := by decide +kernel
theorem dX12_lay_36 : decode cX12_lay 36 = .ok (.invokevirtual 329, 3) := by decide +kernel
theorem dX12_lay_39 : decode cX12_lay 39 = .ok (.aload_n 0, 1) := by decide +kernel
theorem dX12_lay_40 : decode cX12_lay 40 = .ok (.iload_n 2, 1) := by decide +kernel
theorem dX12_lay_41 : decode cX12_lay 41 = .ok (.iconst 5, 1) := by decide +kernel
theorem dX12_lay_42 : decode cX12_lay 42 = .ok (.iadd, 1) := by decide +kernel
theorem dX12_lay_43 : decode cX12_lay 43 = .ok (.aload_n 0, 1) := by decide +kernel
theorem dX12_lay_44 : decode cX12_lay 44 = .ok (.getfield 114, 3) := by decide +kernel
theorem dX12_lay_47 : decode cX12_lay 47 = .ok (.aload_n 0, 1) := by decide +kernel
theorem dX12_lay_48 : decode cX12_lay 48 = .ok (.getfield 105, 3) := by decide +kernel
theorem dX12_lay_51 : decode cX12_lay 51 = .ok (.iload_n 1, 1) := by decide +kernel
theorem dX12_lay_52 : decode cX12_lay 52 = .ok (.iaload, 1) := by decide +kernel
theorem dX12_lay_53 : decode cX12_lay 53 = .ok (.iaload, 1) := by decide +kernel
theorem dX12_lay_54 : decode cX12_lay 54 = .ok (.invokevirtual 329, 3) := by decide +kernel
theorem dX12_lay_57 : decode cX12_lay 57 = .ok (.goto 167, 3) := by decide +kernel
theorem dX12_lay_60 : decode cX12_lay 60 = .ok (.aload_n 0, 1) := by decide +kernel
theorem dX12_lay_61 : decode cX12_lay 61 = .ok (.getfield 93, 3) := by decide +kernel
theorem dX12_lay_64 : decode cX12_lay 64 = .ok (.iload_n 1, 1) := by decide +kernel
theorem dX12_lay_65 : decode cX12_lay 65 = .ok (.iaload, 1) := by decide +kernel
theorem dX12_lay_66 : decode cX12_lay 66 = .ok (.iconst (-1), 1) := by decide +kernel
theorem dX12_lay_67 : decode cX12_lay 67 = .ok (.if_icmp .ne 12, 3) := by decide +kernel
theorem dX12_lay_70 : decode cX12_lay 70 = .ok (.aload_n 0, 1) := by decide +kernel
theorem dX12_lay_71 : decode cX12_lay 71 = .ok (.iload_n 2, 1) := by decide +kernel
theorem dX12_lay_72 : decode cX12_lay 72 = .ok (.iconst 1, 1) := by decide +kernel
theorem dX12_lay_73 : decode cX12_lay 73 = .ok (.invokevirtual 153, 3) := by decide +kernel
theorem dX12_lay_76 : decode cX12_lay 76 = .ok (.goto 148, 3) := by decide +kernel
theorem dX12_lay_79 : decode cX12_lay 79 = .ok (.aload_n 0, 1) := by decide +kernel
theorem dX12_lay_80 : decode cX12_lay 80 = .ok (.getfield 93, 3) := by decide +kernel
theorem dX12_lay_83 : decode cX12_lay 83 = .ok (.iload_n 1, 1) := by decide +kernel
theorem dX12_lay_84 : decode cX12_lay 84 = .ok (.iaload, 1) := by decide +kernel
theorem dX12_lay_85 : decode cX12_lay 85 = .ok (.istore_n 3, 1) := by decide +kernel
theorem dX12_lay_86 : decode cX12_lay 86 = .ok (.aload_n 0, 1) := by decide +kernel
theorem dX12_lay_87 : decode cX12_lay 87 = .ok (.getfield 56, 3) := by decide +kernel
theorem dX12_lay_90 : decode cX12_lay 90 = .ok (.iload_n 3, 1) := by decide +kernel
theorem dX12_lay_91 : decode cX12_lay 91 = .ok (.iaload, 1) := by decide +kernel
theorem dX12_lay_92 : decode cX12_lay 92 = .ok (.iconst 3, 1) := by decide +kernel
theorem dX12_lay_93 : decode cX12_lay 93 = .ok (.if_icmp .gt 7, 3) := by decide +kernel
theorem dX12_lay_96 : decode cX12_lay 96 = .ok (.iconst 1, 1) := by decide +kernel
theorem dX12_lay_97 : decode cX12_lay 97 = .ok (.goto 4, 3) := by decide +kernel
theorem dX12_lay_100 : decode cX12_lay 100 = .ok (.iconst 0, 1) := by decide +kernel
theorem dX12_lay_101 : decode cX12_lay 101 = .ok (.istore 4, 2) := by decide +kernel
theorem dX12_lay_103 : decode cX12_lay 103 = .ok (.aload_n 0, 1) := by decide +kernel
theorem dX12_lay_104 : decode cX12_lay 104 = .ok (.iload_n 2, 1) := by decide +kernel
theorem dX12_lay_105 : decode cX12_lay 105 = .ok (.aload_n 0, 1) := by decide +kernel
theorem dX12_lay_106 : decode cX12_lay 106 = .ok (.getfield 56, 3) := by decide +kernel
theorem dX12_lay_109 : decode cX12_lay 109 = .ok (.iload_n 3, 1) := by decide +kernel
theorem dX12_lay_110 : decode cX12_lay 110 = .ok (.iaload, 1) := by decide +kernel
theorem dX12_lay_111 : decode cX12_lay 111 = .ok (.invokevirtual 153, 3) := by decide +kernel
theorem dX12_lay_114 : decode cX12_lay 114 = .ok (.iinc 2 1, 3) := by decide +kernel
theorem dX12_lay_117 : decode cX12_lay 117 = .ok (.iconst 0, 1) := by decide +kernel
theorem dX12_lay_118 : decode cX12_lay 118 = .ok (.istore 5, 2) := by decide +kernel
theorem dX12_lay_120 : decode cX12_lay 120 = .ok (.iload 5, 2) := by decide +kernel
theorem dX12_lay_122 : decode cX12_lay 122 = .ok (.aload_n 0, 1) := by decide +kernel
theorem dX12_lay_123 : decode cX12_lay 123 = .ok (.getfield 62, 3) := by decide +kernel
theorem dX12_lay_126 : decode cX12_lay 126 = .ok (.iload_n 3, 1) := by decide +kernel
theorem dX12_lay_127 : decode cX12_lay 127 = .ok (.iaload, 1) := by decide +kernel
theorem dX12_lay_128 : decode cX12_lay 128 = .ok (.if_icmp .ge 64, 3) := by decide +kernel
theorem dX12_lay_131 : decode cX12_lay 131 = .ok (.iload 4, 2) := by decide +kernel
theorem dX12_lay_133 : decode cX12_lay 133 = .ok (.ifCond .eq 23, 3) := by decide +kernel
theorem dX12_lay_136 : decode cX12_lay 136 = .ok (.aload_n 0, 1) := by decide +kernel
theorem dX12_lay_137 : decode cX12_lay 137 = .ok (.iload_n 2, 1) := by decide +kernel
theorem dX12_lay_138 : decode cX12_lay 138 = .ok (.aload_n 0, 1) := by decide +kernel
theorem dX12_lay_139 : decode cX12_lay 139 = .ok (.getfield 59, 3) := by decide +kernel
theorem dX12_lay_142 : decode cX12_lay 142 = .ok (.bipush 20, 2) := by decide +kernel
theorem dX12_lay_144 : decode cX12_lay 144 = .ok (.iload_n 3, 1) := by decide +kernel
theorem dX12_lay_145 : decode cX12_lay 145 = .ok (.imul, 1) := by decide +kernel
theorem dX12_lay_146 : decode cX12_lay 146 = .ok (.iload 5, 2) := by decide +kernel
theorem dX12_lay_148 : decode cX12_lay 148 = .ok (.iadd, 1) := by decide +kernel
theorem dX12_lay_149 : decode cX12_lay 149 = .ok (.iaload, 1) := by decide +kernel
theorem dX12_lay_150 : decode cX12_lay 150 = .ok (.invokevirtual 153, 3) := by decide +kernel
theorem dX12_lay_153 : decode cX12_lay 153 = .ok (.goto 20, 3) := by decide +kernel
theorem dX12_lay_156 : decode cX12_lay 156 = .ok (.aload_n 0, 1) := by decide +kernel
theorem dX12_lay_157 : decode cX12_lay 157 = .ok (.iload_n 2, 1) := by decide +kernel
theorem dX12_lay_158 : decode cX12_lay 158 = .ok (.aload_n 0, 1) := by decide +kernel
theorem dX12_lay_159 : decode cX12_lay 159 = .ok (.getfield 59, 3) := by decide +kernel
theorem dX12_lay_162 : decode cX12_lay 162 = .ok (.bipush 20, 2) := by decide +kernel
theorem dX12_lay_164 : decode cX12_lay 164 = .ok (.iload_n 3, 1) := by decide +kernel
theorem dX12_lay_165 : decode cX12_lay 165 = .ok (.imul, 1) := by decide +kernel
theorem dX12_lay_166 : decode cX12_lay 166 = .ok (.iload 5, 2) := by decide +kernel
theorem dX12_lay_168 : decode cX12_lay 168 = .ok (.iadd, 1) := by decide +kernel
theorem dX12_lay_169 : decode cX12_lay 169 = .ok (.iaload, 1) := by decide +kernel
theorem dX12_lay_170 : decode cX12_lay 170 = .ok (.invokevirtual 329, 3) := by decide +kernel
theorem dX12_lay_173 : decode cX12_lay 173 = .ok (.iload_n 2, 1) := by decide +kernel
theorem dX12_lay_174 : decode cX12_lay 174 = .ok (.iload 4, 2) := by decide +kernel
theorem dX12_lay_176 : decode cX12_lay 176 = .ok (.ifCond .eq 7, 3) := by decide +kernel
theorem dX12_lay_179 : decode cX12_lay 179 = .ok (.iconst 1, 1) := by decide +kernel
theorem dX12_lay_180 : decode cX12_lay 180 = .ok (.goto 4, 3) := by decide +kernel
theorem dX12_lay_183 : decode cX12_lay 183 = .ok (.iconst 4, 1) := by decide +kernel
theorem dX12_lay_184 : decode cX12_lay 184 = .ok (.iadd, 1) := by decide +kernel
theorem dX12_lay_185 : decode cX12_lay 185 = .ok (.istore_n 2, 1) := by decide +kernel
theorem dX12_lay_186 : decode cX12_lay 186 = .ok (.iinc 5 1, 3) := by decide +kernel
theorem dX12_lay_189 : decode cX12_lay 189 = .ok (.goto (-69), 3) := by decide +kernel
theorem dX12_lay_192 : decode cX12_lay 192 = .ok (.aload_n 0, 1) := by decide +kernel
theorem dX12_lay_193 : decode cX12_lay 193 = .ok (.getfield 56, 3) := by decide +kernel
theorem dX12_lay_196 : decode cX12_lay 196 = .ok (.iload_n 3, 1) := by decide +kernel
theorem dX12_lay_197 : decode cX12_lay 197 = .ok (.iaload, 1) := by decide +kernel
theorem dX12_lay_198 : decode cX12_lay 198 = .ok (.iconst 3, 1) := by decide +kernel
theorem dX12_lay_199 : decode cX12_lay 199 = .ok (.if_icmp .ne 9, 3) := by decide +kernel
theorem dX12_lay_202 : decode cX12_lay 202 = .ok (.aload_n 0, 1) := by decide +kernel
theorem dX12_lay_203 : decode cX12_lay 203 = .ok (.iload_n 2, 1) := by decide +kernel
theorem dX12_lay_204 : decode cX12_lay 204 = .ok (.iconst 0, 1) := by decide +kernel
theorem dX12_lay_205 : decode cX12_lay 205 = .ok (.invokevirtual 153, 3) := by decide +kernel
theorem dX12_lay_208 : decode cX12_lay 208 = .ok (.aload_n 0, 1) := by decide +kernel
theorem dX12_lay_209 : decode cX12_lay 209 = .ok (.getfield 56, 3) := by decide +kernel
theorem dX12_lay_212 : decode cX12_lay 212 = .ok (.iload_n 3, 1) := by decide +kernel
theorem dX12_lay_213 : decode cX12_lay 213 = .ok (.iaload, 1) := by decide +kernel
theorem dX12_lay_214 : decode cX12_lay 214 = .ok (.iconst 5, 1) := by decide +kernel
theorem dX12_lay_215 : decode cX12_lay 215 = .ok (.if_icmp .ne 9, 3) := by decide +kernel
theorem dX12_lay_218 : decode cX12_lay 218 = .ok (.aload_n 0, 1) := by decide +kernel
theorem dX12_lay_219 : decode cX12_lay 219 = .ok (.iload_n 2, 1) := by decide +kernel
theorem dX12_lay_220 : decode cX12_lay 220 = .ok (.iconst 0, 1) := by decide +kernel
theorem dX12_lay_221 : decode cX12_lay 221 = .ok (.invokevirtual 329, 3) := by decide +kernel
theorem dX12_lay_224 : decode cX12_lay 224 = .ok (.return_, 1) := by decide +kernel
theorem dX12_way__0 : decode cX12_way_ 0 = .ok (.iconst 1, 1) := by decide +kernel
theorem dX12_way__1 : decode cX12_way_ 1 = .ok (.istore_n 2, 1) := by decide +kernel
theorem dX12_way__2 : decode cX12_way_ 2 = .ok (.iload_n 2, 1) := by decide +kernel
theorem dX12_way__3 : decode cX12_way_ 3 = .ok (.aload_n 0, 1) := by decide +kernel
theorem dX12_way__4 : decode cX12_way_ 4 = .ok (.getfield 117, 3) := by decide +kernel
theorem dX12_way__7 : decode cX12_way_ 7 = .ok (.iload_n 1, 1) := by decide +kernel
theorem dX12_way__8 : decode cX12_way_ 8 = .ok (.iaload, 1) := by decide +kernel
theorem dX12_way__9 : decode cX12_way_ 9 = .ok (.if_icmp .gt 128, 3) := by decide +kernel
theorem dX12_way__12 : decode cX12_way_ 12 = .ok (.iload_n 1, 1) := by decide +kernel
theorem dX12_way__13 : decode cX12_way_ 13 = .ok (.istore_n 3, 1) := by decide +kernel
theorem dX12_way__14 : decode cX12_way_ 14 = .ok (.aload_n 0, 1) := by decide +kernel
theorem dX12_way__15 : decode cX12_way_ 15 = .ok (.getfield 117, 3) := by decide +kernel
theorem dX12_way__18 : decode cX12_way_ 18 = .ok (.iload_n 3, 1) := by decide +kernel
theorem dX12_way__19 : decode cX12_way_ 19 = .ok (.iaload, 1) := by decide +kernel
theorem dX12_way__20 : decode cX12_way_ 20 = .ok (.iload_n 2, 1) := by decide +kernel
theorem dX12_way__21 : decode cX12_way_ 21 = .ok (.if_icmp .le 13, 3) := by decide +kernel
theorem dX12_way__24 : decode cX12_way_ 24 = .ok (.aload_n 0, 1) := by decide +kernel
theorem dX12_way__25 : decode cX12_way_ 25 = .ok (.getfield 108, 3) := by decide +kernel
theorem dX12_way__28 : decode cX12_way_ 28 = .ok (.iload_n 3, 1) := by decide +kernel
theorem dX12_way__29 : decode cX12_way_ 29 = .ok (.iaload, 1) := by decide +kernel
theorem dX12_way__30 : decode cX12_way_ 30 = .ok (.istore_n 3, 1) := by decide +kernel
theorem dX12_way__31 : decode cX12_way_ 31 = .ok (.goto (-17), 3) := by decide +kernel
theorem dX12_way__34 : decode cX12_way_ 34 = .ok (.aload_n 0, 1) := by decide +kernel
theorem dX12_way__35 : decode cX12_way_ 35 = .ok (.getfield 332, 3) := by decide +kernel
theorem dX12_way__38 : decode cX12_way_ 38 = .ok (.ifCond .ne 12, 3) := by decide +kernel
theorem dX12_way__41 : decode cX12_way_ 41 = .ok (.aload_n 0, 1) := by decide +kernel
theorem dX12_way__42 : decode cX12_way_ 42 = .ok (.aload_n 0, 1) := by decide +kernel
theorem dX12_way__43 : decode cX12_way_ 43 = .ok (.getfield 335, 3) := by decide +kernel
theorem dX12_way__46 : decode cX12_way_ 46 = .ok (.iconst 0, 1) := by decide +kernel
theorem dX12_way__47 : decode cX12_way_ 47 = .ok (.invokevirtual 153, 3) := by decide +kernel
theorem dX12_way__50 : decode cX12_way_ 50 = .ok (.aload_n 0, 1) := by decide +kernel
theorem dX12_way__51 : decode cX12_way_ 51 = .ok (.getfield 105, 3) := by decide +kernel
theorem dX12_way__54 : decode cX12_way_ 54 = .ok (.aload_n 0, 1) := by decide +kernel
theorem dX12_way__55 : decode cX12_way_ 55 = .ok (.getfield 108, 3) := by decide +kernel
theorem dX12_way__58 : decode cX12_way_ 58 = .ok (.iload_n 3, 1) := by decide +kernel
theorem dX12_way__59 : decode cX12_way_ 59 = .ok (.iaload, 1) := by decide +kernel
theorem dX12_way__60 : decode cX12_way_ 60 = .ok (.iaload, 1) := by decide +kernel
theorem dX12_way__61 : decode cX12_way_ 61 = .ok (.iload_n 3, 1) := by decide +kernel
theorem dX12_way__62 : decode cX12_way_ 62 = .ok (.if_icmp .ne 7, 3) := by decide +kernel
theorem dX12_way__65 : decode cX12_way_ 65 = .ok (.iconst 1, 1) := by decide +kernel
theorem dX12_way__66 : decode cX12_way_ 66 = .ok (.goto 4, 3) := by decide +kernel
theorem dX12_way__69 : decode cX12_way_ 69 = .ok (.iconst 0, 1) := by decide +kernel
theorem dX12_way__70 : decode cX12_way_ 70 = .ok (.istore 4, 2) := by decide +kernel
theorem dX12_way__72 : decode cX12_way_ 72 = .ok (.aload_n 0, 1) := by decide +kernel
theorem dX12_way__73 : decode cX12_way_ 73 = .ok (.aload_n 0, 1) := by decide +kernel
theorem dX12_way__74 : decode cX12_way_ 74 = .ok (.getfield 335, 3) := by decide +kernel
theorem dX12_way__77 : decode cX12_way_ 77 = .ok (.aload_n 0, 1) := by decide +kernel
theorem dX12_way__78 : decode cX12_way_ 78 = .ok (.getfield 7, 3) := by decide +kernel
theorem dX12_way__81 : decode cX12_way_ 81 = .ok (.aload_n 0, 1) := by decide +kernel
theorem dX12_way__82 : decode cX12_way_ 82 = .ok (.getfield 335, 3) := by decide +kernel
theorem dX12_way__85 : decode cX12_way_ 85 = .ok (.iaload, 1) := by decide +kernel
theorem dX12_way__86 : decode cX12_way_ 86 = .ok (.iload 4, 2) := by decide +kernel
theorem dX12_way__88 : decode cX12_way_ 88 = .ok (.aload_n 0, 1) := by decide +kernel
theorem dX12_way__89 : decode cX12_way_ 89 = .ok (.getfield 332, 3) := by decide +kernel
theorem dX12_way__92 : decode cX12_way_ 92 = .ok (.ishl, 1) := by decide +kernel
theorem dX12_way__93 : decode cX12_way_ 93 = .ok (.ior, 1) := by decide +kernel
theorem dX12_way__94 : decode cX12_way_ 94 = .ok (.invokevirtual 153, 3) := by decide +kernel
theorem dX12_way__97 : decode cX12_way_ 97 = .ok (.aload_n 0, 1) := by decide +kernel
theorem dX12_way__98 : decode cX12_way_ 98 = .ok (.dup, 1) := by decide +kernel
theorem dX12_way__99 : decode cX12_way_ 99 = .ok (.getfield 332, 3) := by decide +kernel
theorem dX12_way__102 : decode cX12_way_ 102 = .ok (.iconst 1, 1) := by decide +kernel
theorem dX12_way__103 : decode cX12_way_ 103 = .ok (.iadd, 1) := by decide +kernel
theorem dX12_way__104 : decode cX12_way_ 104 = .ok (.putfield 332, 3) := by decide +kernel
theorem dX12_way__107 : decode cX12_way_ 107 = .ok (.aload_n 0, 1) := by decide +kernel
theorem dX12_way__108 : decode cX12_way_ 108 = .ok (.getfield 332, 3) := by decide +kernel
theorem dX12_way__111 : decode cX12_way_ 111 = .ok (.bipush 8, 2) := by decide +kernel
theorem dX12_way__113 : decode cX12_way_ 113 = .ok (.if_icmp .ne 18, 3) := by decide +kernel
theorem dX12_way__116 : decode cX12_way_ 116 = .ok (.aload_n 0, 1) := by decide +kernel
theorem dX12_way__117 : decode cX12_way_ 117 = .ok (.iconst 0, 1) := by decide +kernel
theorem dX12_way__118 : decode cX12_way_ 118 = .ok (.putfield 332, 3) := by decide +kernel
theorem dX12_way__121 : decode cX12_way_ 121 = .ok (.aload_n 0, 1) := by decide +kernel
theorem dX12_way__122 : decode cX12_way_ 122 = .ok (.dup, 1) := by decide +kernel
theorem dX12_way__123 : decode cX12_way_ 123 = .ok (.getfield 335, 3) := by decide +kernel
theorem dX12_way__126 : decode cX12_way_ 126 = .ok (.iconst 1, 1) := by decide +kernel
theorem dX12_way__127 : decode cX12_way_ 127 = .ok (.iadd, 1) := by decide +kernel
theorem dX12_way__128 : decode cX12_way_ 128 = .ok (.putfield 335, 3) := by decide +kernel
theorem dX12_way__131 : decode cX12_way_ 131 = .ok (.iinc 2 1, 3) := by decide +kernel
theorem dX12_way__134 : decode cX12_way_ 134 = .ok (.goto (-132), 3) := by decide +kernel
theorem dX12_way__137 : decode cX12_way_ 137 = .ok (.return_, 1) := by decide +kernel
theorem dX12_tree_0 : decode cX12_tree 0 = .ok (.iload_n 1, 1) := by decide +kernel
theorem dX12_tree_1 : decode cX12_tree 1 = .ok (.ifCond .ge 6, 3) := by decide +kernel
theorem dX12_tree_4 : decode cX12_tree 4 = .ok (.bipush (-2), 2) := by decide +kernel
theorem dX12_tree_6 : decode cX12_tree 6 = .ok (.ireturn, 1) := by decide +kernel
theorem dX12_tree_7 : decode cX12_tree 7 = .ok (.aload_n 0, 1) := by decide +kernel
theorem dX12_tree_8 : decode cX12_tree 8 = .ok (.getfield 303, 3) := by decide +kernel
theorem dX12_tree_11 : decode cX12_tree 11 = .ok (.ifCond .ne 6, 3) := by decide +kernel
theorem dX12_tree_14 : decode cX12_tree 14 = .ok (.bipush (-3), 2) := by decide +kernel
theorem dX12_tree_16 : decode cX12_tree 16 = .ok (.ireturn, 1) := by decide +kernel
theorem dX12_tree_17 : decode cX12_tree 17 = .ok (.aload_n 0, 1) := by decide +kernel
theorem dX12_tree_18 : decode cX12_tree 18 = .ok (.invokevirtual 338, 3) := by decide +kernel
theorem dX12_tree_21 : decode cX12_tree 21 = .ok (.aload_n 0, 1) := by decide +kernel
theorem dX12_tree_22 : decode cX12_tree 22 = .ok (.getfield 314, 3) := by decide +kernel
theorem dX12_tree_25 : decode cX12_tree 25 = .ok (.iconst 1, 1) := by decide +kernel
theorem dX12_tree_26 : decode cX12_tree 26 = .ok (.isub, 1) := by decide +kernel
theorem dX12_tree_27 : decode cX12_tree 27 = .ok (.istore_n 2, 1) := by decide +kernel
theorem dX12_tree_28 : decode cX12_tree 28 = .ok (.aload_n 0, 1) := by decide +kernel
theorem dX12_tree_29 : decode cX12_tree 29 = .ok (.iconst 0, 1) := by decide +kernel
theorem dX12_tree_30 : decode cX12_tree 30 = .ok (.invokevirtual 341, 3) := by decide +kernel
theorem dX12_tree_33 : decode cX12_tree 33 = .ok (.iload_n 1, 1) := by decide +kernel
theorem dX12_tree_34 : decode cX12_tree 34 = .ok (.i2l, 1) := by decide +kernel
theorem dX12_tree_35 : decode cX12_tree 35 = .ok (.ldc2_w 169, 3) := by decide +kernel
theorem dX12_tree_38 : decode cX12_tree 38 = .ok (.ladd, 1) := by decide +kernel
theorem dX12_tree_39 : decode cX12_tree 39 = .ok (.aload_n 0, 1) := by decide +kernel
theorem dX12_tree_40 : decode cX12_tree 40 = .ok (.getfield 111, 3) := by decide +kernel
theorem dX12_tree_43 : decode cX12_tree 43 = .ok (.iload_n 2, 1) := by decide +kernel
theorem dX12_tree_44 : decode cX12_tree 44 = .ok (.iaload, 1) := by decide +kernel
theorem dX12_tree_45 : decode cX12_tree 45 = .ok (.i2l, 1) := by decide +kernel
theorem dX12_tree_46 : decode cX12_tree 46 = .ok (.ladd, 1) := by decide +kernel
theorem dX12_tree_47 : decode cX12_tree 47 = .ok (.lstore_n 3, 1) := by decide +kernel
theorem dX12_tree_48 : decode cX12_tree 48 = .ok (.iconst 0, 1) := by decide +kernel
theorem dX12_tree_49 : decode cX12_tree 49 = .ok (.istore 5, 2) := by decide +kernel
theorem dX12_tree_51 : decode cX12_tree 51 = .ok (.iconst 0, 1) := by decide +kernel
theorem dX12_tree_52 : decode cX12_tree 52 = .ok (.istore 6, 2) := by decide +kernel
theorem dX12_tree_54 : decode cX12_tree 54 = .ok (.iload 6, 2) := by decide +kernel
theorem dX12_tree_56 : decode cX12_tree 56 = .ok (.aload_n 0, 1) := by decide +kernel
theorem dX12_tree_57 : decode cX12_tree 57 = .ok (.getfield 303, 3) := by decide +kernel
theorem dX12_tree_60 : decode cX12_tree 60 = .ok (.if_icmp .ge 91, 3) := by decide +kernel
theorem dX12_tree_63 : decode cX12_tree 63 = .ok (.aload_n 0, 1) := by decide +kernel
theorem dX12_tree_64 : decode cX12_tree 64 = .ok (.iload 6, 2) := by decide +kernel
theorem dX12_tree_66 : decode cX12_tree 66 = .ok (.aload_n 0, 1) := by decide +kernel
theorem dX12_tree_67 : decode cX12_tree 67 = .ok (.getfield 71, 3) := by decide +kernel
theorem dX12_tree_70 : decode cX12_tree 70 = .ok (.iload 6, 2) := by decide +kernel
theorem dX12_tree_72 : decode cX12_tree 72 = .ok (.iaload, 1) := by decide +kernel
theorem dX12_tree_73 : decode cX12_tree 73 = .ok (.invokevirtual 311, 3) := by decide +kernel
theorem dX12_tree_76 : decode cX12_tree 76 = .ok (.istore 7, 2) := by decide +kernel
theorem dX12_tree_78 : decode cX12_tree 78 = .ok (.aload_n 0, 1) := by decide +kernel
theorem dX12_tree_79 : decode cX12_tree 79 = .ok (.getfield 117, 3) := by decide +kernel
theorem dX12_tree_82 : decode cX12_tree 82 = .ok (.iconst 0, 1) := by decide +kernel
theorem dX12_tree_83 : decode cX12_tree 83 = .ok (.iaload, 1) := by decide +kernel
theorem dX12_tree_84 : decode cX12_tree 84 = .ok (.istore 8, 2) := by decide +kernel
theorem dX12_tree_86 : decode cX12_tree 86 = .ok (.iconst 0, 1) := by decide +kernel
theorem dX12_tree_87 : decode cX12_tree 87 = .ok (.istore 9, 2) := by decide +kernel
theorem dX12_tree_89 : decode cX12_tree 89 = .ok (.iload 9, 2) := by decide +kernel
theorem dX12_tree_91 : decode cX12_tree 91 = .ok (.iload 7, 2) := by decide +kernel
theorem dX12_tree_93 : decode cX12_tree 93 = .ok (.if_icmp .ge 31, 3) := by decide +kernel
theorem dX12_tree_96 : decode cX12_tree 96 = .ok (.iload 8, 2) := by decide +kernel
theorem dX12_tree_98 : decode cX12_tree 98 = .ok (.aload_n 0, 1) := by decide +kernel
theorem dX12_tree_99 : decode cX12_tree 99 = .ok (.getfield 117, 3) := by decide +kernel
theorem dX12_tree_102 : decode cX12_tree 102 = .ok (.aload_n 0, 1) := by decide +kernel
theorem dX12_tree_103 : decode cX12_tree 103 = .ok (.getfield 120, 3) := by decide +kernel
theorem dX12_tree_106 : decode cX12_tree 106 = .ok (.aload_n 0, 1) := by decide +kernel
theorem dX12_tree_107 : decode cX12_tree 107 = .ok (.getfield 90, 3) := by decide +kernel
theorem dX12_tree_110 : decode cX12_tree 110 = .ok (.iload 9, 2) := by decide +kernel
theorem dX12_tree_112 : decode cX12_tree 112 = .ok (.iaload, 1) := by decide +kernel
theorem dX12_tree_113 : decode cX12_tree 113 = .ok (.iaload, 1) := by decide +kernel
theorem dX12_tree_114 : decode cX12_tree 114 = .ok (.iaload, 1) := by decide +kernel
theorem dX12_tree_115 : decode cX12_tree 115 = .ok (.iadd, 1) := by decide +kernel
theorem dX12_tree_116 : decode cX12_tree 116 = .ok (.istore 8, 2) := by decide +kernel
theorem dX12_tree_118 : decode cX12_tree 118 = .ok (.iinc 9 1, 3) := by decide +kernel
theorem dX12_tree_121 : decode cX12_tree 121 = .ok (.goto (-32), 3) := by decide +kernel
theorem dX12_tree_124 : decode cX12_tree 124 = .ok (.iload 5, 2) := by decide +kernel
theorem dX12_tree_126 : decode cX12_tree 126 = .ok (.iload 8, 2) := by decide +kernel
theorem dX12_tree_128 : decode cX12_tree 128 = .ok (.iadd, 1) := by decide +kernel
theorem dX12_tree_129 : decode cX12_tree 129 = .ok (.istore 5, 2) := by decide +kernel
theorem dX12_tree_131 : decode cX12_tree 131 = .ok (.lload_n 3, 1) := by decide +kernel
theorem dX12_tree_132 : decode cX12_tree 132 = .ok (.iconst 1, 1) := by decide +kernel
theorem dX12_tree_133 : decode cX12_tree 133 = .ok (.iload 8, 2) := by decide +kernel
theorem dX12_tree_135 : decode cX12_tree 135 = .ok (.bipush 7, 2) := by decide +kernel
theorem dX12_tree_137 : decode cX12_tree 137 = .ok (.iadd, 1) := by decide +kernel
theorem dX12_tree_138 : decode cX12_tree 138 = .ok (.bipush 8, 2) := by decide +kernel
theorem dX12_tree_140 : decode cX12_tree 140 = .ok (.idiv, 1) := by decide +kernel
theorem dX12_tree_141 : decode cX12_tree 141 = .ok (.iadd, 1) := by decide +kernel
theorem dX12_tree_142 : decode cX12_tree 142 = .ok (.i2l, 1) := by decide +kernel
theorem dX12_tree_143 : decode cX12_tree 143 = .ok (.ladd, 1) := by decide +kernel
theorem dX12_tree_144 : decode cX12_tree 144 = .ok (.lstore_n 3, 1) := by decide +kernel
theorem dX12_tree_145 : decode cX12_tree 145 = .ok (.iinc 6 1, 3) := by decide +kernel
theorem dX12_tree_148 : decode cX12_tree 148 = .ok (.goto (-94), 3) := by decide +kernel
theorem dX12_tree_151 : decode cX12_tree 151 = .ok (.lload_n 3, 1) := by decide +kernel
theorem dX12_tree_152 : decode cX12_tree 152 = .ok (.ldc2_w 164, 3) := by decide +kernel
theorem dX12_tree_155 : decode cX12_tree 155 = .ok (.lcmp, 1) := by decide +kernel
theorem dX12_tree_156 : decode cX12_tree 156 = .ok (.ifCond .le 6, 3) := by decide +kernel
theorem dX12_tree_159 : decode cX12_tree 159 = .ok (.bipush (-4), 2) := by decide +kernel
theorem dX12_tree_161 : decode cX12_tree 161 = .ok (.ireturn, 1) := by decide +kernel
theorem dX12_tree_162 : decode cX12_tree 162 = .ok (.aload_n 0, 1) := by decide +kernel
theorem dX12_tree_163 : decode cX12_tree 163 = .ok (.iload_n 1, 1) := by decide +kernel
theorem dX12_tree_164 : decode cX12_tree 164 = .ok (.bipush 12, 2) := by decide +kernel
theorem dX12_tree_166 : decode cX12_tree 166 = .ok (.iadd, 1) := by decide +kernel
theorem dX12_tree_167 : decode cX12_tree 167 = .ok (.invokevirtual 341, 3) := by decide +kernel
theorem dX12_tree_170 : decode cX12_tree 170 = .ok (.aload_n 0, 1) := by decide +kernel
theorem dX12_tree_171 : decode cX12_tree 171 = .ok (.iload_n 1, 1) := by decide +kernel
theorem dX12_tree_172 : decode cX12_tree 172 = .ok (.bipush 12, 2) := by decide +kernel
theorem dX12_tree_174 : decode cX12_tree 174 = .ok (.aload_n 0, 1) := by decide +kernel
theorem dX12_tree_175 : decode cX12_tree 175 = .ok (.getfield 111, 3) := by decide +kernel
theorem dX12_tree_178 : decode cX12_tree 178 = .ok (.iload_n 2, 1) := by decide +kernel
theorem dX12_tree_179 : decode cX12_tree 179 = .ok (.iaload, 1) := by decide +kernel
theorem dX12_tree_180 : decode cX12_tree 180 = .ok (.iadd, 1) := by decide +kernel
theorem dX12_tree_181 : decode cX12_tree 181 = .ok (.invokevirtual 329, 3) := by decide +kernel
theorem dX12_tree_184 : decode cX12_tree 184 = .ok (.aload_n 0, 1) := by decide +kernel
theorem dX12_tree_185 : decode cX12_tree 185 = .ok (.iload_n 1, 1) := by decide +kernel
theorem dX12_tree_186 : decode cX12_tree 186 = .ok (.iconst 4, 1) := by decide +kernel
theorem dX12_tree_187 : decode cX12_tree 187 = .ok (.iadd, 1) := by decide +kernel
theorem dX12_tree_188 : decode cX12_tree 188 = .ok (.aload_n 0, 1) := by decide +kernel
theorem dX12_tree_189 : decode cX12_tree 189 = .ok (.getfield 314, 3) := by decide +kernel
theorem dX12_tree_192 : decode cX12_tree 192 = .ok (.invokevirtual 329, 3) := by decide +kernel
theorem dX12_tree_195 : decode cX12_tree 195 = .ok (.aload_n 0, 1) := by decide +kernel
theorem dX12_tree_196 : decode cX12_tree 196 = .ok (.iload_n 1, 1) := by decide +kernel
theorem dX12_tree_197 : decode cX12_tree 197 = .ok (.bipush 8, 2) := by decide +kernel
theorem dX12_tree_199 : decode cX12_tree 199 = .ok (.iadd, 1) := by decide +kernel
theorem dX12_tree_200 : decode cX12_tree 200 = .ok (.iload_n 1, 1) := by decide +kernel
theorem dX12_tree_201 : decode cX12_tree 201 = .ok (.bipush 12, 2) := by decide +kernel
theorem dX12_tree_203 : decode cX12_tree 203 = .ok (.iadd, 1) := by decide +kernel
theorem dX12_tree_204 : decode cX12_tree 204 = .ok (.invokevirtual 329, 3) := by decide +kernel
theorem dX12_tree_207 : decode cX12_tree 207 = .ok (.iconst 0, 1) := by decide +kernel
theorem dX12_tree_208 : decode cX12_tree 208 = .ok (.istore 6, 2) := by decide +kernel
theorem dX12_tree_210 : decode cX12_tree 210 = .ok (.iload 6, 2) := by decide +kernel
theorem dX12_tree_212 : decode cX12_tree 212 = .ok (.aload_n 0, 1) := by decide +kernel
theorem dX12_tree_213 : decode cX12_tree 213 = .ok (.getfield 314, 3) := by decide +kernel
theorem dX12_tree_216 : decode cX12_tree 216 = .ok (.if_icmp .ge 15, 3) := by decide +kernel
theorem dX12_tree_219 : decode cX12_tree 219 = .ok (.aload_n 0, 1) := by decide +kernel
theorem dX12_tree_220 : decode cX12_tree 220 = .ok (.iload 6, 2) := by decide +kernel
theorem dX12_tree_222 : decode cX12_tree 222 = .ok (.invokevirtual 343, 3) := by decide +kernel
theorem dX12_tree_225 : decode cX12_tree 225 = .ok (.iinc 6 1, 3) := by decide +kernel
theorem dX12_tree_228 : decode cX12_tree 228 = .ok (.goto (-18), 3) := by decide +kernel
theorem dX12_tree_231 : decode cX12_tree 231 = .ok (.aload_n 0, 1) := by decide +kernel
theorem dX12_tree_232 : decode cX12_tree 232 = .ok (.iload_n 1, 1) := by decide +kernel
theorem dX12_tree_233 : decode cX12_tree 233 = .ok (.bipush 12, 2) := by decide +kernel
theorem dX12_tree_235 : decode cX12_tree 235 = .ok (.iadd, 1) := by decide +kernel
theorem dX12_tree_236 : decode cX12_tree 236 = .ok (.aload_n 0, 1) := by decide +kernel
theorem dX12_tree_237 : decode cX12_tree 237 = .ok (.getfield 111, 3) := by decide +kernel
theorem dX12_tree_240 : decode cX12_tree 240 = .ok (.iload_n 2, 1) := by decide +kernel
theorem dX12_tree_241 : decode cX12_tree 241 = .ok (.iaload, 1) := by decide +kernel
theorem dX12_tree_242 : decode cX12_tree 242 = .ok (.iadd, 1) := by decide +kernel
theorem dX12_tree_243 : decode cX12_tree 243 = .ok (.putfield 335, 3) := by decide +kernel
theorem dX12_tree_246 : decode cX12_tree 246 = .ok (.iconst 0, 1) := by decide +kernel
theorem dX12_tree_247 : decode cX12_tree 247 = .ok (.istore 6, 2) := by decide +kernel
theorem dX12_tree_249 : decode cX12_tree 249 = .ok (.iload 6, 2) := by decide +kernel
theorem dX12_tree_251 : decode cX12_tree 251 = .ok (.aload_n 0, 1) := by decide +kernel
theorem dX12_tree_252 : decode cX12_tree 252 = .ok (.getfield 303, 3) := by decide +kernel
theorem dX12_tree_255 : decode cX12_tree 255 = .ok (.if_icmp .ge 159, 3) := by decide +kernel
theorem dX12_tree_258 : decode cX12_tree 258 = .ok (.aload_n 0, 1) := by decide +kernel
theorem dX12_tree_259 : decode cX12_tree 259 = .ok (.iload 6, 2) := by decide +kernel
theorem dX12_tree_261 : decode cX12_tree 261 = .ok (.aload_n 0, 1) := by decide +kernel
theorem dX12_tree_262 : decode cX12_tree 262 = .ok (.getfield 71, 3) := by decide +kernel
theorem dX12_tree_265 : decode cX12_tree 265 = .ok (.iload 6, 2) := by decide +kernel
theorem dX12_tree_267 : decode cX12_tree 267 = .ok (.iaload, 1) := by decide +kernel
theorem dX12_tree_268 : decode cX12_tree 268 = .ok (.invokevirtual 311, 3) := by decide +kernel
theorem dX12_tree_271 : decode cX12_tree 271 = .ok (.istore 7, 2) := by decide +kernel
theorem dX12_tree_273 : decode cX12_tree 273 = .ok (.aload_n 0, 1) := by decide +kernel
theorem dX12_tree_274 : decode cX12_tree 274 = .ok (.getfield 74, 3) := by decide +kernel
theorem dX12_tree_277 : decode cX12_tree 277 = .ok (.iload 6, 2) := by decide +kernel
theorem dX12_tree_279 : decode cX12_tree 279 = .ok (.aload_n 0, 1) := by decide +kernel
theorem dX12_tree_280 : decode cX12_tree 280 = .ok (.getfield 335, 3) := by decide +kernel
theorem dX12_tree_283 : decode cX12_tree 283 = .ok (.iastore, 1) := by decide +kernel
theorem dX12_tree_284 : decode cX12_tree 284 = .ok (.aload_n 0, 1) := by decide +kernel
theorem dX12_tree_285 : decode cX12_tree 285 = .ok (.getfield 77, 3) := by decide +kernel
theorem dX12_tree_288 : decode cX12_tree 288 = .ok (.iload 6, 2) := by decide +kernel
theorem dX12_tree_290 : decode cX12_tree 290 = .ok (.aload_n 0, 1) := by decide +kernel
theorem dX12_tree_291 : decode cX12_tree 291 = .ok (.getfield 117, 3) := by decide +kernel
theorem dX12_tree_294 : decode cX12_tree 294 = .ok (.iconst 0, 1) := by decide +kernel
theorem dX12_tree_295 : decode cX12_tree 295 = .ok (.iaload, 1) := by decide +kernel
theorem dX12_tree_296 : decode cX12_tree 296 = .ok (.iastore, 1) := by decide +kernel
theorem dX12_tree_297 : decode cX12_tree 297 = .ok (.aload_n 0, 1) := by decide +kernel
theorem dX12_tree_298 : decode cX12_tree 298 = .ok (.aload_n 0, 1) := by decide +kernel
theorem dX12_tree_299 : decode cX12_tree 299 = .ok (.getfield 335, 3) := by decide +kernel
theorem dX12_tree_302 : decode cX12_tree 302 = .ok (.sipush 225, 3) := by decide +kernel
theorem dX12_tree_305 : decode cX12_tree 305 = .ok (.invokevirtual 153, 3) := by decide +kernel
theorem dX12_tree_308 : decode cX12_tree 308 = .ok (.aload_n 0, 1) := by decide +kernel
theorem dX12_tree_309 : decode cX12_tree 309 = .ok (.dup, 1) := by decide +kernel
theorem dX12_tree_310 : decode cX12_tree 310 = .ok (.getfield 335, 3) := by decide +kernel
theorem dX12_tree_313 : decode cX12_tree 313 = .ok (.iconst 1, 1) := by decide +kernel
theorem dX12_tree_314 : decode cX12_tree 314 = .ok (.iadd, 1) := by decide +kernel
theorem dX12_tree_315 : decode cX12_tree 315 = .ok (.putfield 335, 3) := by decide +kernel
theorem dX12_tree_318 : decode cX12_tree 318 = .ok (.aload_n 0, 1) := by decide +kernel
theorem dX12_tree_319 : decode cX12_tree 319 = .ok (.iconst 0, 1) := by decide +kernel
theorem dX12_tree_320 : decode cX12_tree 320 = .ok (.putfield 332, 3) := by decide +kernel
theorem dX12_tree_323 : decode cX12_tree 323 = .ok (.iconst 0, 1) := by decide +kernel
theorem dX12_tree_324 : decode cX12_tree 324 = .ok (.istore 8, 2) := by decide +kernel
theorem dX12_tree_326 : decode cX12_tree 326 = .ok (.iload 8, 2) := by decide +kernel
theorem dX12_tree_328 : decode cX12_tree 328 = .ok (.iload 7, 2) := by decide +kernel
theorem dX12_tree_330 : decode cX12_tree 330 = .ok (.if_icmp .ge 52, 3) := by decide +kernel
theorem dX12_tree_333 : decode cX12_tree 333 = .ok (.aload_n 0, 1) := by decide +kernel
theorem dX12_tree_334 : decode cX12_tree 334 = .ok (.getfield 77, 3) := by decide +kernel
theorem dX12_tree_337 : decode cX12_tree 337 = .ok (.iload 6, 2) := by decide +kernel
theorem dX12_tree_339 : decode cX12_tree 339 = .ok (.dup2, 1) := by decide +kernel
theorem dX12_tree_340 : decode cX12_tree 340 = .ok (.iaload, 1) := by decide +kernel
theorem dX12_tree_341 : decode cX12_tree 341 = .ok (.aload_n 0, 1) := by decide +kernel
theorem dX12_tree_342 : decode cX12_tree 342 = .ok (.getfield 117, 3) := by decide +kernel
theorem dX12_tree_345 : decode cX12_tree 345 = .ok (.aload_n 0, 1) := by decide +kernel
theorem dX12_tree_346 : decode cX12_tree 346 = .ok (.getfield 120, 3) := by decide +kernel
theorem dX12_tree_349 : decode cX12_tree 349 = .ok (.aload_n 0, 1) := by decide +kernel
theorem dX12_tree_350 : decode cX12_tree 350 = .ok (.getfield 90, 3) := by decide +kernel
theorem dX12_tree_353 : decode cX12_tree 353 = .ok (.iload 8, 2) := by decide +kernel
theorem dX12_tree_355 : decode cX12_tree 355 = .ok (.iaload, 1) := by decide +kernel
theorem dX12_tree_356 : decode cX12_tree 356 = .ok (.iaload, 1) := by decide +kernel
theorem dX12_tree_357 : decode cX12_tree 357 = .ok (.iaload, 1) := by decide +kernel
theorem dX12_tree_358 : decode cX12_tree 358 = .ok (.iadd, 1) := by decide +kernel
theorem dX12_tree_359 : decode cX12_tree 359 = .ok (.iastore, 1) := by decide +kernel
theorem dX12_tree_360 : decode cX12_tree 360 = .ok (.aload_n 0, 1) := by decide +kernel
theorem dX12_tree_361 : decode cX12_tree 361 = .ok (.aload_n 0, 1) := by decide +kernel
theorem dX12_tree_362 : decode cX12_tree 362 = .ok (.getfield 120, 3) := by decide +kernel
theorem dX12_tree_365 : decode cX12_tree 365 = .ok (.aload_n 0, 1) := by decide +kernel
theorem dX12_tree_366 : decode cX12_tree 366 = .ok (.getfield 90, 3) := by decide +kernel
theorem dX12_tree_369 : decode cX12_tree 369 = .ok (.iload 8, 2) := by decide +kernel
theorem dX12_tree_371 : decode cX12_tree 371 = .ok (.iaload, 1) := by decide +kernel
theorem dX12_tree_372 : decode cX12_tree 372 = .ok (.iaload, 1) := by decide +kernel
theorem dX12_tree_373 : decode cX12_tree 373 = .ok (.invokevirtual 346, 3) := by decide +kernel
theorem dX12_tree_376 : decode cX12_tree 376 = .ok (.iinc 8 1, 3) := by decide +kernel
theorem dX12_tree_379 : decode cX12_tree 379 = .ok (.goto (-53), 3) := by decide +kernel
theorem dX12_tree_382 : decode cX12_tree 382 = .ok (.aload_n 0, 1) := by decide +kernel
theorem dX12_tree_383 : decode cX12_tree 383 = .ok (.iconst 0, 1) := by decide +kernel
theorem dX12_tree_384 : decode cX12_tree 384 = .ok (.invokevirtual 346, 3) := by decide +kernel
theorem dX12_tree_387 : decode cX12_tree 387 = .ok (.aload_n 0, 1) := by decide +kernel
theorem dX12_tree_388 : decode cX12_tree 388 = .ok (.dup, 1) := by decide +kernel
theorem dX12_tree_389 : decode cX12_tree 389 = .ok (.getfield 335, 3) := by decide +kernel
theorem dX12_tree_392 : decode cX12_tree 392 = .ok (.aload_n 0, 1) := by decide +kernel
theorem dX12_tree_393 : decode cX12_tree 393 = .ok (.getfield 332, 3) := by decide +kernel
theorem dX12_tree_396 : decode cX12_tree 396 = .ok (.ifCond .le 7, 3) := by decide +kernel
theorem dX12_tree_399 : decode cX12_tree 399 = .ok (.iconst 1, 1) := by decide +kernel
theorem dX12_tree_400 : decode cX12_tree 400 = .ok (.goto 4, 3) := by decide +kernel
theorem dX12_tree_403 : decode cX12_tree 403 = .ok (.iconst 0, 1) := by decide +kernel
theorem dX12_tree_404 : decode cX12_tree 404 = .ok (.iadd, 1) := by decide +kernel
theorem dX12_tree_405 : decode cX12_tree 405 = .ok (.putfield 335, 3) := by decide +kernel
theorem dX12_tree_408 : decode cX12_tree 408 = .ok (.iinc 6 1, 3) := by decide +kernel
theorem dX12_tree_411 : decode cX12_tree 411 = .ok (.goto (-162), 3) := by decide +kernel
theorem dX12_tree_414 : decode cX12_tree 414 = .ok (.aload_n 0, 1) := by decide +kernel
theorem dX12_tree_415 : decode cX12_tree 415 = .ok (.aload_n 0, 1) := by decide +kernel
theorem dX12_tree_416 : decode cX12_tree 416 = .ok (.getfield 117, 3) := by decide +kernel
theorem dX12_tree_419 : decode cX12_tree 419 = .ok (.iconst 0, 1) := by decide +kernel
theorem dX12_tree_420 : decode cX12_tree 420 = .ok (.iaload, 1) := by decide +kernel
theorem dX12_tree_421 : decode cX12_tree 421 = .ok (.putfield 80, 3) := by decide +kernel
theorem dX12_tree_424 : decode cX12_tree 424 = .ok (.iconst 0, 1) := by decide +kernel
theorem dX12_tree_425 : decode cX12_tree 425 = .ok (.istore 6, 2) := by decide +kernel
theorem dX12_tree_427 : decode cX12_tree 427 = .ok (.iload 6, 2) := by decide +kernel
theorem dX12_tree_429 : decode cX12_tree 429 = .ok (.aload_n 0, 1) := by decide +kernel
theorem dX12_tree_430 : decode cX12_tree 430 = .ok (.getfield 300, 3) := by decide +kernel
theorem dX12_tree_433 : decode cX12_tree 433 = .ok (.if_icmp .ge 48, 3) := by decide +kernel
theorem dX12_tree_436 : decode cX12_tree 436 = .ok (.aload_n 0, 1) := by decide +kernel
theorem dX12_tree_437 : decode cX12_tree 437 = .ok (.getfield 65, 3) := by decide +kernel
theorem dX12_tree_440 : decode cX12_tree 440 = .ok (.iload 6, 2) := by decide +kernel
theorem dX12_tree_442 : decode cX12_tree 442 = .ok (.aload_n 0, 1) := by decide +kernel
theorem dX12_tree_443 : decode cX12_tree 443 = .ok (.getfield 123, 3) := by decide +kernel
theorem dX12_tree_446 : decode cX12_tree 446 = .ok (.iload 6, 2) := by decide +kernel
theorem dX12_tree_448 : decode cX12_tree 448 = .ok (.iaload, 1) := by decide +kernel
theorem dX12_tree_449 : decode cX12_tree 449 = .ok (.ifCond .le 18, 3) := by decide +kernel
theorem dX12_tree_452 : decode cX12_tree 452 = .ok (.aload_n 0, 1) := by decide +kernel
theorem dX12_tree_453 : decode cX12_tree 453 = .ok (.getfield 117, 3) := by decide +kernel
theorem dX12_tree_456 : decode cX12_tree 456 = .ok (.aload_n 0, 1) := by decide +kernel
theorem dX12_tree_457 : decode cX12_tree 457 = .ok (.getfield 120, 3) := by decide +kernel
theorem dX12_tree_460 : decode cX12_tree 460 = .ok (.iload 6, 2) := by decide +kernel
theorem dX12_tree_462 : decode cX12_tree 462 = .ok (.iaload, 1) := by decide +kernel
theorem dX12_tree_463 : decode cX12_tree 463 = .ok (.iaload, 1) := by decide +kernel
theorem dX12_tree_464 : decode cX12_tree 464 = .ok (.goto 10, 3) := by decide +kernel
theorem dX12_tree_467 : decode cX12_tree 467 = .ok (.aload_n 0, 1) := by decide +kernel
theorem dX12_tree_468 : decode cX12_tree 468 = .ok (.getfield 65, 3) := by decide +kernel
theorem dX12_tree_471 : decode cX12_tree 471 = .ok (.iload 6, 2) := by decide +kernel
theorem dX12_tree_473 : decode cX12_tree 473 = .ok (.iaload, 1) := by decide +kernel
theorem dX12_tree_474 : decode cX12_tree 474 = .ok (.iastore, 1) := by decide +kernel
theorem dX12_tree_475 : decode cX12_tree 475 = .ok (.iinc 6 1, 3) := by decide +kernel
theorem dX12_tree_478 : decode cX12_tree 478 = .ok (.goto (-51), 3) := by decide +kernel
theorem dX12_tree_481 : decode cX12_tree 481 = .ok (.iload 5, 2) := by decide +kernel
theorem dX12_tree_483 : decode cX12_tree 483 = .ok (.ireturn, 1) := by decide +kernel
theorem dX12_laid_0 : decode cX12_laid 0 = .ok (.iload_n 1, 1) := by decide +kernel
theorem dX12_laid_1 : decode cX12_laid 1 = .ok (.i2l, 1) := by decide +kernel
theorem dX12_laid_2 : decode cX12_laid 2 = .ok (.lconst 0, 1) := by decide +kernel
theorem dX12_laid_3 : decode cX12_laid 3 = .ok (.aload_n 0, 1) := by decide +kernel
theorem dX12_laid_4 : decode cX12_laid 4 = .ok (.getfield 303, 3) := by decide +kernel
theorem dX12_laid_7 : decode cX12_laid 7 = .ok (.iconst 1, 1) := by decide +kernel
theorem dX12_laid_8 : decode cX12_laid 8 = .ok (.isub, 1) := by decide +kernel
theorem dX12_laid_9 : decode cX12_laid 9 = .ok (.i2l, 1) := by decide +kernel
theorem dX12_laid_10 : decode cX12_laid 10 = .ok (.invokestatic 131, 3) := by decide +kernel
theorem dX12_laid_13 : decode cX12_laid 13 = .ok (.ifCond .eq 15, 3) := by decide +kernel
theorem dX12_laid_16 : decode cX12_laid 16 = .ok (.iload_n 2, 1) := by decide +kernel
theorem dX12_laid_17 : decode cX12_laid 17 = .ok (.i2l, 1) := by decide +kernel
theorem dX12_laid_18 : decode cX12_laid 18 = .ok (.lconst 0, 1) := by decide +kernel
theorem dX12_laid_19 : decode cX12_laid 19 = .ok (.ldc2_w 192, 3) := by decide +kernel
theorem dX12_laid_22 : decode cX12_laid 22 = .ok (.invokestatic 131, 3) := by decide +kernel
theorem dX12_laid_25 : decode cX12_laid 25 = .ok (.ifCond .ne 6, 3) := by decide +kernel
theorem dX12_laid_28 : decode cX12_laid 28 = .ok (.bipush (-2), 2) := by decide +kernel
theorem dX12_laid_30 : decode cX12_laid 30 = .ok (.ireturn, 1) := by decide +kernel
theorem dX12_laid_31 : decode cX12_laid 31 = .ok (.iload_n 2, 1) := by decide +kernel
theorem dX12_laid_32 : decode cX12_laid 32 = .ok (.ifCond .ne 12, 3) := by decide +kernel
theorem dX12_laid_35 : decode cX12_laid 35 = .ok (.aload_n 0, 1) := by decide +kernel
theorem dX12_laid_36 : decode cX12_laid 36 = .ok (.getfield 74, 3) := by decide +kernel
theorem dX12_laid_39 : decode cX12_laid 39 = .ok (.iload_n 1, 1) := by decide +kernel
theorem dX12_laid_40 : decode cX12_laid 40 = .ok (.iaload, 1) := by decide +kernel
theorem dX12_laid_41 : decode cX12_laid 41 = .ok (.goto 28, 3) := by decide +kernel
theorem dX12_laid_44 : decode cX12_laid 44 = .ok (.iload_n 2, 1) := by decide +kernel
theorem dX12_laid_45 : decode cX12_laid 45 = .ok (.iconst 1, 1) := by decide +kernel
theorem dX12_laid_46 : decode cX12_laid 46 = .ok (.if_icmp .ne 12, 3) := by decide +kernel
theorem dX12_laid_49 : decode cX12_laid 49 = .ok (.aload_n 0, 1) := by decide +kernel
theorem dX12_laid_50 : decode cX12_laid 50 = .ok (.getfield 77, 3) := by decide +kernel
theorem dX12_laid_53 : decode cX12_laid 53 = .ok (.iload_n 1, 1) := by decide +kernel
theorem dX12_laid_54 : decode cX12_laid 54 = .ok (.iaload, 1) := by decide +kernel
theorem dX12_laid_55 : decode cX12_laid 55 = .ok (.goto 14, 3) := by decide +kernel
theorem dX12_laid_58 : decode cX12_laid 58 = .ok (.aload_n 0, 1) := by decide +kernel
theorem dX12_laid_59 : decode cX12_laid 59 = .ok (.iload_n 1, 1) := by decide +kernel
theorem dX12_laid_60 : decode cX12_laid 60 = .ok (.aload_n 0, 1) := by decide +kernel
theorem dX12_laid_61 : decode cX12_laid 61 = .ok (.getfield 71, 3) := by decide +kernel
theorem dX12_laid_64 : decode cX12_laid 64 = .ok (.iload_n 1, 1) := by decide +kernel
theorem dX12_laid_65 : decode cX12_laid 65 = .ok (.iaload, 1) := by decide +kernel
theorem dX12_laid_66 : decode cX12_laid 66 = .ok (.invokevirtual 311, 3) := by decide +kernel
theorem dX12_laid_69 : decode cX12_laid 69 = .ok (.ireturn, 1) := by decide +kernel
theorem dX12_bits_0 : decode cX12_bits 0 = .ok (.iload_n 1, 1) := by decide +kernel
theorem dX12_bits_1 : decode cX12_bits 1 = .ok (.iconst (-1), 1) := by decide +kernel
theorem dX12_bits_2 : decode cX12_bits 2 = .ok (.if_icmp .ne 8, 3) := by decide +kernel
theorem dX12_bits_5 : decode cX12_bits 5 = .ok (.aload_n 0, 1) := by decide +kernel
theorem dX12_bits_6 : decode cX12_bits 6 = .ok (.getfield 80, 3) := by decide +kernel
theorem dX12_bits_9 : decode cX12_bits 9 = .ok (.ireturn, 1) := by decide +kernel
theorem dX12_bits_10 : decode cX12_bits 10 = .ok (.iload_n 1, 1) := by decide +kernel
theorem dX12_bits_11 : decode cX12_bits 11 = .ok (.i2l, 1) := by decide +kernel
theorem dX12_bits_12 : decode cX12_bits 12 = .ok (.lconst 0, 1) := by decide +kernel
theorem dX12_bits_13 : decode cX12_bits 13 = .ok (.aload_n 0, 1) := by decide +kernel
theorem dX12_bits_14 : decode cX12_bits 14 = .ok (.getfield 300, 3) := by decide +kernel
theorem dX12_bits_17 : decode cX12_bits 17 = .ok (.iconst 1, 1) := by decide +kernel
theorem dX12_bits_18 : decode cX12_bits 18 = .ok (.isub, 1) := by decide +kernel
theorem dX12_bits_19 : decode cX12_bits 19 = .ok (.i2l, 1) := by decide +kernel
theorem dX12_bits_20 : decode cX12_bits 20 = .ok (.invokestatic 131, 3) := by decide +kernel
theorem dX12_bits_23 : decode cX12_bits 23 = .ok (.ifCond .eq 12, 3) := by decide +kernel
theorem dX12_bits_26 : decode cX12_bits 26 = .ok (.aload_n 0, 1) := by decide +kernel
theorem dX12_bits_27 : decode cX12_bits 27 = .ok (.getfield 65, 3) := by decide +kernel
theorem dX12_bits_30 : decode cX12_bits 30 = .ok (.iload_n 1, 1) := by decide +kernel
theorem dX12_bits_31 : decode cX12_bits 31 = .ok (.iaload, 1) := by decide +kernel
theorem dX12_bits_32 : decode cX12_bits 32 = .ok (.goto 5, 3) := by decide +kernel
theorem dX12_bits_35 : decode cX12_bits 35 = .ok (.bipush (-2), 2) := by decide +kernel
theorem dX12_bits_37 : decode cX12_bits 37 = .ok (.ireturn, 1) := by decide +kernel
theorem dX12_forget_0 : decode cX12_forget 0 = .ok (.aload_n 0, 1) := by decide +kernel
theorem dX12_forget_1 : decode cX12_forget 1 = .ok (.getfield 300, 3) := by decide +kernel
theorem dX12_forget_4 : decode cX12_forget 4 = .ok (.istore_n 1, 1) := by decide +kernel
theorem dX12_forget_5 : decode cX12_forget 5 = .ok (.aload_n 0, 1) := by decide +kernel
theorem dX12_forget_6 : decode cX12_forget 6 = .ok (.iconst 0, 1) := by decide +kernel
theorem dX12_forget_7 : decode cX12_forget 7 = .ok (.putfield 300, 3) := by decide +kernel
theorem dX12_forget_10 : decode cX12_forget 10 = .ok (.aload_n 0, 1) := by decide +kernel
theorem dX12_forget_11 : decode cX12_forget 11 = .ok (.iconst 0, 1) := by decide +kernel
theorem dX12_forget_12 : decode cX12_forget 12 = .ok (.putfield 303, 3) := by decide +kernel
theorem dX12_forget_15 : decode cX12_forget 15 = .ok (.iload_n 1, 1) := by decide +kernel
theorem dX12_forget_16 : decode cX12_forget 16 = .ok (.ireturn, 1) := by decide +kernel
theorem dJ9_abs_067f4_0 : decode cJ9_abs_067f4 0 = .ok (.lload_n 0, 1) := by decide +kernel
theorem dJ9_abs_067f4_1 : decode cJ9_abs_067f4 1 = .ok (.lconst 0, 1) := by decide +kernel
theorem dJ9_abs_067f4_2 : decode cJ9_abs_067f4 2 = .ok (.lcmp, 1) := by decide +kernel
theorem dJ9_abs_067f4_3 : decode cJ9_abs_067f4 3 = .ok (.ifCond .ge 8, 3) := by decide +kernel
theorem dJ9_abs_067f4_6 : decode cJ9_abs_067f4 6 = .ok (.lload_n 0, 1) := by decide +kernel
theorem dJ9_abs_067f4_7 : decode cJ9_abs_067f4 7 = .ok (.lneg, 1) := by decide +kernel
theorem dJ9_abs_067f4_8 : decode cJ9_abs_067f4 8 = .ok (.goto 4, 3) := by decide +kernel
theorem dJ9_abs_067f4_11 : decode cJ9_abs_067f4 11 = .ok (.lload_n 0, 1) := by decide +kernel
theorem dJ9_abs_067f4_12 : decode cJ9_abs_067f4 12 = .ok (.lreturn, 1) := by decide +kernel
theorem dJ9_max_7cf53_0 : decode cJ9_max_7cf53 0 = .ok (.iload_n 0, 1) := by decide +kernel
theorem dJ9_max_7cf53_1 : decode cJ9_max_7cf53 1 = .ok (.iload_n 1, 1) := by decide +kernel
theorem dJ9_max_7cf53_2 : decode cJ9_max_7cf53 2 = .ok (.if_icmp .lt 7, 3) := by decide +kernel
theorem dJ9_max_7cf53_5 : decode cJ9_max_7cf53 5 = .ok (.iload_n 0, 1) := by decide +kernel
theorem dJ9_max_7cf53_6 : decode cJ9_max_7cf53 6 = .ok (.goto 4, 3) := by decide +kernel
theorem dJ9_max_7cf53_9 : decode cJ9_max_7cf53 9 = .ok (.iload_n 1, 1) := by decide +kernel
theorem dJ9_max_7cf53_10 : decode cJ9_max_7cf53 10 = .ok (.ireturn, 1) := by decide +kernel
theorem dJ7_fill_53178_0 : decode cJ7_fill_53178 0 = .ok (.iconst 0, 1) := by decide +kernel
theorem dJ7_fill_53178_1 : decode cJ7_fill_53178 1 = .ok (.istore_n 2, 1) := by decide +kernel
theorem dJ7_fill_53178_2 : decode cJ7_fill_53178 2 = .ok (.aload_n 0, 1) := by decide +kernel
theorem dJ7_fill_53178_3 : decode cJ7_fill_53178 3 = .ok (.arraylength, 1) := by decide +kernel
theorem dJ7_fill_53178_4 : decode cJ7_fill_53178 4 = .ok (.istore_n 3, 1) := by decide +kernel
theorem dJ7_fill_53178_5 : decode cJ7_fill_53178 5 = .ok (.iload_n 2, 1) := by decide +kernel
theorem dJ7_fill_53178_6 : decode cJ7_fill_53178 6 = .ok (.iload_n 3, 1) := by decide +kernel
theorem dJ7_fill_53178_7 : decode cJ7_fill_53178 7 = .ok (.if_icmp .ge 13, 3) := by decide +kernel
theorem dJ7_fill_53178_10 : decode cJ7_fill_53178 10 = .ok (.aload_n 0, 1) := by decide +kernel
theorem dJ7_fill_53178_11 : decode cJ7_fill_53178 11 = .ok (.iload_n 2, 1) := by decide +kernel
theorem dJ7_fill_53178_12 : decode cJ7_fill_53178 12 = .ok (.iload_n 1, 1) := by decide +kernel
theorem dJ7_fill_53178_13 : decode cJ7_fill_53178 13 = .ok (.iastore, 1) := by decide +kernel
theorem dJ7_fill_53178_14 : decode cJ7_fill_53178 14 = .ok (.iinc 2 1, 3) := by decide +kernel
theorem dJ7_fill_53178_17 : decode cJ7_fill_53178 17 = .ok (.goto (-12), 3) := by decide +kernel
theorem dJ7_fill_53178_20 : decode cJ7_fill_53178 20 = .ok (.return_, 1) := by decide +kernel
theorem dL_law_0 : decode cL_law 0 = .ok (.new 7, 3) := by decide +kernel
theorem dL_law_3 : decode cL_law 3 = .ok (.dup, 1) := by decide +kernel
theorem dL_law_4 : decode cL_law 4 = .ok (.invokespecial 9, 3) := by decide +kernel
theorem dL_law_7 : decode cL_law 7 = .ok (.astore_n 1, 1) := by decide +kernel
theorem dL_law_8 : decode cL_law 8 = .ok (.new 10, 3) := by decide +kernel
theorem dL_law_11 : decode cL_law 11 = .ok (.dup, 1) := by decide +kernel
theorem dL_law_12 : decode cL_law 12 = .ok (.invokespecial 12, 3) := by decide +kernel
theorem dL_law_15 : decode cL_law 15 = .ok (.astore_n 2, 1) := by decide +kernel
theorem dL_law_16 : decode cL_law 16 = .ok (.iconst 0, 1) := by decide +kernel
theorem dL_law_17 : decode cL_law 17 = .ok (.istore_n 3, 1) := by decide +kernel
theorem dL_law_18 : decode cL_law 18 = .ok (.iload_n 3, 1) := by decide +kernel
theorem dL_law_19 : decode cL_law 19 = .ok (.aload_n 0, 1) := by decide +kernel
theorem dL_law_20 : decode cL_law 20 = .ok (.arraylength, 1) := by decide +kernel
theorem dL_law_21 : decode cL_law 21 = .ok (.iconst 4, 1) := by decide +kernel
theorem dL_law_22 : decode cL_law 22 = .ok (.isub, 1) := by decide +kernel
theorem dL_law_23 : decode cL_law 23 = .ok (.if_icmp .gt 702, 3) := by decide +kernel
theorem dL_law_26 : decode cL_law 26 = .ok (.aload_n 0, 1) := by decide +kernel
theorem dL_law_27 : decode cL_law 27 = .ok (.iload_n 3, 1) := by decide +kernel
theorem dL_law_28 : decode cL_law 28 = .ok (.iaload, 1) := by decide +kernel
theorem dL_law_29 : decode cL_law 29 = .ok (.bipush 31, 2) := by decide +kernel
theorem dL_law_31 : decode cL_law 31 = .ok (.iand, 1) := by decide +kernel
theorem dL_law_32 : decode cL_law 32 = .ok (.tableswitch 687 0 22 #[108, 171, 194, 217, 240, 263, 296, 329, 362, 395, 418, 431, 444, 477, 500, 513, 536, 559, 582, 595, 618, 651, 674], 108) := by decide +kernel
theorem dL_law_140 : decode cL_law 140 = .ok (.aload_n 1, 1) := by decide +kernel
theorem dL_law_141 : decode cL_law 141 = .ok (.aload_n 0, 1) := by decide +kernel
theorem dL_law_142 : decode cL_law 142 = .ok (.iload_n 3, 1) := by decide +kernel
theorem dL_law_143 : decode cL_law 143 = .ok (.iconst 1, 1) := by decide +kernel
theorem dL_law_144 : decode cL_law 144 = .ok (.iadd, 1) := by decide +kernel
theorem dL_law_145 : decode cL_law 145 = .ok (.iaload, 1) := by decide +kernel
theorem dL_law_146 : decode cL_law 146 = .ok (.aload_n 0, 1) := by decide +kernel
theorem dL_law_147 : decode cL_law 147 = .ok (.iload_n 3, 1) := by decide +kernel
theorem dL_law_148 : decode cL_law 148 = .ok (.iconst 2, 1) := by decide +kernel
theorem dL_law_149 : decode cL_law 149 = .ok (.iadd, 1) := by decide +kernel
theorem dL_law_150 : decode cL_law 150 = .ok (.iaload, 1) := by decide +kernel
theorem dL_law_151 : decode cL_law 151 = .ok (.i2l, 1) := by decide +kernel
theorem dL_law_152 : decode cL_law 152 = .ok (.bipush 32, 2) := by decide +kernel
theorem dL_law_154 : decode cL_law 154 = .ok (.lshl, 1) := by decide +kernel
theorem dL_law_155 : decode cL_law 155 = .ok (.aload_n 0, 1) := by decide +kernel
theorem dL_law_156 : decode cL_law 156 = .ok (.iload_n 3, 1) := by decide +kernel
theorem dL_law_157 : decode cL_law 157 = .ok (.iconst 3, 1) := by decide +kernel
theorem dL_law_158 : decode cL_law 158 = .ok (.iadd, 1) := by decide +kernel
theorem dL_law_159 : decode cL_law 159 = .ok (.iaload, 1) := by decide +kernel
theorem dL_law_160 : decode cL_law 160 = .ok (.i2l, 1) := by decide +kernel
theorem dL_law_161 : decode cL_law 161 = .ok (.ldc2_w 13, 3) := by decide +kernel
theorem dL_law_164 : decode cL_law 164 = .ok (.land, 1) := by decide +kernel
theorem dL_law_165 : decode cL_law 165 = .ok (.lor, 1) := by decide +kernel
theorem dL_law_166 : decode cL_law 166 = .ok (.invokevirtual 15, 3) := by decide +kernel
theorem dL_law_169 : decode cL_law 169 = .ok (.pop, 1) := by decide +kernel
theorem dL_law_170 : decode cL_law 170 = .ok (.aload_n 2, 1) := by decide +kernel
theorem dL_law_171 : decode cL_law 171 = .ok (.aload_n 0, 1) := by decide +kernel
theorem dL_law_172 : decode cL_law 172 = .ok (.iload_n 3, 1) := by decide +kernel
theorem dL_law_173 : decode cL_law 173 = .ok (.iconst 1, 1) := by decide +kernel
theorem dL_law_174 : decode cL_law 174 = .ok (.iadd, 1) := by decide +kernel
theorem dL_law_175 : decode cL_law 175 = .ok (.iaload, 1) := by decide +kernel
theorem dL_law_176 : decode cL_law 176 = .ok (.aload_n 0, 1) := by decide +kernel
theorem dL_law_177 : decode cL_law 177 = .ok (.iload_n 3, 1) := by decide +kernel
theorem dL_law_178 : decode cL_law 178 = .ok (.iconst 2, 1) := by decide +kernel
theorem dL_law_179 : decode cL_law 179 = .ok (.iadd, 1) := by decide +kernel
theorem dL_law_180 : decode cL_law 180 = .ok (.iaload, 1) := by decide +kernel
theorem dL_law_181 : decode cL_law 181 = .ok (.i2l, 1) := by decide +kernel
theorem dL_law_182 : decode cL_law 182 = .ok (.bipush 32, 2) := by decide +kernel
theorem dL_law_184 : decode cL_law 184 = .ok (.lshl, 1) := by decide +kernel
theorem dL_law_185 : decode cL_law 185 = .ok (.aload_n 0, 1) := by decide +kernel
theorem dL_law_186 : decode cL_law 186 = .ok (.iload_n 3, 1) := by decide +kernel
theorem dL_law_187 : decode cL_law 187 = .ok (.iconst 3, 1) := by decide +kernel
theorem dL_law_188 : decode cL_law 188 = .ok (.iadd, 1) := by decide +kernel
theorem dL_law_189 : decode cL_law 189 = .ok (.iaload, 1) := by decide +kernel
theorem dL_law_190 : decode cL_law 190 = .ok (.i2l, 1) := by decide +kernel
theorem dL_law_191 : decode cL_law 191 = .ok (.ldc2_w 13, 3) := by decide +kernel
theorem dL_law_194 : decode cL_law 194 = .ok (.land, 1) := by decide +kernel
theorem dL_law_195 : decode cL_law 195 = .ok (.lor, 1) := by decide +kernel
theorem dL_law_196 : decode cL_law 196 = .ok (.invokevirtual 19, 3) := by decide +kernel
theorem dL_law_199 : decode cL_law 199 = .ok (.pop, 1) := by decide +kernel
theorem dL_law_200 : decode cL_law 200 = .ok (.goto 519, 3) := by decide +kernel
theorem dL_law_203 : decode cL_law 203 = .ok (.aload_n 1, 1) := by decide +kernel
theorem dL_law_204 : decode cL_law 204 = .ok (.aload_n 0, 1) := by decide +kernel
theorem dL_law_205 : decode cL_law 205 = .ok (.iload_n 3, 1) := by decide +kernel
theorem dL_law_206 : decode cL_law 206 = .ok (.iconst 1, 1) := by decide +kernel
theorem dL_law_207 : decode cL_law 207 = .ok (.iadd, 1) := by decide +kernel
theorem dL_law_208 : decode cL_law 208 = .ok (.iaload, 1) := by decide +kernel
theorem dL_law_209 : decode cL_law 209 = .ok (.invokevirtual 20, 3) := by decide +kernel
theorem dL_law_212 : decode cL_law 212 = .ok (.pop, 1) := by decide +kernel
theorem dL_law_213 : decode cL_law 213 = .ok (.aload_n 2, 1) := by decide +kernel
theorem dL_law_214 : decode cL_law 214 = .ok (.aload_n 0, 1) := by decide +kernel
theorem dL_law_215 : decode cL_law 215 = .ok (.iload_n 3, 1) := by decide +kernel
theorem dL_law_216 : decode cL_law 216 = .ok (.iconst 1, 1) := by decide +kernel
theorem dL_law_217 : decode cL_law 217 = .ok (.iadd, 1) := by decide +kernel
theorem dL_law_218 : decode cL_law 218 = .ok (.iaload, 1) := by decide +kernel
theorem dL_law_219 : decode cL_law 219 = .ok (.invokevirtual 24, 3) := by decide +kernel
theorem dL_law_222 : decode cL_law 222 = .ok (.pop, 1) := by decide +kernel
theorem dL_law_223 : decode cL_law 223 = .ok (.goto 496, 3) := by decide +kernel
theorem dL_law_226 : decode cL_law 226 = .ok (.aload_n 1, 1) := by decide +kernel
theorem dL_law_227 : decode cL_law 227 = .ok (.aload_n 0, 1) := by decide +kernel
theorem dL_law_228 : decode cL_law 228 = .ok (.iload_n 3, 1) := by decide +kernel
theorem dL_law_229 : decode cL_law 229 = .ok (.iconst 1, 1) := by decide +kernel
theorem dL_law_230 : decode cL_law 230 = .ok (.iadd, 1) := by decide +kernel
theorem dL_law_231 : decode cL_law 231 = .ok (.iaload, 1) := by decide +kernel
theorem dL_law_232 : decode cL_law 232 = .ok (.invokevirtual 25, 3) := by decide +kernel
theorem dL_law_235 : decode cL_law 235 = .ok (.pop, 1) := by decide +kernel
theorem dL_law_236 : decode cL_law 236 = .ok (.aload_n 2, 1) := by decide +kernel
theorem dL_law_237 : decode cL_law 237 = .ok (.aload_n 0, 1) := by decide +kernel
theorem dL_law_238 : decode cL_law 238 = .ok (.iload_n 3, 1) := by decide +kernel
theorem dL_law_239 : decode cL_law 239 = .ok (.iconst 1, 1) := by decide +kernel
theorem dL_law_240 : decode cL_law 240 = .ok (.iadd, 1) := by decide +kernel
theorem dL_law_241 : decode cL_law 241 = .ok (.iaload, 1) := by decide +kernel
theorem dL_law_242 : decode cL_law 242 = .ok (.invokevirtual 28, 3) := by decide +kernel
theorem dL_law_245 : decode cL_law 245 = .ok (.pop, 1) := by decide +kernel
theorem dL_law_246 : decode cL_law 246 = .ok (.goto 473, 3) := by decide +kernel
theorem dL_law_249 : decode cL_law 249 = .ok (.aload_n 1, 1) := by decide +kernel
theorem dL_law_250 : decode cL_law 250 = .ok (.aload_n 0, 1) := by decide +kernel
theorem dL_law_251 : decode cL_law 251 = .ok (.iload_n 3, 1) := by decide +kernel
theorem dL_law_252 : decode cL_law 252 = .ok (.iconst 1, 1) := by decide +kernel
theorem dL_law_253 : decode cL_law 253 = .ok (.iadd, 1) := by decide +kernel
theorem dL_law_254 : decode cL_law 254 = .ok (.iaload, 1) := by decide +kernel
theorem dL_law_255 : decode cL_law 255 = .ok (.invokevirtual 29, 3) := by decide +kernel
theorem dL_law_258 : decode cL_law 258 = .ok (.pop, 1) := by decide +kernel
theorem dL_law_259 : decode cL_law 259 = .ok (.aload_n 2, 1) := by decide +kernel
theorem dL_law_260 : decode cL_law 260 = .ok (.aload_n 0, 1) := by decide +kernel
theorem dL_law_261 : decode cL_law 261 = .ok (.iload_n 3, 1) := by decide +kernel
theorem dL_law_262 : decode cL_law 262 = .ok (.iconst 1, 1) := by decide +kernel
theorem dL_law_263 : decode cL_law 263 = .ok (.iadd, 1) := by decide +kernel
theorem dL_law_264 : decode cL_law 264 = .ok (.iaload, 1) := by decide +kernel
theorem dL_law_265 : decode cL_law 265 = .ok (.invokevirtual 32, 3) := by decide +kernel
theorem dL_law_268 : decode cL_law 268 = .ok (.pop, 1) := by decide +kernel
theorem dL_law_269 : decode cL_law 269 = .ok (.goto 450, 3) := by decide +kernel
theorem dL_law_272 : decode cL_law 272 = .ok (.aload_n 1, 1) := by decide +kernel
theorem dL_law_273 : decode cL_law 273 = .ok (.aload_n 0, 1) := by decide +kernel
theorem dL_law_274 : decode cL_law 274 = .ok (.iload_n 3, 1) := by decide +kernel
theorem dL_law_275 : decode cL_law 275 = .ok (.iconst 1, 1) := by decide +kernel
theorem dL_law_276 : decode cL_law 276 = .ok (.iadd, 1) := by decide +kernel
theorem dL_law_277 : decode cL_law 277 = .ok (.iaload, 1) := by decide +kernel
theorem dL_law_278 : decode cL_law 278 = .ok (.invokevirtual 33, 3) := by decide +kernel
theorem dL_law_281 : decode cL_law 281 = .ok (.pop, 1) := by decide +kernel
theorem dL_law_282 : decode cL_law 282 = .ok (.aload_n 2, 1) := by decide +kernel
theorem dL_law_283 : decode cL_law 283 = .ok (.aload_n 0, 1) := by decide +kernel
theorem dL_law_284 : decode cL_law 284 = .ok (.iload_n 3, 1) := by decide +kernel
theorem dL_law_285 : decode cL_law 285 = .ok (.iconst 1, 1) := by decide +kernel
theorem dL_law_286 : decode cL_law 286 = .ok (.iadd, 1) := by decide +kernel
theorem dL_law_287 : decode cL_law 287 = .ok (.iaload, 1) := by decide +kernel
theorem dL_law_288 : decode cL_law 288 = .ok (.invokevirtual 36, 3) := by decide +kernel
theorem dL_law_291 : decode cL_law 291 = .ok (.pop, 1) := by decide +kernel
theorem dL_law_292 : decode cL_law 292 = .ok (.goto 427, 3) := by decide +kernel
theorem dL_law_295 : decode cL_law 295 = .ok (.aload_n 1, 1) := by decide +kernel
theorem dL_law_296 : decode cL_law 296 = .ok (.aload_n 0, 1) := by decide +kernel
theorem dL_law_297 : decode cL_law 297 = .ok (.iload_n 3, 1) := by decide +kernel
theorem dL_law_298 : decode cL_law 298 = .ok (.iconst 1, 1) := by decide +kernel
theorem dL_law_299 : decode cL_law 299 = .ok (.iadd, 1) := by decide +kernel
theorem dL_law_300 : decode cL_law 300 = .ok (.iaload, 1) := by decide +kernel
theorem dL_law_301 : decode cL_law 301 = .ok (.aload_n 0, 1) := by decide +kernel
theorem dL_law_302 : decode cL_law 302 = .ok (.iload_n 3, 1) := by decide +kernel
theorem dL_law_303 : decode cL_law 303 = .ok (.iconst 2, 1) := by decide +kernel
theorem dL_law_304 : decode cL_law 304 = .ok (.iadd, 1) := by decide +kernel
theorem dL_law_305 : decode cL_law 305 = .ok (.iaload, 1) := by decide +kernel
theorem dL_law_306 : decode cL_law 306 = .ok (.invokevirtual 37, 3) := by decide +kernel
theorem dL_law_309 : decode cL_law 309 = .ok (.pop, 1) := by decide +kernel
theorem dL_law_310 : decode cL_law 310 = .ok (.aload_n 2, 1) := by decide +kernel
theorem dL_law_311 : decode cL_law 311 = .ok (.aload_n 0, 1) := by decide +kernel
theorem dL_law_312 : decode cL_law 312 = .ok (.iload_n 3, 1) := by decide +kernel
theorem dL_law_313 : decode cL_law 313 = .ok (.iconst 1, 1) := by decide +kernel
theorem dL_law_314 : decode cL_law 314 = .ok (.iadd, 1) := by decide +kernel
theorem dL_law_315 : decode cL_law 315 = .ok (.iaload, 1) := by decide +kernel
theorem dL_law_316 : decode cL_law 316 = .ok (.aload_n 0, 1) := by decide +kernel
theorem dL_law_317 : decode cL_law 317 = .ok (.iload_n 3, 1) := by decide +kernel
theorem dL_law_318 : decode cL_law 318 = .ok (.iconst 2, 1) := by decide +kernel
theorem dL_law_319 : decode cL_law 319 = .ok (.iadd, 1) := by decide +kernel
theorem dL_law_320 : decode cL_law 320 = .ok (.iaload, 1) := by decide +kernel
theorem dL_law_321 : decode cL_law 321 = .ok (.invokevirtual 41, 3) := by decide +kernel
theorem dL_law_324 : decode cL_law 324 = .ok (.pop, 1) := by decide +kernel
theorem dL_law_325 : decode cL_law 325 = .ok (.goto 394, 3) := by decide +kernel
theorem dL_law_328 : decode cL_law 328 = .ok (.aload_n 1, 1) := by decide +kernel
theorem dL_law_329 : decode cL_law 329 = .ok (.aload_n 0, 1) := by decide +kernel
theorem dL_law_330 : decode cL_law 330 = .ok (.iload_n 3, 1) := by decide +kernel
theorem dL_law_331 : decode cL_law 331 = .ok (.iconst 1, 1) := by decide +kernel
theorem dL_law_332 : decode cL_law 332 = .ok (.iadd, 1) := by decide +kernel
theorem dL_law_333 : decode cL_law 333 = .ok (.iaload, 1) := by decide +kernel
theorem dL_law_334 : decode cL_law 334 = .ok (.aload_n 0, 1) := by decide +kernel
theorem dL_law_335 : decode cL_law 335 = .ok (.iload_n 3, 1) := by decide +kernel
theorem dL_law_336 : decode cL_law 336 = .ok (.iconst 2, 1) := by decide +kernel
theorem dL_law_337 : decode cL_law 337 = .ok (.iadd, 1) := by decide +kernel
theorem dL_law_338 : decode cL_law 338 = .ok (.iaload, 1) := by decide +kernel
theorem dL_law_339 : decode cL_law 339 = .ok (.invokevirtual 42, 3) := by decide +kernel
theorem dL_law_342 : decode cL_law 342 = .ok (.pop, 1) := by decide +kernel
theorem dL_law_343 : decode cL_law 343 = .ok (.aload_n 2, 1) := by decide +kernel
theorem dL_law_344 : decode cL_law 344 = .ok (.aload_n 0, 1) := by decide +kernel
theorem dL_law_345 : decode cL_law 345 = .ok (.iload_n 3, 1) := by decide +kernel
theorem dL_law_346 : decode cL_law 346 = .ok (.iconst 1, 1) := by decide +kernel
theorem dL_law_347 : decode cL_law 347 = .ok (.iadd, 1) := by decide +kernel
theorem dL_law_348 : decode cL_law 348 = .ok (.iaload, 1) := by decide +kernel
theorem dL_law_349 : decode cL_law 349 = .ok (.aload_n 0, 1) := by decide +kernel
theorem dL_law_350 : decode cL_law 350 = .ok (.iload_n 3, 1) := by decide +kernel
theorem dL_law_351 : decode cL_law 351 = .ok (.iconst 2, 1) := by decide +kernel
theorem dL_law_352 : decode cL_law 352 = .ok (.iadd, 1) := by decide +kernel
theorem dL_law_353 : decode cL_law 353 = .ok (.iaload, 1) := by decide +kernel
theorem dL_law_354 : decode cL_law 354 = .ok (.invokevirtual 45, 3) := by decide +kernel
theorem dL_law_357 : decode cL_law 357 = .ok (.pop, 1) := by decide +kernel
theorem dL_law_358 : decode cL_law 358 = .ok (.goto 361, 3) := by decide +kernel
theorem dL_law_361 : decode cL_law 361 = .ok (.aload_n 1, 1) := by decide +kernel
theorem dL_law_362 : decode cL_law 362 = .ok (.aload_n 0, 1) := by decide +kernel
theorem dL_law_363 : decode cL_law 363 = .ok (.iload_n 3, 1) := by decide +kernel
theorem dL_law_364 : decode cL_law 364 = .ok (.iconst 1, 1) := by decide +kernel
theorem dL_law_365 : decode cL_law 365 = .ok (.iadd, 1) := by decide +kernel
theorem dL_law_366 : decode cL_law 366 = .ok (.iaload, 1) := by decide +kernel
theorem dL_law_367 : decode cL_law 367 = .ok (.aload_n 0, 1) := by decide +kernel
theorem dL_law_368 : decode cL_law 368 = .ok (.iload_n 3, 1) := by decide +kernel
theorem dL_law_369 : decode cL_law 369 = .ok (.iconst 2, 1) := by decide +kernel
theorem dL_law_370 : decode cL_law 370 = .ok (.iadd, 1) := by decide +kernel
theorem dL_law_371 : decode cL_law 371 = .ok (.iaload, 1) := by decide +kernel
theorem dL_law_372 : decode cL_law 372 = .ok (.invokevirtual 46, 3) := by decide +kernel
theorem dL_law_375 : decode cL_law 375 = .ok (.pop, 1) := by decide +kernel
theorem dL_law_376 : decode cL_law 376 = .ok (.aload_n 2, 1) := by decide +kernel
theorem dL_law_377 : decode cL_law 377 = .ok (.aload_n 0, 1) := by decide +kernel
theorem dL_law_378 : decode cL_law 378 = .ok (.iload_n 3, 1) := by decide +kernel
theorem dL_law_379 : decode cL_law 379 = .ok (.iconst 1, 1) := by decide +kernel
theorem dL_law_380 : decode cL_law 380 = .ok (.iadd, 1) := by decide +kernel
theorem dL_law_381 : decode cL_law 381 = .ok (.iaload, 1) := by decide +kernel
theorem dL_law_382 : decode cL_law 382 = .ok (.aload_n 0, 1) := by decide +kernel
theorem dL_law_383 : decode cL_law 383 = .ok (.iload_n 3, 1) := by decide +kernel
theorem dL_law_384 : decode cL_law 384 = .ok (.iconst 2, 1) := by decide +kernel
theorem dL_law_385 : decode cL_law 385 = .ok (.iadd, 1) := by decide +kernel
theorem dL_law_386 : decode cL_law 386 = .ok (.iaload, 1) := by decide +kernel
theorem dL_law_387 : decode cL_law 387 = .ok (.invokevirtual 49, 3) := by decide +kernel
theorem dL_law_390 : decode cL_law 390 = .ok (.pop, 1) := by decide +kernel
theorem dL_law_391 : decode cL_law 391 = .ok (.goto 328, 3) := by decide +kernel
theorem dL_law_394 : decode cL_law 394 = .ok (.aload_n 1, 1) := by decide +kernel
theorem dL_law_395 : decode cL_law 395 = .ok (.aload_n 0, 1) := by decide +kernel
theorem dL_law_396 : decode cL_law 396 = .ok (.iload_n 3, 1) := by decide +kernel
theorem dL_law_397 : decode cL_law 397 = .ok (.iconst 1, 1) := by decide +kernel
theorem dL_law_398 : decode cL_law 398 = .ok (.iadd, 1) := by decide +kernel
theorem dL_law_399 : decode cL_law 399 = .ok (.iaload, 1) := by decide +kernel
theorem dL_law_400 : decode cL_law 400 = .ok (.aload_n 0, 1) := by decide +kernel
theorem dL_law_401 : decode cL_law 401 = .ok (.iload_n 3, 1) := by decide +kernel
theorem dL_law_402 : decode cL_law 402 = .ok (.iconst 2, 1) := by decide +kernel
theorem dL_law_403 : decode cL_law 403 = .ok (.iadd, 1) := by decide +kernel
theorem dL_law_404 : decode cL_law 404 = .ok (.iaload, 1) := by decide +kernel
theorem dL_law_405 : decode cL_law 405 = .ok (.invokevirtual 50, 3) := by decide +kernel
theorem dL_law_408 : decode cL_law 408 = .ok (.pop, 1) := by decide +kernel
theorem dL_law_409 : decode cL_law 409 = .ok (.aload_n 2, 1) := by decide +kernel
theorem dL_law_410 : decode cL_law 410 = .ok (.aload_n 0, 1) := by decide +kernel
theorem dL_law_411 : decode cL_law 411 = .ok (.iload_n 3, 1) := by decide +kernel
theorem dL_law_412 : decode cL_law 412 = .ok (.iconst 1, 1) := by decide +kernel
theorem dL_law_413 : decode cL_law 413 = .ok (.iadd, 1) := by decide +kernel
theorem dL_law_414 : decode cL_law 414 = .ok (.iaload, 1) := by decide +kernel
theorem dL_law_415 : decode cL_law 415 = .ok (.aload_n 0, 1) := by decide +kernel
theorem dL_law_416 : decode cL_law 416 = .ok (.iload_n 3, 1) := by decide +kernel
theorem dL_law_417 : decode cL_law 417 = .ok (.iconst 2, 1) := by decide +kernel
theorem dL_law_418 : decode cL_law 418 = .ok (.iadd, 1) := by decide +kernel
theorem dL_law_419 : decode cL_law 419 = .ok (.iaload, 1) := by decide +kernel
theorem dL_law_420 : decode cL_law 420 = .ok (.invokevirtual 53, 3) := by decide +kernel
theorem dL_law_423 : decode cL_law 423 = .ok (.pop, 1) := by decide +kernel
theorem dL_law_424 : decode cL_law 424 = .ok (.goto 295, 3) := by decide +kernel
theorem dL_law_427 : decode cL_law 427 = .ok (.aload_n 1, 1) := by decide +kernel
theorem dL_law_428 : decode cL_law 428 = .ok (.aload_n 0, 1) := by decide +kernel
theorem dL_law_429 : decode cL_law 429 = .ok (.iload_n 3, 1) := by decide +kernel
theorem dL_law_430 : decode cL_law 430 = .ok (.iconst 1, 1) := by decide +kernel
theorem dL_law_431 : decode cL_law 431 = .ok (.iadd, 1) := by decide +kernel
theorem dL_law_432 : decode cL_law 432 = .ok (.iaload, 1) := by decide +kernel
theorem dL_law_433 : decode cL_law 433 = .ok (.invokevirtual 54, 3) := by decide +kernel
theorem dL_law_436 : decode cL_law 436 = .ok (.pop, 1) := by decide +kernel
theorem dL_law_437 : decode cL_law 437 = .ok (.aload_n 2, 1) := by decide +kernel
theorem dL_law_438 : decode cL_law 438 = .ok (.aload_n 0, 1) := by decide +kernel
theorem dL_law_439 : decode cL_law 439 = .ok (.iload_n 3, 1) := by decide +kernel
theorem dL_law_440 : decode cL_law 440 = .ok (.iconst 1, 1) := by decide +kernel
theorem dL_law_441 : decode cL_law 441 = .ok (.iadd, 1) := by decide +kernel
theorem dL_law_442 : decode cL_law 442 = .ok (.iaload, 1) := by decide +kernel
theorem dL_law_443 : decode cL_law 443 = .ok (.invokevirtual 57, 3) := by decide +kernel
theorem dL_law_446 : decode cL_law 446 = .ok (.pop, 1) := by decide +kernel
theorem dL_law_447 : decode cL_law 447 = .ok (.goto 272, 3) := by decide +kernel
theorem dL_law_450 : decode cL_law 450 = .ok (.aload_n 1, 1) := by decide +kernel
theorem dL_law_451 : decode cL_law 451 = .ok (.invokevirtual 58, 3) := by decide +kernel
theorem dL_law_454 : decode cL_law 454 = .ok (.pop, 1) := by decide +kernel
theorem dL_law_455 : decode cL_law 455 = .ok (.aload_n 2, 1) := by decide +kernel
theorem dL_law_456 : decode cL_law 456 = .ok (.invokevirtual 62, 3) := by decide +kernel
theorem dL_law_459 : decode cL_law 459 = .ok (.pop, 1) := by decide +kernel
theorem dL_law_460 : decode cL_law 460 = .ok (.goto 259, 3) := by decide +kernel
theorem dL_law_463 : decode cL_law 463 = .ok (.aload_n 1, 1) := by decide +kernel
theorem dL_law_464 : decode cL_law 464 = .ok (.invokevirtual 63, 3) := by decide +kernel
theorem dL_law_467 : decode cL_law 467 = .ok (.pop, 1) := by decide +kernel
theorem dL_law_468 : decode cL_law 468 = .ok (.aload_n 2, 1) := by decide +kernel
theorem dL_law_469 : decode cL_law 469 = .ok (.invokevirtual 66, 3) := by decide +kernel
theorem dL_law_472 : decode cL_law 472 = .ok (.pop, 1) := by decide +kernel
theorem dL_law_473 : decode cL_law 473 = .ok (.goto 246, 3) := by decide +kernel
theorem dL_law_476 : decode cL_law 476 = .ok (.aload_n 1, 1) := by decide +kernel
theorem dL_law_477 : decode cL_law 477 = .ok (.aload_n 0, 1) := by decide +kernel
theorem dL_law_478 : decode cL_law 478 = .ok (.iload_n 3, 1) := by decide +kernel
theorem dL_law_479 : decode cL_law 479 = .ok (.iconst 1, 1) := by decide +kernel
theorem dL_law_480 : decode cL_law 480 = .ok (.iadd, 1) := by decide +kernel
theorem dL_law_481 : decode cL_law 481 = .ok (.iaload, 1) := by decide +kernel
theorem dL_law_482 : decode cL_law 482 = .ok (.aload_n 0, 1) := by decide +kernel
theorem dL_law_483 : decode cL_law 483 = .ok (.iload_n 3, 1) := by decide +kernel
theorem dL_law_484 : decode cL_law 484 = .ok (.iconst 2, 1) := by decide +kernel
theorem dL_law_485 : decode cL_law 485 = .ok (.iadd, 1) := by decide +kernel
theorem dL_law_486 : decode cL_law 486 = .ok (.iaload, 1) := by decide +kernel
theorem dL_law_487 : decode cL_law 487 = .ok (.invokevirtual 67, 3) := by decide +kernel
theorem dL_law_490 : decode cL_law 490 = .ok (.pop, 1) := by decide +kernel
theorem dL_law_491 : decode cL_law 491 = .ok (.aload_n 2, 1) := by decide +kernel
theorem dL_law_492 : decode cL_law 492 = .ok (.aload_n 0, 1) := by decide +kernel
theorem dL_law_493 : decode cL_law 493 = .ok (.iload_n 3, 1) := by decide +kernel
theorem dL_law_494 : decode cL_law 494 = .ok (.iconst 1, 1) := by decide +kernel
theorem dL_law_495 : decode cL_law 495 = .ok (.iadd, 1) := by decide +kernel
theorem dL_law_496 : decode cL_law 496 = .ok (.iaload, 1) := by decide +kernel
theorem dL_law_497 : decode cL_law 497 = .ok (.aload_n 0, 1) := by decide +kernel
theorem dL_law_498 : decode cL_law 498 = .ok (.iload_n 3, 1) := by decide +kernel
theorem dL_law_499 : decode cL_law 499 = .ok (.iconst 2, 1) := by decide +kernel
theorem dL_law_500 : decode cL_law 500 = .ok (.iadd, 1) := by decide +kernel
theorem dL_law_501 : decode cL_law 501 = .ok (.iaload, 1) := by decide +kernel
theorem dL_law_502 : decode cL_law 502 = .ok (.invokevirtual 70, 3) := by decide +kernel
theorem dL_law_505 : decode cL_law 505 = .ok (.pop, 1) := by decide +kernel
theorem dL_law_506 : decode cL_law 506 = .ok (.goto 213, 3) := by decide +kernel
theorem dL_law_509 : decode cL_law 509 = .ok (.aload_n 1, 1) := by decide +kernel
theorem dL_law_510 : decode cL_law 510 = .ok (.aload_n 0, 1) := by decide +kernel
theorem dL_law_511 : decode cL_law 511 = .ok (.iload_n 3, 1) := by decide +kernel
theorem dL_law_512 : decode cL_law 512 = .ok (.iconst 1, 1) := by decide +kernel
theorem dL_law_513 : decode cL_law 513 = .ok (.iadd, 1) := by decide +kernel
theorem dL_law_514 : decode cL_law 514 = .ok (.iaload, 1) := by decide +kernel
theorem dL_law_515 : decode cL_law 515 = .ok (.invokevirtual 71, 3) := by decide +kernel
theorem dL_law_518 : decode cL_law 518 = .ok (.pop, 1) := by decide +kernel
theorem dL_law_519 : decode cL_law 519 = .ok (.aload_n 2, 1) := by decide +kernel
theorem dL_law_520 : decode cL_law 520 = .ok (.aload_n 0, 1) := by decide +kernel
theorem dL_law_521 : decode cL_law 521 = .ok (.iload_n 3, 1) := by decide +kernel
theorem dL_law_522 : decode cL_law 522 = .ok (.iconst 1, 1) := by decide +kernel
theorem dL_law_523 : decode cL_law 523 = .ok (.iadd, 1) := by decide +kernel
theorem dL_law_524 : decode cL_law 524 = .ok (.iaload, 1) := by decide +kernel
theorem dL_law_525 : decode cL_law 525 = .ok (.invokevirtual 74, 3) := by decide +kernel
theorem dL_law_528 : decode cL_law 528 = .ok (.pop, 1) := by decide +kernel
theorem dL_law_529 : decode cL_law 529 = .ok (.goto 190, 3) := by decide +kernel
theorem dL_law_532 : decode cL_law 532 = .ok (.aload_n 1, 1) := by decide +kernel
theorem dL_law_533 : decode cL_law 533 = .ok (.invokevirtual 75, 3) := by decide +kernel
theorem dL_law_536 : decode cL_law 536 = .ok (.pop, 1) := by decide +kernel
theorem dL_law_537 : decode cL_law 537 = .ok (.aload_n 2, 1) := by decide +kernel
theorem dL_law_538 : decode cL_law 538 = .ok (.invokevirtual 78, 3) := by decide +kernel
theorem dL_law_541 : decode cL_law 541 = .ok (.pop, 1) := by decide +kernel
theorem dL_law_542 : decode cL_law 542 = .ok (.goto 177, 3) := by decide +kernel
theorem dL_law_545 : decode cL_law 545 = .ok (.aload_n 1, 1) := by decide +kernel
theorem dL_law_546 : decode cL_law 546 = .ok (.aload_n 0, 1) := by decide +kernel
theorem dL_law_547 : decode cL_law 547 = .ok (.iload_n 3, 1) := by decide +kernel
theorem dL_law_548 : decode cL_law 548 = .ok (.iconst 1, 1) := by decide +kernel
theorem dL_law_549 : decode cL_law 549 = .ok (.iadd, 1) := by decide +kernel
theorem dL_law_550 : decode cL_law 550 = .ok (.iaload, 1) := by decide +kernel
theorem dL_law_551 : decode cL_law 551 = .ok (.invokevirtual 79, 3) := by decide +kernel
theorem dL_law_554 : decode cL_law 554 = .ok (.pop, 1) := by decide +kernel
theorem dL_law_555 : decode cL_law 555 = .ok (.aload_n 2, 1) := by decide +kernel
theorem dL_law_556 : decode cL_law 556 = .ok (.aload_n 0, 1) := by decide +kernel
theorem dL_law_557 : decode cL_law 557 = .ok (.iload_n 3, 1) := by decide +kernel
theorem dL_law_558 : decode cL_law 558 = .ok (.iconst 1, 1) := by decide +kernel
theorem dL_law_559 : decode cL_law 559 = .ok (.iadd, 1) := by decide +kernel
theorem dL_law_560 : decode cL_law 560 = .ok (.iaload, 1) := by decide +kernel
theorem dL_law_561 : decode cL_law 561 = .ok (.invokevirtual 82, 3) := by decide +kernel
theorem dL_law_564 : decode cL_law 564 = .ok (.pop, 1) := by decide +kernel
theorem dL_law_565 : decode cL_law 565 = .ok (.goto 154, 3) := by decide +kernel
theorem dL_law_568 : decode cL_law 568 = .ok (.aload_n 1, 1) := by decide +kernel
theorem dL_law_569 : decode cL_law 569 = .ok (.aload_n 0, 1) := by decide +kernel
theorem dL_law_570 : decode cL_law 570 = .ok (.iload_n 3, 1) := by decide +kernel
theorem dL_law_571 : decode cL_law 571 = .ok (.iconst 1, 1) := by decide +kernel
theorem dL_law_572 : decode cL_law 572 = .ok (.iadd, 1) := by decide +kernel
theorem dL_law_573 : decode cL_law 573 = .ok (.iaload, 1) := by decide +kernel
theorem dL_law_574 : decode cL_law 574 = .ok (.invokevirtual 83, 3) := by decide +kernel
theorem dL_law_577 : decode cL_law 577 = .ok (.pop, 1) := by decide +kernel
theorem dL_law_578 : decode cL_law 578 = .ok (.aload_n 2, 1) := by decide +kernel
theorem dL_law_579 : decode cL_law 579 = .ok (.aload_n 0, 1) := by decide +kernel
theorem dL_law_580 : decode cL_law 580 = .ok (.iload_n 3, 1) := by decide +kernel
theorem dL_law_581 : decode cL_law 581 = .ok (.iconst 1, 1) := by decide +kernel
theorem dL_law_582 : decode cL_law 582 = .ok (.iadd, 1) := by decide +kernel
theorem dL_law_583 : decode cL_law 583 = .ok (.iaload, 1) := by decide +kernel
theorem dL_law_584 : decode cL_law 584 = .ok (.invokevirtual 86, 3) := by decide +kernel
theorem dL_law_587 : decode cL_law 587 = .ok (.pop, 1) := by decide +kernel
theorem dL_law_588 : decode cL_law 588 = .ok (.goto 131, 3) := by decide +kernel
theorem dL_law_591 : decode cL_law 591 = .ok (.aload_n 1, 1) := by decide +kernel
theorem dL_law_592 : decode cL_law 592 = .ok (.aload_n 0, 1) := by decide +kernel
theorem dL_law_593 : decode cL_law 593 = .ok (.iload_n 3, 1) := by decide +kernel
theorem dL_law_594 : decode cL_law 594 = .ok (.iconst 1, 1) := by decide +kernel
theorem dL_law_595 : decode cL_law 595 = .ok (.iadd, 1) := by decide +kernel
theorem dL_law_596 : decode cL_law 596 = .ok (.iaload, 1) := by decide +kernel
theorem dL_law_597 : decode cL_law 597 = .ok (.invokevirtual 87, 3) := by decide +kernel
theorem dL_law_600 : decode cL_law 600 = .ok (.pop, 1) := by decide +kernel
theorem dL_law_601 : decode cL_law 601 = .ok (.aload_n 2, 1) := by decide +kernel
theorem dL_law_602 : decode cL_law 602 = .ok (.aload_n 0, 1) := by decide +kernel
theorem dL_law_603 : decode cL_law 603 = .ok (.iload_n 3, 1) := by decide +kernel
theorem dL_law_604 : decode cL_law 604 = .ok (.iconst 1, 1) := by decide +kernel
theorem dL_law_605 : decode cL_law 605 = .ok (.iadd, 1) := by decide +kernel
theorem dL_law_606 : decode cL_law 606 = .ok (.iaload, 1) := by decide +kernel
theorem dL_law_607 : decode cL_law 607 = .ok (.invokevirtual 90, 3) := by decide +kernel
theorem dL_law_610 : decode cL_law 610 = .ok (.pop, 1) := by decide +kernel
theorem dL_law_611 : decode cL_law 611 = .ok (.goto 108, 3) := by decide +kernel
theorem dL_law_614 : decode cL_law 614 = .ok (.aload_n 1, 1) := by decide +kernel
theorem dL_law_615 : decode cL_law 615 = .ok (.invokevirtual 91, 3) := by decide +kernel
theorem dL_law_618 : decode cL_law 618 = .ok (.pop, 1) := by decide +kernel
theorem dL_law_619 : decode cL_law 619 = .ok (.aload_n 2, 1) := by decide +kernel
theorem dL_law_620 : decode cL_law 620 = .ok (.invokevirtual 94, 3) := by decide +kernel
theorem dL_law_623 : decode cL_law 623 = .ok (.pop, 1) := by decide +kernel
theorem dL_law_624 : decode cL_law 624 = .ok (.goto 95, 3) := by decide +kernel
theorem dL_law_627 : decode cL_law 627 = .ok (.aload_n 1, 1) := by decide +kernel
theorem dL_law_628 : decode cL_law 628 = .ok (.aload_n 0, 1) := by decide +kernel
theorem dL_law_629 : decode cL_law 629 = .ok (.iload_n 3, 1) := by decide +kernel
theorem dL_law_630 : decode cL_law 630 = .ok (.iconst 1, 1) := by decide +kernel
theorem dL_law_631 : decode cL_law 631 = .ok (.iadd, 1) := by decide +kernel
theorem dL_law_632 : decode cL_law 632 = .ok (.iaload, 1) := by decide +kernel
theorem dL_law_633 : decode cL_law 633 = .ok (.invokevirtual 95, 3) := by decide +kernel
theorem dL_law_636 : decode cL_law 636 = .ok (.pop, 1) := by decide +kernel
theorem dL_law_637 : decode cL_law 637 = .ok (.aload_n 2, 1) := by decide +kernel
theorem dL_law_638 : decode cL_law 638 = .ok (.aload_n 0, 1) := by decide +kernel
theorem dL_law_639 : decode cL_law 639 = .ok (.iload_n 3, 1) := by decide +kernel
theorem dL_law_640 : decode cL_law 640 = .ok (.iconst 1, 1) := by decide +kernel
theorem dL_law_641 : decode cL_law 641 = .ok (.iadd, 1) := by decide +kernel
theorem dL_law_642 : decode cL_law 642 = .ok (.iaload, 1) := by decide +kernel
theorem dL_law_643 : decode cL_law 643 = .ok (.invokevirtual 98, 3) := by decide +kernel
theorem dL_law_646 : decode cL_law 646 = .ok (.pop, 1) := by decide +kernel
theorem dL_law_647 : decode cL_law 647 = .ok (.goto 72, 3) := by decide +kernel
theorem dL_law_650 : decode cL_law 650 = .ok (.aload_n 1, 1) := by decide +kernel
theorem dL_law_651 : decode cL_law 651 = .ok (.aload_n 0, 1) := by decide +kernel
theorem dL_law_652 : decode cL_law 652 = .ok (.iload_n 3, 1) := by decide +kernel
theorem dL_law_653 : decode cL_law 653 = .ok (.iconst 1, 1) := by decide +kernel
theorem dL_law_654 : decode cL_law 654 = .ok (.iadd, 1) := by decide +kernel
theorem dL_law_655 : decode cL_law 655 = .ok (.iaload, 1) := by decide +kernel
theorem dL_law_656 : decode cL_law 656 = .ok (.aload_n 0, 1) := by decide +kernel
theorem dL_law_657 : decode cL_law 657 = .ok (.iload_n 3, 1) := by decide +kernel
theorem dL_law_658 : decode cL_law 658 = .ok (.iconst 2, 1) := by decide +kernel
theorem dL_law_659 : decode cL_law 659 = .ok (.iadd, 1) := by decide +kernel
theorem dL_law_660 : decode cL_law 660 = .ok (.iaload, 1) := by decide +kernel
theorem dL_law_661 : decode cL_law 661 = .ok (.invokevirtual 99, 3) := by decide +kernel
theorem dL_law_664 : decode cL_law 664 = .ok (.pop, 1) := by decide +kernel
theorem dL_law_665 : decode cL_law 665 = .ok (.aload_n 2, 1) := by decide +kernel
theorem dL_law_666 : decode cL_law 666 = .ok (.aload_n 0, 1) := by decide +kernel
theorem dL_law_667 : decode cL_law 667 = .ok (.iload_n 3, 1) := by decide +kernel
theorem dL_law_668 : decode cL_law 668 = .ok (.iconst 1, 1) := by decide +kernel
theorem dL_law_669 : decode cL_law 669 = .ok (.iadd, 1) := by decide +kernel
theorem dL_law_670 : decode cL_law 670 = .ok (.iaload, 1) := by decide +kernel
theorem dL_law_671 : decode cL_law 671 = .ok (.aload_n 0, 1) := by decide +kernel
theorem dL_law_672 : decode cL_law 672 = .ok (.iload_n 3, 1) := by decide +kernel
theorem dL_law_673 : decode cL_law 673 = .ok (.iconst 2, 1) := by decide +kernel
theorem dL_law_674 : decode cL_law 674 = .ok (.iadd, 1) := by decide +kernel
theorem dL_law_675 : decode cL_law 675 = .ok (.iaload, 1) := by decide +kernel
theorem dL_law_676 : decode cL_law 676 = .ok (.invokevirtual 102, 3) := by decide +kernel
theorem dL_law_679 : decode cL_law 679 = .ok (.pop, 1) := by decide +kernel
theorem dL_law_680 : decode cL_law 680 = .ok (.goto 39, 3) := by decide +kernel
theorem dL_law_683 : decode cL_law 683 = .ok (.aload_n 1, 1) := by decide +kernel
theorem dL_law_684 : decode cL_law 684 = .ok (.aload_n 0, 1) := by decide +kernel
theorem dL_law_685 : decode cL_law 685 = .ok (.iload_n 3, 1) := by decide +kernel
theorem dL_law_686 : decode cL_law 686 = .ok (.iconst 1, 1) := by decide +kernel
theorem dL_law_687 : decode cL_law 687 = .ok (.iadd, 1) := by decide +kernel
theorem dL_law_688 : decode cL_law 688 = .ok (.iaload, 1) := by decide +kernel
theorem dL_law_689 : decode cL_law 689 = .ok (.invokevirtual 103, 3) := by decide +kernel
theorem dL_law_692 : decode cL_law 692 = .ok (.pop, 1) := by decide +kernel
theorem dL_law_693 : decode cL_law 693 = .ok (.aload_n 2, 1) := by decide +kernel
theorem dL_law_694 : decode cL_law 694 = .ok (.aload_n 0, 1) := by decide +kernel
theorem dL_law_695 : decode cL_law 695 = .ok (.iload_n 3, 1) := by decide +kernel
theorem dL_law_696 : decode cL_law 696 = .ok (.iconst 1, 1) := by decide +kernel
theorem dL_law_697 : decode cL_law 697 = .ok (.iadd, 1) := by decide +kernel
theorem dL_law_698 : decode cL_law 698 = .ok (.iaload, 1) := by decide +kernel
theorem dL_law_699 : decode cL_law 699 = .ok (.invokevirtual 106, 3) := by decide +kernel
theorem dL_law_702 : decode cL_law 702 = .ok (.pop, 1) := by decide +kernel
theorem dL_law_703 : decode cL_law 703 = .ok (.goto 16, 3) := by decide +kernel
theorem dL_law_706 : decode cL_law 706 = .ok (.aload_n 1, 1) := by decide +kernel
theorem dL_law_707 : decode cL_law 707 = .ok (.invokevirtual 107, 3) := by decide +kernel
theorem dL_law_710 : decode cL_law 710 = .ok (.aload_n 2, 1) := by decide +kernel
theorem dL_law_711 : decode cL_law 711 = .ok (.invokevirtual 110, 3) := by decide +kernel
theorem dL_law_714 : decode cL_law 714 = .ok (.if_icmp .eq 5, 3) := by decide +kernel
theorem dL_law_717 : decode cL_law 717 = .ok (.iconst 0, 1) := by decide +kernel
theorem dL_law_718 : decode cL_law 718 = .ok (.ireturn, 1) := by decide +kernel
theorem dL_law_719 : decode cL_law 719 = .ok (.iinc 3 4, 3) := by decide +kernel
theorem dL_law_722 : decode cL_law 722 = .ok (.goto (-704), 3) := by decide +kernel
theorem dL_law_725 : decode cL_law 725 = .ok (.iconst 1, 1) := by decide +kernel
theorem dL_law_726 : decode cL_law 726 = .ok (.ireturn, 1) := by decide +kernel
